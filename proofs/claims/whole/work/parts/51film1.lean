def f_X6_taken (t_position : Int32) : Option (Int32) :=
  bd1 (f_X4_position t_position) fun y_1 =>
  some (y_1)

abbrev rm_X6_taken : Room := { frames := 1, cells := 0, slots := 0, locals := 20 }

theorem cdS_X6_taken : yX6_taken.cls ≠ "java/lang/invoke/MethodHandle" ∧ yX6_taken.cls ≠ "java/lang/invoke/VarHandle" ∧ (parseMethodDescriptor yX6_taken.desc).map (fun d => d.parameters.length) = some 0 := by decide +kernel

theorem cdV_X6_taken : yX6_taken.cls = RX6 ∧ yX6_taken.cls ≠ "java/lang/invoke/MethodHandle" ∧ yX6_taken.cls ≠ "java/lang/invoke/VarHandle" ∧ (parseMethodDescriptor yX6_taken.desc).map (fun d => d.parameters.length) = some 0 := ⟨rfl, cdS_X6_taken⟩

theorem hi_X6_taken_6 : ∀ w ∈ u_ws RX6 TX6 12, w ∈ wsX6_taken := fun _ h => List.mem_cons_of_mem _ (List.mem_append_left _ (List.mem_append_right _ h))

set_option maxHeartbeats 40000000 in
set_option maxRecDepth 100000 in
theorem c_X6_taken (l : Launch) (D : va_G) (cB cI cJ cQ : ClassId) (N : Nat) (r0 : Nat → Nat) (r1 : Nat → Nat) (r2 : Nat → Nat) (r3 : Nat → Nat) (r4 : Nat → Nat) (r5 : Nat → Nat) (r6 : Nat → Nat) (r7 : Nat → Nat) (r8 : Nat → Nat) (r9 : Nat → Nat) (sz : Nat) (o_hasHeader : Int32) (o_hasPicture : Int32) (o_frameCount : Int32) (t_size : Int32) (t_position : Int32) (t_fault : Int32) (o : Int32) (hm0 : f_X6_taken t_position = some o) : Met l yX6_taken wsX6_taken rm_X6_taken (ctP D cB cI cJ cQ N sz [.ref (r0 0)] (wf [oB (r0 0) 6 [.ref (r1 0), .ref (r2 0), .ref (r3 0), .ref (r4 0), .ref (r5 0), .ref (r6 0), .ref (r7 0), .ref (r8 0), .ref (r9 0), .int o_hasHeader, .int o_hasPicture, .int o_frameCount], oB (r1 0) 4 [.ref (r1 1), .int t_size, .int t_position, .int t_fault]] [])) (ctQi D o (wf [oB (r0 0) 6 [.ref (r1 0), .ref (r2 0), .ref (r3 0), .ref (r4 0), .ref (r5 0), .ref (r6 0), .ref (r7 0), .ref (r8 0), .ref (r9 0), .int o_hasHeader, .int o_hasPicture, .int o_frameCount], oB (r1 0) 4 [.ref (r1 1), .int t_size, .int t_position, .int t_fault]] []) (va_A (wf [oB (r0 0) 6 [.ref (r1 0), .ref (r2 0), .ref (r3 0), .ref (r4 0), .ref (r5 0), .ref (r6 0), .ref (r7 0), .ref (r8 0), .ref (r9 0), .int o_hasHeader, .int o_hasPicture, .int o_frameCount], oB (r1 0) 4 [.ref (r1 1), .int t_size, .int t_position, .int t_fault]] []) sz)) 0 0 (va_A (wf [oB (r0 0) 6 [.ref (r1 0), .ref (r2 0), .ref (r3 0), .ref (r4 0), .ref (r5 0), .ref (r6 0), .ref (r7 0), .ref (r8 0), .ref (r9 0), .int o_hasHeader, .int o_hasPicture, .int o_frameCount], oB (r1 0) 4 [.ref (r1 1), .int t_size, .int t_position, .int t_fault]] []) sz) := by
  refine ct_of (cc := cX6_taken) (maxL := 1) (ret := (some .int)) (own := RX6) (Qp := ctQi D o (wf [oB (r0 0) 6 [.ref (r1 0), .ref (r2 0), .ref (r3 0), .ref (r4 0), .ref (r5 0), .ref (r6 0), .ref (r7 0), .ref (r8 0), .ref (r9 0), .int o_hasHeader, .int o_hasPicture, .int o_frameCount], oB (r1 0) 4 [.ref (r1 1), .int t_size, .int t_position, .int t_fault]] [])) (by decide) rfl rfl (Nat.le_of_ble_eq_true rfl) ?_
  intro p e s m args below meth c A hx hb hr hml hown hts hlk hnm hsz hAe E hP0 hD0 hS0 ls0 hl0
  subst hsz
  have hl0 : lv_has ls0 1 [(0, .ref (r0 0))] := hl0
  obtain ⟨QQ, hQ⟩ : ∃ Q : State → Prop, Q = MQ below (ctQi D o (wf [oB (r0 0) 6 [.ref (r1 0), .ref (r2 0), .ref (r3 0), .ref (r4 0), .ref (r5 0), .ref (r6 0), .ref (r7 0), .ref (r8 0), .ref (r9 0), .int o_hasHeader, .int o_hasPicture, .int o_frameCount], oB (r1 0) 4 [.ref (r1 1), .int t_size, .int t_position, .int t_fault]] []) A) args s 0 0 A := ⟨_, rfl⟩
  rw [← hQ]
  unfold f_X6_taken at hm0
  refine lv_aload_n hx hb dX6_taken_0 rfl (lv_at hl0 0 rfl) ?_
  refine va_get (D := D) (ci := 6) (v := .ref (r1 0)) (C := RX6) (T := TX6) (N := 12) hx hb hts hi_X6_taken_6 hown E.1 hP0 0 rfl rfl 0 (by decide) (hts _ (List.mem_of_getElem? (i := 1) rfl)) (fun _ h9 => h9) rfl dX6_taken_1 ?_
  obtain ⟨y_1, hcl2, hm2⟩ := bd1_some hm0; clear hm0
  have sb3 := ctS.mk (n := 2) (k := 0) (pre := [oB (r0 0) 6 [.ref (r1 0), .ref (r2 0), .ref (r3 0), .ref (r4 0), .ref (r5 0), .ref (r6 0), .ref (r7 0), .ref (r8 0), .ref (r9 0), .int o_hasHeader, .int o_hasPicture, .int o_frameCount], oB (r1 0) 4 [.ref (r1 1), .int t_size, .int t_position, .int t_fault]]) (tl := []) [1] [0] [] [] rfl rfl (by decide +kernel) (by decide +kernel)
  refine ct_calli (r := y_1) E sb3 hP0 hD0 hS0 (va_runV (As := []) (rest := []) ⟨hx, hb, hml, hown, hts⟩ (c_X4_position l D cB cI cJ cQ N r1 s.heap.size t_size t_position t_fault (y_1) hcl2) (cwV 0 hts gX6_taken_X4_position rfl rfl rfl cdV_X4_position ⟨Nat.le_of_ble_eq_true rfl, Nat.le_of_ble_eq_true rfl⟩) (ct_preV (q0 := 1) (ci := 4) E sb3 hP0 hD0 hS0 rfl rfl) rfl rfl hl0.1 rfl (lv_room (Nat.le_of_ble_eq_true rfl)) dX6_taken_4 ⟨Nat.zero_le _, Nat.zero_le _⟩) (fun H4 lc4 hP4 hD4 hS4 => ?_); clear sb3 hcl2
  clear hP0 hD0 hS0
  have hP4 : va_P D vwCl (wf [oB (r0 0) 6 [.ref (r1 0), .ref (r2 0), .ref (r3 0), .ref (r4 0), .ref (r5 0), .ref (r6 0), .ref (r7 0), .ref (r8 0), .ref (r9 0), .int o_hasHeader, .int o_hasPicture, .int o_frameCount], oB (r1 0) 4 [.ref (r1 1), .int t_size, .int t_position, .int t_fault]] []) H4 := hP4
  have hD4 : va_D A (wf [oB (r0 0) 6 [.ref (r1 0), .ref (r2 0), .ref (r3 0), .ref (r4 0), .ref (r5 0), .ref (r6 0), .ref (r7 0), .ref (r8 0), .ref (r9 0), .int o_hasHeader, .int o_hasPicture, .int o_frameCount], oB (r1 0) 4 [.ref (r1 1), .int t_size, .int t_position, .int t_fault]] []) := hD4
  obtain rfl := Option.some.inj hm2
  rw [hQ]
  exact ct_iret hx hb hr hlk hP4 hD4 hS4 rfl dX6_taken_7

def f_X6_frames (o_frameCount : Int32) : Option (Int32) :=
  some (o_frameCount)

abbrev rm_X6_frames : Room := { frames := 0, cells := 0, slots := 0, locals := 0 }

theorem cdS_X6_frames : yX6_frames.cls ≠ "java/lang/invoke/MethodHandle" ∧ yX6_frames.cls ≠ "java/lang/invoke/VarHandle" ∧ (parseMethodDescriptor yX6_frames.desc).map (fun d => d.parameters.length) = some 0 := by decide +kernel

theorem cdV_X6_frames : yX6_frames.cls = RX6 ∧ yX6_frames.cls ≠ "java/lang/invoke/MethodHandle" ∧ yX6_frames.cls ≠ "java/lang/invoke/VarHandle" ∧ (parseMethodDescriptor yX6_frames.desc).map (fun d => d.parameters.length) = some 0 := ⟨rfl, cdS_X6_frames⟩

theorem hi_X6_frames_6 : ∀ w ∈ u_ws RX6 TX6 12, w ∈ wsX6_frames := fun _ h => List.mem_cons_of_mem _ (List.mem_append_right _ h)

set_option maxHeartbeats 40000000 in
set_option maxRecDepth 100000 in
theorem c_X6_frames (l : Launch) (D : va_G) (cB cI cJ cQ : ClassId) (N : Nat) (r0 : Nat → Nat) (r1 : Nat → Nat) (r2 : Nat → Nat) (r3 : Nat → Nat) (r4 : Nat → Nat) (r5 : Nat → Nat) (r6 : Nat → Nat) (r7 : Nat → Nat) (r8 : Nat → Nat) (r9 : Nat → Nat) (sz : Nat) (o_hasHeader : Int32) (o_hasPicture : Int32) (o_frameCount : Int32) (o : Int32) (hm0 : f_X6_frames o_frameCount = some o) : Met l yX6_frames wsX6_frames rm_X6_frames (ctP D cB cI cJ cQ N sz [.ref (r0 0)] (wf [oB (r0 0) 6 [.ref (r1 0), .ref (r2 0), .ref (r3 0), .ref (r4 0), .ref (r5 0), .ref (r6 0), .ref (r7 0), .ref (r8 0), .ref (r9 0), .int o_hasHeader, .int o_hasPicture, .int o_frameCount]] [])) (ctQi D o (wf [oB (r0 0) 6 [.ref (r1 0), .ref (r2 0), .ref (r3 0), .ref (r4 0), .ref (r5 0), .ref (r6 0), .ref (r7 0), .ref (r8 0), .ref (r9 0), .int o_hasHeader, .int o_hasPicture, .int o_frameCount]] []) (va_A (wf [oB (r0 0) 6 [.ref (r1 0), .ref (r2 0), .ref (r3 0), .ref (r4 0), .ref (r5 0), .ref (r6 0), .ref (r7 0), .ref (r8 0), .ref (r9 0), .int o_hasHeader, .int o_hasPicture, .int o_frameCount]] []) sz)) 0 0 (va_A (wf [oB (r0 0) 6 [.ref (r1 0), .ref (r2 0), .ref (r3 0), .ref (r4 0), .ref (r5 0), .ref (r6 0), .ref (r7 0), .ref (r8 0), .ref (r9 0), .int o_hasHeader, .int o_hasPicture, .int o_frameCount]] []) sz) := by
  refine ct_of (cc := cX6_frames) (maxL := 1) (ret := (some .int)) (own := RX6) (Qp := ctQi D o (wf [oB (r0 0) 6 [.ref (r1 0), .ref (r2 0), .ref (r3 0), .ref (r4 0), .ref (r5 0), .ref (r6 0), .ref (r7 0), .ref (r8 0), .ref (r9 0), .int o_hasHeader, .int o_hasPicture, .int o_frameCount]] [])) (by decide) rfl rfl (Nat.le_of_ble_eq_true rfl) ?_
  intro p e s m args below meth c A hx hb hr hml hown hts hlk hnm hsz hAe E hP0 hD0 hS0 ls0 hl0
  subst hsz
  have hl0 : lv_has ls0 1 [(0, .ref (r0 0))] := hl0
  obtain ⟨QQ, hQ⟩ : ∃ Q : State → Prop, Q = MQ below (ctQi D o (wf [oB (r0 0) 6 [.ref (r1 0), .ref (r2 0), .ref (r3 0), .ref (r4 0), .ref (r5 0), .ref (r6 0), .ref (r7 0), .ref (r8 0), .ref (r9 0), .int o_hasHeader, .int o_hasPicture, .int o_frameCount]] []) A) args s 0 0 A := ⟨_, rfl⟩
  rw [← hQ]
  unfold f_X6_frames at hm0
  refine lv_aload_n hx hb dX6_frames_0 rfl (lv_at hl0 0 rfl) ?_
  refine va_get (D := D) (ci := 6) (v := .int o_frameCount) (C := RX6) (T := TX6) (N := 12) hx hb hts hi_X6_frames_6 hown E.1 hP0 0 rfl rfl 11 (by decide) (hts _ (List.mem_of_getElem? (i := 1) rfl)) (fun _ h9 => h9) rfl dX6_frames_1 ?_
  obtain rfl := Option.some.inj hm0
  rw [hQ]
  exact ct_iret hx hb hr hlk hP0 hD0 hS0 rfl dX6_frames_4

def f_X6_sum (o_hasPicture : Int32) (p7_width : Int32) (p7_height : Int32) (p7_samples : Nat → Int32) : Option (Int32) :=
  (if o_hasPicture = (0 : Int32) then
  (some ((0 : Int32)))
  else
  (bd1 (f_X3_total p7_width p7_height p7_samples) fun y_4 =>
  some (y_4)))

abbrev rm_X6_sum : Room := { frames := 1, cells := 0, slots := 0, locals := 22 }

theorem cdS_X6_sum : yX6_sum.cls ≠ "java/lang/invoke/MethodHandle" ∧ yX6_sum.cls ≠ "java/lang/invoke/VarHandle" ∧ (parseMethodDescriptor yX6_sum.desc).map (fun d => d.parameters.length) = some 0 := by decide +kernel

theorem cdV_X6_sum : yX6_sum.cls = RX6 ∧ yX6_sum.cls ≠ "java/lang/invoke/MethodHandle" ∧ yX6_sum.cls ≠ "java/lang/invoke/VarHandle" ∧ (parseMethodDescriptor yX6_sum.desc).map (fun d => d.parameters.length) = some 0 := ⟨rfl, cdS_X6_sum⟩

theorem hi_X6_sum_6 : ∀ w ∈ u_ws RX6 TX6 12, w ∈ wsX6_sum := fun _ h => List.mem_cons_of_mem _ (List.mem_append_left _ (List.mem_append_right _ h))

set_option maxHeartbeats 40000000 in
set_option maxRecDepth 100000 in
theorem c_X6_sum (l : Launch) (D : va_G) (cB cI cJ cQ : ClassId) (N : Nat) (r0 : Nat → Nat) (r1 : Nat → Nat) (r2 : Nat → Nat) (r3 : Nat → Nat) (r4 : Nat → Nat) (r5 : Nat → Nat) (r6 : Nat → Nat) (r7 : Nat → Nat) (r8 : Nat → Nat) (r9 : Nat → Nat) (sz : Nat) (o_hasHeader : Int32) (o_hasPicture : Int32) (o_frameCount : Int32) (p7_width : Int32) (p7_height : Int32) (p7_samples : Nat → Int32) (o : Int32) (hm0 : f_X6_sum o_hasPicture p7_width p7_height p7_samples = some o) : Met l yX6_sum wsX6_sum rm_X6_sum (ctP D cB cI cJ cQ N sz [.ref (r0 0)] (wf [oB (r0 0) 6 [.ref (r1 0), .ref (r2 0), .ref (r3 0), .ref (r4 0), .ref (r5 0), .ref (r6 0), .ref (r7 0), .ref (r8 0), .ref (r9 0), .int o_hasHeader, .int o_hasPicture, .int o_frameCount], oB (r7 0) 3 [.ref (r7 1), .int p7_width, .int p7_height], aI (r7 1) cI 2304 p7_samples] [])) (ctQi D o (wf [oB (r0 0) 6 [.ref (r1 0), .ref (r2 0), .ref (r3 0), .ref (r4 0), .ref (r5 0), .ref (r6 0), .ref (r7 0), .ref (r8 0), .ref (r9 0), .int o_hasHeader, .int o_hasPicture, .int o_frameCount], oB (r7 0) 3 [.ref (r7 1), .int p7_width, .int p7_height], aI (r7 1) cI 2304 p7_samples] []) (va_A (wf [oB (r0 0) 6 [.ref (r1 0), .ref (r2 0), .ref (r3 0), .ref (r4 0), .ref (r5 0), .ref (r6 0), .ref (r7 0), .ref (r8 0), .ref (r9 0), .int o_hasHeader, .int o_hasPicture, .int o_frameCount], oB (r7 0) 3 [.ref (r7 1), .int p7_width, .int p7_height], aI (r7 1) cI 2304 p7_samples] []) sz)) 0 0 (va_A (wf [oB (r0 0) 6 [.ref (r1 0), .ref (r2 0), .ref (r3 0), .ref (r4 0), .ref (r5 0), .ref (r6 0), .ref (r7 0), .ref (r8 0), .ref (r9 0), .int o_hasHeader, .int o_hasPicture, .int o_frameCount], oB (r7 0) 3 [.ref (r7 1), .int p7_width, .int p7_height], aI (r7 1) cI 2304 p7_samples] []) sz) := by
  refine ct_of (cc := cX6_sum) (maxL := 1) (ret := (some .int)) (own := RX6) (Qp := ctQi D o (wf [oB (r0 0) 6 [.ref (r1 0), .ref (r2 0), .ref (r3 0), .ref (r4 0), .ref (r5 0), .ref (r6 0), .ref (r7 0), .ref (r8 0), .ref (r9 0), .int o_hasHeader, .int o_hasPicture, .int o_frameCount], oB (r7 0) 3 [.ref (r7 1), .int p7_width, .int p7_height], aI (r7 1) cI 2304 p7_samples] [])) (by decide) rfl rfl (Nat.le_of_ble_eq_true rfl) ?_
  intro p e s m args below meth c A hx hb hr hml hown hts hlk hnm hsz hAe E hP0 hD0 hS0 ls0 hl0
  subst hsz
  have hl0 : lv_has ls0 1 [(0, .ref (r0 0))] := hl0
  obtain ⟨QQ, hQ⟩ : ∃ Q : State → Prop, Q = MQ below (ctQi D o (wf [oB (r0 0) 6 [.ref (r1 0), .ref (r2 0), .ref (r3 0), .ref (r4 0), .ref (r5 0), .ref (r6 0), .ref (r7 0), .ref (r8 0), .ref (r9 0), .int o_hasHeader, .int o_hasPicture, .int o_frameCount], oB (r7 0) 3 [.ref (r7 1), .int p7_width, .int p7_height], aI (r7 1) cI 2304 p7_samples] []) A) args s 0 0 A := ⟨_, rfl⟩
  rw [← hQ]
  unfold f_X6_sum at hm0
  refine lv_aload_n hx hb dX6_sum_0 rfl (lv_at hl0 0 rfl) ?_
  refine va_get (D := D) (ci := 6) (v := .int o_hasPicture) (C := RX6) (T := TX6) (N := 12) hx hb hts hi_X6_sum_6 hown E.1 hP0 0 rfl rfl 10 (by decide) (hts _ (List.mem_of_getElem? (i := 1) rfl)) (fun _ h9 => h9) rfl dX6_sum_1 ?_
  refine lv_if_eq (tgt := 17) hx hb dX6_sum_4 (by decide) (fun hc1 => ?_) (fun hc1 => ?_)
  · have hm2 := bq_t hm0 hc1; clear hm0
    refine lv_iconst (v := 0) hx hb dX6_sum_17 (by decide) ?_
    obtain rfl := Option.some.inj hm2
    rw [hQ]
    exact ct_iret hx hb hr hlk hP0 hD0 hS0 rfl dX6_sum_18
  · have hm3 := bq_f hm0 hc1; clear hm0
    refine lv_aload_n hx hb dX6_sum_7 rfl (lv_at hl0 0 rfl) ?_
    refine va_get (D := D) (ci := 6) (v := .ref (r7 0)) (C := RX6) (T := TX6) (N := 12) hx hb hts hi_X6_sum_6 hown E.1 hP0 0 rfl rfl 6 (by decide) (hts _ (List.mem_of_getElem? (i := 2) rfl)) (fun _ h9 => h9) rfl dX6_sum_8 ?_
    obtain ⟨y_4, hcl5, hm5⟩ := bd1_some hm3; clear hm3
    have sb6 := ctS.mk (n := 3) (k := 0) (pre := [oB (r0 0) 6 [.ref (r1 0), .ref (r2 0), .ref (r3 0), .ref (r4 0), .ref (r5 0), .ref (r6 0), .ref (r7 0), .ref (r8 0), .ref (r9 0), .int o_hasHeader, .int o_hasPicture, .int o_frameCount], oB (r7 0) 3 [.ref (r7 1), .int p7_width, .int p7_height], aI (r7 1) cI 2304 p7_samples]) (tl := []) [1, 2] [0] [] [] rfl rfl (by decide +kernel) (by decide +kernel)
    refine ct_calli (r := y_4) E sb6 hP0 hD0 hS0 (va_runV (As := []) (rest := []) ⟨hx, hb, hml, hown, hts⟩ (c_X3_total l D cB cI cJ cQ N r7 s.heap.size p7_width p7_height p7_samples (y_4) hcl5) (cwV 0 hts gX6_sum_X3_total rfl rfl rfl cdV_X3_total ⟨Nat.le_of_ble_eq_true rfl, Nat.le_of_ble_eq_true rfl⟩) (ct_preV (q0 := 1) (ci := 3) E sb6 hP0 hD0 hS0 rfl rfl) rfl rfl hl0.1 rfl (lv_room (Nat.le_of_ble_eq_true rfl)) dX6_sum_11 ⟨Nat.zero_le _, Nat.zero_le _⟩) (fun H7 lc7 hP7 hD7 hS7 => ?_); clear sb6 hcl5
    clear hP0 hD0 hS0
    have hP7 : va_P D vwCl (wf [oB (r0 0) 6 [.ref (r1 0), .ref (r2 0), .ref (r3 0), .ref (r4 0), .ref (r5 0), .ref (r6 0), .ref (r7 0), .ref (r8 0), .ref (r9 0), .int o_hasHeader, .int o_hasPicture, .int o_frameCount], oB (r7 0) 3 [.ref (r7 1), .int p7_width, .int p7_height], aI (r7 1) cI 2304 p7_samples] []) H7 := hP7
    have hD7 : va_D A (wf [oB (r0 0) 6 [.ref (r1 0), .ref (r2 0), .ref (r3 0), .ref (r4 0), .ref (r5 0), .ref (r6 0), .ref (r7 0), .ref (r8 0), .ref (r9 0), .int o_hasHeader, .int o_hasPicture, .int o_frameCount], oB (r7 0) 3 [.ref (r7 1), .int p7_width, .int p7_height], aI (r7 1) cI 2304 p7_samples] []) := hD7
    refine lv_goto (tgt := 18) hx hb dX6_sum_14 (by decide) ?_
    obtain rfl := Option.some.inj hm5
    rw [hQ]
    exact ct_iret hx hb hr hlk hP7 hD7 hS7 rfl dX6_sum_18

def f_X6_end (x1 : Int32) (t_size : Int32) : Option (Int32) :=
  (if x1 < (0 : Int32) then
  (none)
  else
  (bd1 (f_X4_size t_size) fun y_4 =>
  (if x1 ≤ y_4 then
  (bd1 (f_X4_cut x1 t_size) fun t_size_10 =>
  some (t_size_10))
  else
  (none))))

abbrev rm_X6_end : Room := { frames := 1, cells := 0, slots := 0, locals := 21 }

theorem cdS_X6_end : yX6_end.cls ≠ "java/lang/invoke/MethodHandle" ∧ yX6_end.cls ≠ "java/lang/invoke/VarHandle" ∧ (parseMethodDescriptor yX6_end.desc).map (fun d => d.parameters.length) = some 1 := by decide +kernel

theorem cdV_X6_end : yX6_end.cls = RX6 ∧ yX6_end.cls ≠ "java/lang/invoke/MethodHandle" ∧ yX6_end.cls ≠ "java/lang/invoke/VarHandle" ∧ (parseMethodDescriptor yX6_end.desc).map (fun d => d.parameters.length) = some 1 := ⟨rfl, cdS_X6_end⟩

theorem hi_X6_end_6 : ∀ w ∈ u_ws RX6 TX6 12, w ∈ wsX6_end := fun _ h => List.mem_cons_of_mem _ (List.mem_append_left _ (List.mem_append_left _ (List.mem_append_right _ h)))

set_option maxHeartbeats 40000000 in
set_option maxRecDepth 100000 in
theorem c_X6_end (l : Launch) (D : va_G) (cB cI cJ cQ : ClassId) (N : Nat) (r0 : Nat → Nat) (r1 : Nat → Nat) (r2 : Nat → Nat) (r3 : Nat → Nat) (r4 : Nat → Nat) (r5 : Nat → Nat) (r6 : Nat → Nat) (r7 : Nat → Nat) (r8 : Nat → Nat) (r9 : Nat → Nat) (sz : Nat) (x1 : Int32) (o_hasHeader : Int32) (o_hasPicture : Int32) (o_frameCount : Int32) (t_size : Int32) (t_position : Int32) (t_fault : Int32) (o : Int32) (hm0 : f_X6_end x1 t_size = some o) : Met l yX6_end wsX6_end rm_X6_end (ctP D cB cI cJ cQ N sz [.ref (r0 0), .int x1] (wf [oB (r0 0) 6 [.ref (r1 0), .ref (r2 0), .ref (r3 0), .ref (r4 0), .ref (r5 0), .ref (r6 0), .ref (r7 0), .ref (r8 0), .ref (r9 0), .int o_hasHeader, .int o_hasPicture, .int o_frameCount], oB (r1 0) 4 [.ref (r1 1), .int t_size, .int t_position, .int t_fault]] [])) (ctQv D (wf [oB (r0 0) 6 [.ref (r1 0), .ref (r2 0), .ref (r3 0), .ref (r4 0), .ref (r5 0), .ref (r6 0), .ref (r7 0), .ref (r8 0), .ref (r9 0), .int o_hasHeader, .int o_hasPicture, .int o_frameCount], oB (r1 0) 4 [.ref (r1 1), .int o, .int t_position, .int t_fault]] []) (va_A (wf [oB (r0 0) 6 [.ref (r1 0), .ref (r2 0), .ref (r3 0), .ref (r4 0), .ref (r5 0), .ref (r6 0), .ref (r7 0), .ref (r8 0), .ref (r9 0), .int o_hasHeader, .int o_hasPicture, .int o_frameCount], oB (r1 0) 4 [.ref (r1 1), .int t_size, .int t_position, .int t_fault]] []) sz)) 0 0 (va_A (wf [oB (r0 0) 6 [.ref (r1 0), .ref (r2 0), .ref (r3 0), .ref (r4 0), .ref (r5 0), .ref (r6 0), .ref (r7 0), .ref (r8 0), .ref (r9 0), .int o_hasHeader, .int o_hasPicture, .int o_frameCount], oB (r1 0) 4 [.ref (r1 1), .int t_size, .int t_position, .int t_fault]] []) sz) := by
  refine ct_of (cc := cX6_end) (maxL := 2) (ret := none) (own := RX6) (Qp := ctQv D (wf [oB (r0 0) 6 [.ref (r1 0), .ref (r2 0), .ref (r3 0), .ref (r4 0), .ref (r5 0), .ref (r6 0), .ref (r7 0), .ref (r8 0), .ref (r9 0), .int o_hasHeader, .int o_hasPicture, .int o_frameCount], oB (r1 0) 4 [.ref (r1 1), .int o, .int t_position, .int t_fault]] [])) (by decide) rfl rfl (Nat.le_of_ble_eq_true rfl) ?_
  intro p e s m args below meth c A hx hb hr hml hown hts hlk hnm hsz hAe E hP0 hD0 hS0 ls0 hl0
  subst hsz
  have hl0 : lv_has ls0 2 [(0, .ref (r0 0)), (1, .int x1)] := hl0
  obtain ⟨QQ, hQ⟩ : ∃ Q : State → Prop, Q = MQ below (ctQv D (wf [oB (r0 0) 6 [.ref (r1 0), .ref (r2 0), .ref (r3 0), .ref (r4 0), .ref (r5 0), .ref (r6 0), .ref (r7 0), .ref (r8 0), .ref (r9 0), .int o_hasHeader, .int o_hasPicture, .int o_frameCount], oB (r1 0) 4 [.ref (r1 1), .int o, .int t_position, .int t_fault]] []) A) args s 0 0 A := ⟨_, rfl⟩
  rw [← hQ]
  unfold f_X6_end at hm0
  refine lv_iload_n hx hb dX6_end_0 rfl (lv_at hl0 1 rfl) ?_
  refine lv_if_lt (tgt := 15) hx hb dX6_end_1 (by decide) (fun hc1 => ?_) (fun hc1 => ?_)
  · have hm2 := bq_t hm0 hc1; clear hm0
    cases hm2
  · have hm3 := bq_f hm0 hc1; clear hm0
    refine lv_iload_n hx hb dX6_end_4 rfl (lv_at hl0 1 rfl) ?_
    refine lv_aload_n hx hb dX6_end_5 rfl (lv_at hl0 0 rfl) ?_
    refine va_get (D := D) (ci := 6) (v := .ref (r1 0)) (C := RX6) (T := TX6) (N := 12) hx hb hts hi_X6_end_6 hown E.1 hP0 0 rfl rfl 0 (by decide) (hts _ (List.mem_of_getElem? (i := 3) rfl)) (fun _ h9 => h9) rfl dX6_end_6 ?_
    obtain ⟨y_4, hcl5, hm5⟩ := bd1_some hm3; clear hm3
    have sb6 := ctS.mk (n := 2) (k := 0) (pre := [oB (r0 0) 6 [.ref (r1 0), .ref (r2 0), .ref (r3 0), .ref (r4 0), .ref (r5 0), .ref (r6 0), .ref (r7 0), .ref (r8 0), .ref (r9 0), .int o_hasHeader, .int o_hasPicture, .int o_frameCount], oB (r1 0) 4 [.ref (r1 1), .int t_size, .int t_position, .int t_fault]]) (tl := []) [1] [0] [] [] rfl rfl (by decide +kernel) (by decide +kernel)
    refine ct_calli (r := y_4) E sb6 hP0 hD0 hS0 (va_runV (As := []) (rest := [.int x1]) ⟨hx, hb, hml, hown, hts⟩ (c_X4_size l D cB cI cJ cQ N r1 s.heap.size t_size t_position t_fault (y_4) hcl5) (cwV 0 hts gX6_end_X4_size rfl rfl rfl cdV_X4_size ⟨Nat.le_of_ble_eq_true rfl, Nat.le_of_ble_eq_true rfl⟩) (ct_preV (q0 := 1) (ci := 4) E sb6 hP0 hD0 hS0 rfl rfl) rfl rfl hl0.1 rfl (lv_room (Nat.le_of_ble_eq_true rfl)) dX6_end_9 ⟨Nat.zero_le _, Nat.zero_le _⟩) (fun H7 lc7 hP7 hD7 hS7 => ?_); clear sb6 hcl5
    clear hP0 hD0 hS0
    have hP7 : va_P D vwCl (wf [oB (r0 0) 6 [.ref (r1 0), .ref (r2 0), .ref (r3 0), .ref (r4 0), .ref (r5 0), .ref (r6 0), .ref (r7 0), .ref (r8 0), .ref (r9 0), .int o_hasHeader, .int o_hasPicture, .int o_frameCount], oB (r1 0) 4 [.ref (r1 1), .int t_size, .int t_position, .int t_fault]] []) H7 := hP7
    have hD7 : va_D A (wf [oB (r0 0) 6 [.ref (r1 0), .ref (r2 0), .ref (r3 0), .ref (r4 0), .ref (r5 0), .ref (r6 0), .ref (r7 0), .ref (r8 0), .ref (r9 0), .int o_hasHeader, .int o_hasPicture, .int o_frameCount], oB (r1 0) 4 [.ref (r1 1), .int t_size, .int t_position, .int t_fault]] []) := hD7
    refine lv_icmp_le (tgt := 25) hx hb dX6_end_12 (by decide) (fun hc8 => ?_) (fun hc8 => ?_)
    · have hm9 := bq_t hm5 hc8; clear hm5
      refine lv_aload_n hx hb dX6_end_25 rfl (lv_at hl0 0 rfl) ?_
      refine va_get (D := D) (ci := 6) (v := .ref (r1 0)) (C := RX6) (T := TX6) (N := 12) hx hb hts hi_X6_end_6 hown E.1 hP7 0 rfl rfl 0 (by decide) (hts _ (List.mem_of_getElem? (i := 3) rfl)) (fun _ h9 => h9) rfl dX6_end_26 ?_
      refine lv_iload_n hx hb dX6_end_29 rfl (lv_at hl0 1 rfl) ?_
      obtain ⟨t_size_10, hcl11, hm11⟩ := bd1_some hm9; clear hm9
      have sb12 := ctS.mk (n := 2) (k := 0) (pre := [oB (r0 0) 6 [.ref (r1 0), .ref (r2 0), .ref (r3 0), .ref (r4 0), .ref (r5 0), .ref (r6 0), .ref (r7 0), .ref (r8 0), .ref (r9 0), .int o_hasHeader, .int o_hasPicture, .int o_frameCount], oB (r1 0) 4 [.ref (r1 1), .int t_size, .int t_position, .int t_fault]]) (tl := []) [1] [0] [] [] rfl rfl (by decide +kernel) (by decide +kernel)
      refine ct_callv E sb12 hP7 hD7 hS7 (va_runV (As := [.int x1]) (rest := []) ⟨hx, hb, hml, hown, hts⟩ (c_X4_cut l D cB cI cJ cQ N r1 H7.size x1 t_size t_position t_fault (t_size_10) hcl11) (cwV 1 hts gX6_end_X4_cut rfl rfl rfl cdV_X4_cut ⟨Nat.le_of_ble_eq_true rfl, Nat.le_of_ble_eq_true rfl⟩) (ct_preV (q0 := 1) (ci := 4) E sb12 hP7 hD7 hS7 rfl rfl) rfl rfl hl0.1 rfl (lv_room (Nat.le_of_ble_eq_true rfl)) dX6_end_30 ⟨Nat.zero_le _, Nat.zero_le _⟩) (fun H13 lc13 hP13 hD13 hS13 => ?_); clear sb12 hcl11
      clear hP7 hD7 hS7
      have hP13 : va_P D vwCl (wf [oB (r0 0) 6 [.ref (r1 0), .ref (r2 0), .ref (r3 0), .ref (r4 0), .ref (r5 0), .ref (r6 0), .ref (r7 0), .ref (r8 0), .ref (r9 0), .int o_hasHeader, .int o_hasPicture, .int o_frameCount], oB (r1 0) 4 [.ref (r1 1), .int t_size_10, .int t_position, .int t_fault]] []) H13 := hP13
      have hD13 : va_D A (wf [oB (r0 0) 6 [.ref (r1 0), .ref (r2 0), .ref (r3 0), .ref (r4 0), .ref (r5 0), .ref (r6 0), .ref (r7 0), .ref (r8 0), .ref (r9 0), .int o_hasHeader, .int o_hasPicture, .int o_frameCount], oB (r1 0) 4 [.ref (r1 1), .int t_size_10, .int t_position, .int t_fault]] []) := hD13
      obtain rfl := Option.some.inj hm11
      rw [hQ]
      exact ct_vret hx hb hr hlk hP13 hD13 hS13 dX6_end_33
    · have hm14 := bq_f hm5 hc8; clear hm5
      cases hm14

def f_X6_feed (x1 : Int32) (x2 : Int32) (x3 : Int32) (x4 : Int32) (t_size : Int32) (t_bytes : Nat → Int32) : Option (Int32 × Int32 × (Nat → Int32)) :=
  bd1 (f_X4_size t_size) fun y_1 =>
  (if (y_1 + (16 : Int32)) ≤ (6000 : Int32) then
  (bd2 (f_X4_add x1 t_size t_bytes) fun t_size_7 t_bytes_8 =>
  bd2 (f_X4_add x2 t_size_7 t_bytes_8) fun t_size_12 t_bytes_13 =>
  bd2 (f_X4_add x3 t_size_12 t_bytes_13) fun t_size_17 t_bytes_18 =>
  bd2 (f_X4_add x4 t_size_17 t_bytes_18) fun t_size_22 t_bytes_23 =>
  bd1 (f_X4_size t_size_22) fun y_27 =>
  some (y_27, t_size_22, t_bytes_23))
  else
  (none))

abbrev rm_X6_feed : Room := { frames := 1, cells := 0, slots := 0, locals := 22 }

theorem cdS_X6_feed : yX6_feed.cls ≠ "java/lang/invoke/MethodHandle" ∧ yX6_feed.cls ≠ "java/lang/invoke/VarHandle" ∧ (parseMethodDescriptor yX6_feed.desc).map (fun d => d.parameters.length) = some 4 := by decide +kernel

theorem cdV_X6_feed : yX6_feed.cls = RX6 ∧ yX6_feed.cls ≠ "java/lang/invoke/MethodHandle" ∧ yX6_feed.cls ≠ "java/lang/invoke/VarHandle" ∧ (parseMethodDescriptor yX6_feed.desc).map (fun d => d.parameters.length) = some 4 := ⟨rfl, cdS_X6_feed⟩

theorem hi_X6_feed_6 : ∀ w ∈ u_ws RX6 TX6 12, w ∈ wsX6_feed := fun _ h => List.mem_cons_of_mem _ (List.mem_append_left _ (List.mem_append_left _ (List.mem_append_right _ h)))

set_option maxHeartbeats 40000000 in
set_option maxRecDepth 100000 in
theorem c_X6_feed (l : Launch) (D : va_G) (cB cI cJ cQ : ClassId) (N : Nat) (r0 : Nat → Nat) (r1 : Nat → Nat) (r2 : Nat → Nat) (r3 : Nat → Nat) (r4 : Nat → Nat) (r5 : Nat → Nat) (r6 : Nat → Nat) (r7 : Nat → Nat) (r8 : Nat → Nat) (r9 : Nat → Nat) (sz : Nat) (x1 : Int32) (x2 : Int32) (x3 : Int32) (x4 : Int32) (o_hasHeader : Int32) (o_hasPicture : Int32) (o_frameCount : Int32) (t_size : Int32) (t_position : Int32) (t_fault : Int32) (t_bytes : Nat → Int32) (o : Int32 × Int32 × (Nat → Int32)) (hm0 : f_X6_feed x1 x2 x3 x4 t_size t_bytes = some o) : Met l yX6_feed wsX6_feed rm_X6_feed (ctP D cB cI cJ cQ N sz [.ref (r0 0), .int x1, .int x2, .int x3, .int x4] (wf [oB (r0 0) 6 [.ref (r1 0), .ref (r2 0), .ref (r3 0), .ref (r4 0), .ref (r5 0), .ref (r6 0), .ref (r7 0), .ref (r8 0), .ref (r9 0), .int o_hasHeader, .int o_hasPicture, .int o_frameCount], oB (r1 0) 4 [.ref (r1 1), .int t_size, .int t_position, .int t_fault], aI (r1 1) cB 6000 t_bytes] [])) (ctQi D (o.1) (wf [oB (r0 0) 6 [.ref (r1 0), .ref (r2 0), .ref (r3 0), .ref (r4 0), .ref (r5 0), .ref (r6 0), .ref (r7 0), .ref (r8 0), .ref (r9 0), .int o_hasHeader, .int o_hasPicture, .int o_frameCount], oB (r1 0) 4 [.ref (r1 1), .int (o.2.1), .int t_position, .int t_fault], aI (r1 1) cB 6000 (o.2.2)] []) (va_A (wf [oB (r0 0) 6 [.ref (r1 0), .ref (r2 0), .ref (r3 0), .ref (r4 0), .ref (r5 0), .ref (r6 0), .ref (r7 0), .ref (r8 0), .ref (r9 0), .int o_hasHeader, .int o_hasPicture, .int o_frameCount], oB (r1 0) 4 [.ref (r1 1), .int t_size, .int t_position, .int t_fault], aI (r1 1) cB 6000 t_bytes] []) sz)) 0 0 (va_A (wf [oB (r0 0) 6 [.ref (r1 0), .ref (r2 0), .ref (r3 0), .ref (r4 0), .ref (r5 0), .ref (r6 0), .ref (r7 0), .ref (r8 0), .ref (r9 0), .int o_hasHeader, .int o_hasPicture, .int o_frameCount], oB (r1 0) 4 [.ref (r1 1), .int t_size, .int t_position, .int t_fault], aI (r1 1) cB 6000 t_bytes] []) sz) := by
  refine ct_of (cc := cX6_feed) (maxL := 5) (ret := (some .int)) (own := RX6) (Qp := ctQi D (o.1) (wf [oB (r0 0) 6 [.ref (r1 0), .ref (r2 0), .ref (r3 0), .ref (r4 0), .ref (r5 0), .ref (r6 0), .ref (r7 0), .ref (r8 0), .ref (r9 0), .int o_hasHeader, .int o_hasPicture, .int o_frameCount], oB (r1 0) 4 [.ref (r1 1), .int (o.2.1), .int t_position, .int t_fault], aI (r1 1) cB 6000 (o.2.2)] [])) (by decide) rfl rfl (Nat.le_of_ble_eq_true rfl) ?_
  intro p e s m args below meth c A hx hb hr hml hown hts hlk hnm hsz hAe E hP0 hD0 hS0 ls0 hl0
  subst hsz
  have hl0 : lv_has ls0 5 [(0, .ref (r0 0)), (1, .int x1), (2, .int x2), (3, .int x3), (4, .int x4)] := hl0
  obtain ⟨QQ, hQ⟩ : ∃ Q : State → Prop, Q = MQ below (ctQi D (o.1) (wf [oB (r0 0) 6 [.ref (r1 0), .ref (r2 0), .ref (r3 0), .ref (r4 0), .ref (r5 0), .ref (r6 0), .ref (r7 0), .ref (r8 0), .ref (r9 0), .int o_hasHeader, .int o_hasPicture, .int o_frameCount], oB (r1 0) 4 [.ref (r1 1), .int (o.2.1), .int t_position, .int t_fault], aI (r1 1) cB 6000 (o.2.2)] []) A) args s 0 0 A := ⟨_, rfl⟩
  rw [← hQ]
  unfold f_X6_feed at hm0
  refine lv_aload_n hx hb dX6_feed_0 rfl (lv_at hl0 0 rfl) ?_
  refine va_get (D := D) (ci := 6) (v := .ref (r1 0)) (C := RX6) (T := TX6) (N := 12) hx hb hts hi_X6_feed_6 hown E.1 hP0 0 rfl rfl 0 (by decide) (hts _ (List.mem_of_getElem? (i := 3) rfl)) (fun _ h9 => h9) rfl dX6_feed_1 ?_
  obtain ⟨y_1, hcl2, hm2⟩ := bd1_some hm0; clear hm0
  have sb3 := ctS.mk (n := 3) (k := 0) (pre := [oB (r0 0) 6 [.ref (r1 0), .ref (r2 0), .ref (r3 0), .ref (r4 0), .ref (r5 0), .ref (r6 0), .ref (r7 0), .ref (r8 0), .ref (r9 0), .int o_hasHeader, .int o_hasPicture, .int o_frameCount], oB (r1 0) 4 [.ref (r1 1), .int t_size, .int t_position, .int t_fault], aI (r1 1) cB 6000 t_bytes]) (tl := []) [1] [0, 2] [] [] rfl rfl (by decide +kernel) (by decide +kernel)
  refine ct_calli (r := y_1) E sb3 hP0 hD0 hS0 (va_runV (As := []) (rest := []) ⟨hx, hb, hml, hown, hts⟩ (c_X4_size l D cB cI cJ cQ N r1 s.heap.size t_size t_position t_fault (y_1) hcl2) (cwV 0 hts gX6_feed_X4_size rfl rfl rfl cdV_X4_size ⟨Nat.le_of_ble_eq_true rfl, Nat.le_of_ble_eq_true rfl⟩) (ct_preV (q0 := 1) (ci := 4) E sb3 hP0 hD0 hS0 rfl rfl) rfl rfl hl0.1 rfl (lv_room (Nat.le_of_ble_eq_true rfl)) dX6_feed_4 ⟨Nat.zero_le _, Nat.zero_le _⟩) (fun H4 lc4 hP4 hD4 hS4 => ?_); clear sb3 hcl2
  clear hP0 hD0 hS0
  have hP4 : va_P D vwCl (wf [oB (r0 0) 6 [.ref (r1 0), .ref (r2 0), .ref (r3 0), .ref (r4 0), .ref (r5 0), .ref (r6 0), .ref (r7 0), .ref (r8 0), .ref (r9 0), .int o_hasHeader, .int o_hasPicture, .int o_frameCount], aI (r1 1) cB 6000 t_bytes, oB (r1 0) 4 [.ref (r1 1), .int t_size, .int t_position, .int t_fault]] []) H4 := hP4
  have hD4 : va_D A (wf [oB (r0 0) 6 [.ref (r1 0), .ref (r2 0), .ref (r3 0), .ref (r4 0), .ref (r5 0), .ref (r6 0), .ref (r7 0), .ref (r8 0), .ref (r9 0), .int o_hasHeader, .int o_hasPicture, .int o_frameCount], aI (r1 1) cB 6000 t_bytes, oB (r1 0) 4 [.ref (r1 1), .int t_size, .int t_position, .int t_fault]] []) := hD4
  refine lv_bipush (v := 16) hx hb dX6_feed_7 (by decide) ?_
  refine lv_iadd hx hb dX6_feed_9 ?_
  refine lv_sipush (v := 6000) hx hb dX6_feed_10 (by decide) ?_
  refine lv_icmp_le (tgt := 26) hx hb dX6_feed_13 (by decide) (fun hc5 => ?_) (fun hc5 => ?_)
  · have hm6 := bq_t hm2 hc5; clear hm2
    refine lv_aload_n hx hb dX6_feed_26 rfl (lv_at hl0 0 rfl) ?_
    refine va_get (D := D) (ci := 6) (v := .ref (r1 0)) (C := RX6) (T := TX6) (N := 12) hx hb hts hi_X6_feed_6 hown E.1 hP4 0 rfl rfl 0 (by decide) (hts _ (List.mem_of_getElem? (i := 3) rfl)) (fun _ h9 => h9) rfl dX6_feed_27 ?_
    refine lv_iload_n hx hb dX6_feed_30 rfl (lv_at hl0 1 rfl) ?_
    obtain ⟨t_size_7, t_bytes_8, hcl9, hm9⟩ := bd2_some hm6; clear hm6
    have sb10 := ctS.mk (n := 3) (k := 0) (pre := [oB (r0 0) 6 [.ref (r1 0), .ref (r2 0), .ref (r3 0), .ref (r4 0), .ref (r5 0), .ref (r6 0), .ref (r7 0), .ref (r8 0), .ref (r9 0), .int o_hasHeader, .int o_hasPicture, .int o_frameCount], aI (r1 1) cB 6000 t_bytes, oB (r1 0) 4 [.ref (r1 1), .int t_size, .int t_position, .int t_fault]]) (tl := []) [2, 1] [0] [] [] rfl rfl (by decide +kernel) (by decide +kernel)
    refine ct_callv E sb10 hP4 hD4 hS4 (va_runV (As := [.int x1]) (rest := []) ⟨hx, hb, hml, hown, hts⟩ (c_X4_add l D cB cI cJ cQ N r1 H4.size x1 t_size t_position t_fault t_bytes (t_size_7, t_bytes_8) hcl9) (cwV 1 hts gX6_feed_X4_add rfl rfl rfl cdV_X4_add ⟨Nat.le_of_ble_eq_true rfl, Nat.le_of_ble_eq_true rfl⟩) (ct_preV (q0 := 2) (ci := 4) E sb10 hP4 hD4 hS4 rfl rfl) rfl rfl hl0.1 rfl (lv_room (Nat.le_of_ble_eq_true rfl)) dX6_feed_31 ⟨Nat.zero_le _, Nat.zero_le _⟩) (fun H11 lc11 hP11 hD11 hS11 => ?_); clear sb10 hcl9
    clear hP4 hD4 hS4
    have hP11 : va_P D vwCl (wf [oB (r0 0) 6 [.ref (r1 0), .ref (r2 0), .ref (r3 0), .ref (r4 0), .ref (r5 0), .ref (r6 0), .ref (r7 0), .ref (r8 0), .ref (r9 0), .int o_hasHeader, .int o_hasPicture, .int o_frameCount], oB (r1 0) 4 [.ref (r1 1), .int t_size_7, .int t_position, .int t_fault], aI (r1 1) cB 6000 t_bytes_8] []) H11 := hP11
    have hD11 : va_D A (wf [oB (r0 0) 6 [.ref (r1 0), .ref (r2 0), .ref (r3 0), .ref (r4 0), .ref (r5 0), .ref (r6 0), .ref (r7 0), .ref (r8 0), .ref (r9 0), .int o_hasHeader, .int o_hasPicture, .int o_frameCount], oB (r1 0) 4 [.ref (r1 1), .int t_size_7, .int t_position, .int t_fault], aI (r1 1) cB 6000 t_bytes_8] []) := hD11
    refine lv_aload_n hx hb dX6_feed_34 rfl (lv_at hl0 0 rfl) ?_
    refine va_get (D := D) (ci := 6) (v := .ref (r1 0)) (C := RX6) (T := TX6) (N := 12) hx hb hts hi_X6_feed_6 hown E.1 hP11 0 rfl rfl 0 (by decide) (hts _ (List.mem_of_getElem? (i := 3) rfl)) (fun _ h9 => h9) rfl dX6_feed_35 ?_
    refine lv_iload_n hx hb dX6_feed_38 rfl (lv_at hl0 2 rfl) ?_
    obtain ⟨t_size_12, t_bytes_13, hcl14, hm14⟩ := bd2_some hm9; clear hm9
    have sb15 := ctS.mk (n := 3) (k := 0) (pre := [oB (r0 0) 6 [.ref (r1 0), .ref (r2 0), .ref (r3 0), .ref (r4 0), .ref (r5 0), .ref (r6 0), .ref (r7 0), .ref (r8 0), .ref (r9 0), .int o_hasHeader, .int o_hasPicture, .int o_frameCount], oB (r1 0) 4 [.ref (r1 1), .int t_size_7, .int t_position, .int t_fault], aI (r1 1) cB 6000 t_bytes_8]) (tl := []) [1, 2] [0] [] [] rfl rfl (by decide +kernel) (by decide +kernel)
    refine ct_callv E sb15 hP11 hD11 hS11 (va_runV (As := [.int x2]) (rest := []) ⟨hx, hb, hml, hown, hts⟩ (c_X4_add l D cB cI cJ cQ N r1 H11.size x2 t_size_7 t_position t_fault t_bytes_8 (t_size_12, t_bytes_13) hcl14) (cwV 1 hts gX6_feed_X4_add rfl rfl rfl cdV_X4_add ⟨Nat.le_of_ble_eq_true rfl, Nat.le_of_ble_eq_true rfl⟩) (ct_preV (q0 := 1) (ci := 4) E sb15 hP11 hD11 hS11 rfl rfl) rfl rfl hl0.1 rfl (lv_room (Nat.le_of_ble_eq_true rfl)) dX6_feed_39 ⟨Nat.zero_le _, Nat.zero_le _⟩) (fun H16 lc16 hP16 hD16 hS16 => ?_); clear sb15 hcl14
    clear hP11 hD11 hS11
    have hP16 : va_P D vwCl (wf [oB (r0 0) 6 [.ref (r1 0), .ref (r2 0), .ref (r3 0), .ref (r4 0), .ref (r5 0), .ref (r6 0), .ref (r7 0), .ref (r8 0), .ref (r9 0), .int o_hasHeader, .int o_hasPicture, .int o_frameCount], oB (r1 0) 4 [.ref (r1 1), .int t_size_12, .int t_position, .int t_fault], aI (r1 1) cB 6000 t_bytes_13] []) H16 := hP16
    have hD16 : va_D A (wf [oB (r0 0) 6 [.ref (r1 0), .ref (r2 0), .ref (r3 0), .ref (r4 0), .ref (r5 0), .ref (r6 0), .ref (r7 0), .ref (r8 0), .ref (r9 0), .int o_hasHeader, .int o_hasPicture, .int o_frameCount], oB (r1 0) 4 [.ref (r1 1), .int t_size_12, .int t_position, .int t_fault], aI (r1 1) cB 6000 t_bytes_13] []) := hD16
    refine lv_aload_n hx hb dX6_feed_42 rfl (lv_at hl0 0 rfl) ?_
    refine va_get (D := D) (ci := 6) (v := .ref (r1 0)) (C := RX6) (T := TX6) (N := 12) hx hb hts hi_X6_feed_6 hown E.1 hP16 0 rfl rfl 0 (by decide) (hts _ (List.mem_of_getElem? (i := 3) rfl)) (fun _ h9 => h9) rfl dX6_feed_43 ?_
    refine lv_iload_n hx hb dX6_feed_46 rfl (lv_at hl0 3 rfl) ?_
    obtain ⟨t_size_17, t_bytes_18, hcl19, hm19⟩ := bd2_some hm14; clear hm14
    have sb20 := ctS.mk (n := 3) (k := 0) (pre := [oB (r0 0) 6 [.ref (r1 0), .ref (r2 0), .ref (r3 0), .ref (r4 0), .ref (r5 0), .ref (r6 0), .ref (r7 0), .ref (r8 0), .ref (r9 0), .int o_hasHeader, .int o_hasPicture, .int o_frameCount], oB (r1 0) 4 [.ref (r1 1), .int t_size_12, .int t_position, .int t_fault], aI (r1 1) cB 6000 t_bytes_13]) (tl := []) [1, 2] [0] [] [] rfl rfl (by decide +kernel) (by decide +kernel)
    refine ct_callv E sb20 hP16 hD16 hS16 (va_runV (As := [.int x3]) (rest := []) ⟨hx, hb, hml, hown, hts⟩ (c_X4_add l D cB cI cJ cQ N r1 H16.size x3 t_size_12 t_position t_fault t_bytes_13 (t_size_17, t_bytes_18) hcl19) (cwV 1 hts gX6_feed_X4_add rfl rfl rfl cdV_X4_add ⟨Nat.le_of_ble_eq_true rfl, Nat.le_of_ble_eq_true rfl⟩) (ct_preV (q0 := 1) (ci := 4) E sb20 hP16 hD16 hS16 rfl rfl) rfl rfl hl0.1 rfl (lv_room (Nat.le_of_ble_eq_true rfl)) dX6_feed_47 ⟨Nat.zero_le _, Nat.zero_le _⟩) (fun H21 lc21 hP21 hD21 hS21 => ?_); clear sb20 hcl19
    clear hP16 hD16 hS16
    have hP21 : va_P D vwCl (wf [oB (r0 0) 6 [.ref (r1 0), .ref (r2 0), .ref (r3 0), .ref (r4 0), .ref (r5 0), .ref (r6 0), .ref (r7 0), .ref (r8 0), .ref (r9 0), .int o_hasHeader, .int o_hasPicture, .int o_frameCount], oB (r1 0) 4 [.ref (r1 1), .int t_size_17, .int t_position, .int t_fault], aI (r1 1) cB 6000 t_bytes_18] []) H21 := hP21
    have hD21 : va_D A (wf [oB (r0 0) 6 [.ref (r1 0), .ref (r2 0), .ref (r3 0), .ref (r4 0), .ref (r5 0), .ref (r6 0), .ref (r7 0), .ref (r8 0), .ref (r9 0), .int o_hasHeader, .int o_hasPicture, .int o_frameCount], oB (r1 0) 4 [.ref (r1 1), .int t_size_17, .int t_position, .int t_fault], aI (r1 1) cB 6000 t_bytes_18] []) := hD21
    refine lv_aload_n hx hb dX6_feed_50 rfl (lv_at hl0 0 rfl) ?_
    refine va_get (D := D) (ci := 6) (v := .ref (r1 0)) (C := RX6) (T := TX6) (N := 12) hx hb hts hi_X6_feed_6 hown E.1 hP21 0 rfl rfl 0 (by decide) (hts _ (List.mem_of_getElem? (i := 3) rfl)) (fun _ h9 => h9) rfl dX6_feed_51 ?_
    refine lv_iload hx hb dX6_feed_54 (lv_at hl0 4 rfl) ?_
    obtain ⟨t_size_22, t_bytes_23, hcl24, hm24⟩ := bd2_some hm19; clear hm19
    have sb25 := ctS.mk (n := 3) (k := 0) (pre := [oB (r0 0) 6 [.ref (r1 0), .ref (r2 0), .ref (r3 0), .ref (r4 0), .ref (r5 0), .ref (r6 0), .ref (r7 0), .ref (r8 0), .ref (r9 0), .int o_hasHeader, .int o_hasPicture, .int o_frameCount], oB (r1 0) 4 [.ref (r1 1), .int t_size_17, .int t_position, .int t_fault], aI (r1 1) cB 6000 t_bytes_18]) (tl := []) [1, 2] [0] [] [] rfl rfl (by decide +kernel) (by decide +kernel)
    refine ct_callv E sb25 hP21 hD21 hS21 (va_runV (As := [.int x4]) (rest := []) ⟨hx, hb, hml, hown, hts⟩ (c_X4_add l D cB cI cJ cQ N r1 H21.size x4 t_size_17 t_position t_fault t_bytes_18 (t_size_22, t_bytes_23) hcl24) (cwV 1 hts gX6_feed_X4_add rfl rfl rfl cdV_X4_add ⟨Nat.le_of_ble_eq_true rfl, Nat.le_of_ble_eq_true rfl⟩) (ct_preV (q0 := 1) (ci := 4) E sb25 hP21 hD21 hS21 rfl rfl) rfl rfl hl0.1 rfl (lv_room (Nat.le_of_ble_eq_true rfl)) dX6_feed_56 ⟨Nat.zero_le _, Nat.zero_le _⟩) (fun H26 lc26 hP26 hD26 hS26 => ?_); clear sb25 hcl24
    clear hP21 hD21 hS21
    have hP26 : va_P D vwCl (wf [oB (r0 0) 6 [.ref (r1 0), .ref (r2 0), .ref (r3 0), .ref (r4 0), .ref (r5 0), .ref (r6 0), .ref (r7 0), .ref (r8 0), .ref (r9 0), .int o_hasHeader, .int o_hasPicture, .int o_frameCount], oB (r1 0) 4 [.ref (r1 1), .int t_size_22, .int t_position, .int t_fault], aI (r1 1) cB 6000 t_bytes_23] []) H26 := hP26
    have hD26 : va_D A (wf [oB (r0 0) 6 [.ref (r1 0), .ref (r2 0), .ref (r3 0), .ref (r4 0), .ref (r5 0), .ref (r6 0), .ref (r7 0), .ref (r8 0), .ref (r9 0), .int o_hasHeader, .int o_hasPicture, .int o_frameCount], oB (r1 0) 4 [.ref (r1 1), .int t_size_22, .int t_position, .int t_fault], aI (r1 1) cB 6000 t_bytes_23] []) := hD26
    refine lv_aload_n hx hb dX6_feed_59 rfl (lv_at hl0 0 rfl) ?_
    refine va_get (D := D) (ci := 6) (v := .ref (r1 0)) (C := RX6) (T := TX6) (N := 12) hx hb hts hi_X6_feed_6 hown E.1 hP26 0 rfl rfl 0 (by decide) (hts _ (List.mem_of_getElem? (i := 3) rfl)) (fun _ h9 => h9) rfl dX6_feed_60 ?_
    obtain ⟨y_27, hcl28, hm28⟩ := bd1_some hm24; clear hm24
    have sb29 := ctS.mk (n := 3) (k := 0) (pre := [oB (r0 0) 6 [.ref (r1 0), .ref (r2 0), .ref (r3 0), .ref (r4 0), .ref (r5 0), .ref (r6 0), .ref (r7 0), .ref (r8 0), .ref (r9 0), .int o_hasHeader, .int o_hasPicture, .int o_frameCount], oB (r1 0) 4 [.ref (r1 1), .int t_size_22, .int t_position, .int t_fault], aI (r1 1) cB 6000 t_bytes_23]) (tl := []) [1] [0, 2] [] [] rfl rfl (by decide +kernel) (by decide +kernel)
    refine ct_calli (r := y_27) E sb29 hP26 hD26 hS26 (va_runV (As := []) (rest := []) ⟨hx, hb, hml, hown, hts⟩ (c_X4_size l D cB cI cJ cQ N r1 H26.size t_size_22 t_position t_fault (y_27) hcl28) (cwV 0 hts gX6_feed_X4_size rfl rfl rfl cdV_X4_size ⟨Nat.le_of_ble_eq_true rfl, Nat.le_of_ble_eq_true rfl⟩) (ct_preV (q0 := 1) (ci := 4) E sb29 hP26 hD26 hS26 rfl rfl) rfl rfl hl0.1 rfl (lv_room (Nat.le_of_ble_eq_true rfl)) dX6_feed_63 ⟨Nat.zero_le _, Nat.zero_le _⟩) (fun H30 lc30 hP30 hD30 hS30 => ?_); clear sb29 hcl28
    clear hP26 hD26 hS26
    have hP30 : va_P D vwCl (wf [oB (r0 0) 6 [.ref (r1 0), .ref (r2 0), .ref (r3 0), .ref (r4 0), .ref (r5 0), .ref (r6 0), .ref (r7 0), .ref (r8 0), .ref (r9 0), .int o_hasHeader, .int o_hasPicture, .int o_frameCount], aI (r1 1) cB 6000 t_bytes_23, oB (r1 0) 4 [.ref (r1 1), .int t_size_22, .int t_position, .int t_fault]] []) H30 := hP30
    have hD30 : va_D A (wf [oB (r0 0) 6 [.ref (r1 0), .ref (r2 0), .ref (r3 0), .ref (r4 0), .ref (r5 0), .ref (r6 0), .ref (r7 0), .ref (r8 0), .ref (r9 0), .int o_hasHeader, .int o_hasPicture, .int o_frameCount], aI (r1 1) cB 6000 t_bytes_23, oB (r1 0) 4 [.ref (r1 1), .int t_size_22, .int t_position, .int t_fault]] []) := hD30
    obtain ⟨hP31, hD31⟩ := ct_ord (n := 3) (k := 0) [0, 2, 1] [] hP30 hD30 rfl rfl (by decide +kernel) (by decide +kernel)
    have hS31 := hS30
    have hP31 : va_P D vwCl (wf [oB (r0 0) 6 [.ref (r1 0), .ref (r2 0), .ref (r3 0), .ref (r4 0), .ref (r5 0), .ref (r6 0), .ref (r7 0), .ref (r8 0), .ref (r9 0), .int o_hasHeader, .int o_hasPicture, .int o_frameCount], oB (r1 0) 4 [.ref (r1 1), .int t_size_22, .int t_position, .int t_fault], aI (r1 1) cB 6000 t_bytes_23] []) H30 := hP31
    have hD31 : va_D A (wf [oB (r0 0) 6 [.ref (r1 0), .ref (r2 0), .ref (r3 0), .ref (r4 0), .ref (r5 0), .ref (r6 0), .ref (r7 0), .ref (r8 0), .ref (r9 0), .int o_hasHeader, .int o_hasPicture, .int o_frameCount], oB (r1 0) 4 [.ref (r1 1), .int t_size_22, .int t_position, .int t_fault], aI (r1 1) cB 6000 t_bytes_23] []) := hD31
    obtain rfl := Option.some.inj hm28
    rw [hQ]
    exact ct_iret hx hb hr hlk hP31 hD31 hS31 rfl dX6_feed_66
  · have hm32 := bq_f hm2 hc5; clear hm2
    cases hm32

def f_X6_head (x1 : Int32) (o_hasHeader : Int32) (h3_columns : Int32) (h3_rows : Int32) (h3_limit : Int32) (h3_h1_tokenCount : Int32) (h3_h2_tokenCount : Int32) : Option (Int32) :=
  (if o_hasHeader = (0 : Int32) then
  (none)
  else
  ((if x1 = (0 : Int32) then
  (bd1 (f_X1_columns h3_columns) fun y_5 =>
  some (y_5))
  else
  ((if x1 = (1 : Int32) then
  (bd1 (f_X1_rows h3_rows) fun y_13 =>
  some (y_13))
  else
  ((if x1 = (2 : Int32) then
  (bd1 (f_X1_limit h3_limit) fun y_21 =>
  some (y_21))
  else
  ((if x1 = (3 : Int32) then
  ((if (0 : Int32) = (0 : Int32) then
  (bd1 (f_X5_tokenCount h3_h1_tokenCount) fun y_33 =>
  some (y_33))
  else
  (bd1 (f_X5_tokenCount h3_h2_tokenCount) fun y_41 =>
  some (y_41))))
  else
  ((if x1 = (4 : Int32) then
  ((if (1 : Int32) = (0 : Int32) then
  (bd1 (f_X5_tokenCount h3_h1_tokenCount) fun y_53 =>
  some (y_53))
  else
  (bd1 (f_X5_tokenCount h3_h2_tokenCount) fun y_61 =>
  some (y_61))))
  else
  (none))))))))))))

abbrev rm_X6_head : Room := { frames := 1, cells := 0, slots := 0, locals := 21 }

theorem cdS_X6_head : yX6_head.cls ≠ "java/lang/invoke/MethodHandle" ∧ yX6_head.cls ≠ "java/lang/invoke/VarHandle" ∧ (parseMethodDescriptor yX6_head.desc).map (fun d => d.parameters.length) = some 1 := by decide +kernel

theorem cdV_X6_head : yX6_head.cls = RX6 ∧ yX6_head.cls ≠ "java/lang/invoke/MethodHandle" ∧ yX6_head.cls ≠ "java/lang/invoke/VarHandle" ∧ (parseMethodDescriptor yX6_head.desc).map (fun d => d.parameters.length) = some 1 := ⟨rfl, cdS_X6_head⟩

theorem hi_X6_head_6 : ∀ w ∈ u_ws RX6 TX6 12, w ∈ wsX6_head := fun _ h => List.mem_cons_of_mem _ (List.mem_append_left _ (List.mem_append_left _ (List.mem_append_left _ (List.mem_append_left _ (List.mem_append_right _ h)))))

set_option maxHeartbeats 40000000 in
set_option maxRecDepth 100000 in
theorem c_X6_head (l : Launch) (D : va_G) (cB cI cJ cQ : ClassId) (N : Nat) (r0 : Nat → Nat) (r1 : Nat → Nat) (r2 : Nat → Nat) (r3 : Nat → Nat) (r4 : Nat → Nat) (r5 : Nat → Nat) (r6 : Nat → Nat) (r7 : Nat → Nat) (r8 : Nat → Nat) (r9 : Nat → Nat) (sz : Nat) (x1 : Int32) (o_hasHeader : Int32) (o_hasPicture : Int32) (o_frameCount : Int32) (h3_columns : Int32) (h3_rows : Int32) (h3_limit : Int32) (h3_h1_nodeCount : Int32) (h3_h1_tokenCount : Int32) (h3_h1_root : Int32) (h3_h2_nodeCount : Int32) (h3_h2_tokenCount : Int32) (h3_h2_root : Int32) (o : Int32) (hm0 : f_X6_head x1 o_hasHeader h3_columns h3_rows h3_limit h3_h1_tokenCount h3_h2_tokenCount = some o) : Met l yX6_head wsX6_head rm_X6_head (ctP D cB cI cJ cQ N sz [.ref (r0 0), .int x1] (wf [oB (r0 0) 6 [.ref (r1 0), .ref (r2 0), .ref (r3 0), .ref (r4 0), .ref (r5 0), .ref (r6 0), .ref (r7 0), .ref (r8 0), .ref (r9 0), .int o_hasHeader, .int o_hasPicture, .int o_frameCount], oB (r3 0) 1 [.ref (r3 1), .ref (r3 2), .ref (r3 3), .ref (r3 5), .ref (r3 7), .int h3_columns, .int h3_rows, .int h3_limit], oB (r3 3) 5 [.ref (r3 4), .int h3_h1_nodeCount, .int h3_h1_tokenCount, .int h3_h1_root], oB (r3 5) 5 [.ref (r3 6), .int h3_h2_nodeCount, .int h3_h2_tokenCount, .int h3_h2_root]] [])) (ctQi D o (wf [oB (r0 0) 6 [.ref (r1 0), .ref (r2 0), .ref (r3 0), .ref (r4 0), .ref (r5 0), .ref (r6 0), .ref (r7 0), .ref (r8 0), .ref (r9 0), .int o_hasHeader, .int o_hasPicture, .int o_frameCount], oB (r3 0) 1 [.ref (r3 1), .ref (r3 2), .ref (r3 3), .ref (r3 5), .ref (r3 7), .int h3_columns, .int h3_rows, .int h3_limit], oB (r3 3) 5 [.ref (r3 4), .int h3_h1_nodeCount, .int h3_h1_tokenCount, .int h3_h1_root], oB (r3 5) 5 [.ref (r3 6), .int h3_h2_nodeCount, .int h3_h2_tokenCount, .int h3_h2_root]] []) (va_A (wf [oB (r0 0) 6 [.ref (r1 0), .ref (r2 0), .ref (r3 0), .ref (r4 0), .ref (r5 0), .ref (r6 0), .ref (r7 0), .ref (r8 0), .ref (r9 0), .int o_hasHeader, .int o_hasPicture, .int o_frameCount], oB (r3 0) 1 [.ref (r3 1), .ref (r3 2), .ref (r3 3), .ref (r3 5), .ref (r3 7), .int h3_columns, .int h3_rows, .int h3_limit], oB (r3 3) 5 [.ref (r3 4), .int h3_h1_nodeCount, .int h3_h1_tokenCount, .int h3_h1_root], oB (r3 5) 5 [.ref (r3 6), .int h3_h2_nodeCount, .int h3_h2_tokenCount, .int h3_h2_root]] []) sz)) 0 0 (va_A (wf [oB (r0 0) 6 [.ref (r1 0), .ref (r2 0), .ref (r3 0), .ref (r4 0), .ref (r5 0), .ref (r6 0), .ref (r7 0), .ref (r8 0), .ref (r9 0), .int o_hasHeader, .int o_hasPicture, .int o_frameCount], oB (r3 0) 1 [.ref (r3 1), .ref (r3 2), .ref (r3 3), .ref (r3 5), .ref (r3 7), .int h3_columns, .int h3_rows, .int h3_limit], oB (r3 3) 5 [.ref (r3 4), .int h3_h1_nodeCount, .int h3_h1_tokenCount, .int h3_h1_root], oB (r3 5) 5 [.ref (r3 6), .int h3_h2_nodeCount, .int h3_h2_tokenCount, .int h3_h2_root]] []) sz) := by
  refine ct_of (cc := cX6_head) (maxL := 2) (ret := (some .int)) (own := RX6) (Qp := ctQi D o (wf [oB (r0 0) 6 [.ref (r1 0), .ref (r2 0), .ref (r3 0), .ref (r4 0), .ref (r5 0), .ref (r6 0), .ref (r7 0), .ref (r8 0), .ref (r9 0), .int o_hasHeader, .int o_hasPicture, .int o_frameCount], oB (r3 0) 1 [.ref (r3 1), .ref (r3 2), .ref (r3 3), .ref (r3 5), .ref (r3 7), .int h3_columns, .int h3_rows, .int h3_limit], oB (r3 3) 5 [.ref (r3 4), .int h3_h1_nodeCount, .int h3_h1_tokenCount, .int h3_h1_root], oB (r3 5) 5 [.ref (r3 6), .int h3_h2_nodeCount, .int h3_h2_tokenCount, .int h3_h2_root]] [])) (by decide) rfl rfl (Nat.le_of_ble_eq_true rfl) ?_
  intro p e s m args below meth c A hx hb hr hml hown hts hlk hnm hsz hAe E hP0 hD0 hS0 ls0 hl0
  subst hsz
  have hl0 : lv_has ls0 2 [(0, .ref (r0 0)), (1, .int x1)] := hl0
  obtain ⟨QQ, hQ⟩ : ∃ Q : State → Prop, Q = MQ below (ctQi D o (wf [oB (r0 0) 6 [.ref (r1 0), .ref (r2 0), .ref (r3 0), .ref (r4 0), .ref (r5 0), .ref (r6 0), .ref (r7 0), .ref (r8 0), .ref (r9 0), .int o_hasHeader, .int o_hasPicture, .int o_frameCount], oB (r3 0) 1 [.ref (r3 1), .ref (r3 2), .ref (r3 3), .ref (r3 5), .ref (r3 7), .int h3_columns, .int h3_rows, .int h3_limit], oB (r3 3) 5 [.ref (r3 4), .int h3_h1_nodeCount, .int h3_h1_tokenCount, .int h3_h1_root], oB (r3 5) 5 [.ref (r3 6), .int h3_h2_nodeCount, .int h3_h2_tokenCount, .int h3_h2_root]] []) A) args s 0 0 A := ⟨_, rfl⟩
  rw [← hQ]
  unfold f_X6_head at hm0
  refine lv_aload_n hx hb dX6_head_0 rfl (lv_at hl0 0 rfl) ?_
  refine va_get (D := D) (ci := 6) (v := .int o_hasHeader) (C := RX6) (T := TX6) (N := 12) hx hb hts hi_X6_head_6 hown E.1 hP0 0 rfl rfl 9 (by decide) (hts _ (List.mem_of_getElem? (i := 5) rfl)) (fun _ h9 => h9) rfl dX6_head_1 ?_
  refine lv_if_ne (tgt := 17) hx hb dX6_head_4 (by decide) (fun hc1 => ?_) (fun hc1 => ?_)
  · have hm2 := bq_f hm0 hc1; clear hm0
    refine lv_iload_n hx hb dX6_head_17 rfl (lv_at hl0 1 rfl) ?_
    by_cases hc3 : x1 = (0 : Int32)
    · have hm4 := bq_t hm2 hc3; clear hm2
      refine lv_tableIn (tgt := 52) hx hb dX6_head_18 (by rw [hc3]; decide) (by rw [hc3]; decide) (by rw [hc3]; rfl) (by decide) ?_
      refine lv_aload_n hx hb dX6_head_52 rfl (lv_at hl0 0 rfl) ?_
      refine va_get (D := D) (ci := 6) (v := .ref (r3 0)) (C := RX6) (T := TX6) (N := 12) hx hb hts hi_X6_head_6 hown E.1 hP0 0 rfl rfl 2 (by decide) (hts _ (List.mem_of_getElem? (i := 6) rfl)) (fun _ h9 => h9) rfl dX6_head_53 ?_
      obtain ⟨y_5, hcl6, hm6⟩ := bd1_some hm4; clear hm4
      have sb7 := ctS.mk (n := 4) (k := 0) (pre := [oB (r0 0) 6 [.ref (r1 0), .ref (r2 0), .ref (r3 0), .ref (r4 0), .ref (r5 0), .ref (r6 0), .ref (r7 0), .ref (r8 0), .ref (r9 0), .int o_hasHeader, .int o_hasPicture, .int o_frameCount], oB (r3 0) 1 [.ref (r3 1), .ref (r3 2), .ref (r3 3), .ref (r3 5), .ref (r3 7), .int h3_columns, .int h3_rows, .int h3_limit], oB (r3 3) 5 [.ref (r3 4), .int h3_h1_nodeCount, .int h3_h1_tokenCount, .int h3_h1_root], oB (r3 5) 5 [.ref (r3 6), .int h3_h2_nodeCount, .int h3_h2_tokenCount, .int h3_h2_root]]) (tl := []) [1] [0, 2, 3] [] [] rfl rfl (by decide +kernel) (by decide +kernel)
      refine ct_calli (r := y_5) E sb7 hP0 hD0 hS0 (va_runV (As := []) (rest := []) ⟨hx, hb, hml, hown, hts⟩ (c_X1_columns l D cB cI cJ cQ N r3 s.heap.size h3_columns h3_rows h3_limit (y_5) hcl6) (cwV 0 hts gX6_head_X1_columns rfl rfl rfl cdV_X1_columns ⟨Nat.le_of_ble_eq_true rfl, Nat.le_of_ble_eq_true rfl⟩) (ct_preV (q0 := 1) (ci := 1) E sb7 hP0 hD0 hS0 rfl rfl) rfl rfl hl0.1 rfl (lv_room (Nat.le_of_ble_eq_true rfl)) dX6_head_56 ⟨Nat.zero_le _, Nat.zero_le _⟩) (fun H8 lc8 hP8 hD8 hS8 => ?_); clear sb7 hcl6
      clear hP0 hD0 hS0
      have hP8 : va_P D vwCl (wf [oB (r0 0) 6 [.ref (r1 0), .ref (r2 0), .ref (r3 0), .ref (r4 0), .ref (r5 0), .ref (r6 0), .ref (r7 0), .ref (r8 0), .ref (r9 0), .int o_hasHeader, .int o_hasPicture, .int o_frameCount], oB (r3 3) 5 [.ref (r3 4), .int h3_h1_nodeCount, .int h3_h1_tokenCount, .int h3_h1_root], oB (r3 5) 5 [.ref (r3 6), .int h3_h2_nodeCount, .int h3_h2_tokenCount, .int h3_h2_root], oB (r3 0) 1 [.ref (r3 1), .ref (r3 2), .ref (r3 3), .ref (r3 5), .ref (r3 7), .int h3_columns, .int h3_rows, .int h3_limit]] []) H8 := hP8
      have hD8 : va_D A (wf [oB (r0 0) 6 [.ref (r1 0), .ref (r2 0), .ref (r3 0), .ref (r4 0), .ref (r5 0), .ref (r6 0), .ref (r7 0), .ref (r8 0), .ref (r9 0), .int o_hasHeader, .int o_hasPicture, .int o_frameCount], oB (r3 3) 5 [.ref (r3 4), .int h3_h1_nodeCount, .int h3_h1_tokenCount, .int h3_h1_root], oB (r3 5) 5 [.ref (r3 6), .int h3_h2_nodeCount, .int h3_h2_tokenCount, .int h3_h2_root], oB (r3 0) 1 [.ref (r3 1), .ref (r3 2), .ref (r3 3), .ref (r3 5), .ref (r3 7), .int h3_columns, .int h3_rows, .int h3_limit]] []) := hD8
      obtain ⟨hP9, hD9⟩ := ct_ord (n := 4) (k := 0) [0, 3, 1, 2] [] hP8 hD8 rfl rfl (by decide +kernel) (by decide +kernel)
      have hS9 := hS8
      have hP9 : va_P D vwCl (wf [oB (r0 0) 6 [.ref (r1 0), .ref (r2 0), .ref (r3 0), .ref (r4 0), .ref (r5 0), .ref (r6 0), .ref (r7 0), .ref (r8 0), .ref (r9 0), .int o_hasHeader, .int o_hasPicture, .int o_frameCount], oB (r3 0) 1 [.ref (r3 1), .ref (r3 2), .ref (r3 3), .ref (r3 5), .ref (r3 7), .int h3_columns, .int h3_rows, .int h3_limit], oB (r3 3) 5 [.ref (r3 4), .int h3_h1_nodeCount, .int h3_h1_tokenCount, .int h3_h1_root], oB (r3 5) 5 [.ref (r3 6), .int h3_h2_nodeCount, .int h3_h2_tokenCount, .int h3_h2_root]] []) H8 := hP9
      have hD9 : va_D A (wf [oB (r0 0) 6 [.ref (r1 0), .ref (r2 0), .ref (r3 0), .ref (r4 0), .ref (r5 0), .ref (r6 0), .ref (r7 0), .ref (r8 0), .ref (r9 0), .int o_hasHeader, .int o_hasPicture, .int o_frameCount], oB (r3 0) 1 [.ref (r3 1), .ref (r3 2), .ref (r3 3), .ref (r3 5), .ref (r3 7), .int h3_columns, .int h3_rows, .int h3_limit], oB (r3 3) 5 [.ref (r3 4), .int h3_h1_nodeCount, .int h3_h1_tokenCount, .int h3_h1_root], oB (r3 5) 5 [.ref (r3 6), .int h3_h2_nodeCount, .int h3_h2_tokenCount, .int h3_h2_root]] []) := hD9
      obtain rfl := Option.some.inj hm6
      rw [hQ]
      exact ct_iret hx hb hr hlk hP9 hD9 hS9 rfl dX6_head_59
    have hm10 := bq_f hm2 hc3; clear hm2
    by_cases hc11 : x1 = (1 : Int32)
    · have hm12 := bq_t hm10 hc11; clear hm10
      refine lv_tableIn (tgt := 60) hx hb dX6_head_18 (by rw [hc11]; decide) (by rw [hc11]; decide) (by rw [hc11]; rfl) (by decide) ?_
      refine lv_aload_n hx hb dX6_head_60 rfl (lv_at hl0 0 rfl) ?_
      refine va_get (D := D) (ci := 6) (v := .ref (r3 0)) (C := RX6) (T := TX6) (N := 12) hx hb hts hi_X6_head_6 hown E.1 hP0 0 rfl rfl 2 (by decide) (hts _ (List.mem_of_getElem? (i := 6) rfl)) (fun _ h9 => h9) rfl dX6_head_61 ?_
      obtain ⟨y_13, hcl14, hm14⟩ := bd1_some hm12; clear hm12
      have sb15 := ctS.mk (n := 4) (k := 0) (pre := [oB (r0 0) 6 [.ref (r1 0), .ref (r2 0), .ref (r3 0), .ref (r4 0), .ref (r5 0), .ref (r6 0), .ref (r7 0), .ref (r8 0), .ref (r9 0), .int o_hasHeader, .int o_hasPicture, .int o_frameCount], oB (r3 0) 1 [.ref (r3 1), .ref (r3 2), .ref (r3 3), .ref (r3 5), .ref (r3 7), .int h3_columns, .int h3_rows, .int h3_limit], oB (r3 3) 5 [.ref (r3 4), .int h3_h1_nodeCount, .int h3_h1_tokenCount, .int h3_h1_root], oB (r3 5) 5 [.ref (r3 6), .int h3_h2_nodeCount, .int h3_h2_tokenCount, .int h3_h2_root]]) (tl := []) [1] [0, 2, 3] [] [] rfl rfl (by decide +kernel) (by decide +kernel)
      refine ct_calli (r := y_13) E sb15 hP0 hD0 hS0 (va_runV (As := []) (rest := []) ⟨hx, hb, hml, hown, hts⟩ (c_X1_rows l D cB cI cJ cQ N r3 s.heap.size h3_columns h3_rows h3_limit (y_13) hcl14) (cwV 0 hts gX6_head_X1_rows rfl rfl rfl cdV_X1_rows ⟨Nat.le_of_ble_eq_true rfl, Nat.le_of_ble_eq_true rfl⟩) (ct_preV (q0 := 1) (ci := 1) E sb15 hP0 hD0 hS0 rfl rfl) rfl rfl hl0.1 rfl (lv_room (Nat.le_of_ble_eq_true rfl)) dX6_head_64 ⟨Nat.zero_le _, Nat.zero_le _⟩) (fun H16 lc16 hP16 hD16 hS16 => ?_); clear sb15 hcl14
      clear hP0 hD0 hS0
      have hP16 : va_P D vwCl (wf [oB (r0 0) 6 [.ref (r1 0), .ref (r2 0), .ref (r3 0), .ref (r4 0), .ref (r5 0), .ref (r6 0), .ref (r7 0), .ref (r8 0), .ref (r9 0), .int o_hasHeader, .int o_hasPicture, .int o_frameCount], oB (r3 3) 5 [.ref (r3 4), .int h3_h1_nodeCount, .int h3_h1_tokenCount, .int h3_h1_root], oB (r3 5) 5 [.ref (r3 6), .int h3_h2_nodeCount, .int h3_h2_tokenCount, .int h3_h2_root], oB (r3 0) 1 [.ref (r3 1), .ref (r3 2), .ref (r3 3), .ref (r3 5), .ref (r3 7), .int h3_columns, .int h3_rows, .int h3_limit]] []) H16 := hP16
      have hD16 : va_D A (wf [oB (r0 0) 6 [.ref (r1 0), .ref (r2 0), .ref (r3 0), .ref (r4 0), .ref (r5 0), .ref (r6 0), .ref (r7 0), .ref (r8 0), .ref (r9 0), .int o_hasHeader, .int o_hasPicture, .int o_frameCount], oB (r3 3) 5 [.ref (r3 4), .int h3_h1_nodeCount, .int h3_h1_tokenCount, .int h3_h1_root], oB (r3 5) 5 [.ref (r3 6), .int h3_h2_nodeCount, .int h3_h2_tokenCount, .int h3_h2_root], oB (r3 0) 1 [.ref (r3 1), .ref (r3 2), .ref (r3 3), .ref (r3 5), .ref (r3 7), .int h3_columns, .int h3_rows, .int h3_limit]] []) := hD16
      obtain ⟨hP17, hD17⟩ := ct_ord (n := 4) (k := 0) [0, 3, 1, 2] [] hP16 hD16 rfl rfl (by decide +kernel) (by decide +kernel)
      have hS17 := hS16
      have hP17 : va_P D vwCl (wf [oB (r0 0) 6 [.ref (r1 0), .ref (r2 0), .ref (r3 0), .ref (r4 0), .ref (r5 0), .ref (r6 0), .ref (r7 0), .ref (r8 0), .ref (r9 0), .int o_hasHeader, .int o_hasPicture, .int o_frameCount], oB (r3 0) 1 [.ref (r3 1), .ref (r3 2), .ref (r3 3), .ref (r3 5), .ref (r3 7), .int h3_columns, .int h3_rows, .int h3_limit], oB (r3 3) 5 [.ref (r3 4), .int h3_h1_nodeCount, .int h3_h1_tokenCount, .int h3_h1_root], oB (r3 5) 5 [.ref (r3 6), .int h3_h2_nodeCount, .int h3_h2_tokenCount, .int h3_h2_root]] []) H16 := hP17
      have hD17 : va_D A (wf [oB (r0 0) 6 [.ref (r1 0), .ref (r2 0), .ref (r3 0), .ref (r4 0), .ref (r5 0), .ref (r6 0), .ref (r7 0), .ref (r8 0), .ref (r9 0), .int o_hasHeader, .int o_hasPicture, .int o_frameCount], oB (r3 0) 1 [.ref (r3 1), .ref (r3 2), .ref (r3 3), .ref (r3 5), .ref (r3 7), .int h3_columns, .int h3_rows, .int h3_limit], oB (r3 3) 5 [.ref (r3 4), .int h3_h1_nodeCount, .int h3_h1_tokenCount, .int h3_h1_root], oB (r3 5) 5 [.ref (r3 6), .int h3_h2_nodeCount, .int h3_h2_tokenCount, .int h3_h2_root]] []) := hD17
      obtain rfl := Option.some.inj hm14
      rw [hQ]
      exact ct_iret hx hb hr hlk hP17 hD17 hS17 rfl dX6_head_67
    have hm18 := bq_f hm10 hc11; clear hm10
    by_cases hc19 : x1 = (2 : Int32)
    · have hm20 := bq_t hm18 hc19; clear hm18
      refine lv_tableIn (tgt := 68) hx hb dX6_head_18 (by rw [hc19]; decide) (by rw [hc19]; decide) (by rw [hc19]; rfl) (by decide) ?_
      refine lv_aload_n hx hb dX6_head_68 rfl (lv_at hl0 0 rfl) ?_
      refine va_get (D := D) (ci := 6) (v := .ref (r3 0)) (C := RX6) (T := TX6) (N := 12) hx hb hts hi_X6_head_6 hown E.1 hP0 0 rfl rfl 2 (by decide) (hts _ (List.mem_of_getElem? (i := 6) rfl)) (fun _ h9 => h9) rfl dX6_head_69 ?_
      obtain ⟨y_21, hcl22, hm22⟩ := bd1_some hm20; clear hm20
      have sb23 := ctS.mk (n := 4) (k := 0) (pre := [oB (r0 0) 6 [.ref (r1 0), .ref (r2 0), .ref (r3 0), .ref (r4 0), .ref (r5 0), .ref (r6 0), .ref (r7 0), .ref (r8 0), .ref (r9 0), .int o_hasHeader, .int o_hasPicture, .int o_frameCount], oB (r3 0) 1 [.ref (r3 1), .ref (r3 2), .ref (r3 3), .ref (r3 5), .ref (r3 7), .int h3_columns, .int h3_rows, .int h3_limit], oB (r3 3) 5 [.ref (r3 4), .int h3_h1_nodeCount, .int h3_h1_tokenCount, .int h3_h1_root], oB (r3 5) 5 [.ref (r3 6), .int h3_h2_nodeCount, .int h3_h2_tokenCount, .int h3_h2_root]]) (tl := []) [1] [0, 2, 3] [] [] rfl rfl (by decide +kernel) (by decide +kernel)
      refine ct_calli (r := y_21) E sb23 hP0 hD0 hS0 (va_runV (As := []) (rest := []) ⟨hx, hb, hml, hown, hts⟩ (c_X1_limit l D cB cI cJ cQ N r3 s.heap.size h3_columns h3_rows h3_limit (y_21) hcl22) (cwV 0 hts gX6_head_X1_limit rfl rfl rfl cdV_X1_limit ⟨Nat.le_of_ble_eq_true rfl, Nat.le_of_ble_eq_true rfl⟩) (ct_preV (q0 := 1) (ci := 1) E sb23 hP0 hD0 hS0 rfl rfl) rfl rfl hl0.1 rfl (lv_room (Nat.le_of_ble_eq_true rfl)) dX6_head_72 ⟨Nat.zero_le _, Nat.zero_le _⟩) (fun H24 lc24 hP24 hD24 hS24 => ?_); clear sb23 hcl22
      clear hP0 hD0 hS0
      have hP24 : va_P D vwCl (wf [oB (r0 0) 6 [.ref (r1 0), .ref (r2 0), .ref (r3 0), .ref (r4 0), .ref (r5 0), .ref (r6 0), .ref (r7 0), .ref (r8 0), .ref (r9 0), .int o_hasHeader, .int o_hasPicture, .int o_frameCount], oB (r3 3) 5 [.ref (r3 4), .int h3_h1_nodeCount, .int h3_h1_tokenCount, .int h3_h1_root], oB (r3 5) 5 [.ref (r3 6), .int h3_h2_nodeCount, .int h3_h2_tokenCount, .int h3_h2_root], oB (r3 0) 1 [.ref (r3 1), .ref (r3 2), .ref (r3 3), .ref (r3 5), .ref (r3 7), .int h3_columns, .int h3_rows, .int h3_limit]] []) H24 := hP24
      have hD24 : va_D A (wf [oB (r0 0) 6 [.ref (r1 0), .ref (r2 0), .ref (r3 0), .ref (r4 0), .ref (r5 0), .ref (r6 0), .ref (r7 0), .ref (r8 0), .ref (r9 0), .int o_hasHeader, .int o_hasPicture, .int o_frameCount], oB (r3 3) 5 [.ref (r3 4), .int h3_h1_nodeCount, .int h3_h1_tokenCount, .int h3_h1_root], oB (r3 5) 5 [.ref (r3 6), .int h3_h2_nodeCount, .int h3_h2_tokenCount, .int h3_h2_root], oB (r3 0) 1 [.ref (r3 1), .ref (r3 2), .ref (r3 3), .ref (r3 5), .ref (r3 7), .int h3_columns, .int h3_rows, .int h3_limit]] []) := hD24
      obtain ⟨hP25, hD25⟩ := ct_ord (n := 4) (k := 0) [0, 3, 1, 2] [] hP24 hD24 rfl rfl (by decide +kernel) (by decide +kernel)
      have hS25 := hS24
      have hP25 : va_P D vwCl (wf [oB (r0 0) 6 [.ref (r1 0), .ref (r2 0), .ref (r3 0), .ref (r4 0), .ref (r5 0), .ref (r6 0), .ref (r7 0), .ref (r8 0), .ref (r9 0), .int o_hasHeader, .int o_hasPicture, .int o_frameCount], oB (r3 0) 1 [.ref (r3 1), .ref (r3 2), .ref (r3 3), .ref (r3 5), .ref (r3 7), .int h3_columns, .int h3_rows, .int h3_limit], oB (r3 3) 5 [.ref (r3 4), .int h3_h1_nodeCount, .int h3_h1_tokenCount, .int h3_h1_root], oB (r3 5) 5 [.ref (r3 6), .int h3_h2_nodeCount, .int h3_h2_tokenCount, .int h3_h2_root]] []) H24 := hP25
      have hD25 : va_D A (wf [oB (r0 0) 6 [.ref (r1 0), .ref (r2 0), .ref (r3 0), .ref (r4 0), .ref (r5 0), .ref (r6 0), .ref (r7 0), .ref (r8 0), .ref (r9 0), .int o_hasHeader, .int o_hasPicture, .int o_frameCount], oB (r3 0) 1 [.ref (r3 1), .ref (r3 2), .ref (r3 3), .ref (r3 5), .ref (r3 7), .int h3_columns, .int h3_rows, .int h3_limit], oB (r3 3) 5 [.ref (r3 4), .int h3_h1_nodeCount, .int h3_h1_tokenCount, .int h3_h1_root], oB (r3 5) 5 [.ref (r3 6), .int h3_h2_nodeCount, .int h3_h2_tokenCount, .int h3_h2_root]] []) := hD25
      obtain rfl := Option.some.inj hm22
      rw [hQ]
      exact ct_iret hx hb hr hlk hP25 hD25 hS25 rfl dX6_head_75
    have hm26 := bq_f hm18 hc19; clear hm18
    by_cases hc27 : x1 = (3 : Int32)
    · have hm28 := bq_t hm26 hc27; clear hm26
      refine lv_tableIn (tgt := 76) hx hb dX6_head_18 (by rw [hc27]; decide) (by rw [hc27]; decide) (by rw [hc27]; rfl) (by decide) ?_
      refine lv_aload_n hx hb dX6_head_76 rfl (lv_at hl0 0 rfl) ?_
      refine va_get (D := D) (ci := 6) (v := .ref (r3 0)) (C := RX6) (T := TX6) (N := 12) hx hb hts hi_X6_head_6 hown E.1 hP0 0 rfl rfl 2 (by decide) (hts _ (List.mem_of_getElem? (i := 6) rfl)) (fun _ h9 => h9) rfl dX6_head_77 ?_
      refine lv_iconst (v := 0) hx hb dX6_head_80 (by decide) ?_
      by_cases hc29 : (0 : Int32) = (0 : Int32)
      · have hm30 := bq_t hm28 hc29; clear hm28
        have sb31 := ctS.mk (n := 4) (k := 0) (pre := [oB (r0 0) 6 [.ref (r1 0), .ref (r2 0), .ref (r3 0), .ref (r4 0), .ref (r5 0), .ref (r6 0), .ref (r7 0), .ref (r8 0), .ref (r9 0), .int o_hasHeader, .int o_hasPicture, .int o_frameCount], oB (r3 0) 1 [.ref (r3 1), .ref (r3 2), .ref (r3 3), .ref (r3 5), .ref (r3 7), .int h3_columns, .int h3_rows, .int h3_limit], oB (r3 3) 5 [.ref (r3 4), .int h3_h1_nodeCount, .int h3_h1_tokenCount, .int h3_h1_root], oB (r3 5) 5 [.ref (r3 6), .int h3_h2_nodeCount, .int h3_h2_tokenCount, .int h3_h2_root]]) (tl := []) [1] [0, 2, 3] [] [] rfl rfl (by decide +kernel) (by decide +kernel)
        refine ct_callr (ra := r3 3) E sb31 hP0 hD0 hS0 (va_runV (As := [.int (0 : Int32)]) (rest := []) ⟨hx, hb, hml, hown, hts⟩ (c_X1_treeFor_t l D cB cI cJ cQ N r3 s.heap.size (0 : Int32) h3_columns h3_rows h3_limit hc29) (cwV 1 hts gX6_head_X1_treeFor rfl rfl rfl cdV_X1_treeFor ⟨Nat.le_of_ble_eq_true rfl, Nat.le_of_ble_eq_true rfl⟩) (ct_preV (q0 := 1) (ci := 1) E sb31 hP0 hD0 hS0 rfl rfl) rfl rfl hl0.1 rfl (lv_room (Nat.le_of_ble_eq_true rfl)) dX6_head_81 ⟨Nat.zero_le _, Nat.zero_le _⟩) (fun H32 lc32 hP32 hD32 hS32 => ?_); clear sb31
        clear hP0 hD0 hS0
        have hP32 : va_P D vwCl (wf [oB (r0 0) 6 [.ref (r1 0), .ref (r2 0), .ref (r3 0), .ref (r4 0), .ref (r5 0), .ref (r6 0), .ref (r7 0), .ref (r8 0), .ref (r9 0), .int o_hasHeader, .int o_hasPicture, .int o_frameCount], oB (r3 3) 5 [.ref (r3 4), .int h3_h1_nodeCount, .int h3_h1_tokenCount, .int h3_h1_root], oB (r3 5) 5 [.ref (r3 6), .int h3_h2_nodeCount, .int h3_h2_tokenCount, .int h3_h2_root], oB (r3 0) 1 [.ref (r3 1), .ref (r3 2), .ref (r3 3), .ref (r3 5), .ref (r3 7), .int h3_columns, .int h3_rows, .int h3_limit]] []) H32 := hP32
        have hD32 : va_D A (wf [oB (r0 0) 6 [.ref (r1 0), .ref (r2 0), .ref (r3 0), .ref (r4 0), .ref (r5 0), .ref (r6 0), .ref (r7 0), .ref (r8 0), .ref (r9 0), .int o_hasHeader, .int o_hasPicture, .int o_frameCount], oB (r3 3) 5 [.ref (r3 4), .int h3_h1_nodeCount, .int h3_h1_tokenCount, .int h3_h1_root], oB (r3 5) 5 [.ref (r3 6), .int h3_h2_nodeCount, .int h3_h2_tokenCount, .int h3_h2_root], oB (r3 0) 1 [.ref (r3 1), .ref (r3 2), .ref (r3 3), .ref (r3 5), .ref (r3 7), .int h3_columns, .int h3_rows, .int h3_limit]] []) := hD32
        obtain ⟨y_33, hcl34, hm34⟩ := bd1_some hm30; clear hm30
        have sb35 := ctS.mk (n := 4) (k := 0) (pre := [oB (r0 0) 6 [.ref (r1 0), .ref (r2 0), .ref (r3 0), .ref (r4 0), .ref (r5 0), .ref (r6 0), .ref (r7 0), .ref (r8 0), .ref (r9 0), .int o_hasHeader, .int o_hasPicture, .int o_frameCount], oB (r3 3) 5 [.ref (r3 4), .int h3_h1_nodeCount, .int h3_h1_tokenCount, .int h3_h1_root], oB (r3 5) 5 [.ref (r3 6), .int h3_h2_nodeCount, .int h3_h2_tokenCount, .int h3_h2_root], oB (r3 0) 1 [.ref (r3 1), .ref (r3 2), .ref (r3 3), .ref (r3 5), .ref (r3 7), .int h3_columns, .int h3_rows, .int h3_limit]]) (tl := []) [1] [0, 2, 3] [] [] rfl rfl (by decide +kernel) (by decide +kernel)
        refine ct_calli (r := y_33) E sb35 hP32 hD32 hS32 (va_runV (As := []) (rest := []) ⟨hx, hb, hml, hown, hts⟩ (c_X5_tokenCount l D cB cI cJ cQ N (fun k => r3 (3 + k)) H32.size h3_h1_nodeCount h3_h1_tokenCount h3_h1_root (y_33) hcl34) (cwV 0 hts gX6_head_X5_tokenCount rfl rfl rfl cdV_X5_tokenCount ⟨Nat.le_of_ble_eq_true rfl, Nat.le_of_ble_eq_true rfl⟩) (ct_preV (q0 := 1) (ci := 5) E sb35 hP32 hD32 hS32 rfl rfl) rfl rfl hl0.1 rfl (lv_room (Nat.le_of_ble_eq_true rfl)) dX6_head_84 ⟨Nat.zero_le _, Nat.zero_le _⟩) (fun H36 lc36 hP36 hD36 hS36 => ?_); clear sb35 hcl34
        clear hP32 hD32 hS32
        have hP36 : va_P D vwCl (wf [oB (r0 0) 6 [.ref (r1 0), .ref (r2 0), .ref (r3 0), .ref (r4 0), .ref (r5 0), .ref (r6 0), .ref (r7 0), .ref (r8 0), .ref (r9 0), .int o_hasHeader, .int o_hasPicture, .int o_frameCount], oB (r3 5) 5 [.ref (r3 6), .int h3_h2_nodeCount, .int h3_h2_tokenCount, .int h3_h2_root], oB (r3 0) 1 [.ref (r3 1), .ref (r3 2), .ref (r3 3), .ref (r3 5), .ref (r3 7), .int h3_columns, .int h3_rows, .int h3_limit], oB (r3 3) 5 [.ref (r3 4), .int h3_h1_nodeCount, .int h3_h1_tokenCount, .int h3_h1_root]] []) H36 := hP36
        have hD36 : va_D A (wf [oB (r0 0) 6 [.ref (r1 0), .ref (r2 0), .ref (r3 0), .ref (r4 0), .ref (r5 0), .ref (r6 0), .ref (r7 0), .ref (r8 0), .ref (r9 0), .int o_hasHeader, .int o_hasPicture, .int o_frameCount], oB (r3 5) 5 [.ref (r3 6), .int h3_h2_nodeCount, .int h3_h2_tokenCount, .int h3_h2_root], oB (r3 0) 1 [.ref (r3 1), .ref (r3 2), .ref (r3 3), .ref (r3 5), .ref (r3 7), .int h3_columns, .int h3_rows, .int h3_limit], oB (r3 3) 5 [.ref (r3 4), .int h3_h1_nodeCount, .int h3_h1_tokenCount, .int h3_h1_root]] []) := hD36
        obtain ⟨hP37, hD37⟩ := ct_ord (n := 4) (k := 0) [0, 2, 3, 1] [] hP36 hD36 rfl rfl (by decide +kernel) (by decide +kernel)
        have hS37 := hS36
        have hP37 : va_P D vwCl (wf [oB (r0 0) 6 [.ref (r1 0), .ref (r2 0), .ref (r3 0), .ref (r4 0), .ref (r5 0), .ref (r6 0), .ref (r7 0), .ref (r8 0), .ref (r9 0), .int o_hasHeader, .int o_hasPicture, .int o_frameCount], oB (r3 0) 1 [.ref (r3 1), .ref (r3 2), .ref (r3 3), .ref (r3 5), .ref (r3 7), .int h3_columns, .int h3_rows, .int h3_limit], oB (r3 3) 5 [.ref (r3 4), .int h3_h1_nodeCount, .int h3_h1_tokenCount, .int h3_h1_root], oB (r3 5) 5 [.ref (r3 6), .int h3_h2_nodeCount, .int h3_h2_tokenCount, .int h3_h2_root]] []) H36 := hP37
        have hD37 : va_D A (wf [oB (r0 0) 6 [.ref (r1 0), .ref (r2 0), .ref (r3 0), .ref (r4 0), .ref (r5 0), .ref (r6 0), .ref (r7 0), .ref (r8 0), .ref (r9 0), .int o_hasHeader, .int o_hasPicture, .int o_frameCount], oB (r3 0) 1 [.ref (r3 1), .ref (r3 2), .ref (r3 3), .ref (r3 5), .ref (r3 7), .int h3_columns, .int h3_rows, .int h3_limit], oB (r3 3) 5 [.ref (r3 4), .int h3_h1_nodeCount, .int h3_h1_tokenCount, .int h3_h1_root], oB (r3 5) 5 [.ref (r3 6), .int h3_h2_nodeCount, .int h3_h2_tokenCount, .int h3_h2_root]] []) := hD37
        obtain rfl := Option.some.inj hm34
        rw [hQ]
        exact ct_iret hx hb hr hlk hP37 hD37 hS37 rfl dX6_head_87
      · have hm38 := bq_f hm28 hc29; clear hm28
        have sb39 := ctS.mk (n := 4) (k := 0) (pre := [oB (r0 0) 6 [.ref (r1 0), .ref (r2 0), .ref (r3 0), .ref (r4 0), .ref (r5 0), .ref (r6 0), .ref (r7 0), .ref (r8 0), .ref (r9 0), .int o_hasHeader, .int o_hasPicture, .int o_frameCount], oB (r3 0) 1 [.ref (r3 1), .ref (r3 2), .ref (r3 3), .ref (r3 5), .ref (r3 7), .int h3_columns, .int h3_rows, .int h3_limit], oB (r3 3) 5 [.ref (r3 4), .int h3_h1_nodeCount, .int h3_h1_tokenCount, .int h3_h1_root], oB (r3 5) 5 [.ref (r3 6), .int h3_h2_nodeCount, .int h3_h2_tokenCount, .int h3_h2_root]]) (tl := []) [1] [0, 2, 3] [] [] rfl rfl (by decide +kernel) (by decide +kernel)
        refine ct_callr (ra := r3 5) E sb39 hP0 hD0 hS0 (va_runV (As := [.int (0 : Int32)]) (rest := []) ⟨hx, hb, hml, hown, hts⟩ (c_X1_treeFor_f l D cB cI cJ cQ N r3 s.heap.size (0 : Int32) h3_columns h3_rows h3_limit hc29) (cwV 1 hts gX6_head_X1_treeFor rfl rfl rfl cdV_X1_treeFor ⟨Nat.le_of_ble_eq_true rfl, Nat.le_of_ble_eq_true rfl⟩) (ct_preV (q0 := 1) (ci := 1) E sb39 hP0 hD0 hS0 rfl rfl) rfl rfl hl0.1 rfl (lv_room (Nat.le_of_ble_eq_true rfl)) dX6_head_81 ⟨Nat.zero_le _, Nat.zero_le _⟩) (fun H40 lc40 hP40 hD40 hS40 => ?_); clear sb39
        clear hP0 hD0 hS0
        have hP40 : va_P D vwCl (wf [oB (r0 0) 6 [.ref (r1 0), .ref (r2 0), .ref (r3 0), .ref (r4 0), .ref (r5 0), .ref (r6 0), .ref (r7 0), .ref (r8 0), .ref (r9 0), .int o_hasHeader, .int o_hasPicture, .int o_frameCount], oB (r3 3) 5 [.ref (r3 4), .int h3_h1_nodeCount, .int h3_h1_tokenCount, .int h3_h1_root], oB (r3 5) 5 [.ref (r3 6), .int h3_h2_nodeCount, .int h3_h2_tokenCount, .int h3_h2_root], oB (r3 0) 1 [.ref (r3 1), .ref (r3 2), .ref (r3 3), .ref (r3 5), .ref (r3 7), .int h3_columns, .int h3_rows, .int h3_limit]] []) H40 := hP40
        have hD40 : va_D A (wf [oB (r0 0) 6 [.ref (r1 0), .ref (r2 0), .ref (r3 0), .ref (r4 0), .ref (r5 0), .ref (r6 0), .ref (r7 0), .ref (r8 0), .ref (r9 0), .int o_hasHeader, .int o_hasPicture, .int o_frameCount], oB (r3 3) 5 [.ref (r3 4), .int h3_h1_nodeCount, .int h3_h1_tokenCount, .int h3_h1_root], oB (r3 5) 5 [.ref (r3 6), .int h3_h2_nodeCount, .int h3_h2_tokenCount, .int h3_h2_root], oB (r3 0) 1 [.ref (r3 1), .ref (r3 2), .ref (r3 3), .ref (r3 5), .ref (r3 7), .int h3_columns, .int h3_rows, .int h3_limit]] []) := hD40
        obtain ⟨y_41, hcl42, hm42⟩ := bd1_some hm38; clear hm38
        have sb43 := ctS.mk (n := 4) (k := 0) (pre := [oB (r0 0) 6 [.ref (r1 0), .ref (r2 0), .ref (r3 0), .ref (r4 0), .ref (r5 0), .ref (r6 0), .ref (r7 0), .ref (r8 0), .ref (r9 0), .int o_hasHeader, .int o_hasPicture, .int o_frameCount], oB (r3 3) 5 [.ref (r3 4), .int h3_h1_nodeCount, .int h3_h1_tokenCount, .int h3_h1_root], oB (r3 5) 5 [.ref (r3 6), .int h3_h2_nodeCount, .int h3_h2_tokenCount, .int h3_h2_root], oB (r3 0) 1 [.ref (r3 1), .ref (r3 2), .ref (r3 3), .ref (r3 5), .ref (r3 7), .int h3_columns, .int h3_rows, .int h3_limit]]) (tl := []) [2] [0, 1, 3] [] [] rfl rfl (by decide +kernel) (by decide +kernel)
        refine ct_calli (r := y_41) E sb43 hP40 hD40 hS40 (va_runV (As := []) (rest := []) ⟨hx, hb, hml, hown, hts⟩ (c_X5_tokenCount l D cB cI cJ cQ N (fun k => r3 (5 + k)) H40.size h3_h2_nodeCount h3_h2_tokenCount h3_h2_root (y_41) hcl42) (cwV 0 hts gX6_head_X5_tokenCount rfl rfl rfl cdV_X5_tokenCount ⟨Nat.le_of_ble_eq_true rfl, Nat.le_of_ble_eq_true rfl⟩) (ct_preV (q0 := 2) (ci := 5) E sb43 hP40 hD40 hS40 rfl rfl) rfl rfl hl0.1 rfl (lv_room (Nat.le_of_ble_eq_true rfl)) dX6_head_84 ⟨Nat.zero_le _, Nat.zero_le _⟩) (fun H44 lc44 hP44 hD44 hS44 => ?_); clear sb43 hcl42
        clear hP40 hD40 hS40
        have hP44 : va_P D vwCl (wf [oB (r0 0) 6 [.ref (r1 0), .ref (r2 0), .ref (r3 0), .ref (r4 0), .ref (r5 0), .ref (r6 0), .ref (r7 0), .ref (r8 0), .ref (r9 0), .int o_hasHeader, .int o_hasPicture, .int o_frameCount], oB (r3 3) 5 [.ref (r3 4), .int h3_h1_nodeCount, .int h3_h1_tokenCount, .int h3_h1_root], oB (r3 0) 1 [.ref (r3 1), .ref (r3 2), .ref (r3 3), .ref (r3 5), .ref (r3 7), .int h3_columns, .int h3_rows, .int h3_limit], oB (r3 5) 5 [.ref (r3 6), .int h3_h2_nodeCount, .int h3_h2_tokenCount, .int h3_h2_root]] []) H44 := hP44
        have hD44 : va_D A (wf [oB (r0 0) 6 [.ref (r1 0), .ref (r2 0), .ref (r3 0), .ref (r4 0), .ref (r5 0), .ref (r6 0), .ref (r7 0), .ref (r8 0), .ref (r9 0), .int o_hasHeader, .int o_hasPicture, .int o_frameCount], oB (r3 3) 5 [.ref (r3 4), .int h3_h1_nodeCount, .int h3_h1_tokenCount, .int h3_h1_root], oB (r3 0) 1 [.ref (r3 1), .ref (r3 2), .ref (r3 3), .ref (r3 5), .ref (r3 7), .int h3_columns, .int h3_rows, .int h3_limit], oB (r3 5) 5 [.ref (r3 6), .int h3_h2_nodeCount, .int h3_h2_tokenCount, .int h3_h2_root]] []) := hD44
        obtain ⟨hP45, hD45⟩ := ct_ord (n := 4) (k := 0) [0, 2, 1, 3] [] hP44 hD44 rfl rfl (by decide +kernel) (by decide +kernel)
        have hS45 := hS44
        have hP45 : va_P D vwCl (wf [oB (r0 0) 6 [.ref (r1 0), .ref (r2 0), .ref (r3 0), .ref (r4 0), .ref (r5 0), .ref (r6 0), .ref (r7 0), .ref (r8 0), .ref (r9 0), .int o_hasHeader, .int o_hasPicture, .int o_frameCount], oB (r3 0) 1 [.ref (r3 1), .ref (r3 2), .ref (r3 3), .ref (r3 5), .ref (r3 7), .int h3_columns, .int h3_rows, .int h3_limit], oB (r3 3) 5 [.ref (r3 4), .int h3_h1_nodeCount, .int h3_h1_tokenCount, .int h3_h1_root], oB (r3 5) 5 [.ref (r3 6), .int h3_h2_nodeCount, .int h3_h2_tokenCount, .int h3_h2_root]] []) H44 := hP45
        have hD45 : va_D A (wf [oB (r0 0) 6 [.ref (r1 0), .ref (r2 0), .ref (r3 0), .ref (r4 0), .ref (r5 0), .ref (r6 0), .ref (r7 0), .ref (r8 0), .ref (r9 0), .int o_hasHeader, .int o_hasPicture, .int o_frameCount], oB (r3 0) 1 [.ref (r3 1), .ref (r3 2), .ref (r3 3), .ref (r3 5), .ref (r3 7), .int h3_columns, .int h3_rows, .int h3_limit], oB (r3 3) 5 [.ref (r3 4), .int h3_h1_nodeCount, .int h3_h1_tokenCount, .int h3_h1_root], oB (r3 5) 5 [.ref (r3 6), .int h3_h2_nodeCount, .int h3_h2_tokenCount, .int h3_h2_root]] []) := hD45
        obtain rfl := Option.some.inj hm42
        rw [hQ]
        exact ct_iret hx hb hr hlk hP45 hD45 hS45 rfl dX6_head_87
    have hm46 := bq_f hm26 hc27; clear hm26
    by_cases hc47 : x1 = (4 : Int32)
    · have hm48 := bq_t hm46 hc47; clear hm46
      refine lv_tableIn (tgt := 88) hx hb dX6_head_18 (by rw [hc47]; decide) (by rw [hc47]; decide) (by rw [hc47]; rfl) (by decide) ?_
      refine lv_aload_n hx hb dX6_head_88 rfl (lv_at hl0 0 rfl) ?_
      refine va_get (D := D) (ci := 6) (v := .ref (r3 0)) (C := RX6) (T := TX6) (N := 12) hx hb hts hi_X6_head_6 hown E.1 hP0 0 rfl rfl 2 (by decide) (hts _ (List.mem_of_getElem? (i := 6) rfl)) (fun _ h9 => h9) rfl dX6_head_89 ?_
      refine lv_iconst (v := 1) hx hb dX6_head_92 (by decide) ?_
      by_cases hc49 : (1 : Int32) = (0 : Int32)
      · have hm50 := bq_t hm48 hc49; clear hm48
        have sb51 := ctS.mk (n := 4) (k := 0) (pre := [oB (r0 0) 6 [.ref (r1 0), .ref (r2 0), .ref (r3 0), .ref (r4 0), .ref (r5 0), .ref (r6 0), .ref (r7 0), .ref (r8 0), .ref (r9 0), .int o_hasHeader, .int o_hasPicture, .int o_frameCount], oB (r3 0) 1 [.ref (r3 1), .ref (r3 2), .ref (r3 3), .ref (r3 5), .ref (r3 7), .int h3_columns, .int h3_rows, .int h3_limit], oB (r3 3) 5 [.ref (r3 4), .int h3_h1_nodeCount, .int h3_h1_tokenCount, .int h3_h1_root], oB (r3 5) 5 [.ref (r3 6), .int h3_h2_nodeCount, .int h3_h2_tokenCount, .int h3_h2_root]]) (tl := []) [1] [0, 2, 3] [] [] rfl rfl (by decide +kernel) (by decide +kernel)
        refine ct_callr (ra := r3 3) E sb51 hP0 hD0 hS0 (va_runV (As := [.int (1 : Int32)]) (rest := []) ⟨hx, hb, hml, hown, hts⟩ (c_X1_treeFor_t l D cB cI cJ cQ N r3 s.heap.size (1 : Int32) h3_columns h3_rows h3_limit hc49) (cwV 1 hts gX6_head_X1_treeFor rfl rfl rfl cdV_X1_treeFor ⟨Nat.le_of_ble_eq_true rfl, Nat.le_of_ble_eq_true rfl⟩) (ct_preV (q0 := 1) (ci := 1) E sb51 hP0 hD0 hS0 rfl rfl) rfl rfl hl0.1 rfl (lv_room (Nat.le_of_ble_eq_true rfl)) dX6_head_93 ⟨Nat.zero_le _, Nat.zero_le _⟩) (fun H52 lc52 hP52 hD52 hS52 => ?_); clear sb51
        clear hP0 hD0 hS0
        have hP52 : va_P D vwCl (wf [oB (r0 0) 6 [.ref (r1 0), .ref (r2 0), .ref (r3 0), .ref (r4 0), .ref (r5 0), .ref (r6 0), .ref (r7 0), .ref (r8 0), .ref (r9 0), .int o_hasHeader, .int o_hasPicture, .int o_frameCount], oB (r3 3) 5 [.ref (r3 4), .int h3_h1_nodeCount, .int h3_h1_tokenCount, .int h3_h1_root], oB (r3 5) 5 [.ref (r3 6), .int h3_h2_nodeCount, .int h3_h2_tokenCount, .int h3_h2_root], oB (r3 0) 1 [.ref (r3 1), .ref (r3 2), .ref (r3 3), .ref (r3 5), .ref (r3 7), .int h3_columns, .int h3_rows, .int h3_limit]] []) H52 := hP52
        have hD52 : va_D A (wf [oB (r0 0) 6 [.ref (r1 0), .ref (r2 0), .ref (r3 0), .ref (r4 0), .ref (r5 0), .ref (r6 0), .ref (r7 0), .ref (r8 0), .ref (r9 0), .int o_hasHeader, .int o_hasPicture, .int o_frameCount], oB (r3 3) 5 [.ref (r3 4), .int h3_h1_nodeCount, .int h3_h1_tokenCount, .int h3_h1_root], oB (r3 5) 5 [.ref (r3 6), .int h3_h2_nodeCount, .int h3_h2_tokenCount, .int h3_h2_root], oB (r3 0) 1 [.ref (r3 1), .ref (r3 2), .ref (r3 3), .ref (r3 5), .ref (r3 7), .int h3_columns, .int h3_rows, .int h3_limit]] []) := hD52
        obtain ⟨y_53, hcl54, hm54⟩ := bd1_some hm50; clear hm50
        have sb55 := ctS.mk (n := 4) (k := 0) (pre := [oB (r0 0) 6 [.ref (r1 0), .ref (r2 0), .ref (r3 0), .ref (r4 0), .ref (r5 0), .ref (r6 0), .ref (r7 0), .ref (r8 0), .ref (r9 0), .int o_hasHeader, .int o_hasPicture, .int o_frameCount], oB (r3 3) 5 [.ref (r3 4), .int h3_h1_nodeCount, .int h3_h1_tokenCount, .int h3_h1_root], oB (r3 5) 5 [.ref (r3 6), .int h3_h2_nodeCount, .int h3_h2_tokenCount, .int h3_h2_root], oB (r3 0) 1 [.ref (r3 1), .ref (r3 2), .ref (r3 3), .ref (r3 5), .ref (r3 7), .int h3_columns, .int h3_rows, .int h3_limit]]) (tl := []) [1] [0, 2, 3] [] [] rfl rfl (by decide +kernel) (by decide +kernel)
        refine ct_calli (r := y_53) E sb55 hP52 hD52 hS52 (va_runV (As := []) (rest := []) ⟨hx, hb, hml, hown, hts⟩ (c_X5_tokenCount l D cB cI cJ cQ N (fun k => r3 (3 + k)) H52.size h3_h1_nodeCount h3_h1_tokenCount h3_h1_root (y_53) hcl54) (cwV 0 hts gX6_head_X5_tokenCount rfl rfl rfl cdV_X5_tokenCount ⟨Nat.le_of_ble_eq_true rfl, Nat.le_of_ble_eq_true rfl⟩) (ct_preV (q0 := 1) (ci := 5) E sb55 hP52 hD52 hS52 rfl rfl) rfl rfl hl0.1 rfl (lv_room (Nat.le_of_ble_eq_true rfl)) dX6_head_96 ⟨Nat.zero_le _, Nat.zero_le _⟩) (fun H56 lc56 hP56 hD56 hS56 => ?_); clear sb55 hcl54
        clear hP52 hD52 hS52
        have hP56 : va_P D vwCl (wf [oB (r0 0) 6 [.ref (r1 0), .ref (r2 0), .ref (r3 0), .ref (r4 0), .ref (r5 0), .ref (r6 0), .ref (r7 0), .ref (r8 0), .ref (r9 0), .int o_hasHeader, .int o_hasPicture, .int o_frameCount], oB (r3 5) 5 [.ref (r3 6), .int h3_h2_nodeCount, .int h3_h2_tokenCount, .int h3_h2_root], oB (r3 0) 1 [.ref (r3 1), .ref (r3 2), .ref (r3 3), .ref (r3 5), .ref (r3 7), .int h3_columns, .int h3_rows, .int h3_limit], oB (r3 3) 5 [.ref (r3 4), .int h3_h1_nodeCount, .int h3_h1_tokenCount, .int h3_h1_root]] []) H56 := hP56
        have hD56 : va_D A (wf [oB (r0 0) 6 [.ref (r1 0), .ref (r2 0), .ref (r3 0), .ref (r4 0), .ref (r5 0), .ref (r6 0), .ref (r7 0), .ref (r8 0), .ref (r9 0), .int o_hasHeader, .int o_hasPicture, .int o_frameCount], oB (r3 5) 5 [.ref (r3 6), .int h3_h2_nodeCount, .int h3_h2_tokenCount, .int h3_h2_root], oB (r3 0) 1 [.ref (r3 1), .ref (r3 2), .ref (r3 3), .ref (r3 5), .ref (r3 7), .int h3_columns, .int h3_rows, .int h3_limit], oB (r3 3) 5 [.ref (r3 4), .int h3_h1_nodeCount, .int h3_h1_tokenCount, .int h3_h1_root]] []) := hD56
        obtain ⟨hP57, hD57⟩ := ct_ord (n := 4) (k := 0) [0, 2, 3, 1] [] hP56 hD56 rfl rfl (by decide +kernel) (by decide +kernel)
        have hS57 := hS56
        have hP57 : va_P D vwCl (wf [oB (r0 0) 6 [.ref (r1 0), .ref (r2 0), .ref (r3 0), .ref (r4 0), .ref (r5 0), .ref (r6 0), .ref (r7 0), .ref (r8 0), .ref (r9 0), .int o_hasHeader, .int o_hasPicture, .int o_frameCount], oB (r3 0) 1 [.ref (r3 1), .ref (r3 2), .ref (r3 3), .ref (r3 5), .ref (r3 7), .int h3_columns, .int h3_rows, .int h3_limit], oB (r3 3) 5 [.ref (r3 4), .int h3_h1_nodeCount, .int h3_h1_tokenCount, .int h3_h1_root], oB (r3 5) 5 [.ref (r3 6), .int h3_h2_nodeCount, .int h3_h2_tokenCount, .int h3_h2_root]] []) H56 := hP57
        have hD57 : va_D A (wf [oB (r0 0) 6 [.ref (r1 0), .ref (r2 0), .ref (r3 0), .ref (r4 0), .ref (r5 0), .ref (r6 0), .ref (r7 0), .ref (r8 0), .ref (r9 0), .int o_hasHeader, .int o_hasPicture, .int o_frameCount], oB (r3 0) 1 [.ref (r3 1), .ref (r3 2), .ref (r3 3), .ref (r3 5), .ref (r3 7), .int h3_columns, .int h3_rows, .int h3_limit], oB (r3 3) 5 [.ref (r3 4), .int h3_h1_nodeCount, .int h3_h1_tokenCount, .int h3_h1_root], oB (r3 5) 5 [.ref (r3 6), .int h3_h2_nodeCount, .int h3_h2_tokenCount, .int h3_h2_root]] []) := hD57
        obtain rfl := Option.some.inj hm54
        rw [hQ]
        exact ct_iret hx hb hr hlk hP57 hD57 hS57 rfl dX6_head_99
      · have hm58 := bq_f hm48 hc49; clear hm48
        have sb59 := ctS.mk (n := 4) (k := 0) (pre := [oB (r0 0) 6 [.ref (r1 0), .ref (r2 0), .ref (r3 0), .ref (r4 0), .ref (r5 0), .ref (r6 0), .ref (r7 0), .ref (r8 0), .ref (r9 0), .int o_hasHeader, .int o_hasPicture, .int o_frameCount], oB (r3 0) 1 [.ref (r3 1), .ref (r3 2), .ref (r3 3), .ref (r3 5), .ref (r3 7), .int h3_columns, .int h3_rows, .int h3_limit], oB (r3 3) 5 [.ref (r3 4), .int h3_h1_nodeCount, .int h3_h1_tokenCount, .int h3_h1_root], oB (r3 5) 5 [.ref (r3 6), .int h3_h2_nodeCount, .int h3_h2_tokenCount, .int h3_h2_root]]) (tl := []) [1] [0, 2, 3] [] [] rfl rfl (by decide +kernel) (by decide +kernel)
        refine ct_callr (ra := r3 5) E sb59 hP0 hD0 hS0 (va_runV (As := [.int (1 : Int32)]) (rest := []) ⟨hx, hb, hml, hown, hts⟩ (c_X1_treeFor_f l D cB cI cJ cQ N r3 s.heap.size (1 : Int32) h3_columns h3_rows h3_limit hc49) (cwV 1 hts gX6_head_X1_treeFor rfl rfl rfl cdV_X1_treeFor ⟨Nat.le_of_ble_eq_true rfl, Nat.le_of_ble_eq_true rfl⟩) (ct_preV (q0 := 1) (ci := 1) E sb59 hP0 hD0 hS0 rfl rfl) rfl rfl hl0.1 rfl (lv_room (Nat.le_of_ble_eq_true rfl)) dX6_head_93 ⟨Nat.zero_le _, Nat.zero_le _⟩) (fun H60 lc60 hP60 hD60 hS60 => ?_); clear sb59
        clear hP0 hD0 hS0
        have hP60 : va_P D vwCl (wf [oB (r0 0) 6 [.ref (r1 0), .ref (r2 0), .ref (r3 0), .ref (r4 0), .ref (r5 0), .ref (r6 0), .ref (r7 0), .ref (r8 0), .ref (r9 0), .int o_hasHeader, .int o_hasPicture, .int o_frameCount], oB (r3 3) 5 [.ref (r3 4), .int h3_h1_nodeCount, .int h3_h1_tokenCount, .int h3_h1_root], oB (r3 5) 5 [.ref (r3 6), .int h3_h2_nodeCount, .int h3_h2_tokenCount, .int h3_h2_root], oB (r3 0) 1 [.ref (r3 1), .ref (r3 2), .ref (r3 3), .ref (r3 5), .ref (r3 7), .int h3_columns, .int h3_rows, .int h3_limit]] []) H60 := hP60
        have hD60 : va_D A (wf [oB (r0 0) 6 [.ref (r1 0), .ref (r2 0), .ref (r3 0), .ref (r4 0), .ref (r5 0), .ref (r6 0), .ref (r7 0), .ref (r8 0), .ref (r9 0), .int o_hasHeader, .int o_hasPicture, .int o_frameCount], oB (r3 3) 5 [.ref (r3 4), .int h3_h1_nodeCount, .int h3_h1_tokenCount, .int h3_h1_root], oB (r3 5) 5 [.ref (r3 6), .int h3_h2_nodeCount, .int h3_h2_tokenCount, .int h3_h2_root], oB (r3 0) 1 [.ref (r3 1), .ref (r3 2), .ref (r3 3), .ref (r3 5), .ref (r3 7), .int h3_columns, .int h3_rows, .int h3_limit]] []) := hD60
        obtain ⟨y_61, hcl62, hm62⟩ := bd1_some hm58; clear hm58
        have sb63 := ctS.mk (n := 4) (k := 0) (pre := [oB (r0 0) 6 [.ref (r1 0), .ref (r2 0), .ref (r3 0), .ref (r4 0), .ref (r5 0), .ref (r6 0), .ref (r7 0), .ref (r8 0), .ref (r9 0), .int o_hasHeader, .int o_hasPicture, .int o_frameCount], oB (r3 3) 5 [.ref (r3 4), .int h3_h1_nodeCount, .int h3_h1_tokenCount, .int h3_h1_root], oB (r3 5) 5 [.ref (r3 6), .int h3_h2_nodeCount, .int h3_h2_tokenCount, .int h3_h2_root], oB (r3 0) 1 [.ref (r3 1), .ref (r3 2), .ref (r3 3), .ref (r3 5), .ref (r3 7), .int h3_columns, .int h3_rows, .int h3_limit]]) (tl := []) [2] [0, 1, 3] [] [] rfl rfl (by decide +kernel) (by decide +kernel)
        refine ct_calli (r := y_61) E sb63 hP60 hD60 hS60 (va_runV (As := []) (rest := []) ⟨hx, hb, hml, hown, hts⟩ (c_X5_tokenCount l D cB cI cJ cQ N (fun k => r3 (5 + k)) H60.size h3_h2_nodeCount h3_h2_tokenCount h3_h2_root (y_61) hcl62) (cwV 0 hts gX6_head_X5_tokenCount rfl rfl rfl cdV_X5_tokenCount ⟨Nat.le_of_ble_eq_true rfl, Nat.le_of_ble_eq_true rfl⟩) (ct_preV (q0 := 2) (ci := 5) E sb63 hP60 hD60 hS60 rfl rfl) rfl rfl hl0.1 rfl (lv_room (Nat.le_of_ble_eq_true rfl)) dX6_head_96 ⟨Nat.zero_le _, Nat.zero_le _⟩) (fun H64 lc64 hP64 hD64 hS64 => ?_); clear sb63 hcl62
        clear hP60 hD60 hS60
        have hP64 : va_P D vwCl (wf [oB (r0 0) 6 [.ref (r1 0), .ref (r2 0), .ref (r3 0), .ref (r4 0), .ref (r5 0), .ref (r6 0), .ref (r7 0), .ref (r8 0), .ref (r9 0), .int o_hasHeader, .int o_hasPicture, .int o_frameCount], oB (r3 3) 5 [.ref (r3 4), .int h3_h1_nodeCount, .int h3_h1_tokenCount, .int h3_h1_root], oB (r3 0) 1 [.ref (r3 1), .ref (r3 2), .ref (r3 3), .ref (r3 5), .ref (r3 7), .int h3_columns, .int h3_rows, .int h3_limit], oB (r3 5) 5 [.ref (r3 6), .int h3_h2_nodeCount, .int h3_h2_tokenCount, .int h3_h2_root]] []) H64 := hP64
        have hD64 : va_D A (wf [oB (r0 0) 6 [.ref (r1 0), .ref (r2 0), .ref (r3 0), .ref (r4 0), .ref (r5 0), .ref (r6 0), .ref (r7 0), .ref (r8 0), .ref (r9 0), .int o_hasHeader, .int o_hasPicture, .int o_frameCount], oB (r3 3) 5 [.ref (r3 4), .int h3_h1_nodeCount, .int h3_h1_tokenCount, .int h3_h1_root], oB (r3 0) 1 [.ref (r3 1), .ref (r3 2), .ref (r3 3), .ref (r3 5), .ref (r3 7), .int h3_columns, .int h3_rows, .int h3_limit], oB (r3 5) 5 [.ref (r3 6), .int h3_h2_nodeCount, .int h3_h2_tokenCount, .int h3_h2_root]] []) := hD64
        obtain ⟨hP65, hD65⟩ := ct_ord (n := 4) (k := 0) [0, 2, 1, 3] [] hP64 hD64 rfl rfl (by decide +kernel) (by decide +kernel)
        have hS65 := hS64
        have hP65 : va_P D vwCl (wf [oB (r0 0) 6 [.ref (r1 0), .ref (r2 0), .ref (r3 0), .ref (r4 0), .ref (r5 0), .ref (r6 0), .ref (r7 0), .ref (r8 0), .ref (r9 0), .int o_hasHeader, .int o_hasPicture, .int o_frameCount], oB (r3 0) 1 [.ref (r3 1), .ref (r3 2), .ref (r3 3), .ref (r3 5), .ref (r3 7), .int h3_columns, .int h3_rows, .int h3_limit], oB (r3 3) 5 [.ref (r3 4), .int h3_h1_nodeCount, .int h3_h1_tokenCount, .int h3_h1_root], oB (r3 5) 5 [.ref (r3 6), .int h3_h2_nodeCount, .int h3_h2_tokenCount, .int h3_h2_root]] []) H64 := hP65
        have hD65 : va_D A (wf [oB (r0 0) 6 [.ref (r1 0), .ref (r2 0), .ref (r3 0), .ref (r4 0), .ref (r5 0), .ref (r6 0), .ref (r7 0), .ref (r8 0), .ref (r9 0), .int o_hasHeader, .int o_hasPicture, .int o_frameCount], oB (r3 0) 1 [.ref (r3 1), .ref (r3 2), .ref (r3 3), .ref (r3 5), .ref (r3 7), .int h3_columns, .int h3_rows, .int h3_limit], oB (r3 3) 5 [.ref (r3 4), .int h3_h1_nodeCount, .int h3_h1_tokenCount, .int h3_h1_root], oB (r3 5) 5 [.ref (r3 6), .int h3_h2_nodeCount, .int h3_h2_tokenCount, .int h3_h2_root]] []) := hD65
        obtain rfl := Option.some.inj hm62
        rw [hQ]
        exact ct_iret hx hb hr hlk hP65 hD65 hS65 rfl dX6_head_99
    have hm66 := bq_f hm46 hc47; clear hm46
    have tn3 := ts_ne hc3 (show Int32.toInt (0 : Int32) = 0 by decide)
    have tn11 := ts_ne hc11 (show Int32.toInt (1 : Int32) = 1 by decide)
    have tn19 := ts_ne hc19 (show Int32.toInt (2 : Int32) = 2 by decide)
    have tn27 := ts_ne hc27 (show Int32.toInt (3 : Int32) = 3 by decide)
    have tn47 := ts_ne hc47 (show Int32.toInt (4 : Int32) = 4 by decide)
    refine lv_tableOut (tgt := 100) hx hb dX6_head_18 (by omega) (by decide) ?_
    cases hm66
  · have hm67 := bq_t hm0 hc1; clear hm0
    cases hm67

def f_X6_sample (x1 : Int32) (x2 : Int32) (x3 : Int32) (o_hasPicture : Int32) (p7_width : Int32) (p7_height : Int32) (p7_samples : Nat → Int32) (p9_width : Int32) (p9_height : Int32) (p9_samples : Nat → Int32) : Option (Int32) :=
  (if o_hasPicture = (0 : Int32) then
  (none)
  else
  (bd1 (f_X3_has x1 x2 p7_width p7_height) fun y_3 =>
  (if y_3 = (0 : Int32) then
  (none)
  else
  ((if x3 = (0 : Int32) then
  (bd1 (f_X3_at x1 x2 p7_width p7_height p7_samples) fun y_11 =>
  some (y_11))
  else
  (bd1 (f_X3_at x1 x2 p9_width p9_height p9_samples) fun y_17 =>
  some (y_17)))))))

abbrev rm_X6_sample : Room := { frames := 3, cells := 0, slots := 0, locals := 104 }

theorem cdS_X6_sample : yX6_sample.cls ≠ "java/lang/invoke/MethodHandle" ∧ yX6_sample.cls ≠ "java/lang/invoke/VarHandle" ∧ (parseMethodDescriptor yX6_sample.desc).map (fun d => d.parameters.length) = some 3 := by decide +kernel

theorem cdV_X6_sample : yX6_sample.cls = RX6 ∧ yX6_sample.cls ≠ "java/lang/invoke/MethodHandle" ∧ yX6_sample.cls ≠ "java/lang/invoke/VarHandle" ∧ (parseMethodDescriptor yX6_sample.desc).map (fun d => d.parameters.length) = some 3 := ⟨rfl, cdS_X6_sample⟩

theorem hi_X6_sample_6 : ∀ w ∈ u_ws RX6 TX6 12, w ∈ wsX6_sample := fun _ h => List.mem_cons_of_mem _ (List.mem_append_left _ (List.mem_append_left _ (List.mem_append_left _ (List.mem_append_right _ h))))

set_option maxHeartbeats 40000000 in
set_option maxRecDepth 100000 in
theorem c_X6_sample (l : Launch) (D : va_G) (cB cI cJ cQ : ClassId) (N : Nat) (r0 : Nat → Nat) (r1 : Nat → Nat) (r2 : Nat → Nat) (r3 : Nat → Nat) (r4 : Nat → Nat) (r5 : Nat → Nat) (r6 : Nat → Nat) (r7 : Nat → Nat) (r8 : Nat → Nat) (r9 : Nat → Nat) (sz : Nat) (x1 : Int32) (x2 : Int32) (x3 : Int32) (o_hasHeader : Int32) (o_hasPicture : Int32) (o_frameCount : Int32) (p7_width : Int32) (p7_height : Int32) (p7_samples : Nat → Int32) (p9_width : Int32) (p9_height : Int32) (p9_samples : Nat → Int32) (o : Int32) (hm0 : f_X6_sample x1 x2 x3 o_hasPicture p7_width p7_height p7_samples p9_width p9_height p9_samples = some o) : Met l yX6_sample wsX6_sample rm_X6_sample (ctP D cB cI cJ cQ N sz [.ref (r0 0), .int x1, .int x2, .int x3] (wf [oB (r0 0) 6 [.ref (r1 0), .ref (r2 0), .ref (r3 0), .ref (r4 0), .ref (r5 0), .ref (r6 0), .ref (r7 0), .ref (r8 0), .ref (r9 0), .int o_hasHeader, .int o_hasPicture, .int o_frameCount], oB (r7 0) 3 [.ref (r7 1), .int p7_width, .int p7_height], aI (r7 1) cI 2304 p7_samples, oB (r9 0) 3 [.ref (r9 1), .int p9_width, .int p9_height], aI (r9 1) cI 2304 p9_samples] [])) (ctQi D o (wf [oB (r0 0) 6 [.ref (r1 0), .ref (r2 0), .ref (r3 0), .ref (r4 0), .ref (r5 0), .ref (r6 0), .ref (r7 0), .ref (r8 0), .ref (r9 0), .int o_hasHeader, .int o_hasPicture, .int o_frameCount], oB (r7 0) 3 [.ref (r7 1), .int p7_width, .int p7_height], aI (r7 1) cI 2304 p7_samples, oB (r9 0) 3 [.ref (r9 1), .int p9_width, .int p9_height], aI (r9 1) cI 2304 p9_samples] []) (va_A (wf [oB (r0 0) 6 [.ref (r1 0), .ref (r2 0), .ref (r3 0), .ref (r4 0), .ref (r5 0), .ref (r6 0), .ref (r7 0), .ref (r8 0), .ref (r9 0), .int o_hasHeader, .int o_hasPicture, .int o_frameCount], oB (r7 0) 3 [.ref (r7 1), .int p7_width, .int p7_height], aI (r7 1) cI 2304 p7_samples, oB (r9 0) 3 [.ref (r9 1), .int p9_width, .int p9_height], aI (r9 1) cI 2304 p9_samples] []) sz)) 0 0 (va_A (wf [oB (r0 0) 6 [.ref (r1 0), .ref (r2 0), .ref (r3 0), .ref (r4 0), .ref (r5 0), .ref (r6 0), .ref (r7 0), .ref (r8 0), .ref (r9 0), .int o_hasHeader, .int o_hasPicture, .int o_frameCount], oB (r7 0) 3 [.ref (r7 1), .int p7_width, .int p7_height], aI (r7 1) cI 2304 p7_samples, oB (r9 0) 3 [.ref (r9 1), .int p9_width, .int p9_height], aI (r9 1) cI 2304 p9_samples] []) sz) := by
  refine ct_of (cc := cX6_sample) (maxL := 4) (ret := (some .int)) (own := RX6) (Qp := ctQi D o (wf [oB (r0 0) 6 [.ref (r1 0), .ref (r2 0), .ref (r3 0), .ref (r4 0), .ref (r5 0), .ref (r6 0), .ref (r7 0), .ref (r8 0), .ref (r9 0), .int o_hasHeader, .int o_hasPicture, .int o_frameCount], oB (r7 0) 3 [.ref (r7 1), .int p7_width, .int p7_height], aI (r7 1) cI 2304 p7_samples, oB (r9 0) 3 [.ref (r9 1), .int p9_width, .int p9_height], aI (r9 1) cI 2304 p9_samples] [])) (by decide) rfl rfl (Nat.le_of_ble_eq_true rfl) ?_
  intro p e s m args below meth c A hx hb hr hml hown hts hlk hnm hsz hAe E hP0 hD0 hS0 ls0 hl0
  subst hsz
  have hl0 : lv_has ls0 4 [(0, .ref (r0 0)), (1, .int x1), (2, .int x2), (3, .int x3)] := hl0
  obtain ⟨QQ, hQ⟩ : ∃ Q : State → Prop, Q = MQ below (ctQi D o (wf [oB (r0 0) 6 [.ref (r1 0), .ref (r2 0), .ref (r3 0), .ref (r4 0), .ref (r5 0), .ref (r6 0), .ref (r7 0), .ref (r8 0), .ref (r9 0), .int o_hasHeader, .int o_hasPicture, .int o_frameCount], oB (r7 0) 3 [.ref (r7 1), .int p7_width, .int p7_height], aI (r7 1) cI 2304 p7_samples, oB (r9 0) 3 [.ref (r9 1), .int p9_width, .int p9_height], aI (r9 1) cI 2304 p9_samples] []) A) args s 0 0 A := ⟨_, rfl⟩
  rw [← hQ]
  unfold f_X6_sample at hm0
  refine lv_aload_n hx hb dX6_sample_0 rfl (lv_at hl0 0 rfl) ?_
  refine va_get (D := D) (ci := 6) (v := .int o_hasPicture) (C := RX6) (T := TX6) (N := 12) hx hb hts hi_X6_sample_6 hown E.1 hP0 0 rfl rfl 10 (by decide) (hts _ (List.mem_of_getElem? (i := 5) rfl)) (fun _ h9 => h9) rfl dX6_sample_1 ?_
  refine lv_if_ne (tgt := 17) hx hb dX6_sample_4 (by decide) (fun hc1 => ?_) (fun hc1 => ?_)
  · have hm2 := bq_f hm0 hc1; clear hm0
    refine lv_aload_n hx hb dX6_sample_17 rfl (lv_at hl0 0 rfl) ?_
    refine va_get (D := D) (ci := 6) (v := .ref (r7 0)) (C := RX6) (T := TX6) (N := 12) hx hb hts hi_X6_sample_6 hown E.1 hP0 0 rfl rfl 6 (by decide) (hts _ (List.mem_of_getElem? (i := 6) rfl)) (fun _ h9 => h9) rfl dX6_sample_18 ?_
    refine lv_iload_n hx hb dX6_sample_21 rfl (lv_at hl0 1 rfl) ?_
    refine lv_iload_n hx hb dX6_sample_22 rfl (lv_at hl0 2 rfl) ?_
    obtain ⟨y_3, hcl4, hm4⟩ := bd1_some hm2; clear hm2
    have sb5 := ctS.mk (n := 5) (k := 0) (pre := [oB (r0 0) 6 [.ref (r1 0), .ref (r2 0), .ref (r3 0), .ref (r4 0), .ref (r5 0), .ref (r6 0), .ref (r7 0), .ref (r8 0), .ref (r9 0), .int o_hasHeader, .int o_hasPicture, .int o_frameCount], oB (r7 0) 3 [.ref (r7 1), .int p7_width, .int p7_height], aI (r7 1) cI 2304 p7_samples, oB (r9 0) 3 [.ref (r9 1), .int p9_width, .int p9_height], aI (r9 1) cI 2304 p9_samples]) (tl := []) [1] [0, 2, 3, 4] [] [] rfl rfl (by decide +kernel) (by decide +kernel)
    refine ct_calli (r := y_3) E sb5 hP0 hD0 hS0 (va_runV (As := [.int x1, .int x2]) (rest := []) ⟨hx, hb, hml, hown, hts⟩ (c_X3_has l D cB cI cJ cQ N r7 s.heap.size x1 x2 p7_width p7_height (y_3) hcl4) (cwV 2 hts gX6_sample_X3_has rfl rfl rfl cdV_X3_has ⟨Nat.le_of_ble_eq_true rfl, Nat.le_of_ble_eq_true rfl⟩) (ct_preV (q0 := 1) (ci := 3) E sb5 hP0 hD0 hS0 rfl rfl) rfl rfl hl0.1 rfl (lv_room (Nat.le_of_ble_eq_true rfl)) dX6_sample_23 ⟨Nat.zero_le _, Nat.zero_le _⟩) (fun H6 lc6 hP6 hD6 hS6 => ?_); clear sb5 hcl4
    clear hP0 hD0 hS0
    have hP6 : va_P D vwCl (wf [oB (r0 0) 6 [.ref (r1 0), .ref (r2 0), .ref (r3 0), .ref (r4 0), .ref (r5 0), .ref (r6 0), .ref (r7 0), .ref (r8 0), .ref (r9 0), .int o_hasHeader, .int o_hasPicture, .int o_frameCount], aI (r7 1) cI 2304 p7_samples, oB (r9 0) 3 [.ref (r9 1), .int p9_width, .int p9_height], aI (r9 1) cI 2304 p9_samples, oB (r7 0) 3 [.ref (r7 1), .int p7_width, .int p7_height]] []) H6 := hP6
    have hD6 : va_D A (wf [oB (r0 0) 6 [.ref (r1 0), .ref (r2 0), .ref (r3 0), .ref (r4 0), .ref (r5 0), .ref (r6 0), .ref (r7 0), .ref (r8 0), .ref (r9 0), .int o_hasHeader, .int o_hasPicture, .int o_frameCount], aI (r7 1) cI 2304 p7_samples, oB (r9 0) 3 [.ref (r9 1), .int p9_width, .int p9_height], aI (r9 1) cI 2304 p9_samples, oB (r7 0) 3 [.ref (r7 1), .int p7_width, .int p7_height]] []) := hD6
    refine lv_if_ne (tgt := 39) hx hb dX6_sample_26 (by decide) (fun hc7 => ?_) (fun hc7 => ?_)
    · have hm8 := bq_f hm4 hc7; clear hm4
      refine lv_iload_n hx hb dX6_sample_39 rfl (lv_at hl0 3 rfl) ?_
      refine lv_if_eq (tgt := 55) hx hb dX6_sample_40 (by decide) (fun hc9 => ?_) (fun hc9 => ?_)
      · have hm10 := bq_t hm8 hc9; clear hm8
        refine lv_aload_n hx hb dX6_sample_55 rfl (lv_at hl0 0 rfl) ?_
        refine va_get (D := D) (ci := 6) (v := .ref (r7 0)) (C := RX6) (T := TX6) (N := 12) hx hb hts hi_X6_sample_6 hown E.1 hP6 0 rfl rfl 6 (by decide) (hts _ (List.mem_of_getElem? (i := 6) rfl)) (fun _ h9 => h9) rfl dX6_sample_56 ?_
        refine lv_iload_n hx hb dX6_sample_59 rfl (lv_at hl0 1 rfl) ?_
        refine lv_iload_n hx hb dX6_sample_60 rfl (lv_at hl0 2 rfl) ?_
        obtain ⟨y_11, hcl12, hm12⟩ := bd1_some hm10; clear hm10
        have sb13 := ctS.mk (n := 5) (k := 0) (pre := [oB (r0 0) 6 [.ref (r1 0), .ref (r2 0), .ref (r3 0), .ref (r4 0), .ref (r5 0), .ref (r6 0), .ref (r7 0), .ref (r8 0), .ref (r9 0), .int o_hasHeader, .int o_hasPicture, .int o_frameCount], aI (r7 1) cI 2304 p7_samples, oB (r9 0) 3 [.ref (r9 1), .int p9_width, .int p9_height], aI (r9 1) cI 2304 p9_samples, oB (r7 0) 3 [.ref (r7 1), .int p7_width, .int p7_height]]) (tl := []) [4, 1] [0, 2, 3] [] [] rfl rfl (by decide +kernel) (by decide +kernel)
        refine ct_calli (r := y_11) E sb13 hP6 hD6 hS6 (va_runV (As := [.int x1, .int x2]) (rest := []) ⟨hx, hb, hml, hown, hts⟩ (c_X3_at l D cB cI cJ cQ N r7 H6.size x1 x2 p7_width p7_height p7_samples (y_11) hcl12) (cwV 2 hts gX6_sample_X3_at rfl rfl rfl cdV_X3_at ⟨Nat.le_of_ble_eq_true rfl, Nat.le_of_ble_eq_true rfl⟩) (ct_preV (q0 := 4) (ci := 3) E sb13 hP6 hD6 hS6 rfl rfl) rfl rfl hl0.1 rfl (lv_room (Nat.le_of_ble_eq_true rfl)) dX6_sample_61 ⟨Nat.zero_le _, Nat.zero_le _⟩) (fun H14 lc14 hP14 hD14 hS14 => ?_); clear sb13 hcl12
        clear hP6 hD6 hS6
        have hP14 : va_P D vwCl (wf [oB (r0 0) 6 [.ref (r1 0), .ref (r2 0), .ref (r3 0), .ref (r4 0), .ref (r5 0), .ref (r6 0), .ref (r7 0), .ref (r8 0), .ref (r9 0), .int o_hasHeader, .int o_hasPicture, .int o_frameCount], oB (r9 0) 3 [.ref (r9 1), .int p9_width, .int p9_height], aI (r9 1) cI 2304 p9_samples, oB (r7 0) 3 [.ref (r7 1), .int p7_width, .int p7_height], aI (r7 1) cI 2304 p7_samples] []) H14 := hP14
        have hD14 : va_D A (wf [oB (r0 0) 6 [.ref (r1 0), .ref (r2 0), .ref (r3 0), .ref (r4 0), .ref (r5 0), .ref (r6 0), .ref (r7 0), .ref (r8 0), .ref (r9 0), .int o_hasHeader, .int o_hasPicture, .int o_frameCount], oB (r9 0) 3 [.ref (r9 1), .int p9_width, .int p9_height], aI (r9 1) cI 2304 p9_samples, oB (r7 0) 3 [.ref (r7 1), .int p7_width, .int p7_height], aI (r7 1) cI 2304 p7_samples] []) := hD14
        obtain ⟨hP15, hD15⟩ := ct_ord (n := 5) (k := 0) [0, 3, 4, 1, 2] [] hP14 hD14 rfl rfl (by decide +kernel) (by decide +kernel)
        have hS15 := hS14
        have hP15 : va_P D vwCl (wf [oB (r0 0) 6 [.ref (r1 0), .ref (r2 0), .ref (r3 0), .ref (r4 0), .ref (r5 0), .ref (r6 0), .ref (r7 0), .ref (r8 0), .ref (r9 0), .int o_hasHeader, .int o_hasPicture, .int o_frameCount], oB (r7 0) 3 [.ref (r7 1), .int p7_width, .int p7_height], aI (r7 1) cI 2304 p7_samples, oB (r9 0) 3 [.ref (r9 1), .int p9_width, .int p9_height], aI (r9 1) cI 2304 p9_samples] []) H14 := hP15
        have hD15 : va_D A (wf [oB (r0 0) 6 [.ref (r1 0), .ref (r2 0), .ref (r3 0), .ref (r4 0), .ref (r5 0), .ref (r6 0), .ref (r7 0), .ref (r8 0), .ref (r9 0), .int o_hasHeader, .int o_hasPicture, .int o_frameCount], oB (r7 0) 3 [.ref (r7 1), .int p7_width, .int p7_height], aI (r7 1) cI 2304 p7_samples, oB (r9 0) 3 [.ref (r9 1), .int p9_width, .int p9_height], aI (r9 1) cI 2304 p9_samples] []) := hD15
        obtain rfl := Option.some.inj hm12
        rw [hQ]
        exact ct_iret hx hb hr hlk hP15 hD15 hS15 rfl dX6_sample_64
      · have hm16 := bq_f hm8 hc9; clear hm8
        refine lv_aload_n hx hb dX6_sample_43 rfl (lv_at hl0 0 rfl) ?_
        refine va_get (D := D) (ci := 6) (v := .ref (r9 0)) (C := RX6) (T := TX6) (N := 12) hx hb hts hi_X6_sample_6 hown E.1 hP6 0 rfl rfl 8 (by decide) (hts _ (List.mem_of_getElem? (i := 7) rfl)) (fun _ h9 => h9) rfl dX6_sample_44 ?_
        refine lv_iload_n hx hb dX6_sample_47 rfl (lv_at hl0 1 rfl) ?_
        refine lv_iload_n hx hb dX6_sample_48 rfl (lv_at hl0 2 rfl) ?_
        obtain ⟨y_17, hcl18, hm18⟩ := bd1_some hm16; clear hm16
        have sb19 := ctS.mk (n := 5) (k := 0) (pre := [oB (r0 0) 6 [.ref (r1 0), .ref (r2 0), .ref (r3 0), .ref (r4 0), .ref (r5 0), .ref (r6 0), .ref (r7 0), .ref (r8 0), .ref (r9 0), .int o_hasHeader, .int o_hasPicture, .int o_frameCount], aI (r7 1) cI 2304 p7_samples, oB (r9 0) 3 [.ref (r9 1), .int p9_width, .int p9_height], aI (r9 1) cI 2304 p9_samples, oB (r7 0) 3 [.ref (r7 1), .int p7_width, .int p7_height]]) (tl := []) [2, 3] [0, 1, 4] [] [] rfl rfl (by decide +kernel) (by decide +kernel)
        refine ct_calli (r := y_17) E sb19 hP6 hD6 hS6 (va_runV (As := [.int x1, .int x2]) (rest := []) ⟨hx, hb, hml, hown, hts⟩ (c_X3_at l D cB cI cJ cQ N r9 H6.size x1 x2 p9_width p9_height p9_samples (y_17) hcl18) (cwV 2 hts gX6_sample_X3_at rfl rfl rfl cdV_X3_at ⟨Nat.le_of_ble_eq_true rfl, Nat.le_of_ble_eq_true rfl⟩) (ct_preV (q0 := 2) (ci := 3) E sb19 hP6 hD6 hS6 rfl rfl) rfl rfl hl0.1 rfl (lv_room (Nat.le_of_ble_eq_true rfl)) dX6_sample_49 ⟨Nat.zero_le _, Nat.zero_le _⟩) (fun H20 lc20 hP20 hD20 hS20 => ?_); clear sb19 hcl18
        clear hP6 hD6 hS6
        have hP20 : va_P D vwCl (wf [oB (r0 0) 6 [.ref (r1 0), .ref (r2 0), .ref (r3 0), .ref (r4 0), .ref (r5 0), .ref (r6 0), .ref (r7 0), .ref (r8 0), .ref (r9 0), .int o_hasHeader, .int o_hasPicture, .int o_frameCount], aI (r7 1) cI 2304 p7_samples, oB (r7 0) 3 [.ref (r7 1), .int p7_width, .int p7_height], oB (r9 0) 3 [.ref (r9 1), .int p9_width, .int p9_height], aI (r9 1) cI 2304 p9_samples] []) H20 := hP20
        have hD20 : va_D A (wf [oB (r0 0) 6 [.ref (r1 0), .ref (r2 0), .ref (r3 0), .ref (r4 0), .ref (r5 0), .ref (r6 0), .ref (r7 0), .ref (r8 0), .ref (r9 0), .int o_hasHeader, .int o_hasPicture, .int o_frameCount], aI (r7 1) cI 2304 p7_samples, oB (r7 0) 3 [.ref (r7 1), .int p7_width, .int p7_height], oB (r9 0) 3 [.ref (r9 1), .int p9_width, .int p9_height], aI (r9 1) cI 2304 p9_samples] []) := hD20
        refine lv_goto (tgt := 64) hx hb dX6_sample_52 (by decide) ?_
        obtain ⟨hP21, hD21⟩ := ct_ord (n := 5) (k := 0) [0, 2, 1, 3, 4] [] hP20 hD20 rfl rfl (by decide +kernel) (by decide +kernel)
        have hS21 := hS20
        have hP21 : va_P D vwCl (wf [oB (r0 0) 6 [.ref (r1 0), .ref (r2 0), .ref (r3 0), .ref (r4 0), .ref (r5 0), .ref (r6 0), .ref (r7 0), .ref (r8 0), .ref (r9 0), .int o_hasHeader, .int o_hasPicture, .int o_frameCount], oB (r7 0) 3 [.ref (r7 1), .int p7_width, .int p7_height], aI (r7 1) cI 2304 p7_samples, oB (r9 0) 3 [.ref (r9 1), .int p9_width, .int p9_height], aI (r9 1) cI 2304 p9_samples] []) H20 := hP21
        have hD21 : va_D A (wf [oB (r0 0) 6 [.ref (r1 0), .ref (r2 0), .ref (r3 0), .ref (r4 0), .ref (r5 0), .ref (r6 0), .ref (r7 0), .ref (r8 0), .ref (r9 0), .int o_hasHeader, .int o_hasPicture, .int o_frameCount], oB (r7 0) 3 [.ref (r7 1), .int p7_width, .int p7_height], aI (r7 1) cI 2304 p7_samples, oB (r9 0) 3 [.ref (r9 1), .int p9_width, .int p9_height], aI (r9 1) cI 2304 p9_samples] []) := hD21
        obtain rfl := Option.some.inj hm18
        rw [hQ]
        exact ct_iret hx hb hr hlk hP21 hD21 hS21 rfl dX6_sample_64
    · have hm22 := bq_t hm4 hc7; clear hm4
      cases hm22
  · have hm23 := bq_t hm0 hc1; clear hm0
    cases hm23

def f_X6_block (x1 : Int32) (x2 : Int32) (x3 : Int32) (o_hasPicture : Int32) (f5_columns : Int32) (f5_rows : Int32) (f5_modes : Nat → Int32) (f5_across : Nat → Int32) (f5_down : Nat → Int32) (f5_grid : Nat → Nat → Int32) : Option (Int32) :=
  (if o_hasPicture = (0 : Int32) then
  (none)
  else
  (bd1 (f_X0_has x1 x2 f5_columns f5_rows) fun y_3 =>
  (if y_3 = (0 : Int32) then
  (none)
  else
  (bd1 (f_X0_index x1 x2 f5_columns) fun y_9 =>
  (if x3 = (0 : Int32) then
  (bd1 (f_X0_mode y_9 f5_modes) fun y_16 =>
  some (y_16))
  else
  ((if x3 = (1 : Int32) then
  (bd1 (f_X0_across y_9 f5_across) fun y_24 =>
  some (y_24))
  else
  ((if x3 = (2 : Int32) then
  (bd1 (f_X0_down y_9 f5_down) fun y_32 =>
  some (y_32))
  else
  ((if x3 = (3 : Int32) then
  (bd1 (f_X0_number y_9 (0 : Int32) f5_grid) fun y_40 =>
  some (y_40))
  else
  (none))))))))))))

abbrev rm_X6_block : Room := { frames := 1, cells := 0, slots := 0, locals := 22 }

theorem cdS_X6_block : yX6_block.cls ≠ "java/lang/invoke/MethodHandle" ∧ yX6_block.cls ≠ "java/lang/invoke/VarHandle" ∧ (parseMethodDescriptor yX6_block.desc).map (fun d => d.parameters.length) = some 3 := by decide +kernel

theorem cdV_X6_block : yX6_block.cls = RX6 ∧ yX6_block.cls ≠ "java/lang/invoke/MethodHandle" ∧ yX6_block.cls ≠ "java/lang/invoke/VarHandle" ∧ (parseMethodDescriptor yX6_block.desc).map (fun d => d.parameters.length) = some 3 := ⟨rfl, cdS_X6_block⟩

theorem hi_X6_block_6 : ∀ w ∈ u_ws RX6 TX6 12, w ∈ wsX6_block := fun _ h => List.mem_cons_of_mem _ (List.mem_append_left _ (List.mem_append_left _ (List.mem_append_left _ (List.mem_append_left _ (List.mem_append_right _ h)))))

set_option maxHeartbeats 40000000 in
set_option maxRecDepth 100000 in
theorem c_X6_block (l : Launch) (D : va_G) (cB cI cJ cQ : ClassId) (N : Nat) (r0 : Nat → Nat) (r1 : Nat → Nat) (r2 : Nat → Nat) (r3 : Nat → Nat) (r4 : Nat → Nat) (r5 : Nat → Nat) (r6 : Nat → Nat) (r7 : Nat → Nat) (r8 : Nat → Nat) (r9 : Nat → Nat) (sz : Nat) (x1 : Int32) (x2 : Int32) (x3 : Int32) (o_hasHeader : Int32) (o_hasPicture : Int32) (o_frameCount : Int32) (f5_columns : Int32) (f5_rows : Int32) (f5_scale : Int32) (f5_toEnd : Int32) (f5_between : Int32) (f5_kept : Int32) (f5_modes : Nat → Int32) (f5_across : Nat → Int32) (f5_down : Nat → Int32) (f5_grid : Nat → Nat → Int32) (o : Int32) (hm0 : f_X6_block x1 x2 x3 o_hasPicture f5_columns f5_rows f5_modes f5_across f5_down f5_grid = some o) : Met l yX6_block wsX6_block rm_X6_block (ctP D cB cI cJ cQ N sz [.ref (r0 0), .int x1, .int x2, .int x3] (wf [oB (r0 0) 6 [.ref (r1 0), .ref (r2 0), .ref (r3 0), .ref (r4 0), .ref (r5 0), .ref (r6 0), .ref (r7 0), .ref (r8 0), .ref (r9 0), .int o_hasHeader, .int o_hasPicture, .int o_frameCount], oB (r5 0) 0 [.ref (r5 1), .ref (r5 2), .ref (r5 3), .ref (r5 4), .ref (r5 5), .ref (r5 6), .int f5_columns, .int f5_rows, .int f5_scale, .int f5_toEnd, .int f5_between, .int f5_kept], aI (r5 1) cI 36 f5_modes, aI (r5 2) cI 36 f5_across, aI (r5 3) cI 36 f5_down, aQ (r5 4) cQ r5] [rowsW cI r5 f5_grid])) (ctQi D o (wf [oB (r0 0) 6 [.ref (r1 0), .ref (r2 0), .ref (r3 0), .ref (r4 0), .ref (r5 0), .ref (r6 0), .ref (r7 0), .ref (r8 0), .ref (r9 0), .int o_hasHeader, .int o_hasPicture, .int o_frameCount], oB (r5 0) 0 [.ref (r5 1), .ref (r5 2), .ref (r5 3), .ref (r5 4), .ref (r5 5), .ref (r5 6), .int f5_columns, .int f5_rows, .int f5_scale, .int f5_toEnd, .int f5_between, .int f5_kept], aI (r5 1) cI 36 f5_modes, aI (r5 2) cI 36 f5_across, aI (r5 3) cI 36 f5_down, aQ (r5 4) cQ r5] [rowsW cI r5 f5_grid]) (va_A (wf [oB (r0 0) 6 [.ref (r1 0), .ref (r2 0), .ref (r3 0), .ref (r4 0), .ref (r5 0), .ref (r6 0), .ref (r7 0), .ref (r8 0), .ref (r9 0), .int o_hasHeader, .int o_hasPicture, .int o_frameCount], oB (r5 0) 0 [.ref (r5 1), .ref (r5 2), .ref (r5 3), .ref (r5 4), .ref (r5 5), .ref (r5 6), .int f5_columns, .int f5_rows, .int f5_scale, .int f5_toEnd, .int f5_between, .int f5_kept], aI (r5 1) cI 36 f5_modes, aI (r5 2) cI 36 f5_across, aI (r5 3) cI 36 f5_down, aQ (r5 4) cQ r5] [rowsW cI r5 f5_grid]) sz)) 0 0 (va_A (wf [oB (r0 0) 6 [.ref (r1 0), .ref (r2 0), .ref (r3 0), .ref (r4 0), .ref (r5 0), .ref (r6 0), .ref (r7 0), .ref (r8 0), .ref (r9 0), .int o_hasHeader, .int o_hasPicture, .int o_frameCount], oB (r5 0) 0 [.ref (r5 1), .ref (r5 2), .ref (r5 3), .ref (r5 4), .ref (r5 5), .ref (r5 6), .int f5_columns, .int f5_rows, .int f5_scale, .int f5_toEnd, .int f5_between, .int f5_kept], aI (r5 1) cI 36 f5_modes, aI (r5 2) cI 36 f5_across, aI (r5 3) cI 36 f5_down, aQ (r5 4) cQ r5] [rowsW cI r5 f5_grid]) sz) := by
  refine ct_of (cc := cX6_block) (maxL := 5) (ret := (some .int)) (own := RX6) (Qp := ctQi D o (wf [oB (r0 0) 6 [.ref (r1 0), .ref (r2 0), .ref (r3 0), .ref (r4 0), .ref (r5 0), .ref (r6 0), .ref (r7 0), .ref (r8 0), .ref (r9 0), .int o_hasHeader, .int o_hasPicture, .int o_frameCount], oB (r5 0) 0 [.ref (r5 1), .ref (r5 2), .ref (r5 3), .ref (r5 4), .ref (r5 5), .ref (r5 6), .int f5_columns, .int f5_rows, .int f5_scale, .int f5_toEnd, .int f5_between, .int f5_kept], aI (r5 1) cI 36 f5_modes, aI (r5 2) cI 36 f5_across, aI (r5 3) cI 36 f5_down, aQ (r5 4) cQ r5] [rowsW cI r5 f5_grid])) (by decide) rfl rfl (Nat.le_of_ble_eq_true rfl) ?_
  intro p e s m args below meth c A hx hb hr hml hown hts hlk hnm hsz hAe E hP0 hD0 hS0 ls0 hl0
  subst hsz
  have hl0 : lv_has ls0 5 [(0, .ref (r0 0)), (1, .int x1), (2, .int x2), (3, .int x3)] := hl0
  obtain ⟨QQ, hQ⟩ : ∃ Q : State → Prop, Q = MQ below (ctQi D o (wf [oB (r0 0) 6 [.ref (r1 0), .ref (r2 0), .ref (r3 0), .ref (r4 0), .ref (r5 0), .ref (r6 0), .ref (r7 0), .ref (r8 0), .ref (r9 0), .int o_hasHeader, .int o_hasPicture, .int o_frameCount], oB (r5 0) 0 [.ref (r5 1), .ref (r5 2), .ref (r5 3), .ref (r5 4), .ref (r5 5), .ref (r5 6), .int f5_columns, .int f5_rows, .int f5_scale, .int f5_toEnd, .int f5_between, .int f5_kept], aI (r5 1) cI 36 f5_modes, aI (r5 2) cI 36 f5_across, aI (r5 3) cI 36 f5_down, aQ (r5 4) cQ r5] [rowsW cI r5 f5_grid]) A) args s 0 0 A := ⟨_, rfl⟩
  rw [← hQ]
  unfold f_X6_block at hm0
  refine lv_aload_n hx hb dX6_block_0 rfl (lv_at hl0 0 rfl) ?_
  refine va_get (D := D) (ci := 6) (v := .int o_hasPicture) (C := RX6) (T := TX6) (N := 12) hx hb hts hi_X6_block_6 hown E.1 hP0 0 rfl rfl 10 (by decide) (hts _ (List.mem_of_getElem? (i := 7) rfl)) (fun _ h9 => h9) rfl dX6_block_1 ?_
  refine lv_if_ne (tgt := 17) hx hb dX6_block_4 (by decide) (fun hc1 => ?_) (fun hc1 => ?_)
  · have hm2 := bq_f hm0 hc1; clear hm0
    refine lv_aload_n hx hb dX6_block_17 rfl (lv_at hl0 0 rfl) ?_
    refine va_get (D := D) (ci := 6) (v := .ref (r5 0)) (C := RX6) (T := TX6) (N := 12) hx hb hts hi_X6_block_6 hown E.1 hP0 0 rfl rfl 4 (by decide) (hts _ (List.mem_of_getElem? (i := 8) rfl)) (fun _ h9 => h9) rfl dX6_block_18 ?_
    refine lv_iload_n hx hb dX6_block_21 rfl (lv_at hl0 1 rfl) ?_
    refine lv_iload_n hx hb dX6_block_22 rfl (lv_at hl0 2 rfl) ?_
    obtain ⟨y_3, hcl4, hm4⟩ := bd1_some hm2; clear hm2
    have sb5 := ctS.mk (n := 6) (k := 1) (pre := [oB (r0 0) 6 [.ref (r1 0), .ref (r2 0), .ref (r3 0), .ref (r4 0), .ref (r5 0), .ref (r6 0), .ref (r7 0), .ref (r8 0), .ref (r9 0), .int o_hasHeader, .int o_hasPicture, .int o_frameCount], oB (r5 0) 0 [.ref (r5 1), .ref (r5 2), .ref (r5 3), .ref (r5 4), .ref (r5 5), .ref (r5 6), .int f5_columns, .int f5_rows, .int f5_scale, .int f5_toEnd, .int f5_between, .int f5_kept], aI (r5 1) cI 36 f5_modes, aI (r5 2) cI 36 f5_across, aI (r5 3) cI 36 f5_down, aQ (r5 4) cQ r5]) (tl := [rowsW cI r5 f5_grid]) [1] [0, 2, 3, 4, 5] [] [0] rfl rfl (by decide +kernel) (by decide +kernel)
    refine ct_calli (r := y_3) E sb5 hP0 hD0 hS0 (va_runV (As := [.int x1, .int x2]) (rest := []) ⟨hx, hb, hml, hown, hts⟩ (c_X0_has l D cB cI cJ cQ N r5 s.heap.size x1 x2 f5_columns f5_rows f5_scale f5_toEnd f5_between f5_kept (y_3) hcl4) (cwV 2 hts gX6_block_X0_has rfl rfl rfl cdV_X0_has ⟨Nat.le_of_ble_eq_true rfl, Nat.le_of_ble_eq_true rfl⟩) (ct_preV (q0 := 1) (ci := 0) E sb5 hP0 hD0 hS0 rfl rfl) rfl rfl hl0.1 rfl (lv_room (Nat.le_of_ble_eq_true rfl)) dX6_block_23 ⟨Nat.zero_le _, Nat.zero_le _⟩) (fun H6 lc6 hP6 hD6 hS6 => ?_); clear sb5 hcl4
    clear hP0 hD0 hS0
    have hP6 : va_P D vwCl (wf [oB (r0 0) 6 [.ref (r1 0), .ref (r2 0), .ref (r3 0), .ref (r4 0), .ref (r5 0), .ref (r6 0), .ref (r7 0), .ref (r8 0), .ref (r9 0), .int o_hasHeader, .int o_hasPicture, .int o_frameCount], aI (r5 1) cI 36 f5_modes, aI (r5 2) cI 36 f5_across, aI (r5 3) cI 36 f5_down, aQ (r5 4) cQ r5, oB (r5 0) 0 [.ref (r5 1), .ref (r5 2), .ref (r5 3), .ref (r5 4), .ref (r5 5), .ref (r5 6), .int f5_columns, .int f5_rows, .int f5_scale, .int f5_toEnd, .int f5_between, .int f5_kept]] [rowsW cI r5 f5_grid]) H6 := hP6
    have hD6 : va_D A (wf [oB (r0 0) 6 [.ref (r1 0), .ref (r2 0), .ref (r3 0), .ref (r4 0), .ref (r5 0), .ref (r6 0), .ref (r7 0), .ref (r8 0), .ref (r9 0), .int o_hasHeader, .int o_hasPicture, .int o_frameCount], aI (r5 1) cI 36 f5_modes, aI (r5 2) cI 36 f5_across, aI (r5 3) cI 36 f5_down, aQ (r5 4) cQ r5, oB (r5 0) 0 [.ref (r5 1), .ref (r5 2), .ref (r5 3), .ref (r5 4), .ref (r5 5), .ref (r5 6), .int f5_columns, .int f5_rows, .int f5_scale, .int f5_toEnd, .int f5_between, .int f5_kept]] [rowsW cI r5 f5_grid]) := hD6
    refine lv_if_ne (tgt := 39) hx hb dX6_block_26 (by decide) (fun hc7 => ?_) (fun hc7 => ?_)
    · have hm8 := bq_f hm4 hc7; clear hm4
      refine lv_aload_n hx hb dX6_block_39 rfl (lv_at hl0 0 rfl) ?_
      refine va_get (D := D) (ci := 6) (v := .ref (r5 0)) (C := RX6) (T := TX6) (N := 12) hx hb hts hi_X6_block_6 hown E.1 hP6 0 rfl rfl 4 (by decide) (hts _ (List.mem_of_getElem? (i := 8) rfl)) (fun _ h9 => h9) rfl dX6_block_40 ?_
      refine lv_iload_n hx hb dX6_block_43 rfl (lv_at hl0 1 rfl) ?_
      refine lv_iload_n hx hb dX6_block_44 rfl (lv_at hl0 2 rfl) ?_
      obtain ⟨y_9, hcl10, hm10⟩ := bd1_some hm8; clear hm8
      have sb11 := ctS.mk (n := 6) (k := 1) (pre := [oB (r0 0) 6 [.ref (r1 0), .ref (r2 0), .ref (r3 0), .ref (r4 0), .ref (r5 0), .ref (r6 0), .ref (r7 0), .ref (r8 0), .ref (r9 0), .int o_hasHeader, .int o_hasPicture, .int o_frameCount], aI (r5 1) cI 36 f5_modes, aI (r5 2) cI 36 f5_across, aI (r5 3) cI 36 f5_down, aQ (r5 4) cQ r5, oB (r5 0) 0 [.ref (r5 1), .ref (r5 2), .ref (r5 3), .ref (r5 4), .ref (r5 5), .ref (r5 6), .int f5_columns, .int f5_rows, .int f5_scale, .int f5_toEnd, .int f5_between, .int f5_kept]]) (tl := [rowsW cI r5 f5_grid]) [5] [0, 1, 2, 3, 4] [] [0] rfl rfl (by decide +kernel) (by decide +kernel)
      refine ct_calli (r := y_9) E sb11 hP6 hD6 hS6 (va_runV (As := [.int x1, .int x2]) (rest := []) ⟨hx, hb, hml, hown, hts⟩ (c_X0_index l D cB cI cJ cQ N r5 H6.size x1 x2 f5_columns f5_rows f5_scale f5_toEnd f5_between f5_kept (y_9) hcl10) (cwV 2 hts gX6_block_X0_index rfl rfl rfl cdV_X0_index ⟨Nat.le_of_ble_eq_true rfl, Nat.le_of_ble_eq_true rfl⟩) (ct_preV (q0 := 5) (ci := 0) E sb11 hP6 hD6 hS6 rfl rfl) rfl rfl hl0.1 rfl (lv_room (Nat.le_of_ble_eq_true rfl)) dX6_block_45 ⟨Nat.zero_le _, Nat.zero_le _⟩) (fun H12 lc12 hP12 hD12 hS12 => ?_); clear sb11 hcl10
      clear hP6 hD6 hS6
      have hP12 : va_P D vwCl (wf [oB (r0 0) 6 [.ref (r1 0), .ref (r2 0), .ref (r3 0), .ref (r4 0), .ref (r5 0), .ref (r6 0), .ref (r7 0), .ref (r8 0), .ref (r9 0), .int o_hasHeader, .int o_hasPicture, .int o_frameCount], aI (r5 1) cI 36 f5_modes, aI (r5 2) cI 36 f5_across, aI (r5 3) cI 36 f5_down, aQ (r5 4) cQ r5, oB (r5 0) 0 [.ref (r5 1), .ref (r5 2), .ref (r5 3), .ref (r5 4), .ref (r5 5), .ref (r5 6), .int f5_columns, .int f5_rows, .int f5_scale, .int f5_toEnd, .int f5_between, .int f5_kept]] [rowsW cI r5 f5_grid]) H12 := hP12
      have hD12 : va_D A (wf [oB (r0 0) 6 [.ref (r1 0), .ref (r2 0), .ref (r3 0), .ref (r4 0), .ref (r5 0), .ref (r6 0), .ref (r7 0), .ref (r8 0), .ref (r9 0), .int o_hasHeader, .int o_hasPicture, .int o_frameCount], aI (r5 1) cI 36 f5_modes, aI (r5 2) cI 36 f5_across, aI (r5 3) cI 36 f5_down, aQ (r5 4) cQ r5, oB (r5 0) 0 [.ref (r5 1), .ref (r5 2), .ref (r5 3), .ref (r5 4), .ref (r5 5), .ref (r5 6), .int f5_columns, .int f5_rows, .int f5_scale, .int f5_toEnd, .int f5_between, .int f5_kept]] [rowsW cI r5 f5_grid]) := hD12
      refine lv_istore (lv' := [(4, .int y_9), (0, .ref (r0 0)), (1, .int x1), (2, .int x2), (3, .int x3)]) hx hb dX6_block_48 hl0 (by decide) rfl (fun ls13 hl13 => ?_); clear hl0
      refine lv_iload_n hx hb dX6_block_50 rfl (lv_at hl13 4 rfl) ?_
      by_cases hc14 : x3 = (0 : Int32)
      · have hm15 := bq_t hm10 hc14; clear hm10
        refine lv_tableIn (tgt := 80) hx hb dX6_block_51 (by rw [hc14]; decide) (by rw [hc14]; decide) (by rw [hc14]; rfl) (by decide) ?_
        refine lv_aload_n hx hb dX6_block_80 rfl (lv_at hl13 1 rfl) ?_
        refine va_get (D := D) (ci := 6) (v := .ref (r5 0)) (C := RX6) (T := TX6) (N := 12) hx hb hts hi_X6_block_6 hown E.1 hP12 0 rfl rfl 4 (by decide) (hts _ (List.mem_of_getElem? (i := 8) rfl)) (fun _ h9 => h9) rfl dX6_block_81 ?_
        refine lv_iload hx hb dX6_block_84 (lv_at hl13 0 rfl) ?_
        obtain ⟨y_16, hcl17, hm17⟩ := bd1_some hm15; clear hm15
        have sb18 := ctS.mk (n := 6) (k := 1) (pre := [oB (r0 0) 6 [.ref (r1 0), .ref (r2 0), .ref (r3 0), .ref (r4 0), .ref (r5 0), .ref (r6 0), .ref (r7 0), .ref (r8 0), .ref (r9 0), .int o_hasHeader, .int o_hasPicture, .int o_frameCount], aI (r5 1) cI 36 f5_modes, aI (r5 2) cI 36 f5_across, aI (r5 3) cI 36 f5_down, aQ (r5 4) cQ r5, oB (r5 0) 0 [.ref (r5 1), .ref (r5 2), .ref (r5 3), .ref (r5 4), .ref (r5 5), .ref (r5 6), .int f5_columns, .int f5_rows, .int f5_scale, .int f5_toEnd, .int f5_between, .int f5_kept]]) (tl := [rowsW cI r5 f5_grid]) [5, 1] [0, 2, 3, 4] [] [0] rfl rfl (by decide +kernel) (by decide +kernel)
        refine ct_calli (r := y_16) E sb18 hP12 hD12 hS12 (va_runV (As := [.int y_9]) (rest := []) ⟨hx, hb, hml, hown, hts⟩ (c_X0_mode l D cB cI cJ cQ N r5 H12.size y_9 f5_columns f5_rows f5_scale f5_toEnd f5_between f5_kept f5_modes (y_16) hcl17) (cwV 1 hts gX6_block_X0_mode rfl rfl rfl cdV_X0_mode ⟨Nat.le_of_ble_eq_true rfl, Nat.le_of_ble_eq_true rfl⟩) (ct_preV (q0 := 5) (ci := 0) E sb18 hP12 hD12 hS12 rfl rfl) rfl rfl hl13.1 rfl (lv_room (Nat.le_of_ble_eq_true rfl)) dX6_block_86 ⟨Nat.zero_le _, Nat.zero_le _⟩) (fun H19 lc19 hP19 hD19 hS19 => ?_); clear sb18 hcl17
        clear hP12 hD12 hS12
        have hP19 : va_P D vwCl (wf [oB (r0 0) 6 [.ref (r1 0), .ref (r2 0), .ref (r3 0), .ref (r4 0), .ref (r5 0), .ref (r6 0), .ref (r7 0), .ref (r8 0), .ref (r9 0), .int o_hasHeader, .int o_hasPicture, .int o_frameCount], aI (r5 2) cI 36 f5_across, aI (r5 3) cI 36 f5_down, aQ (r5 4) cQ r5, oB (r5 0) 0 [.ref (r5 1), .ref (r5 2), .ref (r5 3), .ref (r5 4), .ref (r5 5), .ref (r5 6), .int f5_columns, .int f5_rows, .int f5_scale, .int f5_toEnd, .int f5_between, .int f5_kept], aI (r5 1) cI 36 f5_modes] [rowsW cI r5 f5_grid]) H19 := hP19
        have hD19 : va_D A (wf [oB (r0 0) 6 [.ref (r1 0), .ref (r2 0), .ref (r3 0), .ref (r4 0), .ref (r5 0), .ref (r6 0), .ref (r7 0), .ref (r8 0), .ref (r9 0), .int o_hasHeader, .int o_hasPicture, .int o_frameCount], aI (r5 2) cI 36 f5_across, aI (r5 3) cI 36 f5_down, aQ (r5 4) cQ r5, oB (r5 0) 0 [.ref (r5 1), .ref (r5 2), .ref (r5 3), .ref (r5 4), .ref (r5 5), .ref (r5 6), .int f5_columns, .int f5_rows, .int f5_scale, .int f5_toEnd, .int f5_between, .int f5_kept], aI (r5 1) cI 36 f5_modes] [rowsW cI r5 f5_grid]) := hD19
        obtain ⟨hP20, hD20⟩ := ct_ord (n := 6) (k := 1) [0, 4, 5, 1, 2, 3] [0] hP19 hD19 rfl rfl (by decide +kernel) (by decide +kernel)
        have hS20 := hS19
        have hP20 : va_P D vwCl (wf [oB (r0 0) 6 [.ref (r1 0), .ref (r2 0), .ref (r3 0), .ref (r4 0), .ref (r5 0), .ref (r6 0), .ref (r7 0), .ref (r8 0), .ref (r9 0), .int o_hasHeader, .int o_hasPicture, .int o_frameCount], oB (r5 0) 0 [.ref (r5 1), .ref (r5 2), .ref (r5 3), .ref (r5 4), .ref (r5 5), .ref (r5 6), .int f5_columns, .int f5_rows, .int f5_scale, .int f5_toEnd, .int f5_between, .int f5_kept], aI (r5 1) cI 36 f5_modes, aI (r5 2) cI 36 f5_across, aI (r5 3) cI 36 f5_down, aQ (r5 4) cQ r5] [rowsW cI r5 f5_grid]) H19 := hP20
        have hD20 : va_D A (wf [oB (r0 0) 6 [.ref (r1 0), .ref (r2 0), .ref (r3 0), .ref (r4 0), .ref (r5 0), .ref (r6 0), .ref (r7 0), .ref (r8 0), .ref (r9 0), .int o_hasHeader, .int o_hasPicture, .int o_frameCount], oB (r5 0) 0 [.ref (r5 1), .ref (r5 2), .ref (r5 3), .ref (r5 4), .ref (r5 5), .ref (r5 6), .int f5_columns, .int f5_rows, .int f5_scale, .int f5_toEnd, .int f5_between, .int f5_kept], aI (r5 1) cI 36 f5_modes, aI (r5 2) cI 36 f5_across, aI (r5 3) cI 36 f5_down, aQ (r5 4) cQ r5] [rowsW cI r5 f5_grid]) := hD20
        obtain rfl := Option.some.inj hm17
        rw [hQ]
        exact ct_iret hx hb hr hlk hP20 hD20 hS20 rfl dX6_block_89
      have hm21 := bq_f hm10 hc14; clear hm10
      by_cases hc22 : x3 = (1 : Int32)
      · have hm23 := bq_t hm21 hc22; clear hm21
        refine lv_tableIn (tgt := 90) hx hb dX6_block_51 (by rw [hc22]; decide) (by rw [hc22]; decide) (by rw [hc22]; rfl) (by decide) ?_
        refine lv_aload_n hx hb dX6_block_90 rfl (lv_at hl13 1 rfl) ?_
        refine va_get (D := D) (ci := 6) (v := .ref (r5 0)) (C := RX6) (T := TX6) (N := 12) hx hb hts hi_X6_block_6 hown E.1 hP12 0 rfl rfl 4 (by decide) (hts _ (List.mem_of_getElem? (i := 8) rfl)) (fun _ h9 => h9) rfl dX6_block_91 ?_
        refine lv_iload hx hb dX6_block_94 (lv_at hl13 0 rfl) ?_
        obtain ⟨y_24, hcl25, hm25⟩ := bd1_some hm23; clear hm23
        have sb26 := ctS.mk (n := 6) (k := 1) (pre := [oB (r0 0) 6 [.ref (r1 0), .ref (r2 0), .ref (r3 0), .ref (r4 0), .ref (r5 0), .ref (r6 0), .ref (r7 0), .ref (r8 0), .ref (r9 0), .int o_hasHeader, .int o_hasPicture, .int o_frameCount], aI (r5 1) cI 36 f5_modes, aI (r5 2) cI 36 f5_across, aI (r5 3) cI 36 f5_down, aQ (r5 4) cQ r5, oB (r5 0) 0 [.ref (r5 1), .ref (r5 2), .ref (r5 3), .ref (r5 4), .ref (r5 5), .ref (r5 6), .int f5_columns, .int f5_rows, .int f5_scale, .int f5_toEnd, .int f5_between, .int f5_kept]]) (tl := [rowsW cI r5 f5_grid]) [5, 2] [0, 1, 3, 4] [] [0] rfl rfl (by decide +kernel) (by decide +kernel)
        refine ct_calli (r := y_24) E sb26 hP12 hD12 hS12 (va_runV (As := [.int y_9]) (rest := []) ⟨hx, hb, hml, hown, hts⟩ (c_X0_across l D cB cI cJ cQ N r5 H12.size y_9 f5_columns f5_rows f5_scale f5_toEnd f5_between f5_kept f5_across (y_24) hcl25) (cwV 1 hts gX6_block_X0_across rfl rfl rfl cdV_X0_across ⟨Nat.le_of_ble_eq_true rfl, Nat.le_of_ble_eq_true rfl⟩) (ct_preV (q0 := 5) (ci := 0) E sb26 hP12 hD12 hS12 rfl rfl) rfl rfl hl13.1 rfl (lv_room (Nat.le_of_ble_eq_true rfl)) dX6_block_96 ⟨Nat.zero_le _, Nat.zero_le _⟩) (fun H27 lc27 hP27 hD27 hS27 => ?_); clear sb26 hcl25
        clear hP12 hD12 hS12
        have hP27 : va_P D vwCl (wf [oB (r0 0) 6 [.ref (r1 0), .ref (r2 0), .ref (r3 0), .ref (r4 0), .ref (r5 0), .ref (r6 0), .ref (r7 0), .ref (r8 0), .ref (r9 0), .int o_hasHeader, .int o_hasPicture, .int o_frameCount], aI (r5 1) cI 36 f5_modes, aI (r5 3) cI 36 f5_down, aQ (r5 4) cQ r5, oB (r5 0) 0 [.ref (r5 1), .ref (r5 2), .ref (r5 3), .ref (r5 4), .ref (r5 5), .ref (r5 6), .int f5_columns, .int f5_rows, .int f5_scale, .int f5_toEnd, .int f5_between, .int f5_kept], aI (r5 2) cI 36 f5_across] [rowsW cI r5 f5_grid]) H27 := hP27
        have hD27 : va_D A (wf [oB (r0 0) 6 [.ref (r1 0), .ref (r2 0), .ref (r3 0), .ref (r4 0), .ref (r5 0), .ref (r6 0), .ref (r7 0), .ref (r8 0), .ref (r9 0), .int o_hasHeader, .int o_hasPicture, .int o_frameCount], aI (r5 1) cI 36 f5_modes, aI (r5 3) cI 36 f5_down, aQ (r5 4) cQ r5, oB (r5 0) 0 [.ref (r5 1), .ref (r5 2), .ref (r5 3), .ref (r5 4), .ref (r5 5), .ref (r5 6), .int f5_columns, .int f5_rows, .int f5_scale, .int f5_toEnd, .int f5_between, .int f5_kept], aI (r5 2) cI 36 f5_across] [rowsW cI r5 f5_grid]) := hD27
        obtain ⟨hP28, hD28⟩ := ct_ord (n := 6) (k := 1) [0, 4, 1, 5, 2, 3] [0] hP27 hD27 rfl rfl (by decide +kernel) (by decide +kernel)
        have hS28 := hS27
        have hP28 : va_P D vwCl (wf [oB (r0 0) 6 [.ref (r1 0), .ref (r2 0), .ref (r3 0), .ref (r4 0), .ref (r5 0), .ref (r6 0), .ref (r7 0), .ref (r8 0), .ref (r9 0), .int o_hasHeader, .int o_hasPicture, .int o_frameCount], oB (r5 0) 0 [.ref (r5 1), .ref (r5 2), .ref (r5 3), .ref (r5 4), .ref (r5 5), .ref (r5 6), .int f5_columns, .int f5_rows, .int f5_scale, .int f5_toEnd, .int f5_between, .int f5_kept], aI (r5 1) cI 36 f5_modes, aI (r5 2) cI 36 f5_across, aI (r5 3) cI 36 f5_down, aQ (r5 4) cQ r5] [rowsW cI r5 f5_grid]) H27 := hP28
        have hD28 : va_D A (wf [oB (r0 0) 6 [.ref (r1 0), .ref (r2 0), .ref (r3 0), .ref (r4 0), .ref (r5 0), .ref (r6 0), .ref (r7 0), .ref (r8 0), .ref (r9 0), .int o_hasHeader, .int o_hasPicture, .int o_frameCount], oB (r5 0) 0 [.ref (r5 1), .ref (r5 2), .ref (r5 3), .ref (r5 4), .ref (r5 5), .ref (r5 6), .int f5_columns, .int f5_rows, .int f5_scale, .int f5_toEnd, .int f5_between, .int f5_kept], aI (r5 1) cI 36 f5_modes, aI (r5 2) cI 36 f5_across, aI (r5 3) cI 36 f5_down, aQ (r5 4) cQ r5] [rowsW cI r5 f5_grid]) := hD28
        obtain rfl := Option.some.inj hm25
        rw [hQ]
        exact ct_iret hx hb hr hlk hP28 hD28 hS28 rfl dX6_block_99
      have hm29 := bq_f hm21 hc22; clear hm21
      by_cases hc30 : x3 = (2 : Int32)
      · have hm31 := bq_t hm29 hc30; clear hm29
        refine lv_tableIn (tgt := 100) hx hb dX6_block_51 (by rw [hc30]; decide) (by rw [hc30]; decide) (by rw [hc30]; rfl) (by decide) ?_
        refine lv_aload_n hx hb dX6_block_100 rfl (lv_at hl13 1 rfl) ?_
        refine va_get (D := D) (ci := 6) (v := .ref (r5 0)) (C := RX6) (T := TX6) (N := 12) hx hb hts hi_X6_block_6 hown E.1 hP12 0 rfl rfl 4 (by decide) (hts _ (List.mem_of_getElem? (i := 8) rfl)) (fun _ h9 => h9) rfl dX6_block_101 ?_
        refine lv_iload hx hb dX6_block_104 (lv_at hl13 0 rfl) ?_
        obtain ⟨y_32, hcl33, hm33⟩ := bd1_some hm31; clear hm31
        have sb34 := ctS.mk (n := 6) (k := 1) (pre := [oB (r0 0) 6 [.ref (r1 0), .ref (r2 0), .ref (r3 0), .ref (r4 0), .ref (r5 0), .ref (r6 0), .ref (r7 0), .ref (r8 0), .ref (r9 0), .int o_hasHeader, .int o_hasPicture, .int o_frameCount], aI (r5 1) cI 36 f5_modes, aI (r5 2) cI 36 f5_across, aI (r5 3) cI 36 f5_down, aQ (r5 4) cQ r5, oB (r5 0) 0 [.ref (r5 1), .ref (r5 2), .ref (r5 3), .ref (r5 4), .ref (r5 5), .ref (r5 6), .int f5_columns, .int f5_rows, .int f5_scale, .int f5_toEnd, .int f5_between, .int f5_kept]]) (tl := [rowsW cI r5 f5_grid]) [5, 3] [0, 1, 2, 4] [] [0] rfl rfl (by decide +kernel) (by decide +kernel)
        refine ct_calli (r := y_32) E sb34 hP12 hD12 hS12 (va_runV (As := [.int y_9]) (rest := []) ⟨hx, hb, hml, hown, hts⟩ (c_X0_down l D cB cI cJ cQ N r5 H12.size y_9 f5_columns f5_rows f5_scale f5_toEnd f5_between f5_kept f5_down (y_32) hcl33) (cwV 1 hts gX6_block_X0_down rfl rfl rfl cdV_X0_down ⟨Nat.le_of_ble_eq_true rfl, Nat.le_of_ble_eq_true rfl⟩) (ct_preV (q0 := 5) (ci := 0) E sb34 hP12 hD12 hS12 rfl rfl) rfl rfl hl13.1 rfl (lv_room (Nat.le_of_ble_eq_true rfl)) dX6_block_106 ⟨Nat.zero_le _, Nat.zero_le _⟩) (fun H35 lc35 hP35 hD35 hS35 => ?_); clear sb34 hcl33
        clear hP12 hD12 hS12
        have hP35 : va_P D vwCl (wf [oB (r0 0) 6 [.ref (r1 0), .ref (r2 0), .ref (r3 0), .ref (r4 0), .ref (r5 0), .ref (r6 0), .ref (r7 0), .ref (r8 0), .ref (r9 0), .int o_hasHeader, .int o_hasPicture, .int o_frameCount], aI (r5 1) cI 36 f5_modes, aI (r5 2) cI 36 f5_across, aQ (r5 4) cQ r5, oB (r5 0) 0 [.ref (r5 1), .ref (r5 2), .ref (r5 3), .ref (r5 4), .ref (r5 5), .ref (r5 6), .int f5_columns, .int f5_rows, .int f5_scale, .int f5_toEnd, .int f5_between, .int f5_kept], aI (r5 3) cI 36 f5_down] [rowsW cI r5 f5_grid]) H35 := hP35
        have hD35 : va_D A (wf [oB (r0 0) 6 [.ref (r1 0), .ref (r2 0), .ref (r3 0), .ref (r4 0), .ref (r5 0), .ref (r6 0), .ref (r7 0), .ref (r8 0), .ref (r9 0), .int o_hasHeader, .int o_hasPicture, .int o_frameCount], aI (r5 1) cI 36 f5_modes, aI (r5 2) cI 36 f5_across, aQ (r5 4) cQ r5, oB (r5 0) 0 [.ref (r5 1), .ref (r5 2), .ref (r5 3), .ref (r5 4), .ref (r5 5), .ref (r5 6), .int f5_columns, .int f5_rows, .int f5_scale, .int f5_toEnd, .int f5_between, .int f5_kept], aI (r5 3) cI 36 f5_down] [rowsW cI r5 f5_grid]) := hD35
        obtain ⟨hP36, hD36⟩ := ct_ord (n := 6) (k := 1) [0, 4, 1, 2, 5, 3] [0] hP35 hD35 rfl rfl (by decide +kernel) (by decide +kernel)
        have hS36 := hS35
        have hP36 : va_P D vwCl (wf [oB (r0 0) 6 [.ref (r1 0), .ref (r2 0), .ref (r3 0), .ref (r4 0), .ref (r5 0), .ref (r6 0), .ref (r7 0), .ref (r8 0), .ref (r9 0), .int o_hasHeader, .int o_hasPicture, .int o_frameCount], oB (r5 0) 0 [.ref (r5 1), .ref (r5 2), .ref (r5 3), .ref (r5 4), .ref (r5 5), .ref (r5 6), .int f5_columns, .int f5_rows, .int f5_scale, .int f5_toEnd, .int f5_between, .int f5_kept], aI (r5 1) cI 36 f5_modes, aI (r5 2) cI 36 f5_across, aI (r5 3) cI 36 f5_down, aQ (r5 4) cQ r5] [rowsW cI r5 f5_grid]) H35 := hP36
        have hD36 : va_D A (wf [oB (r0 0) 6 [.ref (r1 0), .ref (r2 0), .ref (r3 0), .ref (r4 0), .ref (r5 0), .ref (r6 0), .ref (r7 0), .ref (r8 0), .ref (r9 0), .int o_hasHeader, .int o_hasPicture, .int o_frameCount], oB (r5 0) 0 [.ref (r5 1), .ref (r5 2), .ref (r5 3), .ref (r5 4), .ref (r5 5), .ref (r5 6), .int f5_columns, .int f5_rows, .int f5_scale, .int f5_toEnd, .int f5_between, .int f5_kept], aI (r5 1) cI 36 f5_modes, aI (r5 2) cI 36 f5_across, aI (r5 3) cI 36 f5_down, aQ (r5 4) cQ r5] [rowsW cI r5 f5_grid]) := hD36
        obtain rfl := Option.some.inj hm33
        rw [hQ]
        exact ct_iret hx hb hr hlk hP36 hD36 hS36 rfl dX6_block_109
      have hm37 := bq_f hm29 hc30; clear hm29
      by_cases hc38 : x3 = (3 : Int32)
      · have hm39 := bq_t hm37 hc38; clear hm37
        refine lv_tableIn (tgt := 110) hx hb dX6_block_51 (by rw [hc38]; decide) (by rw [hc38]; decide) (by rw [hc38]; rfl) (by decide) ?_
        refine lv_aload_n hx hb dX6_block_110 rfl (lv_at hl13 1 rfl) ?_
        refine va_get (D := D) (ci := 6) (v := .ref (r5 0)) (C := RX6) (T := TX6) (N := 12) hx hb hts hi_X6_block_6 hown E.1 hP12 0 rfl rfl 4 (by decide) (hts _ (List.mem_of_getElem? (i := 8) rfl)) (fun _ h9 => h9) rfl dX6_block_111 ?_
        refine lv_iload hx hb dX6_block_114 (lv_at hl13 0 rfl) ?_
        refine lv_iconst (v := 0) hx hb dX6_block_116 (by decide) ?_
        obtain ⟨y_40, hcl41, hm41⟩ := bd1_some hm39; clear hm39
        have sb42 := ctS.mk (n := 6) (k := 1) (pre := [oB (r0 0) 6 [.ref (r1 0), .ref (r2 0), .ref (r3 0), .ref (r4 0), .ref (r5 0), .ref (r6 0), .ref (r7 0), .ref (r8 0), .ref (r9 0), .int o_hasHeader, .int o_hasPicture, .int o_frameCount], aI (r5 1) cI 36 f5_modes, aI (r5 2) cI 36 f5_across, aI (r5 3) cI 36 f5_down, aQ (r5 4) cQ r5, oB (r5 0) 0 [.ref (r5 1), .ref (r5 2), .ref (r5 3), .ref (r5 4), .ref (r5 5), .ref (r5 6), .int f5_columns, .int f5_rows, .int f5_scale, .int f5_toEnd, .int f5_between, .int f5_kept]]) (tl := [rowsW cI r5 f5_grid]) [5, 4] [0, 1, 2, 3] [0] [] rfl rfl (by decide +kernel) (by decide +kernel)
        refine ct_calli (r := y_40) E sb42 hP12 hD12 hS12 (va_runV (As := [.int y_9, .int (0 : Int32)]) (rest := []) ⟨hx, hb, hml, hown, hts⟩ (c_X0_number l D cB cI cJ cQ N r5 H12.size y_9 (0 : Int32) f5_columns f5_rows f5_scale f5_toEnd f5_between f5_kept f5_grid (y_40) hcl41) (cwV 2 hts gX6_block_X0_number rfl rfl rfl cdV_X0_number ⟨Nat.le_of_ble_eq_true rfl, Nat.le_of_ble_eq_true rfl⟩) (ct_preV (q0 := 5) (ci := 0) E sb42 hP12 hD12 hS12 rfl rfl) rfl rfl hl13.1 rfl (lv_room (Nat.le_of_ble_eq_true rfl)) dX6_block_117 ⟨Nat.zero_le _, Nat.zero_le _⟩) (fun H43 lc43 hP43 hD43 hS43 => ?_); clear sb42 hcl41
        clear hP12 hD12 hS12
        have hP43 : va_P D vwCl (wf [oB (r0 0) 6 [.ref (r1 0), .ref (r2 0), .ref (r3 0), .ref (r4 0), .ref (r5 0), .ref (r6 0), .ref (r7 0), .ref (r8 0), .ref (r9 0), .int o_hasHeader, .int o_hasPicture, .int o_frameCount], aI (r5 1) cI 36 f5_modes, aI (r5 2) cI 36 f5_across, aI (r5 3) cI 36 f5_down, oB (r5 0) 0 [.ref (r5 1), .ref (r5 2), .ref (r5 3), .ref (r5 4), .ref (r5 5), .ref (r5 6), .int f5_columns, .int f5_rows, .int f5_scale, .int f5_toEnd, .int f5_between, .int f5_kept], aQ (r5 4) cQ r5] [rowsW cI r5 f5_grid]) H43 := hP43
        have hD43 : va_D A (wf [oB (r0 0) 6 [.ref (r1 0), .ref (r2 0), .ref (r3 0), .ref (r4 0), .ref (r5 0), .ref (r6 0), .ref (r7 0), .ref (r8 0), .ref (r9 0), .int o_hasHeader, .int o_hasPicture, .int o_frameCount], aI (r5 1) cI 36 f5_modes, aI (r5 2) cI 36 f5_across, aI (r5 3) cI 36 f5_down, oB (r5 0) 0 [.ref (r5 1), .ref (r5 2), .ref (r5 3), .ref (r5 4), .ref (r5 5), .ref (r5 6), .int f5_columns, .int f5_rows, .int f5_scale, .int f5_toEnd, .int f5_between, .int f5_kept], aQ (r5 4) cQ r5] [rowsW cI r5 f5_grid]) := hD43
        obtain ⟨hP44, hD44⟩ := ct_ord (n := 6) (k := 1) [0, 4, 1, 2, 3, 5] [0] hP43 hD43 rfl rfl (by decide +kernel) (by decide +kernel)
        have hS44 := hS43
        have hP44 : va_P D vwCl (wf [oB (r0 0) 6 [.ref (r1 0), .ref (r2 0), .ref (r3 0), .ref (r4 0), .ref (r5 0), .ref (r6 0), .ref (r7 0), .ref (r8 0), .ref (r9 0), .int o_hasHeader, .int o_hasPicture, .int o_frameCount], oB (r5 0) 0 [.ref (r5 1), .ref (r5 2), .ref (r5 3), .ref (r5 4), .ref (r5 5), .ref (r5 6), .int f5_columns, .int f5_rows, .int f5_scale, .int f5_toEnd, .int f5_between, .int f5_kept], aI (r5 1) cI 36 f5_modes, aI (r5 2) cI 36 f5_across, aI (r5 3) cI 36 f5_down, aQ (r5 4) cQ r5] [rowsW cI r5 f5_grid]) H43 := hP44
        have hD44 : va_D A (wf [oB (r0 0) 6 [.ref (r1 0), .ref (r2 0), .ref (r3 0), .ref (r4 0), .ref (r5 0), .ref (r6 0), .ref (r7 0), .ref (r8 0), .ref (r9 0), .int o_hasHeader, .int o_hasPicture, .int o_frameCount], oB (r5 0) 0 [.ref (r5 1), .ref (r5 2), .ref (r5 3), .ref (r5 4), .ref (r5 5), .ref (r5 6), .int f5_columns, .int f5_rows, .int f5_scale, .int f5_toEnd, .int f5_between, .int f5_kept], aI (r5 1) cI 36 f5_modes, aI (r5 2) cI 36 f5_across, aI (r5 3) cI 36 f5_down, aQ (r5 4) cQ r5] [rowsW cI r5 f5_grid]) := hD44
        obtain rfl := Option.some.inj hm41
        rw [hQ]
        exact ct_iret hx hb hr hlk hP44 hD44 hS44 rfl dX6_block_120
      have hm45 := bq_f hm37 hc38; clear hm37
      have tn14 := ts_ne hc14 (show Int32.toInt (0 : Int32) = 0 by decide)
      have tn22 := ts_ne hc22 (show Int32.toInt (1 : Int32) = 1 by decide)
      have tn30 := ts_ne hc30 (show Int32.toInt (2 : Int32) = 2 by decide)
      have tn38 := ts_ne hc38 (show Int32.toInt (3 : Int32) = 3 by decide)
      refine lv_tableOut (tgt := 121) hx hb dX6_block_51 (by omega) (by decide) ?_
      cases hm45
    · have hm46 := bq_t hm4 hc7; clear hm4
      cases hm46
  · have hm47 := bq_t hm0 hc1; clear hm0
    cases hm47
