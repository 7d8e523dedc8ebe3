def f_L_feed (x1 : Int32) (x2 : Int32) (x3 : Int32) (x4 : Int32) (a1 : Nat → Int64) (t_size : Int32) (t_bytes : Nat → Int32) : Option (Int32 × (Nat → Int64) × Int32 × (Nat → Int32)) :=
  bd3 (f_X6_feed x1 x2 x3 x4 t_size t_bytes) fun y_1 t_size_2 t_bytes_3 =>
  gi (0 : Int32) 1 <|
  nm (vp_updL a1 (0 : Int32).toNatClampNeg (Int32.toInt64 y_1) : Nat → Int64) fun a1_8 =>
  some ((0 : Int32), a1_8, t_size_2, t_bytes_3)

abbrev rm_L_feed : Room := { frames := 2, cells := 0, slots := 0, locals := 46 }

theorem cdS_L_feed : yL_feed.cls ≠ "java/lang/invoke/MethodHandle" ∧ yL_feed.cls ≠ "java/lang/invoke/VarHandle" ∧ (parseMethodDescriptor yL_feed.desc).map (fun d => d.parameters.length) = some 6 := by decide +kernel

set_option maxHeartbeats 40000000 in
set_option maxRecDepth 100000 in
theorem c_L_feed (l : Launch) (D : va_G) (cB cI cJ cQ : ClassId) (N : Nat) (hst : l.stackTraces = false) (r0 : Nat → Nat) (r1 : Nat → Nat) (r2 : Nat → Nat) (r3 : Nat → Nat) (r4 : Nat → Nat) (r5 : Nat → Nat) (r6 : Nat → Nat) (r7 : Nat → Nat) (r8 : Nat → Nat) (r9 : Nat → Nat) (r10 : Nat → Nat) (sz : Nat) (x1 : Int32) (x2 : Int32) (x3 : Int32) (x4 : Int32) (o_hasHeader : Int32) (o_hasPicture : Int32) (o_frameCount : Int32) (a1 : Nat → Int64) (t_size : Int32) (t_position : Int32) (t_fault : Int32) (t_bytes : Nat → Int32) (o : Int32 × (Nat → Int64) × Int32 × (Nat → Int32)) (hm0 : f_L_feed x1 x2 x3 x4 a1 t_size t_bytes = some o) : vx_Met l yL_feed wsL_feed rm_L_feed (ctPX D cB cI cJ cQ N sz [.ref (r0 0), .int x1, .int x2, .int x3, .int x4, .ref (r1 0)] (wf [oB (r0 0) 6 [.ref (r2 0), .ref (r3 0), .ref (r4 0), .ref (r5 0), .ref (r6 0), .ref (r7 0), .ref (r8 0), .ref (r9 0), .ref (r10 0), .int o_hasHeader, .int o_hasPicture, .int o_frameCount], aJ (r1 0) cJ 1 a1, oB (r2 0) 4 [.ref (r2 1), .int t_size, .int t_position, .int t_fault], aI (r2 1) cB 6000 t_bytes] [])) (ctQi D (o.1) (wf [oB (r0 0) 6 [.ref (r2 0), .ref (r3 0), .ref (r4 0), .ref (r5 0), .ref (r6 0), .ref (r7 0), .ref (r8 0), .ref (r9 0), .ref (r10 0), .int o_hasHeader, .int o_hasPicture, .int o_frameCount], aJ (r1 0) cJ 1 (o.2.1), oB (r2 0) 4 [.ref (r2 1), .int (o.2.2.1), .int t_position, .int t_fault], aI (r2 1) cB 6000 (o.2.2.2)] []) (va_A (wf [oB (r0 0) 6 [.ref (r2 0), .ref (r3 0), .ref (r4 0), .ref (r5 0), .ref (r6 0), .ref (r7 0), .ref (r8 0), .ref (r9 0), .ref (r10 0), .int o_hasHeader, .int o_hasPicture, .int o_frameCount], aJ (r1 0) cJ 1 a1, oB (r2 0) 4 [.ref (r2 1), .int t_size, .int t_position, .int t_fault], aI (r2 1) cB 6000 t_bytes] []) sz)) ctX0 0 0 (va_A (wf [oB (r0 0) 6 [.ref (r2 0), .ref (r3 0), .ref (r4 0), .ref (r5 0), .ref (r6 0), .ref (r7 0), .ref (r8 0), .ref (r9 0), .ref (r10 0), .int o_hasHeader, .int o_hasPicture, .int o_frameCount], aJ (r1 0) cJ 1 a1, oB (r2 0) 4 [.ref (r2 1), .int t_size, .int t_position, .int t_fault], aI (r2 1) cB 6000 t_bytes] []) sz) := by
  refine cth_of (y := yL_feed) (av := [.ref (r0 0), .int x1, .int x2, .int x3, .int x4, .ref (r1 0)]) (w0 := (wf [oB (r0 0) 6 [.ref (r2 0), .ref (r3 0), .ref (r4 0), .ref (r5 0), .ref (r6 0), .ref (r7 0), .ref (r8 0), .ref (r9 0), .ref (r10 0), .int o_hasHeader, .int o_hasPicture, .int o_frameCount], aJ (r1 0) cJ 1 a1, oB (r2 0) 4 [.ref (r2 1), .int t_size, .int t_position, .int t_fault], aI (r2 1) cB 6000 t_bytes] [])) (cc := cL_feed) (maxL := 7) (ret := (some .int)) (hh := [(0, 14, 17, 13)]) (own := RL) (Qp := ctQi D (o.1) (wf [oB (r0 0) 6 [.ref (r2 0), .ref (r3 0), .ref (r4 0), .ref (r5 0), .ref (r6 0), .ref (r7 0), .ref (r8 0), .ref (r9 0), .ref (r10 0), .int o_hasHeader, .int o_hasPicture, .int o_frameCount], aJ (r1 0) cJ 1 (o.2.1), oB (r2 0) 4 [.ref (r2 1), .int (o.2.2.1), .int t_position, .int t_fault], aI (r2 1) cB 6000 (o.2.2.2)] [])) (XC := fun _ => ctX0) (mc := 0) (ms := 0) (by decide) rfl rfl (Nat.le_of_ble_eq_true rfl) ?_
  intro p e s m args below meth c A hx hb hr hml htab hown hts hlk hnm hsz E GX9 hP0 hD0 hS0 ls0 hl0
  subst hsz
  have hl0 : lv_has ls0 7 [(0, .ref (r0 0)), (1, .int x1), (2, .int x2), (3, .int x3), (4, .int x4), (5, .ref (r1 0))] := hl0
  obtain ⟨QQ, hQ⟩ : ∃ Q : State → Prop, Q = vx_MQ below (ctQi D (o.1) (wf [oB (r0 0) 6 [.ref (r2 0), .ref (r3 0), .ref (r4 0), .ref (r5 0), .ref (r6 0), .ref (r7 0), .ref (r8 0), .ref (r9 0), .ref (r10 0), .int o_hasHeader, .int o_hasPicture, .int o_frameCount], aJ (r1 0) cJ 1 (o.2.1), oB (r2 0) 4 [.ref (r2 1), .int (o.2.2.1), .int t_position, .int t_fault], aI (r2 1) cB 6000 (o.2.2.2)] []) A) ctX0 args s 0 0 A := ⟨_, rfl⟩
  rw [← hQ]
  unfold f_L_feed at hm0
  refine lv_aload hx hb dL_feed_0 (lv_at hl0 5 rfl) ?_
  refine lv_iconst (v := 0) hx hb dL_feed_2 (by decide) ?_
  refine lv_aload_n hx hb dL_feed_3 rfl (lv_at hl0 0 rfl) ?_
  refine lv_iload_n hx hb dL_feed_4 rfl (lv_at hl0 1 rfl) ?_
  refine lv_iload_n hx hb dL_feed_5 rfl (lv_at hl0 2 rfl) ?_
  refine lv_iload_n hx hb dL_feed_6 rfl (lv_at hl0 3 rfl) ?_
  refine lv_iload hx hb dL_feed_7 (lv_at hl0 4 rfl) ?_
  obtain ⟨y_1, t_size_2, t_bytes_3, hcl4, hm4⟩ := bd3_some hm0; clear hm0
  have sb5 := ctS.mk (n := 4) (k := 0) (pre := [oB (r0 0) 6 [.ref (r2 0), .ref (r3 0), .ref (r4 0), .ref (r5 0), .ref (r6 0), .ref (r7 0), .ref (r8 0), .ref (r9 0), .ref (r10 0), .int o_hasHeader, .int o_hasPicture, .int o_frameCount], aJ (r1 0) cJ 1 a1, oB (r2 0) 4 [.ref (r2 1), .int t_size, .int t_position, .int t_fault], aI (r2 1) cB 6000 t_bytes]) (tl := []) [0, 2, 3] [1] [] [] rfl rfl (by decide +kernel) (by decide +kernel)
  refine ct_calli (r := y_1) E sb5 hP0 hD0 hS0 (va_runV (As := [.int x1, .int x2, .int x3, .int x4]) (rest := [.int (0 : Int32), .ref (r1 0)]) ⟨hx, hb, hml, hown, hts⟩ (c_X6_feed l D cB cI cJ cQ N r0 r2 r3 r4 r5 r6 r7 r8 r9 r10 s.heap.size x1 x2 x3 x4 o_hasHeader o_hasPicture o_frameCount t_size t_position t_fault t_bytes (y_1, t_size_2, t_bytes_3) hcl4) (cwV 4 hts gL_feed_X6_feed rfl rfl rfl cdV_X6_feed ⟨Nat.le_of_ble_eq_true rfl, Nat.le_of_ble_eq_true rfl⟩) (ct_preV (q0 := 0) (ci := 6) E sb5 hP0 hD0 hS0 rfl rfl) rfl rfl hl0.1 rfl (lv_room (Nat.le_of_ble_eq_true rfl)) dL_feed_9 ⟨Nat.zero_le _, Nat.zero_le _⟩) (fun H6 lc6 hP6 hD6 hS6 => ?_); clear sb5 hcl4
  clear hP0 hD0 hS0
  have hP6 : va_P D vwCl (wf [aJ (r1 0) cJ 1 a1, oB (r0 0) 6 [.ref (r2 0), .ref (r3 0), .ref (r4 0), .ref (r5 0), .ref (r6 0), .ref (r7 0), .ref (r8 0), .ref (r9 0), .ref (r10 0), .int o_hasHeader, .int o_hasPicture, .int o_frameCount], oB (r2 0) 4 [.ref (r2 1), .int t_size_2, .int t_position, .int t_fault], aI (r2 1) cB 6000 t_bytes_3] []) H6 := hP6
  have hD6 : va_D A (wf [aJ (r1 0) cJ 1 a1, oB (r0 0) 6 [.ref (r2 0), .ref (r3 0), .ref (r4 0), .ref (r5 0), .ref (r6 0), .ref (r7 0), .ref (r8 0), .ref (r9 0), .ref (r10 0), .int o_hasHeader, .int o_hasPicture, .int o_frameCount], oB (r2 0) 4 [.ref (r2 1), .int t_size_2, .int t_position, .int t_fault], aI (r2 1) cB 6000 t_bytes_3] []) := hD6
  refine lv_i2l hx hb dL_feed_12 rfl ?_
  obtain ⟨hin7, hm7⟩ := gi_some hm4; clear hm4
  obtain ⟨a1_8, ea1_8, hm9⟩ := nm_some hm7; clear hm7
  refine ct_last (g := a1_8) (ws' := (wf [aJ (r1 0) cJ 1 a1_8, oB (r0 0) 6 [.ref (r2 0), .ref (r3 0), .ref (r4 0), .ref (r5 0), .ref (r6 0), .ref (r7 0), .ref (r8 0), .ref (r9 0), .ref (r10 0), .int o_hasHeader, .int o_hasPicture, .int o_frameCount], oB (r2 0) 4 [.ref (r2 1), .int t_size_2, .int t_position, .int t_fault], aI (r2 1) cB 6000 t_bytes_3] [])) hx hb E.1 hP6 hD6 hS6 0 2 rfl rfl hin7 ea1_8 rfl dL_feed_13 (fun H10 lc10 hP10 hD10 hS10 => ?_)
  clear hP6 hD6 hS6
  refine lv_goto (tgt := 21) hx hb dL_feed_14 (by decide) ?_
  refine lv_iconst (v := 0) hx hb dL_feed_21 (by decide) ?_
  obtain ⟨hP11, hD11⟩ := ct_ord (n := 4) (k := 0) [1, 0, 2, 3] [] hP10 hD10 rfl rfl (by decide +kernel) (by decide +kernel)
  have hS11 := hS10
  have hP11 : va_P D vwCl (wf [oB (r0 0) 6 [.ref (r2 0), .ref (r3 0), .ref (r4 0), .ref (r5 0), .ref (r6 0), .ref (r7 0), .ref (r8 0), .ref (r9 0), .ref (r10 0), .int o_hasHeader, .int o_hasPicture, .int o_frameCount], aJ (r1 0) cJ 1 a1_8, oB (r2 0) 4 [.ref (r2 1), .int t_size_2, .int t_position, .int t_fault], aI (r2 1) cB 6000 t_bytes_3] []) H10 := hP11
  have hD11 : va_D A (wf [oB (r0 0) 6 [.ref (r2 0), .ref (r3 0), .ref (r4 0), .ref (r5 0), .ref (r6 0), .ref (r7 0), .ref (r8 0), .ref (r9 0), .ref (r10 0), .int o_hasHeader, .int o_hasPicture, .int o_frameCount], aJ (r1 0) cJ 1 a1_8, oB (r2 0) 4 [.ref (r2 1), .int t_size_2, .int t_position, .int t_fault], aI (r2 1) cB 6000 t_bytes_3] []) := hD11
  obtain rfl := Option.some.inj hm9
  rw [hQ]
  exact cth_iret hx hb hr hlk hP11 hD11 hS11 rfl dL_feed_22

def f_L_feed_x (x1 : Int32) (x2 : Int32) (x3 : Int32) (x4 : Int32) (t_size : Int32) : Option (Int32) :=
  bd1 (f_X6_feed_x x1 x2 x3 x4 t_size) fun _ =>
  some ((1 : Int32))

abbrev rm_L_feed_x : Room := { frames := 7, cells := 1, slots := 6, locals := 114 }

set_option maxHeartbeats 40000000 in
set_option maxRecDepth 100000 in
theorem c_L_feed_x (l : Launch) (D : va_G) (cB cI cJ cQ : ClassId) (N : Nat) (hst : l.stackTraces = false) (r0 : Nat → Nat) (r1 : Nat → Nat) (r2 : Nat → Nat) (r3 : Nat → Nat) (r4 : Nat → Nat) (r5 : Nat → Nat) (r6 : Nat → Nat) (r7 : Nat → Nat) (r8 : Nat → Nat) (r9 : Nat → Nat) (r10 : Nat → Nat) (sz : Nat) (x1 : Int32) (x2 : Int32) (x3 : Int32) (x4 : Int32) (o_hasHeader : Int32) (o_hasPicture : Int32) (o_frameCount : Int32) (t_size : Int32) (t_position : Int32) (t_fault : Int32) (o : Int32) (hm0 : f_L_feed_x x1 x2 x3 x4 t_size = some o) : vx_Met l yL_feed wsL_feed rm_L_feed_x (ctPX D cB cI cJ cQ N sz [.ref (r0 0), .int x1, .int x2, .int x3, .int x4, .ref (r1 0)] (wf [oB (r0 0) 6 [.ref (r2 0), .ref (r3 0), .ref (r4 0), .ref (r5 0), .ref (r6 0), .ref (r7 0), .ref (r8 0), .ref (r9 0), .ref (r10 0), .int o_hasHeader, .int o_hasPicture, .int o_frameCount], oB (r2 0) 4 [.ref (r2 1), .int t_size, .int t_position, .int t_fault]] [])) (ctQi D o (wf [oB (r0 0) 6 [.ref (r2 0), .ref (r3 0), .ref (r4 0), .ref (r5 0), .ref (r6 0), .ref (r7 0), .ref (r8 0), .ref (r9 0), .ref (r10 0), .int o_hasHeader, .int o_hasPicture, .int o_frameCount], oB (r2 0) 4 [.ref (r2 1), .int t_size, .int t_position, .int t_fault]] []) (va_A (wf [oB (r0 0) 6 [.ref (r2 0), .ref (r3 0), .ref (r4 0), .ref (r5 0), .ref (r6 0), .ref (r7 0), .ref (r8 0), .ref (r9 0), .ref (r10 0), .int o_hasHeader, .int o_hasPicture, .int o_frameCount], oB (r2 0) 4 [.ref (r2 1), .int t_size, .int t_position, .int t_fault]] []) sz)) ctX0 1 6 (va_A (wf [oB (r0 0) 6 [.ref (r2 0), .ref (r3 0), .ref (r4 0), .ref (r5 0), .ref (r6 0), .ref (r7 0), .ref (r8 0), .ref (r9 0), .ref (r10 0), .int o_hasHeader, .int o_hasPicture, .int o_frameCount], oB (r2 0) 4 [.ref (r2 1), .int t_size, .int t_position, .int t_fault]] []) sz) := by
  refine cth_of (y := yL_feed) (av := [.ref (r0 0), .int x1, .int x2, .int x3, .int x4, .ref (r1 0)]) (w0 := (wf [oB (r0 0) 6 [.ref (r2 0), .ref (r3 0), .ref (r4 0), .ref (r5 0), .ref (r6 0), .ref (r7 0), .ref (r8 0), .ref (r9 0), .ref (r10 0), .int o_hasHeader, .int o_hasPicture, .int o_frameCount], oB (r2 0) 4 [.ref (r2 1), .int t_size, .int t_position, .int t_fault]] [])) (cc := cL_feed) (maxL := 7) (ret := (some .int)) (hh := [(0, 14, 17, 13)]) (own := RL) (Qp := ctQi D o (wf [oB (r0 0) 6 [.ref (r2 0), .ref (r3 0), .ref (r4 0), .ref (r5 0), .ref (r6 0), .ref (r7 0), .ref (r8 0), .ref (r9 0), .ref (r10 0), .int o_hasHeader, .int o_hasPicture, .int o_frameCount], oB (r2 0) 4 [.ref (r2 1), .int t_size, .int t_position, .int t_fault]] [])) (XC := fun _ => ctX0) (mc := 1) (ms := 6) (by decide) rfl rfl (Nat.le_of_ble_eq_true rfl) ?_
  intro p e s m args below meth c A hx hb hr hml htab hown hts hlk hnm hsz E GX9 hP0 hD0 hS0 ls0 hl0
  subst hsz
  have hl0 : lv_has ls0 7 [(0, .ref (r0 0)), (1, .int x1), (2, .int x2), (3, .int x3), (4, .int x4), (5, .ref (r1 0))] := hl0
  obtain ⟨QQ, hQ⟩ : ∃ Q : State → Prop, Q = vx_MQ below (ctQi D o (wf [oB (r0 0) 6 [.ref (r2 0), .ref (r3 0), .ref (r4 0), .ref (r5 0), .ref (r6 0), .ref (r7 0), .ref (r8 0), .ref (r9 0), .ref (r10 0), .int o_hasHeader, .int o_hasPicture, .int o_frameCount], oB (r2 0) 4 [.ref (r2 1), .int t_size, .int t_position, .int t_fault]] []) A) ctX0 args s 1 6 A := ⟨_, rfl⟩
  rw [← hQ]
  unfold f_L_feed_x at hm0
  refine lv_aload hx hb dL_feed_0 (lv_at hl0 5 rfl) ?_
  refine lv_iconst (v := 0) hx hb dL_feed_2 (by decide) ?_
  refine lv_aload_n hx hb dL_feed_3 rfl (lv_at hl0 0 rfl) ?_
  refine lv_iload_n hx hb dL_feed_4 rfl (lv_at hl0 1 rfl) ?_
  refine lv_iload_n hx hb dL_feed_5 rfl (lv_at hl0 2 rfl) ?_
  refine lv_iload_n hx hb dL_feed_6 rfl (lv_at hl0 3 rfl) ?_
  refine lv_iload hx hb dL_feed_7 (lv_at hl0 4 rfl) ?_
  obtain ⟨u1, hcl1, hm1⟩ := bd1_some hm0; clear hm0
  have sb2 := ctS.mk (n := 2) (k := 0) (pre := [oB (r0 0) 6 [.ref (r2 0), .ref (r3 0), .ref (r4 0), .ref (r5 0), .ref (r6 0), .ref (r7 0), .ref (r8 0), .ref (r9 0), .ref (r10 0), .int o_hasHeader, .int o_hasPicture, .int o_frameCount], oB (r2 0) 4 [.ref (r2 1), .int t_size, .int t_position, .int t_fault]]) (tl := []) [0, 1] [] [] [] rfl rfl (by decide +kernel) (by decide +kernel)
  refine ctx_calli (EX := ISE) E sb2 hP0 hD0 hS0 (vx_runV (As := [.int x1, .int x2, .int x3, .int x4]) (rest := [.int (0 : Int32), .ref (r1 0)]) ⟨hx, hb, hml, hown, hts⟩ (c_X6_feed_x l D cB cI cJ cQ N hst r0 r2 r3 r4 r5 r6 r7 r8 r9 r10 s.heap.size x1 x2 x3 x4 o_hasHeader o_hasPicture o_frameCount t_size t_position t_fault u1 hcl1) (cwV 4 hts gL_feed_X6_feed rfl rfl rfl cdV_X6_feed ⟨Nat.le_of_ble_eq_true rfl, Nat.le_of_ble_eq_true rfl⟩) (ctx_preV (q0 := 0) (ci := 6) E GX9 sb2 hP0 hD0 hS0 rfl rfl) rfl rfl hl0.1 rfl (lv_room (Nat.le_of_ble_eq_true rfl)) dL_feed_9 ⟨Nat.le_of_ble_eq_true rfl, Nat.le_of_ble_eq_true rfl⟩) (fun ce9 q9 H3 lc3 hP3 hD3 hS3 hcell9 hv9 hcl9 => ?_); clear sb2 hcl1
  clear hP0 hD0 hS0
  have hP3 : va_P D vwCl (wf [oB (r0 0) 6 [.ref (r2 0), .ref (r3 0), .ref (r4 0), .ref (r5 0), .ref (r6 0), .ref (r7 0), .ref (r8 0), .ref (r9 0), .ref (r10 0), .int o_hasHeader, .int o_hasPicture, .int o_frameCount], oB (r2 0) 4 [.ref (r2 1), .int t_size, .int t_position, .int t_fault]] []) H3 := hP3
  have hD3 : va_D A (wf [oB (r0 0) 6 [.ref (r2 0), .ref (r3 0), .ref (r4 0), .ref (r5 0), .ref (r6 0), .ref (r7 0), .ref (r8 0), .ref (r9 0), .ref (r10 0), .int o_hasHeader, .int o_hasPicture, .int o_frameCount], oB (r2 0) 4 [.ref (r2 1), .int t_size, .int t_position, .int t_fault]] []) := hD3
  refine vx_catch (E := ISE) (name := ISE) hown [] ⟨0, 14, 17, 13⟩ [] (htab.trans rfl) (fun z hz => nomatch hz) (by decide) (by decide) (hts _ (List.mem_of_getElem? (i := 1) rfl)) (va_Nw.use (A := args) rfl (GX9.2.2.2.2.2.2.2.2.2.2.1)) hcell9 hv9 hcl9 ?_
  refine W.eq (g2 := F0 m 17 ls0 [.ref q9]) rfl ?_
  refine lv_astore (lv' := [(6, .ref q9), (0, .ref (r0 0)), (1, .int x1), (2, .int x2), (3, .int x3), (4, .int x4), (5, .ref (r1 0))]) hx hb dL_feed_17 hl0 (by decide) rfl (fun ls4 hl4 => ?_); clear hl0
  refine lv_iconst (v := 1) hx hb dL_feed_19 (by decide) ?_
  obtain rfl := Option.some.inj hm1
  rw [hQ]
  exact cth_iret hx hb hr hlk hP3 hD3 hS3 rfl dL_feed_20

def f_L_end (x1 : Int32) (t_size : Int32) : Option (Int32 × Int32) :=
  bd1 (f_X6_end x1 t_size) fun t_size_1 =>
  some ((0 : Int32), t_size_1)

abbrev rm_L_end : Room := { frames := 2, cells := 0, slots := 0, locals := 42 }

theorem cdS_L_end : yL_end.cls ≠ "java/lang/invoke/MethodHandle" ∧ yL_end.cls ≠ "java/lang/invoke/VarHandle" ∧ (parseMethodDescriptor yL_end.desc).map (fun d => d.parameters.length) = some 2 := by decide +kernel

set_option maxHeartbeats 40000000 in
set_option maxRecDepth 100000 in
theorem c_L_end (l : Launch) (D : va_G) (cB cI cJ cQ : ClassId) (N : Nat) (hst : l.stackTraces = false) (r0 : Nat → Nat) (r1 : Nat → Nat) (r2 : Nat → Nat) (r3 : Nat → Nat) (r4 : Nat → Nat) (r5 : Nat → Nat) (r6 : Nat → Nat) (r7 : Nat → Nat) (r8 : Nat → Nat) (r9 : Nat → Nat) (sz : Nat) (x1 : Int32) (o_hasHeader : Int32) (o_hasPicture : Int32) (o_frameCount : Int32) (t_size : Int32) (t_position : Int32) (t_fault : Int32) (o : Int32 × Int32) (hm0 : f_L_end x1 t_size = some o) : vx_Met l yL_end wsL_end rm_L_end (ctPX D cB cI cJ cQ N sz [.ref (r0 0), .int x1] (wf [oB (r0 0) 6 [.ref (r1 0), .ref (r2 0), .ref (r3 0), .ref (r4 0), .ref (r5 0), .ref (r6 0), .ref (r7 0), .ref (r8 0), .ref (r9 0), .int o_hasHeader, .int o_hasPicture, .int o_frameCount], oB (r1 0) 4 [.ref (r1 1), .int t_size, .int t_position, .int t_fault]] [])) (ctQi D (o.1) (wf [oB (r0 0) 6 [.ref (r1 0), .ref (r2 0), .ref (r3 0), .ref (r4 0), .ref (r5 0), .ref (r6 0), .ref (r7 0), .ref (r8 0), .ref (r9 0), .int o_hasHeader, .int o_hasPicture, .int o_frameCount], oB (r1 0) 4 [.ref (r1 1), .int (o.2), .int t_position, .int t_fault]] []) (va_A (wf [oB (r0 0) 6 [.ref (r1 0), .ref (r2 0), .ref (r3 0), .ref (r4 0), .ref (r5 0), .ref (r6 0), .ref (r7 0), .ref (r8 0), .ref (r9 0), .int o_hasHeader, .int o_hasPicture, .int o_frameCount], oB (r1 0) 4 [.ref (r1 1), .int t_size, .int t_position, .int t_fault]] []) sz)) ctX0 0 0 (va_A (wf [oB (r0 0) 6 [.ref (r1 0), .ref (r2 0), .ref (r3 0), .ref (r4 0), .ref (r5 0), .ref (r6 0), .ref (r7 0), .ref (r8 0), .ref (r9 0), .int o_hasHeader, .int o_hasPicture, .int o_frameCount], oB (r1 0) 4 [.ref (r1 1), .int t_size, .int t_position, .int t_fault]] []) sz) := by
  refine cth_of (y := yL_end) (av := [.ref (r0 0), .int x1]) (w0 := (wf [oB (r0 0) 6 [.ref (r1 0), .ref (r2 0), .ref (r3 0), .ref (r4 0), .ref (r5 0), .ref (r6 0), .ref (r7 0), .ref (r8 0), .ref (r9 0), .int o_hasHeader, .int o_hasPicture, .int o_frameCount], oB (r1 0) 4 [.ref (r1 1), .int t_size, .int t_position, .int t_fault]] [])) (cc := cL_end) (maxL := 3) (ret := (some .int)) (hh := [(0, 5, 8, 19)]) (own := RL) (Qp := ctQi D (o.1) (wf [oB (r0 0) 6 [.ref (r1 0), .ref (r2 0), .ref (r3 0), .ref (r4 0), .ref (r5 0), .ref (r6 0), .ref (r7 0), .ref (r8 0), .ref (r9 0), .int o_hasHeader, .int o_hasPicture, .int o_frameCount], oB (r1 0) 4 [.ref (r1 1), .int (o.2), .int t_position, .int t_fault]] [])) (XC := fun _ => ctX0) (mc := 0) (ms := 0) (by decide) rfl rfl (Nat.le_of_ble_eq_true rfl) ?_
  intro p e s m args below meth c A hx hb hr hml htab hown hts hlk hnm hsz E GX9 hP0 hD0 hS0 ls0 hl0
  subst hsz
  have hl0 : lv_has ls0 3 [(0, .ref (r0 0)), (1, .int x1)] := hl0
  obtain ⟨QQ, hQ⟩ : ∃ Q : State → Prop, Q = vx_MQ below (ctQi D (o.1) (wf [oB (r0 0) 6 [.ref (r1 0), .ref (r2 0), .ref (r3 0), .ref (r4 0), .ref (r5 0), .ref (r6 0), .ref (r7 0), .ref (r8 0), .ref (r9 0), .int o_hasHeader, .int o_hasPicture, .int o_frameCount], oB (r1 0) 4 [.ref (r1 1), .int (o.2), .int t_position, .int t_fault]] []) A) ctX0 args s 0 0 A := ⟨_, rfl⟩
  rw [← hQ]
  unfold f_L_end at hm0
  refine lv_aload_n hx hb dL_end_0 rfl (lv_at hl0 0 rfl) ?_
  refine lv_iload_n hx hb dL_end_1 rfl (lv_at hl0 1 rfl) ?_
  obtain ⟨t_size_1, hcl2, hm2⟩ := bd1_some hm0; clear hm0
  have sb3 := ctS.mk (n := 2) (k := 0) (pre := [oB (r0 0) 6 [.ref (r1 0), .ref (r2 0), .ref (r3 0), .ref (r4 0), .ref (r5 0), .ref (r6 0), .ref (r7 0), .ref (r8 0), .ref (r9 0), .int o_hasHeader, .int o_hasPicture, .int o_frameCount], oB (r1 0) 4 [.ref (r1 1), .int t_size, .int t_position, .int t_fault]]) (tl := []) [0, 1] [] [] [] rfl rfl (by decide +kernel) (by decide +kernel)
  refine ct_callv E sb3 hP0 hD0 hS0 (va_runV (As := [.int x1]) (rest := []) ⟨hx, hb, hml, hown, hts⟩ (c_X6_end l D cB cI cJ cQ N r0 r1 r2 r3 r4 r5 r6 r7 r8 r9 s.heap.size x1 o_hasHeader o_hasPicture o_frameCount t_size t_position t_fault (t_size_1) hcl2) (cwV 1 hts gL_end_X6_end rfl rfl rfl cdV_X6_end ⟨Nat.le_of_ble_eq_true rfl, Nat.le_of_ble_eq_true rfl⟩) (ct_preV (q0 := 0) (ci := 6) E sb3 hP0 hD0 hS0 rfl rfl) rfl rfl hl0.1 rfl (lv_room (Nat.le_of_ble_eq_true rfl)) dL_end_2 ⟨Nat.zero_le _, Nat.zero_le _⟩) (fun H4 lc4 hP4 hD4 hS4 => ?_); clear sb3 hcl2
  clear hP0 hD0 hS0
  have hP4 : va_P D vwCl (wf [oB (r0 0) 6 [.ref (r1 0), .ref (r2 0), .ref (r3 0), .ref (r4 0), .ref (r5 0), .ref (r6 0), .ref (r7 0), .ref (r8 0), .ref (r9 0), .int o_hasHeader, .int o_hasPicture, .int o_frameCount], oB (r1 0) 4 [.ref (r1 1), .int t_size_1, .int t_position, .int t_fault]] []) H4 := hP4
  have hD4 : va_D A (wf [oB (r0 0) 6 [.ref (r1 0), .ref (r2 0), .ref (r3 0), .ref (r4 0), .ref (r5 0), .ref (r6 0), .ref (r7 0), .ref (r8 0), .ref (r9 0), .int o_hasHeader, .int o_hasPicture, .int o_frameCount], oB (r1 0) 4 [.ref (r1 1), .int t_size_1, .int t_position, .int t_fault]] []) := hD4
  refine lv_goto (tgt := 11) hx hb dL_end_5 (by decide) ?_
  refine lv_iconst (v := 0) hx hb dL_end_11 (by decide) ?_
  obtain rfl := Option.some.inj hm2
  rw [hQ]
  exact cth_iret hx hb hr hlk hP4 hD4 hS4 rfl dL_end_12

def f_L_end_xa (x1 : Int32) : Option (Int32) :=
  bd1 (f_X6_end_xa x1) fun _ =>
  some ((1 : Int32))

abbrev rm_L_end_xa : Room := { frames := 7, cells := 1, slots := 6, locals := 111 }

set_option maxHeartbeats 40000000 in
set_option maxRecDepth 100000 in
theorem c_L_end_xa (l : Launch) (D : va_G) (cB cI cJ cQ : ClassId) (N : Nat) (hst : l.stackTraces = false) (r0 : Nat → Nat) (r1 : Nat → Nat) (r2 : Nat → Nat) (r3 : Nat → Nat) (r4 : Nat → Nat) (r5 : Nat → Nat) (r6 : Nat → Nat) (r7 : Nat → Nat) (r8 : Nat → Nat) (r9 : Nat → Nat) (sz : Nat) (x1 : Int32) (o_hasHeader : Int32) (o_hasPicture : Int32) (o_frameCount : Int32) (o : Int32) (hm0 : f_L_end_xa x1 = some o) : vx_Met l yL_end wsL_end rm_L_end_xa (ctPX D cB cI cJ cQ N sz [.ref (r0 0), .int x1] (wf [oB (r0 0) 6 [.ref (r1 0), .ref (r2 0), .ref (r3 0), .ref (r4 0), .ref (r5 0), .ref (r6 0), .ref (r7 0), .ref (r8 0), .ref (r9 0), .int o_hasHeader, .int o_hasPicture, .int o_frameCount]] [])) (ctQi D o (wf [oB (r0 0) 6 [.ref (r1 0), .ref (r2 0), .ref (r3 0), .ref (r4 0), .ref (r5 0), .ref (r6 0), .ref (r7 0), .ref (r8 0), .ref (r9 0), .int o_hasHeader, .int o_hasPicture, .int o_frameCount]] []) (va_A (wf [oB (r0 0) 6 [.ref (r1 0), .ref (r2 0), .ref (r3 0), .ref (r4 0), .ref (r5 0), .ref (r6 0), .ref (r7 0), .ref (r8 0), .ref (r9 0), .int o_hasHeader, .int o_hasPicture, .int o_frameCount]] []) sz)) ctX0 1 6 (va_A (wf [oB (r0 0) 6 [.ref (r1 0), .ref (r2 0), .ref (r3 0), .ref (r4 0), .ref (r5 0), .ref (r6 0), .ref (r7 0), .ref (r8 0), .ref (r9 0), .int o_hasHeader, .int o_hasPicture, .int o_frameCount]] []) sz) := by
  refine cth_of (y := yL_end) (av := [.ref (r0 0), .int x1]) (w0 := (wf [oB (r0 0) 6 [.ref (r1 0), .ref (r2 0), .ref (r3 0), .ref (r4 0), .ref (r5 0), .ref (r6 0), .ref (r7 0), .ref (r8 0), .ref (r9 0), .int o_hasHeader, .int o_hasPicture, .int o_frameCount]] [])) (cc := cL_end) (maxL := 3) (ret := (some .int)) (hh := [(0, 5, 8, 19)]) (own := RL) (Qp := ctQi D o (wf [oB (r0 0) 6 [.ref (r1 0), .ref (r2 0), .ref (r3 0), .ref (r4 0), .ref (r5 0), .ref (r6 0), .ref (r7 0), .ref (r8 0), .ref (r9 0), .int o_hasHeader, .int o_hasPicture, .int o_frameCount]] [])) (XC := fun _ => ctX0) (mc := 1) (ms := 6) (by decide) rfl rfl (Nat.le_of_ble_eq_true rfl) ?_
  intro p e s m args below meth c A hx hb hr hml htab hown hts hlk hnm hsz E GX9 hP0 hD0 hS0 ls0 hl0
  subst hsz
  have hl0 : lv_has ls0 3 [(0, .ref (r0 0)), (1, .int x1)] := hl0
  obtain ⟨QQ, hQ⟩ : ∃ Q : State → Prop, Q = vx_MQ below (ctQi D o (wf [oB (r0 0) 6 [.ref (r1 0), .ref (r2 0), .ref (r3 0), .ref (r4 0), .ref (r5 0), .ref (r6 0), .ref (r7 0), .ref (r8 0), .ref (r9 0), .int o_hasHeader, .int o_hasPicture, .int o_frameCount]] []) A) ctX0 args s 1 6 A := ⟨_, rfl⟩
  rw [← hQ]
  unfold f_L_end_xa at hm0
  refine lv_aload_n hx hb dL_end_0 rfl (lv_at hl0 0 rfl) ?_
  refine lv_iload_n hx hb dL_end_1 rfl (lv_at hl0 1 rfl) ?_
  obtain ⟨u1, hcl1, hm1⟩ := bd1_some hm0; clear hm0
  have sb2 := ctS.mk (n := 1) (k := 0) (pre := [oB (r0 0) 6 [.ref (r1 0), .ref (r2 0), .ref (r3 0), .ref (r4 0), .ref (r5 0), .ref (r6 0), .ref (r7 0), .ref (r8 0), .ref (r9 0), .int o_hasHeader, .int o_hasPicture, .int o_frameCount]]) (tl := []) [] [0] [] [] rfl rfl (by decide +kernel) (by decide +kernel)
  refine ctx_callv (EX := IAE) E sb2 hP0 hD0 hS0 (vx_runV (As := [.int x1]) (rest := []) ⟨hx, hb, hml, hown, hts⟩ (c_X6_end_xa l D cB cI cJ cQ N hst r0 r1 r2 r3 r4 r5 r6 r7 r8 r9 s.heap.size x1 u1 hcl1) (cwV 1 hts gL_end_X6_end rfl rfl rfl cdV_X6_end ⟨Nat.le_of_ble_eq_true rfl, Nat.le_of_ble_eq_true rfl⟩) (ctx_preV (q0 := 0) (ci := 6) E GX9 sb2 hP0 hD0 hS0 rfl rfl) rfl rfl hl0.1 rfl (lv_room (Nat.le_of_ble_eq_true rfl)) dL_end_2 ⟨Nat.le_of_ble_eq_true rfl, Nat.le_of_ble_eq_true rfl⟩) (fun ce9 q9 H3 lc3 hP3 hD3 hS3 hcell9 hv9 hcl9 => ?_); clear sb2 hcl1
  clear hP0 hD0 hS0
  have hP3 : va_P D vwCl (wf [oB (r0 0) 6 [.ref (r1 0), .ref (r2 0), .ref (r3 0), .ref (r4 0), .ref (r5 0), .ref (r6 0), .ref (r7 0), .ref (r8 0), .ref (r9 0), .int o_hasHeader, .int o_hasPicture, .int o_frameCount]] []) H3 := hP3
  have hD3 : va_D A (wf [oB (r0 0) 6 [.ref (r1 0), .ref (r2 0), .ref (r3 0), .ref (r4 0), .ref (r5 0), .ref (r6 0), .ref (r7 0), .ref (r8 0), .ref (r9 0), .int o_hasHeader, .int o_hasPicture, .int o_frameCount]] []) := hD3
  refine vx_catch (E := IAE) (name := IAE) hown [] ⟨0, 5, 8, 19⟩ [] (htab.trans rfl) (fun z hz => nomatch hz) (by decide) (by decide) (hts _ (List.mem_of_getElem? (i := 1) rfl)) (va_Nw.use (A := args) rfl (GX9.2.2.2.2.2.2.2.2.2.2.2.1)) hcell9 hv9 hcl9 ?_
  refine W.eq (g2 := F0 m 8 ls0 [.ref q9]) rfl ?_
  refine lv_astore_n (lv' := [(2, .ref q9), (0, .ref (r0 0)), (1, .int x1)]) hx hb dL_end_8 rfl hl0 (by decide) rfl (fun ls4 hl4 => ?_); clear hl0
  refine lv_iconst (v := 1) hx hb dL_end_9 (by decide) ?_
  obtain rfl := Option.some.inj hm1
  rw [hQ]
  exact cth_iret hx hb hr hlk hP3 hD3 hS3 rfl dL_end_10

def f_L_end_xb (x1 : Int32) (t_size : Int32) : Option (Int32) :=
  bd1 (f_X6_end_xb x1 t_size) fun _ =>
  some ((1 : Int32))

abbrev rm_L_end_xb : Room := { frames := 7, cells := 1, slots := 6, locals := 111 }

set_option maxHeartbeats 40000000 in
set_option maxRecDepth 100000 in
theorem c_L_end_xb (l : Launch) (D : va_G) (cB cI cJ cQ : ClassId) (N : Nat) (hst : l.stackTraces = false) (r0 : Nat → Nat) (r1 : Nat → Nat) (r2 : Nat → Nat) (r3 : Nat → Nat) (r4 : Nat → Nat) (r5 : Nat → Nat) (r6 : Nat → Nat) (r7 : Nat → Nat) (r8 : Nat → Nat) (r9 : Nat → Nat) (sz : Nat) (x1 : Int32) (o_hasHeader : Int32) (o_hasPicture : Int32) (o_frameCount : Int32) (t_size : Int32) (t_position : Int32) (t_fault : Int32) (o : Int32) (hm0 : f_L_end_xb x1 t_size = some o) : vx_Met l yL_end wsL_end rm_L_end_xb (ctPX D cB cI cJ cQ N sz [.ref (r0 0), .int x1] (wf [oB (r0 0) 6 [.ref (r1 0), .ref (r2 0), .ref (r3 0), .ref (r4 0), .ref (r5 0), .ref (r6 0), .ref (r7 0), .ref (r8 0), .ref (r9 0), .int o_hasHeader, .int o_hasPicture, .int o_frameCount], oB (r1 0) 4 [.ref (r1 1), .int t_size, .int t_position, .int t_fault]] [])) (ctQi D o (wf [oB (r0 0) 6 [.ref (r1 0), .ref (r2 0), .ref (r3 0), .ref (r4 0), .ref (r5 0), .ref (r6 0), .ref (r7 0), .ref (r8 0), .ref (r9 0), .int o_hasHeader, .int o_hasPicture, .int o_frameCount], oB (r1 0) 4 [.ref (r1 1), .int t_size, .int t_position, .int t_fault]] []) (va_A (wf [oB (r0 0) 6 [.ref (r1 0), .ref (r2 0), .ref (r3 0), .ref (r4 0), .ref (r5 0), .ref (r6 0), .ref (r7 0), .ref (r8 0), .ref (r9 0), .int o_hasHeader, .int o_hasPicture, .int o_frameCount], oB (r1 0) 4 [.ref (r1 1), .int t_size, .int t_position, .int t_fault]] []) sz)) ctX0 1 6 (va_A (wf [oB (r0 0) 6 [.ref (r1 0), .ref (r2 0), .ref (r3 0), .ref (r4 0), .ref (r5 0), .ref (r6 0), .ref (r7 0), .ref (r8 0), .ref (r9 0), .int o_hasHeader, .int o_hasPicture, .int o_frameCount], oB (r1 0) 4 [.ref (r1 1), .int t_size, .int t_position, .int t_fault]] []) sz) := by
  refine cth_of (y := yL_end) (av := [.ref (r0 0), .int x1]) (w0 := (wf [oB (r0 0) 6 [.ref (r1 0), .ref (r2 0), .ref (r3 0), .ref (r4 0), .ref (r5 0), .ref (r6 0), .ref (r7 0), .ref (r8 0), .ref (r9 0), .int o_hasHeader, .int o_hasPicture, .int o_frameCount], oB (r1 0) 4 [.ref (r1 1), .int t_size, .int t_position, .int t_fault]] [])) (cc := cL_end) (maxL := 3) (ret := (some .int)) (hh := [(0, 5, 8, 19)]) (own := RL) (Qp := ctQi D o (wf [oB (r0 0) 6 [.ref (r1 0), .ref (r2 0), .ref (r3 0), .ref (r4 0), .ref (r5 0), .ref (r6 0), .ref (r7 0), .ref (r8 0), .ref (r9 0), .int o_hasHeader, .int o_hasPicture, .int o_frameCount], oB (r1 0) 4 [.ref (r1 1), .int t_size, .int t_position, .int t_fault]] [])) (XC := fun _ => ctX0) (mc := 1) (ms := 6) (by decide) rfl rfl (Nat.le_of_ble_eq_true rfl) ?_
  intro p e s m args below meth c A hx hb hr hml htab hown hts hlk hnm hsz E GX9 hP0 hD0 hS0 ls0 hl0
  subst hsz
  have hl0 : lv_has ls0 3 [(0, .ref (r0 0)), (1, .int x1)] := hl0
  obtain ⟨QQ, hQ⟩ : ∃ Q : State → Prop, Q = vx_MQ below (ctQi D o (wf [oB (r0 0) 6 [.ref (r1 0), .ref (r2 0), .ref (r3 0), .ref (r4 0), .ref (r5 0), .ref (r6 0), .ref (r7 0), .ref (r8 0), .ref (r9 0), .int o_hasHeader, .int o_hasPicture, .int o_frameCount], oB (r1 0) 4 [.ref (r1 1), .int t_size, .int t_position, .int t_fault]] []) A) ctX0 args s 1 6 A := ⟨_, rfl⟩
  rw [← hQ]
  unfold f_L_end_xb at hm0
  refine lv_aload_n hx hb dL_end_0 rfl (lv_at hl0 0 rfl) ?_
  refine lv_iload_n hx hb dL_end_1 rfl (lv_at hl0 1 rfl) ?_
  obtain ⟨u1, hcl1, hm1⟩ := bd1_some hm0; clear hm0
  have sb2 := ctS.mk (n := 2) (k := 0) (pre := [oB (r0 0) 6 [.ref (r1 0), .ref (r2 0), .ref (r3 0), .ref (r4 0), .ref (r5 0), .ref (r6 0), .ref (r7 0), .ref (r8 0), .ref (r9 0), .int o_hasHeader, .int o_hasPicture, .int o_frameCount], oB (r1 0) 4 [.ref (r1 1), .int t_size, .int t_position, .int t_fault]]) (tl := []) [0, 1] [] [] [] rfl rfl (by decide +kernel) (by decide +kernel)
  refine ctx_callv (EX := IAE) E sb2 hP0 hD0 hS0 (vx_runV (As := [.int x1]) (rest := []) ⟨hx, hb, hml, hown, hts⟩ (c_X6_end_xb l D cB cI cJ cQ N hst r0 r1 r2 r3 r4 r5 r6 r7 r8 r9 s.heap.size x1 o_hasHeader o_hasPicture o_frameCount t_size t_position t_fault u1 hcl1) (cwV 1 hts gL_end_X6_end rfl rfl rfl cdV_X6_end ⟨Nat.le_of_ble_eq_true rfl, Nat.le_of_ble_eq_true rfl⟩) (ctx_preV (q0 := 0) (ci := 6) E GX9 sb2 hP0 hD0 hS0 rfl rfl) rfl rfl hl0.1 rfl (lv_room (Nat.le_of_ble_eq_true rfl)) dL_end_2 ⟨Nat.le_of_ble_eq_true rfl, Nat.le_of_ble_eq_true rfl⟩) (fun ce9 q9 H3 lc3 hP3 hD3 hS3 hcell9 hv9 hcl9 => ?_); clear sb2 hcl1
  clear hP0 hD0 hS0
  have hP3 : va_P D vwCl (wf [oB (r0 0) 6 [.ref (r1 0), .ref (r2 0), .ref (r3 0), .ref (r4 0), .ref (r5 0), .ref (r6 0), .ref (r7 0), .ref (r8 0), .ref (r9 0), .int o_hasHeader, .int o_hasPicture, .int o_frameCount], oB (r1 0) 4 [.ref (r1 1), .int t_size, .int t_position, .int t_fault]] []) H3 := hP3
  have hD3 : va_D A (wf [oB (r0 0) 6 [.ref (r1 0), .ref (r2 0), .ref (r3 0), .ref (r4 0), .ref (r5 0), .ref (r6 0), .ref (r7 0), .ref (r8 0), .ref (r9 0), .int o_hasHeader, .int o_hasPicture, .int o_frameCount], oB (r1 0) 4 [.ref (r1 1), .int t_size, .int t_position, .int t_fault]] []) := hD3
  refine vx_catch (E := IAE) (name := IAE) hown [] ⟨0, 5, 8, 19⟩ [] (htab.trans rfl) (fun z hz => nomatch hz) (by decide) (by decide) (hts _ (List.mem_of_getElem? (i := 1) rfl)) (va_Nw.use (A := args) rfl (GX9.2.2.2.2.2.2.2.2.2.2.2.1)) hcell9 hv9 hcl9 ?_
  refine W.eq (g2 := F0 m 8 ls0 [.ref q9]) rfl ?_
  refine lv_astore_n (lv' := [(2, .ref q9), (0, .ref (r0 0)), (1, .int x1)]) hx hb dL_end_8 rfl hl0 (by decide) rfl (fun ls4 hl4 => ?_); clear hl0
  refine lv_iconst (v := 1) hx hb dL_end_9 (by decide) ?_
  obtain rfl := Option.some.inj hm1
  rw [hQ]
  exact cth_iret hx hb hr hlk hP3 hD3 hS3 rfl dL_end_10

def f_L_head (x1 : Int32) (o_hasHeader : Int32) (a1 : Nat → Int64) (h4_columns : Int32) (h4_rows : Int32) (h4_limit : Int32) (h4_h1_tokenCount : Int32) (h4_h2_tokenCount : Int32) : Option (Int32 × (Nat → Int64)) :=
  bd1 (f_X6_head x1 o_hasHeader h4_columns h4_rows h4_limit h4_h1_tokenCount h4_h2_tokenCount) fun y_1 =>
  gi (0 : Int32) 1 <|
  nm (vp_updL a1 (0 : Int32).toNatClampNeg (Int32.toInt64 y_1) : Nat → Int64) fun a1_6 =>
  some ((0 : Int32), a1_6)

abbrev rm_L_head : Room := { frames := 2, cells := 0, slots := 0, locals := 42 }

theorem cdS_L_head : yL_head.cls ≠ "java/lang/invoke/MethodHandle" ∧ yL_head.cls ≠ "java/lang/invoke/VarHandle" ∧ (parseMethodDescriptor yL_head.desc).map (fun d => d.parameters.length) = some 3 := by decide +kernel

set_option maxHeartbeats 40000000 in
set_option maxRecDepth 100000 in
theorem c_L_head (l : Launch) (D : va_G) (cB cI cJ cQ : ClassId) (N : Nat) (hst : l.stackTraces = false) (r0 : Nat → Nat) (r1 : Nat → Nat) (r2 : Nat → Nat) (r3 : Nat → Nat) (r4 : Nat → Nat) (r5 : Nat → Nat) (r6 : Nat → Nat) (r7 : Nat → Nat) (r8 : Nat → Nat) (r9 : Nat → Nat) (r10 : Nat → Nat) (sz : Nat) (x1 : Int32) (o_hasHeader : Int32) (o_hasPicture : Int32) (o_frameCount : Int32) (a1 : Nat → Int64) (h4_columns : Int32) (h4_rows : Int32) (h4_limit : Int32) (h4_h1_nodeCount : Int32) (h4_h1_tokenCount : Int32) (h4_h1_root : Int32) (h4_h2_nodeCount : Int32) (h4_h2_tokenCount : Int32) (h4_h2_root : Int32) (o : Int32 × (Nat → Int64)) (hm0 : f_L_head x1 o_hasHeader a1 h4_columns h4_rows h4_limit h4_h1_tokenCount h4_h2_tokenCount = some o) : vx_Met l yL_head wsL_head rm_L_head (ctPX D cB cI cJ cQ N sz [.ref (r0 0), .int x1, .ref (r1 0)] (wf [oB (r0 0) 6 [.ref (r2 0), .ref (r3 0), .ref (r4 0), .ref (r5 0), .ref (r6 0), .ref (r7 0), .ref (r8 0), .ref (r9 0), .ref (r10 0), .int o_hasHeader, .int o_hasPicture, .int o_frameCount], aJ (r1 0) cJ 1 a1, oB (r4 0) 1 [.ref (r4 1), .ref (r4 2), .ref (r4 3), .ref (r4 5), .ref (r4 7), .int h4_columns, .int h4_rows, .int h4_limit], oB (r4 3) 5 [.ref (r4 4), .int h4_h1_nodeCount, .int h4_h1_tokenCount, .int h4_h1_root], oB (r4 5) 5 [.ref (r4 6), .int h4_h2_nodeCount, .int h4_h2_tokenCount, .int h4_h2_root]] [])) (ctQi D (o.1) (wf [oB (r0 0) 6 [.ref (r2 0), .ref (r3 0), .ref (r4 0), .ref (r5 0), .ref (r6 0), .ref (r7 0), .ref (r8 0), .ref (r9 0), .ref (r10 0), .int o_hasHeader, .int o_hasPicture, .int o_frameCount], aJ (r1 0) cJ 1 (o.2), oB (r4 0) 1 [.ref (r4 1), .ref (r4 2), .ref (r4 3), .ref (r4 5), .ref (r4 7), .int h4_columns, .int h4_rows, .int h4_limit], oB (r4 3) 5 [.ref (r4 4), .int h4_h1_nodeCount, .int h4_h1_tokenCount, .int h4_h1_root], oB (r4 5) 5 [.ref (r4 6), .int h4_h2_nodeCount, .int h4_h2_tokenCount, .int h4_h2_root]] []) (va_A (wf [oB (r0 0) 6 [.ref (r2 0), .ref (r3 0), .ref (r4 0), .ref (r5 0), .ref (r6 0), .ref (r7 0), .ref (r8 0), .ref (r9 0), .ref (r10 0), .int o_hasHeader, .int o_hasPicture, .int o_frameCount], aJ (r1 0) cJ 1 a1, oB (r4 0) 1 [.ref (r4 1), .ref (r4 2), .ref (r4 3), .ref (r4 5), .ref (r4 7), .int h4_columns, .int h4_rows, .int h4_limit], oB (r4 3) 5 [.ref (r4 4), .int h4_h1_nodeCount, .int h4_h1_tokenCount, .int h4_h1_root], oB (r4 5) 5 [.ref (r4 6), .int h4_h2_nodeCount, .int h4_h2_tokenCount, .int h4_h2_root]] []) sz)) ctX0 0 0 (va_A (wf [oB (r0 0) 6 [.ref (r2 0), .ref (r3 0), .ref (r4 0), .ref (r5 0), .ref (r6 0), .ref (r7 0), .ref (r8 0), .ref (r9 0), .ref (r10 0), .int o_hasHeader, .int o_hasPicture, .int o_frameCount], aJ (r1 0) cJ 1 a1, oB (r4 0) 1 [.ref (r4 1), .ref (r4 2), .ref (r4 3), .ref (r4 5), .ref (r4 7), .int h4_columns, .int h4_rows, .int h4_limit], oB (r4 3) 5 [.ref (r4 4), .int h4_h1_nodeCount, .int h4_h1_tokenCount, .int h4_h1_root], oB (r4 5) 5 [.ref (r4 6), .int h4_h2_nodeCount, .int h4_h2_tokenCount, .int h4_h2_root]] []) sz) := by
  refine cth_of (y := yL_head) (av := [.ref (r0 0), .int x1, .ref (r1 0)]) (w0 := (wf [oB (r0 0) 6 [.ref (r2 0), .ref (r3 0), .ref (r4 0), .ref (r5 0), .ref (r6 0), .ref (r7 0), .ref (r8 0), .ref (r9 0), .ref (r10 0), .int o_hasHeader, .int o_hasPicture, .int o_frameCount], aJ (r1 0) cJ 1 a1, oB (r4 0) 1 [.ref (r4 1), .ref (r4 2), .ref (r4 3), .ref (r4 5), .ref (r4 7), .int h4_columns, .int h4_rows, .int h4_limit], oB (r4 3) 5 [.ref (r4 4), .int h4_h1_nodeCount, .int h4_h1_tokenCount, .int h4_h1_root], oB (r4 5) 5 [.ref (r4 6), .int h4_h2_nodeCount, .int h4_h2_tokenCount, .int h4_h2_root]] [])) (cc := cL_head) (maxL := 4) (ret := (some .int)) (hh := [(0, 9, 12, 13), (0, 9, 15, 19)]) (own := RL) (Qp := ctQi D (o.1) (wf [oB (r0 0) 6 [.ref (r2 0), .ref (r3 0), .ref (r4 0), .ref (r5 0), .ref (r6 0), .ref (r7 0), .ref (r8 0), .ref (r9 0), .ref (r10 0), .int o_hasHeader, .int o_hasPicture, .int o_frameCount], aJ (r1 0) cJ 1 (o.2), oB (r4 0) 1 [.ref (r4 1), .ref (r4 2), .ref (r4 3), .ref (r4 5), .ref (r4 7), .int h4_columns, .int h4_rows, .int h4_limit], oB (r4 3) 5 [.ref (r4 4), .int h4_h1_nodeCount, .int h4_h1_tokenCount, .int h4_h1_root], oB (r4 5) 5 [.ref (r4 6), .int h4_h2_nodeCount, .int h4_h2_tokenCount, .int h4_h2_root]] [])) (XC := fun _ => ctX0) (mc := 0) (ms := 0) (by decide) rfl rfl (Nat.le_of_ble_eq_true rfl) ?_
  intro p e s m args below meth c A hx hb hr hml htab hown hts hlk hnm hsz E GX9 hP0 hD0 hS0 ls0 hl0
  subst hsz
  have hl0 : lv_has ls0 4 [(0, .ref (r0 0)), (1, .int x1), (2, .ref (r1 0))] := hl0
  obtain ⟨QQ, hQ⟩ : ∃ Q : State → Prop, Q = vx_MQ below (ctQi D (o.1) (wf [oB (r0 0) 6 [.ref (r2 0), .ref (r3 0), .ref (r4 0), .ref (r5 0), .ref (r6 0), .ref (r7 0), .ref (r8 0), .ref (r9 0), .ref (r10 0), .int o_hasHeader, .int o_hasPicture, .int o_frameCount], aJ (r1 0) cJ 1 (o.2), oB (r4 0) 1 [.ref (r4 1), .ref (r4 2), .ref (r4 3), .ref (r4 5), .ref (r4 7), .int h4_columns, .int h4_rows, .int h4_limit], oB (r4 3) 5 [.ref (r4 4), .int h4_h1_nodeCount, .int h4_h1_tokenCount, .int h4_h1_root], oB (r4 5) 5 [.ref (r4 6), .int h4_h2_nodeCount, .int h4_h2_tokenCount, .int h4_h2_root]] []) A) ctX0 args s 0 0 A := ⟨_, rfl⟩
  rw [← hQ]
  unfold f_L_head at hm0
  refine lv_aload_n hx hb dL_head_0 rfl (lv_at hl0 2 rfl) ?_
  refine lv_iconst (v := 0) hx hb dL_head_1 (by decide) ?_
  refine lv_aload_n hx hb dL_head_2 rfl (lv_at hl0 0 rfl) ?_
  refine lv_iload_n hx hb dL_head_3 rfl (lv_at hl0 1 rfl) ?_
  obtain ⟨y_1, hcl2, hm2⟩ := bd1_some hm0; clear hm0
  have sb3 := ctS.mk (n := 5) (k := 0) (pre := [oB (r0 0) 6 [.ref (r2 0), .ref (r3 0), .ref (r4 0), .ref (r5 0), .ref (r6 0), .ref (r7 0), .ref (r8 0), .ref (r9 0), .ref (r10 0), .int o_hasHeader, .int o_hasPicture, .int o_frameCount], aJ (r1 0) cJ 1 a1, oB (r4 0) 1 [.ref (r4 1), .ref (r4 2), .ref (r4 3), .ref (r4 5), .ref (r4 7), .int h4_columns, .int h4_rows, .int h4_limit], oB (r4 3) 5 [.ref (r4 4), .int h4_h1_nodeCount, .int h4_h1_tokenCount, .int h4_h1_root], oB (r4 5) 5 [.ref (r4 6), .int h4_h2_nodeCount, .int h4_h2_tokenCount, .int h4_h2_root]]) (tl := []) [0, 2, 3, 4] [1] [] [] rfl rfl (by decide +kernel) (by decide +kernel)
  refine ct_calli (r := y_1) E sb3 hP0 hD0 hS0 (va_runV (As := [.int x1]) (rest := [.int (0 : Int32), .ref (r1 0)]) ⟨hx, hb, hml, hown, hts⟩ (c_X6_head l D cB cI cJ cQ N r0 r2 r3 r4 r5 r6 r7 r8 r9 r10 s.heap.size x1 o_hasHeader o_hasPicture o_frameCount h4_columns h4_rows h4_limit h4_h1_nodeCount h4_h1_tokenCount h4_h1_root h4_h2_nodeCount h4_h2_tokenCount h4_h2_root (y_1) hcl2) (cwV 1 hts gL_head_X6_head rfl rfl rfl cdV_X6_head ⟨Nat.le_of_ble_eq_true rfl, Nat.le_of_ble_eq_true rfl⟩) (ct_preV (q0 := 0) (ci := 6) E sb3 hP0 hD0 hS0 rfl rfl) rfl rfl hl0.1 rfl (lv_room (Nat.le_of_ble_eq_true rfl)) dL_head_4 ⟨Nat.zero_le _, Nat.zero_le _⟩) (fun H4 lc4 hP4 hD4 hS4 => ?_); clear sb3 hcl2
  clear hP0 hD0 hS0
  have hP4 : va_P D vwCl (wf [aJ (r1 0) cJ 1 a1, oB (r0 0) 6 [.ref (r2 0), .ref (r3 0), .ref (r4 0), .ref (r5 0), .ref (r6 0), .ref (r7 0), .ref (r8 0), .ref (r9 0), .ref (r10 0), .int o_hasHeader, .int o_hasPicture, .int o_frameCount], oB (r4 0) 1 [.ref (r4 1), .ref (r4 2), .ref (r4 3), .ref (r4 5), .ref (r4 7), .int h4_columns, .int h4_rows, .int h4_limit], oB (r4 3) 5 [.ref (r4 4), .int h4_h1_nodeCount, .int h4_h1_tokenCount, .int h4_h1_root], oB (r4 5) 5 [.ref (r4 6), .int h4_h2_nodeCount, .int h4_h2_tokenCount, .int h4_h2_root]] []) H4 := hP4
  have hD4 : va_D A (wf [aJ (r1 0) cJ 1 a1, oB (r0 0) 6 [.ref (r2 0), .ref (r3 0), .ref (r4 0), .ref (r5 0), .ref (r6 0), .ref (r7 0), .ref (r8 0), .ref (r9 0), .ref (r10 0), .int o_hasHeader, .int o_hasPicture, .int o_frameCount], oB (r4 0) 1 [.ref (r4 1), .ref (r4 2), .ref (r4 3), .ref (r4 5), .ref (r4 7), .int h4_columns, .int h4_rows, .int h4_limit], oB (r4 3) 5 [.ref (r4 4), .int h4_h1_nodeCount, .int h4_h1_tokenCount, .int h4_h1_root], oB (r4 5) 5 [.ref (r4 6), .int h4_h2_nodeCount, .int h4_h2_tokenCount, .int h4_h2_root]] []) := hD4
  refine lv_i2l hx hb dL_head_7 rfl ?_
  obtain ⟨hin5, hm5⟩ := gi_some hm2; clear hm2
  obtain ⟨a1_6, ea1_6, hm7⟩ := nm_some hm5; clear hm5
  refine ct_last (g := a1_6) (ws' := (wf [aJ (r1 0) cJ 1 a1_6, oB (r0 0) 6 [.ref (r2 0), .ref (r3 0), .ref (r4 0), .ref (r5 0), .ref (r6 0), .ref (r7 0), .ref (r8 0), .ref (r9 0), .ref (r10 0), .int o_hasHeader, .int o_hasPicture, .int o_frameCount], oB (r4 0) 1 [.ref (r4 1), .ref (r4 2), .ref (r4 3), .ref (r4 5), .ref (r4 7), .int h4_columns, .int h4_rows, .int h4_limit], oB (r4 3) 5 [.ref (r4 4), .int h4_h1_nodeCount, .int h4_h1_tokenCount, .int h4_h1_root], oB (r4 5) 5 [.ref (r4 6), .int h4_h2_nodeCount, .int h4_h2_tokenCount, .int h4_h2_root]] [])) hx hb E.1 hP4 hD4 hS4 0 2 rfl rfl hin5 ea1_6 rfl dL_head_8 (fun H8 lc8 hP8 hD8 hS8 => ?_)
  clear hP4 hD4 hS4
  refine lv_goto (tgt := 18) hx hb dL_head_9 (by decide) ?_
  refine lv_iconst (v := 0) hx hb dL_head_18 (by decide) ?_
  obtain ⟨hP9, hD9⟩ := ct_ord (n := 5) (k := 0) [1, 0, 2, 3, 4] [] hP8 hD8 rfl rfl (by decide +kernel) (by decide +kernel)
  have hS9 := hS8
  have hP9 : va_P D vwCl (wf [oB (r0 0) 6 [.ref (r2 0), .ref (r3 0), .ref (r4 0), .ref (r5 0), .ref (r6 0), .ref (r7 0), .ref (r8 0), .ref (r9 0), .ref (r10 0), .int o_hasHeader, .int o_hasPicture, .int o_frameCount], aJ (r1 0) cJ 1 a1_6, oB (r4 0) 1 [.ref (r4 1), .ref (r4 2), .ref (r4 3), .ref (r4 5), .ref (r4 7), .int h4_columns, .int h4_rows, .int h4_limit], oB (r4 3) 5 [.ref (r4 4), .int h4_h1_nodeCount, .int h4_h1_tokenCount, .int h4_h1_root], oB (r4 5) 5 [.ref (r4 6), .int h4_h2_nodeCount, .int h4_h2_tokenCount, .int h4_h2_root]] []) H8 := hP9
  have hD9 : va_D A (wf [oB (r0 0) 6 [.ref (r2 0), .ref (r3 0), .ref (r4 0), .ref (r5 0), .ref (r6 0), .ref (r7 0), .ref (r8 0), .ref (r9 0), .ref (r10 0), .int o_hasHeader, .int o_hasPicture, .int o_frameCount], aJ (r1 0) cJ 1 a1_6, oB (r4 0) 1 [.ref (r4 1), .ref (r4 2), .ref (r4 3), .ref (r4 5), .ref (r4 7), .int h4_columns, .int h4_rows, .int h4_limit], oB (r4 3) 5 [.ref (r4 4), .int h4_h1_nodeCount, .int h4_h1_tokenCount, .int h4_h1_root], oB (r4 5) 5 [.ref (r4 6), .int h4_h2_nodeCount, .int h4_h2_tokenCount, .int h4_h2_root]] []) := hD9
  obtain rfl := Option.some.inj hm7
  rw [hQ]
  exact cth_iret hx hb hr hlk hP9 hD9 hS9 rfl dL_head_19

def f_L_head_x1 (x1 : Int32) (o_hasHeader : Int32) : Option (Int32) :=
  bd1 (f_X6_head_x1 x1 o_hasHeader) fun _ =>
  some ((1 : Int32))

abbrev rm_L_head_x1 : Room := { frames := 7, cells := 1, slots := 6, locals := 111 }

set_option maxHeartbeats 40000000 in
set_option maxRecDepth 100000 in
theorem c_L_head_x1 (l : Launch) (D : va_G) (cB cI cJ cQ : ClassId) (N : Nat) (hst : l.stackTraces = false) (r0 : Nat → Nat) (r1 : Nat → Nat) (r2 : Nat → Nat) (r3 : Nat → Nat) (r4 : Nat → Nat) (r5 : Nat → Nat) (r6 : Nat → Nat) (r7 : Nat → Nat) (r8 : Nat → Nat) (r9 : Nat → Nat) (r10 : Nat → Nat) (sz : Nat) (x1 : Int32) (o_hasHeader : Int32) (o_hasPicture : Int32) (o_frameCount : Int32) (o : Int32) (hm0 : f_L_head_x1 x1 o_hasHeader = some o) : vx_Met l yL_head wsL_head rm_L_head_x1 (ctPX D cB cI cJ cQ N sz [.ref (r0 0), .int x1, .ref (r1 0)] (wf [oB (r0 0) 6 [.ref (r2 0), .ref (r3 0), .ref (r4 0), .ref (r5 0), .ref (r6 0), .ref (r7 0), .ref (r8 0), .ref (r9 0), .ref (r10 0), .int o_hasHeader, .int o_hasPicture, .int o_frameCount]] [])) (ctQi D o (wf [oB (r0 0) 6 [.ref (r2 0), .ref (r3 0), .ref (r4 0), .ref (r5 0), .ref (r6 0), .ref (r7 0), .ref (r8 0), .ref (r9 0), .ref (r10 0), .int o_hasHeader, .int o_hasPicture, .int o_frameCount]] []) (va_A (wf [oB (r0 0) 6 [.ref (r2 0), .ref (r3 0), .ref (r4 0), .ref (r5 0), .ref (r6 0), .ref (r7 0), .ref (r8 0), .ref (r9 0), .ref (r10 0), .int o_hasHeader, .int o_hasPicture, .int o_frameCount]] []) sz)) ctX0 1 6 (va_A (wf [oB (r0 0) 6 [.ref (r2 0), .ref (r3 0), .ref (r4 0), .ref (r5 0), .ref (r6 0), .ref (r7 0), .ref (r8 0), .ref (r9 0), .ref (r10 0), .int o_hasHeader, .int o_hasPicture, .int o_frameCount]] []) sz) := by
  refine cth_of (y := yL_head) (av := [.ref (r0 0), .int x1, .ref (r1 0)]) (w0 := (wf [oB (r0 0) 6 [.ref (r2 0), .ref (r3 0), .ref (r4 0), .ref (r5 0), .ref (r6 0), .ref (r7 0), .ref (r8 0), .ref (r9 0), .ref (r10 0), .int o_hasHeader, .int o_hasPicture, .int o_frameCount]] [])) (cc := cL_head) (maxL := 4) (ret := (some .int)) (hh := [(0, 9, 12, 13), (0, 9, 15, 19)]) (own := RL) (Qp := ctQi D o (wf [oB (r0 0) 6 [.ref (r2 0), .ref (r3 0), .ref (r4 0), .ref (r5 0), .ref (r6 0), .ref (r7 0), .ref (r8 0), .ref (r9 0), .ref (r10 0), .int o_hasHeader, .int o_hasPicture, .int o_frameCount]] [])) (XC := fun _ => ctX0) (mc := 1) (ms := 6) (by decide) rfl rfl (Nat.le_of_ble_eq_true rfl) ?_
  intro p e s m args below meth c A hx hb hr hml htab hown hts hlk hnm hsz E GX9 hP0 hD0 hS0 ls0 hl0
  subst hsz
  have hl0 : lv_has ls0 4 [(0, .ref (r0 0)), (1, .int x1), (2, .ref (r1 0))] := hl0
  obtain ⟨QQ, hQ⟩ : ∃ Q : State → Prop, Q = vx_MQ below (ctQi D o (wf [oB (r0 0) 6 [.ref (r2 0), .ref (r3 0), .ref (r4 0), .ref (r5 0), .ref (r6 0), .ref (r7 0), .ref (r8 0), .ref (r9 0), .ref (r10 0), .int o_hasHeader, .int o_hasPicture, .int o_frameCount]] []) A) ctX0 args s 1 6 A := ⟨_, rfl⟩
  rw [← hQ]
  unfold f_L_head_x1 at hm0
  refine lv_aload_n hx hb dL_head_0 rfl (lv_at hl0 2 rfl) ?_
  refine lv_iconst (v := 0) hx hb dL_head_1 (by decide) ?_
  refine lv_aload_n hx hb dL_head_2 rfl (lv_at hl0 0 rfl) ?_
  refine lv_iload_n hx hb dL_head_3 rfl (lv_at hl0 1 rfl) ?_
  obtain ⟨u1, hcl1, hm1⟩ := bd1_some hm0; clear hm0
  have sb2 := ctS.mk (n := 1) (k := 0) (pre := [oB (r0 0) 6 [.ref (r2 0), .ref (r3 0), .ref (r4 0), .ref (r5 0), .ref (r6 0), .ref (r7 0), .ref (r8 0), .ref (r9 0), .ref (r10 0), .int o_hasHeader, .int o_hasPicture, .int o_frameCount]]) (tl := []) [0] [] [] [] rfl rfl (by decide +kernel) (by decide +kernel)
  refine ctx_calli (EX := ISE) E sb2 hP0 hD0 hS0 (vx_runV (As := [.int x1]) (rest := [.int (0 : Int32), .ref (r1 0)]) ⟨hx, hb, hml, hown, hts⟩ (c_X6_head_x1 l D cB cI cJ cQ N hst r0 r2 r3 r4 r5 r6 r7 r8 r9 r10 s.heap.size x1 o_hasHeader o_hasPicture o_frameCount u1 hcl1) (cwV 1 hts gL_head_X6_head rfl rfl rfl cdV_X6_head ⟨Nat.le_of_ble_eq_true rfl, Nat.le_of_ble_eq_true rfl⟩) (ctx_preV (q0 := 0) (ci := 6) E GX9 sb2 hP0 hD0 hS0 rfl rfl) rfl rfl hl0.1 rfl (lv_room (Nat.le_of_ble_eq_true rfl)) dL_head_4 ⟨Nat.le_of_ble_eq_true rfl, Nat.le_of_ble_eq_true rfl⟩) (fun ce9 q9 H3 lc3 hP3 hD3 hS3 hcell9 hv9 hcl9 => ?_); clear sb2 hcl1
  clear hP0 hD0 hS0
  have hP3 : va_P D vwCl (wf [oB (r0 0) 6 [.ref (r2 0), .ref (r3 0), .ref (r4 0), .ref (r5 0), .ref (r6 0), .ref (r7 0), .ref (r8 0), .ref (r9 0), .ref (r10 0), .int o_hasHeader, .int o_hasPicture, .int o_frameCount]] []) H3 := hP3
  have hD3 : va_D A (wf [oB (r0 0) 6 [.ref (r2 0), .ref (r3 0), .ref (r4 0), .ref (r5 0), .ref (r6 0), .ref (r7 0), .ref (r8 0), .ref (r9 0), .ref (r10 0), .int o_hasHeader, .int o_hasPicture, .int o_frameCount]] []) := hD3
  refine vx_catch (E := ISE) (name := ISE) hown [] ⟨0, 9, 12, 13⟩ [⟨0, 9, 15, 19⟩] (htab.trans rfl) (fun z hz => nomatch hz) (by decide) (by decide) (hts _ (List.mem_of_getElem? (i := 1) rfl)) (va_Nw.use (A := args) rfl (GX9.2.2.2.2.2.2.2.2.2.2.1)) hcell9 hv9 hcl9 ?_
  refine W.eq (g2 := F0 m 12 ls0 [.ref q9]) rfl ?_
  refine lv_astore_n (lv' := [(3, .ref q9), (0, .ref (r0 0)), (1, .int x1), (2, .ref (r1 0))]) hx hb dL_head_12 rfl hl0 (by decide) rfl (fun ls4 hl4 => ?_); clear hl0
  refine lv_iconst (v := 1) hx hb dL_head_13 (by decide) ?_
  obtain rfl := Option.some.inj hm1
  rw [hQ]
  exact cth_iret hx hb hr hlk hP3 hD3 hS3 rfl dL_head_14

def f_L_head_x2 (x1 : Int32) (o_hasHeader : Int32) : Option (Int32) :=
  bd1 (f_X6_head_x2 x1 o_hasHeader) fun _ =>
  some ((2 : Int32))

abbrev rm_L_head_x2 : Room := { frames := 7, cells := 1, slots := 6, locals := 111 }

set_option maxHeartbeats 40000000 in
set_option maxRecDepth 100000 in
theorem c_L_head_x2 (l : Launch) (D : va_G) (cB cI cJ cQ : ClassId) (N : Nat) (hst : l.stackTraces = false) (r0 : Nat → Nat) (r1 : Nat → Nat) (r2 : Nat → Nat) (r3 : Nat → Nat) (r4 : Nat → Nat) (r5 : Nat → Nat) (r6 : Nat → Nat) (r7 : Nat → Nat) (r8 : Nat → Nat) (r9 : Nat → Nat) (r10 : Nat → Nat) (sz : Nat) (x1 : Int32) (o_hasHeader : Int32) (o_hasPicture : Int32) (o_frameCount : Int32) (o : Int32) (hm0 : f_L_head_x2 x1 o_hasHeader = some o) : vx_Met l yL_head wsL_head rm_L_head_x2 (ctPX D cB cI cJ cQ N sz [.ref (r0 0), .int x1, .ref (r1 0)] (wf [oB (r0 0) 6 [.ref (r2 0), .ref (r3 0), .ref (r4 0), .ref (r5 0), .ref (r6 0), .ref (r7 0), .ref (r8 0), .ref (r9 0), .ref (r10 0), .int o_hasHeader, .int o_hasPicture, .int o_frameCount]] [])) (ctQi D o (wf [oB (r0 0) 6 [.ref (r2 0), .ref (r3 0), .ref (r4 0), .ref (r5 0), .ref (r6 0), .ref (r7 0), .ref (r8 0), .ref (r9 0), .ref (r10 0), .int o_hasHeader, .int o_hasPicture, .int o_frameCount]] []) (va_A (wf [oB (r0 0) 6 [.ref (r2 0), .ref (r3 0), .ref (r4 0), .ref (r5 0), .ref (r6 0), .ref (r7 0), .ref (r8 0), .ref (r9 0), .ref (r10 0), .int o_hasHeader, .int o_hasPicture, .int o_frameCount]] []) sz)) ctX0 1 6 (va_A (wf [oB (r0 0) 6 [.ref (r2 0), .ref (r3 0), .ref (r4 0), .ref (r5 0), .ref (r6 0), .ref (r7 0), .ref (r8 0), .ref (r9 0), .ref (r10 0), .int o_hasHeader, .int o_hasPicture, .int o_frameCount]] []) sz) := by
  refine cth_of (y := yL_head) (av := [.ref (r0 0), .int x1, .ref (r1 0)]) (w0 := (wf [oB (r0 0) 6 [.ref (r2 0), .ref (r3 0), .ref (r4 0), .ref (r5 0), .ref (r6 0), .ref (r7 0), .ref (r8 0), .ref (r9 0), .ref (r10 0), .int o_hasHeader, .int o_hasPicture, .int o_frameCount]] [])) (cc := cL_head) (maxL := 4) (ret := (some .int)) (hh := [(0, 9, 12, 13), (0, 9, 15, 19)]) (own := RL) (Qp := ctQi D o (wf [oB (r0 0) 6 [.ref (r2 0), .ref (r3 0), .ref (r4 0), .ref (r5 0), .ref (r6 0), .ref (r7 0), .ref (r8 0), .ref (r9 0), .ref (r10 0), .int o_hasHeader, .int o_hasPicture, .int o_frameCount]] [])) (XC := fun _ => ctX0) (mc := 1) (ms := 6) (by decide) rfl rfl (Nat.le_of_ble_eq_true rfl) ?_
  intro p e s m args below meth c A hx hb hr hml htab hown hts hlk hnm hsz E GX9 hP0 hD0 hS0 ls0 hl0
  subst hsz
  have hl0 : lv_has ls0 4 [(0, .ref (r0 0)), (1, .int x1), (2, .ref (r1 0))] := hl0
  obtain ⟨QQ, hQ⟩ : ∃ Q : State → Prop, Q = vx_MQ below (ctQi D o (wf [oB (r0 0) 6 [.ref (r2 0), .ref (r3 0), .ref (r4 0), .ref (r5 0), .ref (r6 0), .ref (r7 0), .ref (r8 0), .ref (r9 0), .ref (r10 0), .int o_hasHeader, .int o_hasPicture, .int o_frameCount]] []) A) ctX0 args s 1 6 A := ⟨_, rfl⟩
  rw [← hQ]
  unfold f_L_head_x2 at hm0
  refine lv_aload_n hx hb dL_head_0 rfl (lv_at hl0 2 rfl) ?_
  refine lv_iconst (v := 0) hx hb dL_head_1 (by decide) ?_
  refine lv_aload_n hx hb dL_head_2 rfl (lv_at hl0 0 rfl) ?_
  refine lv_iload_n hx hb dL_head_3 rfl (lv_at hl0 1 rfl) ?_
  obtain ⟨u1, hcl1, hm1⟩ := bd1_some hm0; clear hm0
  have sb2 := ctS.mk (n := 1) (k := 0) (pre := [oB (r0 0) 6 [.ref (r2 0), .ref (r3 0), .ref (r4 0), .ref (r5 0), .ref (r6 0), .ref (r7 0), .ref (r8 0), .ref (r9 0), .ref (r10 0), .int o_hasHeader, .int o_hasPicture, .int o_frameCount]]) (tl := []) [0] [] [] [] rfl rfl (by decide +kernel) (by decide +kernel)
  refine ctx_calli (EX := IAE) E sb2 hP0 hD0 hS0 (vx_runV (As := [.int x1]) (rest := [.int (0 : Int32), .ref (r1 0)]) ⟨hx, hb, hml, hown, hts⟩ (c_X6_head_x2 l D cB cI cJ cQ N hst r0 r2 r3 r4 r5 r6 r7 r8 r9 r10 s.heap.size x1 o_hasHeader o_hasPicture o_frameCount u1 hcl1) (cwV 1 hts gL_head_X6_head rfl rfl rfl cdV_X6_head ⟨Nat.le_of_ble_eq_true rfl, Nat.le_of_ble_eq_true rfl⟩) (ctx_preV (q0 := 0) (ci := 6) E GX9 sb2 hP0 hD0 hS0 rfl rfl) rfl rfl hl0.1 rfl (lv_room (Nat.le_of_ble_eq_true rfl)) dL_head_4 ⟨Nat.le_of_ble_eq_true rfl, Nat.le_of_ble_eq_true rfl⟩) (fun ce9 q9 H3 lc3 hP3 hD3 hS3 hcell9 hv9 hcl9 => ?_); clear sb2 hcl1
  clear hP0 hD0 hS0
  have hP3 : va_P D vwCl (wf [oB (r0 0) 6 [.ref (r2 0), .ref (r3 0), .ref (r4 0), .ref (r5 0), .ref (r6 0), .ref (r7 0), .ref (r8 0), .ref (r9 0), .ref (r10 0), .int o_hasHeader, .int o_hasPicture, .int o_frameCount]] []) H3 := hP3
  have hD3 : va_D A (wf [oB (r0 0) 6 [.ref (r2 0), .ref (r3 0), .ref (r4 0), .ref (r5 0), .ref (r6 0), .ref (r7 0), .ref (r8 0), .ref (r9 0), .ref (r10 0), .int o_hasHeader, .int o_hasPicture, .int o_frameCount]] []) := hD3
  refine vx_catch (E := IAE) (name := IAE) hown [⟨0, 9, 12, 13⟩] ⟨0, 9, 15, 19⟩ [] (htab.trans rfl) (List.forall_mem_cons.mpr ⟨Or.inr ⟨by decide, ISE, (hts _ (List.mem_of_getElem? (i := 1) rfl)), GX9.2.2.2.2.2.2.2.2.2.2.2.2.2.1⟩, fun z hz => nomatch hz⟩) (by decide) (by decide) (hts _ (List.mem_of_getElem? (i := 2) rfl)) (va_Nw.use (A := args) rfl (GX9.2.2.2.2.2.2.2.2.2.2.2.1)) hcell9 hv9 hcl9 ?_
  refine W.eq (g2 := F0 m 15 ls0 [.ref q9]) rfl ?_
  refine lv_astore_n (lv' := [(3, .ref q9), (0, .ref (r0 0)), (1, .int x1), (2, .ref (r1 0))]) hx hb dL_head_15 rfl hl0 (by decide) rfl (fun ls4 hl4 => ?_); clear hl0
  refine lv_iconst (v := 2) hx hb dL_head_16 (by decide) ?_
  obtain rfl := Option.some.inj hm1
  rw [hQ]
  exact cth_iret hx hb hr hlk hP3 hD3 hS3 rfl dL_head_17

def f_L_sample (x1 : Int32) (x2 : Int32) (x3 : Int32) (o_hasPicture : Int32) (a1 : Nat → Int64) (p8_width : Int32) (p8_height : Int32) (p8_samples : Nat → Int32) (p10_width : Int32) (p10_height : Int32) (p10_samples : Nat → Int32) : Option (Int32 × (Nat → Int64)) :=
  bd1 (f_X6_sample x1 x2 x3 o_hasPicture p8_width p8_height p8_samples p10_width p10_height p10_samples) fun y_1 =>
  gi (0 : Int32) 1 <|
  nm (vp_updL a1 (0 : Int32).toNatClampNeg (Int32.toInt64 y_1) : Nat → Int64) fun a1_6 =>
  some ((0 : Int32), a1_6)

abbrev rm_L_sample : Room := { frames := 4, cells := 0, slots := 0, locals := 127 }

theorem cdS_L_sample : yL_sample.cls ≠ "java/lang/invoke/MethodHandle" ∧ yL_sample.cls ≠ "java/lang/invoke/VarHandle" ∧ (parseMethodDescriptor yL_sample.desc).map (fun d => d.parameters.length) = some 5 := by decide +kernel

set_option maxHeartbeats 40000000 in
set_option maxRecDepth 100000 in
theorem c_L_sample (l : Launch) (D : va_G) (cB cI cJ cQ : ClassId) (N : Nat) (hst : l.stackTraces = false) (r0 : Nat → Nat) (r1 : Nat → Nat) (r2 : Nat → Nat) (r3 : Nat → Nat) (r4 : Nat → Nat) (r5 : Nat → Nat) (r6 : Nat → Nat) (r7 : Nat → Nat) (r8 : Nat → Nat) (r9 : Nat → Nat) (r10 : Nat → Nat) (sz : Nat) (x1 : Int32) (x2 : Int32) (x3 : Int32) (o_hasHeader : Int32) (o_hasPicture : Int32) (o_frameCount : Int32) (a1 : Nat → Int64) (p8_width : Int32) (p8_height : Int32) (p8_samples : Nat → Int32) (p10_width : Int32) (p10_height : Int32) (p10_samples : Nat → Int32) (o : Int32 × (Nat → Int64)) (hm0 : f_L_sample x1 x2 x3 o_hasPicture a1 p8_width p8_height p8_samples p10_width p10_height p10_samples = some o) : vx_Met l yL_sample wsL_sample rm_L_sample (ctPX D cB cI cJ cQ N sz [.ref (r0 0), .int x1, .int x2, .int x3, .ref (r1 0)] (wf [oB (r0 0) 6 [.ref (r2 0), .ref (r3 0), .ref (r4 0), .ref (r5 0), .ref (r6 0), .ref (r7 0), .ref (r8 0), .ref (r9 0), .ref (r10 0), .int o_hasHeader, .int o_hasPicture, .int o_frameCount], aJ (r1 0) cJ 1 a1, oB (r8 0) 3 [.ref (r8 1), .int p8_width, .int p8_height], aI (r8 1) cI 2304 p8_samples, oB (r10 0) 3 [.ref (r10 1), .int p10_width, .int p10_height], aI (r10 1) cI 2304 p10_samples] [])) (ctQi D (o.1) (wf [oB (r0 0) 6 [.ref (r2 0), .ref (r3 0), .ref (r4 0), .ref (r5 0), .ref (r6 0), .ref (r7 0), .ref (r8 0), .ref (r9 0), .ref (r10 0), .int o_hasHeader, .int o_hasPicture, .int o_frameCount], aJ (r1 0) cJ 1 (o.2), oB (r8 0) 3 [.ref (r8 1), .int p8_width, .int p8_height], aI (r8 1) cI 2304 p8_samples, oB (r10 0) 3 [.ref (r10 1), .int p10_width, .int p10_height], aI (r10 1) cI 2304 p10_samples] []) (va_A (wf [oB (r0 0) 6 [.ref (r2 0), .ref (r3 0), .ref (r4 0), .ref (r5 0), .ref (r6 0), .ref (r7 0), .ref (r8 0), .ref (r9 0), .ref (r10 0), .int o_hasHeader, .int o_hasPicture, .int o_frameCount], aJ (r1 0) cJ 1 a1, oB (r8 0) 3 [.ref (r8 1), .int p8_width, .int p8_height], aI (r8 1) cI 2304 p8_samples, oB (r10 0) 3 [.ref (r10 1), .int p10_width, .int p10_height], aI (r10 1) cI 2304 p10_samples] []) sz)) ctX0 0 0 (va_A (wf [oB (r0 0) 6 [.ref (r2 0), .ref (r3 0), .ref (r4 0), .ref (r5 0), .ref (r6 0), .ref (r7 0), .ref (r8 0), .ref (r9 0), .ref (r10 0), .int o_hasHeader, .int o_hasPicture, .int o_frameCount], aJ (r1 0) cJ 1 a1, oB (r8 0) 3 [.ref (r8 1), .int p8_width, .int p8_height], aI (r8 1) cI 2304 p8_samples, oB (r10 0) 3 [.ref (r10 1), .int p10_width, .int p10_height], aI (r10 1) cI 2304 p10_samples] []) sz) := by
  refine cth_of (y := yL_sample) (av := [.ref (r0 0), .int x1, .int x2, .int x3, .ref (r1 0)]) (w0 := (wf [oB (r0 0) 6 [.ref (r2 0), .ref (r3 0), .ref (r4 0), .ref (r5 0), .ref (r6 0), .ref (r7 0), .ref (r8 0), .ref (r9 0), .ref (r10 0), .int o_hasHeader, .int o_hasPicture, .int o_frameCount], aJ (r1 0) cJ 1 a1, oB (r8 0) 3 [.ref (r8 1), .int p8_width, .int p8_height], aI (r8 1) cI 2304 p8_samples, oB (r10 0) 3 [.ref (r10 1), .int p10_width, .int p10_height], aI (r10 1) cI 2304 p10_samples] [])) (cc := cL_sample) (maxL := 6) (ret := (some .int)) (hh := [(0, 12, 15, 13), (0, 12, 19, 33)]) (own := RL) (Qp := ctQi D (o.1) (wf [oB (r0 0) 6 [.ref (r2 0), .ref (r3 0), .ref (r4 0), .ref (r5 0), .ref (r6 0), .ref (r7 0), .ref (r8 0), .ref (r9 0), .ref (r10 0), .int o_hasHeader, .int o_hasPicture, .int o_frameCount], aJ (r1 0) cJ 1 (o.2), oB (r8 0) 3 [.ref (r8 1), .int p8_width, .int p8_height], aI (r8 1) cI 2304 p8_samples, oB (r10 0) 3 [.ref (r10 1), .int p10_width, .int p10_height], aI (r10 1) cI 2304 p10_samples] [])) (XC := fun _ => ctX0) (mc := 0) (ms := 0) (by decide) rfl rfl (Nat.le_of_ble_eq_true rfl) ?_
  intro p e s m args below meth c A hx hb hr hml htab hown hts hlk hnm hsz E GX9 hP0 hD0 hS0 ls0 hl0
  subst hsz
  have hl0 : lv_has ls0 6 [(0, .ref (r0 0)), (1, .int x1), (2, .int x2), (3, .int x3), (4, .ref (r1 0))] := hl0
  obtain ⟨QQ, hQ⟩ : ∃ Q : State → Prop, Q = vx_MQ below (ctQi D (o.1) (wf [oB (r0 0) 6 [.ref (r2 0), .ref (r3 0), .ref (r4 0), .ref (r5 0), .ref (r6 0), .ref (r7 0), .ref (r8 0), .ref (r9 0), .ref (r10 0), .int o_hasHeader, .int o_hasPicture, .int o_frameCount], aJ (r1 0) cJ 1 (o.2), oB (r8 0) 3 [.ref (r8 1), .int p8_width, .int p8_height], aI (r8 1) cI 2304 p8_samples, oB (r10 0) 3 [.ref (r10 1), .int p10_width, .int p10_height], aI (r10 1) cI 2304 p10_samples] []) A) ctX0 args s 0 0 A := ⟨_, rfl⟩
  rw [← hQ]
  unfold f_L_sample at hm0
  refine lv_aload hx hb dL_sample_0 (lv_at hl0 4 rfl) ?_
  refine lv_iconst (v := 0) hx hb dL_sample_2 (by decide) ?_
  refine lv_aload_n hx hb dL_sample_3 rfl (lv_at hl0 0 rfl) ?_
  refine lv_iload_n hx hb dL_sample_4 rfl (lv_at hl0 1 rfl) ?_
  refine lv_iload_n hx hb dL_sample_5 rfl (lv_at hl0 2 rfl) ?_
  refine lv_iload_n hx hb dL_sample_6 rfl (lv_at hl0 3 rfl) ?_
  obtain ⟨y_1, hcl2, hm2⟩ := bd1_some hm0; clear hm0
  have sb3 := ctS.mk (n := 6) (k := 0) (pre := [oB (r0 0) 6 [.ref (r2 0), .ref (r3 0), .ref (r4 0), .ref (r5 0), .ref (r6 0), .ref (r7 0), .ref (r8 0), .ref (r9 0), .ref (r10 0), .int o_hasHeader, .int o_hasPicture, .int o_frameCount], aJ (r1 0) cJ 1 a1, oB (r8 0) 3 [.ref (r8 1), .int p8_width, .int p8_height], aI (r8 1) cI 2304 p8_samples, oB (r10 0) 3 [.ref (r10 1), .int p10_width, .int p10_height], aI (r10 1) cI 2304 p10_samples]) (tl := []) [0, 2, 3, 4, 5] [1] [] [] rfl rfl (by decide +kernel) (by decide +kernel)
  refine ct_calli (r := y_1) E sb3 hP0 hD0 hS0 (va_runV (As := [.int x1, .int x2, .int x3]) (rest := [.int (0 : Int32), .ref (r1 0)]) ⟨hx, hb, hml, hown, hts⟩ (c_X6_sample l D cB cI cJ cQ N r0 r2 r3 r4 r5 r6 r7 r8 r9 r10 s.heap.size x1 x2 x3 o_hasHeader o_hasPicture o_frameCount p8_width p8_height p8_samples p10_width p10_height p10_samples (y_1) hcl2) (cwV 3 hts gL_sample_X6_sample rfl rfl rfl cdV_X6_sample ⟨Nat.le_of_ble_eq_true rfl, Nat.le_of_ble_eq_true rfl⟩) (ct_preV (q0 := 0) (ci := 6) E sb3 hP0 hD0 hS0 rfl rfl) rfl rfl hl0.1 rfl (lv_room (Nat.le_of_ble_eq_true rfl)) dL_sample_7 ⟨Nat.zero_le _, Nat.zero_le _⟩) (fun H4 lc4 hP4 hD4 hS4 => ?_); clear sb3 hcl2
  clear hP0 hD0 hS0
  have hP4 : va_P D vwCl (wf [aJ (r1 0) cJ 1 a1, oB (r0 0) 6 [.ref (r2 0), .ref (r3 0), .ref (r4 0), .ref (r5 0), .ref (r6 0), .ref (r7 0), .ref (r8 0), .ref (r9 0), .ref (r10 0), .int o_hasHeader, .int o_hasPicture, .int o_frameCount], oB (r8 0) 3 [.ref (r8 1), .int p8_width, .int p8_height], aI (r8 1) cI 2304 p8_samples, oB (r10 0) 3 [.ref (r10 1), .int p10_width, .int p10_height], aI (r10 1) cI 2304 p10_samples] []) H4 := hP4
  have hD4 : va_D A (wf [aJ (r1 0) cJ 1 a1, oB (r0 0) 6 [.ref (r2 0), .ref (r3 0), .ref (r4 0), .ref (r5 0), .ref (r6 0), .ref (r7 0), .ref (r8 0), .ref (r9 0), .ref (r10 0), .int o_hasHeader, .int o_hasPicture, .int o_frameCount], oB (r8 0) 3 [.ref (r8 1), .int p8_width, .int p8_height], aI (r8 1) cI 2304 p8_samples, oB (r10 0) 3 [.ref (r10 1), .int p10_width, .int p10_height], aI (r10 1) cI 2304 p10_samples] []) := hD4
  refine lv_i2l hx hb dL_sample_10 rfl ?_
  obtain ⟨hin5, hm5⟩ := gi_some hm2; clear hm2
  obtain ⟨a1_6, ea1_6, hm7⟩ := nm_some hm5; clear hm5
  refine ct_last (g := a1_6) (ws' := (wf [aJ (r1 0) cJ 1 a1_6, oB (r0 0) 6 [.ref (r2 0), .ref (r3 0), .ref (r4 0), .ref (r5 0), .ref (r6 0), .ref (r7 0), .ref (r8 0), .ref (r9 0), .ref (r10 0), .int o_hasHeader, .int o_hasPicture, .int o_frameCount], oB (r8 0) 3 [.ref (r8 1), .int p8_width, .int p8_height], aI (r8 1) cI 2304 p8_samples, oB (r10 0) 3 [.ref (r10 1), .int p10_width, .int p10_height], aI (r10 1) cI 2304 p10_samples] [])) hx hb E.1 hP4 hD4 hS4 0 2 rfl rfl hin5 ea1_6 rfl dL_sample_11 (fun H8 lc8 hP8 hD8 hS8 => ?_)
  clear hP4 hD4 hS4
  refine lv_goto (tgt := 23) hx hb dL_sample_12 (by decide) ?_
  refine lv_iconst (v := 0) hx hb dL_sample_23 (by decide) ?_
  obtain ⟨hP9, hD9⟩ := ct_ord (n := 6) (k := 0) [1, 0, 2, 3, 4, 5] [] hP8 hD8 rfl rfl (by decide +kernel) (by decide +kernel)
  have hS9 := hS8
  have hP9 : va_P D vwCl (wf [oB (r0 0) 6 [.ref (r2 0), .ref (r3 0), .ref (r4 0), .ref (r5 0), .ref (r6 0), .ref (r7 0), .ref (r8 0), .ref (r9 0), .ref (r10 0), .int o_hasHeader, .int o_hasPicture, .int o_frameCount], aJ (r1 0) cJ 1 a1_6, oB (r8 0) 3 [.ref (r8 1), .int p8_width, .int p8_height], aI (r8 1) cI 2304 p8_samples, oB (r10 0) 3 [.ref (r10 1), .int p10_width, .int p10_height], aI (r10 1) cI 2304 p10_samples] []) H8 := hP9
  have hD9 : va_D A (wf [oB (r0 0) 6 [.ref (r2 0), .ref (r3 0), .ref (r4 0), .ref (r5 0), .ref (r6 0), .ref (r7 0), .ref (r8 0), .ref (r9 0), .ref (r10 0), .int o_hasHeader, .int o_hasPicture, .int o_frameCount], aJ (r1 0) cJ 1 a1_6, oB (r8 0) 3 [.ref (r8 1), .int p8_width, .int p8_height], aI (r8 1) cI 2304 p8_samples, oB (r10 0) 3 [.ref (r10 1), .int p10_width, .int p10_height], aI (r10 1) cI 2304 p10_samples] []) := hD9
  obtain rfl := Option.some.inj hm7
  rw [hQ]
  exact cth_iret hx hb hr hlk hP9 hD9 hS9 rfl dL_sample_24

def f_L_sample_x1 (x1 : Int32) (x2 : Int32) (x3 : Int32) (o_hasPicture : Int32) : Option (Int32) :=
  bd1 (f_X6_sample_x1 x1 x2 x3 o_hasPicture) fun _ =>
  some ((1 : Int32))

abbrev rm_L_sample_x1 : Room := { frames := 7, cells := 1, slots := 6, locals := 113 }

set_option maxHeartbeats 40000000 in
set_option maxRecDepth 100000 in
theorem c_L_sample_x1 (l : Launch) (D : va_G) (cB cI cJ cQ : ClassId) (N : Nat) (hst : l.stackTraces = false) (r0 : Nat → Nat) (r1 : Nat → Nat) (r2 : Nat → Nat) (r3 : Nat → Nat) (r4 : Nat → Nat) (r5 : Nat → Nat) (r6 : Nat → Nat) (r7 : Nat → Nat) (r8 : Nat → Nat) (r9 : Nat → Nat) (r10 : Nat → Nat) (sz : Nat) (x1 : Int32) (x2 : Int32) (x3 : Int32) (o_hasHeader : Int32) (o_hasPicture : Int32) (o_frameCount : Int32) (o : Int32) (hm0 : f_L_sample_x1 x1 x2 x3 o_hasPicture = some o) : vx_Met l yL_sample wsL_sample rm_L_sample_x1 (ctPX D cB cI cJ cQ N sz [.ref (r0 0), .int x1, .int x2, .int x3, .ref (r1 0)] (wf [oB (r0 0) 6 [.ref (r2 0), .ref (r3 0), .ref (r4 0), .ref (r5 0), .ref (r6 0), .ref (r7 0), .ref (r8 0), .ref (r9 0), .ref (r10 0), .int o_hasHeader, .int o_hasPicture, .int o_frameCount]] [])) (ctQi D o (wf [oB (r0 0) 6 [.ref (r2 0), .ref (r3 0), .ref (r4 0), .ref (r5 0), .ref (r6 0), .ref (r7 0), .ref (r8 0), .ref (r9 0), .ref (r10 0), .int o_hasHeader, .int o_hasPicture, .int o_frameCount]] []) (va_A (wf [oB (r0 0) 6 [.ref (r2 0), .ref (r3 0), .ref (r4 0), .ref (r5 0), .ref (r6 0), .ref (r7 0), .ref (r8 0), .ref (r9 0), .ref (r10 0), .int o_hasHeader, .int o_hasPicture, .int o_frameCount]] []) sz)) ctX0 1 6 (va_A (wf [oB (r0 0) 6 [.ref (r2 0), .ref (r3 0), .ref (r4 0), .ref (r5 0), .ref (r6 0), .ref (r7 0), .ref (r8 0), .ref (r9 0), .ref (r10 0), .int o_hasHeader, .int o_hasPicture, .int o_frameCount]] []) sz) := by
  refine cth_of (y := yL_sample) (av := [.ref (r0 0), .int x1, .int x2, .int x3, .ref (r1 0)]) (w0 := (wf [oB (r0 0) 6 [.ref (r2 0), .ref (r3 0), .ref (r4 0), .ref (r5 0), .ref (r6 0), .ref (r7 0), .ref (r8 0), .ref (r9 0), .ref (r10 0), .int o_hasHeader, .int o_hasPicture, .int o_frameCount]] [])) (cc := cL_sample) (maxL := 6) (ret := (some .int)) (hh := [(0, 12, 15, 13), (0, 12, 19, 33)]) (own := RL) (Qp := ctQi D o (wf [oB (r0 0) 6 [.ref (r2 0), .ref (r3 0), .ref (r4 0), .ref (r5 0), .ref (r6 0), .ref (r7 0), .ref (r8 0), .ref (r9 0), .ref (r10 0), .int o_hasHeader, .int o_hasPicture, .int o_frameCount]] [])) (XC := fun _ => ctX0) (mc := 1) (ms := 6) (by decide) rfl rfl (Nat.le_of_ble_eq_true rfl) ?_
  intro p e s m args below meth c A hx hb hr hml htab hown hts hlk hnm hsz E GX9 hP0 hD0 hS0 ls0 hl0
  subst hsz
  have hl0 : lv_has ls0 6 [(0, .ref (r0 0)), (1, .int x1), (2, .int x2), (3, .int x3), (4, .ref (r1 0))] := hl0
  obtain ⟨QQ, hQ⟩ : ∃ Q : State → Prop, Q = vx_MQ below (ctQi D o (wf [oB (r0 0) 6 [.ref (r2 0), .ref (r3 0), .ref (r4 0), .ref (r5 0), .ref (r6 0), .ref (r7 0), .ref (r8 0), .ref (r9 0), .ref (r10 0), .int o_hasHeader, .int o_hasPicture, .int o_frameCount]] []) A) ctX0 args s 1 6 A := ⟨_, rfl⟩
  rw [← hQ]
  unfold f_L_sample_x1 at hm0
  refine lv_aload hx hb dL_sample_0 (lv_at hl0 4 rfl) ?_
  refine lv_iconst (v := 0) hx hb dL_sample_2 (by decide) ?_
  refine lv_aload_n hx hb dL_sample_3 rfl (lv_at hl0 0 rfl) ?_
  refine lv_iload_n hx hb dL_sample_4 rfl (lv_at hl0 1 rfl) ?_
  refine lv_iload_n hx hb dL_sample_5 rfl (lv_at hl0 2 rfl) ?_
  refine lv_iload_n hx hb dL_sample_6 rfl (lv_at hl0 3 rfl) ?_
  obtain ⟨u1, hcl1, hm1⟩ := bd1_some hm0; clear hm0
  have sb2 := ctS.mk (n := 1) (k := 0) (pre := [oB (r0 0) 6 [.ref (r2 0), .ref (r3 0), .ref (r4 0), .ref (r5 0), .ref (r6 0), .ref (r7 0), .ref (r8 0), .ref (r9 0), .ref (r10 0), .int o_hasHeader, .int o_hasPicture, .int o_frameCount]]) (tl := []) [0] [] [] [] rfl rfl (by decide +kernel) (by decide +kernel)
  refine ctx_calli (EX := ISE) E sb2 hP0 hD0 hS0 (vx_runV (As := [.int x1, .int x2, .int x3]) (rest := [.int (0 : Int32), .ref (r1 0)]) ⟨hx, hb, hml, hown, hts⟩ (c_X6_sample_x1 l D cB cI cJ cQ N hst r0 r2 r3 r4 r5 r6 r7 r8 r9 r10 s.heap.size x1 x2 x3 o_hasHeader o_hasPicture o_frameCount u1 hcl1) (cwV 3 hts gL_sample_X6_sample rfl rfl rfl cdV_X6_sample ⟨Nat.le_of_ble_eq_true rfl, Nat.le_of_ble_eq_true rfl⟩) (ctx_preV (q0 := 0) (ci := 6) E GX9 sb2 hP0 hD0 hS0 rfl rfl) rfl rfl hl0.1 rfl (lv_room (Nat.le_of_ble_eq_true rfl)) dL_sample_7 ⟨Nat.le_of_ble_eq_true rfl, Nat.le_of_ble_eq_true rfl⟩) (fun ce9 q9 H3 lc3 hP3 hD3 hS3 hcell9 hv9 hcl9 => ?_); clear sb2 hcl1
  clear hP0 hD0 hS0
  have hP3 : va_P D vwCl (wf [oB (r0 0) 6 [.ref (r2 0), .ref (r3 0), .ref (r4 0), .ref (r5 0), .ref (r6 0), .ref (r7 0), .ref (r8 0), .ref (r9 0), .ref (r10 0), .int o_hasHeader, .int o_hasPicture, .int o_frameCount]] []) H3 := hP3
  have hD3 : va_D A (wf [oB (r0 0) 6 [.ref (r2 0), .ref (r3 0), .ref (r4 0), .ref (r5 0), .ref (r6 0), .ref (r7 0), .ref (r8 0), .ref (r9 0), .ref (r10 0), .int o_hasHeader, .int o_hasPicture, .int o_frameCount]] []) := hD3
  refine vx_catch (E := ISE) (name := ISE) hown [] ⟨0, 12, 15, 13⟩ [⟨0, 12, 19, 33⟩] (htab.trans rfl) (fun z hz => nomatch hz) (by decide) (by decide) (hts _ (List.mem_of_getElem? (i := 1) rfl)) (va_Nw.use (A := args) rfl (GX9.2.2.2.2.2.2.2.2.2.2.1)) hcell9 hv9 hcl9 ?_
  refine W.eq (g2 := F0 m 15 ls0 [.ref q9]) rfl ?_
  refine lv_astore (lv' := [(5, .ref q9), (0, .ref (r0 0)), (1, .int x1), (2, .int x2), (3, .int x3), (4, .ref (r1 0))]) hx hb dL_sample_15 hl0 (by decide) rfl (fun ls4 hl4 => ?_); clear hl0
  refine lv_iconst (v := 1) hx hb dL_sample_17 (by decide) ?_
  obtain rfl := Option.some.inj hm1
  rw [hQ]
  exact cth_iret hx hb hr hlk hP3 hD3 hS3 rfl dL_sample_18

def f_L_sample_x2 (x1 : Int32) (x2 : Int32) (x3 : Int32) (o_hasPicture : Int32) (p8_width : Int32) (p8_height : Int32) : Option (Int32) :=
  bd1 (f_X6_sample_x2 x1 x2 x3 o_hasPicture p8_width p8_height) fun _ =>
  some ((2 : Int32))

abbrev rm_L_sample_x2 : Room := { frames := 7, cells := 1, slots := 6, locals := 113 }

set_option maxHeartbeats 40000000 in
set_option maxRecDepth 100000 in
theorem c_L_sample_x2 (l : Launch) (D : va_G) (cB cI cJ cQ : ClassId) (N : Nat) (hst : l.stackTraces = false) (r0 : Nat → Nat) (r1 : Nat → Nat) (r2 : Nat → Nat) (r3 : Nat → Nat) (r4 : Nat → Nat) (r5 : Nat → Nat) (r6 : Nat → Nat) (r7 : Nat → Nat) (r8 : Nat → Nat) (r9 : Nat → Nat) (r10 : Nat → Nat) (sz : Nat) (x1 : Int32) (x2 : Int32) (x3 : Int32) (o_hasHeader : Int32) (o_hasPicture : Int32) (o_frameCount : Int32) (p8_width : Int32) (p8_height : Int32) (o : Int32) (hm0 : f_L_sample_x2 x1 x2 x3 o_hasPicture p8_width p8_height = some o) : vx_Met l yL_sample wsL_sample rm_L_sample_x2 (ctPX D cB cI cJ cQ N sz [.ref (r0 0), .int x1, .int x2, .int x3, .ref (r1 0)] (wf [oB (r0 0) 6 [.ref (r2 0), .ref (r3 0), .ref (r4 0), .ref (r5 0), .ref (r6 0), .ref (r7 0), .ref (r8 0), .ref (r9 0), .ref (r10 0), .int o_hasHeader, .int o_hasPicture, .int o_frameCount], oB (r8 0) 3 [.ref (r8 1), .int p8_width, .int p8_height]] [])) (ctQi D o (wf [oB (r0 0) 6 [.ref (r2 0), .ref (r3 0), .ref (r4 0), .ref (r5 0), .ref (r6 0), .ref (r7 0), .ref (r8 0), .ref (r9 0), .ref (r10 0), .int o_hasHeader, .int o_hasPicture, .int o_frameCount], oB (r8 0) 3 [.ref (r8 1), .int p8_width, .int p8_height]] []) (va_A (wf [oB (r0 0) 6 [.ref (r2 0), .ref (r3 0), .ref (r4 0), .ref (r5 0), .ref (r6 0), .ref (r7 0), .ref (r8 0), .ref (r9 0), .ref (r10 0), .int o_hasHeader, .int o_hasPicture, .int o_frameCount], oB (r8 0) 3 [.ref (r8 1), .int p8_width, .int p8_height]] []) sz)) ctX0 1 6 (va_A (wf [oB (r0 0) 6 [.ref (r2 0), .ref (r3 0), .ref (r4 0), .ref (r5 0), .ref (r6 0), .ref (r7 0), .ref (r8 0), .ref (r9 0), .ref (r10 0), .int o_hasHeader, .int o_hasPicture, .int o_frameCount], oB (r8 0) 3 [.ref (r8 1), .int p8_width, .int p8_height]] []) sz) := by
  refine cth_of (y := yL_sample) (av := [.ref (r0 0), .int x1, .int x2, .int x3, .ref (r1 0)]) (w0 := (wf [oB (r0 0) 6 [.ref (r2 0), .ref (r3 0), .ref (r4 0), .ref (r5 0), .ref (r6 0), .ref (r7 0), .ref (r8 0), .ref (r9 0), .ref (r10 0), .int o_hasHeader, .int o_hasPicture, .int o_frameCount], oB (r8 0) 3 [.ref (r8 1), .int p8_width, .int p8_height]] [])) (cc := cL_sample) (maxL := 6) (ret := (some .int)) (hh := [(0, 12, 15, 13), (0, 12, 19, 33)]) (own := RL) (Qp := ctQi D o (wf [oB (r0 0) 6 [.ref (r2 0), .ref (r3 0), .ref (r4 0), .ref (r5 0), .ref (r6 0), .ref (r7 0), .ref (r8 0), .ref (r9 0), .ref (r10 0), .int o_hasHeader, .int o_hasPicture, .int o_frameCount], oB (r8 0) 3 [.ref (r8 1), .int p8_width, .int p8_height]] [])) (XC := fun _ => ctX0) (mc := 1) (ms := 6) (by decide) rfl rfl (Nat.le_of_ble_eq_true rfl) ?_
  intro p e s m args below meth c A hx hb hr hml htab hown hts hlk hnm hsz E GX9 hP0 hD0 hS0 ls0 hl0
  subst hsz
  have hl0 : lv_has ls0 6 [(0, .ref (r0 0)), (1, .int x1), (2, .int x2), (3, .int x3), (4, .ref (r1 0))] := hl0
  obtain ⟨QQ, hQ⟩ : ∃ Q : State → Prop, Q = vx_MQ below (ctQi D o (wf [oB (r0 0) 6 [.ref (r2 0), .ref (r3 0), .ref (r4 0), .ref (r5 0), .ref (r6 0), .ref (r7 0), .ref (r8 0), .ref (r9 0), .ref (r10 0), .int o_hasHeader, .int o_hasPicture, .int o_frameCount], oB (r8 0) 3 [.ref (r8 1), .int p8_width, .int p8_height]] []) A) ctX0 args s 1 6 A := ⟨_, rfl⟩
  rw [← hQ]
  unfold f_L_sample_x2 at hm0
  refine lv_aload hx hb dL_sample_0 (lv_at hl0 4 rfl) ?_
  refine lv_iconst (v := 0) hx hb dL_sample_2 (by decide) ?_
  refine lv_aload_n hx hb dL_sample_3 rfl (lv_at hl0 0 rfl) ?_
  refine lv_iload_n hx hb dL_sample_4 rfl (lv_at hl0 1 rfl) ?_
  refine lv_iload_n hx hb dL_sample_5 rfl (lv_at hl0 2 rfl) ?_
  refine lv_iload_n hx hb dL_sample_6 rfl (lv_at hl0 3 rfl) ?_
  obtain ⟨u1, hcl1, hm1⟩ := bd1_some hm0; clear hm0
  have sb2 := ctS.mk (n := 2) (k := 0) (pre := [oB (r0 0) 6 [.ref (r2 0), .ref (r3 0), .ref (r4 0), .ref (r5 0), .ref (r6 0), .ref (r7 0), .ref (r8 0), .ref (r9 0), .ref (r10 0), .int o_hasHeader, .int o_hasPicture, .int o_frameCount], oB (r8 0) 3 [.ref (r8 1), .int p8_width, .int p8_height]]) (tl := []) [0, 1] [] [] [] rfl rfl (by decide +kernel) (by decide +kernel)
  refine ctx_calli (EX := IOB) E sb2 hP0 hD0 hS0 (vx_runV (As := [.int x1, .int x2, .int x3]) (rest := [.int (0 : Int32), .ref (r1 0)]) ⟨hx, hb, hml, hown, hts⟩ (c_X6_sample_x2 l D cB cI cJ cQ N hst r0 r2 r3 r4 r5 r6 r7 r8 r9 r10 s.heap.size x1 x2 x3 o_hasHeader o_hasPicture o_frameCount p8_width p8_height u1 hcl1) (cwV 3 hts gL_sample_X6_sample rfl rfl rfl cdV_X6_sample ⟨Nat.le_of_ble_eq_true rfl, Nat.le_of_ble_eq_true rfl⟩) (ctx_preV (q0 := 0) (ci := 6) E GX9 sb2 hP0 hD0 hS0 rfl rfl) rfl rfl hl0.1 rfl (lv_room (Nat.le_of_ble_eq_true rfl)) dL_sample_7 ⟨Nat.le_of_ble_eq_true rfl, Nat.le_of_ble_eq_true rfl⟩) (fun ce9 q9 H3 lc3 hP3 hD3 hS3 hcell9 hv9 hcl9 => ?_); clear sb2 hcl1
  clear hP0 hD0 hS0
  have hP3 : va_P D vwCl (wf [oB (r0 0) 6 [.ref (r2 0), .ref (r3 0), .ref (r4 0), .ref (r5 0), .ref (r6 0), .ref (r7 0), .ref (r8 0), .ref (r9 0), .ref (r10 0), .int o_hasHeader, .int o_hasPicture, .int o_frameCount], oB (r8 0) 3 [.ref (r8 1), .int p8_width, .int p8_height]] []) H3 := hP3
  have hD3 : va_D A (wf [oB (r0 0) 6 [.ref (r2 0), .ref (r3 0), .ref (r4 0), .ref (r5 0), .ref (r6 0), .ref (r7 0), .ref (r8 0), .ref (r9 0), .ref (r10 0), .int o_hasHeader, .int o_hasPicture, .int o_frameCount], oB (r8 0) 3 [.ref (r8 1), .int p8_width, .int p8_height]] []) := hD3
  refine vx_catch (E := IOB) (name := IOB) hown [⟨0, 12, 15, 13⟩] ⟨0, 12, 19, 33⟩ [] (htab.trans rfl) (List.forall_mem_cons.mpr ⟨Or.inr ⟨by decide, ISE, (hts _ (List.mem_of_getElem? (i := 1) rfl)), GX9.2.2.2.2.2.2.2.2.2.2.2.2.2.2.1⟩, fun z hz => nomatch hz⟩) (by decide) (by decide) (hts _ (List.mem_of_getElem? (i := 2) rfl)) (va_Nw.use (A := args) rfl (GX9.2.2.2.2.2.2.2.2.2.2.2.2.1)) hcell9 hv9 hcl9 ?_
  refine W.eq (g2 := F0 m 19 ls0 [.ref q9]) rfl ?_
  refine lv_astore (lv' := [(5, .ref q9), (0, .ref (r0 0)), (1, .int x1), (2, .int x2), (3, .int x3), (4, .ref (r1 0))]) hx hb dL_sample_19 hl0 (by decide) rfl (fun ls4 hl4 => ?_); clear hl0
  refine lv_iconst (v := 2) hx hb dL_sample_21 (by decide) ?_
  obtain rfl := Option.some.inj hm1
  rw [hQ]
  exact cth_iret hx hb hr hlk hP3 hD3 hS3 rfl dL_sample_22

def f_L_block (x1 : Int32) (x2 : Int32) (x3 : Int32) (o_hasPicture : Int32) (a1 : Nat → Int64) (f6_columns : Int32) (f6_rows : Int32) (f6_modes : Nat → Int32) (f6_across : Nat → Int32) (f6_down : Nat → Int32) (f6_grid : Nat → Nat → Int32) : Option (Int32 × (Nat → Int64)) :=
  bd1 (f_X6_block x1 x2 x3 o_hasPicture f6_columns f6_rows f6_modes f6_across f6_down f6_grid) fun y_1 =>
  gi (0 : Int32) 1 <|
  nm (vp_updL a1 (0 : Int32).toNatClampNeg (Int32.toInt64 y_1) : Nat → Int64) fun a1_6 =>
  some ((0 : Int32), a1_6)

abbrev rm_L_block : Room := { frames := 2, cells := 0, slots := 0, locals := 46 }

theorem cdS_L_block : yL_block.cls ≠ "java/lang/invoke/MethodHandle" ∧ yL_block.cls ≠ "java/lang/invoke/VarHandle" ∧ (parseMethodDescriptor yL_block.desc).map (fun d => d.parameters.length) = some 5 := by decide +kernel

set_option maxHeartbeats 40000000 in
set_option maxRecDepth 100000 in
theorem c_L_block (l : Launch) (D : va_G) (cB cI cJ cQ : ClassId) (N : Nat) (hst : l.stackTraces = false) (r0 : Nat → Nat) (r1 : Nat → Nat) (r2 : Nat → Nat) (r3 : Nat → Nat) (r4 : Nat → Nat) (r5 : Nat → Nat) (r6 : Nat → Nat) (r7 : Nat → Nat) (r8 : Nat → Nat) (r9 : Nat → Nat) (r10 : Nat → Nat) (sz : Nat) (x1 : Int32) (x2 : Int32) (x3 : Int32) (o_hasHeader : Int32) (o_hasPicture : Int32) (o_frameCount : Int32) (a1 : Nat → Int64) (f6_columns : Int32) (f6_rows : Int32) (f6_scale : Int32) (f6_toEnd : Int32) (f6_between : Int32) (f6_kept : Int32) (f6_modes : Nat → Int32) (f6_across : Nat → Int32) (f6_down : Nat → Int32) (f6_grid : Nat → Nat → Int32) (o : Int32 × (Nat → Int64)) (hm0 : f_L_block x1 x2 x3 o_hasPicture a1 f6_columns f6_rows f6_modes f6_across f6_down f6_grid = some o) : vx_Met l yL_block wsL_block rm_L_block (ctPX D cB cI cJ cQ N sz [.ref (r0 0), .int x1, .int x2, .int x3, .ref (r1 0)] (wf [oB (r0 0) 6 [.ref (r2 0), .ref (r3 0), .ref (r4 0), .ref (r5 0), .ref (r6 0), .ref (r7 0), .ref (r8 0), .ref (r9 0), .ref (r10 0), .int o_hasHeader, .int o_hasPicture, .int o_frameCount], aJ (r1 0) cJ 1 a1, oB (r6 0) 0 [.ref (r6 1), .ref (r6 2), .ref (r6 3), .ref (r6 4), .ref (r6 5), .ref (r6 6), .int f6_columns, .int f6_rows, .int f6_scale, .int f6_toEnd, .int f6_between, .int f6_kept], aI (r6 1) cI 36 f6_modes, aI (r6 2) cI 36 f6_across, aI (r6 3) cI 36 f6_down, aQ (r6 4) cQ r6] [rowsW cI r6 f6_grid])) (ctQi D (o.1) (wf [oB (r0 0) 6 [.ref (r2 0), .ref (r3 0), .ref (r4 0), .ref (r5 0), .ref (r6 0), .ref (r7 0), .ref (r8 0), .ref (r9 0), .ref (r10 0), .int o_hasHeader, .int o_hasPicture, .int o_frameCount], aJ (r1 0) cJ 1 (o.2), oB (r6 0) 0 [.ref (r6 1), .ref (r6 2), .ref (r6 3), .ref (r6 4), .ref (r6 5), .ref (r6 6), .int f6_columns, .int f6_rows, .int f6_scale, .int f6_toEnd, .int f6_between, .int f6_kept], aI (r6 1) cI 36 f6_modes, aI (r6 2) cI 36 f6_across, aI (r6 3) cI 36 f6_down, aQ (r6 4) cQ r6] [rowsW cI r6 f6_grid]) (va_A (wf [oB (r0 0) 6 [.ref (r2 0), .ref (r3 0), .ref (r4 0), .ref (r5 0), .ref (r6 0), .ref (r7 0), .ref (r8 0), .ref (r9 0), .ref (r10 0), .int o_hasHeader, .int o_hasPicture, .int o_frameCount], aJ (r1 0) cJ 1 a1, oB (r6 0) 0 [.ref (r6 1), .ref (r6 2), .ref (r6 3), .ref (r6 4), .ref (r6 5), .ref (r6 6), .int f6_columns, .int f6_rows, .int f6_scale, .int f6_toEnd, .int f6_between, .int f6_kept], aI (r6 1) cI 36 f6_modes, aI (r6 2) cI 36 f6_across, aI (r6 3) cI 36 f6_down, aQ (r6 4) cQ r6] [rowsW cI r6 f6_grid]) sz)) ctX0 0 0 (va_A (wf [oB (r0 0) 6 [.ref (r2 0), .ref (r3 0), .ref (r4 0), .ref (r5 0), .ref (r6 0), .ref (r7 0), .ref (r8 0), .ref (r9 0), .ref (r10 0), .int o_hasHeader, .int o_hasPicture, .int o_frameCount], aJ (r1 0) cJ 1 a1, oB (r6 0) 0 [.ref (r6 1), .ref (r6 2), .ref (r6 3), .ref (r6 4), .ref (r6 5), .ref (r6 6), .int f6_columns, .int f6_rows, .int f6_scale, .int f6_toEnd, .int f6_between, .int f6_kept], aI (r6 1) cI 36 f6_modes, aI (r6 2) cI 36 f6_across, aI (r6 3) cI 36 f6_down, aQ (r6 4) cQ r6] [rowsW cI r6 f6_grid]) sz) := by
  refine cth_of (y := yL_block) (av := [.ref (r0 0), .int x1, .int x2, .int x3, .ref (r1 0)]) (w0 := (wf [oB (r0 0) 6 [.ref (r2 0), .ref (r3 0), .ref (r4 0), .ref (r5 0), .ref (r6 0), .ref (r7 0), .ref (r8 0), .ref (r9 0), .ref (r10 0), .int o_hasHeader, .int o_hasPicture, .int o_frameCount], aJ (r1 0) cJ 1 a1, oB (r6 0) 0 [.ref (r6 1), .ref (r6 2), .ref (r6 3), .ref (r6 4), .ref (r6 5), .ref (r6 6), .int f6_columns, .int f6_rows, .int f6_scale, .int f6_toEnd, .int f6_between, .int f6_kept], aI (r6 1) cI 36 f6_modes, aI (r6 2) cI 36 f6_across, aI (r6 3) cI 36 f6_down, aQ (r6 4) cQ r6] [rowsW cI r6 f6_grid])) (cc := cL_block) (maxL := 6) (ret := (some .int)) (hh := [(0, 12, 15, 13), (0, 12, 19, 33), (0, 12, 23, 19)]) (own := RL) (Qp := ctQi D (o.1) (wf [oB (r0 0) 6 [.ref (r2 0), .ref (r3 0), .ref (r4 0), .ref (r5 0), .ref (r6 0), .ref (r7 0), .ref (r8 0), .ref (r9 0), .ref (r10 0), .int o_hasHeader, .int o_hasPicture, .int o_frameCount], aJ (r1 0) cJ 1 (o.2), oB (r6 0) 0 [.ref (r6 1), .ref (r6 2), .ref (r6 3), .ref (r6 4), .ref (r6 5), .ref (r6 6), .int f6_columns, .int f6_rows, .int f6_scale, .int f6_toEnd, .int f6_between, .int f6_kept], aI (r6 1) cI 36 f6_modes, aI (r6 2) cI 36 f6_across, aI (r6 3) cI 36 f6_down, aQ (r6 4) cQ r6] [rowsW cI r6 f6_grid])) (XC := fun _ => ctX0) (mc := 0) (ms := 0) (by decide) rfl rfl (Nat.le_of_ble_eq_true rfl) ?_
  intro p e s m args below meth c A hx hb hr hml htab hown hts hlk hnm hsz E GX9 hP0 hD0 hS0 ls0 hl0
  subst hsz
  have hl0 : lv_has ls0 6 [(0, .ref (r0 0)), (1, .int x1), (2, .int x2), (3, .int x3), (4, .ref (r1 0))] := hl0
  obtain ⟨QQ, hQ⟩ : ∃ Q : State → Prop, Q = vx_MQ below (ctQi D (o.1) (wf [oB (r0 0) 6 [.ref (r2 0), .ref (r3 0), .ref (r4 0), .ref (r5 0), .ref (r6 0), .ref (r7 0), .ref (r8 0), .ref (r9 0), .ref (r10 0), .int o_hasHeader, .int o_hasPicture, .int o_frameCount], aJ (r1 0) cJ 1 (o.2), oB (r6 0) 0 [.ref (r6 1), .ref (r6 2), .ref (r6 3), .ref (r6 4), .ref (r6 5), .ref (r6 6), .int f6_columns, .int f6_rows, .int f6_scale, .int f6_toEnd, .int f6_between, .int f6_kept], aI (r6 1) cI 36 f6_modes, aI (r6 2) cI 36 f6_across, aI (r6 3) cI 36 f6_down, aQ (r6 4) cQ r6] [rowsW cI r6 f6_grid]) A) ctX0 args s 0 0 A := ⟨_, rfl⟩
  rw [← hQ]
  unfold f_L_block at hm0
  refine lv_aload hx hb dL_block_0 (lv_at hl0 4 rfl) ?_
  refine lv_iconst (v := 0) hx hb dL_block_2 (by decide) ?_
  refine lv_aload_n hx hb dL_block_3 rfl (lv_at hl0 0 rfl) ?_
  refine lv_iload_n hx hb dL_block_4 rfl (lv_at hl0 1 rfl) ?_
  refine lv_iload_n hx hb dL_block_5 rfl (lv_at hl0 2 rfl) ?_
  refine lv_iload_n hx hb dL_block_6 rfl (lv_at hl0 3 rfl) ?_
  obtain ⟨y_1, hcl2, hm2⟩ := bd1_some hm0; clear hm0
  have sb3 := ctS.mk (n := 7) (k := 1) (pre := [oB (r0 0) 6 [.ref (r2 0), .ref (r3 0), .ref (r4 0), .ref (r5 0), .ref (r6 0), .ref (r7 0), .ref (r8 0), .ref (r9 0), .ref (r10 0), .int o_hasHeader, .int o_hasPicture, .int o_frameCount], aJ (r1 0) cJ 1 a1, oB (r6 0) 0 [.ref (r6 1), .ref (r6 2), .ref (r6 3), .ref (r6 4), .ref (r6 5), .ref (r6 6), .int f6_columns, .int f6_rows, .int f6_scale, .int f6_toEnd, .int f6_between, .int f6_kept], aI (r6 1) cI 36 f6_modes, aI (r6 2) cI 36 f6_across, aI (r6 3) cI 36 f6_down, aQ (r6 4) cQ r6]) (tl := [rowsW cI r6 f6_grid]) [0, 2, 3, 4, 5, 6] [1] [0] [] rfl rfl (by decide +kernel) (by decide +kernel)
  refine ct_calli (r := y_1) E sb3 hP0 hD0 hS0 (va_runV (As := [.int x1, .int x2, .int x3]) (rest := [.int (0 : Int32), .ref (r1 0)]) ⟨hx, hb, hml, hown, hts⟩ (c_X6_block l D cB cI cJ cQ N r0 r2 r3 r4 r5 r6 r7 r8 r9 r10 s.heap.size x1 x2 x3 o_hasHeader o_hasPicture o_frameCount f6_columns f6_rows f6_scale f6_toEnd f6_between f6_kept f6_modes f6_across f6_down f6_grid (y_1) hcl2) (cwV 3 hts gL_block_X6_block rfl rfl rfl cdV_X6_block ⟨Nat.le_of_ble_eq_true rfl, Nat.le_of_ble_eq_true rfl⟩) (ct_preV (q0 := 0) (ci := 6) E sb3 hP0 hD0 hS0 rfl rfl) rfl rfl hl0.1 rfl (lv_room (Nat.le_of_ble_eq_true rfl)) dL_block_7 ⟨Nat.zero_le _, Nat.zero_le _⟩) (fun H4 lc4 hP4 hD4 hS4 => ?_); clear sb3 hcl2
  clear hP0 hD0 hS0
  have hP4 : va_P D vwCl (wf [aJ (r1 0) cJ 1 a1, oB (r0 0) 6 [.ref (r2 0), .ref (r3 0), .ref (r4 0), .ref (r5 0), .ref (r6 0), .ref (r7 0), .ref (r8 0), .ref (r9 0), .ref (r10 0), .int o_hasHeader, .int o_hasPicture, .int o_frameCount], oB (r6 0) 0 [.ref (r6 1), .ref (r6 2), .ref (r6 3), .ref (r6 4), .ref (r6 5), .ref (r6 6), .int f6_columns, .int f6_rows, .int f6_scale, .int f6_toEnd, .int f6_between, .int f6_kept], aI (r6 1) cI 36 f6_modes, aI (r6 2) cI 36 f6_across, aI (r6 3) cI 36 f6_down, aQ (r6 4) cQ r6] [rowsW cI r6 f6_grid]) H4 := hP4
  have hD4 : va_D A (wf [aJ (r1 0) cJ 1 a1, oB (r0 0) 6 [.ref (r2 0), .ref (r3 0), .ref (r4 0), .ref (r5 0), .ref (r6 0), .ref (r7 0), .ref (r8 0), .ref (r9 0), .ref (r10 0), .int o_hasHeader, .int o_hasPicture, .int o_frameCount], oB (r6 0) 0 [.ref (r6 1), .ref (r6 2), .ref (r6 3), .ref (r6 4), .ref (r6 5), .ref (r6 6), .int f6_columns, .int f6_rows, .int f6_scale, .int f6_toEnd, .int f6_between, .int f6_kept], aI (r6 1) cI 36 f6_modes, aI (r6 2) cI 36 f6_across, aI (r6 3) cI 36 f6_down, aQ (r6 4) cQ r6] [rowsW cI r6 f6_grid]) := hD4
  refine lv_i2l hx hb dL_block_10 rfl ?_
  obtain ⟨hin5, hm5⟩ := gi_some hm2; clear hm2
  obtain ⟨a1_6, ea1_6, hm7⟩ := nm_some hm5; clear hm5
  refine ct_last (g := a1_6) (ws' := (wf [aJ (r1 0) cJ 1 a1_6, oB (r0 0) 6 [.ref (r2 0), .ref (r3 0), .ref (r4 0), .ref (r5 0), .ref (r6 0), .ref (r7 0), .ref (r8 0), .ref (r9 0), .ref (r10 0), .int o_hasHeader, .int o_hasPicture, .int o_frameCount], oB (r6 0) 0 [.ref (r6 1), .ref (r6 2), .ref (r6 3), .ref (r6 4), .ref (r6 5), .ref (r6 6), .int f6_columns, .int f6_rows, .int f6_scale, .int f6_toEnd, .int f6_between, .int f6_kept], aI (r6 1) cI 36 f6_modes, aI (r6 2) cI 36 f6_across, aI (r6 3) cI 36 f6_down, aQ (r6 4) cQ r6] [rowsW cI r6 f6_grid])) hx hb E.1 hP4 hD4 hS4 0 2 rfl rfl hin5 ea1_6 rfl dL_block_11 (fun H8 lc8 hP8 hD8 hS8 => ?_)
  clear hP4 hD4 hS4
  refine lv_goto (tgt := 27) hx hb dL_block_12 (by decide) ?_
  refine lv_iconst (v := 0) hx hb dL_block_27 (by decide) ?_
  obtain ⟨hP9, hD9⟩ := ct_ord (n := 7) (k := 1) [1, 0, 2, 3, 4, 5, 6] [0] hP8 hD8 rfl rfl (by decide +kernel) (by decide +kernel)
  have hS9 := hS8
  have hP9 : va_P D vwCl (wf [oB (r0 0) 6 [.ref (r2 0), .ref (r3 0), .ref (r4 0), .ref (r5 0), .ref (r6 0), .ref (r7 0), .ref (r8 0), .ref (r9 0), .ref (r10 0), .int o_hasHeader, .int o_hasPicture, .int o_frameCount], aJ (r1 0) cJ 1 a1_6, oB (r6 0) 0 [.ref (r6 1), .ref (r6 2), .ref (r6 3), .ref (r6 4), .ref (r6 5), .ref (r6 6), .int f6_columns, .int f6_rows, .int f6_scale, .int f6_toEnd, .int f6_between, .int f6_kept], aI (r6 1) cI 36 f6_modes, aI (r6 2) cI 36 f6_across, aI (r6 3) cI 36 f6_down, aQ (r6 4) cQ r6] [rowsW cI r6 f6_grid]) H8 := hP9
  have hD9 : va_D A (wf [oB (r0 0) 6 [.ref (r2 0), .ref (r3 0), .ref (r4 0), .ref (r5 0), .ref (r6 0), .ref (r7 0), .ref (r8 0), .ref (r9 0), .ref (r10 0), .int o_hasHeader, .int o_hasPicture, .int o_frameCount], aJ (r1 0) cJ 1 a1_6, oB (r6 0) 0 [.ref (r6 1), .ref (r6 2), .ref (r6 3), .ref (r6 4), .ref (r6 5), .ref (r6 6), .int f6_columns, .int f6_rows, .int f6_scale, .int f6_toEnd, .int f6_between, .int f6_kept], aI (r6 1) cI 36 f6_modes, aI (r6 2) cI 36 f6_across, aI (r6 3) cI 36 f6_down, aQ (r6 4) cQ r6] [rowsW cI r6 f6_grid]) := hD9
  obtain rfl := Option.some.inj hm7
  rw [hQ]
  exact cth_iret hx hb hr hlk hP9 hD9 hS9 rfl dL_block_28

def f_L_block_x1 (x1 : Int32) (x2 : Int32) (x3 : Int32) (o_hasPicture : Int32) : Option (Int32) :=
  bd1 (f_X6_block_x1 x1 x2 x3 o_hasPicture) fun _ =>
  some ((1 : Int32))

abbrev rm_L_block_x1 : Room := { frames := 7, cells := 1, slots := 6, locals := 114 }

set_option maxHeartbeats 40000000 in
set_option maxRecDepth 100000 in
theorem c_L_block_x1 (l : Launch) (D : va_G) (cB cI cJ cQ : ClassId) (N : Nat) (hst : l.stackTraces = false) (r0 : Nat → Nat) (r1 : Nat → Nat) (r2 : Nat → Nat) (r3 : Nat → Nat) (r4 : Nat → Nat) (r5 : Nat → Nat) (r6 : Nat → Nat) (r7 : Nat → Nat) (r8 : Nat → Nat) (r9 : Nat → Nat) (r10 : Nat → Nat) (sz : Nat) (x1 : Int32) (x2 : Int32) (x3 : Int32) (o_hasHeader : Int32) (o_hasPicture : Int32) (o_frameCount : Int32) (o : Int32) (hm0 : f_L_block_x1 x1 x2 x3 o_hasPicture = some o) : vx_Met l yL_block wsL_block rm_L_block_x1 (ctPX D cB cI cJ cQ N sz [.ref (r0 0), .int x1, .int x2, .int x3, .ref (r1 0)] (wf [oB (r0 0) 6 [.ref (r2 0), .ref (r3 0), .ref (r4 0), .ref (r5 0), .ref (r6 0), .ref (r7 0), .ref (r8 0), .ref (r9 0), .ref (r10 0), .int o_hasHeader, .int o_hasPicture, .int o_frameCount]] [])) (ctQi D o (wf [oB (r0 0) 6 [.ref (r2 0), .ref (r3 0), .ref (r4 0), .ref (r5 0), .ref (r6 0), .ref (r7 0), .ref (r8 0), .ref (r9 0), .ref (r10 0), .int o_hasHeader, .int o_hasPicture, .int o_frameCount]] []) (va_A (wf [oB (r0 0) 6 [.ref (r2 0), .ref (r3 0), .ref (r4 0), .ref (r5 0), .ref (r6 0), .ref (r7 0), .ref (r8 0), .ref (r9 0), .ref (r10 0), .int o_hasHeader, .int o_hasPicture, .int o_frameCount]] []) sz)) ctX0 1 6 (va_A (wf [oB (r0 0) 6 [.ref (r2 0), .ref (r3 0), .ref (r4 0), .ref (r5 0), .ref (r6 0), .ref (r7 0), .ref (r8 0), .ref (r9 0), .ref (r10 0), .int o_hasHeader, .int o_hasPicture, .int o_frameCount]] []) sz) := by
  refine cth_of (y := yL_block) (av := [.ref (r0 0), .int x1, .int x2, .int x3, .ref (r1 0)]) (w0 := (wf [oB (r0 0) 6 [.ref (r2 0), .ref (r3 0), .ref (r4 0), .ref (r5 0), .ref (r6 0), .ref (r7 0), .ref (r8 0), .ref (r9 0), .ref (r10 0), .int o_hasHeader, .int o_hasPicture, .int o_frameCount]] [])) (cc := cL_block) (maxL := 6) (ret := (some .int)) (hh := [(0, 12, 15, 13), (0, 12, 19, 33), (0, 12, 23, 19)]) (own := RL) (Qp := ctQi D o (wf [oB (r0 0) 6 [.ref (r2 0), .ref (r3 0), .ref (r4 0), .ref (r5 0), .ref (r6 0), .ref (r7 0), .ref (r8 0), .ref (r9 0), .ref (r10 0), .int o_hasHeader, .int o_hasPicture, .int o_frameCount]] [])) (XC := fun _ => ctX0) (mc := 1) (ms := 6) (by decide) rfl rfl (Nat.le_of_ble_eq_true rfl) ?_
  intro p e s m args below meth c A hx hb hr hml htab hown hts hlk hnm hsz E GX9 hP0 hD0 hS0 ls0 hl0
  subst hsz
  have hl0 : lv_has ls0 6 [(0, .ref (r0 0)), (1, .int x1), (2, .int x2), (3, .int x3), (4, .ref (r1 0))] := hl0
  obtain ⟨QQ, hQ⟩ : ∃ Q : State → Prop, Q = vx_MQ below (ctQi D o (wf [oB (r0 0) 6 [.ref (r2 0), .ref (r3 0), .ref (r4 0), .ref (r5 0), .ref (r6 0), .ref (r7 0), .ref (r8 0), .ref (r9 0), .ref (r10 0), .int o_hasHeader, .int o_hasPicture, .int o_frameCount]] []) A) ctX0 args s 1 6 A := ⟨_, rfl⟩
  rw [← hQ]
  unfold f_L_block_x1 at hm0
  refine lv_aload hx hb dL_block_0 (lv_at hl0 4 rfl) ?_
  refine lv_iconst (v := 0) hx hb dL_block_2 (by decide) ?_
  refine lv_aload_n hx hb dL_block_3 rfl (lv_at hl0 0 rfl) ?_
  refine lv_iload_n hx hb dL_block_4 rfl (lv_at hl0 1 rfl) ?_
  refine lv_iload_n hx hb dL_block_5 rfl (lv_at hl0 2 rfl) ?_
  refine lv_iload_n hx hb dL_block_6 rfl (lv_at hl0 3 rfl) ?_
  obtain ⟨u1, hcl1, hm1⟩ := bd1_some hm0; clear hm0
  have sb2 := ctS.mk (n := 1) (k := 0) (pre := [oB (r0 0) 6 [.ref (r2 0), .ref (r3 0), .ref (r4 0), .ref (r5 0), .ref (r6 0), .ref (r7 0), .ref (r8 0), .ref (r9 0), .ref (r10 0), .int o_hasHeader, .int o_hasPicture, .int o_frameCount]]) (tl := []) [0] [] [] [] rfl rfl (by decide +kernel) (by decide +kernel)
  refine ctx_calli (EX := ISE) E sb2 hP0 hD0 hS0 (vx_runV (As := [.int x1, .int x2, .int x3]) (rest := [.int (0 : Int32), .ref (r1 0)]) ⟨hx, hb, hml, hown, hts⟩ (c_X6_block_x1 l D cB cI cJ cQ N hst r0 r2 r3 r4 r5 r6 r7 r8 r9 r10 s.heap.size x1 x2 x3 o_hasHeader o_hasPicture o_frameCount u1 hcl1) (cwV 3 hts gL_block_X6_block rfl rfl rfl cdV_X6_block ⟨Nat.le_of_ble_eq_true rfl, Nat.le_of_ble_eq_true rfl⟩) (ctx_preV (q0 := 0) (ci := 6) E GX9 sb2 hP0 hD0 hS0 rfl rfl) rfl rfl hl0.1 rfl (lv_room (Nat.le_of_ble_eq_true rfl)) dL_block_7 ⟨Nat.le_of_ble_eq_true rfl, Nat.le_of_ble_eq_true rfl⟩) (fun ce9 q9 H3 lc3 hP3 hD3 hS3 hcell9 hv9 hcl9 => ?_); clear sb2 hcl1
  clear hP0 hD0 hS0
  have hP3 : va_P D vwCl (wf [oB (r0 0) 6 [.ref (r2 0), .ref (r3 0), .ref (r4 0), .ref (r5 0), .ref (r6 0), .ref (r7 0), .ref (r8 0), .ref (r9 0), .ref (r10 0), .int o_hasHeader, .int o_hasPicture, .int o_frameCount]] []) H3 := hP3
  have hD3 : va_D A (wf [oB (r0 0) 6 [.ref (r2 0), .ref (r3 0), .ref (r4 0), .ref (r5 0), .ref (r6 0), .ref (r7 0), .ref (r8 0), .ref (r9 0), .ref (r10 0), .int o_hasHeader, .int o_hasPicture, .int o_frameCount]] []) := hD3
  refine vx_catch (E := ISE) (name := ISE) hown [] ⟨0, 12, 15, 13⟩ [⟨0, 12, 19, 33⟩, ⟨0, 12, 23, 19⟩] (htab.trans rfl) (fun z hz => nomatch hz) (by decide) (by decide) (hts _ (List.mem_of_getElem? (i := 1) rfl)) (va_Nw.use (A := args) rfl (GX9.2.2.2.2.2.2.2.2.2.2.1)) hcell9 hv9 hcl9 ?_
  refine W.eq (g2 := F0 m 15 ls0 [.ref q9]) rfl ?_
  refine lv_astore (lv' := [(5, .ref q9), (0, .ref (r0 0)), (1, .int x1), (2, .int x2), (3, .int x3), (4, .ref (r1 0))]) hx hb dL_block_15 hl0 (by decide) rfl (fun ls4 hl4 => ?_); clear hl0
  refine lv_iconst (v := 1) hx hb dL_block_17 (by decide) ?_
  obtain rfl := Option.some.inj hm1
  rw [hQ]
  exact cth_iret hx hb hr hlk hP3 hD3 hS3 rfl dL_block_18

def f_L_block_x2 (x1 : Int32) (x2 : Int32) (x3 : Int32) (o_hasPicture : Int32) (f6_columns : Int32) (f6_rows : Int32) : Option (Int32) :=
  bd1 (f_X6_block_x2 x1 x2 x3 o_hasPicture f6_columns f6_rows) fun _ =>
  some ((2 : Int32))

abbrev rm_L_block_x2 : Room := { frames := 7, cells := 1, slots := 6, locals := 114 }

set_option maxHeartbeats 40000000 in
set_option maxRecDepth 100000 in
theorem c_L_block_x2 (l : Launch) (D : va_G) (cB cI cJ cQ : ClassId) (N : Nat) (hst : l.stackTraces = false) (r0 : Nat → Nat) (r1 : Nat → Nat) (r2 : Nat → Nat) (r3 : Nat → Nat) (r4 : Nat → Nat) (r5 : Nat → Nat) (r6 : Nat → Nat) (r7 : Nat → Nat) (r8 : Nat → Nat) (r9 : Nat → Nat) (r10 : Nat → Nat) (sz : Nat) (x1 : Int32) (x2 : Int32) (x3 : Int32) (o_hasHeader : Int32) (o_hasPicture : Int32) (o_frameCount : Int32) (f6_columns : Int32) (f6_rows : Int32) (f6_scale : Int32) (f6_toEnd : Int32) (f6_between : Int32) (f6_kept : Int32) (o : Int32) (hm0 : f_L_block_x2 x1 x2 x3 o_hasPicture f6_columns f6_rows = some o) : vx_Met l yL_block wsL_block rm_L_block_x2 (ctPX D cB cI cJ cQ N sz [.ref (r0 0), .int x1, .int x2, .int x3, .ref (r1 0)] (wf [oB (r0 0) 6 [.ref (r2 0), .ref (r3 0), .ref (r4 0), .ref (r5 0), .ref (r6 0), .ref (r7 0), .ref (r8 0), .ref (r9 0), .ref (r10 0), .int o_hasHeader, .int o_hasPicture, .int o_frameCount], oB (r6 0) 0 [.ref (r6 1), .ref (r6 2), .ref (r6 3), .ref (r6 4), .ref (r6 5), .ref (r6 6), .int f6_columns, .int f6_rows, .int f6_scale, .int f6_toEnd, .int f6_between, .int f6_kept]] [])) (ctQi D o (wf [oB (r0 0) 6 [.ref (r2 0), .ref (r3 0), .ref (r4 0), .ref (r5 0), .ref (r6 0), .ref (r7 0), .ref (r8 0), .ref (r9 0), .ref (r10 0), .int o_hasHeader, .int o_hasPicture, .int o_frameCount], oB (r6 0) 0 [.ref (r6 1), .ref (r6 2), .ref (r6 3), .ref (r6 4), .ref (r6 5), .ref (r6 6), .int f6_columns, .int f6_rows, .int f6_scale, .int f6_toEnd, .int f6_between, .int f6_kept]] []) (va_A (wf [oB (r0 0) 6 [.ref (r2 0), .ref (r3 0), .ref (r4 0), .ref (r5 0), .ref (r6 0), .ref (r7 0), .ref (r8 0), .ref (r9 0), .ref (r10 0), .int o_hasHeader, .int o_hasPicture, .int o_frameCount], oB (r6 0) 0 [.ref (r6 1), .ref (r6 2), .ref (r6 3), .ref (r6 4), .ref (r6 5), .ref (r6 6), .int f6_columns, .int f6_rows, .int f6_scale, .int f6_toEnd, .int f6_between, .int f6_kept]] []) sz)) ctX0 1 6 (va_A (wf [oB (r0 0) 6 [.ref (r2 0), .ref (r3 0), .ref (r4 0), .ref (r5 0), .ref (r6 0), .ref (r7 0), .ref (r8 0), .ref (r9 0), .ref (r10 0), .int o_hasHeader, .int o_hasPicture, .int o_frameCount], oB (r6 0) 0 [.ref (r6 1), .ref (r6 2), .ref (r6 3), .ref (r6 4), .ref (r6 5), .ref (r6 6), .int f6_columns, .int f6_rows, .int f6_scale, .int f6_toEnd, .int f6_between, .int f6_kept]] []) sz) := by
  refine cth_of (y := yL_block) (av := [.ref (r0 0), .int x1, .int x2, .int x3, .ref (r1 0)]) (w0 := (wf [oB (r0 0) 6 [.ref (r2 0), .ref (r3 0), .ref (r4 0), .ref (r5 0), .ref (r6 0), .ref (r7 0), .ref (r8 0), .ref (r9 0), .ref (r10 0), .int o_hasHeader, .int o_hasPicture, .int o_frameCount], oB (r6 0) 0 [.ref (r6 1), .ref (r6 2), .ref (r6 3), .ref (r6 4), .ref (r6 5), .ref (r6 6), .int f6_columns, .int f6_rows, .int f6_scale, .int f6_toEnd, .int f6_between, .int f6_kept]] [])) (cc := cL_block) (maxL := 6) (ret := (some .int)) (hh := [(0, 12, 15, 13), (0, 12, 19, 33), (0, 12, 23, 19)]) (own := RL) (Qp := ctQi D o (wf [oB (r0 0) 6 [.ref (r2 0), .ref (r3 0), .ref (r4 0), .ref (r5 0), .ref (r6 0), .ref (r7 0), .ref (r8 0), .ref (r9 0), .ref (r10 0), .int o_hasHeader, .int o_hasPicture, .int o_frameCount], oB (r6 0) 0 [.ref (r6 1), .ref (r6 2), .ref (r6 3), .ref (r6 4), .ref (r6 5), .ref (r6 6), .int f6_columns, .int f6_rows, .int f6_scale, .int f6_toEnd, .int f6_between, .int f6_kept]] [])) (XC := fun _ => ctX0) (mc := 1) (ms := 6) (by decide) rfl rfl (Nat.le_of_ble_eq_true rfl) ?_
  intro p e s m args below meth c A hx hb hr hml htab hown hts hlk hnm hsz E GX9 hP0 hD0 hS0 ls0 hl0
  subst hsz
  have hl0 : lv_has ls0 6 [(0, .ref (r0 0)), (1, .int x1), (2, .int x2), (3, .int x3), (4, .ref (r1 0))] := hl0
  obtain ⟨QQ, hQ⟩ : ∃ Q : State → Prop, Q = vx_MQ below (ctQi D o (wf [oB (r0 0) 6 [.ref (r2 0), .ref (r3 0), .ref (r4 0), .ref (r5 0), .ref (r6 0), .ref (r7 0), .ref (r8 0), .ref (r9 0), .ref (r10 0), .int o_hasHeader, .int o_hasPicture, .int o_frameCount], oB (r6 0) 0 [.ref (r6 1), .ref (r6 2), .ref (r6 3), .ref (r6 4), .ref (r6 5), .ref (r6 6), .int f6_columns, .int f6_rows, .int f6_scale, .int f6_toEnd, .int f6_between, .int f6_kept]] []) A) ctX0 args s 1 6 A := ⟨_, rfl⟩
  rw [← hQ]
  unfold f_L_block_x2 at hm0
  refine lv_aload hx hb dL_block_0 (lv_at hl0 4 rfl) ?_
  refine lv_iconst (v := 0) hx hb dL_block_2 (by decide) ?_
  refine lv_aload_n hx hb dL_block_3 rfl (lv_at hl0 0 rfl) ?_
  refine lv_iload_n hx hb dL_block_4 rfl (lv_at hl0 1 rfl) ?_
  refine lv_iload_n hx hb dL_block_5 rfl (lv_at hl0 2 rfl) ?_
  refine lv_iload_n hx hb dL_block_6 rfl (lv_at hl0 3 rfl) ?_
  obtain ⟨u1, hcl1, hm1⟩ := bd1_some hm0; clear hm0
  have sb2 := ctS.mk (n := 2) (k := 0) (pre := [oB (r0 0) 6 [.ref (r2 0), .ref (r3 0), .ref (r4 0), .ref (r5 0), .ref (r6 0), .ref (r7 0), .ref (r8 0), .ref (r9 0), .ref (r10 0), .int o_hasHeader, .int o_hasPicture, .int o_frameCount], oB (r6 0) 0 [.ref (r6 1), .ref (r6 2), .ref (r6 3), .ref (r6 4), .ref (r6 5), .ref (r6 6), .int f6_columns, .int f6_rows, .int f6_scale, .int f6_toEnd, .int f6_between, .int f6_kept]]) (tl := []) [0, 1] [] [] [] rfl rfl (by decide +kernel) (by decide +kernel)
  refine ctx_calli (EX := IOB) E sb2 hP0 hD0 hS0 (vx_runV (As := [.int x1, .int x2, .int x3]) (rest := [.int (0 : Int32), .ref (r1 0)]) ⟨hx, hb, hml, hown, hts⟩ (c_X6_block_x2 l D cB cI cJ cQ N hst r0 r2 r3 r4 r5 r6 r7 r8 r9 r10 s.heap.size x1 x2 x3 o_hasHeader o_hasPicture o_frameCount f6_columns f6_rows f6_scale f6_toEnd f6_between f6_kept u1 hcl1) (cwV 3 hts gL_block_X6_block rfl rfl rfl cdV_X6_block ⟨Nat.le_of_ble_eq_true rfl, Nat.le_of_ble_eq_true rfl⟩) (ctx_preV (q0 := 0) (ci := 6) E GX9 sb2 hP0 hD0 hS0 rfl rfl) rfl rfl hl0.1 rfl (lv_room (Nat.le_of_ble_eq_true rfl)) dL_block_7 ⟨Nat.le_of_ble_eq_true rfl, Nat.le_of_ble_eq_true rfl⟩) (fun ce9 q9 H3 lc3 hP3 hD3 hS3 hcell9 hv9 hcl9 => ?_); clear sb2 hcl1
  clear hP0 hD0 hS0
  have hP3 : va_P D vwCl (wf [oB (r0 0) 6 [.ref (r2 0), .ref (r3 0), .ref (r4 0), .ref (r5 0), .ref (r6 0), .ref (r7 0), .ref (r8 0), .ref (r9 0), .ref (r10 0), .int o_hasHeader, .int o_hasPicture, .int o_frameCount], oB (r6 0) 0 [.ref (r6 1), .ref (r6 2), .ref (r6 3), .ref (r6 4), .ref (r6 5), .ref (r6 6), .int f6_columns, .int f6_rows, .int f6_scale, .int f6_toEnd, .int f6_between, .int f6_kept]] []) H3 := hP3
  have hD3 : va_D A (wf [oB (r0 0) 6 [.ref (r2 0), .ref (r3 0), .ref (r4 0), .ref (r5 0), .ref (r6 0), .ref (r7 0), .ref (r8 0), .ref (r9 0), .ref (r10 0), .int o_hasHeader, .int o_hasPicture, .int o_frameCount], oB (r6 0) 0 [.ref (r6 1), .ref (r6 2), .ref (r6 3), .ref (r6 4), .ref (r6 5), .ref (r6 6), .int f6_columns, .int f6_rows, .int f6_scale, .int f6_toEnd, .int f6_between, .int f6_kept]] []) := hD3
  refine vx_catch (E := IOB) (name := IOB) hown [⟨0, 12, 15, 13⟩] ⟨0, 12, 19, 33⟩ [⟨0, 12, 23, 19⟩] (htab.trans rfl) (List.forall_mem_cons.mpr ⟨Or.inr ⟨by decide, ISE, (hts _ (List.mem_of_getElem? (i := 1) rfl)), GX9.2.2.2.2.2.2.2.2.2.2.2.2.2.2.1⟩, fun z hz => nomatch hz⟩) (by decide) (by decide) (hts _ (List.mem_of_getElem? (i := 2) rfl)) (va_Nw.use (A := args) rfl (GX9.2.2.2.2.2.2.2.2.2.2.2.2.1)) hcell9 hv9 hcl9 ?_
  refine W.eq (g2 := F0 m 19 ls0 [.ref q9]) rfl ?_
  refine lv_astore (lv' := [(5, .ref q9), (0, .ref (r0 0)), (1, .int x1), (2, .int x2), (3, .int x3), (4, .ref (r1 0))]) hx hb dL_block_19 hl0 (by decide) rfl (fun ls4 hl4 => ?_); clear hl0
  refine lv_iconst (v := 2) hx hb dL_block_21 (by decide) ?_
  obtain rfl := Option.some.inj hm1
  rw [hQ]
  exact cth_iret hx hb hr hlk hP3 hD3 hS3 rfl dL_block_22

def f_L_block_x3 (x1 : Int32) (x2 : Int32) (x3 : Int32) (o_hasPicture : Int32) (f6_columns : Int32) (f6_rows : Int32) : Option (Int32) :=
  bd1 (f_X6_block_x3 x1 x2 x3 o_hasPicture f6_columns f6_rows) fun _ =>
  some ((3 : Int32))

abbrev rm_L_block_x3 : Room := { frames := 7, cells := 1, slots := 6, locals := 114 }

set_option maxHeartbeats 40000000 in
set_option maxRecDepth 100000 in
theorem c_L_block_x3 (l : Launch) (D : va_G) (cB cI cJ cQ : ClassId) (N : Nat) (hst : l.stackTraces = false) (r0 : Nat → Nat) (r1 : Nat → Nat) (r2 : Nat → Nat) (r3 : Nat → Nat) (r4 : Nat → Nat) (r5 : Nat → Nat) (r6 : Nat → Nat) (r7 : Nat → Nat) (r8 : Nat → Nat) (r9 : Nat → Nat) (r10 : Nat → Nat) (sz : Nat) (x1 : Int32) (x2 : Int32) (x3 : Int32) (o_hasHeader : Int32) (o_hasPicture : Int32) (o_frameCount : Int32) (f6_columns : Int32) (f6_rows : Int32) (f6_scale : Int32) (f6_toEnd : Int32) (f6_between : Int32) (f6_kept : Int32) (o : Int32) (hm0 : f_L_block_x3 x1 x2 x3 o_hasPicture f6_columns f6_rows = some o) : vx_Met l yL_block wsL_block rm_L_block_x3 (ctPX D cB cI cJ cQ N sz [.ref (r0 0), .int x1, .int x2, .int x3, .ref (r1 0)] (wf [oB (r0 0) 6 [.ref (r2 0), .ref (r3 0), .ref (r4 0), .ref (r5 0), .ref (r6 0), .ref (r7 0), .ref (r8 0), .ref (r9 0), .ref (r10 0), .int o_hasHeader, .int o_hasPicture, .int o_frameCount], oB (r6 0) 0 [.ref (r6 1), .ref (r6 2), .ref (r6 3), .ref (r6 4), .ref (r6 5), .ref (r6 6), .int f6_columns, .int f6_rows, .int f6_scale, .int f6_toEnd, .int f6_between, .int f6_kept]] [])) (ctQi D o (wf [oB (r0 0) 6 [.ref (r2 0), .ref (r3 0), .ref (r4 0), .ref (r5 0), .ref (r6 0), .ref (r7 0), .ref (r8 0), .ref (r9 0), .ref (r10 0), .int o_hasHeader, .int o_hasPicture, .int o_frameCount], oB (r6 0) 0 [.ref (r6 1), .ref (r6 2), .ref (r6 3), .ref (r6 4), .ref (r6 5), .ref (r6 6), .int f6_columns, .int f6_rows, .int f6_scale, .int f6_toEnd, .int f6_between, .int f6_kept]] []) (va_A (wf [oB (r0 0) 6 [.ref (r2 0), .ref (r3 0), .ref (r4 0), .ref (r5 0), .ref (r6 0), .ref (r7 0), .ref (r8 0), .ref (r9 0), .ref (r10 0), .int o_hasHeader, .int o_hasPicture, .int o_frameCount], oB (r6 0) 0 [.ref (r6 1), .ref (r6 2), .ref (r6 3), .ref (r6 4), .ref (r6 5), .ref (r6 6), .int f6_columns, .int f6_rows, .int f6_scale, .int f6_toEnd, .int f6_between, .int f6_kept]] []) sz)) ctX0 1 6 (va_A (wf [oB (r0 0) 6 [.ref (r2 0), .ref (r3 0), .ref (r4 0), .ref (r5 0), .ref (r6 0), .ref (r7 0), .ref (r8 0), .ref (r9 0), .ref (r10 0), .int o_hasHeader, .int o_hasPicture, .int o_frameCount], oB (r6 0) 0 [.ref (r6 1), .ref (r6 2), .ref (r6 3), .ref (r6 4), .ref (r6 5), .ref (r6 6), .int f6_columns, .int f6_rows, .int f6_scale, .int f6_toEnd, .int f6_between, .int f6_kept]] []) sz) := by
  refine cth_of (y := yL_block) (av := [.ref (r0 0), .int x1, .int x2, .int x3, .ref (r1 0)]) (w0 := (wf [oB (r0 0) 6 [.ref (r2 0), .ref (r3 0), .ref (r4 0), .ref (r5 0), .ref (r6 0), .ref (r7 0), .ref (r8 0), .ref (r9 0), .ref (r10 0), .int o_hasHeader, .int o_hasPicture, .int o_frameCount], oB (r6 0) 0 [.ref (r6 1), .ref (r6 2), .ref (r6 3), .ref (r6 4), .ref (r6 5), .ref (r6 6), .int f6_columns, .int f6_rows, .int f6_scale, .int f6_toEnd, .int f6_between, .int f6_kept]] [])) (cc := cL_block) (maxL := 6) (ret := (some .int)) (hh := [(0, 12, 15, 13), (0, 12, 19, 33), (0, 12, 23, 19)]) (own := RL) (Qp := ctQi D o (wf [oB (r0 0) 6 [.ref (r2 0), .ref (r3 0), .ref (r4 0), .ref (r5 0), .ref (r6 0), .ref (r7 0), .ref (r8 0), .ref (r9 0), .ref (r10 0), .int o_hasHeader, .int o_hasPicture, .int o_frameCount], oB (r6 0) 0 [.ref (r6 1), .ref (r6 2), .ref (r6 3), .ref (r6 4), .ref (r6 5), .ref (r6 6), .int f6_columns, .int f6_rows, .int f6_scale, .int f6_toEnd, .int f6_between, .int f6_kept]] [])) (XC := fun _ => ctX0) (mc := 1) (ms := 6) (by decide) rfl rfl (Nat.le_of_ble_eq_true rfl) ?_
  intro p e s m args below meth c A hx hb hr hml htab hown hts hlk hnm hsz E GX9 hP0 hD0 hS0 ls0 hl0
  subst hsz
  have hl0 : lv_has ls0 6 [(0, .ref (r0 0)), (1, .int x1), (2, .int x2), (3, .int x3), (4, .ref (r1 0))] := hl0
  obtain ⟨QQ, hQ⟩ : ∃ Q : State → Prop, Q = vx_MQ below (ctQi D o (wf [oB (r0 0) 6 [.ref (r2 0), .ref (r3 0), .ref (r4 0), .ref (r5 0), .ref (r6 0), .ref (r7 0), .ref (r8 0), .ref (r9 0), .ref (r10 0), .int o_hasHeader, .int o_hasPicture, .int o_frameCount], oB (r6 0) 0 [.ref (r6 1), .ref (r6 2), .ref (r6 3), .ref (r6 4), .ref (r6 5), .ref (r6 6), .int f6_columns, .int f6_rows, .int f6_scale, .int f6_toEnd, .int f6_between, .int f6_kept]] []) A) ctX0 args s 1 6 A := ⟨_, rfl⟩
  rw [← hQ]
  unfold f_L_block_x3 at hm0
  refine lv_aload hx hb dL_block_0 (lv_at hl0 4 rfl) ?_
  refine lv_iconst (v := 0) hx hb dL_block_2 (by decide) ?_
  refine lv_aload_n hx hb dL_block_3 rfl (lv_at hl0 0 rfl) ?_
  refine lv_iload_n hx hb dL_block_4 rfl (lv_at hl0 1 rfl) ?_
  refine lv_iload_n hx hb dL_block_5 rfl (lv_at hl0 2 rfl) ?_
  refine lv_iload_n hx hb dL_block_6 rfl (lv_at hl0 3 rfl) ?_
  obtain ⟨u1, hcl1, hm1⟩ := bd1_some hm0; clear hm0
  have sb2 := ctS.mk (n := 2) (k := 0) (pre := [oB (r0 0) 6 [.ref (r2 0), .ref (r3 0), .ref (r4 0), .ref (r5 0), .ref (r6 0), .ref (r7 0), .ref (r8 0), .ref (r9 0), .ref (r10 0), .int o_hasHeader, .int o_hasPicture, .int o_frameCount], oB (r6 0) 0 [.ref (r6 1), .ref (r6 2), .ref (r6 3), .ref (r6 4), .ref (r6 5), .ref (r6 6), .int f6_columns, .int f6_rows, .int f6_scale, .int f6_toEnd, .int f6_between, .int f6_kept]]) (tl := []) [0, 1] [] [] [] rfl rfl (by decide +kernel) (by decide +kernel)
  refine ctx_calli (EX := IAE) E sb2 hP0 hD0 hS0 (vx_runV (As := [.int x1, .int x2, .int x3]) (rest := [.int (0 : Int32), .ref (r1 0)]) ⟨hx, hb, hml, hown, hts⟩ (c_X6_block_x3 l D cB cI cJ cQ N hst r0 r2 r3 r4 r5 r6 r7 r8 r9 r10 s.heap.size x1 x2 x3 o_hasHeader o_hasPicture o_frameCount f6_columns f6_rows f6_scale f6_toEnd f6_between f6_kept u1 hcl1) (cwV 3 hts gL_block_X6_block rfl rfl rfl cdV_X6_block ⟨Nat.le_of_ble_eq_true rfl, Nat.le_of_ble_eq_true rfl⟩) (ctx_preV (q0 := 0) (ci := 6) E GX9 sb2 hP0 hD0 hS0 rfl rfl) rfl rfl hl0.1 rfl (lv_room (Nat.le_of_ble_eq_true rfl)) dL_block_7 ⟨Nat.le_of_ble_eq_true rfl, Nat.le_of_ble_eq_true rfl⟩) (fun ce9 q9 H3 lc3 hP3 hD3 hS3 hcell9 hv9 hcl9 => ?_); clear sb2 hcl1
  clear hP0 hD0 hS0
  have hP3 : va_P D vwCl (wf [oB (r0 0) 6 [.ref (r2 0), .ref (r3 0), .ref (r4 0), .ref (r5 0), .ref (r6 0), .ref (r7 0), .ref (r8 0), .ref (r9 0), .ref (r10 0), .int o_hasHeader, .int o_hasPicture, .int o_frameCount], oB (r6 0) 0 [.ref (r6 1), .ref (r6 2), .ref (r6 3), .ref (r6 4), .ref (r6 5), .ref (r6 6), .int f6_columns, .int f6_rows, .int f6_scale, .int f6_toEnd, .int f6_between, .int f6_kept]] []) H3 := hP3
  have hD3 : va_D A (wf [oB (r0 0) 6 [.ref (r2 0), .ref (r3 0), .ref (r4 0), .ref (r5 0), .ref (r6 0), .ref (r7 0), .ref (r8 0), .ref (r9 0), .ref (r10 0), .int o_hasHeader, .int o_hasPicture, .int o_frameCount], oB (r6 0) 0 [.ref (r6 1), .ref (r6 2), .ref (r6 3), .ref (r6 4), .ref (r6 5), .ref (r6 6), .int f6_columns, .int f6_rows, .int f6_scale, .int f6_toEnd, .int f6_between, .int f6_kept]] []) := hD3
  refine vx_catch (E := IAE) (name := IAE) hown [⟨0, 12, 15, 13⟩, ⟨0, 12, 19, 33⟩] ⟨0, 12, 23, 19⟩ [] (htab.trans rfl) (List.forall_mem_cons.mpr ⟨Or.inr ⟨by decide, ISE, (hts _ (List.mem_of_getElem? (i := 1) rfl)), GX9.2.2.2.2.2.2.2.2.2.2.2.2.2.1⟩, List.forall_mem_cons.mpr ⟨Or.inr ⟨by decide, IOB, (hts _ (List.mem_of_getElem? (i := 2) rfl)), GX9.2.2.2.2.2.2.2.2.2.2.2.2.2.2.2.1⟩, fun z hz => nomatch hz⟩⟩) (by decide) (by decide) (hts _ (List.mem_of_getElem? (i := 3) rfl)) (va_Nw.use (A := args) rfl (GX9.2.2.2.2.2.2.2.2.2.2.2.1)) hcell9 hv9 hcl9 ?_
  refine W.eq (g2 := F0 m 23 ls0 [.ref q9]) rfl ?_
  refine lv_astore (lv' := [(5, .ref q9), (0, .ref (r0 0)), (1, .int x1), (2, .int x2), (3, .int x3), (4, .ref (r1 0))]) hx hb dL_block_23 hl0 (by decide) rfl (fun ls4 hl4 => ?_); clear hl0
  refine lv_iconst (v := 3) hx hb dL_block_25 (by decide) ?_
  obtain rfl := Option.some.inj hm1
  rw [hQ]
  exact cth_iret hx hb hr hlk hP3 hD3 hS3 rfl dL_block_26
