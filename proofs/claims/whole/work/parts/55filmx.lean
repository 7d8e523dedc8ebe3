def f_X6_feed_x (x1 : Int32) (x2 : Int32) (x3 : Int32) (x4 : Int32) (t_size : Int32) : Option (Unit) :=
  bd1 (f_X4_size t_size) fun y_1 =>
  (if (y_1 + (16 : Int32)) ≤ (6000 : Int32) then
  (none)
  else
  (some ()))

abbrev rm_X6_feed_x : Room := { frames := 6, cells := 1, slots := 6, locals := 90 }

theorem hi_X6_feed_x_6 : ∀ w ∈ u_ws RX6 TX6 12, w ∈ wsX6_feed := fun _ h => List.mem_cons_of_mem _ (List.mem_append_left _ (List.mem_append_left _ (List.mem_append_right _ h)))

theorem xi_X6_feed_x_64 : ∀ w ∈ (vx_atS RX6 64 ISE NMS).filter goodWord, w ∈ wsX6_feed := fun _ h => List.mem_cons_of_mem _ (List.mem_append_right _ h)

set_option maxHeartbeats 40000000 in
set_option maxRecDepth 100000 in
theorem c_X6_feed_x (l : Launch) (D : va_G) (cB cI cJ cQ : ClassId) (N : Nat) (hst : l.stackTraces = false) (r0 : Nat → Nat) (r1 : Nat → Nat) (r2 : Nat → Nat) (r3 : Nat → Nat) (r4 : Nat → Nat) (r5 : Nat → Nat) (r6 : Nat → Nat) (r7 : Nat → Nat) (r8 : Nat → Nat) (r9 : Nat → Nat) (sz : Nat) (x1 : Int32) (x2 : Int32) (x3 : Int32) (x4 : Int32) (o_hasHeader : Int32) (o_hasPicture : Int32) (o_frameCount : Int32) (t_size : Int32) (t_position : Int32) (t_fault : Int32) (o : Unit) (hm0 : f_X6_feed_x x1 x2 x3 x4 t_size = some o) : vx_Met l yX6_feed wsX6_feed rm_X6_feed_x (ctPX D cB cI cJ cQ N sz [.ref (r0 0), .int x1, .int x2, .int x3, .int x4] (wf [oB (r0 0) 6 [.ref (r1 0), .ref (r2 0), .ref (r3 0), .ref (r4 0), .ref (r5 0), .ref (r6 0), .ref (r7 0), .ref (r8 0), .ref (r9 0), .int o_hasHeader, .int o_hasPicture, .int o_frameCount], oB (r1 0) 4 [.ref (r1 1), .int t_size, .int t_position, .int t_fault]] [])) (ctNi (va_A (wf [oB (r0 0) 6 [.ref (r1 0), .ref (r2 0), .ref (r3 0), .ref (r4 0), .ref (r5 0), .ref (r6 0), .ref (r7 0), .ref (r8 0), .ref (r9 0), .int o_hasHeader, .int o_hasPicture, .int o_frameCount], oB (r1 0) 4 [.ref (r1 1), .int t_size, .int t_position, .int t_fault]] []) sz)) (ctXC D ISE (wf [oB (r0 0) 6 [.ref (r1 0), .ref (r2 0), .ref (r3 0), .ref (r4 0), .ref (r5 0), .ref (r6 0), .ref (r7 0), .ref (r8 0), .ref (r9 0), .int o_hasHeader, .int o_hasPicture, .int o_frameCount], oB (r1 0) 4 [.ref (r1 1), .int t_size, .int t_position, .int t_fault]] []) (va_A (wf [oB (r0 0) 6 [.ref (r1 0), .ref (r2 0), .ref (r3 0), .ref (r4 0), .ref (r5 0), .ref (r6 0), .ref (r7 0), .ref (r8 0), .ref (r9 0), .int o_hasHeader, .int o_hasPicture, .int o_frameCount], oB (r1 0) 4 [.ref (r1 1), .int t_size, .int t_position, .int t_fault]] []) sz)) 1 6 (va_A (wf [oB (r0 0) 6 [.ref (r1 0), .ref (r2 0), .ref (r3 0), .ref (r4 0), .ref (r5 0), .ref (r6 0), .ref (r7 0), .ref (r8 0), .ref (r9 0), .int o_hasHeader, .int o_hasPicture, .int o_frameCount], oB (r1 0) 4 [.ref (r1 1), .int t_size, .int t_position, .int t_fault]] []) sz) := by
  refine ctx_of (y := yX6_feed) (av := [.ref (r0 0), .int x1, .int x2, .int x3, .int x4]) (w0 := (wf [oB (r0 0) 6 [.ref (r1 0), .ref (r2 0), .ref (r3 0), .ref (r4 0), .ref (r5 0), .ref (r6 0), .ref (r7 0), .ref (r8 0), .ref (r9 0), .int o_hasHeader, .int o_hasPicture, .int o_frameCount], oB (r1 0) 4 [.ref (r1 1), .int t_size, .int t_position, .int t_fault]] [])) (cc := cX6_feed) (maxL := 5) (ret := (some .int)) (own := RX6) (Qp := ctNi) (XC := ctXC D ISE (wf [oB (r0 0) 6 [.ref (r1 0), .ref (r2 0), .ref (r3 0), .ref (r4 0), .ref (r5 0), .ref (r6 0), .ref (r7 0), .ref (r8 0), .ref (r9 0), .int o_hasHeader, .int o_hasPicture, .int o_frameCount], oB (r1 0) 4 [.ref (r1 1), .int t_size, .int t_position, .int t_fault]] [])) (mc := 1) (ms := 6) (by decide) rfl rfl (Nat.le_of_ble_eq_true rfl) ?_
  intro p e s m args below meth c A hx hb hr hml htab hown hts hlk hnm hsz E GX9 hP0 hD0 hS0 ls0 hl0
  subst hsz
  have hl0 : lv_has ls0 5 [(0, .ref (r0 0)), (1, .int x1), (2, .int x2), (3, .int x3), (4, .int x4)] := hl0
  obtain ⟨QQ, hQ⟩ : ∃ Q : State → Prop, Q = vx_MQ below (ctNi A) (ctXC D ISE (wf [oB (r0 0) 6 [.ref (r1 0), .ref (r2 0), .ref (r3 0), .ref (r4 0), .ref (r5 0), .ref (r6 0), .ref (r7 0), .ref (r8 0), .ref (r9 0), .int o_hasHeader, .int o_hasPicture, .int o_frameCount], oB (r1 0) 4 [.ref (r1 1), .int t_size, .int t_position, .int t_fault]] []) A) args s 1 6 A := ⟨_, rfl⟩
  rw [← hQ]
  unfold f_X6_feed_x at hm0
  refine lv_aload_n hx hb dX6_feed_0 rfl (lv_at hl0 0 rfl) ?_
  refine va_get (D := D) (ci := 6) (v := .ref (r1 0)) (C := RX6) (T := TX6) (N := 12) hx hb hts hi_X6_feed_x_6 hown E.1 hP0 0 rfl rfl 0 (by decide) (hts _ (List.mem_of_getElem? (i := 3) rfl)) (fun _ h9 => h9) rfl dX6_feed_1 ?_
  obtain ⟨y_1, hcl2, hm2⟩ := bd1_some hm0; clear hm0
  have sb3 := ctS.mk (n := 2) (k := 0) (pre := [oB (r0 0) 6 [.ref (r1 0), .ref (r2 0), .ref (r3 0), .ref (r4 0), .ref (r5 0), .ref (r6 0), .ref (r7 0), .ref (r8 0), .ref (r9 0), .int o_hasHeader, .int o_hasPicture, .int o_frameCount], oB (r1 0) 4 [.ref (r1 1), .int t_size, .int t_position, .int t_fault]]) (tl := []) [1] [0] [] [] rfl rfl (by decide +kernel) (by decide +kernel)
  refine ct_calli (r := y_1) E sb3 hP0 hD0 hS0 (va_runV (As := []) (rest := []) ⟨hx, hb, hml, hown, hts⟩ (c_X4_size l D cB cI cJ cQ N r1 s.heap.size t_size t_position t_fault (y_1) hcl2) (cwV 0 hts gX6_feed_X4_size rfl rfl rfl cdV_X4_size ⟨Nat.le_of_ble_eq_true rfl, Nat.le_of_ble_eq_true rfl⟩) (ct_preV (q0 := 1) (ci := 4) E sb3 hP0 hD0 hS0 rfl rfl) rfl rfl hl0.1 rfl (lv_room (Nat.le_of_ble_eq_true rfl)) dX6_feed_4 ⟨Nat.zero_le _, Nat.zero_le _⟩) (fun H4 lc4 hP4 hD4 hS4 => ?_); clear sb3 hcl2
  clear hP0 hD0 hS0
  have hP4 : va_P D vwCl (wf [oB (r0 0) 6 [.ref (r1 0), .ref (r2 0), .ref (r3 0), .ref (r4 0), .ref (r5 0), .ref (r6 0), .ref (r7 0), .ref (r8 0), .ref (r9 0), .int o_hasHeader, .int o_hasPicture, .int o_frameCount], oB (r1 0) 4 [.ref (r1 1), .int t_size, .int t_position, .int t_fault]] []) H4 := hP4
  have hD4 : va_D A (wf [oB (r0 0) 6 [.ref (r1 0), .ref (r2 0), .ref (r3 0), .ref (r4 0), .ref (r5 0), .ref (r6 0), .ref (r7 0), .ref (r8 0), .ref (r9 0), .int o_hasHeader, .int o_hasPicture, .int o_frameCount], oB (r1 0) 4 [.ref (r1 1), .int t_size, .int t_position, .int t_fault]] []) := hD4
  refine lv_bipush (v := 16) hx hb dX6_feed_7 (by decide) ?_
  refine lv_iadd hx hb dX6_feed_9 ?_
  refine lv_sipush (v := 6000) hx hb dX6_feed_10 (by decide) ?_
  refine lv_icmp_le (tgt := 26) hx hb dX6_feed_13 (by decide) (fun hc5 => ?_) (fun hc5 => ?_)
  · have hm6 := bq_t hm2 hc5; clear hm2
    cases hm6
  · have hm7 := bq_f hm2 hc5; clear hm2
    obtain ⟨sa9, hstr9⟩ := GX9.1
    rw [hQ]
    exact ct_throw (cls := ISE) (Ts := wsX6_feed) (ik := 60) (is := 62) (ic := 64) hst hx hb hown (by decide +kernel) (hts _ (List.mem_of_getElem? (i := 1) rfl)) (hts _ (List.mem_of_getElem? (i := 2) rfl)) hstr9 hts xi_X6_feed_x_64 xw_ISE (GX9.2.2.2.2.2.2.2.2.2.2.1) (GX9.2.2.2.2.2.2.2.2.2.2.2.2.2.2.2.2.1) (GX9.2.2.2.2.2.2.2.2.2.2.2.2.2.2.2.2.2.1) (GX9.2.2.2.2.2.2.2.2.2.2.2.2.2.2.2.2.2.2) xg_ISE E (GX9.2.2.2.2.2.2.2.2.1) (GX9.2.2.2.2.2.2.2.2.2.1) hP4 hD4 hS4 (hl0.1.trans hml.symm) htab (Nat.le_of_ble_eq_true rfl) (Nat.le_of_ble_eq_true rfl) (Nat.le_of_ble_eq_true rfl) (Nat.le_of_ble_eq_true rfl) hlk dX6_feed_16 dX6_feed_19 dX6_feed_20 dX6_feed_22 dX6_feed_25

def f_X6_end_xa (x1 : Int32) : Option (Unit) :=
  (if x1 < (0 : Int32) then
  (some ())
  else
  (none))

abbrev rm_X6_end_xa : Room := { frames := 6, cells := 1, slots := 6, locals := 90 }

theorem xi_X6_end_xa_75 : ∀ w ∈ (vx_atS RX6 75 IAE NMS).filter goodWord, w ∈ wsX6_end := fun _ h => List.mem_cons_of_mem _ (List.mem_append_right _ h)

set_option maxHeartbeats 40000000 in
set_option maxRecDepth 100000 in
theorem c_X6_end_xa (l : Launch) (D : va_G) (cB cI cJ cQ : ClassId) (N : Nat) (hst : l.stackTraces = false) (r0 : Nat → Nat) (r1 : Nat → Nat) (r2 : Nat → Nat) (r3 : Nat → Nat) (r4 : Nat → Nat) (r5 : Nat → Nat) (r6 : Nat → Nat) (r7 : Nat → Nat) (r8 : Nat → Nat) (r9 : Nat → Nat) (sz : Nat) (x1 : Int32) (o : Unit) (hm0 : f_X6_end_xa x1 = some o) : vx_Met l yX6_end wsX6_end rm_X6_end_xa (ctPX D cB cI cJ cQ N sz [.ref (r0 0), .int x1] (wf [] [])) (ctNv (va_A (wf [] []) sz)) (ctXC D IAE (wf [] []) (va_A (wf [] []) sz)) 1 6 (va_A (wf [] []) sz) := by
  refine ctx_of (y := yX6_end) (av := [.ref (r0 0), .int x1]) (w0 := (wf [] [])) (cc := cX6_end) (maxL := 2) (ret := none) (own := RX6) (Qp := ctNv) (XC := ctXC D IAE (wf [] [])) (mc := 1) (ms := 6) (by decide) rfl rfl (Nat.le_of_ble_eq_true rfl) ?_
  intro p e s m args below meth c A hx hb hr hml htab hown hts hlk hnm hsz E GX9 hP0 hD0 hS0 ls0 hl0
  subst hsz
  have hl0 : lv_has ls0 2 [(0, .ref (r0 0)), (1, .int x1)] := hl0
  obtain ⟨QQ, hQ⟩ : ∃ Q : State → Prop, Q = vx_MQ below (ctNv A) (ctXC D IAE (wf [] []) A) args s 1 6 A := ⟨_, rfl⟩
  rw [← hQ]
  unfold f_X6_end_xa at hm0
  refine lv_iload_n hx hb dX6_end_0 rfl (lv_at hl0 1 rfl) ?_
  refine lv_if_lt (tgt := 15) hx hb dX6_end_1 (by decide) (fun hc1 => ?_) (fun hc1 => ?_)
  · have hm2 := bq_t hm0 hc1; clear hm0
    obtain ⟨sa9, hstr9⟩ := GX9.2.1
    rw [hQ]
    exact ct_throw (cls := IAE) (Ts := wsX6_end) (ik := 71) (is := 73) (ic := 75) hst hx hb hown (by decide +kernel) (hts _ (List.mem_of_getElem? (i := 1) rfl)) (hts _ (List.mem_of_getElem? (i := 2) rfl)) hstr9 hts xi_X6_end_xa_75 xw_IAE (GX9.2.2.2.2.2.2.2.2.2.2.2.1) (GX9.2.2.2.2.2.2.2.2.2.2.2.2.2.2.2.2.1) (GX9.2.2.2.2.2.2.2.2.2.2.2.2.2.2.2.2.2.1) (GX9.2.2.2.2.2.2.2.2.2.2.2.2.2.2.2.2.2.2) xg_IAE E (GX9.2.2.2.2.2.2.2.2.1) (GX9.2.2.2.2.2.2.2.2.2.1) hP0 hD0 hS0 (hl0.1.trans hml.symm) htab (Nat.le_of_ble_eq_true rfl) (Nat.le_of_ble_eq_true rfl) (Nat.le_of_ble_eq_true rfl) (Nat.le_of_ble_eq_true rfl) hlk dX6_end_15 dX6_end_18 dX6_end_19 dX6_end_21 dX6_end_24
  · have hm3 := bq_f hm0 hc1; clear hm0
    cases hm3

def f_X6_end_xb (x1 : Int32) (t_size : Int32) : Option (Unit) :=
  (if x1 < (0 : Int32) then
  (none)
  else
  (bd1 (f_X4_size t_size) fun y_4 =>
  (if x1 ≤ y_4 then
  (none)
  else
  (some ()))))

abbrev rm_X6_end_xb : Room := { frames := 6, cells := 1, slots := 6, locals := 90 }

theorem hi_X6_end_xb_6 : ∀ w ∈ u_ws RX6 TX6 12, w ∈ wsX6_end := fun _ h => List.mem_cons_of_mem _ (List.mem_append_left _ (List.mem_append_left _ (List.mem_append_right _ h)))

theorem xi_X6_end_xb_75 : ∀ w ∈ (vx_atS RX6 75 IAE NMS).filter goodWord, w ∈ wsX6_end := fun _ h => List.mem_cons_of_mem _ (List.mem_append_right _ h)

set_option maxHeartbeats 40000000 in
set_option maxRecDepth 100000 in
theorem c_X6_end_xb (l : Launch) (D : va_G) (cB cI cJ cQ : ClassId) (N : Nat) (hst : l.stackTraces = false) (r0 : Nat → Nat) (r1 : Nat → Nat) (r2 : Nat → Nat) (r3 : Nat → Nat) (r4 : Nat → Nat) (r5 : Nat → Nat) (r6 : Nat → Nat) (r7 : Nat → Nat) (r8 : Nat → Nat) (r9 : Nat → Nat) (sz : Nat) (x1 : Int32) (o_hasHeader : Int32) (o_hasPicture : Int32) (o_frameCount : Int32) (t_size : Int32) (t_position : Int32) (t_fault : Int32) (o : Unit) (hm0 : f_X6_end_xb x1 t_size = some o) : vx_Met l yX6_end wsX6_end rm_X6_end_xb (ctPX D cB cI cJ cQ N sz [.ref (r0 0), .int x1] (wf [oB (r0 0) 6 [.ref (r1 0), .ref (r2 0), .ref (r3 0), .ref (r4 0), .ref (r5 0), .ref (r6 0), .ref (r7 0), .ref (r8 0), .ref (r9 0), .int o_hasHeader, .int o_hasPicture, .int o_frameCount], oB (r1 0) 4 [.ref (r1 1), .int t_size, .int t_position, .int t_fault]] [])) (ctNv (va_A (wf [oB (r0 0) 6 [.ref (r1 0), .ref (r2 0), .ref (r3 0), .ref (r4 0), .ref (r5 0), .ref (r6 0), .ref (r7 0), .ref (r8 0), .ref (r9 0), .int o_hasHeader, .int o_hasPicture, .int o_frameCount], oB (r1 0) 4 [.ref (r1 1), .int t_size, .int t_position, .int t_fault]] []) sz)) (ctXC D IAE (wf [oB (r0 0) 6 [.ref (r1 0), .ref (r2 0), .ref (r3 0), .ref (r4 0), .ref (r5 0), .ref (r6 0), .ref (r7 0), .ref (r8 0), .ref (r9 0), .int o_hasHeader, .int o_hasPicture, .int o_frameCount], oB (r1 0) 4 [.ref (r1 1), .int t_size, .int t_position, .int t_fault]] []) (va_A (wf [oB (r0 0) 6 [.ref (r1 0), .ref (r2 0), .ref (r3 0), .ref (r4 0), .ref (r5 0), .ref (r6 0), .ref (r7 0), .ref (r8 0), .ref (r9 0), .int o_hasHeader, .int o_hasPicture, .int o_frameCount], oB (r1 0) 4 [.ref (r1 1), .int t_size, .int t_position, .int t_fault]] []) sz)) 1 6 (va_A (wf [oB (r0 0) 6 [.ref (r1 0), .ref (r2 0), .ref (r3 0), .ref (r4 0), .ref (r5 0), .ref (r6 0), .ref (r7 0), .ref (r8 0), .ref (r9 0), .int o_hasHeader, .int o_hasPicture, .int o_frameCount], oB (r1 0) 4 [.ref (r1 1), .int t_size, .int t_position, .int t_fault]] []) sz) := by
  refine ctx_of (y := yX6_end) (av := [.ref (r0 0), .int x1]) (w0 := (wf [oB (r0 0) 6 [.ref (r1 0), .ref (r2 0), .ref (r3 0), .ref (r4 0), .ref (r5 0), .ref (r6 0), .ref (r7 0), .ref (r8 0), .ref (r9 0), .int o_hasHeader, .int o_hasPicture, .int o_frameCount], oB (r1 0) 4 [.ref (r1 1), .int t_size, .int t_position, .int t_fault]] [])) (cc := cX6_end) (maxL := 2) (ret := none) (own := RX6) (Qp := ctNv) (XC := ctXC D IAE (wf [oB (r0 0) 6 [.ref (r1 0), .ref (r2 0), .ref (r3 0), .ref (r4 0), .ref (r5 0), .ref (r6 0), .ref (r7 0), .ref (r8 0), .ref (r9 0), .int o_hasHeader, .int o_hasPicture, .int o_frameCount], oB (r1 0) 4 [.ref (r1 1), .int t_size, .int t_position, .int t_fault]] [])) (mc := 1) (ms := 6) (by decide) rfl rfl (Nat.le_of_ble_eq_true rfl) ?_
  intro p e s m args below meth c A hx hb hr hml htab hown hts hlk hnm hsz E GX9 hP0 hD0 hS0 ls0 hl0
  subst hsz
  have hl0 : lv_has ls0 2 [(0, .ref (r0 0)), (1, .int x1)] := hl0
  obtain ⟨QQ, hQ⟩ : ∃ Q : State → Prop, Q = vx_MQ below (ctNv A) (ctXC D IAE (wf [oB (r0 0) 6 [.ref (r1 0), .ref (r2 0), .ref (r3 0), .ref (r4 0), .ref (r5 0), .ref (r6 0), .ref (r7 0), .ref (r8 0), .ref (r9 0), .int o_hasHeader, .int o_hasPicture, .int o_frameCount], oB (r1 0) 4 [.ref (r1 1), .int t_size, .int t_position, .int t_fault]] []) A) args s 1 6 A := ⟨_, rfl⟩
  rw [← hQ]
  unfold f_X6_end_xb at hm0
  refine lv_iload_n hx hb dX6_end_0 rfl (lv_at hl0 1 rfl) ?_
  refine lv_if_lt (tgt := 15) hx hb dX6_end_1 (by decide) (fun hc1 => ?_) (fun hc1 => ?_)
  · have hm2 := bq_t hm0 hc1; clear hm0
    cases hm2
  · have hm3 := bq_f hm0 hc1; clear hm0
    refine lv_iload_n hx hb dX6_end_4 rfl (lv_at hl0 1 rfl) ?_
    refine lv_aload_n hx hb dX6_end_5 rfl (lv_at hl0 0 rfl) ?_
    refine va_get (D := D) (ci := 6) (v := .ref (r1 0)) (C := RX6) (T := TX6) (N := 12) hx hb hts hi_X6_end_xb_6 hown E.1 hP0 0 rfl rfl 0 (by decide) (hts _ (List.mem_of_getElem? (i := 3) rfl)) (fun _ h9 => h9) rfl dX6_end_6 ?_
    obtain ⟨y_4, hcl5, hm5⟩ := bd1_some hm3; clear hm3
    have sb6 := ctS.mk (n := 2) (k := 0) (pre := [oB (r0 0) 6 [.ref (r1 0), .ref (r2 0), .ref (r3 0), .ref (r4 0), .ref (r5 0), .ref (r6 0), .ref (r7 0), .ref (r8 0), .ref (r9 0), .int o_hasHeader, .int o_hasPicture, .int o_frameCount], oB (r1 0) 4 [.ref (r1 1), .int t_size, .int t_position, .int t_fault]]) (tl := []) [1] [0] [] [] rfl rfl (by decide +kernel) (by decide +kernel)
    refine ct_calli (r := y_4) E sb6 hP0 hD0 hS0 (va_runV (As := []) (rest := [.int x1]) ⟨hx, hb, hml, hown, hts⟩ (c_X4_size l D cB cI cJ cQ N r1 s.heap.size t_size t_position t_fault (y_4) hcl5) (cwV 0 hts gX6_end_X4_size rfl rfl rfl cdV_X4_size ⟨Nat.le_of_ble_eq_true rfl, Nat.le_of_ble_eq_true rfl⟩) (ct_preV (q0 := 1) (ci := 4) E sb6 hP0 hD0 hS0 rfl rfl) rfl rfl hl0.1 rfl (lv_room (Nat.le_of_ble_eq_true rfl)) dX6_end_9 ⟨Nat.zero_le _, Nat.zero_le _⟩) (fun H7 lc7 hP7 hD7 hS7 => ?_); clear sb6 hcl5
    clear hP0 hD0 hS0
    have hP7 : va_P D vwCl (wf [oB (r0 0) 6 [.ref (r1 0), .ref (r2 0), .ref (r3 0), .ref (r4 0), .ref (r5 0), .ref (r6 0), .ref (r7 0), .ref (r8 0), .ref (r9 0), .int o_hasHeader, .int o_hasPicture, .int o_frameCount], oB (r1 0) 4 [.ref (r1 1), .int t_size, .int t_position, .int t_fault]] []) H7 := hP7
    have hD7 : va_D A (wf [oB (r0 0) 6 [.ref (r1 0), .ref (r2 0), .ref (r3 0), .ref (r4 0), .ref (r5 0), .ref (r6 0), .ref (r7 0), .ref (r8 0), .ref (r9 0), .int o_hasHeader, .int o_hasPicture, .int o_frameCount], oB (r1 0) 4 [.ref (r1 1), .int t_size, .int t_position, .int t_fault]] []) := hD7
    refine lv_icmp_le (tgt := 25) hx hb dX6_end_12 (by decide) (fun hc8 => ?_) (fun hc8 => ?_)
    · have hm9 := bq_t hm5 hc8; clear hm5
      cases hm9
    · have hm10 := bq_f hm5 hc8; clear hm5
      obtain ⟨sa9, hstr9⟩ := GX9.2.1
      rw [hQ]
      exact ct_throw (cls := IAE) (Ts := wsX6_end) (ik := 71) (is := 73) (ic := 75) hst hx hb hown (by decide +kernel) (hts _ (List.mem_of_getElem? (i := 1) rfl)) (hts _ (List.mem_of_getElem? (i := 2) rfl)) hstr9 hts xi_X6_end_xb_75 xw_IAE (GX9.2.2.2.2.2.2.2.2.2.2.2.1) (GX9.2.2.2.2.2.2.2.2.2.2.2.2.2.2.2.2.1) (GX9.2.2.2.2.2.2.2.2.2.2.2.2.2.2.2.2.2.1) (GX9.2.2.2.2.2.2.2.2.2.2.2.2.2.2.2.2.2.2) xg_IAE E (GX9.2.2.2.2.2.2.2.2.1) (GX9.2.2.2.2.2.2.2.2.2.1) hP7 hD7 hS7 (hl0.1.trans hml.symm) htab (Nat.le_of_ble_eq_true rfl) (Nat.le_of_ble_eq_true rfl) (Nat.le_of_ble_eq_true rfl) (Nat.le_of_ble_eq_true rfl) hlk dX6_end_15 dX6_end_18 dX6_end_19 dX6_end_21 dX6_end_24

def f_X6_frame_x (o_hasHeader : Int32) : Option (Unit) :=
  (if o_hasHeader = (0 : Int32) then
  (some ())
  else
  (none))

abbrev rm_X6_frame_x : Room := { frames := 6, cells := 1, slots := 6, locals := 90 }

theorem hi_X6_frame_x_6 : ∀ w ∈ u_ws RX6 TX6 12, w ∈ wsX6_frame := fun _ h => List.mem_cons_of_mem _ (List.mem_append_left _ (List.mem_append_left _ (List.mem_append_left _ (List.mem_append_left _ (List.mem_append_left _ (List.mem_append_left _ (List.mem_append_left _ (List.mem_append_right _ h))))))))

theorem xi_X6_frame_x_64 : ∀ w ∈ (vx_atS RX6 64 ISE NMS).filter goodWord, w ∈ wsX6_frame := fun _ h => List.mem_cons_of_mem _ (List.mem_append_right _ h)

set_option maxHeartbeats 40000000 in
set_option maxRecDepth 100000 in
theorem c_X6_frame_x (l : Launch) (D : va_G) (cB cI cJ cQ : ClassId) (N : Nat) (hst : l.stackTraces = false) (r0 : Nat → Nat) (r1 : Nat → Nat) (r2 : Nat → Nat) (r3 : Nat → Nat) (r4 : Nat → Nat) (r5 : Nat → Nat) (r6 : Nat → Nat) (r7 : Nat → Nat) (r8 : Nat → Nat) (r9 : Nat → Nat) (sz : Nat) (o_hasHeader : Int32) (o_hasPicture : Int32) (o_frameCount : Int32) (o : Unit) (hm0 : f_X6_frame_x o_hasHeader = some o) : vx_Met l yX6_frame wsX6_frame rm_X6_frame_x (ctPX D cB cI cJ cQ N sz [.ref (r0 0)] (wf [oB (r0 0) 6 [.ref (r1 0), .ref (r2 0), .ref (r3 0), .ref (r4 0), .ref (r5 0), .ref (r6 0), .ref (r7 0), .ref (r8 0), .ref (r9 0), .int o_hasHeader, .int o_hasPicture, .int o_frameCount]] [])) (ctNi (va_A (wf [oB (r0 0) 6 [.ref (r1 0), .ref (r2 0), .ref (r3 0), .ref (r4 0), .ref (r5 0), .ref (r6 0), .ref (r7 0), .ref (r8 0), .ref (r9 0), .int o_hasHeader, .int o_hasPicture, .int o_frameCount]] []) sz)) (ctXC D ISE (wf [oB (r0 0) 6 [.ref (r1 0), .ref (r2 0), .ref (r3 0), .ref (r4 0), .ref (r5 0), .ref (r6 0), .ref (r7 0), .ref (r8 0), .ref (r9 0), .int o_hasHeader, .int o_hasPicture, .int o_frameCount]] []) (va_A (wf [oB (r0 0) 6 [.ref (r1 0), .ref (r2 0), .ref (r3 0), .ref (r4 0), .ref (r5 0), .ref (r6 0), .ref (r7 0), .ref (r8 0), .ref (r9 0), .int o_hasHeader, .int o_hasPicture, .int o_frameCount]] []) sz)) 1 6 (va_A (wf [oB (r0 0) 6 [.ref (r1 0), .ref (r2 0), .ref (r3 0), .ref (r4 0), .ref (r5 0), .ref (r6 0), .ref (r7 0), .ref (r8 0), .ref (r9 0), .int o_hasHeader, .int o_hasPicture, .int o_frameCount]] []) sz) := by
  refine ctx_of (y := yX6_frame) (av := [.ref (r0 0)]) (w0 := (wf [oB (r0 0) 6 [.ref (r1 0), .ref (r2 0), .ref (r3 0), .ref (r4 0), .ref (r5 0), .ref (r6 0), .ref (r7 0), .ref (r8 0), .ref (r9 0), .int o_hasHeader, .int o_hasPicture, .int o_frameCount]] [])) (cc := cX6_frame) (maxL := 1) (ret := (some .int)) (own := RX6) (Qp := ctNi) (XC := ctXC D ISE (wf [oB (r0 0) 6 [.ref (r1 0), .ref (r2 0), .ref (r3 0), .ref (r4 0), .ref (r5 0), .ref (r6 0), .ref (r7 0), .ref (r8 0), .ref (r9 0), .int o_hasHeader, .int o_hasPicture, .int o_frameCount]] [])) (mc := 1) (ms := 6) (by decide) rfl rfl (Nat.le_of_ble_eq_true rfl) ?_
  intro p e s m args below meth c A hx hb hr hml htab hown hts hlk hnm hsz E GX9 hP0 hD0 hS0 ls0 hl0
  subst hsz
  have hl0 : lv_has ls0 1 [(0, .ref (r0 0))] := hl0
  obtain ⟨QQ, hQ⟩ : ∃ Q : State → Prop, Q = vx_MQ below (ctNi A) (ctXC D ISE (wf [oB (r0 0) 6 [.ref (r1 0), .ref (r2 0), .ref (r3 0), .ref (r4 0), .ref (r5 0), .ref (r6 0), .ref (r7 0), .ref (r8 0), .ref (r9 0), .int o_hasHeader, .int o_hasPicture, .int o_frameCount]] []) A) args s 1 6 A := ⟨_, rfl⟩
  rw [← hQ]
  unfold f_X6_frame_x at hm0
  refine lv_aload_n hx hb dX6_frame_0 rfl (lv_at hl0 0 rfl) ?_
  refine va_get (D := D) (ci := 6) (v := .int o_hasHeader) (C := RX6) (T := TX6) (N := 12) hx hb hts hi_X6_frame_x_6 hown E.1 hP0 0 rfl rfl 9 (by decide) (hts _ (List.mem_of_getElem? (i := 3) rfl)) (fun _ h9 => h9) rfl dX6_frame_1 ?_
  refine lv_if_ne (tgt := 17) hx hb dX6_frame_4 (by decide) (fun hc1 => ?_) (fun hc1 => ?_)
  · have hm2 := bq_f hm0 hc1; clear hm0
    cases hm2
  · have hm3 := bq_t hm0 hc1; clear hm0
    obtain ⟨sa9, hstr9⟩ := GX9.2.2.1
    rw [hQ]
    exact ct_throw (cls := ISE) (Ts := wsX6_frame) (ik := 60) (is := 100) (ic := 64) hst hx hb hown (by decide +kernel) (hts _ (List.mem_of_getElem? (i := 1) rfl)) (hts _ (List.mem_of_getElem? (i := 2) rfl)) hstr9 hts xi_X6_frame_x_64 xw_ISE (GX9.2.2.2.2.2.2.2.2.2.2.1) (GX9.2.2.2.2.2.2.2.2.2.2.2.2.2.2.2.2.1) (GX9.2.2.2.2.2.2.2.2.2.2.2.2.2.2.2.2.2.1) (GX9.2.2.2.2.2.2.2.2.2.2.2.2.2.2.2.2.2.2) xg_ISE E (GX9.2.2.2.2.2.2.2.2.1) (GX9.2.2.2.2.2.2.2.2.2.1) hP0 hD0 hS0 (hl0.1.trans hml.symm) htab (Nat.le_of_ble_eq_true rfl) (Nat.le_of_ble_eq_true rfl) (Nat.le_of_ble_eq_true rfl) (Nat.le_of_ble_eq_true rfl) hlk dX6_frame_7 dX6_frame_10 dX6_frame_11 dX6_frame_13 dX6_frame_16

def f_X6_head_x1 (x1 : Int32) (o_hasHeader : Int32) : Option (Unit) :=
  (if o_hasHeader = (0 : Int32) then
  (some ())
  else
  (none))

abbrev rm_X6_head_x1 : Room := { frames := 6, cells := 1, slots := 6, locals := 90 }

theorem hi_X6_head_x1_6 : ∀ w ∈ u_ws RX6 TX6 12, w ∈ wsX6_head := fun _ h => List.mem_cons_of_mem _ (List.mem_append_left _ (List.mem_append_left _ (List.mem_append_left _ (List.mem_append_left _ (List.mem_append_right _ h)))))

theorem xi_X6_head_x1_64 : ∀ w ∈ (vx_atS RX6 64 ISE NMS).filter goodWord, w ∈ wsX6_head := fun _ h => List.mem_cons_of_mem _ (List.mem_append_left _ (List.mem_append_right _ h))

set_option maxHeartbeats 40000000 in
set_option maxRecDepth 100000 in
theorem c_X6_head_x1 (l : Launch) (D : va_G) (cB cI cJ cQ : ClassId) (N : Nat) (hst : l.stackTraces = false) (r0 : Nat → Nat) (r1 : Nat → Nat) (r2 : Nat → Nat) (r3 : Nat → Nat) (r4 : Nat → Nat) (r5 : Nat → Nat) (r6 : Nat → Nat) (r7 : Nat → Nat) (r8 : Nat → Nat) (r9 : Nat → Nat) (sz : Nat) (x1 : Int32) (o_hasHeader : Int32) (o_hasPicture : Int32) (o_frameCount : Int32) (o : Unit) (hm0 : f_X6_head_x1 x1 o_hasHeader = some o) : vx_Met l yX6_head wsX6_head rm_X6_head_x1 (ctPX D cB cI cJ cQ N sz [.ref (r0 0), .int x1] (wf [oB (r0 0) 6 [.ref (r1 0), .ref (r2 0), .ref (r3 0), .ref (r4 0), .ref (r5 0), .ref (r6 0), .ref (r7 0), .ref (r8 0), .ref (r9 0), .int o_hasHeader, .int o_hasPicture, .int o_frameCount]] [])) (ctNi (va_A (wf [oB (r0 0) 6 [.ref (r1 0), .ref (r2 0), .ref (r3 0), .ref (r4 0), .ref (r5 0), .ref (r6 0), .ref (r7 0), .ref (r8 0), .ref (r9 0), .int o_hasHeader, .int o_hasPicture, .int o_frameCount]] []) sz)) (ctXC D ISE (wf [oB (r0 0) 6 [.ref (r1 0), .ref (r2 0), .ref (r3 0), .ref (r4 0), .ref (r5 0), .ref (r6 0), .ref (r7 0), .ref (r8 0), .ref (r9 0), .int o_hasHeader, .int o_hasPicture, .int o_frameCount]] []) (va_A (wf [oB (r0 0) 6 [.ref (r1 0), .ref (r2 0), .ref (r3 0), .ref (r4 0), .ref (r5 0), .ref (r6 0), .ref (r7 0), .ref (r8 0), .ref (r9 0), .int o_hasHeader, .int o_hasPicture, .int o_frameCount]] []) sz)) 1 6 (va_A (wf [oB (r0 0) 6 [.ref (r1 0), .ref (r2 0), .ref (r3 0), .ref (r4 0), .ref (r5 0), .ref (r6 0), .ref (r7 0), .ref (r8 0), .ref (r9 0), .int o_hasHeader, .int o_hasPicture, .int o_frameCount]] []) sz) := by
  refine ctx_of (y := yX6_head) (av := [.ref (r0 0), .int x1]) (w0 := (wf [oB (r0 0) 6 [.ref (r1 0), .ref (r2 0), .ref (r3 0), .ref (r4 0), .ref (r5 0), .ref (r6 0), .ref (r7 0), .ref (r8 0), .ref (r9 0), .int o_hasHeader, .int o_hasPicture, .int o_frameCount]] [])) (cc := cX6_head) (maxL := 2) (ret := (some .int)) (own := RX6) (Qp := ctNi) (XC := ctXC D ISE (wf [oB (r0 0) 6 [.ref (r1 0), .ref (r2 0), .ref (r3 0), .ref (r4 0), .ref (r5 0), .ref (r6 0), .ref (r7 0), .ref (r8 0), .ref (r9 0), .int o_hasHeader, .int o_hasPicture, .int o_frameCount]] [])) (mc := 1) (ms := 6) (by decide) rfl rfl (Nat.le_of_ble_eq_true rfl) ?_
  intro p e s m args below meth c A hx hb hr hml htab hown hts hlk hnm hsz E GX9 hP0 hD0 hS0 ls0 hl0
  subst hsz
  have hl0 : lv_has ls0 2 [(0, .ref (r0 0)), (1, .int x1)] := hl0
  obtain ⟨QQ, hQ⟩ : ∃ Q : State → Prop, Q = vx_MQ below (ctNi A) (ctXC D ISE (wf [oB (r0 0) 6 [.ref (r1 0), .ref (r2 0), .ref (r3 0), .ref (r4 0), .ref (r5 0), .ref (r6 0), .ref (r7 0), .ref (r8 0), .ref (r9 0), .int o_hasHeader, .int o_hasPicture, .int o_frameCount]] []) A) args s 1 6 A := ⟨_, rfl⟩
  rw [← hQ]
  unfold f_X6_head_x1 at hm0
  refine lv_aload_n hx hb dX6_head_0 rfl (lv_at hl0 0 rfl) ?_
  refine va_get (D := D) (ci := 6) (v := .int o_hasHeader) (C := RX6) (T := TX6) (N := 12) hx hb hts hi_X6_head_x1_6 hown E.1 hP0 0 rfl rfl 9 (by decide) (hts _ (List.mem_of_getElem? (i := 5) rfl)) (fun _ h9 => h9) rfl dX6_head_1 ?_
  refine lv_if_ne (tgt := 17) hx hb dX6_head_4 (by decide) (fun hc1 => ?_) (fun hc1 => ?_)
  · have hm2 := bq_f hm0 hc1; clear hm0
    cases hm2
  · have hm3 := bq_t hm0 hc1; clear hm0
    obtain ⟨sa9, hstr9⟩ := GX9.2.2.1
    rw [hQ]
    exact ct_throw (cls := ISE) (Ts := wsX6_head) (ik := 60) (is := 100) (ic := 64) hst hx hb hown (by decide +kernel) (hts _ (List.mem_of_getElem? (i := 1) rfl)) (hts _ (List.mem_of_getElem? (i := 2) rfl)) hstr9 hts xi_X6_head_x1_64 xw_ISE (GX9.2.2.2.2.2.2.2.2.2.2.1) (GX9.2.2.2.2.2.2.2.2.2.2.2.2.2.2.2.2.1) (GX9.2.2.2.2.2.2.2.2.2.2.2.2.2.2.2.2.2.1) (GX9.2.2.2.2.2.2.2.2.2.2.2.2.2.2.2.2.2.2) xg_ISE E (GX9.2.2.2.2.2.2.2.2.1) (GX9.2.2.2.2.2.2.2.2.2.1) hP0 hD0 hS0 (hl0.1.trans hml.symm) htab (Nat.le_of_ble_eq_true rfl) (Nat.le_of_ble_eq_true rfl) (Nat.le_of_ble_eq_true rfl) (Nat.le_of_ble_eq_true rfl) hlk dX6_head_7 dX6_head_10 dX6_head_11 dX6_head_13 dX6_head_16

def f_X6_head_x2 (x1 : Int32) (o_hasHeader : Int32) : Option (Unit) :=
  (if o_hasHeader = (0 : Int32) then
  (none)
  else
  ((if x1 = (0 : Int32) then
  (none)
  else
  ((if x1 = (1 : Int32) then
  (none)
  else
  ((if x1 = (2 : Int32) then
  (none)
  else
  ((if x1 = (3 : Int32) then
  (none)
  else
  ((if x1 = (4 : Int32) then
  (none)
  else
  (some ()))))))))))))

abbrev rm_X6_head_x2 : Room := { frames := 6, cells := 1, slots := 6, locals := 90 }

theorem hi_X6_head_x2_6 : ∀ w ∈ u_ws RX6 TX6 12, w ∈ wsX6_head := fun _ h => List.mem_cons_of_mem _ (List.mem_append_left _ (List.mem_append_left _ (List.mem_append_left _ (List.mem_append_left _ (List.mem_append_right _ h)))))

theorem xi_X6_head_x2_75 : ∀ w ∈ (vx_atS RX6 75 IAE NMS).filter goodWord, w ∈ wsX6_head := fun _ h => List.mem_cons_of_mem _ (List.mem_append_right _ h)

set_option maxHeartbeats 40000000 in
set_option maxRecDepth 100000 in
theorem c_X6_head_x2 (l : Launch) (D : va_G) (cB cI cJ cQ : ClassId) (N : Nat) (hst : l.stackTraces = false) (r0 : Nat → Nat) (r1 : Nat → Nat) (r2 : Nat → Nat) (r3 : Nat → Nat) (r4 : Nat → Nat) (r5 : Nat → Nat) (r6 : Nat → Nat) (r7 : Nat → Nat) (r8 : Nat → Nat) (r9 : Nat → Nat) (sz : Nat) (x1 : Int32) (o_hasHeader : Int32) (o_hasPicture : Int32) (o_frameCount : Int32) (o : Unit) (hm0 : f_X6_head_x2 x1 o_hasHeader = some o) : vx_Met l yX6_head wsX6_head rm_X6_head_x2 (ctPX D cB cI cJ cQ N sz [.ref (r0 0), .int x1] (wf [oB (r0 0) 6 [.ref (r1 0), .ref (r2 0), .ref (r3 0), .ref (r4 0), .ref (r5 0), .ref (r6 0), .ref (r7 0), .ref (r8 0), .ref (r9 0), .int o_hasHeader, .int o_hasPicture, .int o_frameCount]] [])) (ctNi (va_A (wf [oB (r0 0) 6 [.ref (r1 0), .ref (r2 0), .ref (r3 0), .ref (r4 0), .ref (r5 0), .ref (r6 0), .ref (r7 0), .ref (r8 0), .ref (r9 0), .int o_hasHeader, .int o_hasPicture, .int o_frameCount]] []) sz)) (ctXC D IAE (wf [oB (r0 0) 6 [.ref (r1 0), .ref (r2 0), .ref (r3 0), .ref (r4 0), .ref (r5 0), .ref (r6 0), .ref (r7 0), .ref (r8 0), .ref (r9 0), .int o_hasHeader, .int o_hasPicture, .int o_frameCount]] []) (va_A (wf [oB (r0 0) 6 [.ref (r1 0), .ref (r2 0), .ref (r3 0), .ref (r4 0), .ref (r5 0), .ref (r6 0), .ref (r7 0), .ref (r8 0), .ref (r9 0), .int o_hasHeader, .int o_hasPicture, .int o_frameCount]] []) sz)) 1 6 (va_A (wf [oB (r0 0) 6 [.ref (r1 0), .ref (r2 0), .ref (r3 0), .ref (r4 0), .ref (r5 0), .ref (r6 0), .ref (r7 0), .ref (r8 0), .ref (r9 0), .int o_hasHeader, .int o_hasPicture, .int o_frameCount]] []) sz) := by
  refine ctx_of (y := yX6_head) (av := [.ref (r0 0), .int x1]) (w0 := (wf [oB (r0 0) 6 [.ref (r1 0), .ref (r2 0), .ref (r3 0), .ref (r4 0), .ref (r5 0), .ref (r6 0), .ref (r7 0), .ref (r8 0), .ref (r9 0), .int o_hasHeader, .int o_hasPicture, .int o_frameCount]] [])) (cc := cX6_head) (maxL := 2) (ret := (some .int)) (own := RX6) (Qp := ctNi) (XC := ctXC D IAE (wf [oB (r0 0) 6 [.ref (r1 0), .ref (r2 0), .ref (r3 0), .ref (r4 0), .ref (r5 0), .ref (r6 0), .ref (r7 0), .ref (r8 0), .ref (r9 0), .int o_hasHeader, .int o_hasPicture, .int o_frameCount]] [])) (mc := 1) (ms := 6) (by decide) rfl rfl (Nat.le_of_ble_eq_true rfl) ?_
  intro p e s m args below meth c A hx hb hr hml htab hown hts hlk hnm hsz E GX9 hP0 hD0 hS0 ls0 hl0
  subst hsz
  have hl0 : lv_has ls0 2 [(0, .ref (r0 0)), (1, .int x1)] := hl0
  obtain ⟨QQ, hQ⟩ : ∃ Q : State → Prop, Q = vx_MQ below (ctNi A) (ctXC D IAE (wf [oB (r0 0) 6 [.ref (r1 0), .ref (r2 0), .ref (r3 0), .ref (r4 0), .ref (r5 0), .ref (r6 0), .ref (r7 0), .ref (r8 0), .ref (r9 0), .int o_hasHeader, .int o_hasPicture, .int o_frameCount]] []) A) args s 1 6 A := ⟨_, rfl⟩
  rw [← hQ]
  unfold f_X6_head_x2 at hm0
  refine lv_aload_n hx hb dX6_head_0 rfl (lv_at hl0 0 rfl) ?_
  refine va_get (D := D) (ci := 6) (v := .int o_hasHeader) (C := RX6) (T := TX6) (N := 12) hx hb hts hi_X6_head_x2_6 hown E.1 hP0 0 rfl rfl 9 (by decide) (hts _ (List.mem_of_getElem? (i := 5) rfl)) (fun _ h9 => h9) rfl dX6_head_1 ?_
  refine lv_if_ne (tgt := 17) hx hb dX6_head_4 (by decide) (fun hc1 => ?_) (fun hc1 => ?_)
  · have hm2 := bq_f hm0 hc1; clear hm0
    refine lv_iload_n hx hb dX6_head_17 rfl (lv_at hl0 1 rfl) ?_
    by_cases hc3 : x1 = (0 : Int32)
    · have hm4 := bq_t hm2 hc3; clear hm2
      cases hm4
    have hm5 := bq_f hm2 hc3; clear hm2
    by_cases hc6 : x1 = (1 : Int32)
    · have hm7 := bq_t hm5 hc6; clear hm5
      cases hm7
    have hm8 := bq_f hm5 hc6; clear hm5
    by_cases hc9 : x1 = (2 : Int32)
    · have hm10 := bq_t hm8 hc9; clear hm8
      cases hm10
    have hm11 := bq_f hm8 hc9; clear hm8
    by_cases hc12 : x1 = (3 : Int32)
    · have hm13 := bq_t hm11 hc12; clear hm11
      cases hm13
    have hm14 := bq_f hm11 hc12; clear hm11
    by_cases hc15 : x1 = (4 : Int32)
    · have hm16 := bq_t hm14 hc15; clear hm14
      cases hm16
    have hm17 := bq_f hm14 hc15; clear hm14
    have tn3 := ts_ne hc3 (show Int32.toInt (0 : Int32) = 0 by decide)
    have tn6 := ts_ne hc6 (show Int32.toInt (1 : Int32) = 1 by decide)
    have tn9 := ts_ne hc9 (show Int32.toInt (2 : Int32) = 2 by decide)
    have tn12 := ts_ne hc12 (show Int32.toInt (3 : Int32) = 3 by decide)
    have tn15 := ts_ne hc15 (show Int32.toInt (4 : Int32) = 4 by decide)
    refine lv_tableOut (tgt := 100) hx hb dX6_head_18 (by omega) (by decide) ?_
    obtain ⟨sa9, hstr9⟩ := GX9.2.2.2.1
    rw [hQ]
    exact ct_throw (cls := IAE) (Ts := wsX6_head) (ik := 71) (is := 129) (ic := 75) hst hx hb hown (by decide +kernel) (hts _ (List.mem_of_getElem? (i := 3) rfl)) (hts _ (List.mem_of_getElem? (i := 4) rfl)) hstr9 hts xi_X6_head_x2_75 xw_IAE (GX9.2.2.2.2.2.2.2.2.2.2.2.1) (GX9.2.2.2.2.2.2.2.2.2.2.2.2.2.2.2.2.1) (GX9.2.2.2.2.2.2.2.2.2.2.2.2.2.2.2.2.2.1) (GX9.2.2.2.2.2.2.2.2.2.2.2.2.2.2.2.2.2.2) xg_IAE E (GX9.2.2.2.2.2.2.2.2.1) (GX9.2.2.2.2.2.2.2.2.2.1) hP0 hD0 hS0 (hl0.1.trans hml.symm) htab (Nat.le_of_ble_eq_true rfl) (Nat.le_of_ble_eq_true rfl) (Nat.le_of_ble_eq_true rfl) (Nat.le_of_ble_eq_true rfl) hlk dX6_head_100 dX6_head_103 dX6_head_104 dX6_head_106 dX6_head_109
  · have hm18 := bq_t hm0 hc1; clear hm0
    cases hm18

def f_X6_sample_x1 (x1 : Int32) (x2 : Int32) (x3 : Int32) (o_hasPicture : Int32) : Option (Unit) :=
  (if o_hasPicture = (0 : Int32) then
  (some ())
  else
  (none))

abbrev rm_X6_sample_x1 : Room := { frames := 6, cells := 1, slots := 6, locals := 90 }

theorem hi_X6_sample_x1_6 : ∀ w ∈ u_ws RX6 TX6 12, w ∈ wsX6_sample := fun _ h => List.mem_cons_of_mem _ (List.mem_append_left _ (List.mem_append_left _ (List.mem_append_left _ (List.mem_append_right _ h))))

theorem xi_X6_sample_x1_64 : ∀ w ∈ (vx_atS RX6 64 ISE NMS).filter goodWord, w ∈ wsX6_sample := fun _ h => List.mem_cons_of_mem _ (List.mem_append_left _ (List.mem_append_right _ h))

set_option maxHeartbeats 40000000 in
set_option maxRecDepth 100000 in
theorem c_X6_sample_x1 (l : Launch) (D : va_G) (cB cI cJ cQ : ClassId) (N : Nat) (hst : l.stackTraces = false) (r0 : Nat → Nat) (r1 : Nat → Nat) (r2 : Nat → Nat) (r3 : Nat → Nat) (r4 : Nat → Nat) (r5 : Nat → Nat) (r6 : Nat → Nat) (r7 : Nat → Nat) (r8 : Nat → Nat) (r9 : Nat → Nat) (sz : Nat) (x1 : Int32) (x2 : Int32) (x3 : Int32) (o_hasHeader : Int32) (o_hasPicture : Int32) (o_frameCount : Int32) (o : Unit) (hm0 : f_X6_sample_x1 x1 x2 x3 o_hasPicture = some o) : vx_Met l yX6_sample wsX6_sample rm_X6_sample_x1 (ctPX D cB cI cJ cQ N sz [.ref (r0 0), .int x1, .int x2, .int x3] (wf [oB (r0 0) 6 [.ref (r1 0), .ref (r2 0), .ref (r3 0), .ref (r4 0), .ref (r5 0), .ref (r6 0), .ref (r7 0), .ref (r8 0), .ref (r9 0), .int o_hasHeader, .int o_hasPicture, .int o_frameCount]] [])) (ctNi (va_A (wf [oB (r0 0) 6 [.ref (r1 0), .ref (r2 0), .ref (r3 0), .ref (r4 0), .ref (r5 0), .ref (r6 0), .ref (r7 0), .ref (r8 0), .ref (r9 0), .int o_hasHeader, .int o_hasPicture, .int o_frameCount]] []) sz)) (ctXC D ISE (wf [oB (r0 0) 6 [.ref (r1 0), .ref (r2 0), .ref (r3 0), .ref (r4 0), .ref (r5 0), .ref (r6 0), .ref (r7 0), .ref (r8 0), .ref (r9 0), .int o_hasHeader, .int o_hasPicture, .int o_frameCount]] []) (va_A (wf [oB (r0 0) 6 [.ref (r1 0), .ref (r2 0), .ref (r3 0), .ref (r4 0), .ref (r5 0), .ref (r6 0), .ref (r7 0), .ref (r8 0), .ref (r9 0), .int o_hasHeader, .int o_hasPicture, .int o_frameCount]] []) sz)) 1 6 (va_A (wf [oB (r0 0) 6 [.ref (r1 0), .ref (r2 0), .ref (r3 0), .ref (r4 0), .ref (r5 0), .ref (r6 0), .ref (r7 0), .ref (r8 0), .ref (r9 0), .int o_hasHeader, .int o_hasPicture, .int o_frameCount]] []) sz) := by
  refine ctx_of (y := yX6_sample) (av := [.ref (r0 0), .int x1, .int x2, .int x3]) (w0 := (wf [oB (r0 0) 6 [.ref (r1 0), .ref (r2 0), .ref (r3 0), .ref (r4 0), .ref (r5 0), .ref (r6 0), .ref (r7 0), .ref (r8 0), .ref (r9 0), .int o_hasHeader, .int o_hasPicture, .int o_frameCount]] [])) (cc := cX6_sample) (maxL := 4) (ret := (some .int)) (own := RX6) (Qp := ctNi) (XC := ctXC D ISE (wf [oB (r0 0) 6 [.ref (r1 0), .ref (r2 0), .ref (r3 0), .ref (r4 0), .ref (r5 0), .ref (r6 0), .ref (r7 0), .ref (r8 0), .ref (r9 0), .int o_hasHeader, .int o_hasPicture, .int o_frameCount]] [])) (mc := 1) (ms := 6) (by decide) rfl rfl (Nat.le_of_ble_eq_true rfl) ?_
  intro p e s m args below meth c A hx hb hr hml htab hown hts hlk hnm hsz E GX9 hP0 hD0 hS0 ls0 hl0
  subst hsz
  have hl0 : lv_has ls0 4 [(0, .ref (r0 0)), (1, .int x1), (2, .int x2), (3, .int x3)] := hl0
  obtain ⟨QQ, hQ⟩ : ∃ Q : State → Prop, Q = vx_MQ below (ctNi A) (ctXC D ISE (wf [oB (r0 0) 6 [.ref (r1 0), .ref (r2 0), .ref (r3 0), .ref (r4 0), .ref (r5 0), .ref (r6 0), .ref (r7 0), .ref (r8 0), .ref (r9 0), .int o_hasHeader, .int o_hasPicture, .int o_frameCount]] []) A) args s 1 6 A := ⟨_, rfl⟩
  rw [← hQ]
  unfold f_X6_sample_x1 at hm0
  refine lv_aload_n hx hb dX6_sample_0 rfl (lv_at hl0 0 rfl) ?_
  refine va_get (D := D) (ci := 6) (v := .int o_hasPicture) (C := RX6) (T := TX6) (N := 12) hx hb hts hi_X6_sample_x1_6 hown E.1 hP0 0 rfl rfl 10 (by decide) (hts _ (List.mem_of_getElem? (i := 5) rfl)) (fun _ h9 => h9) rfl dX6_sample_1 ?_
  refine lv_if_ne (tgt := 17) hx hb dX6_sample_4 (by decide) (fun hc1 => ?_) (fun hc1 => ?_)
  · have hm2 := bq_f hm0 hc1; clear hm0
    cases hm2
  · have hm3 := bq_t hm0 hc1; clear hm0
    obtain ⟨sa9, hstr9⟩ := GX9.2.2.2.2.1
    rw [hQ]
    exact ct_throw (cls := ISE) (Ts := wsX6_sample) (ik := 60) (is := 135) (ic := 64) hst hx hb hown (by decide +kernel) (hts _ (List.mem_of_getElem? (i := 1) rfl)) (hts _ (List.mem_of_getElem? (i := 2) rfl)) hstr9 hts xi_X6_sample_x1_64 xw_ISE (GX9.2.2.2.2.2.2.2.2.2.2.1) (GX9.2.2.2.2.2.2.2.2.2.2.2.2.2.2.2.2.1) (GX9.2.2.2.2.2.2.2.2.2.2.2.2.2.2.2.2.2.1) (GX9.2.2.2.2.2.2.2.2.2.2.2.2.2.2.2.2.2.2) xg_ISE E (GX9.2.2.2.2.2.2.2.2.1) (GX9.2.2.2.2.2.2.2.2.2.1) hP0 hD0 hS0 (hl0.1.trans hml.symm) htab (Nat.le_of_ble_eq_true rfl) (Nat.le_of_ble_eq_true rfl) (Nat.le_of_ble_eq_true rfl) (Nat.le_of_ble_eq_true rfl) hlk dX6_sample_7 dX6_sample_10 dX6_sample_11 dX6_sample_13 dX6_sample_16

def f_X6_sample_x2 (x1 : Int32) (x2 : Int32) (x3 : Int32) (o_hasPicture : Int32) (p7_width : Int32) (p7_height : Int32) : Option (Unit) :=
  (if o_hasPicture = (0 : Int32) then
  (none)
  else
  (bd1 (f_X3_has x1 x2 p7_width p7_height) fun y_3 =>
  (if y_3 = (0 : Int32) then
  (some ())
  else
  (none))))

abbrev rm_X6_sample_x2 : Room := { frames := 6, cells := 1, slots := 6, locals := 90 }

theorem hi_X6_sample_x2_6 : ∀ w ∈ u_ws RX6 TX6 12, w ∈ wsX6_sample := fun _ h => List.mem_cons_of_mem _ (List.mem_append_left _ (List.mem_append_left _ (List.mem_append_left _ (List.mem_append_right _ h))))

theorem xi_X6_sample_x2_145 : ∀ w ∈ (vx_atS RX6 145 IOB NMS).filter goodWord, w ∈ wsX6_sample := fun _ h => List.mem_cons_of_mem _ (List.mem_append_right _ h)

set_option maxHeartbeats 40000000 in
set_option maxRecDepth 100000 in
theorem c_X6_sample_x2 (l : Launch) (D : va_G) (cB cI cJ cQ : ClassId) (N : Nat) (hst : l.stackTraces = false) (r0 : Nat → Nat) (r1 : Nat → Nat) (r2 : Nat → Nat) (r3 : Nat → Nat) (r4 : Nat → Nat) (r5 : Nat → Nat) (r6 : Nat → Nat) (r7 : Nat → Nat) (r8 : Nat → Nat) (r9 : Nat → Nat) (sz : Nat) (x1 : Int32) (x2 : Int32) (x3 : Int32) (o_hasHeader : Int32) (o_hasPicture : Int32) (o_frameCount : Int32) (p7_width : Int32) (p7_height : Int32) (o : Unit) (hm0 : f_X6_sample_x2 x1 x2 x3 o_hasPicture p7_width p7_height = some o) : vx_Met l yX6_sample wsX6_sample rm_X6_sample_x2 (ctPX D cB cI cJ cQ N sz [.ref (r0 0), .int x1, .int x2, .int x3] (wf [oB (r0 0) 6 [.ref (r1 0), .ref (r2 0), .ref (r3 0), .ref (r4 0), .ref (r5 0), .ref (r6 0), .ref (r7 0), .ref (r8 0), .ref (r9 0), .int o_hasHeader, .int o_hasPicture, .int o_frameCount], oB (r7 0) 3 [.ref (r7 1), .int p7_width, .int p7_height]] [])) (ctNi (va_A (wf [oB (r0 0) 6 [.ref (r1 0), .ref (r2 0), .ref (r3 0), .ref (r4 0), .ref (r5 0), .ref (r6 0), .ref (r7 0), .ref (r8 0), .ref (r9 0), .int o_hasHeader, .int o_hasPicture, .int o_frameCount], oB (r7 0) 3 [.ref (r7 1), .int p7_width, .int p7_height]] []) sz)) (ctXC D IOB (wf [oB (r0 0) 6 [.ref (r1 0), .ref (r2 0), .ref (r3 0), .ref (r4 0), .ref (r5 0), .ref (r6 0), .ref (r7 0), .ref (r8 0), .ref (r9 0), .int o_hasHeader, .int o_hasPicture, .int o_frameCount], oB (r7 0) 3 [.ref (r7 1), .int p7_width, .int p7_height]] []) (va_A (wf [oB (r0 0) 6 [.ref (r1 0), .ref (r2 0), .ref (r3 0), .ref (r4 0), .ref (r5 0), .ref (r6 0), .ref (r7 0), .ref (r8 0), .ref (r9 0), .int o_hasHeader, .int o_hasPicture, .int o_frameCount], oB (r7 0) 3 [.ref (r7 1), .int p7_width, .int p7_height]] []) sz)) 1 6 (va_A (wf [oB (r0 0) 6 [.ref (r1 0), .ref (r2 0), .ref (r3 0), .ref (r4 0), .ref (r5 0), .ref (r6 0), .ref (r7 0), .ref (r8 0), .ref (r9 0), .int o_hasHeader, .int o_hasPicture, .int o_frameCount], oB (r7 0) 3 [.ref (r7 1), .int p7_width, .int p7_height]] []) sz) := by
  refine ctx_of (y := yX6_sample) (av := [.ref (r0 0), .int x1, .int x2, .int x3]) (w0 := (wf [oB (r0 0) 6 [.ref (r1 0), .ref (r2 0), .ref (r3 0), .ref (r4 0), .ref (r5 0), .ref (r6 0), .ref (r7 0), .ref (r8 0), .ref (r9 0), .int o_hasHeader, .int o_hasPicture, .int o_frameCount], oB (r7 0) 3 [.ref (r7 1), .int p7_width, .int p7_height]] [])) (cc := cX6_sample) (maxL := 4) (ret := (some .int)) (own := RX6) (Qp := ctNi) (XC := ctXC D IOB (wf [oB (r0 0) 6 [.ref (r1 0), .ref (r2 0), .ref (r3 0), .ref (r4 0), .ref (r5 0), .ref (r6 0), .ref (r7 0), .ref (r8 0), .ref (r9 0), .int o_hasHeader, .int o_hasPicture, .int o_frameCount], oB (r7 0) 3 [.ref (r7 1), .int p7_width, .int p7_height]] [])) (mc := 1) (ms := 6) (by decide) rfl rfl (Nat.le_of_ble_eq_true rfl) ?_
  intro p e s m args below meth c A hx hb hr hml htab hown hts hlk hnm hsz E GX9 hP0 hD0 hS0 ls0 hl0
  subst hsz
  have hl0 : lv_has ls0 4 [(0, .ref (r0 0)), (1, .int x1), (2, .int x2), (3, .int x3)] := hl0
  obtain ⟨QQ, hQ⟩ : ∃ Q : State → Prop, Q = vx_MQ below (ctNi A) (ctXC D IOB (wf [oB (r0 0) 6 [.ref (r1 0), .ref (r2 0), .ref (r3 0), .ref (r4 0), .ref (r5 0), .ref (r6 0), .ref (r7 0), .ref (r8 0), .ref (r9 0), .int o_hasHeader, .int o_hasPicture, .int o_frameCount], oB (r7 0) 3 [.ref (r7 1), .int p7_width, .int p7_height]] []) A) args s 1 6 A := ⟨_, rfl⟩
  rw [← hQ]
  unfold f_X6_sample_x2 at hm0
  refine lv_aload_n hx hb dX6_sample_0 rfl (lv_at hl0 0 rfl) ?_
  refine va_get (D := D) (ci := 6) (v := .int o_hasPicture) (C := RX6) (T := TX6) (N := 12) hx hb hts hi_X6_sample_x2_6 hown E.1 hP0 0 rfl rfl 10 (by decide) (hts _ (List.mem_of_getElem? (i := 5) rfl)) (fun _ h9 => h9) rfl dX6_sample_1 ?_
  refine lv_if_ne (tgt := 17) hx hb dX6_sample_4 (by decide) (fun hc1 => ?_) (fun hc1 => ?_)
  · have hm2 := bq_f hm0 hc1; clear hm0
    refine lv_aload_n hx hb dX6_sample_17 rfl (lv_at hl0 0 rfl) ?_
    refine va_get (D := D) (ci := 6) (v := .ref (r7 0)) (C := RX6) (T := TX6) (N := 12) hx hb hts hi_X6_sample_x2_6 hown E.1 hP0 0 rfl rfl 6 (by decide) (hts _ (List.mem_of_getElem? (i := 6) rfl)) (fun _ h9 => h9) rfl dX6_sample_18 ?_
    refine lv_iload_n hx hb dX6_sample_21 rfl (lv_at hl0 1 rfl) ?_
    refine lv_iload_n hx hb dX6_sample_22 rfl (lv_at hl0 2 rfl) ?_
    obtain ⟨y_3, hcl4, hm4⟩ := bd1_some hm2; clear hm2
    have sb5 := ctS.mk (n := 2) (k := 0) (pre := [oB (r0 0) 6 [.ref (r1 0), .ref (r2 0), .ref (r3 0), .ref (r4 0), .ref (r5 0), .ref (r6 0), .ref (r7 0), .ref (r8 0), .ref (r9 0), .int o_hasHeader, .int o_hasPicture, .int o_frameCount], oB (r7 0) 3 [.ref (r7 1), .int p7_width, .int p7_height]]) (tl := []) [1] [0] [] [] rfl rfl (by decide +kernel) (by decide +kernel)
    refine ct_calli (r := y_3) E sb5 hP0 hD0 hS0 (va_runV (As := [.int x1, .int x2]) (rest := []) ⟨hx, hb, hml, hown, hts⟩ (c_X3_has l D cB cI cJ cQ N r7 s.heap.size x1 x2 p7_width p7_height (y_3) hcl4) (cwV 2 hts gX6_sample_X3_has rfl rfl rfl cdV_X3_has ⟨Nat.le_of_ble_eq_true rfl, Nat.le_of_ble_eq_true rfl⟩) (ct_preV (q0 := 1) (ci := 3) E sb5 hP0 hD0 hS0 rfl rfl) rfl rfl hl0.1 rfl (lv_room (Nat.le_of_ble_eq_true rfl)) dX6_sample_23 ⟨Nat.zero_le _, Nat.zero_le _⟩) (fun H6 lc6 hP6 hD6 hS6 => ?_); clear sb5 hcl4
    clear hP0 hD0 hS0
    have hP6 : va_P D vwCl (wf [oB (r0 0) 6 [.ref (r1 0), .ref (r2 0), .ref (r3 0), .ref (r4 0), .ref (r5 0), .ref (r6 0), .ref (r7 0), .ref (r8 0), .ref (r9 0), .int o_hasHeader, .int o_hasPicture, .int o_frameCount], oB (r7 0) 3 [.ref (r7 1), .int p7_width, .int p7_height]] []) H6 := hP6
    have hD6 : va_D A (wf [oB (r0 0) 6 [.ref (r1 0), .ref (r2 0), .ref (r3 0), .ref (r4 0), .ref (r5 0), .ref (r6 0), .ref (r7 0), .ref (r8 0), .ref (r9 0), .int o_hasHeader, .int o_hasPicture, .int o_frameCount], oB (r7 0) 3 [.ref (r7 1), .int p7_width, .int p7_height]] []) := hD6
    refine lv_if_ne (tgt := 39) hx hb dX6_sample_26 (by decide) (fun hc7 => ?_) (fun hc7 => ?_)
    · have hm8 := bq_f hm4 hc7; clear hm4
      cases hm8
    · have hm9 := bq_t hm4 hc7; clear hm4
      obtain ⟨sa9, hstr9⟩ := GX9.2.2.2.2.2.1
      rw [hQ]
      exact ct_throw (cls := IOB) (Ts := wsX6_sample) (ik := 141) (is := 143) (ic := 145) hst hx hb hown (by decide +kernel) (hts _ (List.mem_of_getElem? (i := 3) rfl)) (hts _ (List.mem_of_getElem? (i := 4) rfl)) hstr9 hts xi_X6_sample_x2_145 xw_IOB (GX9.2.2.2.2.2.2.2.2.2.2.2.2.1) (GX9.2.2.2.2.2.2.2.2.2.2.2.2.2.2.2.2.1) (GX9.2.2.2.2.2.2.2.2.2.2.2.2.2.2.2.2.2.1) (GX9.2.2.2.2.2.2.2.2.2.2.2.2.2.2.2.2.2.2) xg_IOB E (GX9.2.2.2.2.2.2.2.2.1) (GX9.2.2.2.2.2.2.2.2.2.1) hP6 hD6 hS6 (hl0.1.trans hml.symm) htab (Nat.le_of_ble_eq_true rfl) (Nat.le_of_ble_eq_true rfl) (Nat.le_of_ble_eq_true rfl) (Nat.le_of_ble_eq_true rfl) hlk dX6_sample_29 dX6_sample_32 dX6_sample_33 dX6_sample_35 dX6_sample_38
  · have hm10 := bq_t hm0 hc1; clear hm0
    cases hm10

def f_X6_block_x1 (x1 : Int32) (x2 : Int32) (x3 : Int32) (o_hasPicture : Int32) : Option (Unit) :=
  (if o_hasPicture = (0 : Int32) then
  (some ())
  else
  (none))

abbrev rm_X6_block_x1 : Room := { frames := 6, cells := 1, slots := 6, locals := 90 }

theorem hi_X6_block_x1_6 : ∀ w ∈ u_ws RX6 TX6 12, w ∈ wsX6_block := fun _ h => List.mem_cons_of_mem _ (List.mem_append_left _ (List.mem_append_left _ (List.mem_append_left _ (List.mem_append_left _ (List.mem_append_right _ h)))))

theorem xi_X6_block_x1_64 : ∀ w ∈ (vx_atS RX6 64 ISE NMS).filter goodWord, w ∈ wsX6_block := fun _ h => List.mem_cons_of_mem _ (List.mem_append_left _ (List.mem_append_left _ (List.mem_append_right _ h)))

set_option maxHeartbeats 40000000 in
set_option maxRecDepth 100000 in
theorem c_X6_block_x1 (l : Launch) (D : va_G) (cB cI cJ cQ : ClassId) (N : Nat) (hst : l.stackTraces = false) (r0 : Nat → Nat) (r1 : Nat → Nat) (r2 : Nat → Nat) (r3 : Nat → Nat) (r4 : Nat → Nat) (r5 : Nat → Nat) (r6 : Nat → Nat) (r7 : Nat → Nat) (r8 : Nat → Nat) (r9 : Nat → Nat) (sz : Nat) (x1 : Int32) (x2 : Int32) (x3 : Int32) (o_hasHeader : Int32) (o_hasPicture : Int32) (o_frameCount : Int32) (o : Unit) (hm0 : f_X6_block_x1 x1 x2 x3 o_hasPicture = some o) : vx_Met l yX6_block wsX6_block rm_X6_block_x1 (ctPX D cB cI cJ cQ N sz [.ref (r0 0), .int x1, .int x2, .int x3] (wf [oB (r0 0) 6 [.ref (r1 0), .ref (r2 0), .ref (r3 0), .ref (r4 0), .ref (r5 0), .ref (r6 0), .ref (r7 0), .ref (r8 0), .ref (r9 0), .int o_hasHeader, .int o_hasPicture, .int o_frameCount]] [])) (ctNi (va_A (wf [oB (r0 0) 6 [.ref (r1 0), .ref (r2 0), .ref (r3 0), .ref (r4 0), .ref (r5 0), .ref (r6 0), .ref (r7 0), .ref (r8 0), .ref (r9 0), .int o_hasHeader, .int o_hasPicture, .int o_frameCount]] []) sz)) (ctXC D ISE (wf [oB (r0 0) 6 [.ref (r1 0), .ref (r2 0), .ref (r3 0), .ref (r4 0), .ref (r5 0), .ref (r6 0), .ref (r7 0), .ref (r8 0), .ref (r9 0), .int o_hasHeader, .int o_hasPicture, .int o_frameCount]] []) (va_A (wf [oB (r0 0) 6 [.ref (r1 0), .ref (r2 0), .ref (r3 0), .ref (r4 0), .ref (r5 0), .ref (r6 0), .ref (r7 0), .ref (r8 0), .ref (r9 0), .int o_hasHeader, .int o_hasPicture, .int o_frameCount]] []) sz)) 1 6 (va_A (wf [oB (r0 0) 6 [.ref (r1 0), .ref (r2 0), .ref (r3 0), .ref (r4 0), .ref (r5 0), .ref (r6 0), .ref (r7 0), .ref (r8 0), .ref (r9 0), .int o_hasHeader, .int o_hasPicture, .int o_frameCount]] []) sz) := by
  refine ctx_of (y := yX6_block) (av := [.ref (r0 0), .int x1, .int x2, .int x3]) (w0 := (wf [oB (r0 0) 6 [.ref (r1 0), .ref (r2 0), .ref (r3 0), .ref (r4 0), .ref (r5 0), .ref (r6 0), .ref (r7 0), .ref (r8 0), .ref (r9 0), .int o_hasHeader, .int o_hasPicture, .int o_frameCount]] [])) (cc := cX6_block) (maxL := 5) (ret := (some .int)) (own := RX6) (Qp := ctNi) (XC := ctXC D ISE (wf [oB (r0 0) 6 [.ref (r1 0), .ref (r2 0), .ref (r3 0), .ref (r4 0), .ref (r5 0), .ref (r6 0), .ref (r7 0), .ref (r8 0), .ref (r9 0), .int o_hasHeader, .int o_hasPicture, .int o_frameCount]] [])) (mc := 1) (ms := 6) (by decide) rfl rfl (Nat.le_of_ble_eq_true rfl) ?_
  intro p e s m args below meth c A hx hb hr hml htab hown hts hlk hnm hsz E GX9 hP0 hD0 hS0 ls0 hl0
  subst hsz
  have hl0 : lv_has ls0 5 [(0, .ref (r0 0)), (1, .int x1), (2, .int x2), (3, .int x3)] := hl0
  obtain ⟨QQ, hQ⟩ : ∃ Q : State → Prop, Q = vx_MQ below (ctNi A) (ctXC D ISE (wf [oB (r0 0) 6 [.ref (r1 0), .ref (r2 0), .ref (r3 0), .ref (r4 0), .ref (r5 0), .ref (r6 0), .ref (r7 0), .ref (r8 0), .ref (r9 0), .int o_hasHeader, .int o_hasPicture, .int o_frameCount]] []) A) args s 1 6 A := ⟨_, rfl⟩
  rw [← hQ]
  unfold f_X6_block_x1 at hm0
  refine lv_aload_n hx hb dX6_block_0 rfl (lv_at hl0 0 rfl) ?_
  refine va_get (D := D) (ci := 6) (v := .int o_hasPicture) (C := RX6) (T := TX6) (N := 12) hx hb hts hi_X6_block_x1_6 hown E.1 hP0 0 rfl rfl 10 (by decide) (hts _ (List.mem_of_getElem? (i := 7) rfl)) (fun _ h9 => h9) rfl dX6_block_1 ?_
  refine lv_if_ne (tgt := 17) hx hb dX6_block_4 (by decide) (fun hc1 => ?_) (fun hc1 => ?_)
  · have hm2 := bq_f hm0 hc1; clear hm0
    cases hm2
  · have hm3 := bq_t hm0 hc1; clear hm0
    obtain ⟨sa9, hstr9⟩ := GX9.2.2.2.2.1
    rw [hQ]
    exact ct_throw (cls := ISE) (Ts := wsX6_block) (ik := 60) (is := 135) (ic := 64) hst hx hb hown (by decide +kernel) (hts _ (List.mem_of_getElem? (i := 1) rfl)) (hts _ (List.mem_of_getElem? (i := 2) rfl)) hstr9 hts xi_X6_block_x1_64 xw_ISE (GX9.2.2.2.2.2.2.2.2.2.2.1) (GX9.2.2.2.2.2.2.2.2.2.2.2.2.2.2.2.2.1) (GX9.2.2.2.2.2.2.2.2.2.2.2.2.2.2.2.2.2.1) (GX9.2.2.2.2.2.2.2.2.2.2.2.2.2.2.2.2.2.2) xg_ISE E (GX9.2.2.2.2.2.2.2.2.1) (GX9.2.2.2.2.2.2.2.2.2.1) hP0 hD0 hS0 (hl0.1.trans hml.symm) htab (Nat.le_of_ble_eq_true rfl) (Nat.le_of_ble_eq_true rfl) (Nat.le_of_ble_eq_true rfl) (Nat.le_of_ble_eq_true rfl) hlk dX6_block_7 dX6_block_10 dX6_block_11 dX6_block_13 dX6_block_16

def f_X6_block_x2 (x1 : Int32) (x2 : Int32) (x3 : Int32) (o_hasPicture : Int32) (f5_columns : Int32) (f5_rows : Int32) : Option (Unit) :=
  (if o_hasPicture = (0 : Int32) then
  (none)
  else
  (bd1 (f_X0_has x1 x2 f5_columns f5_rows) fun y_3 =>
  (if y_3 = (0 : Int32) then
  (some ())
  else
  (none))))

abbrev rm_X6_block_x2 : Room := { frames := 6, cells := 1, slots := 6, locals := 90 }

theorem hi_X6_block_x2_6 : ∀ w ∈ u_ws RX6 TX6 12, w ∈ wsX6_block := fun _ h => List.mem_cons_of_mem _ (List.mem_append_left _ (List.mem_append_left _ (List.mem_append_left _ (List.mem_append_left _ (List.mem_append_right _ h)))))

theorem xi_X6_block_x2_145 : ∀ w ∈ (vx_atS RX6 145 IOB NMS).filter goodWord, w ∈ wsX6_block := fun _ h => List.mem_cons_of_mem _ (List.mem_append_left _ (List.mem_append_right _ h))

set_option maxHeartbeats 40000000 in
set_option maxRecDepth 100000 in
theorem c_X6_block_x2 (l : Launch) (D : va_G) (cB cI cJ cQ : ClassId) (N : Nat) (hst : l.stackTraces = false) (r0 : Nat → Nat) (r1 : Nat → Nat) (r2 : Nat → Nat) (r3 : Nat → Nat) (r4 : Nat → Nat) (r5 : Nat → Nat) (r6 : Nat → Nat) (r7 : Nat → Nat) (r8 : Nat → Nat) (r9 : Nat → Nat) (sz : Nat) (x1 : Int32) (x2 : Int32) (x3 : Int32) (o_hasHeader : Int32) (o_hasPicture : Int32) (o_frameCount : Int32) (f5_columns : Int32) (f5_rows : Int32) (f5_scale : Int32) (f5_toEnd : Int32) (f5_between : Int32) (f5_kept : Int32) (o : Unit) (hm0 : f_X6_block_x2 x1 x2 x3 o_hasPicture f5_columns f5_rows = some o) : vx_Met l yX6_block wsX6_block rm_X6_block_x2 (ctPX D cB cI cJ cQ N sz [.ref (r0 0), .int x1, .int x2, .int x3] (wf [oB (r0 0) 6 [.ref (r1 0), .ref (r2 0), .ref (r3 0), .ref (r4 0), .ref (r5 0), .ref (r6 0), .ref (r7 0), .ref (r8 0), .ref (r9 0), .int o_hasHeader, .int o_hasPicture, .int o_frameCount], oB (r5 0) 0 [.ref (r5 1), .ref (r5 2), .ref (r5 3), .ref (r5 4), .ref (r5 5), .ref (r5 6), .int f5_columns, .int f5_rows, .int f5_scale, .int f5_toEnd, .int f5_between, .int f5_kept]] [])) (ctNi (va_A (wf [oB (r0 0) 6 [.ref (r1 0), .ref (r2 0), .ref (r3 0), .ref (r4 0), .ref (r5 0), .ref (r6 0), .ref (r7 0), .ref (r8 0), .ref (r9 0), .int o_hasHeader, .int o_hasPicture, .int o_frameCount], oB (r5 0) 0 [.ref (r5 1), .ref (r5 2), .ref (r5 3), .ref (r5 4), .ref (r5 5), .ref (r5 6), .int f5_columns, .int f5_rows, .int f5_scale, .int f5_toEnd, .int f5_between, .int f5_kept]] []) sz)) (ctXC D IOB (wf [oB (r0 0) 6 [.ref (r1 0), .ref (r2 0), .ref (r3 0), .ref (r4 0), .ref (r5 0), .ref (r6 0), .ref (r7 0), .ref (r8 0), .ref (r9 0), .int o_hasHeader, .int o_hasPicture, .int o_frameCount], oB (r5 0) 0 [.ref (r5 1), .ref (r5 2), .ref (r5 3), .ref (r5 4), .ref (r5 5), .ref (r5 6), .int f5_columns, .int f5_rows, .int f5_scale, .int f5_toEnd, .int f5_between, .int f5_kept]] []) (va_A (wf [oB (r0 0) 6 [.ref (r1 0), .ref (r2 0), .ref (r3 0), .ref (r4 0), .ref (r5 0), .ref (r6 0), .ref (r7 0), .ref (r8 0), .ref (r9 0), .int o_hasHeader, .int o_hasPicture, .int o_frameCount], oB (r5 0) 0 [.ref (r5 1), .ref (r5 2), .ref (r5 3), .ref (r5 4), .ref (r5 5), .ref (r5 6), .int f5_columns, .int f5_rows, .int f5_scale, .int f5_toEnd, .int f5_between, .int f5_kept]] []) sz)) 1 6 (va_A (wf [oB (r0 0) 6 [.ref (r1 0), .ref (r2 0), .ref (r3 0), .ref (r4 0), .ref (r5 0), .ref (r6 0), .ref (r7 0), .ref (r8 0), .ref (r9 0), .int o_hasHeader, .int o_hasPicture, .int o_frameCount], oB (r5 0) 0 [.ref (r5 1), .ref (r5 2), .ref (r5 3), .ref (r5 4), .ref (r5 5), .ref (r5 6), .int f5_columns, .int f5_rows, .int f5_scale, .int f5_toEnd, .int f5_between, .int f5_kept]] []) sz) := by
  refine ctx_of (y := yX6_block) (av := [.ref (r0 0), .int x1, .int x2, .int x3]) (w0 := (wf [oB (r0 0) 6 [.ref (r1 0), .ref (r2 0), .ref (r3 0), .ref (r4 0), .ref (r5 0), .ref (r6 0), .ref (r7 0), .ref (r8 0), .ref (r9 0), .int o_hasHeader, .int o_hasPicture, .int o_frameCount], oB (r5 0) 0 [.ref (r5 1), .ref (r5 2), .ref (r5 3), .ref (r5 4), .ref (r5 5), .ref (r5 6), .int f5_columns, .int f5_rows, .int f5_scale, .int f5_toEnd, .int f5_between, .int f5_kept]] [])) (cc := cX6_block) (maxL := 5) (ret := (some .int)) (own := RX6) (Qp := ctNi) (XC := ctXC D IOB (wf [oB (r0 0) 6 [.ref (r1 0), .ref (r2 0), .ref (r3 0), .ref (r4 0), .ref (r5 0), .ref (r6 0), .ref (r7 0), .ref (r8 0), .ref (r9 0), .int o_hasHeader, .int o_hasPicture, .int o_frameCount], oB (r5 0) 0 [.ref (r5 1), .ref (r5 2), .ref (r5 3), .ref (r5 4), .ref (r5 5), .ref (r5 6), .int f5_columns, .int f5_rows, .int f5_scale, .int f5_toEnd, .int f5_between, .int f5_kept]] [])) (mc := 1) (ms := 6) (by decide) rfl rfl (Nat.le_of_ble_eq_true rfl) ?_
  intro p e s m args below meth c A hx hb hr hml htab hown hts hlk hnm hsz E GX9 hP0 hD0 hS0 ls0 hl0
  subst hsz
  have hl0 : lv_has ls0 5 [(0, .ref (r0 0)), (1, .int x1), (2, .int x2), (3, .int x3)] := hl0
  obtain ⟨QQ, hQ⟩ : ∃ Q : State → Prop, Q = vx_MQ below (ctNi A) (ctXC D IOB (wf [oB (r0 0) 6 [.ref (r1 0), .ref (r2 0), .ref (r3 0), .ref (r4 0), .ref (r5 0), .ref (r6 0), .ref (r7 0), .ref (r8 0), .ref (r9 0), .int o_hasHeader, .int o_hasPicture, .int o_frameCount], oB (r5 0) 0 [.ref (r5 1), .ref (r5 2), .ref (r5 3), .ref (r5 4), .ref (r5 5), .ref (r5 6), .int f5_columns, .int f5_rows, .int f5_scale, .int f5_toEnd, .int f5_between, .int f5_kept]] []) A) args s 1 6 A := ⟨_, rfl⟩
  rw [← hQ]
  unfold f_X6_block_x2 at hm0
  refine lv_aload_n hx hb dX6_block_0 rfl (lv_at hl0 0 rfl) ?_
  refine va_get (D := D) (ci := 6) (v := .int o_hasPicture) (C := RX6) (T := TX6) (N := 12) hx hb hts hi_X6_block_x2_6 hown E.1 hP0 0 rfl rfl 10 (by decide) (hts _ (List.mem_of_getElem? (i := 7) rfl)) (fun _ h9 => h9) rfl dX6_block_1 ?_
  refine lv_if_ne (tgt := 17) hx hb dX6_block_4 (by decide) (fun hc1 => ?_) (fun hc1 => ?_)
  · have hm2 := bq_f hm0 hc1; clear hm0
    refine lv_aload_n hx hb dX6_block_17 rfl (lv_at hl0 0 rfl) ?_
    refine va_get (D := D) (ci := 6) (v := .ref (r5 0)) (C := RX6) (T := TX6) (N := 12) hx hb hts hi_X6_block_x2_6 hown E.1 hP0 0 rfl rfl 4 (by decide) (hts _ (List.mem_of_getElem? (i := 8) rfl)) (fun _ h9 => h9) rfl dX6_block_18 ?_
    refine lv_iload_n hx hb dX6_block_21 rfl (lv_at hl0 1 rfl) ?_
    refine lv_iload_n hx hb dX6_block_22 rfl (lv_at hl0 2 rfl) ?_
    obtain ⟨y_3, hcl4, hm4⟩ := bd1_some hm2; clear hm2
    have sb5 := ctS.mk (n := 2) (k := 0) (pre := [oB (r0 0) 6 [.ref (r1 0), .ref (r2 0), .ref (r3 0), .ref (r4 0), .ref (r5 0), .ref (r6 0), .ref (r7 0), .ref (r8 0), .ref (r9 0), .int o_hasHeader, .int o_hasPicture, .int o_frameCount], oB (r5 0) 0 [.ref (r5 1), .ref (r5 2), .ref (r5 3), .ref (r5 4), .ref (r5 5), .ref (r5 6), .int f5_columns, .int f5_rows, .int f5_scale, .int f5_toEnd, .int f5_between, .int f5_kept]]) (tl := []) [1] [0] [] [] rfl rfl (by decide +kernel) (by decide +kernel)
    refine ct_calli (r := y_3) E sb5 hP0 hD0 hS0 (va_runV (As := [.int x1, .int x2]) (rest := []) ⟨hx, hb, hml, hown, hts⟩ (c_X0_has l D cB cI cJ cQ N r5 s.heap.size x1 x2 f5_columns f5_rows f5_scale f5_toEnd f5_between f5_kept (y_3) hcl4) (cwV 2 hts gX6_block_X0_has rfl rfl rfl cdV_X0_has ⟨Nat.le_of_ble_eq_true rfl, Nat.le_of_ble_eq_true rfl⟩) (ct_preV (q0 := 1) (ci := 0) E sb5 hP0 hD0 hS0 rfl rfl) rfl rfl hl0.1 rfl (lv_room (Nat.le_of_ble_eq_true rfl)) dX6_block_23 ⟨Nat.zero_le _, Nat.zero_le _⟩) (fun H6 lc6 hP6 hD6 hS6 => ?_); clear sb5 hcl4
    clear hP0 hD0 hS0
    have hP6 : va_P D vwCl (wf [oB (r0 0) 6 [.ref (r1 0), .ref (r2 0), .ref (r3 0), .ref (r4 0), .ref (r5 0), .ref (r6 0), .ref (r7 0), .ref (r8 0), .ref (r9 0), .int o_hasHeader, .int o_hasPicture, .int o_frameCount], oB (r5 0) 0 [.ref (r5 1), .ref (r5 2), .ref (r5 3), .ref (r5 4), .ref (r5 5), .ref (r5 6), .int f5_columns, .int f5_rows, .int f5_scale, .int f5_toEnd, .int f5_between, .int f5_kept]] []) H6 := hP6
    have hD6 : va_D A (wf [oB (r0 0) 6 [.ref (r1 0), .ref (r2 0), .ref (r3 0), .ref (r4 0), .ref (r5 0), .ref (r6 0), .ref (r7 0), .ref (r8 0), .ref (r9 0), .int o_hasHeader, .int o_hasPicture, .int o_frameCount], oB (r5 0) 0 [.ref (r5 1), .ref (r5 2), .ref (r5 3), .ref (r5 4), .ref (r5 5), .ref (r5 6), .int f5_columns, .int f5_rows, .int f5_scale, .int f5_toEnd, .int f5_between, .int f5_kept]] []) := hD6
    refine lv_if_ne (tgt := 39) hx hb dX6_block_26 (by decide) (fun hc7 => ?_) (fun hc7 => ?_)
    · have hm8 := bq_f hm4 hc7; clear hm4
      cases hm8
    · have hm9 := bq_t hm4 hc7; clear hm4
      obtain ⟨sa9, hstr9⟩ := GX9.2.2.2.2.2.2.1
      rw [hQ]
      exact ct_throw (cls := IOB) (Ts := wsX6_block) (ik := 141) (is := 151) (ic := 145) hst hx hb hown (by decide +kernel) (hts _ (List.mem_of_getElem? (i := 3) rfl)) (hts _ (List.mem_of_getElem? (i := 4) rfl)) hstr9 hts xi_X6_block_x2_145 xw_IOB (GX9.2.2.2.2.2.2.2.2.2.2.2.2.1) (GX9.2.2.2.2.2.2.2.2.2.2.2.2.2.2.2.2.1) (GX9.2.2.2.2.2.2.2.2.2.2.2.2.2.2.2.2.2.1) (GX9.2.2.2.2.2.2.2.2.2.2.2.2.2.2.2.2.2.2) xg_IOB E (GX9.2.2.2.2.2.2.2.2.1) (GX9.2.2.2.2.2.2.2.2.2.1) hP6 hD6 hS6 (hl0.1.trans hml.symm) htab (Nat.le_of_ble_eq_true rfl) (Nat.le_of_ble_eq_true rfl) (Nat.le_of_ble_eq_true rfl) (Nat.le_of_ble_eq_true rfl) hlk dX6_block_29 dX6_block_32 dX6_block_33 dX6_block_35 dX6_block_38
  · have hm10 := bq_t hm0 hc1; clear hm0
    cases hm10

def f_X6_block_x3 (x1 : Int32) (x2 : Int32) (x3 : Int32) (o_hasPicture : Int32) (f5_columns : Int32) (f5_rows : Int32) : Option (Unit) :=
  (if o_hasPicture = (0 : Int32) then
  (none)
  else
  (bd1 (f_X0_has x1 x2 f5_columns f5_rows) fun y_3 =>
  (if y_3 = (0 : Int32) then
  (none)
  else
  (bd1 (f_X0_index x1 x2 f5_columns) fun y_9 =>
  (if x3 = (0 : Int32) then
  (none)
  else
  ((if x3 = (1 : Int32) then
  (none)
  else
  ((if x3 = (2 : Int32) then
  (none)
  else
  ((if x3 = (3 : Int32) then
  (none)
  else
  (some ()))))))))))))

abbrev rm_X6_block_x3 : Room := { frames := 6, cells := 1, slots := 6, locals := 90 }

theorem hi_X6_block_x3_6 : ∀ w ∈ u_ws RX6 TX6 12, w ∈ wsX6_block := fun _ h => List.mem_cons_of_mem _ (List.mem_append_left _ (List.mem_append_left _ (List.mem_append_left _ (List.mem_append_left _ (List.mem_append_right _ h)))))

theorem xi_X6_block_x3_75 : ∀ w ∈ (vx_atS RX6 75 IAE NMS).filter goodWord, w ∈ wsX6_block := fun _ h => List.mem_cons_of_mem _ (List.mem_append_right _ h)

set_option maxHeartbeats 40000000 in
set_option maxRecDepth 100000 in
theorem c_X6_block_x3 (l : Launch) (D : va_G) (cB cI cJ cQ : ClassId) (N : Nat) (hst : l.stackTraces = false) (r0 : Nat → Nat) (r1 : Nat → Nat) (r2 : Nat → Nat) (r3 : Nat → Nat) (r4 : Nat → Nat) (r5 : Nat → Nat) (r6 : Nat → Nat) (r7 : Nat → Nat) (r8 : Nat → Nat) (r9 : Nat → Nat) (sz : Nat) (x1 : Int32) (x2 : Int32) (x3 : Int32) (o_hasHeader : Int32) (o_hasPicture : Int32) (o_frameCount : Int32) (f5_columns : Int32) (f5_rows : Int32) (f5_scale : Int32) (f5_toEnd : Int32) (f5_between : Int32) (f5_kept : Int32) (o : Unit) (hm0 : f_X6_block_x3 x1 x2 x3 o_hasPicture f5_columns f5_rows = some o) : vx_Met l yX6_block wsX6_block rm_X6_block_x3 (ctPX D cB cI cJ cQ N sz [.ref (r0 0), .int x1, .int x2, .int x3] (wf [oB (r0 0) 6 [.ref (r1 0), .ref (r2 0), .ref (r3 0), .ref (r4 0), .ref (r5 0), .ref (r6 0), .ref (r7 0), .ref (r8 0), .ref (r9 0), .int o_hasHeader, .int o_hasPicture, .int o_frameCount], oB (r5 0) 0 [.ref (r5 1), .ref (r5 2), .ref (r5 3), .ref (r5 4), .ref (r5 5), .ref (r5 6), .int f5_columns, .int f5_rows, .int f5_scale, .int f5_toEnd, .int f5_between, .int f5_kept]] [])) (ctNi (va_A (wf [oB (r0 0) 6 [.ref (r1 0), .ref (r2 0), .ref (r3 0), .ref (r4 0), .ref (r5 0), .ref (r6 0), .ref (r7 0), .ref (r8 0), .ref (r9 0), .int o_hasHeader, .int o_hasPicture, .int o_frameCount], oB (r5 0) 0 [.ref (r5 1), .ref (r5 2), .ref (r5 3), .ref (r5 4), .ref (r5 5), .ref (r5 6), .int f5_columns, .int f5_rows, .int f5_scale, .int f5_toEnd, .int f5_between, .int f5_kept]] []) sz)) (ctXC D IAE (wf [oB (r0 0) 6 [.ref (r1 0), .ref (r2 0), .ref (r3 0), .ref (r4 0), .ref (r5 0), .ref (r6 0), .ref (r7 0), .ref (r8 0), .ref (r9 0), .int o_hasHeader, .int o_hasPicture, .int o_frameCount], oB (r5 0) 0 [.ref (r5 1), .ref (r5 2), .ref (r5 3), .ref (r5 4), .ref (r5 5), .ref (r5 6), .int f5_columns, .int f5_rows, .int f5_scale, .int f5_toEnd, .int f5_between, .int f5_kept]] []) (va_A (wf [oB (r0 0) 6 [.ref (r1 0), .ref (r2 0), .ref (r3 0), .ref (r4 0), .ref (r5 0), .ref (r6 0), .ref (r7 0), .ref (r8 0), .ref (r9 0), .int o_hasHeader, .int o_hasPicture, .int o_frameCount], oB (r5 0) 0 [.ref (r5 1), .ref (r5 2), .ref (r5 3), .ref (r5 4), .ref (r5 5), .ref (r5 6), .int f5_columns, .int f5_rows, .int f5_scale, .int f5_toEnd, .int f5_between, .int f5_kept]] []) sz)) 1 6 (va_A (wf [oB (r0 0) 6 [.ref (r1 0), .ref (r2 0), .ref (r3 0), .ref (r4 0), .ref (r5 0), .ref (r6 0), .ref (r7 0), .ref (r8 0), .ref (r9 0), .int o_hasHeader, .int o_hasPicture, .int o_frameCount], oB (r5 0) 0 [.ref (r5 1), .ref (r5 2), .ref (r5 3), .ref (r5 4), .ref (r5 5), .ref (r5 6), .int f5_columns, .int f5_rows, .int f5_scale, .int f5_toEnd, .int f5_between, .int f5_kept]] []) sz) := by
  refine ctx_of (y := yX6_block) (av := [.ref (r0 0), .int x1, .int x2, .int x3]) (w0 := (wf [oB (r0 0) 6 [.ref (r1 0), .ref (r2 0), .ref (r3 0), .ref (r4 0), .ref (r5 0), .ref (r6 0), .ref (r7 0), .ref (r8 0), .ref (r9 0), .int o_hasHeader, .int o_hasPicture, .int o_frameCount], oB (r5 0) 0 [.ref (r5 1), .ref (r5 2), .ref (r5 3), .ref (r5 4), .ref (r5 5), .ref (r5 6), .int f5_columns, .int f5_rows, .int f5_scale, .int f5_toEnd, .int f5_between, .int f5_kept]] [])) (cc := cX6_block) (maxL := 5) (ret := (some .int)) (own := RX6) (Qp := ctNi) (XC := ctXC D IAE (wf [oB (r0 0) 6 [.ref (r1 0), .ref (r2 0), .ref (r3 0), .ref (r4 0), .ref (r5 0), .ref (r6 0), .ref (r7 0), .ref (r8 0), .ref (r9 0), .int o_hasHeader, .int o_hasPicture, .int o_frameCount], oB (r5 0) 0 [.ref (r5 1), .ref (r5 2), .ref (r5 3), .ref (r5 4), .ref (r5 5), .ref (r5 6), .int f5_columns, .int f5_rows, .int f5_scale, .int f5_toEnd, .int f5_between, .int f5_kept]] [])) (mc := 1) (ms := 6) (by decide) rfl rfl (Nat.le_of_ble_eq_true rfl) ?_
  intro p e s m args below meth c A hx hb hr hml htab hown hts hlk hnm hsz E GX9 hP0 hD0 hS0 ls0 hl0
  subst hsz
  have hl0 : lv_has ls0 5 [(0, .ref (r0 0)), (1, .int x1), (2, .int x2), (3, .int x3)] := hl0
  obtain ⟨QQ, hQ⟩ : ∃ Q : State → Prop, Q = vx_MQ below (ctNi A) (ctXC D IAE (wf [oB (r0 0) 6 [.ref (r1 0), .ref (r2 0), .ref (r3 0), .ref (r4 0), .ref (r5 0), .ref (r6 0), .ref (r7 0), .ref (r8 0), .ref (r9 0), .int o_hasHeader, .int o_hasPicture, .int o_frameCount], oB (r5 0) 0 [.ref (r5 1), .ref (r5 2), .ref (r5 3), .ref (r5 4), .ref (r5 5), .ref (r5 6), .int f5_columns, .int f5_rows, .int f5_scale, .int f5_toEnd, .int f5_between, .int f5_kept]] []) A) args s 1 6 A := ⟨_, rfl⟩
  rw [← hQ]
  unfold f_X6_block_x3 at hm0
  refine lv_aload_n hx hb dX6_block_0 rfl (lv_at hl0 0 rfl) ?_
  refine va_get (D := D) (ci := 6) (v := .int o_hasPicture) (C := RX6) (T := TX6) (N := 12) hx hb hts hi_X6_block_x3_6 hown E.1 hP0 0 rfl rfl 10 (by decide) (hts _ (List.mem_of_getElem? (i := 7) rfl)) (fun _ h9 => h9) rfl dX6_block_1 ?_
  refine lv_if_ne (tgt := 17) hx hb dX6_block_4 (by decide) (fun hc1 => ?_) (fun hc1 => ?_)
  · have hm2 := bq_f hm0 hc1; clear hm0
    refine lv_aload_n hx hb dX6_block_17 rfl (lv_at hl0 0 rfl) ?_
    refine va_get (D := D) (ci := 6) (v := .ref (r5 0)) (C := RX6) (T := TX6) (N := 12) hx hb hts hi_X6_block_x3_6 hown E.1 hP0 0 rfl rfl 4 (by decide) (hts _ (List.mem_of_getElem? (i := 8) rfl)) (fun _ h9 => h9) rfl dX6_block_18 ?_
    refine lv_iload_n hx hb dX6_block_21 rfl (lv_at hl0 1 rfl) ?_
    refine lv_iload_n hx hb dX6_block_22 rfl (lv_at hl0 2 rfl) ?_
    obtain ⟨y_3, hcl4, hm4⟩ := bd1_some hm2; clear hm2
    have sb5 := ctS.mk (n := 2) (k := 0) (pre := [oB (r0 0) 6 [.ref (r1 0), .ref (r2 0), .ref (r3 0), .ref (r4 0), .ref (r5 0), .ref (r6 0), .ref (r7 0), .ref (r8 0), .ref (r9 0), .int o_hasHeader, .int o_hasPicture, .int o_frameCount], oB (r5 0) 0 [.ref (r5 1), .ref (r5 2), .ref (r5 3), .ref (r5 4), .ref (r5 5), .ref (r5 6), .int f5_columns, .int f5_rows, .int f5_scale, .int f5_toEnd, .int f5_between, .int f5_kept]]) (tl := []) [1] [0] [] [] rfl rfl (by decide +kernel) (by decide +kernel)
    refine ct_calli (r := y_3) E sb5 hP0 hD0 hS0 (va_runV (As := [.int x1, .int x2]) (rest := []) ⟨hx, hb, hml, hown, hts⟩ (c_X0_has l D cB cI cJ cQ N r5 s.heap.size x1 x2 f5_columns f5_rows f5_scale f5_toEnd f5_between f5_kept (y_3) hcl4) (cwV 2 hts gX6_block_X0_has rfl rfl rfl cdV_X0_has ⟨Nat.le_of_ble_eq_true rfl, Nat.le_of_ble_eq_true rfl⟩) (ct_preV (q0 := 1) (ci := 0) E sb5 hP0 hD0 hS0 rfl rfl) rfl rfl hl0.1 rfl (lv_room (Nat.le_of_ble_eq_true rfl)) dX6_block_23 ⟨Nat.zero_le _, Nat.zero_le _⟩) (fun H6 lc6 hP6 hD6 hS6 => ?_); clear sb5 hcl4
    clear hP0 hD0 hS0
    have hP6 : va_P D vwCl (wf [oB (r0 0) 6 [.ref (r1 0), .ref (r2 0), .ref (r3 0), .ref (r4 0), .ref (r5 0), .ref (r6 0), .ref (r7 0), .ref (r8 0), .ref (r9 0), .int o_hasHeader, .int o_hasPicture, .int o_frameCount], oB (r5 0) 0 [.ref (r5 1), .ref (r5 2), .ref (r5 3), .ref (r5 4), .ref (r5 5), .ref (r5 6), .int f5_columns, .int f5_rows, .int f5_scale, .int f5_toEnd, .int f5_between, .int f5_kept]] []) H6 := hP6
    have hD6 : va_D A (wf [oB (r0 0) 6 [.ref (r1 0), .ref (r2 0), .ref (r3 0), .ref (r4 0), .ref (r5 0), .ref (r6 0), .ref (r7 0), .ref (r8 0), .ref (r9 0), .int o_hasHeader, .int o_hasPicture, .int o_frameCount], oB (r5 0) 0 [.ref (r5 1), .ref (r5 2), .ref (r5 3), .ref (r5 4), .ref (r5 5), .ref (r5 6), .int f5_columns, .int f5_rows, .int f5_scale, .int f5_toEnd, .int f5_between, .int f5_kept]] []) := hD6
    refine lv_if_ne (tgt := 39) hx hb dX6_block_26 (by decide) (fun hc7 => ?_) (fun hc7 => ?_)
    · have hm8 := bq_f hm4 hc7; clear hm4
      refine lv_aload_n hx hb dX6_block_39 rfl (lv_at hl0 0 rfl) ?_
      refine va_get (D := D) (ci := 6) (v := .ref (r5 0)) (C := RX6) (T := TX6) (N := 12) hx hb hts hi_X6_block_x3_6 hown E.1 hP6 0 rfl rfl 4 (by decide) (hts _ (List.mem_of_getElem? (i := 8) rfl)) (fun _ h9 => h9) rfl dX6_block_40 ?_
      refine lv_iload_n hx hb dX6_block_43 rfl (lv_at hl0 1 rfl) ?_
      refine lv_iload_n hx hb dX6_block_44 rfl (lv_at hl0 2 rfl) ?_
      obtain ⟨y_9, hcl10, hm10⟩ := bd1_some hm8; clear hm8
      have sb11 := ctS.mk (n := 2) (k := 0) (pre := [oB (r0 0) 6 [.ref (r1 0), .ref (r2 0), .ref (r3 0), .ref (r4 0), .ref (r5 0), .ref (r6 0), .ref (r7 0), .ref (r8 0), .ref (r9 0), .int o_hasHeader, .int o_hasPicture, .int o_frameCount], oB (r5 0) 0 [.ref (r5 1), .ref (r5 2), .ref (r5 3), .ref (r5 4), .ref (r5 5), .ref (r5 6), .int f5_columns, .int f5_rows, .int f5_scale, .int f5_toEnd, .int f5_between, .int f5_kept]]) (tl := []) [1] [0] [] [] rfl rfl (by decide +kernel) (by decide +kernel)
      refine ct_calli (r := y_9) E sb11 hP6 hD6 hS6 (va_runV (As := [.int x1, .int x2]) (rest := []) ⟨hx, hb, hml, hown, hts⟩ (c_X0_index l D cB cI cJ cQ N r5 H6.size x1 x2 f5_columns f5_rows f5_scale f5_toEnd f5_between f5_kept (y_9) hcl10) (cwV 2 hts gX6_block_X0_index rfl rfl rfl cdV_X0_index ⟨Nat.le_of_ble_eq_true rfl, Nat.le_of_ble_eq_true rfl⟩) (ct_preV (q0 := 1) (ci := 0) E sb11 hP6 hD6 hS6 rfl rfl) rfl rfl hl0.1 rfl (lv_room (Nat.le_of_ble_eq_true rfl)) dX6_block_45 ⟨Nat.zero_le _, Nat.zero_le _⟩) (fun H12 lc12 hP12 hD12 hS12 => ?_); clear sb11 hcl10
      clear hP6 hD6 hS6
      have hP12 : va_P D vwCl (wf [oB (r0 0) 6 [.ref (r1 0), .ref (r2 0), .ref (r3 0), .ref (r4 0), .ref (r5 0), .ref (r6 0), .ref (r7 0), .ref (r8 0), .ref (r9 0), .int o_hasHeader, .int o_hasPicture, .int o_frameCount], oB (r5 0) 0 [.ref (r5 1), .ref (r5 2), .ref (r5 3), .ref (r5 4), .ref (r5 5), .ref (r5 6), .int f5_columns, .int f5_rows, .int f5_scale, .int f5_toEnd, .int f5_between, .int f5_kept]] []) H12 := hP12
      have hD12 : va_D A (wf [oB (r0 0) 6 [.ref (r1 0), .ref (r2 0), .ref (r3 0), .ref (r4 0), .ref (r5 0), .ref (r6 0), .ref (r7 0), .ref (r8 0), .ref (r9 0), .int o_hasHeader, .int o_hasPicture, .int o_frameCount], oB (r5 0) 0 [.ref (r5 1), .ref (r5 2), .ref (r5 3), .ref (r5 4), .ref (r5 5), .ref (r5 6), .int f5_columns, .int f5_rows, .int f5_scale, .int f5_toEnd, .int f5_between, .int f5_kept]] []) := hD12
      refine lv_istore (lv' := [(4, .int y_9), (0, .ref (r0 0)), (1, .int x1), (2, .int x2), (3, .int x3)]) hx hb dX6_block_48 hl0 (by decide) rfl (fun ls13 hl13 => ?_); clear hl0
      refine lv_iload_n hx hb dX6_block_50 rfl (lv_at hl13 4 rfl) ?_
      by_cases hc14 : x3 = (0 : Int32)
      · have hm15 := bq_t hm10 hc14; clear hm10
        cases hm15
      have hm16 := bq_f hm10 hc14; clear hm10
      by_cases hc17 : x3 = (1 : Int32)
      · have hm18 := bq_t hm16 hc17; clear hm16
        cases hm18
      have hm19 := bq_f hm16 hc17; clear hm16
      by_cases hc20 : x3 = (2 : Int32)
      · have hm21 := bq_t hm19 hc20; clear hm19
        cases hm21
      have hm22 := bq_f hm19 hc20; clear hm19
      by_cases hc23 : x3 = (3 : Int32)
      · have hm24 := bq_t hm22 hc23; clear hm22
        cases hm24
      have hm25 := bq_f hm22 hc23; clear hm22
      have tn14 := ts_ne hc14 (show Int32.toInt (0 : Int32) = 0 by decide)
      have tn17 := ts_ne hc17 (show Int32.toInt (1 : Int32) = 1 by decide)
      have tn20 := ts_ne hc20 (show Int32.toInt (2 : Int32) = 2 by decide)
      have tn23 := ts_ne hc23 (show Int32.toInt (3 : Int32) = 3 by decide)
      refine lv_tableOut (tgt := 121) hx hb dX6_block_51 (by omega) (by decide) ?_
      obtain ⟨sa9, hstr9⟩ := GX9.2.2.2.2.2.2.2.1
      rw [hQ]
      exact ct_throw (cls := IAE) (Ts := wsX6_block) (ik := 71) (is := 169) (ic := 75) hst hx hb hown (by decide +kernel) (hts _ (List.mem_of_getElem? (i := 5) rfl)) (hts _ (List.mem_of_getElem? (i := 6) rfl)) hstr9 hts xi_X6_block_x3_75 xw_IAE (GX9.2.2.2.2.2.2.2.2.2.2.2.1) (GX9.2.2.2.2.2.2.2.2.2.2.2.2.2.2.2.2.1) (GX9.2.2.2.2.2.2.2.2.2.2.2.2.2.2.2.2.2.1) (GX9.2.2.2.2.2.2.2.2.2.2.2.2.2.2.2.2.2.2) xg_IAE E (GX9.2.2.2.2.2.2.2.2.1) (GX9.2.2.2.2.2.2.2.2.2.1) hP12 hD12 hS12 (hl13.1.trans hml.symm) htab (Nat.le_of_ble_eq_true rfl) (Nat.le_of_ble_eq_true rfl) (Nat.le_of_ble_eq_true rfl) (Nat.le_of_ble_eq_true rfl) hlk dX6_block_121 dX6_block_124 dX6_block_125 dX6_block_127 dX6_block_130
    · have hm26 := bq_t hm4 hc7; clear hm4
      cases hm26
  · have hm27 := bq_t hm0 hc1; clear hm0
    cases hm27
