def f_X7_thrown (m_thrown : Int32) : Option (Int32) :=
  some (m_thrown)

abbrev rm_X7_thrown : Room := { frames := 0, cells := 0, slots := 0, locals := 0 }

theorem cdS_X7_thrown : yX7_thrown.cls ≠ "java/lang/invoke/MethodHandle" ∧ yX7_thrown.cls ≠ "java/lang/invoke/VarHandle" ∧ (parseMethodDescriptor yX7_thrown.desc).map (fun d => d.parameters.length) = some 0 := by decide +kernel

theorem cdV_X7_thrown : yX7_thrown.cls = RX7 ∧ yX7_thrown.cls ≠ "java/lang/invoke/MethodHandle" ∧ yX7_thrown.cls ≠ "java/lang/invoke/VarHandle" ∧ (parseMethodDescriptor yX7_thrown.desc).map (fun d => d.parameters.length) = some 0 := ⟨rfl, cdS_X7_thrown⟩

theorem hi_X7_thrown_7 : ∀ w ∈ u_ws RX7 TX7 42, w ∈ wsX7_thrown := fun _ h => List.mem_cons_of_mem _ (List.mem_append_right _ h)

set_option maxHeartbeats 40000000 in
set_option maxRecDepth 100000 in
theorem c_X7_thrown (l : Launch) (D : va_G) (cB cI cJ cQ : ClassId) (N : Nat) (r0 : Nat → Nat) (sz : Nat) (m_thrown : Int32) (m_length : Int32) (m_at : Int32) (m_fault : Int32) (m_hasHeader : Int32) (m_width : Int32) (m_height : Int32) (m_limit : Int32) (m_hasPicture : Int32) (m_frames : Int32) (m_taken : Int32) (m_many : Int32) (m_due : Int32) (o : Int32) (hm0 : f_X7_thrown m_thrown = some o) : Met l yX7_thrown wsX7_thrown rm_X7_thrown (ctP D cB cI cJ cQ N sz [.ref (r0 0)] (wf [oB (r0 0) 7 [.int m_thrown, .ref (r0 1), .int m_length, .int m_at, .int m_fault, .int m_hasHeader, .int m_width, .int m_height, .int m_limit, .ref (r0 2), .ref (r0 3), .ref (r0 4), .ref (r0 5), .ref (r0 6), .ref (r0 7), .ref (r0 8), .ref (r0 9), .int m_hasPicture, .int m_frames, .int m_taken, .ref (r0 10), .ref (r0 11), .ref (r0 12), .int m_many, .ref (r0 13), .ref (r0 14), .ref (r0 15), .ref (r0 16), .ref (r0 17), .ref (r0 18), .ref (r0 19), .ref (r0 20), .ref (r0 21), .ref (r0 22), .int m_due, .ref (r0 23), .ref (r0 24), .ref (r0 25), .ref (r0 26), .ref (r0 27), .ref (r0 28), .ref (r0 29)]] [])) (ctQi D o (wf [oB (r0 0) 7 [.int m_thrown, .ref (r0 1), .int m_length, .int m_at, .int m_fault, .int m_hasHeader, .int m_width, .int m_height, .int m_limit, .ref (r0 2), .ref (r0 3), .ref (r0 4), .ref (r0 5), .ref (r0 6), .ref (r0 7), .ref (r0 8), .ref (r0 9), .int m_hasPicture, .int m_frames, .int m_taken, .ref (r0 10), .ref (r0 11), .ref (r0 12), .int m_many, .ref (r0 13), .ref (r0 14), .ref (r0 15), .ref (r0 16), .ref (r0 17), .ref (r0 18), .ref (r0 19), .ref (r0 20), .ref (r0 21), .ref (r0 22), .int m_due, .ref (r0 23), .ref (r0 24), .ref (r0 25), .ref (r0 26), .ref (r0 27), .ref (r0 28), .ref (r0 29)]] []) (va_A (wf [oB (r0 0) 7 [.int m_thrown, .ref (r0 1), .int m_length, .int m_at, .int m_fault, .int m_hasHeader, .int m_width, .int m_height, .int m_limit, .ref (r0 2), .ref (r0 3), .ref (r0 4), .ref (r0 5), .ref (r0 6), .ref (r0 7), .ref (r0 8), .ref (r0 9), .int m_hasPicture, .int m_frames, .int m_taken, .ref (r0 10), .ref (r0 11), .ref (r0 12), .int m_many, .ref (r0 13), .ref (r0 14), .ref (r0 15), .ref (r0 16), .ref (r0 17), .ref (r0 18), .ref (r0 19), .ref (r0 20), .ref (r0 21), .ref (r0 22), .int m_due, .ref (r0 23), .ref (r0 24), .ref (r0 25), .ref (r0 26), .ref (r0 27), .ref (r0 28), .ref (r0 29)]] []) sz)) 0 0 (va_A (wf [oB (r0 0) 7 [.int m_thrown, .ref (r0 1), .int m_length, .int m_at, .int m_fault, .int m_hasHeader, .int m_width, .int m_height, .int m_limit, .ref (r0 2), .ref (r0 3), .ref (r0 4), .ref (r0 5), .ref (r0 6), .ref (r0 7), .ref (r0 8), .ref (r0 9), .int m_hasPicture, .int m_frames, .int m_taken, .ref (r0 10), .ref (r0 11), .ref (r0 12), .int m_many, .ref (r0 13), .ref (r0 14), .ref (r0 15), .ref (r0 16), .ref (r0 17), .ref (r0 18), .ref (r0 19), .ref (r0 20), .ref (r0 21), .ref (r0 22), .int m_due, .ref (r0 23), .ref (r0 24), .ref (r0 25), .ref (r0 26), .ref (r0 27), .ref (r0 28), .ref (r0 29)]] []) sz) := by
  refine ct_of (y := yX7_thrown) (av := [.ref (r0 0)]) (cc := cX7_thrown) (maxL := 1) (ret := (some .int)) (own := RX7) (Qp := ctQi D o (wf [oB (r0 0) 7 [.int m_thrown, .ref (r0 1), .int m_length, .int m_at, .int m_fault, .int m_hasHeader, .int m_width, .int m_height, .int m_limit, .ref (r0 2), .ref (r0 3), .ref (r0 4), .ref (r0 5), .ref (r0 6), .ref (r0 7), .ref (r0 8), .ref (r0 9), .int m_hasPicture, .int m_frames, .int m_taken, .ref (r0 10), .ref (r0 11), .ref (r0 12), .int m_many, .ref (r0 13), .ref (r0 14), .ref (r0 15), .ref (r0 16), .ref (r0 17), .ref (r0 18), .ref (r0 19), .ref (r0 20), .ref (r0 21), .ref (r0 22), .int m_due, .ref (r0 23), .ref (r0 24), .ref (r0 25), .ref (r0 26), .ref (r0 27), .ref (r0 28), .ref (r0 29)]] [])) (by decide) rfl rfl (Nat.le_of_ble_eq_true rfl) ?_
  intro p e s m args below meth c A hx hb hr hml hown hts hlk hnm hsz hAe E hP0 hD0 hS0 ls0 hl0
  subst hsz
  have hl0 : lv_has ls0 1 [(0, .ref (r0 0))] := hl0
  obtain ⟨QQ, hQ⟩ : ∃ Q : State → Prop, Q = MQ below (ctQi D o (wf [oB (r0 0) 7 [.int m_thrown, .ref (r0 1), .int m_length, .int m_at, .int m_fault, .int m_hasHeader, .int m_width, .int m_height, .int m_limit, .ref (r0 2), .ref (r0 3), .ref (r0 4), .ref (r0 5), .ref (r0 6), .ref (r0 7), .ref (r0 8), .ref (r0 9), .int m_hasPicture, .int m_frames, .int m_taken, .ref (r0 10), .ref (r0 11), .ref (r0 12), .int m_many, .ref (r0 13), .ref (r0 14), .ref (r0 15), .ref (r0 16), .ref (r0 17), .ref (r0 18), .ref (r0 19), .ref (r0 20), .ref (r0 21), .ref (r0 22), .int m_due, .ref (r0 23), .ref (r0 24), .ref (r0 25), .ref (r0 26), .ref (r0 27), .ref (r0 28), .ref (r0 29)]] []) A) args s 0 0 A := ⟨_, rfl⟩
  rw [← hQ]
  unfold f_X7_thrown at hm0
  refine lv_aload_n hx hb dX7_thrown_0 rfl (lv_at hl0 0 rfl) ?_
  refine va_get (D := D) (ci := 7) (v := .int m_thrown) (C := RX7) (T := TX7) (N := 42) hx hb hts hi_X7_thrown_7 hown E.1 hP0 0 rfl rfl 0 (by decide) (hts _ (List.mem_of_getElem? (i := 1) rfl)) (fun _ h9 => h9) rfl dX7_thrown_1 ?_
  obtain rfl := Option.some.inj hm0
  rw [hQ]
  exact ct_iret hx hb hr hlk hP0 hD0 hS0 rfl dX7_thrown_4

def f_X7_refused (x1 : Int32) (x2 : Int32) (x3 : Int32) (m_thrown : Int32) : Option (Int32 × Int32) :=
  jn (fun (k2 : Int32 → Option (Int32 × Int32)) => (if x1 = (0 : Int32) then
  ((if x2 = (0 : Int32) then
  ((if x3 = (0 : Int32) then
  (k2 (0 : Int32))
  else
  (k2 (3 : Int32))))
  else
  (k2 (2 : Int32))))
  else
  (k2 (1 : Int32)))) fun k0_3 =>
  (if k0_3 ≤ (0 : Int32) then
  (some ((0 : Int32), k0_3))
  else
  (some ((1 : Int32), k0_3)))

abbrev rm_X7_refused : Room := { frames := 0, cells := 0, slots := 0, locals := 0 }

theorem cdS_X7_refused : yX7_refused.cls ≠ "java/lang/invoke/MethodHandle" ∧ yX7_refused.cls ≠ "java/lang/invoke/VarHandle" ∧ (parseMethodDescriptor yX7_refused.desc).map (fun d => d.parameters.length) = some 3 := by decide +kernel

theorem cdV_X7_refused : yX7_refused.cls = RX7 ∧ yX7_refused.cls ≠ "java/lang/invoke/MethodHandle" ∧ yX7_refused.cls ≠ "java/lang/invoke/VarHandle" ∧ (parseMethodDescriptor yX7_refused.desc).map (fun d => d.parameters.length) = some 3 := ⟨rfl, cdS_X7_refused⟩

theorem hi_X7_refused_7 : ∀ w ∈ u_ws RX7 TX7 42, w ∈ wsX7_refused := fun _ h => List.mem_cons_of_mem _ (List.mem_append_right _ h)

set_option maxHeartbeats 40000000 in
set_option maxRecDepth 100000 in
theorem c_X7_refused (l : Launch) (D : va_G) (cB cI cJ cQ : ClassId) (N : Nat) (r0 : Nat → Nat) (sz : Nat) (x1 : Int32) (x2 : Int32) (x3 : Int32) (m_thrown : Int32) (m_length : Int32) (m_at : Int32) (m_fault : Int32) (m_hasHeader : Int32) (m_width : Int32) (m_height : Int32) (m_limit : Int32) (m_hasPicture : Int32) (m_frames : Int32) (m_taken : Int32) (m_many : Int32) (m_due : Int32) (o : Int32 × Int32) (hm0 : f_X7_refused x1 x2 x3 m_thrown = some o) : Met l yX7_refused wsX7_refused rm_X7_refused (ctP D cB cI cJ cQ N sz [.ref (r0 0), .int x1, .int x2, .int x3] (wf [oB (r0 0) 7 [.int m_thrown, .ref (r0 1), .int m_length, .int m_at, .int m_fault, .int m_hasHeader, .int m_width, .int m_height, .int m_limit, .ref (r0 2), .ref (r0 3), .ref (r0 4), .ref (r0 5), .ref (r0 6), .ref (r0 7), .ref (r0 8), .ref (r0 9), .int m_hasPicture, .int m_frames, .int m_taken, .ref (r0 10), .ref (r0 11), .ref (r0 12), .int m_many, .ref (r0 13), .ref (r0 14), .ref (r0 15), .ref (r0 16), .ref (r0 17), .ref (r0 18), .ref (r0 19), .ref (r0 20), .ref (r0 21), .ref (r0 22), .int m_due, .ref (r0 23), .ref (r0 24), .ref (r0 25), .ref (r0 26), .ref (r0 27), .ref (r0 28), .ref (r0 29)]] [])) (ctQi D (o.1) (wf [oB (r0 0) 7 [.int (o.2), .ref (r0 1), .int m_length, .int m_at, .int m_fault, .int m_hasHeader, .int m_width, .int m_height, .int m_limit, .ref (r0 2), .ref (r0 3), .ref (r0 4), .ref (r0 5), .ref (r0 6), .ref (r0 7), .ref (r0 8), .ref (r0 9), .int m_hasPicture, .int m_frames, .int m_taken, .ref (r0 10), .ref (r0 11), .ref (r0 12), .int m_many, .ref (r0 13), .ref (r0 14), .ref (r0 15), .ref (r0 16), .ref (r0 17), .ref (r0 18), .ref (r0 19), .ref (r0 20), .ref (r0 21), .ref (r0 22), .int m_due, .ref (r0 23), .ref (r0 24), .ref (r0 25), .ref (r0 26), .ref (r0 27), .ref (r0 28), .ref (r0 29)]] []) (va_A (wf [oB (r0 0) 7 [.int m_thrown, .ref (r0 1), .int m_length, .int m_at, .int m_fault, .int m_hasHeader, .int m_width, .int m_height, .int m_limit, .ref (r0 2), .ref (r0 3), .ref (r0 4), .ref (r0 5), .ref (r0 6), .ref (r0 7), .ref (r0 8), .ref (r0 9), .int m_hasPicture, .int m_frames, .int m_taken, .ref (r0 10), .ref (r0 11), .ref (r0 12), .int m_many, .ref (r0 13), .ref (r0 14), .ref (r0 15), .ref (r0 16), .ref (r0 17), .ref (r0 18), .ref (r0 19), .ref (r0 20), .ref (r0 21), .ref (r0 22), .int m_due, .ref (r0 23), .ref (r0 24), .ref (r0 25), .ref (r0 26), .ref (r0 27), .ref (r0 28), .ref (r0 29)]] []) sz)) 0 0 (va_A (wf [oB (r0 0) 7 [.int m_thrown, .ref (r0 1), .int m_length, .int m_at, .int m_fault, .int m_hasHeader, .int m_width, .int m_height, .int m_limit, .ref (r0 2), .ref (r0 3), .ref (r0 4), .ref (r0 5), .ref (r0 6), .ref (r0 7), .ref (r0 8), .ref (r0 9), .int m_hasPicture, .int m_frames, .int m_taken, .ref (r0 10), .ref (r0 11), .ref (r0 12), .int m_many, .ref (r0 13), .ref (r0 14), .ref (r0 15), .ref (r0 16), .ref (r0 17), .ref (r0 18), .ref (r0 19), .ref (r0 20), .ref (r0 21), .ref (r0 22), .int m_due, .ref (r0 23), .ref (r0 24), .ref (r0 25), .ref (r0 26), .ref (r0 27), .ref (r0 28), .ref (r0 29)]] []) sz) := by
  refine ct_of (y := yX7_refused) (av := [.ref (r0 0), .int x1, .int x2, .int x3]) (cc := cX7_refused) (maxL := 4) (ret := (some .boolean)) (own := RX7) (Qp := ctQi D (o.1) (wf [oB (r0 0) 7 [.int (o.2), .ref (r0 1), .int m_length, .int m_at, .int m_fault, .int m_hasHeader, .int m_width, .int m_height, .int m_limit, .ref (r0 2), .ref (r0 3), .ref (r0 4), .ref (r0 5), .ref (r0 6), .ref (r0 7), .ref (r0 8), .ref (r0 9), .int m_hasPicture, .int m_frames, .int m_taken, .ref (r0 10), .ref (r0 11), .ref (r0 12), .int m_many, .ref (r0 13), .ref (r0 14), .ref (r0 15), .ref (r0 16), .ref (r0 17), .ref (r0 18), .ref (r0 19), .ref (r0 20), .ref (r0 21), .ref (r0 22), .int m_due, .ref (r0 23), .ref (r0 24), .ref (r0 25), .ref (r0 26), .ref (r0 27), .ref (r0 28), .ref (r0 29)]] [])) (by decide) rfl rfl (Nat.le_of_ble_eq_true rfl) ?_
  intro p e s m args below meth c A hx hb hr hml hown hts hlk hnm hsz hAe E hP0 hD0 hS0 ls0 hl0
  subst hsz
  have hl0 : lv_has ls0 4 [(0, .ref (r0 0)), (1, .int x1), (2, .int x2), (3, .int x3)] := hl0
  obtain ⟨QQ, hQ⟩ : ∃ Q : State → Prop, Q = MQ below (ctQi D (o.1) (wf [oB (r0 0) 7 [.int (o.2), .ref (r0 1), .int m_length, .int m_at, .int m_fault, .int m_hasHeader, .int m_width, .int m_height, .int m_limit, .ref (r0 2), .ref (r0 3), .ref (r0 4), .ref (r0 5), .ref (r0 6), .ref (r0 7), .ref (r0 8), .ref (r0 9), .int m_hasPicture, .int m_frames, .int m_taken, .ref (r0 10), .ref (r0 11), .ref (r0 12), .int m_many, .ref (r0 13), .ref (r0 14), .ref (r0 15), .ref (r0 16), .ref (r0 17), .ref (r0 18), .ref (r0 19), .ref (r0 20), .ref (r0 21), .ref (r0 22), .int m_due, .ref (r0 23), .ref (r0 24), .ref (r0 25), .ref (r0 26), .ref (r0 27), .ref (r0 28), .ref (r0 29)]] []) A) args s 0 0 A := ⟨_, rfl⟩
  rw [← hQ]
  unfold f_X7_refused at hm0
  refine lv_aload_n hx hb dX7_refused_0 rfl (lv_at hl0 0 rfl) ?_
  refine lv_iload_n hx hb dX7_refused_1 rfl (lv_at hl0 1 rfl) ?_
  obtain ⟨k2, ek2, hm2⟩ := jn_some hm0; clear hm0
  have KJ2 : ∀ (k0_3 : Int32) (H4 : Heap) (lc4 : List Loc) (ls4 : Array Slot), k2 k0_3 = some o → va_P D vwCl (wf [oB (r0 0) 7 [.int m_thrown, .ref (r0 1), .int m_length, .int m_at, .int m_fault, .int m_hasHeader, .int m_width, .int m_height, .int m_limit, .ref (r0 2), .ref (r0 3), .ref (r0 4), .ref (r0 5), .ref (r0 6), .ref (r0 7), .ref (r0 8), .ref (r0 9), .int m_hasPicture, .int m_frames, .int m_taken, .ref (r0 10), .ref (r0 11), .ref (r0 12), .int m_many, .ref (r0 13), .ref (r0 14), .ref (r0 15), .ref (r0 16), .ref (r0 17), .ref (r0 18), .ref (r0 19), .ref (r0 20), .ref (r0 21), .ref (r0 22), .int m_due, .ref (r0 23), .ref (r0 24), .ref (r0 25), .ref (r0 26), .ref (r0 27), .ref (r0 28), .ref (r0 29)]] []) H4 → va_D A (wf [oB (r0 0) 7 [.int m_thrown, .ref (r0 1), .int m_length, .int m_at, .int m_fault, .int m_hasHeader, .int m_width, .int m_height, .int m_limit, .ref (r0 2), .ref (r0 3), .ref (r0 4), .ref (r0 5), .ref (r0 6), .ref (r0 7), .ref (r0 8), .ref (r0 9), .int m_hasPicture, .int m_frames, .int m_taken, .ref (r0 10), .ref (r0 11), .ref (r0 12), .int m_many, .ref (r0 13), .ref (r0 14), .ref (r0 15), .ref (r0 16), .ref (r0 17), .ref (r0 18), .ref (r0 19), .ref (r0 20), .ref (r0 21), .ref (r0 22), .int m_due, .ref (r0 23), .ref (r0 24), .ref (r0 25), .ref (r0 26), .ref (r0 27), .ref (r0 28), .ref (r0 29)]] []) → va_S A s.heap H4 lc4 → lv_has ls4 4 [(0, .ref (r0 0))] → W p l e rm_X7_refused s m args below meth c H4 lc4 0 0 QQ (F0 m 26 ls4 [.int k0_3, .ref (r0 0)]) := by
    intro k0_3 H4 lc4 ls4 hm5 hP4 hD4 hS4 hl4
    rw [ek2] at hm5
    refine ct_put (D := D) (ci := 7) (v := .int k0_3) (ty := .int) (C := RX7) (T := TX7) (N := 42) (ws' := (wf [oB (r0 0) 7 [.int k0_3, .ref (r0 1), .int m_length, .int m_at, .int m_fault, .int m_hasHeader, .int m_width, .int m_height, .int m_limit, .ref (r0 2), .ref (r0 3), .ref (r0 4), .ref (r0 5), .ref (r0 6), .ref (r0 7), .ref (r0 8), .ref (r0 9), .int m_hasPicture, .int m_frames, .int m_taken, .ref (r0 10), .ref (r0 11), .ref (r0 12), .int m_many, .ref (r0 13), .ref (r0 14), .ref (r0 15), .ref (r0 16), .ref (r0 17), .ref (r0 18), .ref (r0 19), .ref (r0 20), .ref (r0 21), .ref (r0 22), .int m_due, .ref (r0 23), .ref (r0 24), .ref (r0 25), .ref (r0 26), .ref (r0 27), .ref (r0 28), .ref (r0 29)]] [])) hx hb hts hi_X7_refused_7 tyX7 tyX7_ok nmX7 hown E.1 hP4 hD4 hS4 0 rfl rfl 0 (by decide) (hts _ (List.mem_of_getElem? (i := 1) rfl)) (fun _ h9 => h9) rfl (by decide +kernel) rfl rfl (Nat.le_of_ble_eq_true rfl) rfl dX7_refused_26 (fun H6 lc6 hP6 hD6 hS6 => ?_)
    clear hP4 hD4 hS4
    refine lv_aload_n hx hb dX7_refused_29 rfl (lv_at hl4 0 rfl) ?_
    refine va_get (D := D) (ci := 7) (v := .int k0_3) (C := RX7) (T := TX7) (N := 42) hx hb hts hi_X7_refused_7 hown E.1 hP6 0 rfl rfl 0 (by decide) (hts _ (List.mem_of_getElem? (i := 1) rfl)) (fun _ h9 => h9) rfl dX7_refused_30 ?_
    refine lv_if_le (tgt := 40) hx hb dX7_refused_33 (by decide) (fun hc7 => ?_) (fun hc7 => ?_)
    · have hm8 := bq_t hm5 hc7; clear hm5
      refine lv_iconst (v := 0) hx hb dX7_refused_40 (by decide) ?_
      obtain rfl := Option.some.inj hm8
      rw [hQ]
      exact ct_zret hx hb hr hlk (Or.inl rfl) hP6 hD6 hS6 rfl dX7_refused_41
    · have hm9 := bq_f hm5 hc7; clear hm5
      refine lv_iconst (v := 1) hx hb dX7_refused_36 (by decide) ?_
      refine lv_goto (tgt := 41) hx hb dX7_refused_37 (by decide) ?_
      obtain rfl := Option.some.inj hm9
      rw [hQ]
      exact ct_zret hx hb hr hlk (Or.inr rfl) hP6 hD6 hS6 rfl dX7_refused_41
  refine lv_if_eq (tgt := 9) hx hb dX7_refused_2 (by decide) (fun hc10 => ?_) (fun hc10 => ?_)
  · have hm11 := bq_t hm2 hc10; clear hm2
    refine lv_iload_n hx hb dX7_refused_9 rfl (lv_at hl0 2 rfl) ?_
    refine lv_if_eq (tgt := 17) hx hb dX7_refused_10 (by decide) (fun hc12 => ?_) (fun hc12 => ?_)
    · have hm13 := bq_t hm11 hc12; clear hm11
      refine lv_iload_n hx hb dX7_refused_17 rfl (lv_at hl0 3 rfl) ?_
      refine lv_if_eq (tgt := 25) hx hb dX7_refused_18 (by decide) (fun hc14 => ?_) (fun hc14 => ?_)
      · have hm15 := bq_t hm13 hc14; clear hm13
        refine lv_iconst (v := 0) hx hb dX7_refused_25 (by decide) ?_
        exact KJ2 (0 : Int32) _ _ _ hm15 hP0 hD0 hS0 (lv_sub hl0 [0] rfl)
      · have hm16 := bq_f hm13 hc14; clear hm13
        refine lv_iconst (v := 3) hx hb dX7_refused_21 (by decide) ?_
        refine lv_goto (tgt := 26) hx hb dX7_refused_22 (by decide) ?_
        exact KJ2 (3 : Int32) _ _ _ hm16 hP0 hD0 hS0 (lv_sub hl0 [0] rfl)
    · have hm17 := bq_f hm11 hc12; clear hm11
      refine lv_iconst (v := 2) hx hb dX7_refused_13 (by decide) ?_
      refine lv_goto (tgt := 26) hx hb dX7_refused_14 (by decide) ?_
      exact KJ2 (2 : Int32) _ _ _ hm17 hP0 hD0 hS0 (lv_sub hl0 [0] rfl)
  · have hm18 := bq_f hm2 hc10; clear hm2
    refine lv_iconst (v := 1) hx hb dX7_refused_5 (by decide) ?_
    refine lv_goto (tgt := 26) hx hb dX7_refused_6 (by decide) ?_
    exact KJ2 (1 : Int32) _ _ _ hm18 hP0 hD0 hS0 (lv_sub hl0 [0] rfl)

def f_X7_addInt_L3 (x1 : Int32) : Nat → Int32 → (Nat → Int32) → Int32 → Option (Int32 × (Nat → Int32))
  | 0, _, _, _ => none
  | n + 1, m_length_3, m_tape_4, v2_5 =>
  (if v2_5 < (0 : Int32) then
  (some (m_length_3, m_tape_4))
  else
  (gi m_length_3 6000 <|
  nm (upd m_tape_4 m_length_3.toNatClampNeg (vp_nar .byte (Int8.toInt32 (Int32.toInt8 (x1 >>> (v2_5 &&& (31 : Int32)))))) : Nat → Int32) fun m_tape_13 =>
  nm ((m_length_3 + (1 : Int32)) : Int32) fun m_length_16 =>
  nm (v2_5 + (-8 : Int32) : Int32) fun v2_19 =>
  f_X7_addInt_L3 x1 n m_length_16 m_tape_13 v2_19))

def f_X7_addInt (x1 : Int32) (m_length : Int32) (m_tape : Nat → Int32) : Option (Int32 × (Nat → Int32)) :=
  bd2 (f_X7_addInt_L3 x1 4000 m_length m_tape (24 : Int32)) fun m_length_22 m_tape_23 =>
  some (m_length_22, m_tape_23)

abbrev rm_X7_addInt : Room := { frames := 0, cells := 0, slots := 0, locals := 0 }

theorem cdS_X7_addInt : yX7_addInt.cls ≠ "java/lang/invoke/MethodHandle" ∧ yX7_addInt.cls ≠ "java/lang/invoke/VarHandle" ∧ (parseMethodDescriptor yX7_addInt.desc).map (fun d => d.parameters.length) = some 1 := by decide +kernel

theorem cdV_X7_addInt : yX7_addInt.cls = RX7 ∧ yX7_addInt.cls ≠ "java/lang/invoke/MethodHandle" ∧ yX7_addInt.cls ≠ "java/lang/invoke/VarHandle" ∧ (parseMethodDescriptor yX7_addInt.desc).map (fun d => d.parameters.length) = some 1 := ⟨rfl, cdS_X7_addInt⟩

theorem hi_X7_addInt_7 : ∀ w ∈ u_ws RX7 TX7 42, w ∈ wsX7_addInt := fun _ h => List.mem_cons_of_mem _ (List.mem_append_right _ h)

set_option maxHeartbeats 40000000 in
set_option maxRecDepth 100000 in
theorem c_X7_addInt (l : Launch) (D : va_G) (cB cI cJ cQ : ClassId) (N : Nat) (r0 : Nat → Nat) (sz : Nat) (x1 : Int32) (m_thrown : Int32) (m_length : Int32) (m_at : Int32) (m_fault : Int32) (m_hasHeader : Int32) (m_width : Int32) (m_height : Int32) (m_limit : Int32) (m_hasPicture : Int32) (m_frames : Int32) (m_taken : Int32) (m_many : Int32) (m_due : Int32) (m_tape : Nat → Int32) (o : Int32 × (Nat → Int32)) (hm0 : f_X7_addInt x1 m_length m_tape = some o) : Met l yX7_addInt wsX7_addInt rm_X7_addInt (ctP D cB cI cJ cQ N sz [.ref (r0 0), .int x1] (wf [oB (r0 0) 7 [.int m_thrown, .ref (r0 1), .int m_length, .int m_at, .int m_fault, .int m_hasHeader, .int m_width, .int m_height, .int m_limit, .ref (r0 2), .ref (r0 3), .ref (r0 4), .ref (r0 5), .ref (r0 6), .ref (r0 7), .ref (r0 8), .ref (r0 9), .int m_hasPicture, .int m_frames, .int m_taken, .ref (r0 10), .ref (r0 11), .ref (r0 12), .int m_many, .ref (r0 13), .ref (r0 14), .ref (r0 15), .ref (r0 16), .ref (r0 17), .ref (r0 18), .ref (r0 19), .ref (r0 20), .ref (r0 21), .ref (r0 22), .int m_due, .ref (r0 23), .ref (r0 24), .ref (r0 25), .ref (r0 26), .ref (r0 27), .ref (r0 28), .ref (r0 29)], aI (r0 1) cB 6000 m_tape] [])) (ctQv D (wf [oB (r0 0) 7 [.int m_thrown, .ref (r0 1), .int (o.1), .int m_at, .int m_fault, .int m_hasHeader, .int m_width, .int m_height, .int m_limit, .ref (r0 2), .ref (r0 3), .ref (r0 4), .ref (r0 5), .ref (r0 6), .ref (r0 7), .ref (r0 8), .ref (r0 9), .int m_hasPicture, .int m_frames, .int m_taken, .ref (r0 10), .ref (r0 11), .ref (r0 12), .int m_many, .ref (r0 13), .ref (r0 14), .ref (r0 15), .ref (r0 16), .ref (r0 17), .ref (r0 18), .ref (r0 19), .ref (r0 20), .ref (r0 21), .ref (r0 22), .int m_due, .ref (r0 23), .ref (r0 24), .ref (r0 25), .ref (r0 26), .ref (r0 27), .ref (r0 28), .ref (r0 29)], aI (r0 1) cB 6000 (o.2)] []) (va_A (wf [oB (r0 0) 7 [.int m_thrown, .ref (r0 1), .int m_length, .int m_at, .int m_fault, .int m_hasHeader, .int m_width, .int m_height, .int m_limit, .ref (r0 2), .ref (r0 3), .ref (r0 4), .ref (r0 5), .ref (r0 6), .ref (r0 7), .ref (r0 8), .ref (r0 9), .int m_hasPicture, .int m_frames, .int m_taken, .ref (r0 10), .ref (r0 11), .ref (r0 12), .int m_many, .ref (r0 13), .ref (r0 14), .ref (r0 15), .ref (r0 16), .ref (r0 17), .ref (r0 18), .ref (r0 19), .ref (r0 20), .ref (r0 21), .ref (r0 22), .int m_due, .ref (r0 23), .ref (r0 24), .ref (r0 25), .ref (r0 26), .ref (r0 27), .ref (r0 28), .ref (r0 29)], aI (r0 1) cB 6000 m_tape] []) sz)) 0 0 (va_A (wf [oB (r0 0) 7 [.int m_thrown, .ref (r0 1), .int m_length, .int m_at, .int m_fault, .int m_hasHeader, .int m_width, .int m_height, .int m_limit, .ref (r0 2), .ref (r0 3), .ref (r0 4), .ref (r0 5), .ref (r0 6), .ref (r0 7), .ref (r0 8), .ref (r0 9), .int m_hasPicture, .int m_frames, .int m_taken, .ref (r0 10), .ref (r0 11), .ref (r0 12), .int m_many, .ref (r0 13), .ref (r0 14), .ref (r0 15), .ref (r0 16), .ref (r0 17), .ref (r0 18), .ref (r0 19), .ref (r0 20), .ref (r0 21), .ref (r0 22), .int m_due, .ref (r0 23), .ref (r0 24), .ref (r0 25), .ref (r0 26), .ref (r0 27), .ref (r0 28), .ref (r0 29)], aI (r0 1) cB 6000 m_tape] []) sz) := by
  refine ct_of (y := yX7_addInt) (av := [.ref (r0 0), .int x1]) (cc := cX7_addInt) (maxL := 3) (ret := none) (own := RX7) (Qp := ctQv D (wf [oB (r0 0) 7 [.int m_thrown, .ref (r0 1), .int (o.1), .int m_at, .int m_fault, .int m_hasHeader, .int m_width, .int m_height, .int m_limit, .ref (r0 2), .ref (r0 3), .ref (r0 4), .ref (r0 5), .ref (r0 6), .ref (r0 7), .ref (r0 8), .ref (r0 9), .int m_hasPicture, .int m_frames, .int m_taken, .ref (r0 10), .ref (r0 11), .ref (r0 12), .int m_many, .ref (r0 13), .ref (r0 14), .ref (r0 15), .ref (r0 16), .ref (r0 17), .ref (r0 18), .ref (r0 19), .ref (r0 20), .ref (r0 21), .ref (r0 22), .int m_due, .ref (r0 23), .ref (r0 24), .ref (r0 25), .ref (r0 26), .ref (r0 27), .ref (r0 28), .ref (r0 29)], aI (r0 1) cB 6000 (o.2)] [])) (by decide) rfl rfl (Nat.le_of_ble_eq_true rfl) ?_
  intro p e s m args below meth c A hx hb hr hml hown hts hlk hnm hsz hAe E hP0 hD0 hS0 ls0 hl0
  subst hsz
  have hl0 : lv_has ls0 3 [(0, .ref (r0 0)), (1, .int x1)] := hl0
  obtain ⟨QQ, hQ⟩ : ∃ Q : State → Prop, Q = MQ below (ctQv D (wf [oB (r0 0) 7 [.int m_thrown, .ref (r0 1), .int (o.1), .int m_at, .int m_fault, .int m_hasHeader, .int m_width, .int m_height, .int m_limit, .ref (r0 2), .ref (r0 3), .ref (r0 4), .ref (r0 5), .ref (r0 6), .ref (r0 7), .ref (r0 8), .ref (r0 9), .int m_hasPicture, .int m_frames, .int m_taken, .ref (r0 10), .ref (r0 11), .ref (r0 12), .int m_many, .ref (r0 13), .ref (r0 14), .ref (r0 15), .ref (r0 16), .ref (r0 17), .ref (r0 18), .ref (r0 19), .ref (r0 20), .ref (r0 21), .ref (r0 22), .int m_due, .ref (r0 23), .ref (r0 24), .ref (r0 25), .ref (r0 26), .ref (r0 27), .ref (r0 28), .ref (r0 29)], aI (r0 1) cB 6000 (o.2)] []) A) args s 0 0 A := ⟨_, rfl⟩
  rw [← hQ]
  unfold f_X7_addInt at hm0
  refine lv_bipush (v := 24) hx hb dX7_addInt_0 (by decide) ?_
  refine lv_istore_n (lv' := [(2, .int (24 : Int32)), (0, .ref (r0 0)), (1, .int x1)]) hx hb dX7_addInt_2 rfl hl0 (by decide) rfl (fun ls1 hl1 => ?_); clear hl0
  obtain ⟨m_length_22, m_tape_23, hlp2, hm24⟩ := bd2_some hm0; clear hm0
  have LP2 : ∀ (n : Nat) (m_length_3 : Int32) (m_tape_4 : Nat → Int32) (v2_5 : Int32) (z2 : Int32 × (Nat → Int32)) (H6 : Heap) (lc6 : List Loc) (ls6 : Array Slot), f_X7_addInt_L3 x1 n m_length_3 m_tape_4 v2_5 = some z2 → va_P D vwCl (wf [oB (r0 0) 7 [.int m_thrown, .ref (r0 1), .int m_length_3, .int m_at, .int m_fault, .int m_hasHeader, .int m_width, .int m_height, .int m_limit, .ref (r0 2), .ref (r0 3), .ref (r0 4), .ref (r0 5), .ref (r0 6), .ref (r0 7), .ref (r0 8), .ref (r0 9), .int m_hasPicture, .int m_frames, .int m_taken, .ref (r0 10), .ref (r0 11), .ref (r0 12), .int m_many, .ref (r0 13), .ref (r0 14), .ref (r0 15), .ref (r0 16), .ref (r0 17), .ref (r0 18), .ref (r0 19), .ref (r0 20), .ref (r0 21), .ref (r0 22), .int m_due, .ref (r0 23), .ref (r0 24), .ref (r0 25), .ref (r0 26), .ref (r0 27), .ref (r0 28), .ref (r0 29)], aI (r0 1) cB 6000 m_tape_4] []) H6 → va_D A (wf [oB (r0 0) 7 [.int m_thrown, .ref (r0 1), .int m_length_3, .int m_at, .int m_fault, .int m_hasHeader, .int m_width, .int m_height, .int m_limit, .ref (r0 2), .ref (r0 3), .ref (r0 4), .ref (r0 5), .ref (r0 6), .ref (r0 7), .ref (r0 8), .ref (r0 9), .int m_hasPicture, .int m_frames, .int m_taken, .ref (r0 10), .ref (r0 11), .ref (r0 12), .int m_many, .ref (r0 13), .ref (r0 14), .ref (r0 15), .ref (r0 16), .ref (r0 17), .ref (r0 18), .ref (r0 19), .ref (r0 20), .ref (r0 21), .ref (r0 22), .int m_due, .ref (r0 23), .ref (r0 24), .ref (r0 25), .ref (r0 26), .ref (r0 27), .ref (r0 28), .ref (r0 29)], aI (r0 1) cB 6000 m_tape_4] []) → va_S A s.heap H6 lc6 → lv_has ls6 3 [(0, .ref (r0 0)), (1, .int x1), (2, .int v2_5)] → (∀ (H : Heap) (lc : List Loc) (ls : Array Slot), va_P D vwCl (wf [oB (r0 0) 7 [.int m_thrown, .ref (r0 1), .int (z2.1), .int m_at, .int m_fault, .int m_hasHeader, .int m_width, .int m_height, .int m_limit, .ref (r0 2), .ref (r0 3), .ref (r0 4), .ref (r0 5), .ref (r0 6), .ref (r0 7), .ref (r0 8), .ref (r0 9), .int m_hasPicture, .int m_frames, .int m_taken, .ref (r0 10), .ref (r0 11), .ref (r0 12), .int m_many, .ref (r0 13), .ref (r0 14), .ref (r0 15), .ref (r0 16), .ref (r0 17), .ref (r0 18), .ref (r0 19), .ref (r0 20), .ref (r0 21), .ref (r0 22), .int m_due, .ref (r0 23), .ref (r0 24), .ref (r0 25), .ref (r0 26), .ref (r0 27), .ref (r0 28), .ref (r0 29)], aI (r0 1) cB 6000 (z2.2)] []) H → va_D A (wf [oB (r0 0) 7 [.int m_thrown, .ref (r0 1), .int (z2.1), .int m_at, .int m_fault, .int m_hasHeader, .int m_width, .int m_height, .int m_limit, .ref (r0 2), .ref (r0 3), .ref (r0 4), .ref (r0 5), .ref (r0 6), .ref (r0 7), .ref (r0 8), .ref (r0 9), .int m_hasPicture, .int m_frames, .int m_taken, .ref (r0 10), .ref (r0 11), .ref (r0 12), .int m_many, .ref (r0 13), .ref (r0 14), .ref (r0 15), .ref (r0 16), .ref (r0 17), .ref (r0 18), .ref (r0 19), .ref (r0 20), .ref (r0 21), .ref (r0 22), .int m_due, .ref (r0 23), .ref (r0 24), .ref (r0 25), .ref (r0 26), .ref (r0 27), .ref (r0 28), .ref (r0 29)], aI (r0 1) cB 6000 (z2.2)] []) → va_S A s.heap H lc → lv_has ls 3 [] → W p l e rm_X7_addInt s m args below meth c H lc 0 0 QQ (F0 m 36 ls [])) → W p l e rm_X7_addInt s m args below meth c H6 lc6 0 0 QQ (F0 m 3 ls6 []) := by
    intro n
    induction n with
    | zero =>
      intro m_length_3 m_tape_4 v2_5 z2 H6 lc6 ls6 hm8; simp [f_X7_addInt_L3] at hm8
    | succ n ih =>
      intro m_length_3 m_tape_4 v2_5 z2 H6 lc6 ls6 hm8 hP6 hD6 hS6 hl6 kx
      rw [f_X7_addInt_L3] at hm8
      refine lv_iload_n hx hb dX7_addInt_3 rfl (lv_at hl6 2 rfl) ?_
      refine lv_if_lt (tgt := 36) hx hb dX7_addInt_4 (by decide) (fun hc9 => ?_) (fun hc9 => ?_)
      · have hm10 := bq_t hm8 hc9; clear hm8
        obtain rfl := Option.some.inj hm10
        exact kx _ _ _ hP6 hD6 hS6 (lv_sub hl6 [] rfl)
      · have hm11 := bq_f hm8 hc9; clear hm8
        refine lv_aload_n hx hb dX7_addInt_7 rfl (lv_at hl6 0 rfl) ?_
        refine va_get (D := D) (ci := 7) (v := .ref (r0 1)) (C := RX7) (T := TX7) (N := 42) hx hb hts hi_X7_addInt_7 hown E.1 hP6 0 rfl rfl 1 (by decide) (hts _ (List.mem_of_getElem? (i := 1) rfl)) (fun _ h9 => h9) rfl dX7_addInt_8 ?_
        refine lv_aload_n hx hb dX7_addInt_11 rfl (lv_at hl6 0 rfl) ?_
        refine va_get (D := D) (ci := 7) (v := .int m_length_3) (C := RX7) (T := TX7) (N := 42) hx hb hts hi_X7_addInt_7 hown E.1 hP6 0 rfl rfl 2 (by decide) (hts _ (List.mem_of_getElem? (i := 2) rfl)) (fun _ h9 => h9) rfl dX7_addInt_12 ?_
        refine lv_iload_n hx hb dX7_addInt_15 rfl (lv_at hl6 1 rfl) ?_
        refine lv_iload_n hx hb dX7_addInt_16 rfl (lv_at hl6 2 rfl) ?_
        refine lv_ishr hx hb dX7_addInt_17 ?_
        refine lv_i2b hx hb dX7_addInt_18 rfl ?_
        obtain ⟨hin12, hm12⟩ := gi_some hm11; clear hm11
        obtain ⟨m_tape_13, em_tape_13, hm14⟩ := nm_some hm12; clear hm12
        refine ct_bast (g := m_tape_13) (ws' := (wf [oB (r0 0) 7 [.int m_thrown, .ref (r0 1), .int m_length_3, .int m_at, .int m_fault, .int m_hasHeader, .int m_width, .int m_height, .int m_limit, .ref (r0 2), .ref (r0 3), .ref (r0 4), .ref (r0 5), .ref (r0 6), .ref (r0 7), .ref (r0 8), .ref (r0 9), .int m_hasPicture, .int m_frames, .int m_taken, .ref (r0 10), .ref (r0 11), .ref (r0 12), .int m_many, .ref (r0 13), .ref (r0 14), .ref (r0 15), .ref (r0 16), .ref (r0 17), .ref (r0 18), .ref (r0 19), .ref (r0 20), .ref (r0 21), .ref (r0 22), .int m_due, .ref (r0 23), .ref (r0 24), .ref (r0 25), .ref (r0 26), .ref (r0 27), .ref (r0 28), .ref (r0 29)], aI (r0 1) cB 6000 m_tape_13] [])) hx hb E.1 hP6 hD6 hS6 1 1 rfl rfl hin12 em_tape_13 rfl dX7_addInt_19 (fun H15 lc15 hP15 hD15 hS15 => ?_)
        clear hP6 hD6 hS6
        refine lv_aload_n hx hb dX7_addInt_20 rfl (lv_at hl6 0 rfl) ?_
        refine lv_dup hx hb dX7_addInt_21 rfl ?_
        refine va_get (D := D) (ci := 7) (v := .int m_length_3) (C := RX7) (T := TX7) (N := 42) hx hb hts hi_X7_addInt_7 hown E.1 hP15 0 rfl rfl 2 (by decide) (hts _ (List.mem_of_getElem? (i := 2) rfl)) (fun _ h9 => h9) rfl dX7_addInt_22 ?_
        refine lv_iconst (v := 1) hx hb dX7_addInt_25 (by decide) ?_
        refine lv_iadd hx hb dX7_addInt_26 ?_
        obtain ⟨m_length_16, em_length_16, hm17⟩ := nm_some hm14; clear hm14
        refine ct_topi em_length_16 ?_
        refine ct_put (D := D) (ci := 7) (v := .int m_length_16) (ty := .int) (C := RX7) (T := TX7) (N := 42) (ws' := (wf [oB (r0 0) 7 [.int m_thrown, .ref (r0 1), .int m_length_16, .int m_at, .int m_fault, .int m_hasHeader, .int m_width, .int m_height, .int m_limit, .ref (r0 2), .ref (r0 3), .ref (r0 4), .ref (r0 5), .ref (r0 6), .ref (r0 7), .ref (r0 8), .ref (r0 9), .int m_hasPicture, .int m_frames, .int m_taken, .ref (r0 10), .ref (r0 11), .ref (r0 12), .int m_many, .ref (r0 13), .ref (r0 14), .ref (r0 15), .ref (r0 16), .ref (r0 17), .ref (r0 18), .ref (r0 19), .ref (r0 20), .ref (r0 21), .ref (r0 22), .int m_due, .ref (r0 23), .ref (r0 24), .ref (r0 25), .ref (r0 26), .ref (r0 27), .ref (r0 28), .ref (r0 29)], aI (r0 1) cB 6000 m_tape_13] [])) hx hb hts hi_X7_addInt_7 tyX7 tyX7_ok nmX7 hown E.1 hP15 hD15 hS15 0 rfl rfl 2 (by decide) (hts _ (List.mem_of_getElem? (i := 2) rfl)) (fun _ h9 => h9) rfl (by decide +kernel) rfl rfl (Nat.le_of_ble_eq_true rfl) rfl dX7_addInt_27 (fun H18 lc18 hP18 hD18 hS18 => ?_)
        clear hP15 hD15 hS15
        obtain ⟨v2_19, ev2_19, hm20⟩ := nm_some hm17; clear hm17
        refine lv_iinc (v := v2_19) (lv' := [(2, .int v2_19), (0, .ref (r0 0)), (1, .int x1)]) hx hb dX7_addInt_30 hl6 (k := 2) rfl (by rw [ev2_19]; rfl) (by decide) rfl (fun ls21 hl21 => ?_); clear hl6
        refine lv_goto (tgt := 3) hx hb dX7_addInt_33 (by decide) ?_
        exact ih m_length_16 m_tape_13 v2_19 _ _ _ _ hm20 hP18 hD18 hS18 (lv_sub hl21 [1, 2, 0] rfl) kx
  refine LP2 4000 m_length m_tape (24 : Int32) (m_length_22, m_tape_23) _ _ _ hlp2 hP0 hD0 hS0 (lv_sub hl1 [1, 2, 0] rfl) (fun H25 lc25 ls25 hP25 hD25 hS25 hl25 => ?_); clear LP2 hlp2
  clear hP0 hD0 hS0
  have hl25 : lv_has ls25 3 [] := hl25
  have hP25 : va_P D vwCl (wf [oB (r0 0) 7 [.int m_thrown, .ref (r0 1), .int m_length_22, .int m_at, .int m_fault, .int m_hasHeader, .int m_width, .int m_height, .int m_limit, .ref (r0 2), .ref (r0 3), .ref (r0 4), .ref (r0 5), .ref (r0 6), .ref (r0 7), .ref (r0 8), .ref (r0 9), .int m_hasPicture, .int m_frames, .int m_taken, .ref (r0 10), .ref (r0 11), .ref (r0 12), .int m_many, .ref (r0 13), .ref (r0 14), .ref (r0 15), .ref (r0 16), .ref (r0 17), .ref (r0 18), .ref (r0 19), .ref (r0 20), .ref (r0 21), .ref (r0 22), .int m_due, .ref (r0 23), .ref (r0 24), .ref (r0 25), .ref (r0 26), .ref (r0 27), .ref (r0 28), .ref (r0 29)], aI (r0 1) cB 6000 m_tape_23] []) H25 := hP25
  have hD25 : va_D A (wf [oB (r0 0) 7 [.int m_thrown, .ref (r0 1), .int m_length_22, .int m_at, .int m_fault, .int m_hasHeader, .int m_width, .int m_height, .int m_limit, .ref (r0 2), .ref (r0 3), .ref (r0 4), .ref (r0 5), .ref (r0 6), .ref (r0 7), .ref (r0 8), .ref (r0 9), .int m_hasPicture, .int m_frames, .int m_taken, .ref (r0 10), .ref (r0 11), .ref (r0 12), .int m_many, .ref (r0 13), .ref (r0 14), .ref (r0 15), .ref (r0 16), .ref (r0 17), .ref (r0 18), .ref (r0 19), .ref (r0 20), .ref (r0 21), .ref (r0 22), .int m_due, .ref (r0 23), .ref (r0 24), .ref (r0 25), .ref (r0 26), .ref (r0 27), .ref (r0 28), .ref (r0 29)], aI (r0 1) cB 6000 m_tape_23] []) := hD25
  obtain rfl := Option.some.inj hm24
  rw [hQ]
  exact ct_vret hx hb hr hlk hP25 hD25 hS25 dX7_addInt_36

def f_X7_feed (x1 : Int32) (x2 : Int32) (x3 : Int32) (x4 : Int32) (m_thrown : Int32) (m_length : Int32) (m_tape : Nat → Int32) : Option (Int32 × Int32 × Int32 × (Nat → Int32)) :=
  jn (fun (k2 : Int32 → Option (Int32 × Int32 × Int32 × (Nat → Int32))) => (if (m_length + (16 : Int32)) ≤ (6000 : Int32) then
  (k2 (0 : Int32))
  else
  (k2 (1 : Int32)))) fun k0_3 =>
  bd2 (f_X7_refused k0_3 (0 : Int32) (0 : Int32) m_thrown) fun y_6 m_thrown_7 =>
  (if y_6 = (0 : Int32) then
  (bd2 (f_X7_addInt x1 m_length m_tape) fun m_length_13 m_tape_14 =>
  bd2 (f_X7_addInt x2 m_length_13 m_tape_14) fun m_length_18 m_tape_19 =>
  bd2 (f_X7_addInt x3 m_length_18 m_tape_19) fun m_length_23 m_tape_24 =>
  bd2 (f_X7_addInt x4 m_length_23 m_tape_24) fun m_length_28 m_tape_29 =>
  some (m_length_28, m_thrown_7, m_length_28, m_tape_29))
  else
  (some ((0 : Int32), m_thrown_7, m_length, m_tape)))

abbrev rm_X7_feed : Room := { frames := 1, cells := 0, slots := 0, locals := 23 }

theorem cdS_X7_feed : yX7_feed.cls ≠ "java/lang/invoke/MethodHandle" ∧ yX7_feed.cls ≠ "java/lang/invoke/VarHandle" ∧ (parseMethodDescriptor yX7_feed.desc).map (fun d => d.parameters.length) = some 4 := by decide +kernel

theorem cdV_X7_feed : yX7_feed.cls = RX7 ∧ yX7_feed.cls ≠ "java/lang/invoke/MethodHandle" ∧ yX7_feed.cls ≠ "java/lang/invoke/VarHandle" ∧ (parseMethodDescriptor yX7_feed.desc).map (fun d => d.parameters.length) = some 4 := ⟨rfl, cdS_X7_feed⟩

theorem hi_X7_feed_7 : ∀ w ∈ u_ws RX7 TX7 42, w ∈ wsX7_feed := fun _ h => List.mem_cons_of_mem _ (List.mem_append_right _ h)

set_option maxHeartbeats 40000000 in
set_option maxRecDepth 100000 in
theorem c_X7_feed (l : Launch) (D : va_G) (cB cI cJ cQ : ClassId) (N : Nat) (r0 : Nat → Nat) (sz : Nat) (x1 : Int32) (x2 : Int32) (x3 : Int32) (x4 : Int32) (m_thrown : Int32) (m_length : Int32) (m_at : Int32) (m_fault : Int32) (m_hasHeader : Int32) (m_width : Int32) (m_height : Int32) (m_limit : Int32) (m_hasPicture : Int32) (m_frames : Int32) (m_taken : Int32) (m_many : Int32) (m_due : Int32) (m_tape : Nat → Int32) (o : Int32 × Int32 × Int32 × (Nat → Int32)) (hm0 : f_X7_feed x1 x2 x3 x4 m_thrown m_length m_tape = some o) : Met l yX7_feed wsX7_feed rm_X7_feed (ctP D cB cI cJ cQ N sz [.ref (r0 0), .int x1, .int x2, .int x3, .int x4] (wf [oB (r0 0) 7 [.int m_thrown, .ref (r0 1), .int m_length, .int m_at, .int m_fault, .int m_hasHeader, .int m_width, .int m_height, .int m_limit, .ref (r0 2), .ref (r0 3), .ref (r0 4), .ref (r0 5), .ref (r0 6), .ref (r0 7), .ref (r0 8), .ref (r0 9), .int m_hasPicture, .int m_frames, .int m_taken, .ref (r0 10), .ref (r0 11), .ref (r0 12), .int m_many, .ref (r0 13), .ref (r0 14), .ref (r0 15), .ref (r0 16), .ref (r0 17), .ref (r0 18), .ref (r0 19), .ref (r0 20), .ref (r0 21), .ref (r0 22), .int m_due, .ref (r0 23), .ref (r0 24), .ref (r0 25), .ref (r0 26), .ref (r0 27), .ref (r0 28), .ref (r0 29)], aI (r0 1) cB 6000 m_tape] [])) (ctQi D (o.1) (wf [oB (r0 0) 7 [.int (o.2.1), .ref (r0 1), .int (o.2.2.1), .int m_at, .int m_fault, .int m_hasHeader, .int m_width, .int m_height, .int m_limit, .ref (r0 2), .ref (r0 3), .ref (r0 4), .ref (r0 5), .ref (r0 6), .ref (r0 7), .ref (r0 8), .ref (r0 9), .int m_hasPicture, .int m_frames, .int m_taken, .ref (r0 10), .ref (r0 11), .ref (r0 12), .int m_many, .ref (r0 13), .ref (r0 14), .ref (r0 15), .ref (r0 16), .ref (r0 17), .ref (r0 18), .ref (r0 19), .ref (r0 20), .ref (r0 21), .ref (r0 22), .int m_due, .ref (r0 23), .ref (r0 24), .ref (r0 25), .ref (r0 26), .ref (r0 27), .ref (r0 28), .ref (r0 29)], aI (r0 1) cB 6000 (o.2.2.2)] []) (va_A (wf [oB (r0 0) 7 [.int m_thrown, .ref (r0 1), .int m_length, .int m_at, .int m_fault, .int m_hasHeader, .int m_width, .int m_height, .int m_limit, .ref (r0 2), .ref (r0 3), .ref (r0 4), .ref (r0 5), .ref (r0 6), .ref (r0 7), .ref (r0 8), .ref (r0 9), .int m_hasPicture, .int m_frames, .int m_taken, .ref (r0 10), .ref (r0 11), .ref (r0 12), .int m_many, .ref (r0 13), .ref (r0 14), .ref (r0 15), .ref (r0 16), .ref (r0 17), .ref (r0 18), .ref (r0 19), .ref (r0 20), .ref (r0 21), .ref (r0 22), .int m_due, .ref (r0 23), .ref (r0 24), .ref (r0 25), .ref (r0 26), .ref (r0 27), .ref (r0 28), .ref (r0 29)], aI (r0 1) cB 6000 m_tape] []) sz)) 0 0 (va_A (wf [oB (r0 0) 7 [.int m_thrown, .ref (r0 1), .int m_length, .int m_at, .int m_fault, .int m_hasHeader, .int m_width, .int m_height, .int m_limit, .ref (r0 2), .ref (r0 3), .ref (r0 4), .ref (r0 5), .ref (r0 6), .ref (r0 7), .ref (r0 8), .ref (r0 9), .int m_hasPicture, .int m_frames, .int m_taken, .ref (r0 10), .ref (r0 11), .ref (r0 12), .int m_many, .ref (r0 13), .ref (r0 14), .ref (r0 15), .ref (r0 16), .ref (r0 17), .ref (r0 18), .ref (r0 19), .ref (r0 20), .ref (r0 21), .ref (r0 22), .int m_due, .ref (r0 23), .ref (r0 24), .ref (r0 25), .ref (r0 26), .ref (r0 27), .ref (r0 28), .ref (r0 29)], aI (r0 1) cB 6000 m_tape] []) sz) := by
  refine ct_of (y := yX7_feed) (av := [.ref (r0 0), .int x1, .int x2, .int x3, .int x4]) (cc := cX7_feed) (maxL := 5) (ret := (some .int)) (own := RX7) (Qp := ctQi D (o.1) (wf [oB (r0 0) 7 [.int (o.2.1), .ref (r0 1), .int (o.2.2.1), .int m_at, .int m_fault, .int m_hasHeader, .int m_width, .int m_height, .int m_limit, .ref (r0 2), .ref (r0 3), .ref (r0 4), .ref (r0 5), .ref (r0 6), .ref (r0 7), .ref (r0 8), .ref (r0 9), .int m_hasPicture, .int m_frames, .int m_taken, .ref (r0 10), .ref (r0 11), .ref (r0 12), .int m_many, .ref (r0 13), .ref (r0 14), .ref (r0 15), .ref (r0 16), .ref (r0 17), .ref (r0 18), .ref (r0 19), .ref (r0 20), .ref (r0 21), .ref (r0 22), .int m_due, .ref (r0 23), .ref (r0 24), .ref (r0 25), .ref (r0 26), .ref (r0 27), .ref (r0 28), .ref (r0 29)], aI (r0 1) cB 6000 (o.2.2.2)] [])) (by decide) rfl rfl (Nat.le_of_ble_eq_true rfl) ?_
  intro p e s m args below meth c A hx hb hr hml hown hts hlk hnm hsz hAe E hP0 hD0 hS0 ls0 hl0
  subst hsz
  have hl0 : lv_has ls0 5 [(0, .ref (r0 0)), (1, .int x1), (2, .int x2), (3, .int x3), (4, .int x4)] := hl0
  obtain ⟨QQ, hQ⟩ : ∃ Q : State → Prop, Q = MQ below (ctQi D (o.1) (wf [oB (r0 0) 7 [.int (o.2.1), .ref (r0 1), .int (o.2.2.1), .int m_at, .int m_fault, .int m_hasHeader, .int m_width, .int m_height, .int m_limit, .ref (r0 2), .ref (r0 3), .ref (r0 4), .ref (r0 5), .ref (r0 6), .ref (r0 7), .ref (r0 8), .ref (r0 9), .int m_hasPicture, .int m_frames, .int m_taken, .ref (r0 10), .ref (r0 11), .ref (r0 12), .int m_many, .ref (r0 13), .ref (r0 14), .ref (r0 15), .ref (r0 16), .ref (r0 17), .ref (r0 18), .ref (r0 19), .ref (r0 20), .ref (r0 21), .ref (r0 22), .int m_due, .ref (r0 23), .ref (r0 24), .ref (r0 25), .ref (r0 26), .ref (r0 27), .ref (r0 28), .ref (r0 29)], aI (r0 1) cB 6000 (o.2.2.2)] []) A) args s 0 0 A := ⟨_, rfl⟩
  rw [← hQ]
  unfold f_X7_feed at hm0
  refine lv_aload_n hx hb dX7_feed_0 rfl (lv_at hl0 0 rfl) ?_
  refine lv_aload_n hx hb dX7_feed_1 rfl (lv_at hl0 0 rfl) ?_
  refine va_get (D := D) (ci := 7) (v := .int m_length) (C := RX7) (T := TX7) (N := 42) hx hb hts hi_X7_feed_7 hown E.1 hP0 0 rfl rfl 2 (by decide) (hts _ (List.mem_of_getElem? (i := 1) rfl)) (fun _ h9 => h9) rfl dX7_feed_2 ?_
  refine lv_bipush (v := 16) hx hb dX7_feed_5 (by decide) ?_
  refine lv_iadd hx hb dX7_feed_7 ?_
  refine lv_sipush (v := 6000) hx hb dX7_feed_8 (by decide) ?_
  obtain ⟨k2, ek2, hm2⟩ := jn_some hm0; clear hm0
  have KJ2 : ∀ (k0_3 : Int32) (H4 : Heap) (lc4 : List Loc) (ls4 : Array Slot), k2 k0_3 = some o → va_P D vwCl (wf [oB (r0 0) 7 [.int m_thrown, .ref (r0 1), .int m_length, .int m_at, .int m_fault, .int m_hasHeader, .int m_width, .int m_height, .int m_limit, .ref (r0 2), .ref (r0 3), .ref (r0 4), .ref (r0 5), .ref (r0 6), .ref (r0 7), .ref (r0 8), .ref (r0 9), .int m_hasPicture, .int m_frames, .int m_taken, .ref (r0 10), .ref (r0 11), .ref (r0 12), .int m_many, .ref (r0 13), .ref (r0 14), .ref (r0 15), .ref (r0 16), .ref (r0 17), .ref (r0 18), .ref (r0 19), .ref (r0 20), .ref (r0 21), .ref (r0 22), .int m_due, .ref (r0 23), .ref (r0 24), .ref (r0 25), .ref (r0 26), .ref (r0 27), .ref (r0 28), .ref (r0 29)], aI (r0 1) cB 6000 m_tape] []) H4 → va_D A (wf [oB (r0 0) 7 [.int m_thrown, .ref (r0 1), .int m_length, .int m_at, .int m_fault, .int m_hasHeader, .int m_width, .int m_height, .int m_limit, .ref (r0 2), .ref (r0 3), .ref (r0 4), .ref (r0 5), .ref (r0 6), .ref (r0 7), .ref (r0 8), .ref (r0 9), .int m_hasPicture, .int m_frames, .int m_taken, .ref (r0 10), .ref (r0 11), .ref (r0 12), .int m_many, .ref (r0 13), .ref (r0 14), .ref (r0 15), .ref (r0 16), .ref (r0 17), .ref (r0 18), .ref (r0 19), .ref (r0 20), .ref (r0 21), .ref (r0 22), .int m_due, .ref (r0 23), .ref (r0 24), .ref (r0 25), .ref (r0 26), .ref (r0 27), .ref (r0 28), .ref (r0 29)], aI (r0 1) cB 6000 m_tape] []) → va_S A s.heap H4 lc4 → lv_has ls4 5 [(0, .ref (r0 0)), (1, .int x1), (2, .int x2), (3, .int x3), (4, .int x4)] → W p l e rm_X7_feed s m args below meth c H4 lc4 0 0 QQ (F0 m 19 ls4 [.int k0_3, .ref (r0 0)]) := by
    intro k0_3 H4 lc4 ls4 hm5 hP4 hD4 hS4 hl4
    rw [ek2] at hm5
    refine lv_iconst (v := 0) hx hb dX7_feed_19 (by decide) ?_
    refine lv_iconst (v := 0) hx hb dX7_feed_20 (by decide) ?_
    obtain ⟨y_6, m_thrown_7, hcl8, hm8⟩ := bd2_some hm5; clear hm5
    have sb9 := ctS.mk (n := 2) (k := 0) (pre := [oB (r0 0) 7 [.int m_thrown, .ref (r0 1), .int m_length, .int m_at, .int m_fault, .int m_hasHeader, .int m_width, .int m_height, .int m_limit, .ref (r0 2), .ref (r0 3), .ref (r0 4), .ref (r0 5), .ref (r0 6), .ref (r0 7), .ref (r0 8), .ref (r0 9), .int m_hasPicture, .int m_frames, .int m_taken, .ref (r0 10), .ref (r0 11), .ref (r0 12), .int m_many, .ref (r0 13), .ref (r0 14), .ref (r0 15), .ref (r0 16), .ref (r0 17), .ref (r0 18), .ref (r0 19), .ref (r0 20), .ref (r0 21), .ref (r0 22), .int m_due, .ref (r0 23), .ref (r0 24), .ref (r0 25), .ref (r0 26), .ref (r0 27), .ref (r0 28), .ref (r0 29)], aI (r0 1) cB 6000 m_tape]) (tl := []) [0] [1] [] [] rfl rfl (by decide +kernel) (by decide +kernel)
    refine ct_calli (r := y_6) E sb9 hP4 hD4 hS4 (va_runV (As := [.int k0_3, .int (0 : Int32), .int (0 : Int32)]) (rest := []) ⟨hx, hb, hml, hown, hts⟩ (c_X7_refused l D cB cI cJ cQ N r0 H4.size k0_3 (0 : Int32) (0 : Int32) m_thrown m_length m_at m_fault m_hasHeader m_width m_height m_limit m_hasPicture m_frames m_taken m_many m_due (y_6, m_thrown_7) hcl8) (cwV 3 hts gX7_feed_X7_refused rfl rfl rfl cdV_X7_refused ⟨Nat.le_of_ble_eq_true rfl, Nat.le_of_ble_eq_true rfl⟩) (ct_preV (q0 := 0) (ci := 7) E sb9 hP4 hD4 hS4 rfl rfl) rfl rfl hl4.1 rfl (lv_room (Nat.le_of_ble_eq_true rfl)) dX7_feed_21 ⟨Nat.zero_le _, Nat.zero_le _⟩) (fun H10 lc10 hP10 hD10 hS10 => ?_); clear sb9 hcl8
    clear hP4 hD4 hS4
    have hP10 : va_P D vwCl (wf [aI (r0 1) cB 6000 m_tape, oB (r0 0) 7 [.int m_thrown_7, .ref (r0 1), .int m_length, .int m_at, .int m_fault, .int m_hasHeader, .int m_width, .int m_height, .int m_limit, .ref (r0 2), .ref (r0 3), .ref (r0 4), .ref (r0 5), .ref (r0 6), .ref (r0 7), .ref (r0 8), .ref (r0 9), .int m_hasPicture, .int m_frames, .int m_taken, .ref (r0 10), .ref (r0 11), .ref (r0 12), .int m_many, .ref (r0 13), .ref (r0 14), .ref (r0 15), .ref (r0 16), .ref (r0 17), .ref (r0 18), .ref (r0 19), .ref (r0 20), .ref (r0 21), .ref (r0 22), .int m_due, .ref (r0 23), .ref (r0 24), .ref (r0 25), .ref (r0 26), .ref (r0 27), .ref (r0 28), .ref (r0 29)]] []) H10 := hP10
    have hD10 : va_D A (wf [aI (r0 1) cB 6000 m_tape, oB (r0 0) 7 [.int m_thrown_7, .ref (r0 1), .int m_length, .int m_at, .int m_fault, .int m_hasHeader, .int m_width, .int m_height, .int m_limit, .ref (r0 2), .ref (r0 3), .ref (r0 4), .ref (r0 5), .ref (r0 6), .ref (r0 7), .ref (r0 8), .ref (r0 9), .int m_hasPicture, .int m_frames, .int m_taken, .ref (r0 10), .ref (r0 11), .ref (r0 12), .int m_many, .ref (r0 13), .ref (r0 14), .ref (r0 15), .ref (r0 16), .ref (r0 17), .ref (r0 18), .ref (r0 19), .ref (r0 20), .ref (r0 21), .ref (r0 22), .int m_due, .ref (r0 23), .ref (r0 24), .ref (r0 25), .ref (r0 26), .ref (r0 27), .ref (r0 28), .ref (r0 29)]] []) := hD10
    refine lv_if_eq (tgt := 29) hx hb dX7_feed_24 (by decide) (fun hc11 => ?_) (fun hc11 => ?_)
    · have hm12 := bq_t hm8 hc11; clear hm8
      refine lv_aload_n hx hb dX7_feed_29 rfl (lv_at hl4 0 rfl) ?_
      refine lv_iload_n hx hb dX7_feed_30 rfl (lv_at hl4 1 rfl) ?_
      obtain ⟨m_length_13, m_tape_14, hcl15, hm15⟩ := bd2_some hm12; clear hm12
      have sb16 := ctS.mk (n := 2) (k := 0) (pre := [aI (r0 1) cB 6000 m_tape, oB (r0 0) 7 [.int m_thrown_7, .ref (r0 1), .int m_length, .int m_at, .int m_fault, .int m_hasHeader, .int m_width, .int m_height, .int m_limit, .ref (r0 2), .ref (r0 3), .ref (r0 4), .ref (r0 5), .ref (r0 6), .ref (r0 7), .ref (r0 8), .ref (r0 9), .int m_hasPicture, .int m_frames, .int m_taken, .ref (r0 10), .ref (r0 11), .ref (r0 12), .int m_many, .ref (r0 13), .ref (r0 14), .ref (r0 15), .ref (r0 16), .ref (r0 17), .ref (r0 18), .ref (r0 19), .ref (r0 20), .ref (r0 21), .ref (r0 22), .int m_due, .ref (r0 23), .ref (r0 24), .ref (r0 25), .ref (r0 26), .ref (r0 27), .ref (r0 28), .ref (r0 29)]]) (tl := []) [1, 0] [] [] [] rfl rfl (by decide +kernel) (by decide +kernel)
      refine ct_callv E sb16 hP10 hD10 hS10 (va_runV (As := [.int x1]) (rest := []) ⟨hx, hb, hml, hown, hts⟩ (c_X7_addInt l D cB cI cJ cQ N r0 H10.size x1 m_thrown_7 m_length m_at m_fault m_hasHeader m_width m_height m_limit m_hasPicture m_frames m_taken m_many m_due m_tape (m_length_13, m_tape_14) hcl15) (cwV 1 hts gX7_feed_X7_addInt rfl rfl rfl cdV_X7_addInt ⟨Nat.le_of_ble_eq_true rfl, Nat.le_of_ble_eq_true rfl⟩) (ct_preV (q0 := 1) (ci := 7) E sb16 hP10 hD10 hS10 rfl rfl) rfl rfl hl4.1 rfl (lv_room (Nat.le_of_ble_eq_true rfl)) dX7_feed_31 ⟨Nat.zero_le _, Nat.zero_le _⟩) (fun H17 lc17 hP17 hD17 hS17 => ?_); clear sb16 hcl15
      clear hP10 hD10 hS10
      have hP17 : va_P D vwCl (wf [oB (r0 0) 7 [.int m_thrown_7, .ref (r0 1), .int m_length_13, .int m_at, .int m_fault, .int m_hasHeader, .int m_width, .int m_height, .int m_limit, .ref (r0 2), .ref (r0 3), .ref (r0 4), .ref (r0 5), .ref (r0 6), .ref (r0 7), .ref (r0 8), .ref (r0 9), .int m_hasPicture, .int m_frames, .int m_taken, .ref (r0 10), .ref (r0 11), .ref (r0 12), .int m_many, .ref (r0 13), .ref (r0 14), .ref (r0 15), .ref (r0 16), .ref (r0 17), .ref (r0 18), .ref (r0 19), .ref (r0 20), .ref (r0 21), .ref (r0 22), .int m_due, .ref (r0 23), .ref (r0 24), .ref (r0 25), .ref (r0 26), .ref (r0 27), .ref (r0 28), .ref (r0 29)], aI (r0 1) cB 6000 m_tape_14] []) H17 := hP17
      have hD17 : va_D A (wf [oB (r0 0) 7 [.int m_thrown_7, .ref (r0 1), .int m_length_13, .int m_at, .int m_fault, .int m_hasHeader, .int m_width, .int m_height, .int m_limit, .ref (r0 2), .ref (r0 3), .ref (r0 4), .ref (r0 5), .ref (r0 6), .ref (r0 7), .ref (r0 8), .ref (r0 9), .int m_hasPicture, .int m_frames, .int m_taken, .ref (r0 10), .ref (r0 11), .ref (r0 12), .int m_many, .ref (r0 13), .ref (r0 14), .ref (r0 15), .ref (r0 16), .ref (r0 17), .ref (r0 18), .ref (r0 19), .ref (r0 20), .ref (r0 21), .ref (r0 22), .int m_due, .ref (r0 23), .ref (r0 24), .ref (r0 25), .ref (r0 26), .ref (r0 27), .ref (r0 28), .ref (r0 29)], aI (r0 1) cB 6000 m_tape_14] []) := hD17
      refine lv_aload_n hx hb dX7_feed_34 rfl (lv_at hl4 0 rfl) ?_
      refine lv_iload_n hx hb dX7_feed_35 rfl (lv_at hl4 2 rfl) ?_
      obtain ⟨m_length_18, m_tape_19, hcl20, hm20⟩ := bd2_some hm15; clear hm15
      have sb21 := ctS.mk (n := 2) (k := 0) (pre := [oB (r0 0) 7 [.int m_thrown_7, .ref (r0 1), .int m_length_13, .int m_at, .int m_fault, .int m_hasHeader, .int m_width, .int m_height, .int m_limit, .ref (r0 2), .ref (r0 3), .ref (r0 4), .ref (r0 5), .ref (r0 6), .ref (r0 7), .ref (r0 8), .ref (r0 9), .int m_hasPicture, .int m_frames, .int m_taken, .ref (r0 10), .ref (r0 11), .ref (r0 12), .int m_many, .ref (r0 13), .ref (r0 14), .ref (r0 15), .ref (r0 16), .ref (r0 17), .ref (r0 18), .ref (r0 19), .ref (r0 20), .ref (r0 21), .ref (r0 22), .int m_due, .ref (r0 23), .ref (r0 24), .ref (r0 25), .ref (r0 26), .ref (r0 27), .ref (r0 28), .ref (r0 29)], aI (r0 1) cB 6000 m_tape_14]) (tl := []) [0, 1] [] [] [] rfl rfl (by decide +kernel) (by decide +kernel)
      refine ct_callv E sb21 hP17 hD17 hS17 (va_runV (As := [.int x2]) (rest := []) ⟨hx, hb, hml, hown, hts⟩ (c_X7_addInt l D cB cI cJ cQ N r0 H17.size x2 m_thrown_7 m_length_13 m_at m_fault m_hasHeader m_width m_height m_limit m_hasPicture m_frames m_taken m_many m_due m_tape_14 (m_length_18, m_tape_19) hcl20) (cwV 1 hts gX7_feed_X7_addInt rfl rfl rfl cdV_X7_addInt ⟨Nat.le_of_ble_eq_true rfl, Nat.le_of_ble_eq_true rfl⟩) (ct_preV (q0 := 0) (ci := 7) E sb21 hP17 hD17 hS17 rfl rfl) rfl rfl hl4.1 rfl (lv_room (Nat.le_of_ble_eq_true rfl)) dX7_feed_36 ⟨Nat.zero_le _, Nat.zero_le _⟩) (fun H22 lc22 hP22 hD22 hS22 => ?_); clear sb21 hcl20
      clear hP17 hD17 hS17
      have hP22 : va_P D vwCl (wf [oB (r0 0) 7 [.int m_thrown_7, .ref (r0 1), .int m_length_18, .int m_at, .int m_fault, .int m_hasHeader, .int m_width, .int m_height, .int m_limit, .ref (r0 2), .ref (r0 3), .ref (r0 4), .ref (r0 5), .ref (r0 6), .ref (r0 7), .ref (r0 8), .ref (r0 9), .int m_hasPicture, .int m_frames, .int m_taken, .ref (r0 10), .ref (r0 11), .ref (r0 12), .int m_many, .ref (r0 13), .ref (r0 14), .ref (r0 15), .ref (r0 16), .ref (r0 17), .ref (r0 18), .ref (r0 19), .ref (r0 20), .ref (r0 21), .ref (r0 22), .int m_due, .ref (r0 23), .ref (r0 24), .ref (r0 25), .ref (r0 26), .ref (r0 27), .ref (r0 28), .ref (r0 29)], aI (r0 1) cB 6000 m_tape_19] []) H22 := hP22
      have hD22 : va_D A (wf [oB (r0 0) 7 [.int m_thrown_7, .ref (r0 1), .int m_length_18, .int m_at, .int m_fault, .int m_hasHeader, .int m_width, .int m_height, .int m_limit, .ref (r0 2), .ref (r0 3), .ref (r0 4), .ref (r0 5), .ref (r0 6), .ref (r0 7), .ref (r0 8), .ref (r0 9), .int m_hasPicture, .int m_frames, .int m_taken, .ref (r0 10), .ref (r0 11), .ref (r0 12), .int m_many, .ref (r0 13), .ref (r0 14), .ref (r0 15), .ref (r0 16), .ref (r0 17), .ref (r0 18), .ref (r0 19), .ref (r0 20), .ref (r0 21), .ref (r0 22), .int m_due, .ref (r0 23), .ref (r0 24), .ref (r0 25), .ref (r0 26), .ref (r0 27), .ref (r0 28), .ref (r0 29)], aI (r0 1) cB 6000 m_tape_19] []) := hD22
      refine lv_aload_n hx hb dX7_feed_39 rfl (lv_at hl4 0 rfl) ?_
      refine lv_iload_n hx hb dX7_feed_40 rfl (lv_at hl4 3 rfl) ?_
      obtain ⟨m_length_23, m_tape_24, hcl25, hm25⟩ := bd2_some hm20; clear hm20
      have sb26 := ctS.mk (n := 2) (k := 0) (pre := [oB (r0 0) 7 [.int m_thrown_7, .ref (r0 1), .int m_length_18, .int m_at, .int m_fault, .int m_hasHeader, .int m_width, .int m_height, .int m_limit, .ref (r0 2), .ref (r0 3), .ref (r0 4), .ref (r0 5), .ref (r0 6), .ref (r0 7), .ref (r0 8), .ref (r0 9), .int m_hasPicture, .int m_frames, .int m_taken, .ref (r0 10), .ref (r0 11), .ref (r0 12), .int m_many, .ref (r0 13), .ref (r0 14), .ref (r0 15), .ref (r0 16), .ref (r0 17), .ref (r0 18), .ref (r0 19), .ref (r0 20), .ref (r0 21), .ref (r0 22), .int m_due, .ref (r0 23), .ref (r0 24), .ref (r0 25), .ref (r0 26), .ref (r0 27), .ref (r0 28), .ref (r0 29)], aI (r0 1) cB 6000 m_tape_19]) (tl := []) [0, 1] [] [] [] rfl rfl (by decide +kernel) (by decide +kernel)
      refine ct_callv E sb26 hP22 hD22 hS22 (va_runV (As := [.int x3]) (rest := []) ⟨hx, hb, hml, hown, hts⟩ (c_X7_addInt l D cB cI cJ cQ N r0 H22.size x3 m_thrown_7 m_length_18 m_at m_fault m_hasHeader m_width m_height m_limit m_hasPicture m_frames m_taken m_many m_due m_tape_19 (m_length_23, m_tape_24) hcl25) (cwV 1 hts gX7_feed_X7_addInt rfl rfl rfl cdV_X7_addInt ⟨Nat.le_of_ble_eq_true rfl, Nat.le_of_ble_eq_true rfl⟩) (ct_preV (q0 := 0) (ci := 7) E sb26 hP22 hD22 hS22 rfl rfl) rfl rfl hl4.1 rfl (lv_room (Nat.le_of_ble_eq_true rfl)) dX7_feed_41 ⟨Nat.zero_le _, Nat.zero_le _⟩) (fun H27 lc27 hP27 hD27 hS27 => ?_); clear sb26 hcl25
      clear hP22 hD22 hS22
      have hP27 : va_P D vwCl (wf [oB (r0 0) 7 [.int m_thrown_7, .ref (r0 1), .int m_length_23, .int m_at, .int m_fault, .int m_hasHeader, .int m_width, .int m_height, .int m_limit, .ref (r0 2), .ref (r0 3), .ref (r0 4), .ref (r0 5), .ref (r0 6), .ref (r0 7), .ref (r0 8), .ref (r0 9), .int m_hasPicture, .int m_frames, .int m_taken, .ref (r0 10), .ref (r0 11), .ref (r0 12), .int m_many, .ref (r0 13), .ref (r0 14), .ref (r0 15), .ref (r0 16), .ref (r0 17), .ref (r0 18), .ref (r0 19), .ref (r0 20), .ref (r0 21), .ref (r0 22), .int m_due, .ref (r0 23), .ref (r0 24), .ref (r0 25), .ref (r0 26), .ref (r0 27), .ref (r0 28), .ref (r0 29)], aI (r0 1) cB 6000 m_tape_24] []) H27 := hP27
      have hD27 : va_D A (wf [oB (r0 0) 7 [.int m_thrown_7, .ref (r0 1), .int m_length_23, .int m_at, .int m_fault, .int m_hasHeader, .int m_width, .int m_height, .int m_limit, .ref (r0 2), .ref (r0 3), .ref (r0 4), .ref (r0 5), .ref (r0 6), .ref (r0 7), .ref (r0 8), .ref (r0 9), .int m_hasPicture, .int m_frames, .int m_taken, .ref (r0 10), .ref (r0 11), .ref (r0 12), .int m_many, .ref (r0 13), .ref (r0 14), .ref (r0 15), .ref (r0 16), .ref (r0 17), .ref (r0 18), .ref (r0 19), .ref (r0 20), .ref (r0 21), .ref (r0 22), .int m_due, .ref (r0 23), .ref (r0 24), .ref (r0 25), .ref (r0 26), .ref (r0 27), .ref (r0 28), .ref (r0 29)], aI (r0 1) cB 6000 m_tape_24] []) := hD27
      refine lv_aload_n hx hb dX7_feed_44 rfl (lv_at hl4 0 rfl) ?_
      refine lv_iload hx hb dX7_feed_45 (lv_at hl4 4 rfl) ?_
      obtain ⟨m_length_28, m_tape_29, hcl30, hm30⟩ := bd2_some hm25; clear hm25
      have sb31 := ctS.mk (n := 2) (k := 0) (pre := [oB (r0 0) 7 [.int m_thrown_7, .ref (r0 1), .int m_length_23, .int m_at, .int m_fault, .int m_hasHeader, .int m_width, .int m_height, .int m_limit, .ref (r0 2), .ref (r0 3), .ref (r0 4), .ref (r0 5), .ref (r0 6), .ref (r0 7), .ref (r0 8), .ref (r0 9), .int m_hasPicture, .int m_frames, .int m_taken, .ref (r0 10), .ref (r0 11), .ref (r0 12), .int m_many, .ref (r0 13), .ref (r0 14), .ref (r0 15), .ref (r0 16), .ref (r0 17), .ref (r0 18), .ref (r0 19), .ref (r0 20), .ref (r0 21), .ref (r0 22), .int m_due, .ref (r0 23), .ref (r0 24), .ref (r0 25), .ref (r0 26), .ref (r0 27), .ref (r0 28), .ref (r0 29)], aI (r0 1) cB 6000 m_tape_24]) (tl := []) [0, 1] [] [] [] rfl rfl (by decide +kernel) (by decide +kernel)
      refine ct_callv E sb31 hP27 hD27 hS27 (va_runV (As := [.int x4]) (rest := []) ⟨hx, hb, hml, hown, hts⟩ (c_X7_addInt l D cB cI cJ cQ N r0 H27.size x4 m_thrown_7 m_length_23 m_at m_fault m_hasHeader m_width m_height m_limit m_hasPicture m_frames m_taken m_many m_due m_tape_24 (m_length_28, m_tape_29) hcl30) (cwV 1 hts gX7_feed_X7_addInt rfl rfl rfl cdV_X7_addInt ⟨Nat.le_of_ble_eq_true rfl, Nat.le_of_ble_eq_true rfl⟩) (ct_preV (q0 := 0) (ci := 7) E sb31 hP27 hD27 hS27 rfl rfl) rfl rfl hl4.1 rfl (lv_room (Nat.le_of_ble_eq_true rfl)) dX7_feed_47 ⟨Nat.zero_le _, Nat.zero_le _⟩) (fun H32 lc32 hP32 hD32 hS32 => ?_); clear sb31 hcl30
      clear hP27 hD27 hS27
      have hP32 : va_P D vwCl (wf [oB (r0 0) 7 [.int m_thrown_7, .ref (r0 1), .int m_length_28, .int m_at, .int m_fault, .int m_hasHeader, .int m_width, .int m_height, .int m_limit, .ref (r0 2), .ref (r0 3), .ref (r0 4), .ref (r0 5), .ref (r0 6), .ref (r0 7), .ref (r0 8), .ref (r0 9), .int m_hasPicture, .int m_frames, .int m_taken, .ref (r0 10), .ref (r0 11), .ref (r0 12), .int m_many, .ref (r0 13), .ref (r0 14), .ref (r0 15), .ref (r0 16), .ref (r0 17), .ref (r0 18), .ref (r0 19), .ref (r0 20), .ref (r0 21), .ref (r0 22), .int m_due, .ref (r0 23), .ref (r0 24), .ref (r0 25), .ref (r0 26), .ref (r0 27), .ref (r0 28), .ref (r0 29)], aI (r0 1) cB 6000 m_tape_29] []) H32 := hP32
      have hD32 : va_D A (wf [oB (r0 0) 7 [.int m_thrown_7, .ref (r0 1), .int m_length_28, .int m_at, .int m_fault, .int m_hasHeader, .int m_width, .int m_height, .int m_limit, .ref (r0 2), .ref (r0 3), .ref (r0 4), .ref (r0 5), .ref (r0 6), .ref (r0 7), .ref (r0 8), .ref (r0 9), .int m_hasPicture, .int m_frames, .int m_taken, .ref (r0 10), .ref (r0 11), .ref (r0 12), .int m_many, .ref (r0 13), .ref (r0 14), .ref (r0 15), .ref (r0 16), .ref (r0 17), .ref (r0 18), .ref (r0 19), .ref (r0 20), .ref (r0 21), .ref (r0 22), .int m_due, .ref (r0 23), .ref (r0 24), .ref (r0 25), .ref (r0 26), .ref (r0 27), .ref (r0 28), .ref (r0 29)], aI (r0 1) cB 6000 m_tape_29] []) := hD32
      refine lv_aload_n hx hb dX7_feed_50 rfl (lv_at hl4 0 rfl) ?_
      refine va_get (D := D) (ci := 7) (v := .int m_length_28) (C := RX7) (T := TX7) (N := 42) hx hb hts hi_X7_feed_7 hown E.1 hP32 0 rfl rfl 2 (by decide) (hts _ (List.mem_of_getElem? (i := 1) rfl)) (fun _ h9 => h9) rfl dX7_feed_51 ?_
      obtain rfl := Option.some.inj hm30
      rw [hQ]
      exact ct_iret hx hb hr hlk hP32 hD32 hS32 rfl dX7_feed_54
    · have hm33 := bq_f hm8 hc11; clear hm8
      refine lv_iconst (v := 0) hx hb dX7_feed_27 (by decide) ?_
      obtain ⟨hP34, hD34⟩ := ct_ord (n := 2) (k := 0) [1, 0] [] hP10 hD10 rfl rfl (by decide +kernel) (by decide +kernel)
      have hS34 := hS10
      have hP34 : va_P D vwCl (wf [oB (r0 0) 7 [.int m_thrown_7, .ref (r0 1), .int m_length, .int m_at, .int m_fault, .int m_hasHeader, .int m_width, .int m_height, .int m_limit, .ref (r0 2), .ref (r0 3), .ref (r0 4), .ref (r0 5), .ref (r0 6), .ref (r0 7), .ref (r0 8), .ref (r0 9), .int m_hasPicture, .int m_frames, .int m_taken, .ref (r0 10), .ref (r0 11), .ref (r0 12), .int m_many, .ref (r0 13), .ref (r0 14), .ref (r0 15), .ref (r0 16), .ref (r0 17), .ref (r0 18), .ref (r0 19), .ref (r0 20), .ref (r0 21), .ref (r0 22), .int m_due, .ref (r0 23), .ref (r0 24), .ref (r0 25), .ref (r0 26), .ref (r0 27), .ref (r0 28), .ref (r0 29)], aI (r0 1) cB 6000 m_tape] []) H10 := hP34
      have hD34 : va_D A (wf [oB (r0 0) 7 [.int m_thrown_7, .ref (r0 1), .int m_length, .int m_at, .int m_fault, .int m_hasHeader, .int m_width, .int m_height, .int m_limit, .ref (r0 2), .ref (r0 3), .ref (r0 4), .ref (r0 5), .ref (r0 6), .ref (r0 7), .ref (r0 8), .ref (r0 9), .int m_hasPicture, .int m_frames, .int m_taken, .ref (r0 10), .ref (r0 11), .ref (r0 12), .int m_many, .ref (r0 13), .ref (r0 14), .ref (r0 15), .ref (r0 16), .ref (r0 17), .ref (r0 18), .ref (r0 19), .ref (r0 20), .ref (r0 21), .ref (r0 22), .int m_due, .ref (r0 23), .ref (r0 24), .ref (r0 25), .ref (r0 26), .ref (r0 27), .ref (r0 28), .ref (r0 29)], aI (r0 1) cB 6000 m_tape] []) := hD34
      obtain rfl := Option.some.inj hm33
      rw [hQ]
      exact ct_iret hx hb hr hlk hP34 hD34 hS34 rfl dX7_feed_28
  refine lv_icmp_le (tgt := 18) hx hb dX7_feed_11 (by decide) (fun hc35 => ?_) (fun hc35 => ?_)
  · have hm36 := bq_t hm2 hc35; clear hm2
    refine lv_iconst (v := 0) hx hb dX7_feed_18 (by decide) ?_
    exact KJ2 (0 : Int32) _ _ _ hm36 hP0 hD0 hS0 (lv_sub hl0 [0, 1, 2, 3, 4] rfl)
  · have hm37 := bq_f hm2 hc35; clear hm2
    refine lv_iconst (v := 1) hx hb dX7_feed_14 (by decide) ?_
    refine lv_goto (tgt := 19) hx hb dX7_feed_15 (by decide) ?_
    exact KJ2 (1 : Int32) _ _ _ hm37 hP0 hD0 hS0 (lv_sub hl0 [0, 1, 2, 3, 4] rfl)

def f_X7_end (x1 : Int32) (m_thrown : Int32) (m_length : Int32) : Option (Int32 × Int32) :=
  jn (fun (k2 : Int32 → Option (Int32 × Int32)) => (if x1 < (0 : Int32) then
  (k2 (1 : Int32))
  else
  ((if x1 ≤ m_length then
  (k2 (0 : Int32))
  else
  (k2 (1 : Int32)))))) fun k0_3 =>
  bd2 (f_X7_refused k0_3 (0 : Int32) (0 : Int32) m_thrown) fun y_6 m_thrown_7 =>
  (if y_6 = (0 : Int32) then
  (some (m_thrown_7, x1))
  else
  (some (m_thrown_7, m_length)))

abbrev rm_X7_end : Room := { frames := 1, cells := 0, slots := 0, locals := 23 }

theorem cdS_X7_end : yX7_end.cls ≠ "java/lang/invoke/MethodHandle" ∧ yX7_end.cls ≠ "java/lang/invoke/VarHandle" ∧ (parseMethodDescriptor yX7_end.desc).map (fun d => d.parameters.length) = some 1 := by decide +kernel

theorem cdV_X7_end : yX7_end.cls = RX7 ∧ yX7_end.cls ≠ "java/lang/invoke/MethodHandle" ∧ yX7_end.cls ≠ "java/lang/invoke/VarHandle" ∧ (parseMethodDescriptor yX7_end.desc).map (fun d => d.parameters.length) = some 1 := ⟨rfl, cdS_X7_end⟩

theorem hi_X7_end_7 : ∀ w ∈ u_ws RX7 TX7 42, w ∈ wsX7_end := fun _ h => List.mem_cons_of_mem _ (List.mem_append_right _ h)

set_option maxHeartbeats 40000000 in
set_option maxRecDepth 100000 in
theorem c_X7_end (l : Launch) (D : va_G) (cB cI cJ cQ : ClassId) (N : Nat) (r0 : Nat → Nat) (sz : Nat) (x1 : Int32) (m_thrown : Int32) (m_length : Int32) (m_at : Int32) (m_fault : Int32) (m_hasHeader : Int32) (m_width : Int32) (m_height : Int32) (m_limit : Int32) (m_hasPicture : Int32) (m_frames : Int32) (m_taken : Int32) (m_many : Int32) (m_due : Int32) (o : Int32 × Int32) (hm0 : f_X7_end x1 m_thrown m_length = some o) : Met l yX7_end wsX7_end rm_X7_end (ctP D cB cI cJ cQ N sz [.ref (r0 0), .int x1] (wf [oB (r0 0) 7 [.int m_thrown, .ref (r0 1), .int m_length, .int m_at, .int m_fault, .int m_hasHeader, .int m_width, .int m_height, .int m_limit, .ref (r0 2), .ref (r0 3), .ref (r0 4), .ref (r0 5), .ref (r0 6), .ref (r0 7), .ref (r0 8), .ref (r0 9), .int m_hasPicture, .int m_frames, .int m_taken, .ref (r0 10), .ref (r0 11), .ref (r0 12), .int m_many, .ref (r0 13), .ref (r0 14), .ref (r0 15), .ref (r0 16), .ref (r0 17), .ref (r0 18), .ref (r0 19), .ref (r0 20), .ref (r0 21), .ref (r0 22), .int m_due, .ref (r0 23), .ref (r0 24), .ref (r0 25), .ref (r0 26), .ref (r0 27), .ref (r0 28), .ref (r0 29)]] [])) (ctQv D (wf [oB (r0 0) 7 [.int (o.1), .ref (r0 1), .int (o.2), .int m_at, .int m_fault, .int m_hasHeader, .int m_width, .int m_height, .int m_limit, .ref (r0 2), .ref (r0 3), .ref (r0 4), .ref (r0 5), .ref (r0 6), .ref (r0 7), .ref (r0 8), .ref (r0 9), .int m_hasPicture, .int m_frames, .int m_taken, .ref (r0 10), .ref (r0 11), .ref (r0 12), .int m_many, .ref (r0 13), .ref (r0 14), .ref (r0 15), .ref (r0 16), .ref (r0 17), .ref (r0 18), .ref (r0 19), .ref (r0 20), .ref (r0 21), .ref (r0 22), .int m_due, .ref (r0 23), .ref (r0 24), .ref (r0 25), .ref (r0 26), .ref (r0 27), .ref (r0 28), .ref (r0 29)]] []) (va_A (wf [oB (r0 0) 7 [.int m_thrown, .ref (r0 1), .int m_length, .int m_at, .int m_fault, .int m_hasHeader, .int m_width, .int m_height, .int m_limit, .ref (r0 2), .ref (r0 3), .ref (r0 4), .ref (r0 5), .ref (r0 6), .ref (r0 7), .ref (r0 8), .ref (r0 9), .int m_hasPicture, .int m_frames, .int m_taken, .ref (r0 10), .ref (r0 11), .ref (r0 12), .int m_many, .ref (r0 13), .ref (r0 14), .ref (r0 15), .ref (r0 16), .ref (r0 17), .ref (r0 18), .ref (r0 19), .ref (r0 20), .ref (r0 21), .ref (r0 22), .int m_due, .ref (r0 23), .ref (r0 24), .ref (r0 25), .ref (r0 26), .ref (r0 27), .ref (r0 28), .ref (r0 29)]] []) sz)) 0 0 (va_A (wf [oB (r0 0) 7 [.int m_thrown, .ref (r0 1), .int m_length, .int m_at, .int m_fault, .int m_hasHeader, .int m_width, .int m_height, .int m_limit, .ref (r0 2), .ref (r0 3), .ref (r0 4), .ref (r0 5), .ref (r0 6), .ref (r0 7), .ref (r0 8), .ref (r0 9), .int m_hasPicture, .int m_frames, .int m_taken, .ref (r0 10), .ref (r0 11), .ref (r0 12), .int m_many, .ref (r0 13), .ref (r0 14), .ref (r0 15), .ref (r0 16), .ref (r0 17), .ref (r0 18), .ref (r0 19), .ref (r0 20), .ref (r0 21), .ref (r0 22), .int m_due, .ref (r0 23), .ref (r0 24), .ref (r0 25), .ref (r0 26), .ref (r0 27), .ref (r0 28), .ref (r0 29)]] []) sz) := by
  refine ct_of (y := yX7_end) (av := [.ref (r0 0), .int x1]) (cc := cX7_end) (maxL := 2) (ret := none) (own := RX7) (Qp := ctQv D (wf [oB (r0 0) 7 [.int (o.1), .ref (r0 1), .int (o.2), .int m_at, .int m_fault, .int m_hasHeader, .int m_width, .int m_height, .int m_limit, .ref (r0 2), .ref (r0 3), .ref (r0 4), .ref (r0 5), .ref (r0 6), .ref (r0 7), .ref (r0 8), .ref (r0 9), .int m_hasPicture, .int m_frames, .int m_taken, .ref (r0 10), .ref (r0 11), .ref (r0 12), .int m_many, .ref (r0 13), .ref (r0 14), .ref (r0 15), .ref (r0 16), .ref (r0 17), .ref (r0 18), .ref (r0 19), .ref (r0 20), .ref (r0 21), .ref (r0 22), .int m_due, .ref (r0 23), .ref (r0 24), .ref (r0 25), .ref (r0 26), .ref (r0 27), .ref (r0 28), .ref (r0 29)]] [])) (by decide) rfl rfl (Nat.le_of_ble_eq_true rfl) ?_
  intro p e s m args below meth c A hx hb hr hml hown hts hlk hnm hsz hAe E hP0 hD0 hS0 ls0 hl0
  subst hsz
  have hl0 : lv_has ls0 2 [(0, .ref (r0 0)), (1, .int x1)] := hl0
  obtain ⟨QQ, hQ⟩ : ∃ Q : State → Prop, Q = MQ below (ctQv D (wf [oB (r0 0) 7 [.int (o.1), .ref (r0 1), .int (o.2), .int m_at, .int m_fault, .int m_hasHeader, .int m_width, .int m_height, .int m_limit, .ref (r0 2), .ref (r0 3), .ref (r0 4), .ref (r0 5), .ref (r0 6), .ref (r0 7), .ref (r0 8), .ref (r0 9), .int m_hasPicture, .int m_frames, .int m_taken, .ref (r0 10), .ref (r0 11), .ref (r0 12), .int m_many, .ref (r0 13), .ref (r0 14), .ref (r0 15), .ref (r0 16), .ref (r0 17), .ref (r0 18), .ref (r0 19), .ref (r0 20), .ref (r0 21), .ref (r0 22), .int m_due, .ref (r0 23), .ref (r0 24), .ref (r0 25), .ref (r0 26), .ref (r0 27), .ref (r0 28), .ref (r0 29)]] []) A) args s 0 0 A := ⟨_, rfl⟩
  rw [← hQ]
  unfold f_X7_end at hm0
  refine lv_aload_n hx hb dX7_end_0 rfl (lv_at hl0 0 rfl) ?_
  refine lv_iload_n hx hb dX7_end_1 rfl (lv_at hl0 1 rfl) ?_
  obtain ⟨k2, ek2, hm2⟩ := jn_some hm0; clear hm0
  have KJ2 : ∀ (k0_3 : Int32) (H4 : Heap) (lc4 : List Loc) (ls4 : Array Slot), k2 k0_3 = some o → va_P D vwCl (wf [oB (r0 0) 7 [.int m_thrown, .ref (r0 1), .int m_length, .int m_at, .int m_fault, .int m_hasHeader, .int m_width, .int m_height, .int m_limit, .ref (r0 2), .ref (r0 3), .ref (r0 4), .ref (r0 5), .ref (r0 6), .ref (r0 7), .ref (r0 8), .ref (r0 9), .int m_hasPicture, .int m_frames, .int m_taken, .ref (r0 10), .ref (r0 11), .ref (r0 12), .int m_many, .ref (r0 13), .ref (r0 14), .ref (r0 15), .ref (r0 16), .ref (r0 17), .ref (r0 18), .ref (r0 19), .ref (r0 20), .ref (r0 21), .ref (r0 22), .int m_due, .ref (r0 23), .ref (r0 24), .ref (r0 25), .ref (r0 26), .ref (r0 27), .ref (r0 28), .ref (r0 29)]] []) H4 → va_D A (wf [oB (r0 0) 7 [.int m_thrown, .ref (r0 1), .int m_length, .int m_at, .int m_fault, .int m_hasHeader, .int m_width, .int m_height, .int m_limit, .ref (r0 2), .ref (r0 3), .ref (r0 4), .ref (r0 5), .ref (r0 6), .ref (r0 7), .ref (r0 8), .ref (r0 9), .int m_hasPicture, .int m_frames, .int m_taken, .ref (r0 10), .ref (r0 11), .ref (r0 12), .int m_many, .ref (r0 13), .ref (r0 14), .ref (r0 15), .ref (r0 16), .ref (r0 17), .ref (r0 18), .ref (r0 19), .ref (r0 20), .ref (r0 21), .ref (r0 22), .int m_due, .ref (r0 23), .ref (r0 24), .ref (r0 25), .ref (r0 26), .ref (r0 27), .ref (r0 28), .ref (r0 29)]] []) → va_S A s.heap H4 lc4 → lv_has ls4 2 [(0, .ref (r0 0)), (1, .int x1)] → W p l e rm_X7_end s m args below meth c H4 lc4 0 0 QQ (F0 m 18 ls4 [.int k0_3, .ref (r0 0)]) := by
    intro k0_3 H4 lc4 ls4 hm5 hP4 hD4 hS4 hl4
    rw [ek2] at hm5
    refine lv_iconst (v := 0) hx hb dX7_end_18 (by decide) ?_
    refine lv_iconst (v := 0) hx hb dX7_end_19 (by decide) ?_
    obtain ⟨y_6, m_thrown_7, hcl8, hm8⟩ := bd2_some hm5; clear hm5
    have sb9 := ctS.mk (n := 1) (k := 0) (pre := [oB (r0 0) 7 [.int m_thrown, .ref (r0 1), .int m_length, .int m_at, .int m_fault, .int m_hasHeader, .int m_width, .int m_height, .int m_limit, .ref (r0 2), .ref (r0 3), .ref (r0 4), .ref (r0 5), .ref (r0 6), .ref (r0 7), .ref (r0 8), .ref (r0 9), .int m_hasPicture, .int m_frames, .int m_taken, .ref (r0 10), .ref (r0 11), .ref (r0 12), .int m_many, .ref (r0 13), .ref (r0 14), .ref (r0 15), .ref (r0 16), .ref (r0 17), .ref (r0 18), .ref (r0 19), .ref (r0 20), .ref (r0 21), .ref (r0 22), .int m_due, .ref (r0 23), .ref (r0 24), .ref (r0 25), .ref (r0 26), .ref (r0 27), .ref (r0 28), .ref (r0 29)]]) (tl := []) [0] [] [] [] rfl rfl (by decide +kernel) (by decide +kernel)
    refine ct_calli (r := y_6) E sb9 hP4 hD4 hS4 (va_runV (As := [.int k0_3, .int (0 : Int32), .int (0 : Int32)]) (rest := []) ⟨hx, hb, hml, hown, hts⟩ (c_X7_refused l D cB cI cJ cQ N r0 H4.size k0_3 (0 : Int32) (0 : Int32) m_thrown m_length m_at m_fault m_hasHeader m_width m_height m_limit m_hasPicture m_frames m_taken m_many m_due (y_6, m_thrown_7) hcl8) (cwV 3 hts gX7_end_X7_refused rfl rfl rfl cdV_X7_refused ⟨Nat.le_of_ble_eq_true rfl, Nat.le_of_ble_eq_true rfl⟩) (ct_preV (q0 := 0) (ci := 7) E sb9 hP4 hD4 hS4 rfl rfl) rfl rfl hl4.1 rfl (lv_room (Nat.le_of_ble_eq_true rfl)) dX7_end_20 ⟨Nat.zero_le _, Nat.zero_le _⟩) (fun H10 lc10 hP10 hD10 hS10 => ?_); clear sb9 hcl8
    clear hP4 hD4 hS4
    have hP10 : va_P D vwCl (wf [oB (r0 0) 7 [.int m_thrown_7, .ref (r0 1), .int m_length, .int m_at, .int m_fault, .int m_hasHeader, .int m_width, .int m_height, .int m_limit, .ref (r0 2), .ref (r0 3), .ref (r0 4), .ref (r0 5), .ref (r0 6), .ref (r0 7), .ref (r0 8), .ref (r0 9), .int m_hasPicture, .int m_frames, .int m_taken, .ref (r0 10), .ref (r0 11), .ref (r0 12), .int m_many, .ref (r0 13), .ref (r0 14), .ref (r0 15), .ref (r0 16), .ref (r0 17), .ref (r0 18), .ref (r0 19), .ref (r0 20), .ref (r0 21), .ref (r0 22), .int m_due, .ref (r0 23), .ref (r0 24), .ref (r0 25), .ref (r0 26), .ref (r0 27), .ref (r0 28), .ref (r0 29)]] []) H10 := hP10
    have hD10 : va_D A (wf [oB (r0 0) 7 [.int m_thrown_7, .ref (r0 1), .int m_length, .int m_at, .int m_fault, .int m_hasHeader, .int m_width, .int m_height, .int m_limit, .ref (r0 2), .ref (r0 3), .ref (r0 4), .ref (r0 5), .ref (r0 6), .ref (r0 7), .ref (r0 8), .ref (r0 9), .int m_hasPicture, .int m_frames, .int m_taken, .ref (r0 10), .ref (r0 11), .ref (r0 12), .int m_many, .ref (r0 13), .ref (r0 14), .ref (r0 15), .ref (r0 16), .ref (r0 17), .ref (r0 18), .ref (r0 19), .ref (r0 20), .ref (r0 21), .ref (r0 22), .int m_due, .ref (r0 23), .ref (r0 24), .ref (r0 25), .ref (r0 26), .ref (r0 27), .ref (r0 28), .ref (r0 29)]] []) := hD10
    refine lv_if_ne (tgt := 31) hx hb dX7_end_23 (by decide) (fun hc11 => ?_) (fun hc11 => ?_)
    · have hm12 := bq_f hm8 hc11; clear hm8
      obtain rfl := Option.some.inj hm12
      rw [hQ]
      exact ct_vret hx hb hr hlk hP10 hD10 hS10 dX7_end_31
    · have hm13 := bq_t hm8 hc11; clear hm8
      refine lv_aload_n hx hb dX7_end_26 rfl (lv_at hl4 0 rfl) ?_
      refine lv_iload_n hx hb dX7_end_27 rfl (lv_at hl4 1 rfl) ?_
      refine ct_put (D := D) (ci := 7) (v := .int x1) (ty := .int) (C := RX7) (T := TX7) (N := 42) (ws' := (wf [oB (r0 0) 7 [.int m_thrown_7, .ref (r0 1), .int x1, .int m_at, .int m_fault, .int m_hasHeader, .int m_width, .int m_height, .int m_limit, .ref (r0 2), .ref (r0 3), .ref (r0 4), .ref (r0 5), .ref (r0 6), .ref (r0 7), .ref (r0 8), .ref (r0 9), .int m_hasPicture, .int m_frames, .int m_taken, .ref (r0 10), .ref (r0 11), .ref (r0 12), .int m_many, .ref (r0 13), .ref (r0 14), .ref (r0 15), .ref (r0 16), .ref (r0 17), .ref (r0 18), .ref (r0 19), .ref (r0 20), .ref (r0 21), .ref (r0 22), .int m_due, .ref (r0 23), .ref (r0 24), .ref (r0 25), .ref (r0 26), .ref (r0 27), .ref (r0 28), .ref (r0 29)]] [])) hx hb hts hi_X7_end_7 tyX7 tyX7_ok nmX7 hown E.1 hP10 hD10 hS10 0 rfl rfl 2 (by decide) (hts _ (List.mem_of_getElem? (i := 1) rfl)) (fun _ h9 => h9) rfl (by decide +kernel) rfl rfl (Nat.le_of_ble_eq_true rfl) rfl dX7_end_28 (fun H14 lc14 hP14 hD14 hS14 => ?_)
      clear hP10 hD10 hS10
      obtain rfl := Option.some.inj hm13
      rw [hQ]
      exact ct_vret hx hb hr hlk hP14 hD14 hS14 dX7_end_31
  refine lv_if_lt (tgt := 13) hx hb dX7_end_2 (by decide) (fun hc15 => ?_) (fun hc15 => ?_)
  · have hm16 := bq_t hm2 hc15; clear hm2
    refine lv_iconst (v := 1) hx hb dX7_end_13 (by decide) ?_
    refine lv_goto (tgt := 18) hx hb dX7_end_14 (by decide) ?_
    exact KJ2 (1 : Int32) _ _ _ hm16 hP0 hD0 hS0 (lv_sub hl0 [0, 1] rfl)
  · have hm17 := bq_f hm2 hc15; clear hm2
    refine lv_iload_n hx hb dX7_end_5 rfl (lv_at hl0 1 rfl) ?_
    refine lv_aload_n hx hb dX7_end_6 rfl (lv_at hl0 0 rfl) ?_
    refine va_get (D := D) (ci := 7) (v := .int m_length) (C := RX7) (T := TX7) (N := 42) hx hb hts hi_X7_end_7 hown E.1 hP0 0 rfl rfl 2 (by decide) (hts _ (List.mem_of_getElem? (i := 1) rfl)) (fun _ h9 => h9) rfl dX7_end_7 ?_
    refine lv_icmp_le (tgt := 17) hx hb dX7_end_10 (by decide) (fun hc18 => ?_) (fun hc18 => ?_)
    · have hm19 := bq_t hm17 hc18; clear hm17
      refine lv_iconst (v := 0) hx hb dX7_end_17 (by decide) ?_
      exact KJ2 (0 : Int32) _ _ _ hm19 hP0 hD0 hS0 (lv_sub hl0 [0, 1] rfl)
    · have hm20 := bq_f hm17 hc18; clear hm17
      refine lv_iconst (v := 1) hx hb dX7_end_13 (by decide) ?_
      refine lv_goto (tgt := 18) hx hb dX7_end_14 (by decide) ?_
      exact KJ2 (1 : Int32) _ _ _ hm20 hP0 hD0 hS0 (lv_sub hl0 [0, 1] rfl)

def f_X7_fail (x1 : Int32) (m_fault : Int32) : Option (Int32) :=
  (if m_fault = (0 : Int32) then
  (some (x1))
  else
  (some (m_fault)))

abbrev rm_X7_fail : Room := { frames := 0, cells := 0, slots := 0, locals := 0 }

theorem cdS_X7_fail : yX7_fail.cls ≠ "java/lang/invoke/MethodHandle" ∧ yX7_fail.cls ≠ "java/lang/invoke/VarHandle" ∧ (parseMethodDescriptor yX7_fail.desc).map (fun d => d.parameters.length) = some 1 := by decide +kernel

theorem cdV_X7_fail : yX7_fail.cls = RX7 ∧ yX7_fail.cls ≠ "java/lang/invoke/MethodHandle" ∧ yX7_fail.cls ≠ "java/lang/invoke/VarHandle" ∧ (parseMethodDescriptor yX7_fail.desc).map (fun d => d.parameters.length) = some 1 := ⟨rfl, cdS_X7_fail⟩

theorem hi_X7_fail_7 : ∀ w ∈ u_ws RX7 TX7 42, w ∈ wsX7_fail := fun _ h => List.mem_cons_of_mem _ (List.mem_append_right _ h)

set_option maxHeartbeats 40000000 in
set_option maxRecDepth 100000 in
theorem c_X7_fail (l : Launch) (D : va_G) (cB cI cJ cQ : ClassId) (N : Nat) (r0 : Nat → Nat) (sz : Nat) (x1 : Int32) (m_thrown : Int32) (m_length : Int32) (m_at : Int32) (m_fault : Int32) (m_hasHeader : Int32) (m_width : Int32) (m_height : Int32) (m_limit : Int32) (m_hasPicture : Int32) (m_frames : Int32) (m_taken : Int32) (m_many : Int32) (m_due : Int32) (o : Int32) (hm0 : f_X7_fail x1 m_fault = some o) : Met l yX7_fail wsX7_fail rm_X7_fail (ctP D cB cI cJ cQ N sz [.ref (r0 0), .int x1] (wf [oB (r0 0) 7 [.int m_thrown, .ref (r0 1), .int m_length, .int m_at, .int m_fault, .int m_hasHeader, .int m_width, .int m_height, .int m_limit, .ref (r0 2), .ref (r0 3), .ref (r0 4), .ref (r0 5), .ref (r0 6), .ref (r0 7), .ref (r0 8), .ref (r0 9), .int m_hasPicture, .int m_frames, .int m_taken, .ref (r0 10), .ref (r0 11), .ref (r0 12), .int m_many, .ref (r0 13), .ref (r0 14), .ref (r0 15), .ref (r0 16), .ref (r0 17), .ref (r0 18), .ref (r0 19), .ref (r0 20), .ref (r0 21), .ref (r0 22), .int m_due, .ref (r0 23), .ref (r0 24), .ref (r0 25), .ref (r0 26), .ref (r0 27), .ref (r0 28), .ref (r0 29)]] [])) (ctQv D (wf [oB (r0 0) 7 [.int m_thrown, .ref (r0 1), .int m_length, .int m_at, .int o, .int m_hasHeader, .int m_width, .int m_height, .int m_limit, .ref (r0 2), .ref (r0 3), .ref (r0 4), .ref (r0 5), .ref (r0 6), .ref (r0 7), .ref (r0 8), .ref (r0 9), .int m_hasPicture, .int m_frames, .int m_taken, .ref (r0 10), .ref (r0 11), .ref (r0 12), .int m_many, .ref (r0 13), .ref (r0 14), .ref (r0 15), .ref (r0 16), .ref (r0 17), .ref (r0 18), .ref (r0 19), .ref (r0 20), .ref (r0 21), .ref (r0 22), .int m_due, .ref (r0 23), .ref (r0 24), .ref (r0 25), .ref (r0 26), .ref (r0 27), .ref (r0 28), .ref (r0 29)]] []) (va_A (wf [oB (r0 0) 7 [.int m_thrown, .ref (r0 1), .int m_length, .int m_at, .int m_fault, .int m_hasHeader, .int m_width, .int m_height, .int m_limit, .ref (r0 2), .ref (r0 3), .ref (r0 4), .ref (r0 5), .ref (r0 6), .ref (r0 7), .ref (r0 8), .ref (r0 9), .int m_hasPicture, .int m_frames, .int m_taken, .ref (r0 10), .ref (r0 11), .ref (r0 12), .int m_many, .ref (r0 13), .ref (r0 14), .ref (r0 15), .ref (r0 16), .ref (r0 17), .ref (r0 18), .ref (r0 19), .ref (r0 20), .ref (r0 21), .ref (r0 22), .int m_due, .ref (r0 23), .ref (r0 24), .ref (r0 25), .ref (r0 26), .ref (r0 27), .ref (r0 28), .ref (r0 29)]] []) sz)) 0 0 (va_A (wf [oB (r0 0) 7 [.int m_thrown, .ref (r0 1), .int m_length, .int m_at, .int m_fault, .int m_hasHeader, .int m_width, .int m_height, .int m_limit, .ref (r0 2), .ref (r0 3), .ref (r0 4), .ref (r0 5), .ref (r0 6), .ref (r0 7), .ref (r0 8), .ref (r0 9), .int m_hasPicture, .int m_frames, .int m_taken, .ref (r0 10), .ref (r0 11), .ref (r0 12), .int m_many, .ref (r0 13), .ref (r0 14), .ref (r0 15), .ref (r0 16), .ref (r0 17), .ref (r0 18), .ref (r0 19), .ref (r0 20), .ref (r0 21), .ref (r0 22), .int m_due, .ref (r0 23), .ref (r0 24), .ref (r0 25), .ref (r0 26), .ref (r0 27), .ref (r0 28), .ref (r0 29)]] []) sz) := by
  refine ct_of (y := yX7_fail) (av := [.ref (r0 0), .int x1]) (cc := cX7_fail) (maxL := 2) (ret := none) (own := RX7) (Qp := ctQv D (wf [oB (r0 0) 7 [.int m_thrown, .ref (r0 1), .int m_length, .int m_at, .int o, .int m_hasHeader, .int m_width, .int m_height, .int m_limit, .ref (r0 2), .ref (r0 3), .ref (r0 4), .ref (r0 5), .ref (r0 6), .ref (r0 7), .ref (r0 8), .ref (r0 9), .int m_hasPicture, .int m_frames, .int m_taken, .ref (r0 10), .ref (r0 11), .ref (r0 12), .int m_many, .ref (r0 13), .ref (r0 14), .ref (r0 15), .ref (r0 16), .ref (r0 17), .ref (r0 18), .ref (r0 19), .ref (r0 20), .ref (r0 21), .ref (r0 22), .int m_due, .ref (r0 23), .ref (r0 24), .ref (r0 25), .ref (r0 26), .ref (r0 27), .ref (r0 28), .ref (r0 29)]] [])) (by decide) rfl rfl (Nat.le_of_ble_eq_true rfl) ?_
  intro p e s m args below meth c A hx hb hr hml hown hts hlk hnm hsz hAe E hP0 hD0 hS0 ls0 hl0
  subst hsz
  have hl0 : lv_has ls0 2 [(0, .ref (r0 0)), (1, .int x1)] := hl0
  obtain ⟨QQ, hQ⟩ : ∃ Q : State → Prop, Q = MQ below (ctQv D (wf [oB (r0 0) 7 [.int m_thrown, .ref (r0 1), .int m_length, .int m_at, .int o, .int m_hasHeader, .int m_width, .int m_height, .int m_limit, .ref (r0 2), .ref (r0 3), .ref (r0 4), .ref (r0 5), .ref (r0 6), .ref (r0 7), .ref (r0 8), .ref (r0 9), .int m_hasPicture, .int m_frames, .int m_taken, .ref (r0 10), .ref (r0 11), .ref (r0 12), .int m_many, .ref (r0 13), .ref (r0 14), .ref (r0 15), .ref (r0 16), .ref (r0 17), .ref (r0 18), .ref (r0 19), .ref (r0 20), .ref (r0 21), .ref (r0 22), .int m_due, .ref (r0 23), .ref (r0 24), .ref (r0 25), .ref (r0 26), .ref (r0 27), .ref (r0 28), .ref (r0 29)]] []) A) args s 0 0 A := ⟨_, rfl⟩
  rw [← hQ]
  unfold f_X7_fail at hm0
  refine lv_aload_n hx hb dX7_fail_0 rfl (lv_at hl0 0 rfl) ?_
  refine lv_aload_n hx hb dX7_fail_1 rfl (lv_at hl0 0 rfl) ?_
  refine va_get (D := D) (ci := 7) (v := .int m_fault) (C := RX7) (T := TX7) (N := 42) hx hb hts hi_X7_fail_7 hown E.1 hP0 0 rfl rfl 4 (by decide) (hts _ (List.mem_of_getElem? (i := 1) rfl)) (fun _ h9 => h9) rfl dX7_fail_2 ?_
  refine lv_if_ne (tgt := 12) hx hb dX7_fail_5 (by decide) (fun hc1 => ?_) (fun hc1 => ?_)
  · have hm2 := bq_f hm0 hc1; clear hm0
    refine lv_aload_n hx hb dX7_fail_12 rfl (lv_at hl0 0 rfl) ?_
    refine va_get (D := D) (ci := 7) (v := .int m_fault) (C := RX7) (T := TX7) (N := 42) hx hb hts hi_X7_fail_7 hown E.1 hP0 0 rfl rfl 4 (by decide) (hts _ (List.mem_of_getElem? (i := 1) rfl)) (fun _ h9 => h9) rfl dX7_fail_13 ?_
    refine ct_put (D := D) (ci := 7) (v := .int m_fault) (ty := .int) (C := RX7) (T := TX7) (N := 42) (ws' := (wf [oB (r0 0) 7 [.int m_thrown, .ref (r0 1), .int m_length, .int m_at, .int m_fault, .int m_hasHeader, .int m_width, .int m_height, .int m_limit, .ref (r0 2), .ref (r0 3), .ref (r0 4), .ref (r0 5), .ref (r0 6), .ref (r0 7), .ref (r0 8), .ref (r0 9), .int m_hasPicture, .int m_frames, .int m_taken, .ref (r0 10), .ref (r0 11), .ref (r0 12), .int m_many, .ref (r0 13), .ref (r0 14), .ref (r0 15), .ref (r0 16), .ref (r0 17), .ref (r0 18), .ref (r0 19), .ref (r0 20), .ref (r0 21), .ref (r0 22), .int m_due, .ref (r0 23), .ref (r0 24), .ref (r0 25), .ref (r0 26), .ref (r0 27), .ref (r0 28), .ref (r0 29)]] [])) hx hb hts hi_X7_fail_7 tyX7 tyX7_ok nmX7 hown E.1 hP0 hD0 hS0 0 rfl rfl 4 (by decide) (hts _ (List.mem_of_getElem? (i := 1) rfl)) (fun _ h9 => h9) rfl (by decide +kernel) rfl rfl (Nat.le_of_ble_eq_true rfl) rfl dX7_fail_16 (fun H3 lc3 hP3 hD3 hS3 => ?_)
    clear hP0 hD0 hS0
    obtain rfl := Option.some.inj hm2
    rw [hQ]
    exact ct_vret hx hb hr hlk hP3 hD3 hS3 dX7_fail_19
  · have hm4 := bq_t hm0 hc1; clear hm0
    refine lv_iload_n hx hb dX7_fail_8 rfl (lv_at hl0 1 rfl) ?_
    refine lv_goto (tgt := 16) hx hb dX7_fail_9 (by decide) ?_
    refine ct_put (D := D) (ci := 7) (v := .int x1) (ty := .int) (C := RX7) (T := TX7) (N := 42) (ws' := (wf [oB (r0 0) 7 [.int m_thrown, .ref (r0 1), .int m_length, .int m_at, .int x1, .int m_hasHeader, .int m_width, .int m_height, .int m_limit, .ref (r0 2), .ref (r0 3), .ref (r0 4), .ref (r0 5), .ref (r0 6), .ref (r0 7), .ref (r0 8), .ref (r0 9), .int m_hasPicture, .int m_frames, .int m_taken, .ref (r0 10), .ref (r0 11), .ref (r0 12), .int m_many, .ref (r0 13), .ref (r0 14), .ref (r0 15), .ref (r0 16), .ref (r0 17), .ref (r0 18), .ref (r0 19), .ref (r0 20), .ref (r0 21), .ref (r0 22), .int m_due, .ref (r0 23), .ref (r0 24), .ref (r0 25), .ref (r0 26), .ref (r0 27), .ref (r0 28), .ref (r0 29)]] [])) hx hb hts hi_X7_fail_7 tyX7 tyX7_ok nmX7 hown E.1 hP0 hD0 hS0 0 rfl rfl 4 (by decide) (hts _ (List.mem_of_getElem? (i := 1) rfl)) (fun _ h9 => h9) rfl (by decide +kernel) rfl rfl (Nat.le_of_ble_eq_true rfl) rfl dX7_fail_16 (fun H5 lc5 hP5 hD5 hS5 => ?_)
    clear hP0 hD0 hS0
    obtain rfl := Option.some.inj hm4
    rw [hQ]
    exact ct_vret hx hb hr hlk hP5 hD5 hS5 dX7_fail_19

def f_X7_bit (m_length : Int32) (m_at : Int32) (m_fault : Int32) (m_tape : Nat → Int32) : Option (Int32 × Int32 × Int32) :=
  jn (fun (k2 : Int32 → Option (Int32 × Int32 × Int32)) => (if m_at = ((8 : Int32) * m_length) then
  (bd1 (f_X7_fail (1 : Int32) m_fault) fun m_fault_19 =>
  k2 m_fault_19)
  else
  (k2 m_fault))) fun m_fault_3 =>
  (if m_fault_3 ≤ (0 : Int32) then
  (gi (m_at / (8 : Int32)) 6000 <|
  nm ((((m_tape (m_at / (8 : Int32)).toNatClampNeg) >>> (((7 : Int32) - (m_at - m_at / (8 : Int32) * (8 : Int32))) &&& (31 : Int32))) &&& (1 : Int32)) : Int32) fun v1_9 =>
  nm ((m_at + (1 : Int32)) : Int32) fun m_at_12 =>
  some (v1_9, m_at_12, m_fault_3))
  else
  (some ((0 : Int32), m_at, m_fault_3)))

abbrev rm_X7_bit : Room := { frames := 1, cells := 0, slots := 0, locals := 21 }

theorem cdS_X7_bit : yX7_bit.cls ≠ "java/lang/invoke/MethodHandle" ∧ yX7_bit.cls ≠ "java/lang/invoke/VarHandle" ∧ (parseMethodDescriptor yX7_bit.desc).map (fun d => d.parameters.length) = some 0 := by decide +kernel

theorem cdV_X7_bit : yX7_bit.cls = RX7 ∧ yX7_bit.cls ≠ "java/lang/invoke/MethodHandle" ∧ yX7_bit.cls ≠ "java/lang/invoke/VarHandle" ∧ (parseMethodDescriptor yX7_bit.desc).map (fun d => d.parameters.length) = some 0 := ⟨rfl, cdS_X7_bit⟩

theorem hi_X7_bit_7 : ∀ w ∈ u_ws RX7 TX7 42, w ∈ wsX7_bit := fun _ h => List.mem_cons_of_mem _ (List.mem_append_right _ h)

set_option maxHeartbeats 40000000 in
set_option maxRecDepth 100000 in
theorem c_X7_bit (l : Launch) (D : va_G) (cB cI cJ cQ : ClassId) (N : Nat) (r0 : Nat → Nat) (sz : Nat) (m_thrown : Int32) (m_length : Int32) (m_at : Int32) (m_fault : Int32) (m_hasHeader : Int32) (m_width : Int32) (m_height : Int32) (m_limit : Int32) (m_hasPicture : Int32) (m_frames : Int32) (m_taken : Int32) (m_many : Int32) (m_due : Int32) (m_tape : Nat → Int32) (o : Int32 × Int32 × Int32) (hm0 : f_X7_bit m_length m_at m_fault m_tape = some o) : Met l yX7_bit wsX7_bit rm_X7_bit (ctP D cB cI cJ cQ N sz [.ref (r0 0)] (wf [oB (r0 0) 7 [.int m_thrown, .ref (r0 1), .int m_length, .int m_at, .int m_fault, .int m_hasHeader, .int m_width, .int m_height, .int m_limit, .ref (r0 2), .ref (r0 3), .ref (r0 4), .ref (r0 5), .ref (r0 6), .ref (r0 7), .ref (r0 8), .ref (r0 9), .int m_hasPicture, .int m_frames, .int m_taken, .ref (r0 10), .ref (r0 11), .ref (r0 12), .int m_many, .ref (r0 13), .ref (r0 14), .ref (r0 15), .ref (r0 16), .ref (r0 17), .ref (r0 18), .ref (r0 19), .ref (r0 20), .ref (r0 21), .ref (r0 22), .int m_due, .ref (r0 23), .ref (r0 24), .ref (r0 25), .ref (r0 26), .ref (r0 27), .ref (r0 28), .ref (r0 29)], aI (r0 1) cB 6000 m_tape] [])) (ctQi D (o.1) (wf [oB (r0 0) 7 [.int m_thrown, .ref (r0 1), .int m_length, .int (o.2.1), .int (o.2.2), .int m_hasHeader, .int m_width, .int m_height, .int m_limit, .ref (r0 2), .ref (r0 3), .ref (r0 4), .ref (r0 5), .ref (r0 6), .ref (r0 7), .ref (r0 8), .ref (r0 9), .int m_hasPicture, .int m_frames, .int m_taken, .ref (r0 10), .ref (r0 11), .ref (r0 12), .int m_many, .ref (r0 13), .ref (r0 14), .ref (r0 15), .ref (r0 16), .ref (r0 17), .ref (r0 18), .ref (r0 19), .ref (r0 20), .ref (r0 21), .ref (r0 22), .int m_due, .ref (r0 23), .ref (r0 24), .ref (r0 25), .ref (r0 26), .ref (r0 27), .ref (r0 28), .ref (r0 29)], aI (r0 1) cB 6000 m_tape] []) (va_A (wf [oB (r0 0) 7 [.int m_thrown, .ref (r0 1), .int m_length, .int m_at, .int m_fault, .int m_hasHeader, .int m_width, .int m_height, .int m_limit, .ref (r0 2), .ref (r0 3), .ref (r0 4), .ref (r0 5), .ref (r0 6), .ref (r0 7), .ref (r0 8), .ref (r0 9), .int m_hasPicture, .int m_frames, .int m_taken, .ref (r0 10), .ref (r0 11), .ref (r0 12), .int m_many, .ref (r0 13), .ref (r0 14), .ref (r0 15), .ref (r0 16), .ref (r0 17), .ref (r0 18), .ref (r0 19), .ref (r0 20), .ref (r0 21), .ref (r0 22), .int m_due, .ref (r0 23), .ref (r0 24), .ref (r0 25), .ref (r0 26), .ref (r0 27), .ref (r0 28), .ref (r0 29)], aI (r0 1) cB 6000 m_tape] []) sz)) 0 0 (va_A (wf [oB (r0 0) 7 [.int m_thrown, .ref (r0 1), .int m_length, .int m_at, .int m_fault, .int m_hasHeader, .int m_width, .int m_height, .int m_limit, .ref (r0 2), .ref (r0 3), .ref (r0 4), .ref (r0 5), .ref (r0 6), .ref (r0 7), .ref (r0 8), .ref (r0 9), .int m_hasPicture, .int m_frames, .int m_taken, .ref (r0 10), .ref (r0 11), .ref (r0 12), .int m_many, .ref (r0 13), .ref (r0 14), .ref (r0 15), .ref (r0 16), .ref (r0 17), .ref (r0 18), .ref (r0 19), .ref (r0 20), .ref (r0 21), .ref (r0 22), .int m_due, .ref (r0 23), .ref (r0 24), .ref (r0 25), .ref (r0 26), .ref (r0 27), .ref (r0 28), .ref (r0 29)], aI (r0 1) cB 6000 m_tape] []) sz) := by
  refine ct_of (y := yX7_bit) (av := [.ref (r0 0)]) (cc := cX7_bit) (maxL := 2) (ret := (some .int)) (own := RX7) (Qp := ctQi D (o.1) (wf [oB (r0 0) 7 [.int m_thrown, .ref (r0 1), .int m_length, .int (o.2.1), .int (o.2.2), .int m_hasHeader, .int m_width, .int m_height, .int m_limit, .ref (r0 2), .ref (r0 3), .ref (r0 4), .ref (r0 5), .ref (r0 6), .ref (r0 7), .ref (r0 8), .ref (r0 9), .int m_hasPicture, .int m_frames, .int m_taken, .ref (r0 10), .ref (r0 11), .ref (r0 12), .int m_many, .ref (r0 13), .ref (r0 14), .ref (r0 15), .ref (r0 16), .ref (r0 17), .ref (r0 18), .ref (r0 19), .ref (r0 20), .ref (r0 21), .ref (r0 22), .int m_due, .ref (r0 23), .ref (r0 24), .ref (r0 25), .ref (r0 26), .ref (r0 27), .ref (r0 28), .ref (r0 29)], aI (r0 1) cB 6000 m_tape] [])) (by decide) rfl rfl (Nat.le_of_ble_eq_true rfl) ?_
  intro p e s m args below meth c A hx hb hr hml hown hts hlk hnm hsz hAe E hP0 hD0 hS0 ls0 hl0
  subst hsz
  have hl0 : lv_has ls0 2 [(0, .ref (r0 0))] := hl0
  obtain ⟨QQ, hQ⟩ : ∃ Q : State → Prop, Q = MQ below (ctQi D (o.1) (wf [oB (r0 0) 7 [.int m_thrown, .ref (r0 1), .int m_length, .int (o.2.1), .int (o.2.2), .int m_hasHeader, .int m_width, .int m_height, .int m_limit, .ref (r0 2), .ref (r0 3), .ref (r0 4), .ref (r0 5), .ref (r0 6), .ref (r0 7), .ref (r0 8), .ref (r0 9), .int m_hasPicture, .int m_frames, .int m_taken, .ref (r0 10), .ref (r0 11), .ref (r0 12), .int m_many, .ref (r0 13), .ref (r0 14), .ref (r0 15), .ref (r0 16), .ref (r0 17), .ref (r0 18), .ref (r0 19), .ref (r0 20), .ref (r0 21), .ref (r0 22), .int m_due, .ref (r0 23), .ref (r0 24), .ref (r0 25), .ref (r0 26), .ref (r0 27), .ref (r0 28), .ref (r0 29)], aI (r0 1) cB 6000 m_tape] []) A) args s 0 0 A := ⟨_, rfl⟩
  rw [← hQ]
  unfold f_X7_bit at hm0
  refine lv_aload_n hx hb dX7_bit_0 rfl (lv_at hl0 0 rfl) ?_
  refine va_get (D := D) (ci := 7) (v := .int m_at) (C := RX7) (T := TX7) (N := 42) hx hb hts hi_X7_bit_7 hown E.1 hP0 0 rfl rfl 3 (by decide) (hts _ (List.mem_of_getElem? (i := 1) rfl)) (fun _ h9 => h9) rfl dX7_bit_1 ?_
  refine lv_bipush (v := 8) hx hb dX7_bit_4 (by decide) ?_
  refine lv_aload_n hx hb dX7_bit_6 rfl (lv_at hl0 0 rfl) ?_
  refine va_get (D := D) (ci := 7) (v := .int m_length) (C := RX7) (T := TX7) (N := 42) hx hb hts hi_X7_bit_7 hown E.1 hP0 0 rfl rfl 2 (by decide) (hts _ (List.mem_of_getElem? (i := 2) rfl)) (fun _ h9 => h9) rfl dX7_bit_7 ?_
  refine lv_imul hx hb dX7_bit_10 ?_
  obtain ⟨k2, ek2, hm2⟩ := jn_some hm0; clear hm0
  have KJ2 : ∀ (m_fault_3 : Int32) (H4 : Heap) (lc4 : List Loc) (ls4 : Array Slot), k2 m_fault_3 = some o → va_P D vwCl (wf [oB (r0 0) 7 [.int m_thrown, .ref (r0 1), .int m_length, .int m_at, .int m_fault_3, .int m_hasHeader, .int m_width, .int m_height, .int m_limit, .ref (r0 2), .ref (r0 3), .ref (r0 4), .ref (r0 5), .ref (r0 6), .ref (r0 7), .ref (r0 8), .ref (r0 9), .int m_hasPicture, .int m_frames, .int m_taken, .ref (r0 10), .ref (r0 11), .ref (r0 12), .int m_many, .ref (r0 13), .ref (r0 14), .ref (r0 15), .ref (r0 16), .ref (r0 17), .ref (r0 18), .ref (r0 19), .ref (r0 20), .ref (r0 21), .ref (r0 22), .int m_due, .ref (r0 23), .ref (r0 24), .ref (r0 25), .ref (r0 26), .ref (r0 27), .ref (r0 28), .ref (r0 29)], aI (r0 1) cB 6000 m_tape] []) H4 → va_D A (wf [oB (r0 0) 7 [.int m_thrown, .ref (r0 1), .int m_length, .int m_at, .int m_fault_3, .int m_hasHeader, .int m_width, .int m_height, .int m_limit, .ref (r0 2), .ref (r0 3), .ref (r0 4), .ref (r0 5), .ref (r0 6), .ref (r0 7), .ref (r0 8), .ref (r0 9), .int m_hasPicture, .int m_frames, .int m_taken, .ref (r0 10), .ref (r0 11), .ref (r0 12), .int m_many, .ref (r0 13), .ref (r0 14), .ref (r0 15), .ref (r0 16), .ref (r0 17), .ref (r0 18), .ref (r0 19), .ref (r0 20), .ref (r0 21), .ref (r0 22), .int m_due, .ref (r0 23), .ref (r0 24), .ref (r0 25), .ref (r0 26), .ref (r0 27), .ref (r0 28), .ref (r0 29)], aI (r0 1) cB 6000 m_tape] []) → va_S A s.heap H4 lc4 → lv_has ls4 2 [(0, .ref (r0 0))] → W p l e rm_X7_bit s m args below meth c H4 lc4 0 0 QQ (F0 m 19 ls4 []) := by
    intro m_fault_3 H4 lc4 ls4 hm5 hP4 hD4 hS4 hl4
    rw [ek2] at hm5
    refine lv_aload_n hx hb dX7_bit_19 rfl (lv_at hl4 0 rfl) ?_
    refine va_get (D := D) (ci := 7) (v := .int m_fault_3) (C := RX7) (T := TX7) (N := 42) hx hb hts hi_X7_bit_7 hown E.1 hP4 0 rfl rfl 4 (by decide) (hts _ (List.mem_of_getElem? (i := 3) rfl)) (fun _ h9 => h9) rfl dX7_bit_20 ?_
    refine lv_if_le (tgt := 28) hx hb dX7_bit_23 (by decide) (fun hc6 => ?_) (fun hc6 => ?_)
    · have hm7 := bq_t hm5 hc6; clear hm5
      refine lv_aload_n hx hb dX7_bit_28 rfl (lv_at hl4 0 rfl) ?_
      refine va_get (D := D) (ci := 7) (v := .ref (r0 1)) (C := RX7) (T := TX7) (N := 42) hx hb hts hi_X7_bit_7 hown E.1 hP4 0 rfl rfl 1 (by decide) (hts _ (List.mem_of_getElem? (i := 4) rfl)) (fun _ h9 => h9) rfl dX7_bit_29 ?_
      refine lv_aload_n hx hb dX7_bit_32 rfl (lv_at hl4 0 rfl) ?_
      refine va_get (D := D) (ci := 7) (v := .int m_at) (C := RX7) (T := TX7) (N := 42) hx hb hts hi_X7_bit_7 hown E.1 hP4 0 rfl rfl 3 (by decide) (hts _ (List.mem_of_getElem? (i := 1) rfl)) (fun _ h9 => h9) rfl dX7_bit_33 ?_
      refine lv_bipush (v := 8) hx hb dX7_bit_36 (by decide) ?_
      refine lv_idiv hx hb dX7_bit_38 (by decide) ?_
      obtain ⟨hin8, hm8⟩ := gi_some hm7; clear hm7
      refine va_bald hx hb E.1 hP4 1 1 rfl rfl hin8 dX7_bit_39 ?_
      refine lv_bipush (v := 7) hx hb dX7_bit_40 (by decide) ?_
      refine lv_aload_n hx hb dX7_bit_42 rfl (lv_at hl4 0 rfl) ?_
      refine va_get (D := D) (ci := 7) (v := .int m_at) (C := RX7) (T := TX7) (N := 42) hx hb hts hi_X7_bit_7 hown E.1 hP4 0 rfl rfl 3 (by decide) (hts _ (List.mem_of_getElem? (i := 1) rfl)) (fun _ h9 => h9) rfl dX7_bit_43 ?_
      refine lv_bipush (v := 8) hx hb dX7_bit_46 (by decide) ?_
      refine lv_irem hx hb dX7_bit_48 (by decide) ?_
      refine lv_isub hx hb dX7_bit_49 ?_
      refine lv_ishr hx hb dX7_bit_50 ?_
      refine lv_iconst (v := 1) hx hb dX7_bit_51 (by decide) ?_
      refine lv_iand hx hb dX7_bit_52 ?_
      obtain ⟨v1_9, ev1_9, hm10⟩ := nm_some hm8; clear hm8
      refine ct_topi ev1_9 ?_
      refine lv_istore_n (lv' := [(1, .int v1_9), (0, .ref (r0 0))]) hx hb dX7_bit_53 rfl hl4 (by decide) rfl (fun ls11 hl11 => ?_); clear hl4
      refine lv_aload_n hx hb dX7_bit_54 rfl (lv_at hl11 1 rfl) ?_
      refine lv_dup hx hb dX7_bit_55 rfl ?_
      refine va_get (D := D) (ci := 7) (v := .int m_at) (C := RX7) (T := TX7) (N := 42) hx hb hts hi_X7_bit_7 hown E.1 hP4 0 rfl rfl 3 (by decide) (hts _ (List.mem_of_getElem? (i := 1) rfl)) (fun _ h9 => h9) rfl dX7_bit_56 ?_
      refine lv_iconst (v := 1) hx hb dX7_bit_59 (by decide) ?_
      refine lv_iadd hx hb dX7_bit_60 ?_
      obtain ⟨m_at_12, em_at_12, hm13⟩ := nm_some hm10; clear hm10
      refine ct_topi em_at_12 ?_
      refine ct_put (D := D) (ci := 7) (v := .int m_at_12) (ty := .int) (C := RX7) (T := TX7) (N := 42) (ws' := (wf [oB (r0 0) 7 [.int m_thrown, .ref (r0 1), .int m_length, .int m_at_12, .int m_fault_3, .int m_hasHeader, .int m_width, .int m_height, .int m_limit, .ref (r0 2), .ref (r0 3), .ref (r0 4), .ref (r0 5), .ref (r0 6), .ref (r0 7), .ref (r0 8), .ref (r0 9), .int m_hasPicture, .int m_frames, .int m_taken, .ref (r0 10), .ref (r0 11), .ref (r0 12), .int m_many, .ref (r0 13), .ref (r0 14), .ref (r0 15), .ref (r0 16), .ref (r0 17), .ref (r0 18), .ref (r0 19), .ref (r0 20), .ref (r0 21), .ref (r0 22), .int m_due, .ref (r0 23), .ref (r0 24), .ref (r0 25), .ref (r0 26), .ref (r0 27), .ref (r0 28), .ref (r0 29)], aI (r0 1) cB 6000 m_tape] [])) hx hb hts hi_X7_bit_7 tyX7 tyX7_ok nmX7 hown E.1 hP4 hD4 hS4 0 rfl rfl 3 (by decide) (hts _ (List.mem_of_getElem? (i := 1) rfl)) (fun _ h9 => h9) rfl (by decide +kernel) rfl rfl (Nat.le_of_ble_eq_true rfl) rfl dX7_bit_61 (fun H14 lc14 hP14 hD14 hS14 => ?_)
      clear hP4 hD4 hS4
      refine lv_iload_n hx hb dX7_bit_64 rfl (lv_at hl11 0 rfl) ?_
      obtain rfl := Option.some.inj hm13
      rw [hQ]
      exact ct_iret hx hb hr hlk hP14 hD14 hS14 rfl dX7_bit_65
    · have hm15 := bq_f hm5 hc6; clear hm5
      refine lv_iconst (v := 0) hx hb dX7_bit_26 (by decide) ?_
      obtain rfl := Option.some.inj hm15
      rw [hQ]
      exact ct_iret hx hb hr hlk hP4 hD4 hS4 rfl dX7_bit_27
  refine lv_icmp_ne (tgt := 19) hx hb dX7_bit_11 (by decide) (fun hc16 => ?_) (fun hc16 => ?_)
  · have hm17 := bq_f hm2 hc16; clear hm2
    exact KJ2 m_fault _ _ _ hm17 hP0 hD0 hS0 (lv_sub hl0 [0] rfl)
  · have hm18 := bq_t hm2 hc16; clear hm2
    refine lv_aload_n hx hb dX7_bit_14 rfl (lv_at hl0 0 rfl) ?_
    refine lv_iconst (v := 1) hx hb dX7_bit_15 (by decide) ?_
    obtain ⟨m_fault_19, hcl20, hm20⟩ := bd1_some hm18; clear hm18
    have sb21 := ctS.mk (n := 2) (k := 0) (pre := [oB (r0 0) 7 [.int m_thrown, .ref (r0 1), .int m_length, .int m_at, .int m_fault, .int m_hasHeader, .int m_width, .int m_height, .int m_limit, .ref (r0 2), .ref (r0 3), .ref (r0 4), .ref (r0 5), .ref (r0 6), .ref (r0 7), .ref (r0 8), .ref (r0 9), .int m_hasPicture, .int m_frames, .int m_taken, .ref (r0 10), .ref (r0 11), .ref (r0 12), .int m_many, .ref (r0 13), .ref (r0 14), .ref (r0 15), .ref (r0 16), .ref (r0 17), .ref (r0 18), .ref (r0 19), .ref (r0 20), .ref (r0 21), .ref (r0 22), .int m_due, .ref (r0 23), .ref (r0 24), .ref (r0 25), .ref (r0 26), .ref (r0 27), .ref (r0 28), .ref (r0 29)], aI (r0 1) cB 6000 m_tape]) (tl := []) [0] [1] [] [] rfl rfl (by decide +kernel) (by decide +kernel)
    refine ct_callv E sb21 hP0 hD0 hS0 (va_runV (As := [.int (1 : Int32)]) (rest := []) ⟨hx, hb, hml, hown, hts⟩ (c_X7_fail l D cB cI cJ cQ N r0 s.heap.size (1 : Int32) m_thrown m_length m_at m_fault m_hasHeader m_width m_height m_limit m_hasPicture m_frames m_taken m_many m_due (m_fault_19) hcl20) (cwV 1 hts gX7_bit_X7_fail rfl rfl rfl cdV_X7_fail ⟨Nat.le_of_ble_eq_true rfl, Nat.le_of_ble_eq_true rfl⟩) (ct_preV (q0 := 0) (ci := 7) E sb21 hP0 hD0 hS0 rfl rfl) rfl rfl hl0.1 rfl (lv_room (Nat.le_of_ble_eq_true rfl)) dX7_bit_16 ⟨Nat.zero_le _, Nat.zero_le _⟩) (fun H22 lc22 hP22 hD22 hS22 => ?_); clear sb21 hcl20
    clear hP0 hD0 hS0
    have hP22 : va_P D vwCl (wf [aI (r0 1) cB 6000 m_tape, oB (r0 0) 7 [.int m_thrown, .ref (r0 1), .int m_length, .int m_at, .int m_fault_19, .int m_hasHeader, .int m_width, .int m_height, .int m_limit, .ref (r0 2), .ref (r0 3), .ref (r0 4), .ref (r0 5), .ref (r0 6), .ref (r0 7), .ref (r0 8), .ref (r0 9), .int m_hasPicture, .int m_frames, .int m_taken, .ref (r0 10), .ref (r0 11), .ref (r0 12), .int m_many, .ref (r0 13), .ref (r0 14), .ref (r0 15), .ref (r0 16), .ref (r0 17), .ref (r0 18), .ref (r0 19), .ref (r0 20), .ref (r0 21), .ref (r0 22), .int m_due, .ref (r0 23), .ref (r0 24), .ref (r0 25), .ref (r0 26), .ref (r0 27), .ref (r0 28), .ref (r0 29)]] []) H22 := hP22
    have hD22 : va_D A (wf [aI (r0 1) cB 6000 m_tape, oB (r0 0) 7 [.int m_thrown, .ref (r0 1), .int m_length, .int m_at, .int m_fault_19, .int m_hasHeader, .int m_width, .int m_height, .int m_limit, .ref (r0 2), .ref (r0 3), .ref (r0 4), .ref (r0 5), .ref (r0 6), .ref (r0 7), .ref (r0 8), .ref (r0 9), .int m_hasPicture, .int m_frames, .int m_taken, .ref (r0 10), .ref (r0 11), .ref (r0 12), .int m_many, .ref (r0 13), .ref (r0 14), .ref (r0 15), .ref (r0 16), .ref (r0 17), .ref (r0 18), .ref (r0 19), .ref (r0 20), .ref (r0 21), .ref (r0 22), .int m_due, .ref (r0 23), .ref (r0 24), .ref (r0 25), .ref (r0 26), .ref (r0 27), .ref (r0 28), .ref (r0 29)]] []) := hD22
    obtain ⟨hP23, hD23⟩ := ct_ord (n := 2) (k := 0) [1, 0] [] hP22 hD22 rfl rfl (by decide +kernel) (by decide +kernel)
    have hS23 := hS22
    have hP23 : va_P D vwCl (wf [oB (r0 0) 7 [.int m_thrown, .ref (r0 1), .int m_length, .int m_at, .int m_fault_19, .int m_hasHeader, .int m_width, .int m_height, .int m_limit, .ref (r0 2), .ref (r0 3), .ref (r0 4), .ref (r0 5), .ref (r0 6), .ref (r0 7), .ref (r0 8), .ref (r0 9), .int m_hasPicture, .int m_frames, .int m_taken, .ref (r0 10), .ref (r0 11), .ref (r0 12), .int m_many, .ref (r0 13), .ref (r0 14), .ref (r0 15), .ref (r0 16), .ref (r0 17), .ref (r0 18), .ref (r0 19), .ref (r0 20), .ref (r0 21), .ref (r0 22), .int m_due, .ref (r0 23), .ref (r0 24), .ref (r0 25), .ref (r0 26), .ref (r0 27), .ref (r0 28), .ref (r0 29)], aI (r0 1) cB 6000 m_tape] []) H22 := hP23
    have hD23 : va_D A (wf [oB (r0 0) 7 [.int m_thrown, .ref (r0 1), .int m_length, .int m_at, .int m_fault_19, .int m_hasHeader, .int m_width, .int m_height, .int m_limit, .ref (r0 2), .ref (r0 3), .ref (r0 4), .ref (r0 5), .ref (r0 6), .ref (r0 7), .ref (r0 8), .ref (r0 9), .int m_hasPicture, .int m_frames, .int m_taken, .ref (r0 10), .ref (r0 11), .ref (r0 12), .int m_many, .ref (r0 13), .ref (r0 14), .ref (r0 15), .ref (r0 16), .ref (r0 17), .ref (r0 18), .ref (r0 19), .ref (r0 20), .ref (r0 21), .ref (r0 22), .int m_due, .ref (r0 23), .ref (r0 24), .ref (r0 25), .ref (r0 26), .ref (r0 27), .ref (r0 28), .ref (r0 29)], aI (r0 1) cB 6000 m_tape] []) := hD23
    exact KJ2 m_fault_19 _ _ _ hm20 hP23 hD23 hS23 (lv_sub hl0 [0] rfl)

def f_X7_bits_L4 (x1 : Int32) (m_length : Int32) (m_tape : Nat → Int32) : Nat → Int32 → Int32 → Int32 → Int32 → Option (Int32 × Int32 × Int32)
  | 0, _, _, _, _ => none
  | n + 1, m_at_4, m_fault_5, v2_6, v3_7 =>
  (if x1 ≤ v3_7 then
  (some (m_at_4, m_fault_5, v2_6))
  else
  (bd3 (f_X7_bit m_length m_at_4 m_fault_5 m_tape) fun y_14 m_at_15 m_fault_16 =>
  nm ((((2 : Int32) * v2_6) + y_14) : Int32) fun v2_20 =>
  nm (v3_7 + (1 : Int32) : Int32) fun v3_23 =>
  f_X7_bits_L4 x1 m_length m_tape n m_at_15 m_fault_16 v2_20 v3_23))

def f_X7_bits (x1 : Int32) (m_length : Int32) (m_at : Int32) (m_fault : Int32) (m_tape : Nat → Int32) : Option (Int32 × Int32 × Int32) :=
  bd3 (f_X7_bits_L4 x1 m_length m_tape 4000 m_at m_fault (0 : Int32) (0 : Int32)) fun m_at_26 m_fault_27 v2_28 =>
  some (v2_28, m_at_26, m_fault_27)

abbrev rm_X7_bits : Room := { frames := 2, cells := 0, slots := 0, locals := 42 }

theorem cdS_X7_bits : yX7_bits.cls ≠ "java/lang/invoke/MethodHandle" ∧ yX7_bits.cls ≠ "java/lang/invoke/VarHandle" ∧ (parseMethodDescriptor yX7_bits.desc).map (fun d => d.parameters.length) = some 1 := by decide +kernel

theorem cdV_X7_bits : yX7_bits.cls = RX7 ∧ yX7_bits.cls ≠ "java/lang/invoke/MethodHandle" ∧ yX7_bits.cls ≠ "java/lang/invoke/VarHandle" ∧ (parseMethodDescriptor yX7_bits.desc).map (fun d => d.parameters.length) = some 1 := ⟨rfl, cdS_X7_bits⟩

set_option maxHeartbeats 40000000 in
set_option maxRecDepth 100000 in
theorem c_X7_bits (l : Launch) (D : va_G) (cB cI cJ cQ : ClassId) (N : Nat) (r0 : Nat → Nat) (sz : Nat) (x1 : Int32) (m_thrown : Int32) (m_length : Int32) (m_at : Int32) (m_fault : Int32) (m_hasHeader : Int32) (m_width : Int32) (m_height : Int32) (m_limit : Int32) (m_hasPicture : Int32) (m_frames : Int32) (m_taken : Int32) (m_many : Int32) (m_due : Int32) (m_tape : Nat → Int32) (o : Int32 × Int32 × Int32) (hm0 : f_X7_bits x1 m_length m_at m_fault m_tape = some o) : Met l yX7_bits wsX7_bits rm_X7_bits (ctP D cB cI cJ cQ N sz [.ref (r0 0), .int x1] (wf [oB (r0 0) 7 [.int m_thrown, .ref (r0 1), .int m_length, .int m_at, .int m_fault, .int m_hasHeader, .int m_width, .int m_height, .int m_limit, .ref (r0 2), .ref (r0 3), .ref (r0 4), .ref (r0 5), .ref (r0 6), .ref (r0 7), .ref (r0 8), .ref (r0 9), .int m_hasPicture, .int m_frames, .int m_taken, .ref (r0 10), .ref (r0 11), .ref (r0 12), .int m_many, .ref (r0 13), .ref (r0 14), .ref (r0 15), .ref (r0 16), .ref (r0 17), .ref (r0 18), .ref (r0 19), .ref (r0 20), .ref (r0 21), .ref (r0 22), .int m_due, .ref (r0 23), .ref (r0 24), .ref (r0 25), .ref (r0 26), .ref (r0 27), .ref (r0 28), .ref (r0 29)], aI (r0 1) cB 6000 m_tape] [])) (ctQi D (o.1) (wf [oB (r0 0) 7 [.int m_thrown, .ref (r0 1), .int m_length, .int (o.2.1), .int (o.2.2), .int m_hasHeader, .int m_width, .int m_height, .int m_limit, .ref (r0 2), .ref (r0 3), .ref (r0 4), .ref (r0 5), .ref (r0 6), .ref (r0 7), .ref (r0 8), .ref (r0 9), .int m_hasPicture, .int m_frames, .int m_taken, .ref (r0 10), .ref (r0 11), .ref (r0 12), .int m_many, .ref (r0 13), .ref (r0 14), .ref (r0 15), .ref (r0 16), .ref (r0 17), .ref (r0 18), .ref (r0 19), .ref (r0 20), .ref (r0 21), .ref (r0 22), .int m_due, .ref (r0 23), .ref (r0 24), .ref (r0 25), .ref (r0 26), .ref (r0 27), .ref (r0 28), .ref (r0 29)], aI (r0 1) cB 6000 m_tape] []) (va_A (wf [oB (r0 0) 7 [.int m_thrown, .ref (r0 1), .int m_length, .int m_at, .int m_fault, .int m_hasHeader, .int m_width, .int m_height, .int m_limit, .ref (r0 2), .ref (r0 3), .ref (r0 4), .ref (r0 5), .ref (r0 6), .ref (r0 7), .ref (r0 8), .ref (r0 9), .int m_hasPicture, .int m_frames, .int m_taken, .ref (r0 10), .ref (r0 11), .ref (r0 12), .int m_many, .ref (r0 13), .ref (r0 14), .ref (r0 15), .ref (r0 16), .ref (r0 17), .ref (r0 18), .ref (r0 19), .ref (r0 20), .ref (r0 21), .ref (r0 22), .int m_due, .ref (r0 23), .ref (r0 24), .ref (r0 25), .ref (r0 26), .ref (r0 27), .ref (r0 28), .ref (r0 29)], aI (r0 1) cB 6000 m_tape] []) sz)) 0 0 (va_A (wf [oB (r0 0) 7 [.int m_thrown, .ref (r0 1), .int m_length, .int m_at, .int m_fault, .int m_hasHeader, .int m_width, .int m_height, .int m_limit, .ref (r0 2), .ref (r0 3), .ref (r0 4), .ref (r0 5), .ref (r0 6), .ref (r0 7), .ref (r0 8), .ref (r0 9), .int m_hasPicture, .int m_frames, .int m_taken, .ref (r0 10), .ref (r0 11), .ref (r0 12), .int m_many, .ref (r0 13), .ref (r0 14), .ref (r0 15), .ref (r0 16), .ref (r0 17), .ref (r0 18), .ref (r0 19), .ref (r0 20), .ref (r0 21), .ref (r0 22), .int m_due, .ref (r0 23), .ref (r0 24), .ref (r0 25), .ref (r0 26), .ref (r0 27), .ref (r0 28), .ref (r0 29)], aI (r0 1) cB 6000 m_tape] []) sz) := by
  refine ct_of (y := yX7_bits) (av := [.ref (r0 0), .int x1]) (cc := cX7_bits) (maxL := 4) (ret := (some .int)) (own := RX7) (Qp := ctQi D (o.1) (wf [oB (r0 0) 7 [.int m_thrown, .ref (r0 1), .int m_length, .int (o.2.1), .int (o.2.2), .int m_hasHeader, .int m_width, .int m_height, .int m_limit, .ref (r0 2), .ref (r0 3), .ref (r0 4), .ref (r0 5), .ref (r0 6), .ref (r0 7), .ref (r0 8), .ref (r0 9), .int m_hasPicture, .int m_frames, .int m_taken, .ref (r0 10), .ref (r0 11), .ref (r0 12), .int m_many, .ref (r0 13), .ref (r0 14), .ref (r0 15), .ref (r0 16), .ref (r0 17), .ref (r0 18), .ref (r0 19), .ref (r0 20), .ref (r0 21), .ref (r0 22), .int m_due, .ref (r0 23), .ref (r0 24), .ref (r0 25), .ref (r0 26), .ref (r0 27), .ref (r0 28), .ref (r0 29)], aI (r0 1) cB 6000 m_tape] [])) (by decide) rfl rfl (Nat.le_of_ble_eq_true rfl) ?_
  intro p e s m args below meth c A hx hb hr hml hown hts hlk hnm hsz hAe E hP0 hD0 hS0 ls0 hl0
  subst hsz
  have hl0 : lv_has ls0 4 [(0, .ref (r0 0)), (1, .int x1)] := hl0
  obtain ⟨QQ, hQ⟩ : ∃ Q : State → Prop, Q = MQ below (ctQi D (o.1) (wf [oB (r0 0) 7 [.int m_thrown, .ref (r0 1), .int m_length, .int (o.2.1), .int (o.2.2), .int m_hasHeader, .int m_width, .int m_height, .int m_limit, .ref (r0 2), .ref (r0 3), .ref (r0 4), .ref (r0 5), .ref (r0 6), .ref (r0 7), .ref (r0 8), .ref (r0 9), .int m_hasPicture, .int m_frames, .int m_taken, .ref (r0 10), .ref (r0 11), .ref (r0 12), .int m_many, .ref (r0 13), .ref (r0 14), .ref (r0 15), .ref (r0 16), .ref (r0 17), .ref (r0 18), .ref (r0 19), .ref (r0 20), .ref (r0 21), .ref (r0 22), .int m_due, .ref (r0 23), .ref (r0 24), .ref (r0 25), .ref (r0 26), .ref (r0 27), .ref (r0 28), .ref (r0 29)], aI (r0 1) cB 6000 m_tape] []) A) args s 0 0 A := ⟨_, rfl⟩
  rw [← hQ]
  unfold f_X7_bits at hm0
  refine lv_iconst (v := 0) hx hb dX7_bits_0 (by decide) ?_
  refine lv_istore_n (lv' := [(2, .int (0 : Int32)), (0, .ref (r0 0)), (1, .int x1)]) hx hb dX7_bits_1 rfl hl0 (by decide) rfl (fun ls1 hl1 => ?_); clear hl0
  refine lv_iconst (v := 0) hx hb dX7_bits_2 (by decide) ?_
  refine lv_istore_n (lv' := [(3, .int (0 : Int32)), (2, .int (0 : Int32)), (0, .ref (r0 0)), (1, .int x1)]) hx hb dX7_bits_3 rfl hl1 (by decide) rfl (fun ls2 hl2 => ?_); clear hl1
  obtain ⟨m_at_26, m_fault_27, v2_28, hlp3, hm29⟩ := bd3_some hm0; clear hm0
  have LP3 : ∀ (n : Nat) (m_at_4 : Int32) (m_fault_5 : Int32) (v2_6 : Int32) (v3_7 : Int32) (z3 : Int32 × Int32 × Int32) (H8 : Heap) (lc8 : List Loc) (ls8 : Array Slot), f_X7_bits_L4 x1 m_length m_tape n m_at_4 m_fault_5 v2_6 v3_7 = some z3 → va_P D vwCl (wf [oB (r0 0) 7 [.int m_thrown, .ref (r0 1), .int m_length, .int m_at_4, .int m_fault_5, .int m_hasHeader, .int m_width, .int m_height, .int m_limit, .ref (r0 2), .ref (r0 3), .ref (r0 4), .ref (r0 5), .ref (r0 6), .ref (r0 7), .ref (r0 8), .ref (r0 9), .int m_hasPicture, .int m_frames, .int m_taken, .ref (r0 10), .ref (r0 11), .ref (r0 12), .int m_many, .ref (r0 13), .ref (r0 14), .ref (r0 15), .ref (r0 16), .ref (r0 17), .ref (r0 18), .ref (r0 19), .ref (r0 20), .ref (r0 21), .ref (r0 22), .int m_due, .ref (r0 23), .ref (r0 24), .ref (r0 25), .ref (r0 26), .ref (r0 27), .ref (r0 28), .ref (r0 29)], aI (r0 1) cB 6000 m_tape] []) H8 → va_D A (wf [oB (r0 0) 7 [.int m_thrown, .ref (r0 1), .int m_length, .int m_at_4, .int m_fault_5, .int m_hasHeader, .int m_width, .int m_height, .int m_limit, .ref (r0 2), .ref (r0 3), .ref (r0 4), .ref (r0 5), .ref (r0 6), .ref (r0 7), .ref (r0 8), .ref (r0 9), .int m_hasPicture, .int m_frames, .int m_taken, .ref (r0 10), .ref (r0 11), .ref (r0 12), .int m_many, .ref (r0 13), .ref (r0 14), .ref (r0 15), .ref (r0 16), .ref (r0 17), .ref (r0 18), .ref (r0 19), .ref (r0 20), .ref (r0 21), .ref (r0 22), .int m_due, .ref (r0 23), .ref (r0 24), .ref (r0 25), .ref (r0 26), .ref (r0 27), .ref (r0 28), .ref (r0 29)], aI (r0 1) cB 6000 m_tape] []) → va_S A s.heap H8 lc8 → lv_has ls8 4 [(0, .ref (r0 0)), (1, .int x1), (2, .int v2_6), (3, .int v3_7)] → (∀ (H : Heap) (lc : List Loc) (ls : Array Slot), va_P D vwCl (wf [oB (r0 0) 7 [.int m_thrown, .ref (r0 1), .int m_length, .int (z3.1), .int (z3.2.1), .int m_hasHeader, .int m_width, .int m_height, .int m_limit, .ref (r0 2), .ref (r0 3), .ref (r0 4), .ref (r0 5), .ref (r0 6), .ref (r0 7), .ref (r0 8), .ref (r0 9), .int m_hasPicture, .int m_frames, .int m_taken, .ref (r0 10), .ref (r0 11), .ref (r0 12), .int m_many, .ref (r0 13), .ref (r0 14), .ref (r0 15), .ref (r0 16), .ref (r0 17), .ref (r0 18), .ref (r0 19), .ref (r0 20), .ref (r0 21), .ref (r0 22), .int m_due, .ref (r0 23), .ref (r0 24), .ref (r0 25), .ref (r0 26), .ref (r0 27), .ref (r0 28), .ref (r0 29)], aI (r0 1) cB 6000 m_tape] []) H → va_D A (wf [oB (r0 0) 7 [.int m_thrown, .ref (r0 1), .int m_length, .int (z3.1), .int (z3.2.1), .int m_hasHeader, .int m_width, .int m_height, .int m_limit, .ref (r0 2), .ref (r0 3), .ref (r0 4), .ref (r0 5), .ref (r0 6), .ref (r0 7), .ref (r0 8), .ref (r0 9), .int m_hasPicture, .int m_frames, .int m_taken, .ref (r0 10), .ref (r0 11), .ref (r0 12), .int m_many, .ref (r0 13), .ref (r0 14), .ref (r0 15), .ref (r0 16), .ref (r0 17), .ref (r0 18), .ref (r0 19), .ref (r0 20), .ref (r0 21), .ref (r0 22), .int m_due, .ref (r0 23), .ref (r0 24), .ref (r0 25), .ref (r0 26), .ref (r0 27), .ref (r0 28), .ref (r0 29)], aI (r0 1) cB 6000 m_tape] []) → va_S A s.heap H lc → lv_has ls 4 [(2, .int (z3.2.2))] → W p l e rm_X7_bits s m args below meth c H lc 0 0 QQ (F0 m 24 ls [])) → W p l e rm_X7_bits s m args below meth c H8 lc8 0 0 QQ (F0 m 4 ls8 []) := by
    intro n
    induction n with
    | zero =>
      intro m_at_4 m_fault_5 v2_6 v3_7 z3 H8 lc8 ls8 hm10; simp [f_X7_bits_L4] at hm10
    | succ n ih =>
      intro m_at_4 m_fault_5 v2_6 v3_7 z3 H8 lc8 ls8 hm10 hP8 hD8 hS8 hl8 kx
      rw [f_X7_bits_L4] at hm10
      refine lv_iload_n hx hb dX7_bits_4 rfl (lv_at hl8 3 rfl) ?_
      refine lv_iload_n hx hb dX7_bits_5 rfl (lv_at hl8 1 rfl) ?_
      refine lv_icmp_ge (tgt := 24) hx hb dX7_bits_6 (by decide) (fun hc11 => ?_) (fun hc11 => ?_)
      · have hm12 := bq_t hm10 hc11; clear hm10
        obtain rfl := Option.some.inj hm12
        exact kx _ _ _ hP8 hD8 hS8 (lv_sub hl8 [2] rfl)
      · have hm13 := bq_f hm10 hc11; clear hm10
        refine lv_iconst (v := 2) hx hb dX7_bits_9 (by decide) ?_
        refine lv_iload_n hx hb dX7_bits_10 rfl (lv_at hl8 2 rfl) ?_
        refine lv_imul hx hb dX7_bits_11 ?_
        refine lv_aload_n hx hb dX7_bits_12 rfl (lv_at hl8 0 rfl) ?_
        obtain ⟨y_14, m_at_15, m_fault_16, hcl17, hm17⟩ := bd3_some hm13; clear hm13
        have sb18 := ctS.mk (n := 2) (k := 0) (pre := [oB (r0 0) 7 [.int m_thrown, .ref (r0 1), .int m_length, .int m_at_4, .int m_fault_5, .int m_hasHeader, .int m_width, .int m_height, .int m_limit, .ref (r0 2), .ref (r0 3), .ref (r0 4), .ref (r0 5), .ref (r0 6), .ref (r0 7), .ref (r0 8), .ref (r0 9), .int m_hasPicture, .int m_frames, .int m_taken, .ref (r0 10), .ref (r0 11), .ref (r0 12), .int m_many, .ref (r0 13), .ref (r0 14), .ref (r0 15), .ref (r0 16), .ref (r0 17), .ref (r0 18), .ref (r0 19), .ref (r0 20), .ref (r0 21), .ref (r0 22), .int m_due, .ref (r0 23), .ref (r0 24), .ref (r0 25), .ref (r0 26), .ref (r0 27), .ref (r0 28), .ref (r0 29)], aI (r0 1) cB 6000 m_tape]) (tl := []) [0, 1] [] [] [] rfl rfl (by decide +kernel) (by decide +kernel)
        refine ct_calli (r := y_14) E sb18 hP8 hD8 hS8 (va_runV (As := []) (rest := [.int ((2 : Int32) * v2_6)]) ⟨hx, hb, hml, hown, hts⟩ (c_X7_bit l D cB cI cJ cQ N r0 H8.size m_thrown m_length m_at_4 m_fault_5 m_hasHeader m_width m_height m_limit m_hasPicture m_frames m_taken m_many m_due m_tape (y_14, m_at_15, m_fault_16) hcl17) (cwV 0 hts gX7_bits_X7_bit rfl rfl rfl cdV_X7_bit ⟨Nat.le_of_ble_eq_true rfl, Nat.le_of_ble_eq_true rfl⟩) (ct_preV (q0 := 0) (ci := 7) E sb18 hP8 hD8 hS8 rfl rfl) rfl rfl hl8.1 rfl (lv_room (Nat.le_of_ble_eq_true rfl)) dX7_bits_13 ⟨Nat.zero_le _, Nat.zero_le _⟩) (fun H19 lc19 hP19 hD19 hS19 => ?_); clear sb18 hcl17
        clear hP8 hD8 hS8
        have hP19 : va_P D vwCl (wf [oB (r0 0) 7 [.int m_thrown, .ref (r0 1), .int m_length, .int m_at_15, .int m_fault_16, .int m_hasHeader, .int m_width, .int m_height, .int m_limit, .ref (r0 2), .ref (r0 3), .ref (r0 4), .ref (r0 5), .ref (r0 6), .ref (r0 7), .ref (r0 8), .ref (r0 9), .int m_hasPicture, .int m_frames, .int m_taken, .ref (r0 10), .ref (r0 11), .ref (r0 12), .int m_many, .ref (r0 13), .ref (r0 14), .ref (r0 15), .ref (r0 16), .ref (r0 17), .ref (r0 18), .ref (r0 19), .ref (r0 20), .ref (r0 21), .ref (r0 22), .int m_due, .ref (r0 23), .ref (r0 24), .ref (r0 25), .ref (r0 26), .ref (r0 27), .ref (r0 28), .ref (r0 29)], aI (r0 1) cB 6000 m_tape] []) H19 := hP19
        have hD19 : va_D A (wf [oB (r0 0) 7 [.int m_thrown, .ref (r0 1), .int m_length, .int m_at_15, .int m_fault_16, .int m_hasHeader, .int m_width, .int m_height, .int m_limit, .ref (r0 2), .ref (r0 3), .ref (r0 4), .ref (r0 5), .ref (r0 6), .ref (r0 7), .ref (r0 8), .ref (r0 9), .int m_hasPicture, .int m_frames, .int m_taken, .ref (r0 10), .ref (r0 11), .ref (r0 12), .int m_many, .ref (r0 13), .ref (r0 14), .ref (r0 15), .ref (r0 16), .ref (r0 17), .ref (r0 18), .ref (r0 19), .ref (r0 20), .ref (r0 21), .ref (r0 22), .int m_due, .ref (r0 23), .ref (r0 24), .ref (r0 25), .ref (r0 26), .ref (r0 27), .ref (r0 28), .ref (r0 29)], aI (r0 1) cB 6000 m_tape] []) := hD19
        refine lv_iadd hx hb dX7_bits_16 ?_
        obtain ⟨v2_20, ev2_20, hm21⟩ := nm_some hm17; clear hm17
        refine ct_topi ev2_20 ?_
        refine lv_istore_n (lv' := [(2, .int v2_20), (0, .ref (r0 0)), (1, .int x1), (3, .int v3_7)]) hx hb dX7_bits_17 rfl hl8 (by decide) rfl (fun ls22 hl22 => ?_); clear hl8
        obtain ⟨v3_23, ev3_23, hm24⟩ := nm_some hm21; clear hm21
        refine lv_iinc (v := v3_23) (lv' := [(3, .int v3_23), (2, .int v2_20), (0, .ref (r0 0)), (1, .int x1)]) hx hb dX7_bits_18 hl22 (k := 3) rfl (by rw [ev3_23]; rfl) (by decide) rfl (fun ls25 hl25 => ?_); clear hl22
        refine lv_goto (tgt := 4) hx hb dX7_bits_21 (by decide) ?_
        exact ih m_at_15 m_fault_16 v2_20 v3_23 _ _ _ _ hm24 hP19 hD19 hS19 (lv_sub hl25 [2, 3, 1, 0] rfl) kx
  refine LP3 4000 m_at m_fault (0 : Int32) (0 : Int32) (m_at_26, m_fault_27, v2_28) _ _ _ hlp3 hP0 hD0 hS0 (lv_sub hl2 [2, 3, 1, 0] rfl) (fun H30 lc30 ls30 hP30 hD30 hS30 hl30 => ?_); clear LP3 hlp3
  clear hP0 hD0 hS0
  have hl30 : lv_has ls30 4 [(2, .int v2_28)] := hl30
  have hP30 : va_P D vwCl (wf [oB (r0 0) 7 [.int m_thrown, .ref (r0 1), .int m_length, .int m_at_26, .int m_fault_27, .int m_hasHeader, .int m_width, .int m_height, .int m_limit, .ref (r0 2), .ref (r0 3), .ref (r0 4), .ref (r0 5), .ref (r0 6), .ref (r0 7), .ref (r0 8), .ref (r0 9), .int m_hasPicture, .int m_frames, .int m_taken, .ref (r0 10), .ref (r0 11), .ref (r0 12), .int m_many, .ref (r0 13), .ref (r0 14), .ref (r0 15), .ref (r0 16), .ref (r0 17), .ref (r0 18), .ref (r0 19), .ref (r0 20), .ref (r0 21), .ref (r0 22), .int m_due, .ref (r0 23), .ref (r0 24), .ref (r0 25), .ref (r0 26), .ref (r0 27), .ref (r0 28), .ref (r0 29)], aI (r0 1) cB 6000 m_tape] []) H30 := hP30
  have hD30 : va_D A (wf [oB (r0 0) 7 [.int m_thrown, .ref (r0 1), .int m_length, .int m_at_26, .int m_fault_27, .int m_hasHeader, .int m_width, .int m_height, .int m_limit, .ref (r0 2), .ref (r0 3), .ref (r0 4), .ref (r0 5), .ref (r0 6), .ref (r0 7), .ref (r0 8), .ref (r0 9), .int m_hasPicture, .int m_frames, .int m_taken, .ref (r0 10), .ref (r0 11), .ref (r0 12), .int m_many, .ref (r0 13), .ref (r0 14), .ref (r0 15), .ref (r0 16), .ref (r0 17), .ref (r0 18), .ref (r0 19), .ref (r0 20), .ref (r0 21), .ref (r0 22), .int m_due, .ref (r0 23), .ref (r0 24), .ref (r0 25), .ref (r0 26), .ref (r0 27), .ref (r0 28), .ref (r0 29)], aI (r0 1) cB 6000 m_tape] []) := hD30
  refine lv_iload_n hx hb dX7_bits_24 rfl (lv_at hl30 0 rfl) ?_
  obtain rfl := Option.some.inj hm29
  rw [hQ]
  exact ct_iret hx hb hr hlk hP30 hD30 hS30 rfl dX7_bits_25
