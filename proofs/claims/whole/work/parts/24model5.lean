def f_X7_within (x0 : Int32) (x1 : Int32) (x2 : Int32) : Option (Int32) :=
  (if x1 ≤ x0 then
  ((if x0 ≤ x2 then
  (some (x0))
  else
  (some (x2))))
  else
  (some (x1)))

abbrev rm_X7_within : Room := { frames := 0, cells := 0, slots := 0, locals := 0 }

theorem cdS_X7_within : yX7_within.cls ≠ "java/lang/invoke/MethodHandle" ∧ yX7_within.cls ≠ "java/lang/invoke/VarHandle" ∧ (parseMethodDescriptor yX7_within.desc).map (fun d => d.parameters.length) = some 3 := by decide +kernel

set_option maxHeartbeats 40000000 in
set_option maxRecDepth 100000 in
theorem c_X7_within (l : Launch) (D : va_G) (cB cI cJ cQ : ClassId) (N : Nat) (sz : Nat) (x0 : Int32) (x1 : Int32) (x2 : Int32) (o : Int32) (hm0 : f_X7_within x0 x1 x2 = some o) : Met l yX7_within wsX7_within rm_X7_within (ctP D cB cI cJ cQ N sz [.int x0, .int x1, .int x2] (wf [] [])) (ctQi D o (wf [] []) (va_A (wf [] []) sz)) 0 0 (va_A (wf [] []) sz) := by
  refine ct_of (y := yX7_within) (av := [.int x0, .int x1, .int x2]) (cc := cX7_within) (maxL := 3) (ret := (some .int)) (own := RX7) (Qp := ctQi D o (wf [] [])) (by decide) rfl rfl (Nat.le_of_ble_eq_true rfl) ?_
  intro p e s m args below meth c A hx hb hr hml hown hts hlk hnm hsz hAe E hP0 hD0 hS0 ls0 hl0
  subst hsz
  have hl0 : lv_has ls0 3 [(0, .int x0), (1, .int x1), (2, .int x2)] := hl0
  obtain ⟨QQ, hQ⟩ : ∃ Q : State → Prop, Q = MQ below (ctQi D o (wf [] []) A) args s 0 0 A := ⟨_, rfl⟩
  rw [← hQ]
  unfold f_X7_within at hm0
  refine lv_iload_n hx hb dX7_within_0 rfl (lv_at hl0 0 rfl) ?_
  refine lv_iload_n hx hb dX7_within_1 rfl (lv_at hl0 1 rfl) ?_
  refine lv_icmp_ge (tgt := 9) hx hb dX7_within_2 (by decide) (fun hc1 => ?_) (fun hc1 => ?_)
  · have hm2 := bq_t hm0 hc1; clear hm0
    refine lv_iload_n hx hb dX7_within_9 rfl (lv_at hl0 0 rfl) ?_
    refine lv_iload_n hx hb dX7_within_10 rfl (lv_at hl0 2 rfl) ?_
    refine lv_icmp_le (tgt := 18) hx hb dX7_within_11 (by decide) (fun hc3 => ?_) (fun hc3 => ?_)
    · have hm4 := bq_t hm2 hc3; clear hm2
      refine lv_iload_n hx hb dX7_within_18 rfl (lv_at hl0 0 rfl) ?_
      obtain rfl := Option.some.inj hm4
      rw [hQ]
      exact ct_iret hx hb hr hlk hP0 hD0 hS0 rfl dX7_within_19
    · have hm5 := bq_f hm2 hc3; clear hm2
      refine lv_iload_n hx hb dX7_within_14 rfl (lv_at hl0 2 rfl) ?_
      refine lv_goto (tgt := 19) hx hb dX7_within_15 (by decide) ?_
      obtain rfl := Option.some.inj hm5
      rw [hQ]
      exact ct_iret hx hb hr hlk hP0 hD0 hS0 rfl dX7_within_19
  · have hm6 := bq_f hm0 hc1; clear hm0
    refine lv_iload_n hx hb dX7_within_5 rfl (lv_at hl0 1 rfl) ?_
    refine lv_goto (tgt := 19) hx hb dX7_within_6 (by decide) ?_
    obtain rfl := Option.some.inj hm6
    rw [hQ]
    exact ct_iret hx hb hr hlk hP0 hD0 hS0 rfl dX7_within_19

def f_X7_wave (x1 : Int32) (x2 : Int32) (m_waves : Nat → Int32) : Option (Int32) :=
  (if x2 = (0 : Int32) then
  (some ((11585 : Int32)))
  else
  (nm ((((((2 : Int32) * x1) + (1 : Int32)) * x2) - ((((2 : Int32) * x1) + (1 : Int32)) * x2) / (32 : Int32) * (32 : Int32)) : Int32) fun v3_3 =>
  (if (8 : Int32) ≤ v3_3 then
  ((if (16 : Int32) ≤ v3_3 then
  ((if (24 : Int32) ≤ v3_3 then
  (gi ((32 : Int32) - v3_3) 8 <|
  some ((m_waves ((32 : Int32) - v3_3).toNatClampNeg)))
  else
  (gi (v3_3 - (16 : Int32)) 8 <|
  some ((-(m_waves (v3_3 - (16 : Int32)).toNatClampNeg))))))
  else
  (gi ((16 : Int32) - v3_3) 8 <|
  some ((-(m_waves ((16 : Int32) - v3_3).toNatClampNeg))))))
  else
  (gi v3_3 8 <|
  some ((m_waves v3_3.toNatClampNeg))))))

abbrev rm_X7_wave : Room := { frames := 0, cells := 0, slots := 0, locals := 0 }

theorem cdS_X7_wave : yX7_wave.cls ≠ "java/lang/invoke/MethodHandle" ∧ yX7_wave.cls ≠ "java/lang/invoke/VarHandle" ∧ (parseMethodDescriptor yX7_wave.desc).map (fun d => d.parameters.length) = some 2 := by decide +kernel

theorem cdV_X7_wave : yX7_wave.cls = RX7 ∧ yX7_wave.cls ≠ "java/lang/invoke/MethodHandle" ∧ yX7_wave.cls ≠ "java/lang/invoke/VarHandle" ∧ (parseMethodDescriptor yX7_wave.desc).map (fun d => d.parameters.length) = some 2 := ⟨rfl, cdS_X7_wave⟩

theorem hi_X7_wave_7 : ∀ w ∈ u_ws RX7 TX7 42, w ∈ wsX7_wave := fun _ h => List.mem_cons_of_mem _ (List.mem_append_right _ h)

set_option maxHeartbeats 40000000 in
set_option maxRecDepth 100000 in
theorem c_X7_wave (l : Launch) (D : va_G) (cB cI cJ cQ : ClassId) (N : Nat) (r0 : Nat → Nat) (sz : Nat) (x1 : Int32) (x2 : Int32) (m_thrown : Int32) (m_length : Int32) (m_at : Int32) (m_fault : Int32) (m_hasHeader : Int32) (m_width : Int32) (m_height : Int32) (m_limit : Int32) (m_hasPicture : Int32) (m_frames : Int32) (m_taken : Int32) (m_many : Int32) (m_due : Int32) (m_waves : Nat → Int32) (o : Int32) (hm0 : f_X7_wave x1 x2 m_waves = some o) : Met l yX7_wave wsX7_wave rm_X7_wave (ctP D cB cI cJ cQ N sz [.ref (r0 0), .int x1, .int x2] (wf [oB (r0 0) 7 [.int m_thrown, .ref (r0 1), .int m_length, .int m_at, .int m_fault, .int m_hasHeader, .int m_width, .int m_height, .int m_limit, .ref (r0 2), .ref (r0 3), .ref (r0 4), .ref (r0 5), .ref (r0 6), .ref (r0 7), .ref (r0 8), .ref (r0 9), .int m_hasPicture, .int m_frames, .int m_taken, .ref (r0 10), .ref (r0 11), .ref (r0 12), .int m_many, .ref (r0 13), .ref (r0 14), .ref (r0 15), .ref (r0 16), .ref (r0 17), .ref (r0 18), .ref (r0 19), .ref (r0 20), .ref (r0 21), .ref (r0 22), .int m_due, .ref (r0 23), .ref (r0 24), .ref (r0 25), .ref (r0 26), .ref (r0 27), .ref (r0 28), .ref (r0 29)], aI (r0 27) cI 8 m_waves] [])) (ctQi D o (wf [oB (r0 0) 7 [.int m_thrown, .ref (r0 1), .int m_length, .int m_at, .int m_fault, .int m_hasHeader, .int m_width, .int m_height, .int m_limit, .ref (r0 2), .ref (r0 3), .ref (r0 4), .ref (r0 5), .ref (r0 6), .ref (r0 7), .ref (r0 8), .ref (r0 9), .int m_hasPicture, .int m_frames, .int m_taken, .ref (r0 10), .ref (r0 11), .ref (r0 12), .int m_many, .ref (r0 13), .ref (r0 14), .ref (r0 15), .ref (r0 16), .ref (r0 17), .ref (r0 18), .ref (r0 19), .ref (r0 20), .ref (r0 21), .ref (r0 22), .int m_due, .ref (r0 23), .ref (r0 24), .ref (r0 25), .ref (r0 26), .ref (r0 27), .ref (r0 28), .ref (r0 29)], aI (r0 27) cI 8 m_waves] []) (va_A (wf [oB (r0 0) 7 [.int m_thrown, .ref (r0 1), .int m_length, .int m_at, .int m_fault, .int m_hasHeader, .int m_width, .int m_height, .int m_limit, .ref (r0 2), .ref (r0 3), .ref (r0 4), .ref (r0 5), .ref (r0 6), .ref (r0 7), .ref (r0 8), .ref (r0 9), .int m_hasPicture, .int m_frames, .int m_taken, .ref (r0 10), .ref (r0 11), .ref (r0 12), .int m_many, .ref (r0 13), .ref (r0 14), .ref (r0 15), .ref (r0 16), .ref (r0 17), .ref (r0 18), .ref (r0 19), .ref (r0 20), .ref (r0 21), .ref (r0 22), .int m_due, .ref (r0 23), .ref (r0 24), .ref (r0 25), .ref (r0 26), .ref (r0 27), .ref (r0 28), .ref (r0 29)], aI (r0 27) cI 8 m_waves] []) sz)) 0 0 (va_A (wf [oB (r0 0) 7 [.int m_thrown, .ref (r0 1), .int m_length, .int m_at, .int m_fault, .int m_hasHeader, .int m_width, .int m_height, .int m_limit, .ref (r0 2), .ref (r0 3), .ref (r0 4), .ref (r0 5), .ref (r0 6), .ref (r0 7), .ref (r0 8), .ref (r0 9), .int m_hasPicture, .int m_frames, .int m_taken, .ref (r0 10), .ref (r0 11), .ref (r0 12), .int m_many, .ref (r0 13), .ref (r0 14), .ref (r0 15), .ref (r0 16), .ref (r0 17), .ref (r0 18), .ref (r0 19), .ref (r0 20), .ref (r0 21), .ref (r0 22), .int m_due, .ref (r0 23), .ref (r0 24), .ref (r0 25), .ref (r0 26), .ref (r0 27), .ref (r0 28), .ref (r0 29)], aI (r0 27) cI 8 m_waves] []) sz) := by
  refine ct_of (y := yX7_wave) (av := [.ref (r0 0), .int x1, .int x2]) (cc := cX7_wave) (maxL := 4) (ret := (some .int)) (own := RX7) (Qp := ctQi D o (wf [oB (r0 0) 7 [.int m_thrown, .ref (r0 1), .int m_length, .int m_at, .int m_fault, .int m_hasHeader, .int m_width, .int m_height, .int m_limit, .ref (r0 2), .ref (r0 3), .ref (r0 4), .ref (r0 5), .ref (r0 6), .ref (r0 7), .ref (r0 8), .ref (r0 9), .int m_hasPicture, .int m_frames, .int m_taken, .ref (r0 10), .ref (r0 11), .ref (r0 12), .int m_many, .ref (r0 13), .ref (r0 14), .ref (r0 15), .ref (r0 16), .ref (r0 17), .ref (r0 18), .ref (r0 19), .ref (r0 20), .ref (r0 21), .ref (r0 22), .int m_due, .ref (r0 23), .ref (r0 24), .ref (r0 25), .ref (r0 26), .ref (r0 27), .ref (r0 28), .ref (r0 29)], aI (r0 27) cI 8 m_waves] [])) (by decide) rfl rfl (Nat.le_of_ble_eq_true rfl) ?_
  intro p e s m args below meth c A hx hb hr hml hown hts hlk hnm hsz hAe E hP0 hD0 hS0 ls0 hl0
  subst hsz
  have hl0 : lv_has ls0 4 [(0, .ref (r0 0)), (1, .int x1), (2, .int x2)] := hl0
  obtain ⟨QQ, hQ⟩ : ∃ Q : State → Prop, Q = MQ below (ctQi D o (wf [oB (r0 0) 7 [.int m_thrown, .ref (r0 1), .int m_length, .int m_at, .int m_fault, .int m_hasHeader, .int m_width, .int m_height, .int m_limit, .ref (r0 2), .ref (r0 3), .ref (r0 4), .ref (r0 5), .ref (r0 6), .ref (r0 7), .ref (r0 8), .ref (r0 9), .int m_hasPicture, .int m_frames, .int m_taken, .ref (r0 10), .ref (r0 11), .ref (r0 12), .int m_many, .ref (r0 13), .ref (r0 14), .ref (r0 15), .ref (r0 16), .ref (r0 17), .ref (r0 18), .ref (r0 19), .ref (r0 20), .ref (r0 21), .ref (r0 22), .int m_due, .ref (r0 23), .ref (r0 24), .ref (r0 25), .ref (r0 26), .ref (r0 27), .ref (r0 28), .ref (r0 29)], aI (r0 27) cI 8 m_waves] []) A) args s 0 0 A := ⟨_, rfl⟩
  rw [← hQ]
  unfold f_X7_wave at hm0
  refine lv_iload_n hx hb dX7_wave_0 rfl (lv_at hl0 2 rfl) ?_
  refine lv_if_ne (tgt := 8) hx hb dX7_wave_1 (by decide) (fun hc1 => ?_) (fun hc1 => ?_)
  · have hm2 := bq_f hm0 hc1; clear hm0
    refine lv_iconst (v := 2) hx hb dX7_wave_8 (by decide) ?_
    refine lv_iload_n hx hb dX7_wave_9 rfl (lv_at hl0 1 rfl) ?_
    refine lv_imul hx hb dX7_wave_10 ?_
    refine lv_iconst (v := 1) hx hb dX7_wave_11 (by decide) ?_
    refine lv_iadd hx hb dX7_wave_12 ?_
    refine lv_iload_n hx hb dX7_wave_13 rfl (lv_at hl0 2 rfl) ?_
    refine lv_imul hx hb dX7_wave_14 ?_
    refine lv_bipush (v := 32) hx hb dX7_wave_15 (by decide) ?_
    refine lv_irem hx hb dX7_wave_17 (by decide) ?_
    obtain ⟨v3_3, ev3_3, hm4⟩ := nm_some hm2; clear hm2
    refine ct_topi ev3_3 ?_
    refine lv_istore_n (lv' := [(3, .int v3_3), (0, .ref (r0 0)), (1, .int x1), (2, .int x2)]) hx hb dX7_wave_18 rfl hl0 (by decide) rfl (fun ls5 hl5 => ?_); clear hl0
    refine lv_iload_n hx hb dX7_wave_19 rfl (lv_at hl5 0 rfl) ?_
    refine lv_bipush (v := 8) hx hb dX7_wave_20 (by decide) ?_
    refine lv_icmp_ge (tgt := 34) hx hb dX7_wave_22 (by decide) (fun hc6 => ?_) (fun hc6 => ?_)
    · have hm7 := bq_t hm4 hc6; clear hm4
      refine lv_iload_n hx hb dX7_wave_34 rfl (lv_at hl5 0 rfl) ?_
      refine lv_bipush (v := 16) hx hb dX7_wave_35 (by decide) ?_
      refine lv_icmp_ge (tgt := 53) hx hb dX7_wave_37 (by decide) (fun hc8 => ?_) (fun hc8 => ?_)
      · have hm9 := bq_t hm7 hc8; clear hm7
        refine lv_iload_n hx hb dX7_wave_53 rfl (lv_at hl5 0 rfl) ?_
        refine lv_bipush (v := 24) hx hb dX7_wave_54 (by decide) ?_
        refine lv_icmp_ge (tgt := 72) hx hb dX7_wave_56 (by decide) (fun hc10 => ?_) (fun hc10 => ?_)
        · have hm11 := bq_t hm9 hc10; clear hm9
          refine lv_aload_n hx hb dX7_wave_72 rfl (lv_at hl5 1 rfl) ?_
          refine va_get (D := D) (ci := 7) (v := .ref (r0 27)) (C := RX7) (T := TX7) (N := 42) hx hb hts hi_X7_wave_7 hown E.1 hP0 0 rfl rfl 39 (by decide) (hts _ (List.mem_of_getElem? (i := 1) rfl)) (fun _ h9 => h9) rfl dX7_wave_73 ?_
          refine lv_bipush (v := 32) hx hb dX7_wave_76 (by decide) ?_
          refine lv_iload_n hx hb dX7_wave_78 rfl (lv_at hl5 0 rfl) ?_
          refine lv_isub hx hb dX7_wave_79 ?_
          obtain ⟨hin12, hm12⟩ := gi_some hm11; clear hm11
          refine va_iald hx hb E.1 hP0 1 0 rfl rfl hin12 dX7_wave_80 ?_
          obtain rfl := Option.some.inj hm12
          rw [hQ]
          exact ct_iret hx hb hr hlk hP0 hD0 hS0 rfl dX7_wave_81
        · have hm13 := bq_f hm9 hc10; clear hm9
          refine lv_aload_n hx hb dX7_wave_59 rfl (lv_at hl5 1 rfl) ?_
          refine va_get (D := D) (ci := 7) (v := .ref (r0 27)) (C := RX7) (T := TX7) (N := 42) hx hb hts hi_X7_wave_7 hown E.1 hP0 0 rfl rfl 39 (by decide) (hts _ (List.mem_of_getElem? (i := 1) rfl)) (fun _ h9 => h9) rfl dX7_wave_60 ?_
          refine lv_iload_n hx hb dX7_wave_63 rfl (lv_at hl5 0 rfl) ?_
          refine lv_bipush (v := 16) hx hb dX7_wave_64 (by decide) ?_
          refine lv_isub hx hb dX7_wave_66 ?_
          obtain ⟨hin14, hm14⟩ := gi_some hm13; clear hm13
          refine va_iald hx hb E.1 hP0 1 0 rfl rfl hin14 dX7_wave_67 ?_
          refine lv_ineg hx hb dX7_wave_68 ?_
          refine lv_goto (tgt := 81) hx hb dX7_wave_69 (by decide) ?_
          obtain rfl := Option.some.inj hm14
          rw [hQ]
          exact ct_iret hx hb hr hlk hP0 hD0 hS0 rfl dX7_wave_81
      · have hm15 := bq_f hm7 hc8; clear hm7
        refine lv_aload_n hx hb dX7_wave_40 rfl (lv_at hl5 1 rfl) ?_
        refine va_get (D := D) (ci := 7) (v := .ref (r0 27)) (C := RX7) (T := TX7) (N := 42) hx hb hts hi_X7_wave_7 hown E.1 hP0 0 rfl rfl 39 (by decide) (hts _ (List.mem_of_getElem? (i := 1) rfl)) (fun _ h9 => h9) rfl dX7_wave_41 ?_
        refine lv_bipush (v := 16) hx hb dX7_wave_44 (by decide) ?_
        refine lv_iload_n hx hb dX7_wave_46 rfl (lv_at hl5 0 rfl) ?_
        refine lv_isub hx hb dX7_wave_47 ?_
        obtain ⟨hin16, hm16⟩ := gi_some hm15; clear hm15
        refine va_iald hx hb E.1 hP0 1 0 rfl rfl hin16 dX7_wave_48 ?_
        refine lv_ineg hx hb dX7_wave_49 ?_
        refine lv_goto (tgt := 81) hx hb dX7_wave_50 (by decide) ?_
        obtain rfl := Option.some.inj hm16
        rw [hQ]
        exact ct_iret hx hb hr hlk hP0 hD0 hS0 rfl dX7_wave_81
    · have hm17 := bq_f hm4 hc6; clear hm4
      refine lv_aload_n hx hb dX7_wave_25 rfl (lv_at hl5 1 rfl) ?_
      refine va_get (D := D) (ci := 7) (v := .ref (r0 27)) (C := RX7) (T := TX7) (N := 42) hx hb hts hi_X7_wave_7 hown E.1 hP0 0 rfl rfl 39 (by decide) (hts _ (List.mem_of_getElem? (i := 1) rfl)) (fun _ h9 => h9) rfl dX7_wave_26 ?_
      refine lv_iload_n hx hb dX7_wave_29 rfl (lv_at hl5 0 rfl) ?_
      obtain ⟨hin18, hm18⟩ := gi_some hm17; clear hm17
      refine va_iald hx hb E.1 hP0 1 0 rfl rfl hin18 dX7_wave_30 ?_
      refine lv_goto (tgt := 81) hx hb dX7_wave_31 (by decide) ?_
      obtain rfl := Option.some.inj hm18
      rw [hQ]
      exact ct_iret hx hb hr hlk hP0 hD0 hS0 rfl dX7_wave_81
  · have hm19 := bq_t hm0 hc1; clear hm0
    refine lv_sipush (v := 11585) hx hb dX7_wave_4 (by decide) ?_
    obtain rfl := Option.some.inj hm19
    rw [hQ]
    exact ct_iret hx hb hr hlk hP0 hD0 hS0 rfl dX7_wave_7

def f_X7_add_L15 (x1 : Int32) (x2 : Int32) (m_scales : Nat → Int32) (m_steps : Nat → Int32) (m_numbers : Nat → Int32) (v4_6 : Int32) : Nat → (Nat → Int64) → Int32 → Int32 → Option ((Nat → Int64) × Int32)
  | 0, _, _, _ => none
  | n + 1, m_square_15, v3_16, v5_17 =>
  (if v4_6 < v5_17 then
  (some (m_square_15, v3_16))
  else
  (jn (fun (k25 : Int32 → Option ((Nat → Int64) × Int32)) => (if (v4_6 - v4_6 / (2 : Int32) * (2 : Int32)) = (1 : Int32) then
  (k25 (v4_6 - v5_17))
  else
  (k25 v5_17))) fun k0_26 =>
  nm ((v4_6 - k0_26) : Int32) fun v7_30 =>
  jn (fun (k34 : (Nat → Int64) → Int32 → Option ((Nat → Int64) × Int32)) => (if (8 : Int32) ≤ k0_26 then
  (k34 m_square_15 v3_16)
  else
  ((if (8 : Int32) ≤ v7_30 then
  (k34 m_square_15 v3_16)
  else
  (gi (v3_16 / (4 : Int32)) 16 <|
  gi x2 8 <|
  bd1 (f_X7_within (((m_steps (v3_16 / (4 : Int32)).toNatClampNeg) * (m_scales x2.toNatClampNeg)) / (100 : Int32)) (2 : Int32) (4096 : Int32)) fun y_50 =>
  gi (((64 : Int32) * x1) + v3_16) 2304 <|
  nm (((Int32.toInt64 (m_numbers (((64 : Int32) * x1) + v3_16).toNatClampNeg)) * (Int32.toInt64 y_50)) : Int64) fun v9_56 =>
  jn (fun (k60 : Int64 → Option ((Nat → Int64) × Int32)) => (if (0 : Int32) ≤ (lg_cmp v9_56 (-32768 : Int64)) then
  ((if (lg_cmp v9_56 (32767 : Int64)) ≤ (0 : Int32) then
  (k60 v9_56)
  else
  (k60 (32767 : Int64))))
  else
  (k60 (-32768 : Int64)))) fun k0_61 =>
  gi (((8 : Int32) * v7_30) + k0_26) 64 <|
  nm (vp_updL m_square_15 (((8 : Int32) * v7_30) + k0_26).toNatClampNeg k0_61 : Nat → Int64) fun m_square_65 =>
  nm (v3_16 + (1 : Int32) : Int32) fun v3_68 =>
  k34 m_square_65 v3_68))))) fun m_square_35 v3_36 =>
  nm (v5_17 + (1 : Int32) : Int32) fun v5_39 =>
  f_X7_add_L15 x1 x2 m_scales m_steps m_numbers v4_6 n m_square_35 v3_36 v5_39))

def f_X7_add_L5 (x1 : Int32) (x2 : Int32) (m_scales : Nat → Int32) (m_steps : Nat → Int32) (m_numbers : Nat → Int32) : Nat → (Nat → Int64) → Int32 → Int32 → Option ((Nat → Int64))
  | 0, _, _, _ => none
  | n + 1, m_square_4, v3_5, v4_6 =>
  (if (15 : Int32) ≤ v4_6 then
  (some (m_square_4))
  else
  (bd2 (f_X7_add_L15 x1 x2 m_scales m_steps m_numbers v4_6 4000 m_square_4 v3_5 (0 : Int32)) fun m_square_80 v3_81 =>
  nm (v4_6 + (1 : Int32) : Int32) fun v4_84 =>
  f_X7_add_L5 x1 x2 m_scales m_steps m_numbers n m_square_80 v3_81 v4_84))

def f_X7_add_L196 (m_waves : Nat → Int32) (m_square_87 : Nat → Int64) (v4_93 : Int32) (v5_103 : Int32) : Nat → Int64 → Int32 → Option (Int64)
  | 0, _, _ => none
  | n + 1, v6_113, v8_114 =>
  (if (8 : Int32) ≤ v8_114 then
  (some (v6_113))
  else
  (bd1 (f_X7_wave v5_103 v8_114 m_waves) fun y_121 =>
  gi (((8 : Int32) * v4_93) + v8_114) 64 <|
  nm ((v6_113 + ((Int32.toInt64 y_121) * (m_square_87 (((8 : Int32) * v4_93) + v8_114).toNatClampNeg))) : Int64) fun v6_126 =>
  nm (v8_114 + (1 : Int32) : Int32) fun v8_129 =>
  f_X7_add_L196 m_waves m_square_87 v4_93 v5_103 n v6_126 v8_129))

def f_X7_add_L181 (m_waves : Nat → Int32) (m_square_87 : Nat → Int64) (v4_93 : Int32) : Nat → (Nat → Int64) → Int32 → Option ((Nat → Int64))
  | 0, _, _ => none
  | n + 1, m_rows_102, v5_103 =>
  (if (8 : Int32) ≤ v5_103 then
  (some (m_rows_102))
  else
  (bd1 (f_X7_add_L196 m_waves m_square_87 v4_93 v5_103 4000 (16384 : Int64) (0 : Int32)) fun v6_133 =>
  gi (((8 : Int32) * v4_93) + v5_103) 64 <|
  nm (vp_updL m_rows_102 (((8 : Int32) * v4_93) + v5_103).toNatClampNeg (v6_133 >>> (Int32.toInt64 (15 : Int32) &&& (63 : Int64))) : Nat → Int64) fun m_rows_137 =>
  nm (v5_103 + (1 : Int32) : Int32) fun v5_140 =>
  f_X7_add_L181 m_waves m_square_87 v4_93 n m_rows_137 v5_140))

def f_X7_add_L171 (m_waves : Nat → Int32) (m_square_87 : Nat → Int64) : Nat → (Nat → Int64) → Int32 → Option ((Nat → Int64))
  | 0, _, _ => none
  | n + 1, m_rows_92, v4_93 =>
  (if (8 : Int32) ≤ v4_93 then
  (some (m_rows_92))
  else
  (bd1 (f_X7_add_L181 m_waves m_square_87 v4_93 4000 m_rows_92 (0 : Int32)) fun m_rows_143 =>
  nm (v4_93 + (1 : Int32) : Int32) fun v4_146 =>
  f_X7_add_L171 m_waves m_square_87 n m_rows_143 v4_146))

def f_X7_add_L295 (m_waves : Nat → Int32) (m_rows_149 : Nat → Int64) (v4_155 : Int32) (v5_165 : Int32) : Nat → Int64 → Int32 → Option (Int64)
  | 0, _, _ => none
  | n + 1, v6_175, v8_176 =>
  (if (8 : Int32) ≤ v8_176 then
  (some (v6_175))
  else
  (bd1 (f_X7_wave v5_165 v8_176 m_waves) fun y_183 =>
  gi (((8 : Int32) * v8_176) + v4_155) 64 <|
  nm ((v6_175 + ((Int32.toInt64 y_183) * (m_rows_149 (((8 : Int32) * v8_176) + v4_155).toNatClampNeg))) : Int64) fun v6_188 =>
  nm (v8_176 + (1 : Int32) : Int32) fun v8_191 =>
  f_X7_add_L295 m_waves m_rows_149 v4_155 v5_165 n v6_188 v8_191))

def f_X7_add_L280 (m_waves : Nat → Int32) (m_rows_149 : Nat → Int64) (v4_155 : Int32) : Nat → (Nat → Int32) → Int32 → Option ((Nat → Int32))
  | 0, _, _ => none
  | n + 1, m_added_164, v5_165 =>
  (if (8 : Int32) ≤ v5_165 then
  (some (m_added_164))
  else
  (bd1 (f_X7_add_L295 m_waves m_rows_149 v4_155 v5_165 4000 (16384 : Int64) (0 : Int32)) fun v6_195 =>
  gi (((8 : Int32) * v5_165) + v4_155) 64 <|
  nm (upd m_added_164 (((8 : Int32) * v5_165) + v4_155).toNatClampNeg (Int64.toInt32 (v6_195 >>> (Int32.toInt64 (15 : Int32) &&& (63 : Int64)))) : Nat → Int32) fun m_added_199 =>
  nm (v5_165 + (1 : Int32) : Int32) fun v5_202 =>
  f_X7_add_L280 m_waves m_rows_149 v4_155 n m_added_199 v5_202))

def f_X7_add_L270 (m_waves : Nat → Int32) (m_rows_149 : Nat → Int64) : Nat → (Nat → Int32) → Int32 → Option ((Nat → Int32))
  | 0, _, _ => none
  | n + 1, m_added_154, v4_155 =>
  (if (8 : Int32) ≤ v4_155 then
  (some (m_added_154))
  else
  (bd1 (f_X7_add_L280 m_waves m_rows_149 v4_155 4000 m_added_154 (0 : Int32)) fun m_added_205 =>
  nm (v4_155 + (1 : Int32) : Int32) fun v4_208 =>
  f_X7_add_L270 m_waves m_rows_149 n m_added_205 v4_208))

def f_X7_add (x1 : Int32) (x2 : Int32) (m_scales : Nat → Int32) (m_steps : Nat → Int32) (m_numbers : Nat → Int32) (m_square : Nat → Int64) (m_rows : Nat → Int64) (m_added : Nat → Int32) (m_waves : Nat → Int32) : Option ((Nat → Int64) × (Nat → Int64) × (Nat → Int32)) :=
  bd1 (f_X7_add_L5 x1 x2 m_scales m_steps m_numbers 4000 m_square (0 : Int32) (0 : Int32)) fun m_square_87 =>
  bd1 (f_X7_add_L171 m_waves m_square_87 4000 m_rows (0 : Int32)) fun m_rows_149 =>
  bd1 (f_X7_add_L270 m_waves m_rows_149 4000 m_added (0 : Int32)) fun m_added_211 =>
  some (m_square_87, m_rows_149, m_added_211)

abbrev rm_X7_add : Room := { frames := 1, cells := 0, slots := 0, locals := 23 }

theorem cdS_X7_add : yX7_add.cls ≠ "java/lang/invoke/MethodHandle" ∧ yX7_add.cls ≠ "java/lang/invoke/VarHandle" ∧ (parseMethodDescriptor yX7_add.desc).map (fun d => d.parameters.length) = some 2 := by decide +kernel

theorem cdV_X7_add : yX7_add.cls = RX7 ∧ yX7_add.cls ≠ "java/lang/invoke/MethodHandle" ∧ yX7_add.cls ≠ "java/lang/invoke/VarHandle" ∧ (parseMethodDescriptor yX7_add.desc).map (fun d => d.parameters.length) = some 2 := ⟨rfl, cdS_X7_add⟩

theorem hi_X7_add_7 : ∀ w ∈ u_ws RX7 TX7 42, w ∈ wsX7_add := fun _ h => List.mem_cons_of_mem _ (List.mem_append_right _ h)

set_option maxHeartbeats 40000000 in
set_option maxRecDepth 100000 in
theorem c_X7_add (l : Launch) (D : va_G) (cB cI cJ cQ : ClassId) (N : Nat) (r0 : Nat → Nat) (sz : Nat) (x1 : Int32) (x2 : Int32) (m_thrown : Int32) (m_length : Int32) (m_at : Int32) (m_fault : Int32) (m_hasHeader : Int32) (m_width : Int32) (m_height : Int32) (m_limit : Int32) (m_hasPicture : Int32) (m_frames : Int32) (m_taken : Int32) (m_many : Int32) (m_due : Int32) (m_scales : Nat → Int32) (m_steps : Nat → Int32) (m_numbers : Nat → Int32) (m_square : Nat → Int64) (m_rows : Nat → Int64) (m_added : Nat → Int32) (m_waves : Nat → Int32) (o : (Nat → Int64) × (Nat → Int64) × (Nat → Int32)) (hm0 : f_X7_add x1 x2 m_scales m_steps m_numbers m_square m_rows m_added m_waves = some o) : Met l yX7_add wsX7_add rm_X7_add (ctP D cB cI cJ cQ N sz [.ref (r0 0), .int x1, .int x2] (wf [oB (r0 0) 7 [.int m_thrown, .ref (r0 1), .int m_length, .int m_at, .int m_fault, .int m_hasHeader, .int m_width, .int m_height, .int m_limit, .ref (r0 2), .ref (r0 3), .ref (r0 4), .ref (r0 5), .ref (r0 6), .ref (r0 7), .ref (r0 8), .ref (r0 9), .int m_hasPicture, .int m_frames, .int m_taken, .ref (r0 10), .ref (r0 11), .ref (r0 12), .int m_many, .ref (r0 13), .ref (r0 14), .ref (r0 15), .ref (r0 16), .ref (r0 17), .ref (r0 18), .ref (r0 19), .ref (r0 20), .ref (r0 21), .ref (r0 22), .int m_due, .ref (r0 23), .ref (r0 24), .ref (r0 25), .ref (r0 26), .ref (r0 27), .ref (r0 28), .ref (r0 29)], aI (r0 2) cI 8 m_scales, aI (r0 3) cI 16 m_steps, aI (r0 22) cI 2304 m_numbers, aJ (r0 24) cJ 64 m_square, aJ (r0 25) cJ 64 m_rows, aI (r0 26) cI 64 m_added, aI (r0 27) cI 8 m_waves] [])) (ctQv D (wf [oB (r0 0) 7 [.int m_thrown, .ref (r0 1), .int m_length, .int m_at, .int m_fault, .int m_hasHeader, .int m_width, .int m_height, .int m_limit, .ref (r0 2), .ref (r0 3), .ref (r0 4), .ref (r0 5), .ref (r0 6), .ref (r0 7), .ref (r0 8), .ref (r0 9), .int m_hasPicture, .int m_frames, .int m_taken, .ref (r0 10), .ref (r0 11), .ref (r0 12), .int m_many, .ref (r0 13), .ref (r0 14), .ref (r0 15), .ref (r0 16), .ref (r0 17), .ref (r0 18), .ref (r0 19), .ref (r0 20), .ref (r0 21), .ref (r0 22), .int m_due, .ref (r0 23), .ref (r0 24), .ref (r0 25), .ref (r0 26), .ref (r0 27), .ref (r0 28), .ref (r0 29)], aI (r0 2) cI 8 m_scales, aI (r0 3) cI 16 m_steps, aI (r0 22) cI 2304 m_numbers, aJ (r0 24) cJ 64 (o.1), aJ (r0 25) cJ 64 (o.2.1), aI (r0 26) cI 64 (o.2.2), aI (r0 27) cI 8 m_waves] []) (va_A (wf [oB (r0 0) 7 [.int m_thrown, .ref (r0 1), .int m_length, .int m_at, .int m_fault, .int m_hasHeader, .int m_width, .int m_height, .int m_limit, .ref (r0 2), .ref (r0 3), .ref (r0 4), .ref (r0 5), .ref (r0 6), .ref (r0 7), .ref (r0 8), .ref (r0 9), .int m_hasPicture, .int m_frames, .int m_taken, .ref (r0 10), .ref (r0 11), .ref (r0 12), .int m_many, .ref (r0 13), .ref (r0 14), .ref (r0 15), .ref (r0 16), .ref (r0 17), .ref (r0 18), .ref (r0 19), .ref (r0 20), .ref (r0 21), .ref (r0 22), .int m_due, .ref (r0 23), .ref (r0 24), .ref (r0 25), .ref (r0 26), .ref (r0 27), .ref (r0 28), .ref (r0 29)], aI (r0 2) cI 8 m_scales, aI (r0 3) cI 16 m_steps, aI (r0 22) cI 2304 m_numbers, aJ (r0 24) cJ 64 m_square, aJ (r0 25) cJ 64 m_rows, aI (r0 26) cI 64 m_added, aI (r0 27) cI 8 m_waves] []) sz)) 0 0 (va_A (wf [oB (r0 0) 7 [.int m_thrown, .ref (r0 1), .int m_length, .int m_at, .int m_fault, .int m_hasHeader, .int m_width, .int m_height, .int m_limit, .ref (r0 2), .ref (r0 3), .ref (r0 4), .ref (r0 5), .ref (r0 6), .ref (r0 7), .ref (r0 8), .ref (r0 9), .int m_hasPicture, .int m_frames, .int m_taken, .ref (r0 10), .ref (r0 11), .ref (r0 12), .int m_many, .ref (r0 13), .ref (r0 14), .ref (r0 15), .ref (r0 16), .ref (r0 17), .ref (r0 18), .ref (r0 19), .ref (r0 20), .ref (r0 21), .ref (r0 22), .int m_due, .ref (r0 23), .ref (r0 24), .ref (r0 25), .ref (r0 26), .ref (r0 27), .ref (r0 28), .ref (r0 29)], aI (r0 2) cI 8 m_scales, aI (r0 3) cI 16 m_steps, aI (r0 22) cI 2304 m_numbers, aJ (r0 24) cJ 64 m_square, aJ (r0 25) cJ 64 m_rows, aI (r0 26) cI 64 m_added, aI (r0 27) cI 8 m_waves] []) sz) := by
  refine ct_of (y := yX7_add) (av := [.ref (r0 0), .int x1, .int x2]) (cc := cX7_add) (maxL := 11) (ret := none) (own := RX7) (Qp := ctQv D (wf [oB (r0 0) 7 [.int m_thrown, .ref (r0 1), .int m_length, .int m_at, .int m_fault, .int m_hasHeader, .int m_width, .int m_height, .int m_limit, .ref (r0 2), .ref (r0 3), .ref (r0 4), .ref (r0 5), .ref (r0 6), .ref (r0 7), .ref (r0 8), .ref (r0 9), .int m_hasPicture, .int m_frames, .int m_taken, .ref (r0 10), .ref (r0 11), .ref (r0 12), .int m_many, .ref (r0 13), .ref (r0 14), .ref (r0 15), .ref (r0 16), .ref (r0 17), .ref (r0 18), .ref (r0 19), .ref (r0 20), .ref (r0 21), .ref (r0 22), .int m_due, .ref (r0 23), .ref (r0 24), .ref (r0 25), .ref (r0 26), .ref (r0 27), .ref (r0 28), .ref (r0 29)], aI (r0 2) cI 8 m_scales, aI (r0 3) cI 16 m_steps, aI (r0 22) cI 2304 m_numbers, aJ (r0 24) cJ 64 (o.1), aJ (r0 25) cJ 64 (o.2.1), aI (r0 26) cI 64 (o.2.2), aI (r0 27) cI 8 m_waves] [])) (by decide) rfl rfl (Nat.le_of_ble_eq_true rfl) ?_
  intro p e s m args below meth c A hx hb hr hml hown hts hlk hnm hsz hAe E hP0 hD0 hS0 ls0 hl0
  subst hsz
  have hl0 : lv_has ls0 11 [(0, .ref (r0 0)), (1, .int x1), (2, .int x2)] := hl0
  obtain ⟨QQ, hQ⟩ : ∃ Q : State → Prop, Q = MQ below (ctQv D (wf [oB (r0 0) 7 [.int m_thrown, .ref (r0 1), .int m_length, .int m_at, .int m_fault, .int m_hasHeader, .int m_width, .int m_height, .int m_limit, .ref (r0 2), .ref (r0 3), .ref (r0 4), .ref (r0 5), .ref (r0 6), .ref (r0 7), .ref (r0 8), .ref (r0 9), .int m_hasPicture, .int m_frames, .int m_taken, .ref (r0 10), .ref (r0 11), .ref (r0 12), .int m_many, .ref (r0 13), .ref (r0 14), .ref (r0 15), .ref (r0 16), .ref (r0 17), .ref (r0 18), .ref (r0 19), .ref (r0 20), .ref (r0 21), .ref (r0 22), .int m_due, .ref (r0 23), .ref (r0 24), .ref (r0 25), .ref (r0 26), .ref (r0 27), .ref (r0 28), .ref (r0 29)], aI (r0 2) cI 8 m_scales, aI (r0 3) cI 16 m_steps, aI (r0 22) cI 2304 m_numbers, aJ (r0 24) cJ 64 (o.1), aJ (r0 25) cJ 64 (o.2.1), aI (r0 26) cI 64 (o.2.2), aI (r0 27) cI 8 m_waves] []) A) args s 0 0 A := ⟨_, rfl⟩
  rw [← hQ]
  unfold f_X7_add at hm0
  refine lv_iconst (v := 0) hx hb dX7_add_0 (by decide) ?_
  refine lv_istore_n (lv' := [(3, .int (0 : Int32)), (0, .ref (r0 0)), (1, .int x1), (2, .int x2)]) hx hb dX7_add_1 rfl hl0 (by decide) rfl (fun ls1 hl1 => ?_); clear hl0
  refine lv_iconst (v := 0) hx hb dX7_add_2 (by decide) ?_
  refine lv_istore (lv' := [(4, .int (0 : Int32)), (3, .int (0 : Int32)), (0, .ref (r0 0)), (1, .int x1), (2, .int x2)]) hx hb dX7_add_3 hl1 (by decide) rfl (fun ls2 hl2 => ?_); clear hl1
  obtain ⟨m_square_87, hlp3, hm88⟩ := bd1_some hm0; clear hm0
  have LP3 : ∀ (n : Nat) (m_square_4 : Nat → Int64) (v3_5 : Int32) (v4_6 : Int32) (z3 : (Nat → Int64)) (H7 : Heap) (lc7 : List Loc) (ls7 : Array Slot), f_X7_add_L5 x1 x2 m_scales m_steps m_numbers n m_square_4 v3_5 v4_6 = some z3 → va_P D vwCl (wf [oB (r0 0) 7 [.int m_thrown, .ref (r0 1), .int m_length, .int m_at, .int m_fault, .int m_hasHeader, .int m_width, .int m_height, .int m_limit, .ref (r0 2), .ref (r0 3), .ref (r0 4), .ref (r0 5), .ref (r0 6), .ref (r0 7), .ref (r0 8), .ref (r0 9), .int m_hasPicture, .int m_frames, .int m_taken, .ref (r0 10), .ref (r0 11), .ref (r0 12), .int m_many, .ref (r0 13), .ref (r0 14), .ref (r0 15), .ref (r0 16), .ref (r0 17), .ref (r0 18), .ref (r0 19), .ref (r0 20), .ref (r0 21), .ref (r0 22), .int m_due, .ref (r0 23), .ref (r0 24), .ref (r0 25), .ref (r0 26), .ref (r0 27), .ref (r0 28), .ref (r0 29)], aI (r0 2) cI 8 m_scales, aI (r0 3) cI 16 m_steps, aI (r0 22) cI 2304 m_numbers, aJ (r0 24) cJ 64 m_square_4, aJ (r0 25) cJ 64 m_rows, aI (r0 26) cI 64 m_added, aI (r0 27) cI 8 m_waves] []) H7 → va_D A (wf [oB (r0 0) 7 [.int m_thrown, .ref (r0 1), .int m_length, .int m_at, .int m_fault, .int m_hasHeader, .int m_width, .int m_height, .int m_limit, .ref (r0 2), .ref (r0 3), .ref (r0 4), .ref (r0 5), .ref (r0 6), .ref (r0 7), .ref (r0 8), .ref (r0 9), .int m_hasPicture, .int m_frames, .int m_taken, .ref (r0 10), .ref (r0 11), .ref (r0 12), .int m_many, .ref (r0 13), .ref (r0 14), .ref (r0 15), .ref (r0 16), .ref (r0 17), .ref (r0 18), .ref (r0 19), .ref (r0 20), .ref (r0 21), .ref (r0 22), .int m_due, .ref (r0 23), .ref (r0 24), .ref (r0 25), .ref (r0 26), .ref (r0 27), .ref (r0 28), .ref (r0 29)], aI (r0 2) cI 8 m_scales, aI (r0 3) cI 16 m_steps, aI (r0 22) cI 2304 m_numbers, aJ (r0 24) cJ 64 m_square_4, aJ (r0 25) cJ 64 m_rows, aI (r0 26) cI 64 m_added, aI (r0 27) cI 8 m_waves] []) → va_S A s.heap H7 lc7 → lv_has ls7 11 [(0, .ref (r0 0)), (1, .int x1), (2, .int x2), (3, .int v3_5), (4, .int v4_6)] → (∀ (H : Heap) (lc : List Loc) (ls : Array Slot), va_P D vwCl (wf [oB (r0 0) 7 [.int m_thrown, .ref (r0 1), .int m_length, .int m_at, .int m_fault, .int m_hasHeader, .int m_width, .int m_height, .int m_limit, .ref (r0 2), .ref (r0 3), .ref (r0 4), .ref (r0 5), .ref (r0 6), .ref (r0 7), .ref (r0 8), .ref (r0 9), .int m_hasPicture, .int m_frames, .int m_taken, .ref (r0 10), .ref (r0 11), .ref (r0 12), .int m_many, .ref (r0 13), .ref (r0 14), .ref (r0 15), .ref (r0 16), .ref (r0 17), .ref (r0 18), .ref (r0 19), .ref (r0 20), .ref (r0 21), .ref (r0 22), .int m_due, .ref (r0 23), .ref (r0 24), .ref (r0 25), .ref (r0 26), .ref (r0 27), .ref (r0 28), .ref (r0 29)], aI (r0 2) cI 8 m_scales, aI (r0 3) cI 16 m_steps, aI (r0 22) cI 2304 m_numbers, aJ (r0 24) cJ 64 z3, aJ (r0 25) cJ 64 m_rows, aI (r0 26) cI 64 m_added, aI (r0 27) cI 8 m_waves] []) H → va_D A (wf [oB (r0 0) 7 [.int m_thrown, .ref (r0 1), .int m_length, .int m_at, .int m_fault, .int m_hasHeader, .int m_width, .int m_height, .int m_limit, .ref (r0 2), .ref (r0 3), .ref (r0 4), .ref (r0 5), .ref (r0 6), .ref (r0 7), .ref (r0 8), .ref (r0 9), .int m_hasPicture, .int m_frames, .int m_taken, .ref (r0 10), .ref (r0 11), .ref (r0 12), .int m_many, .ref (r0 13), .ref (r0 14), .ref (r0 15), .ref (r0 16), .ref (r0 17), .ref (r0 18), .ref (r0 19), .ref (r0 20), .ref (r0 21), .ref (r0 22), .int m_due, .ref (r0 23), .ref (r0 24), .ref (r0 25), .ref (r0 26), .ref (r0 27), .ref (r0 28), .ref (r0 29)], aI (r0 2) cI 8 m_scales, aI (r0 3) cI 16 m_steps, aI (r0 22) cI 2304 m_numbers, aJ (r0 24) cJ 64 z3, aJ (r0 25) cJ 64 m_rows, aI (r0 26) cI 64 m_added, aI (r0 27) cI 8 m_waves] []) → va_S A s.heap H lc → lv_has ls 11 [(0, .ref (r0 0))] → W p l e rm_X7_add s m args below meth c H lc 0 0 QQ (F0 m 168 ls [])) → W p l e rm_X7_add s m args below meth c H7 lc7 0 0 QQ (F0 m 5 ls7 []) := by
    intro n
    induction n with
    | zero =>
      intro m_square_4 v3_5 v4_6 z3 H7 lc7 ls7 hm9; simp [f_X7_add_L5] at hm9
    | succ n ih =>
      intro m_square_4 v3_5 v4_6 z3 H7 lc7 ls7 hm9 hP7 hD7 hS7 hl7 kx
      rw [f_X7_add_L5] at hm9
      refine lv_iload hx hb dX7_add_5 (lv_at hl7 4 rfl) ?_
      refine lv_bipush (v := 15) hx hb dX7_add_7 (by decide) ?_
      refine lv_icmp_ge (tgt := 168) hx hb dX7_add_9 (by decide) (fun hc10 => ?_) (fun hc10 => ?_)
      · have hm11 := bq_t hm9 hc10; clear hm9
        obtain rfl := Option.some.inj hm11
        exact kx _ _ _ hP7 hD7 hS7 (lv_sub hl7 [0] rfl)
      · have hm12 := bq_f hm9 hc10; clear hm9
        refine lv_iconst (v := 0) hx hb dX7_add_12 (by decide) ?_
        refine lv_istore (lv' := [(5, .int (0 : Int32)), (0, .ref (r0 0)), (1, .int x1), (2, .int x2), (3, .int v3_5), (4, .int v4_6)]) hx hb dX7_add_13 hl7 (by decide) rfl (fun ls13 hl13 => ?_); clear hl7
        obtain ⟨m_square_80, v3_81, hlp14, hm82⟩ := bd2_some hm12; clear hm12
        have LP14 : ∀ (n : Nat) (m_square_15 : Nat → Int64) (v3_16 : Int32) (v5_17 : Int32) (z14 : (Nat → Int64) × Int32) (H18 : Heap) (lc18 : List Loc) (ls18 : Array Slot), f_X7_add_L15 x1 x2 m_scales m_steps m_numbers v4_6 n m_square_15 v3_16 v5_17 = some z14 → va_P D vwCl (wf [oB (r0 0) 7 [.int m_thrown, .ref (r0 1), .int m_length, .int m_at, .int m_fault, .int m_hasHeader, .int m_width, .int m_height, .int m_limit, .ref (r0 2), .ref (r0 3), .ref (r0 4), .ref (r0 5), .ref (r0 6), .ref (r0 7), .ref (r0 8), .ref (r0 9), .int m_hasPicture, .int m_frames, .int m_taken, .ref (r0 10), .ref (r0 11), .ref (r0 12), .int m_many, .ref (r0 13), .ref (r0 14), .ref (r0 15), .ref (r0 16), .ref (r0 17), .ref (r0 18), .ref (r0 19), .ref (r0 20), .ref (r0 21), .ref (r0 22), .int m_due, .ref (r0 23), .ref (r0 24), .ref (r0 25), .ref (r0 26), .ref (r0 27), .ref (r0 28), .ref (r0 29)], aI (r0 2) cI 8 m_scales, aI (r0 3) cI 16 m_steps, aI (r0 22) cI 2304 m_numbers, aJ (r0 24) cJ 64 m_square_15, aJ (r0 25) cJ 64 m_rows, aI (r0 26) cI 64 m_added, aI (r0 27) cI 8 m_waves] []) H18 → va_D A (wf [oB (r0 0) 7 [.int m_thrown, .ref (r0 1), .int m_length, .int m_at, .int m_fault, .int m_hasHeader, .int m_width, .int m_height, .int m_limit, .ref (r0 2), .ref (r0 3), .ref (r0 4), .ref (r0 5), .ref (r0 6), .ref (r0 7), .ref (r0 8), .ref (r0 9), .int m_hasPicture, .int m_frames, .int m_taken, .ref (r0 10), .ref (r0 11), .ref (r0 12), .int m_many, .ref (r0 13), .ref (r0 14), .ref (r0 15), .ref (r0 16), .ref (r0 17), .ref (r0 18), .ref (r0 19), .ref (r0 20), .ref (r0 21), .ref (r0 22), .int m_due, .ref (r0 23), .ref (r0 24), .ref (r0 25), .ref (r0 26), .ref (r0 27), .ref (r0 28), .ref (r0 29)], aI (r0 2) cI 8 m_scales, aI (r0 3) cI 16 m_steps, aI (r0 22) cI 2304 m_numbers, aJ (r0 24) cJ 64 m_square_15, aJ (r0 25) cJ 64 m_rows, aI (r0 26) cI 64 m_added, aI (r0 27) cI 8 m_waves] []) → va_S A s.heap H18 lc18 → lv_has ls18 11 [(0, .ref (r0 0)), (1, .int x1), (2, .int x2), (3, .int v3_16), (4, .int v4_6), (5, .int v5_17)] → (∀ (H : Heap) (lc : List Loc) (ls : Array Slot), va_P D vwCl (wf [oB (r0 0) 7 [.int m_thrown, .ref (r0 1), .int m_length, .int m_at, .int m_fault, .int m_hasHeader, .int m_width, .int m_height, .int m_limit, .ref (r0 2), .ref (r0 3), .ref (r0 4), .ref (r0 5), .ref (r0 6), .ref (r0 7), .ref (r0 8), .ref (r0 9), .int m_hasPicture, .int m_frames, .int m_taken, .ref (r0 10), .ref (r0 11), .ref (r0 12), .int m_many, .ref (r0 13), .ref (r0 14), .ref (r0 15), .ref (r0 16), .ref (r0 17), .ref (r0 18), .ref (r0 19), .ref (r0 20), .ref (r0 21), .ref (r0 22), .int m_due, .ref (r0 23), .ref (r0 24), .ref (r0 25), .ref (r0 26), .ref (r0 27), .ref (r0 28), .ref (r0 29)], aI (r0 2) cI 8 m_scales, aI (r0 3) cI 16 m_steps, aI (r0 22) cI 2304 m_numbers, aJ (r0 24) cJ 64 (z14.1), aJ (r0 25) cJ 64 m_rows, aI (r0 26) cI 64 m_added, aI (r0 27) cI 8 m_waves] []) H → va_D A (wf [oB (r0 0) 7 [.int m_thrown, .ref (r0 1), .int m_length, .int m_at, .int m_fault, .int m_hasHeader, .int m_width, .int m_height, .int m_limit, .ref (r0 2), .ref (r0 3), .ref (r0 4), .ref (r0 5), .ref (r0 6), .ref (r0 7), .ref (r0 8), .ref (r0 9), .int m_hasPicture, .int m_frames, .int m_taken, .ref (r0 10), .ref (r0 11), .ref (r0 12), .int m_many, .ref (r0 13), .ref (r0 14), .ref (r0 15), .ref (r0 16), .ref (r0 17), .ref (r0 18), .ref (r0 19), .ref (r0 20), .ref (r0 21), .ref (r0 22), .int m_due, .ref (r0 23), .ref (r0 24), .ref (r0 25), .ref (r0 26), .ref (r0 27), .ref (r0 28), .ref (r0 29)], aI (r0 2) cI 8 m_scales, aI (r0 3) cI 16 m_steps, aI (r0 22) cI 2304 m_numbers, aJ (r0 24) cJ 64 (z14.1), aJ (r0 25) cJ 64 m_rows, aI (r0 26) cI 64 m_added, aI (r0 27) cI 8 m_waves] []) → va_S A s.heap H lc → lv_has ls 11 [(0, .ref (r0 0)), (1, .int x1), (2, .int x2), (3, .int (z14.2)), (4, .int v4_6)] → W p l e rm_X7_add s m args below meth c H lc 0 0 QQ (F0 m 162 ls [])) → W p l e rm_X7_add s m args below meth c H18 lc18 0 0 QQ (F0 m 15 ls18 []) := by
          intro n
          induction n with
          | zero =>
            intro m_square_15 v3_16 v5_17 z14 H18 lc18 ls18 hm20; simp [f_X7_add_L15] at hm20
          | succ n ih =>
            intro m_square_15 v3_16 v5_17 z14 H18 lc18 ls18 hm20 hP18 hD18 hS18 hl18 kx
            rw [f_X7_add_L15] at hm20
            refine lv_iload hx hb dX7_add_15 (lv_at hl18 5 rfl) ?_
            refine lv_iload hx hb dX7_add_17 (lv_at hl18 4 rfl) ?_
            refine lv_icmp_gt (tgt := 162) hx hb dX7_add_19 (by decide) (fun hc21 => ?_) (fun hc21 => ?_)
            · have hm22 := bq_t hm20 hc21; clear hm20
              obtain rfl := Option.some.inj hm22
              exact kx _ _ _ hP18 hD18 hS18 (lv_sub hl18 [0, 1, 2, 3, 4] rfl)
            · have hm23 := bq_f hm20 hc21; clear hm20
              refine lv_iload hx hb dX7_add_22 (lv_at hl18 4 rfl) ?_
              refine lv_iconst (v := 2) hx hb dX7_add_24 (by decide) ?_
              refine lv_irem hx hb dX7_add_25 (by decide) ?_
              refine lv_iconst (v := 1) hx hb dX7_add_26 (by decide) ?_
              obtain ⟨k25, ek25, hm25⟩ := jn_some hm23; clear hm23
              have KJ25 : ∀ (k0_26 : Int32) (H27 : Heap) (lc27 : List Loc) (ls27 : Array Slot), k25 k0_26 = some z14 → va_P D vwCl (wf [oB (r0 0) 7 [.int m_thrown, .ref (r0 1), .int m_length, .int m_at, .int m_fault, .int m_hasHeader, .int m_width, .int m_height, .int m_limit, .ref (r0 2), .ref (r0 3), .ref (r0 4), .ref (r0 5), .ref (r0 6), .ref (r0 7), .ref (r0 8), .ref (r0 9), .int m_hasPicture, .int m_frames, .int m_taken, .ref (r0 10), .ref (r0 11), .ref (r0 12), .int m_many, .ref (r0 13), .ref (r0 14), .ref (r0 15), .ref (r0 16), .ref (r0 17), .ref (r0 18), .ref (r0 19), .ref (r0 20), .ref (r0 21), .ref (r0 22), .int m_due, .ref (r0 23), .ref (r0 24), .ref (r0 25), .ref (r0 26), .ref (r0 27), .ref (r0 28), .ref (r0 29)], aI (r0 2) cI 8 m_scales, aI (r0 3) cI 16 m_steps, aI (r0 22) cI 2304 m_numbers, aJ (r0 24) cJ 64 m_square_15, aJ (r0 25) cJ 64 m_rows, aI (r0 26) cI 64 m_added, aI (r0 27) cI 8 m_waves] []) H27 → va_D A (wf [oB (r0 0) 7 [.int m_thrown, .ref (r0 1), .int m_length, .int m_at, .int m_fault, .int m_hasHeader, .int m_width, .int m_height, .int m_limit, .ref (r0 2), .ref (r0 3), .ref (r0 4), .ref (r0 5), .ref (r0 6), .ref (r0 7), .ref (r0 8), .ref (r0 9), .int m_hasPicture, .int m_frames, .int m_taken, .ref (r0 10), .ref (r0 11), .ref (r0 12), .int m_many, .ref (r0 13), .ref (r0 14), .ref (r0 15), .ref (r0 16), .ref (r0 17), .ref (r0 18), .ref (r0 19), .ref (r0 20), .ref (r0 21), .ref (r0 22), .int m_due, .ref (r0 23), .ref (r0 24), .ref (r0 25), .ref (r0 26), .ref (r0 27), .ref (r0 28), .ref (r0 29)], aI (r0 2) cI 8 m_scales, aI (r0 3) cI 16 m_steps, aI (r0 22) cI 2304 m_numbers, aJ (r0 24) cJ 64 m_square_15, aJ (r0 25) cJ 64 m_rows, aI (r0 26) cI 64 m_added, aI (r0 27) cI 8 m_waves] []) → va_S A s.heap H27 lc27 → lv_has ls27 11 [(0, .ref (r0 0)), (1, .int x1), (2, .int x2), (3, .int v3_16), (4, .int v4_6), (5, .int v5_17)] → W p l e rm_X7_add s m args below meth c H27 lc27 0 0 QQ (F0 m 40 ls27 [.int k0_26]) := by
                intro k0_26 H27 lc27 ls27 hm28 hP27 hD27 hS27 hl27
                rw [ek25] at hm28
                refine lv_istore (lv' := [(6, .int k0_26), (0, .ref (r0 0)), (1, .int x1), (2, .int x2), (3, .int v3_16), (4, .int v4_6), (5, .int v5_17)]) hx hb dX7_add_40 hl27 (by decide) rfl (fun ls29 hl29 => ?_); clear hl27
                refine lv_iload hx hb dX7_add_42 (lv_at hl29 5 rfl) ?_
                refine lv_iload hx hb dX7_add_44 (lv_at hl29 0 rfl) ?_
                refine lv_isub hx hb dX7_add_46 ?_
                obtain ⟨v7_30, ev7_30, hm31⟩ := nm_some hm28; clear hm28
                refine ct_topi ev7_30 ?_
                refine lv_istore (lv' := [(7, .int v7_30), (6, .int k0_26), (0, .ref (r0 0)), (1, .int x1), (2, .int x2), (3, .int v3_16), (4, .int v4_6), (5, .int v5_17)]) hx hb dX7_add_47 hl29 (by decide) rfl (fun ls32 hl32 => ?_); clear hl29
                refine lv_iload hx hb dX7_add_49 (lv_at hl32 1 rfl) ?_
                refine lv_bipush (v := 8) hx hb dX7_add_51 (by decide) ?_
                obtain ⟨k34, ek34, hm34⟩ := jn_some hm31; clear hm31
                have KJ34 : ∀ (m_square_35 : Nat → Int64) (v3_36 : Int32) (H37 : Heap) (lc37 : List Loc) (ls37 : Array Slot), k34 m_square_35 v3_36 = some z14 → va_P D vwCl (wf [oB (r0 0) 7 [.int m_thrown, .ref (r0 1), .int m_length, .int m_at, .int m_fault, .int m_hasHeader, .int m_width, .int m_height, .int m_limit, .ref (r0 2), .ref (r0 3), .ref (r0 4), .ref (r0 5), .ref (r0 6), .ref (r0 7), .ref (r0 8), .ref (r0 9), .int m_hasPicture, .int m_frames, .int m_taken, .ref (r0 10), .ref (r0 11), .ref (r0 12), .int m_many, .ref (r0 13), .ref (r0 14), .ref (r0 15), .ref (r0 16), .ref (r0 17), .ref (r0 18), .ref (r0 19), .ref (r0 20), .ref (r0 21), .ref (r0 22), .int m_due, .ref (r0 23), .ref (r0 24), .ref (r0 25), .ref (r0 26), .ref (r0 27), .ref (r0 28), .ref (r0 29)], aI (r0 2) cI 8 m_scales, aI (r0 3) cI 16 m_steps, aI (r0 22) cI 2304 m_numbers, aJ (r0 24) cJ 64 m_square_35, aJ (r0 25) cJ 64 m_rows, aI (r0 26) cI 64 m_added, aI (r0 27) cI 8 m_waves] []) H37 → va_D A (wf [oB (r0 0) 7 [.int m_thrown, .ref (r0 1), .int m_length, .int m_at, .int m_fault, .int m_hasHeader, .int m_width, .int m_height, .int m_limit, .ref (r0 2), .ref (r0 3), .ref (r0 4), .ref (r0 5), .ref (r0 6), .ref (r0 7), .ref (r0 8), .ref (r0 9), .int m_hasPicture, .int m_frames, .int m_taken, .ref (r0 10), .ref (r0 11), .ref (r0 12), .int m_many, .ref (r0 13), .ref (r0 14), .ref (r0 15), .ref (r0 16), .ref (r0 17), .ref (r0 18), .ref (r0 19), .ref (r0 20), .ref (r0 21), .ref (r0 22), .int m_due, .ref (r0 23), .ref (r0 24), .ref (r0 25), .ref (r0 26), .ref (r0 27), .ref (r0 28), .ref (r0 29)], aI (r0 2) cI 8 m_scales, aI (r0 3) cI 16 m_steps, aI (r0 22) cI 2304 m_numbers, aJ (r0 24) cJ 64 m_square_35, aJ (r0 25) cJ 64 m_rows, aI (r0 26) cI 64 m_added, aI (r0 27) cI 8 m_waves] []) → va_S A s.heap H37 lc37 → lv_has ls37 11 [(0, .ref (r0 0)), (1, .int x1), (2, .int x2), (3, .int v3_36), (4, .int v4_6), (5, .int v5_17)] → W p l e rm_X7_add s m args below meth c H37 lc37 0 0 QQ (F0 m 156 ls37 []) := by
                  intro m_square_35 v3_36 H37 lc37 ls37 hm38 hP37 hD37 hS37 hl37
                  rw [ek34] at hm38
                  obtain ⟨v5_39, ev5_39, hm40⟩ := nm_some hm38; clear hm38
                  refine lv_iinc (v := v5_39) (lv' := [(5, .int v5_39), (0, .ref (r0 0)), (1, .int x1), (2, .int x2), (3, .int v3_36), (4, .int v4_6)]) hx hb dX7_add_156 hl37 (k := 5) rfl (by rw [ev5_39]; rfl) (by decide) rfl (fun ls41 hl41 => ?_); clear hl37
                  refine lv_goto (tgt := 15) hx hb dX7_add_159 (by decide) ?_
                  exact ih m_square_35 v3_36 v5_39 _ _ _ _ hm40 hP37 hD37 hS37 (lv_sub hl41 [1, 2, 3, 4, 5, 0] rfl) kx
                refine lv_icmp_ge (tgt := 156) hx hb dX7_add_53 (by decide) (fun hc42 => ?_) (fun hc42 => ?_)
                · have hm43 := bq_t hm34 hc42; clear hm34
                  exact KJ34 m_square_15 v3_16 _ _ _ hm43 hP27 hD27 hS27 (lv_sub hl32 [2, 3, 4, 5, 6, 7] rfl)
                · have hm44 := bq_f hm34 hc42; clear hm34
                  refine lv_iload hx hb dX7_add_56 (lv_at hl32 0 rfl) ?_
                  refine lv_bipush (v := 8) hx hb dX7_add_58 (by decide) ?_
                  refine lv_icmp_ge (tgt := 156) hx hb dX7_add_60 (by decide) (fun hc45 => ?_) (fun hc45 => ?_)
                  · have hm46 := bq_t hm44 hc45; clear hm44
                    exact KJ34 m_square_15 v3_16 _ _ _ hm46 hP27 hD27 hS27 (lv_sub hl32 [2, 3, 4, 5, 6, 7] rfl)
                  · have hm47 := bq_f hm44 hc45; clear hm44
                    refine lv_aload_n hx hb dX7_add_63 rfl (lv_at hl32 2 rfl) ?_
                    refine va_get (D := D) (ci := 7) (v := .ref (r0 3)) (C := RX7) (T := TX7) (N := 42) hx hb hts hi_X7_add_7 hown E.1 hP27 0 rfl rfl 10 (by decide) (hts _ (List.mem_of_getElem? (i := 1) rfl)) (fun _ h9 => h9) rfl dX7_add_64 ?_
                    refine lv_iload_n hx hb dX7_add_67 rfl (lv_at hl32 5 rfl) ?_
                    refine lv_iconst (v := 4) hx hb dX7_add_68 (by decide) ?_
                    refine lv_idiv hx hb dX7_add_69 (by decide) ?_
                    obtain ⟨hin48, hm48⟩ := gi_some hm47; clear hm47
                    refine va_iald hx hb E.1 hP27 2 0 rfl rfl hin48 dX7_add_70 ?_
                    refine lv_aload_n hx hb dX7_add_71 rfl (lv_at hl32 2 rfl) ?_
                    refine va_get (D := D) (ci := 7) (v := .ref (r0 2)) (C := RX7) (T := TX7) (N := 42) hx hb hts hi_X7_add_7 hown E.1 hP27 0 rfl rfl 9 (by decide) (hts _ (List.mem_of_getElem? (i := 2) rfl)) (fun _ h9 => h9) rfl dX7_add_72 ?_
                    refine lv_iload_n hx hb dX7_add_75 rfl (lv_at hl32 4 rfl) ?_
                    obtain ⟨hin49, hm49⟩ := gi_some hm48; clear hm48
                    refine va_iald hx hb E.1 hP27 1 0 rfl rfl hin49 dX7_add_76 ?_
                    refine lv_imul hx hb dX7_add_77 ?_
                    refine lv_bipush (v := 100) hx hb dX7_add_78 (by decide) ?_
                    refine lv_idiv hx hb dX7_add_80 (by decide) ?_
                    refine lv_iconst (v := 2) hx hb dX7_add_81 (by decide) ?_
                    refine lv_sipush (v := 4096) hx hb dX7_add_82 (by decide) ?_
                    obtain ⟨y_50, hcl51, hm51⟩ := bd1_some hm49; clear hm49
                    have sb52 := ctS.mk (n := 8) (k := 0) (pre := [oB (r0 0) 7 [.int m_thrown, .ref (r0 1), .int m_length, .int m_at, .int m_fault, .int m_hasHeader, .int m_width, .int m_height, .int m_limit, .ref (r0 2), .ref (r0 3), .ref (r0 4), .ref (r0 5), .ref (r0 6), .ref (r0 7), .ref (r0 8), .ref (r0 9), .int m_hasPicture, .int m_frames, .int m_taken, .ref (r0 10), .ref (r0 11), .ref (r0 12), .int m_many, .ref (r0 13), .ref (r0 14), .ref (r0 15), .ref (r0 16), .ref (r0 17), .ref (r0 18), .ref (r0 19), .ref (r0 20), .ref (r0 21), .ref (r0 22), .int m_due, .ref (r0 23), .ref (r0 24), .ref (r0 25), .ref (r0 26), .ref (r0 27), .ref (r0 28), .ref (r0 29)], aI (r0 2) cI 8 m_scales, aI (r0 3) cI 16 m_steps, aI (r0 22) cI 2304 m_numbers, aJ (r0 24) cJ 64 m_square_15, aJ (r0 25) cJ 64 m_rows, aI (r0 26) cI 64 m_added, aI (r0 27) cI 8 m_waves]) (tl := []) [] [0, 1, 2, 3, 4, 5, 6, 7] [] [] rfl rfl (by decide +kernel) (by decide +kernel)
                    refine ct_calli (r := y_50) E sb52 hP27 hD27 hS27 (va_runS (As := [.int (((m_steps (v3_16 / (4 : Int32)).toNatClampNeg) * (m_scales x2.toNatClampNeg)) / (100 : Int32)), .int (2 : Int32), .int (4096 : Int32)]) (rest := []) ⟨hx, hb, hml, hown, hts⟩ (c_X7_within l D cB cI cJ cQ N H27.size (((m_steps (v3_16 / (4 : Int32)).toNatClampNeg) * (m_scales x2.toNatClampNeg)) / (100 : Int32)) (2 : Int32) (4096 : Int32) (y_50) hcl51) (va_cwS 3 hts gX7_add_X7_within rfl rfl rfl cdS_X7_within ⟨Nat.le_of_ble_eq_true rfl, Nat.le_of_ble_eq_true rfl⟩) (ct_preS E sb52 hP27 hD27 hS27) rfl rfl hl32.1 rfl (lv_room (Nat.le_of_ble_eq_true rfl)) dX7_add_85 ⟨Nat.zero_le _, Nat.zero_le _⟩) (fun H53 lc53 hP53 hD53 hS53 => ?_); clear sb52 hcl51
                    clear hP27 hD27 hS27
                    have hP53 : va_P D vwCl (wf [oB (r0 0) 7 [.int m_thrown, .ref (r0 1), .int m_length, .int m_at, .int m_fault, .int m_hasHeader, .int m_width, .int m_height, .int m_limit, .ref (r0 2), .ref (r0 3), .ref (r0 4), .ref (r0 5), .ref (r0 6), .ref (r0 7), .ref (r0 8), .ref (r0 9), .int m_hasPicture, .int m_frames, .int m_taken, .ref (r0 10), .ref (r0 11), .ref (r0 12), .int m_many, .ref (r0 13), .ref (r0 14), .ref (r0 15), .ref (r0 16), .ref (r0 17), .ref (r0 18), .ref (r0 19), .ref (r0 20), .ref (r0 21), .ref (r0 22), .int m_due, .ref (r0 23), .ref (r0 24), .ref (r0 25), .ref (r0 26), .ref (r0 27), .ref (r0 28), .ref (r0 29)], aI (r0 2) cI 8 m_scales, aI (r0 3) cI 16 m_steps, aI (r0 22) cI 2304 m_numbers, aJ (r0 24) cJ 64 m_square_15, aJ (r0 25) cJ 64 m_rows, aI (r0 26) cI 64 m_added, aI (r0 27) cI 8 m_waves] []) H53 := hP53
                    have hD53 : va_D A (wf [oB (r0 0) 7 [.int m_thrown, .ref (r0 1), .int m_length, .int m_at, .int m_fault, .int m_hasHeader, .int m_width, .int m_height, .int m_limit, .ref (r0 2), .ref (r0 3), .ref (r0 4), .ref (r0 5), .ref (r0 6), .ref (r0 7), .ref (r0 8), .ref (r0 9), .int m_hasPicture, .int m_frames, .int m_taken, .ref (r0 10), .ref (r0 11), .ref (r0 12), .int m_many, .ref (r0 13), .ref (r0 14), .ref (r0 15), .ref (r0 16), .ref (r0 17), .ref (r0 18), .ref (r0 19), .ref (r0 20), .ref (r0 21), .ref (r0 22), .int m_due, .ref (r0 23), .ref (r0 24), .ref (r0 25), .ref (r0 26), .ref (r0 27), .ref (r0 28), .ref (r0 29)], aI (r0 2) cI 8 m_scales, aI (r0 3) cI 16 m_steps, aI (r0 22) cI 2304 m_numbers, aJ (r0 24) cJ 64 m_square_15, aJ (r0 25) cJ 64 m_rows, aI (r0 26) cI 64 m_added, aI (r0 27) cI 8 m_waves] []) := hD53
                    refine lv_istore (lv' := [(8, .int y_50), (7, .int v7_30), (6, .int k0_26), (0, .ref (r0 0)), (1, .int x1), (2, .int x2), (3, .int v3_16), (4, .int v4_6), (5, .int v5_17)]) hx hb dX7_add_88 hl32 (by decide) rfl (fun ls54 hl54 => ?_); clear hl32
                    refine lv_aload_n hx hb dX7_add_90 rfl (lv_at hl54 3 rfl) ?_
                    refine va_get (D := D) (ci := 7) (v := .ref (r0 22)) (C := RX7) (T := TX7) (N := 42) hx hb hts hi_X7_add_7 hown E.1 hP53 0 rfl rfl 33 (by decide) (hts _ (List.mem_of_getElem? (i := 3) rfl)) (fun _ h9 => h9) rfl dX7_add_91 ?_
                    refine lv_bipush (v := 64) hx hb dX7_add_94 (by decide) ?_
                    refine lv_iload_n hx hb dX7_add_96 rfl (lv_at hl54 4 rfl) ?_
                    refine lv_imul hx hb dX7_add_97 ?_
                    refine lv_iload_n hx hb dX7_add_98 rfl (lv_at hl54 6 rfl) ?_
                    refine lv_iadd hx hb dX7_add_99 ?_
                    obtain ⟨hin55, hm55⟩ := gi_some hm51; clear hm51
                    refine va_iald hx hb E.1 hP53 3 0 rfl rfl hin55 dX7_add_100 ?_
                    refine lv_i2l hx hb dX7_add_101 rfl ?_
                    refine lv_iload hx hb dX7_add_102 (lv_at hl54 0 rfl) ?_
                    refine lv_i2l hx hb dX7_add_104 rfl ?_
                    refine lv_lmul hx hb dX7_add_105 ?_
                    obtain ⟨v9_56, ev9_56, hm57⟩ := nm_some hm55; clear hm55
                    refine ct_topl ev9_56 ?_
                    refine lv_lstore (lv' := [(9, .long v9_56), (8, .int y_50), (7, .int v7_30), (6, .int k0_26), (0, .ref (r0 0)), (1, .int x1), (2, .int x2), (3, .int v3_16), (4, .int v4_6), (5, .int v5_17)]) hx hb dX7_add_106 hl54 (by decide) rfl (fun ls58 hl58 => ?_); clear hl54
                    refine lv_aload_n hx hb dX7_add_108 rfl (lv_at hl58 4 rfl) ?_
                    refine va_get (D := D) (ci := 7) (v := .ref (r0 24)) (C := RX7) (T := TX7) (N := 42) hx hb hts hi_X7_add_7 hown E.1 hP53 0 rfl rfl 36 (by decide) (hts _ (List.mem_of_getElem? (i := 4) rfl)) (fun _ h9 => h9) rfl dX7_add_109 ?_
                    refine lv_bipush (v := 8) hx hb dX7_add_112 (by decide) ?_
                    refine lv_iload hx hb dX7_add_114 (lv_at hl58 2 rfl) ?_
                    refine lv_imul hx hb dX7_add_116 ?_
                    refine lv_iload hx hb dX7_add_117 (lv_at hl58 3 rfl) ?_
                    refine lv_iadd hx hb dX7_add_119 ?_
                    refine lv_lload hx hb dX7_add_120 (lv_at hl58 0 rfl) ?_
                    refine lv_ldc2 (v := -32768) hx hb hown (hts _ (List.mem_of_getElem? (i := 5) rfl)) dX7_add_122 ?_
                    refine W.lcmp hx hb dX7_add_125 ?_
                    obtain ⟨k60, ek60, hm60⟩ := jn_some hm57; clear hm57
                    have KJ60 : ∀ (k0_61 : Int64) (H62 : Heap) (lc62 : List Loc) (ls62 : Array Slot), k60 k0_61 = some z14 → va_P D vwCl (wf [oB (r0 0) 7 [.int m_thrown, .ref (r0 1), .int m_length, .int m_at, .int m_fault, .int m_hasHeader, .int m_width, .int m_height, .int m_limit, .ref (r0 2), .ref (r0 3), .ref (r0 4), .ref (r0 5), .ref (r0 6), .ref (r0 7), .ref (r0 8), .ref (r0 9), .int m_hasPicture, .int m_frames, .int m_taken, .ref (r0 10), .ref (r0 11), .ref (r0 12), .int m_many, .ref (r0 13), .ref (r0 14), .ref (r0 15), .ref (r0 16), .ref (r0 17), .ref (r0 18), .ref (r0 19), .ref (r0 20), .ref (r0 21), .ref (r0 22), .int m_due, .ref (r0 23), .ref (r0 24), .ref (r0 25), .ref (r0 26), .ref (r0 27), .ref (r0 28), .ref (r0 29)], aI (r0 2) cI 8 m_scales, aI (r0 3) cI 16 m_steps, aI (r0 22) cI 2304 m_numbers, aJ (r0 24) cJ 64 m_square_15, aJ (r0 25) cJ 64 m_rows, aI (r0 26) cI 64 m_added, aI (r0 27) cI 8 m_waves] []) H62 → va_D A (wf [oB (r0 0) 7 [.int m_thrown, .ref (r0 1), .int m_length, .int m_at, .int m_fault, .int m_hasHeader, .int m_width, .int m_height, .int m_limit, .ref (r0 2), .ref (r0 3), .ref (r0 4), .ref (r0 5), .ref (r0 6), .ref (r0 7), .ref (r0 8), .ref (r0 9), .int m_hasPicture, .int m_frames, .int m_taken, .ref (r0 10), .ref (r0 11), .ref (r0 12), .int m_many, .ref (r0 13), .ref (r0 14), .ref (r0 15), .ref (r0 16), .ref (r0 17), .ref (r0 18), .ref (r0 19), .ref (r0 20), .ref (r0 21), .ref (r0 22), .int m_due, .ref (r0 23), .ref (r0 24), .ref (r0 25), .ref (r0 26), .ref (r0 27), .ref (r0 28), .ref (r0 29)], aI (r0 2) cI 8 m_scales, aI (r0 3) cI 16 m_steps, aI (r0 22) cI 2304 m_numbers, aJ (r0 24) cJ 64 m_square_15, aJ (r0 25) cJ 64 m_rows, aI (r0 26) cI 64 m_added, aI (r0 27) cI 8 m_waves] []) → va_S A s.heap H62 lc62 → lv_has ls62 11 [(0, .ref (r0 0)), (1, .int x1), (2, .int x2), (3, .int v3_16), (4, .int v4_6), (5, .int v5_17)] → W p l e rm_X7_add s m args below meth c H62 lc62 0 0 QQ (F0 m 152 ls62 [.long k0_61, .int (((8 : Int32) * v7_30) + k0_26), .ref (r0 24)]) := by
                      intro k0_61 H62 lc62 ls62 hm63 hP62 hD62 hS62 hl62
                      rw [ek60] at hm63
                      obtain ⟨hin64, hm64⟩ := gi_some hm63; clear hm63
                      obtain ⟨m_square_65, em_square_65, hm66⟩ := nm_some hm64; clear hm64
                      refine ct_last (g := m_square_65) (ws' := (wf [oB (r0 0) 7 [.int m_thrown, .ref (r0 1), .int m_length, .int m_at, .int m_fault, .int m_hasHeader, .int m_width, .int m_height, .int m_limit, .ref (r0 2), .ref (r0 3), .ref (r0 4), .ref (r0 5), .ref (r0 6), .ref (r0 7), .ref (r0 8), .ref (r0 9), .int m_hasPicture, .int m_frames, .int m_taken, .ref (r0 10), .ref (r0 11), .ref (r0 12), .int m_many, .ref (r0 13), .ref (r0 14), .ref (r0 15), .ref (r0 16), .ref (r0 17), .ref (r0 18), .ref (r0 19), .ref (r0 20), .ref (r0 21), .ref (r0 22), .int m_due, .ref (r0 23), .ref (r0 24), .ref (r0 25), .ref (r0 26), .ref (r0 27), .ref (r0 28), .ref (r0 29)], aI (r0 2) cI 8 m_scales, aI (r0 3) cI 16 m_steps, aI (r0 22) cI 2304 m_numbers, aJ (r0 24) cJ 64 m_square_65, aJ (r0 25) cJ 64 m_rows, aI (r0 26) cI 64 m_added, aI (r0 27) cI 8 m_waves] [])) hx hb E.1 hP62 hD62 hS62 4 2 rfl rfl hin64 em_square_65 rfl dX7_add_152 (fun H67 lc67 hP67 hD67 hS67 => ?_)
                      clear hP62 hD62 hS62
                      obtain ⟨v3_68, ev3_68, hm69⟩ := nm_some hm66; clear hm66
                      refine lv_iinc (v := v3_68) (lv' := [(3, .int v3_68), (0, .ref (r0 0)), (1, .int x1), (2, .int x2), (4, .int v4_6), (5, .int v5_17)]) hx hb dX7_add_153 hl62 (k := 3) rfl (by rw [ev3_68]; rfl) (by decide) rfl (fun ls70 hl70 => ?_); clear hl62
                      exact KJ34 m_square_65 v3_68 _ _ _ hm69 hP67 hD67 hS67 (lv_sub hl70 [1, 2, 3, 0, 4, 5] rfl)
                    refine lv_if_ge (tgt := 135) hx hb dX7_add_126 (by decide) (fun hc71 => ?_) (fun hc71 => ?_)
                    · have hm72 := bq_t hm60 hc71; clear hm60
                      refine lv_lload hx hb dX7_add_135 (lv_at hl58 0 rfl) ?_
                      refine lv_ldc2 (v := 32767) hx hb hown (hts _ (List.mem_of_getElem? (i := 6) rfl)) dX7_add_137 ?_
                      refine W.lcmp hx hb dX7_add_140 ?_
                      refine lv_if_le (tgt := 150) hx hb dX7_add_141 (by decide) (fun hc73 => ?_) (fun hc73 => ?_)
                      · have hm74 := bq_t hm72 hc73; clear hm72
                        refine lv_lload hx hb dX7_add_150 (lv_at hl58 0 rfl) ?_
                        exact KJ60 v9_56 _ _ _ hm74 hP53 hD53 hS53 (lv_sub hl58 [4, 5, 6, 7, 8, 9] rfl)
                      · have hm75 := bq_f hm72 hc73; clear hm72
                        refine lv_ldc2 (v := 32767) hx hb hown (hts _ (List.mem_of_getElem? (i := 6) rfl)) dX7_add_144 ?_
                        refine lv_goto (tgt := 152) hx hb dX7_add_147 (by decide) ?_
                        exact KJ60 (32767 : Int64) _ _ _ hm75 hP53 hD53 hS53 (lv_sub hl58 [4, 5, 6, 7, 8, 9] rfl)
                    · have hm76 := bq_f hm60 hc71; clear hm60
                      refine lv_ldc2 (v := -32768) hx hb hown (hts _ (List.mem_of_getElem? (i := 5) rfl)) dX7_add_129 ?_
                      refine lv_goto (tgt := 152) hx hb dX7_add_132 (by decide) ?_
                      exact KJ60 (-32768 : Int64) _ _ _ hm76 hP53 hD53 hS53 (lv_sub hl58 [4, 5, 6, 7, 8, 9] rfl)
              refine lv_icmp_ne (tgt := 38) hx hb dX7_add_27 (by decide) (fun hc77 => ?_) (fun hc77 => ?_)
              · have hm78 := bq_f hm25 hc77; clear hm25
                refine lv_iload hx hb dX7_add_38 (lv_at hl18 5 rfl) ?_
                exact KJ25 v5_17 _ _ _ hm78 hP18 hD18 hS18 (lv_sub hl18 [0, 1, 2, 3, 4, 5] rfl)
              · have hm79 := bq_t hm25 hc77; clear hm25
                refine lv_iload hx hb dX7_add_30 (lv_at hl18 4 rfl) ?_
                refine lv_iload hx hb dX7_add_32 (lv_at hl18 5 rfl) ?_
                refine lv_isub hx hb dX7_add_34 ?_
                refine lv_goto (tgt := 40) hx hb dX7_add_35 (by decide) ?_
                exact KJ25 (v4_6 - v5_17) _ _ _ hm79 hP18 hD18 hS18 (lv_sub hl18 [0, 1, 2, 3, 4, 5] rfl)
        refine LP14 4000 m_square_4 v3_5 (0 : Int32) (m_square_80, v3_81) _ _ _ hlp14 hP7 hD7 hS7 (lv_sub hl13 [1, 2, 3, 4, 5, 0] rfl) (fun H83 lc83 ls83 hP83 hD83 hS83 hl83 => ?_); clear LP14 hlp14
        clear hP7 hD7 hS7
        have hl83 : lv_has ls83 11 [(0, .ref (r0 0)), (1, .int x1), (2, .int x2), (3, .int v3_81), (4, .int v4_6)] := hl83
        have hP83 : va_P D vwCl (wf [oB (r0 0) 7 [.int m_thrown, .ref (r0 1), .int m_length, .int m_at, .int m_fault, .int m_hasHeader, .int m_width, .int m_height, .int m_limit, .ref (r0 2), .ref (r0 3), .ref (r0 4), .ref (r0 5), .ref (r0 6), .ref (r0 7), .ref (r0 8), .ref (r0 9), .int m_hasPicture, .int m_frames, .int m_taken, .ref (r0 10), .ref (r0 11), .ref (r0 12), .int m_many, .ref (r0 13), .ref (r0 14), .ref (r0 15), .ref (r0 16), .ref (r0 17), .ref (r0 18), .ref (r0 19), .ref (r0 20), .ref (r0 21), .ref (r0 22), .int m_due, .ref (r0 23), .ref (r0 24), .ref (r0 25), .ref (r0 26), .ref (r0 27), .ref (r0 28), .ref (r0 29)], aI (r0 2) cI 8 m_scales, aI (r0 3) cI 16 m_steps, aI (r0 22) cI 2304 m_numbers, aJ (r0 24) cJ 64 m_square_80, aJ (r0 25) cJ 64 m_rows, aI (r0 26) cI 64 m_added, aI (r0 27) cI 8 m_waves] []) H83 := hP83
        have hD83 : va_D A (wf [oB (r0 0) 7 [.int m_thrown, .ref (r0 1), .int m_length, .int m_at, .int m_fault, .int m_hasHeader, .int m_width, .int m_height, .int m_limit, .ref (r0 2), .ref (r0 3), .ref (r0 4), .ref (r0 5), .ref (r0 6), .ref (r0 7), .ref (r0 8), .ref (r0 9), .int m_hasPicture, .int m_frames, .int m_taken, .ref (r0 10), .ref (r0 11), .ref (r0 12), .int m_many, .ref (r0 13), .ref (r0 14), .ref (r0 15), .ref (r0 16), .ref (r0 17), .ref (r0 18), .ref (r0 19), .ref (r0 20), .ref (r0 21), .ref (r0 22), .int m_due, .ref (r0 23), .ref (r0 24), .ref (r0 25), .ref (r0 26), .ref (r0 27), .ref (r0 28), .ref (r0 29)], aI (r0 2) cI 8 m_scales, aI (r0 3) cI 16 m_steps, aI (r0 22) cI 2304 m_numbers, aJ (r0 24) cJ 64 m_square_80, aJ (r0 25) cJ 64 m_rows, aI (r0 26) cI 64 m_added, aI (r0 27) cI 8 m_waves] []) := hD83
        obtain ⟨v4_84, ev4_84, hm85⟩ := nm_some hm82; clear hm82
        refine lv_iinc (v := v4_84) (lv' := [(4, .int v4_84), (0, .ref (r0 0)), (1, .int x1), (2, .int x2), (3, .int v3_81)]) hx hb dX7_add_162 hl83 (k := 4) rfl (by rw [ev4_84]; rfl) (by decide) rfl (fun ls86 hl86 => ?_); clear hl83
        refine lv_goto (tgt := 5) hx hb dX7_add_165 (by decide) ?_
        exact ih m_square_80 v3_81 v4_84 _ _ _ _ hm85 hP83 hD83 hS83 (lv_sub hl86 [1, 2, 3, 4, 0] rfl) kx
  refine LP3 4000 m_square (0 : Int32) (0 : Int32) (m_square_87) _ _ _ hlp3 hP0 hD0 hS0 (lv_sub hl2 [2, 3, 4, 1, 0] rfl) (fun H89 lc89 ls89 hP89 hD89 hS89 hl89 => ?_); clear LP3 hlp3
  clear hP0 hD0 hS0
  have hl89 : lv_has ls89 11 [(0, .ref (r0 0))] := hl89
  have hP89 : va_P D vwCl (wf [oB (r0 0) 7 [.int m_thrown, .ref (r0 1), .int m_length, .int m_at, .int m_fault, .int m_hasHeader, .int m_width, .int m_height, .int m_limit, .ref (r0 2), .ref (r0 3), .ref (r0 4), .ref (r0 5), .ref (r0 6), .ref (r0 7), .ref (r0 8), .ref (r0 9), .int m_hasPicture, .int m_frames, .int m_taken, .ref (r0 10), .ref (r0 11), .ref (r0 12), .int m_many, .ref (r0 13), .ref (r0 14), .ref (r0 15), .ref (r0 16), .ref (r0 17), .ref (r0 18), .ref (r0 19), .ref (r0 20), .ref (r0 21), .ref (r0 22), .int m_due, .ref (r0 23), .ref (r0 24), .ref (r0 25), .ref (r0 26), .ref (r0 27), .ref (r0 28), .ref (r0 29)], aI (r0 2) cI 8 m_scales, aI (r0 3) cI 16 m_steps, aI (r0 22) cI 2304 m_numbers, aJ (r0 24) cJ 64 m_square_87, aJ (r0 25) cJ 64 m_rows, aI (r0 26) cI 64 m_added, aI (r0 27) cI 8 m_waves] []) H89 := hP89
  have hD89 : va_D A (wf [oB (r0 0) 7 [.int m_thrown, .ref (r0 1), .int m_length, .int m_at, .int m_fault, .int m_hasHeader, .int m_width, .int m_height, .int m_limit, .ref (r0 2), .ref (r0 3), .ref (r0 4), .ref (r0 5), .ref (r0 6), .ref (r0 7), .ref (r0 8), .ref (r0 9), .int m_hasPicture, .int m_frames, .int m_taken, .ref (r0 10), .ref (r0 11), .ref (r0 12), .int m_many, .ref (r0 13), .ref (r0 14), .ref (r0 15), .ref (r0 16), .ref (r0 17), .ref (r0 18), .ref (r0 19), .ref (r0 20), .ref (r0 21), .ref (r0 22), .int m_due, .ref (r0 23), .ref (r0 24), .ref (r0 25), .ref (r0 26), .ref (r0 27), .ref (r0 28), .ref (r0 29)], aI (r0 2) cI 8 m_scales, aI (r0 3) cI 16 m_steps, aI (r0 22) cI 2304 m_numbers, aJ (r0 24) cJ 64 m_square_87, aJ (r0 25) cJ 64 m_rows, aI (r0 26) cI 64 m_added, aI (r0 27) cI 8 m_waves] []) := hD89
  refine lv_iconst (v := 0) hx hb dX7_add_168 (by decide) ?_
  refine lv_istore (lv' := [(4, .int (0 : Int32)), (0, .ref (r0 0))]) hx hb dX7_add_169 hl89 (by decide) rfl (fun ls90 hl90 => ?_); clear hl89
  obtain ⟨m_rows_149, hlp91, hm150⟩ := bd1_some hm88; clear hm88
  have LP91 : ∀ (n : Nat) (m_rows_92 : Nat → Int64) (v4_93 : Int32) (z91 : (Nat → Int64)) (H94 : Heap) (lc94 : List Loc) (ls94 : Array Slot), f_X7_add_L171 m_waves m_square_87 n m_rows_92 v4_93 = some z91 → va_P D vwCl (wf [oB (r0 0) 7 [.int m_thrown, .ref (r0 1), .int m_length, .int m_at, .int m_fault, .int m_hasHeader, .int m_width, .int m_height, .int m_limit, .ref (r0 2), .ref (r0 3), .ref (r0 4), .ref (r0 5), .ref (r0 6), .ref (r0 7), .ref (r0 8), .ref (r0 9), .int m_hasPicture, .int m_frames, .int m_taken, .ref (r0 10), .ref (r0 11), .ref (r0 12), .int m_many, .ref (r0 13), .ref (r0 14), .ref (r0 15), .ref (r0 16), .ref (r0 17), .ref (r0 18), .ref (r0 19), .ref (r0 20), .ref (r0 21), .ref (r0 22), .int m_due, .ref (r0 23), .ref (r0 24), .ref (r0 25), .ref (r0 26), .ref (r0 27), .ref (r0 28), .ref (r0 29)], aI (r0 2) cI 8 m_scales, aI (r0 3) cI 16 m_steps, aI (r0 22) cI 2304 m_numbers, aJ (r0 24) cJ 64 m_square_87, aJ (r0 25) cJ 64 m_rows_92, aI (r0 26) cI 64 m_added, aI (r0 27) cI 8 m_waves] []) H94 → va_D A (wf [oB (r0 0) 7 [.int m_thrown, .ref (r0 1), .int m_length, .int m_at, .int m_fault, .int m_hasHeader, .int m_width, .int m_height, .int m_limit, .ref (r0 2), .ref (r0 3), .ref (r0 4), .ref (r0 5), .ref (r0 6), .ref (r0 7), .ref (r0 8), .ref (r0 9), .int m_hasPicture, .int m_frames, .int m_taken, .ref (r0 10), .ref (r0 11), .ref (r0 12), .int m_many, .ref (r0 13), .ref (r0 14), .ref (r0 15), .ref (r0 16), .ref (r0 17), .ref (r0 18), .ref (r0 19), .ref (r0 20), .ref (r0 21), .ref (r0 22), .int m_due, .ref (r0 23), .ref (r0 24), .ref (r0 25), .ref (r0 26), .ref (r0 27), .ref (r0 28), .ref (r0 29)], aI (r0 2) cI 8 m_scales, aI (r0 3) cI 16 m_steps, aI (r0 22) cI 2304 m_numbers, aJ (r0 24) cJ 64 m_square_87, aJ (r0 25) cJ 64 m_rows_92, aI (r0 26) cI 64 m_added, aI (r0 27) cI 8 m_waves] []) → va_S A s.heap H94 lc94 → lv_has ls94 11 [(0, .ref (r0 0)), (4, .int v4_93)] → (∀ (H : Heap) (lc : List Loc) (ls : Array Slot), va_P D vwCl (wf [oB (r0 0) 7 [.int m_thrown, .ref (r0 1), .int m_length, .int m_at, .int m_fault, .int m_hasHeader, .int m_width, .int m_height, .int m_limit, .ref (r0 2), .ref (r0 3), .ref (r0 4), .ref (r0 5), .ref (r0 6), .ref (r0 7), .ref (r0 8), .ref (r0 9), .int m_hasPicture, .int m_frames, .int m_taken, .ref (r0 10), .ref (r0 11), .ref (r0 12), .int m_many, .ref (r0 13), .ref (r0 14), .ref (r0 15), .ref (r0 16), .ref (r0 17), .ref (r0 18), .ref (r0 19), .ref (r0 20), .ref (r0 21), .ref (r0 22), .int m_due, .ref (r0 23), .ref (r0 24), .ref (r0 25), .ref (r0 26), .ref (r0 27), .ref (r0 28), .ref (r0 29)], aI (r0 2) cI 8 m_scales, aI (r0 3) cI 16 m_steps, aI (r0 22) cI 2304 m_numbers, aJ (r0 24) cJ 64 m_square_87, aJ (r0 25) cJ 64 z91, aI (r0 26) cI 64 m_added, aI (r0 27) cI 8 m_waves] []) H → va_D A (wf [oB (r0 0) 7 [.int m_thrown, .ref (r0 1), .int m_length, .int m_at, .int m_fault, .int m_hasHeader, .int m_width, .int m_height, .int m_limit, .ref (r0 2), .ref (r0 3), .ref (r0 4), .ref (r0 5), .ref (r0 6), .ref (r0 7), .ref (r0 8), .ref (r0 9), .int m_hasPicture, .int m_frames, .int m_taken, .ref (r0 10), .ref (r0 11), .ref (r0 12), .int m_many, .ref (r0 13), .ref (r0 14), .ref (r0 15), .ref (r0 16), .ref (r0 17), .ref (r0 18), .ref (r0 19), .ref (r0 20), .ref (r0 21), .ref (r0 22), .int m_due, .ref (r0 23), .ref (r0 24), .ref (r0 25), .ref (r0 26), .ref (r0 27), .ref (r0 28), .ref (r0 29)], aI (r0 2) cI 8 m_scales, aI (r0 3) cI 16 m_steps, aI (r0 22) cI 2304 m_numbers, aJ (r0 24) cJ 64 m_square_87, aJ (r0 25) cJ 64 z91, aI (r0 26) cI 64 m_added, aI (r0 27) cI 8 m_waves] []) → va_S A s.heap H lc → lv_has ls 11 [(0, .ref (r0 0))] → W p l e rm_X7_add s m args below meth c H lc 0 0 QQ (F0 m 267 ls [])) → W p l e rm_X7_add s m args below meth c H94 lc94 0 0 QQ (F0 m 171 ls94 []) := by
    intro n
    induction n with
    | zero =>
      intro m_rows_92 v4_93 z91 H94 lc94 ls94 hm96; simp [f_X7_add_L171] at hm96
    | succ n ih =>
      intro m_rows_92 v4_93 z91 H94 lc94 ls94 hm96 hP94 hD94 hS94 hl94 kx
      rw [f_X7_add_L171] at hm96
      refine lv_iload hx hb dX7_add_171 (lv_at hl94 1 rfl) ?_
      refine lv_bipush (v := 8) hx hb dX7_add_173 (by decide) ?_
      refine lv_icmp_ge (tgt := 267) hx hb dX7_add_175 (by decide) (fun hc97 => ?_) (fun hc97 => ?_)
      · have hm98 := bq_t hm96 hc97; clear hm96
        obtain rfl := Option.some.inj hm98
        exact kx _ _ _ hP94 hD94 hS94 (lv_sub hl94 [0] rfl)
      · have hm99 := bq_f hm96 hc97; clear hm96
        refine lv_iconst (v := 0) hx hb dX7_add_178 (by decide) ?_
        refine lv_istore (lv' := [(5, .int (0 : Int32)), (0, .ref (r0 0)), (4, .int v4_93)]) hx hb dX7_add_179 hl94 (by decide) rfl (fun ls100 hl100 => ?_); clear hl94
        obtain ⟨m_rows_143, hlp101, hm144⟩ := bd1_some hm99; clear hm99
        have LP101 : ∀ (n : Nat) (m_rows_102 : Nat → Int64) (v5_103 : Int32) (z101 : (Nat → Int64)) (H104 : Heap) (lc104 : List Loc) (ls104 : Array Slot), f_X7_add_L181 m_waves m_square_87 v4_93 n m_rows_102 v5_103 = some z101 → va_P D vwCl (wf [oB (r0 0) 7 [.int m_thrown, .ref (r0 1), .int m_length, .int m_at, .int m_fault, .int m_hasHeader, .int m_width, .int m_height, .int m_limit, .ref (r0 2), .ref (r0 3), .ref (r0 4), .ref (r0 5), .ref (r0 6), .ref (r0 7), .ref (r0 8), .ref (r0 9), .int m_hasPicture, .int m_frames, .int m_taken, .ref (r0 10), .ref (r0 11), .ref (r0 12), .int m_many, .ref (r0 13), .ref (r0 14), .ref (r0 15), .ref (r0 16), .ref (r0 17), .ref (r0 18), .ref (r0 19), .ref (r0 20), .ref (r0 21), .ref (r0 22), .int m_due, .ref (r0 23), .ref (r0 24), .ref (r0 25), .ref (r0 26), .ref (r0 27), .ref (r0 28), .ref (r0 29)], aI (r0 2) cI 8 m_scales, aI (r0 3) cI 16 m_steps, aI (r0 22) cI 2304 m_numbers, aJ (r0 24) cJ 64 m_square_87, aJ (r0 25) cJ 64 m_rows_102, aI (r0 26) cI 64 m_added, aI (r0 27) cI 8 m_waves] []) H104 → va_D A (wf [oB (r0 0) 7 [.int m_thrown, .ref (r0 1), .int m_length, .int m_at, .int m_fault, .int m_hasHeader, .int m_width, .int m_height, .int m_limit, .ref (r0 2), .ref (r0 3), .ref (r0 4), .ref (r0 5), .ref (r0 6), .ref (r0 7), .ref (r0 8), .ref (r0 9), .int m_hasPicture, .int m_frames, .int m_taken, .ref (r0 10), .ref (r0 11), .ref (r0 12), .int m_many, .ref (r0 13), .ref (r0 14), .ref (r0 15), .ref (r0 16), .ref (r0 17), .ref (r0 18), .ref (r0 19), .ref (r0 20), .ref (r0 21), .ref (r0 22), .int m_due, .ref (r0 23), .ref (r0 24), .ref (r0 25), .ref (r0 26), .ref (r0 27), .ref (r0 28), .ref (r0 29)], aI (r0 2) cI 8 m_scales, aI (r0 3) cI 16 m_steps, aI (r0 22) cI 2304 m_numbers, aJ (r0 24) cJ 64 m_square_87, aJ (r0 25) cJ 64 m_rows_102, aI (r0 26) cI 64 m_added, aI (r0 27) cI 8 m_waves] []) → va_S A s.heap H104 lc104 → lv_has ls104 11 [(0, .ref (r0 0)), (4, .int v4_93), (5, .int v5_103)] → (∀ (H : Heap) (lc : List Loc) (ls : Array Slot), va_P D vwCl (wf [oB (r0 0) 7 [.int m_thrown, .ref (r0 1), .int m_length, .int m_at, .int m_fault, .int m_hasHeader, .int m_width, .int m_height, .int m_limit, .ref (r0 2), .ref (r0 3), .ref (r0 4), .ref (r0 5), .ref (r0 6), .ref (r0 7), .ref (r0 8), .ref (r0 9), .int m_hasPicture, .int m_frames, .int m_taken, .ref (r0 10), .ref (r0 11), .ref (r0 12), .int m_many, .ref (r0 13), .ref (r0 14), .ref (r0 15), .ref (r0 16), .ref (r0 17), .ref (r0 18), .ref (r0 19), .ref (r0 20), .ref (r0 21), .ref (r0 22), .int m_due, .ref (r0 23), .ref (r0 24), .ref (r0 25), .ref (r0 26), .ref (r0 27), .ref (r0 28), .ref (r0 29)], aI (r0 2) cI 8 m_scales, aI (r0 3) cI 16 m_steps, aI (r0 22) cI 2304 m_numbers, aJ (r0 24) cJ 64 m_square_87, aJ (r0 25) cJ 64 z101, aI (r0 26) cI 64 m_added, aI (r0 27) cI 8 m_waves] []) H → va_D A (wf [oB (r0 0) 7 [.int m_thrown, .ref (r0 1), .int m_length, .int m_at, .int m_fault, .int m_hasHeader, .int m_width, .int m_height, .int m_limit, .ref (r0 2), .ref (r0 3), .ref (r0 4), .ref (r0 5), .ref (r0 6), .ref (r0 7), .ref (r0 8), .ref (r0 9), .int m_hasPicture, .int m_frames, .int m_taken, .ref (r0 10), .ref (r0 11), .ref (r0 12), .int m_many, .ref (r0 13), .ref (r0 14), .ref (r0 15), .ref (r0 16), .ref (r0 17), .ref (r0 18), .ref (r0 19), .ref (r0 20), .ref (r0 21), .ref (r0 22), .int m_due, .ref (r0 23), .ref (r0 24), .ref (r0 25), .ref (r0 26), .ref (r0 27), .ref (r0 28), .ref (r0 29)], aI (r0 2) cI 8 m_scales, aI (r0 3) cI 16 m_steps, aI (r0 22) cI 2304 m_numbers, aJ (r0 24) cJ 64 m_square_87, aJ (r0 25) cJ 64 z101, aI (r0 26) cI 64 m_added, aI (r0 27) cI 8 m_waves] []) → va_S A s.heap H lc → lv_has ls 11 [(0, .ref (r0 0)), (4, .int v4_93)] → W p l e rm_X7_add s m args below meth c H lc 0 0 QQ (F0 m 261 ls [])) → W p l e rm_X7_add s m args below meth c H104 lc104 0 0 QQ (F0 m 181 ls104 []) := by
          intro n
          induction n with
          | zero =>
            intro m_rows_102 v5_103 z101 H104 lc104 ls104 hm106; simp [f_X7_add_L181] at hm106
          | succ n ih =>
            intro m_rows_102 v5_103 z101 H104 lc104 ls104 hm106 hP104 hD104 hS104 hl104 kx
            rw [f_X7_add_L181] at hm106
            refine lv_iload hx hb dX7_add_181 (lv_at hl104 2 rfl) ?_
            refine lv_bipush (v := 8) hx hb dX7_add_183 (by decide) ?_
            refine lv_icmp_ge (tgt := 261) hx hb dX7_add_185 (by decide) (fun hc107 => ?_) (fun hc107 => ?_)
            · have hm108 := bq_t hm106 hc107; clear hm106
              obtain rfl := Option.some.inj hm108
              exact kx _ _ _ hP104 hD104 hS104 (lv_sub hl104 [0, 1] rfl)
            · have hm109 := bq_f hm106 hc107; clear hm106
              refine lv_ldc2 (v := 16384) hx hb hown (hts _ (List.mem_of_getElem? (i := 7) rfl)) dX7_add_188 ?_
              refine lv_lstore (lv' := [(6, .long (16384 : Int64)), (0, .ref (r0 0)), (4, .int v4_93), (5, .int v5_103)]) hx hb dX7_add_191 hl104 (by decide) rfl (fun ls110 hl110 => ?_); clear hl104
              refine lv_iconst (v := 0) hx hb dX7_add_193 (by decide) ?_
              refine lv_istore (lv' := [(8, .int (0 : Int32)), (6, .long (16384 : Int64)), (0, .ref (r0 0)), (4, .int v4_93), (5, .int v5_103)]) hx hb dX7_add_194 hl110 (by decide) rfl (fun ls111 hl111 => ?_); clear hl110
              obtain ⟨v6_133, hlp112, hm134⟩ := bd1_some hm109; clear hm109
              have LP112 : ∀ (n : Nat) (v6_113 : Int64) (v8_114 : Int32) (z112 : Int64) (H115 : Heap) (lc115 : List Loc) (ls115 : Array Slot), f_X7_add_L196 m_waves m_square_87 v4_93 v5_103 n v6_113 v8_114 = some z112 → va_P D vwCl (wf [oB (r0 0) 7 [.int m_thrown, .ref (r0 1), .int m_length, .int m_at, .int m_fault, .int m_hasHeader, .int m_width, .int m_height, .int m_limit, .ref (r0 2), .ref (r0 3), .ref (r0 4), .ref (r0 5), .ref (r0 6), .ref (r0 7), .ref (r0 8), .ref (r0 9), .int m_hasPicture, .int m_frames, .int m_taken, .ref (r0 10), .ref (r0 11), .ref (r0 12), .int m_many, .ref (r0 13), .ref (r0 14), .ref (r0 15), .ref (r0 16), .ref (r0 17), .ref (r0 18), .ref (r0 19), .ref (r0 20), .ref (r0 21), .ref (r0 22), .int m_due, .ref (r0 23), .ref (r0 24), .ref (r0 25), .ref (r0 26), .ref (r0 27), .ref (r0 28), .ref (r0 29)], aI (r0 2) cI 8 m_scales, aI (r0 3) cI 16 m_steps, aI (r0 22) cI 2304 m_numbers, aJ (r0 24) cJ 64 m_square_87, aJ (r0 25) cJ 64 m_rows_102, aI (r0 26) cI 64 m_added, aI (r0 27) cI 8 m_waves] []) H115 → va_D A (wf [oB (r0 0) 7 [.int m_thrown, .ref (r0 1), .int m_length, .int m_at, .int m_fault, .int m_hasHeader, .int m_width, .int m_height, .int m_limit, .ref (r0 2), .ref (r0 3), .ref (r0 4), .ref (r0 5), .ref (r0 6), .ref (r0 7), .ref (r0 8), .ref (r0 9), .int m_hasPicture, .int m_frames, .int m_taken, .ref (r0 10), .ref (r0 11), .ref (r0 12), .int m_many, .ref (r0 13), .ref (r0 14), .ref (r0 15), .ref (r0 16), .ref (r0 17), .ref (r0 18), .ref (r0 19), .ref (r0 20), .ref (r0 21), .ref (r0 22), .int m_due, .ref (r0 23), .ref (r0 24), .ref (r0 25), .ref (r0 26), .ref (r0 27), .ref (r0 28), .ref (r0 29)], aI (r0 2) cI 8 m_scales, aI (r0 3) cI 16 m_steps, aI (r0 22) cI 2304 m_numbers, aJ (r0 24) cJ 64 m_square_87, aJ (r0 25) cJ 64 m_rows_102, aI (r0 26) cI 64 m_added, aI (r0 27) cI 8 m_waves] []) → va_S A s.heap H115 lc115 → lv_has ls115 11 [(0, .ref (r0 0)), (4, .int v4_93), (5, .int v5_103), (6, .long v6_113), (8, .int v8_114)] → (∀ (H : Heap) (lc : List Loc) (ls : Array Slot), va_P D vwCl (wf [oB (r0 0) 7 [.int m_thrown, .ref (r0 1), .int m_length, .int m_at, .int m_fault, .int m_hasHeader, .int m_width, .int m_height, .int m_limit, .ref (r0 2), .ref (r0 3), .ref (r0 4), .ref (r0 5), .ref (r0 6), .ref (r0 7), .ref (r0 8), .ref (r0 9), .int m_hasPicture, .int m_frames, .int m_taken, .ref (r0 10), .ref (r0 11), .ref (r0 12), .int m_many, .ref (r0 13), .ref (r0 14), .ref (r0 15), .ref (r0 16), .ref (r0 17), .ref (r0 18), .ref (r0 19), .ref (r0 20), .ref (r0 21), .ref (r0 22), .int m_due, .ref (r0 23), .ref (r0 24), .ref (r0 25), .ref (r0 26), .ref (r0 27), .ref (r0 28), .ref (r0 29)], aI (r0 2) cI 8 m_scales, aI (r0 3) cI 16 m_steps, aI (r0 22) cI 2304 m_numbers, aJ (r0 24) cJ 64 m_square_87, aJ (r0 25) cJ 64 m_rows_102, aI (r0 26) cI 64 m_added, aI (r0 27) cI 8 m_waves] []) H → va_D A (wf [oB (r0 0) 7 [.int m_thrown, .ref (r0 1), .int m_length, .int m_at, .int m_fault, .int m_hasHeader, .int m_width, .int m_height, .int m_limit, .ref (r0 2), .ref (r0 3), .ref (r0 4), .ref (r0 5), .ref (r0 6), .ref (r0 7), .ref (r0 8), .ref (r0 9), .int m_hasPicture, .int m_frames, .int m_taken, .ref (r0 10), .ref (r0 11), .ref (r0 12), .int m_many, .ref (r0 13), .ref (r0 14), .ref (r0 15), .ref (r0 16), .ref (r0 17), .ref (r0 18), .ref (r0 19), .ref (r0 20), .ref (r0 21), .ref (r0 22), .int m_due, .ref (r0 23), .ref (r0 24), .ref (r0 25), .ref (r0 26), .ref (r0 27), .ref (r0 28), .ref (r0 29)], aI (r0 2) cI 8 m_scales, aI (r0 3) cI 16 m_steps, aI (r0 22) cI 2304 m_numbers, aJ (r0 24) cJ 64 m_square_87, aJ (r0 25) cJ 64 m_rows_102, aI (r0 26) cI 64 m_added, aI (r0 27) cI 8 m_waves] []) → va_S A s.heap H lc → lv_has ls 11 [(0, .ref (r0 0)), (4, .int v4_93), (5, .int v5_103), (6, .long z112)] → W p l e rm_X7_add s m args below meth c H lc 0 0 QQ (F0 m 237 ls [])) → W p l e rm_X7_add s m args below meth c H115 lc115 0 0 QQ (F0 m 196 ls115 []) := by
                intro n
                induction n with
                | zero =>
                  intro v6_113 v8_114 z112 H115 lc115 ls115 hm117; simp [f_X7_add_L196] at hm117
                | succ n ih =>
                  intro v6_113 v8_114 z112 H115 lc115 ls115 hm117 hP115 hD115 hS115 hl115 kx
                  rw [f_X7_add_L196] at hm117
                  refine lv_iload hx hb dX7_add_196 (lv_at hl115 4 rfl) ?_
                  refine lv_bipush (v := 8) hx hb dX7_add_198 (by decide) ?_
                  refine lv_icmp_ge (tgt := 237) hx hb dX7_add_200 (by decide) (fun hc118 => ?_) (fun hc118 => ?_)
                  · have hm119 := bq_t hm117 hc118; clear hm117
                    obtain rfl := Option.some.inj hm119
                    exact kx _ _ _ hP115 hD115 hS115 (lv_sub hl115 [0, 1, 2, 3] rfl)
                  · have hm120 := bq_f hm117 hc118; clear hm117
                    refine lv_lload hx hb dX7_add_203 (lv_at hl115 3 rfl) ?_
                    refine lv_aload_n hx hb dX7_add_205 rfl (lv_at hl115 0 rfl) ?_
                    refine lv_iload hx hb dX7_add_206 (lv_at hl115 2 rfl) ?_
                    refine lv_iload hx hb dX7_add_208 (lv_at hl115 4 rfl) ?_
                    obtain ⟨y_121, hcl122, hm122⟩ := bd1_some hm120; clear hm120
                    have sb123 := ctS.mk (n := 8) (k := 0) (pre := [oB (r0 0) 7 [.int m_thrown, .ref (r0 1), .int m_length, .int m_at, .int m_fault, .int m_hasHeader, .int m_width, .int m_height, .int m_limit, .ref (r0 2), .ref (r0 3), .ref (r0 4), .ref (r0 5), .ref (r0 6), .ref (r0 7), .ref (r0 8), .ref (r0 9), .int m_hasPicture, .int m_frames, .int m_taken, .ref (r0 10), .ref (r0 11), .ref (r0 12), .int m_many, .ref (r0 13), .ref (r0 14), .ref (r0 15), .ref (r0 16), .ref (r0 17), .ref (r0 18), .ref (r0 19), .ref (r0 20), .ref (r0 21), .ref (r0 22), .int m_due, .ref (r0 23), .ref (r0 24), .ref (r0 25), .ref (r0 26), .ref (r0 27), .ref (r0 28), .ref (r0 29)], aI (r0 2) cI 8 m_scales, aI (r0 3) cI 16 m_steps, aI (r0 22) cI 2304 m_numbers, aJ (r0 24) cJ 64 m_square_87, aJ (r0 25) cJ 64 m_rows_102, aI (r0 26) cI 64 m_added, aI (r0 27) cI 8 m_waves]) (tl := []) [0, 7] [1, 2, 3, 4, 5, 6] [] [] rfl rfl (by decide +kernel) (by decide +kernel)
                    refine ct_calli (r := y_121) E sb123 hP115 hD115 hS115 (va_runV (As := [.int v5_103, .int v8_114]) (rest := [.long v6_113]) ⟨hx, hb, hml, hown, hts⟩ (c_X7_wave l D cB cI cJ cQ N r0 H115.size v5_103 v8_114 m_thrown m_length m_at m_fault m_hasHeader m_width m_height m_limit m_hasPicture m_frames m_taken m_many m_due m_waves (y_121) hcl122) (cwV 2 hts gX7_add_X7_wave rfl rfl rfl cdV_X7_wave ⟨Nat.le_of_ble_eq_true rfl, Nat.le_of_ble_eq_true rfl⟩) (ct_preV (q0 := 0) (ci := 7) E sb123 hP115 hD115 hS115 rfl rfl) rfl rfl hl115.1 rfl (lv_room (Nat.le_of_ble_eq_true rfl)) dX7_add_210 ⟨Nat.zero_le _, Nat.zero_le _⟩) (fun H124 lc124 hP124 hD124 hS124 => ?_); clear sb123 hcl122
                    clear hP115 hD115 hS115
                    have hP124 : va_P D vwCl (wf [aI (r0 2) cI 8 m_scales, aI (r0 3) cI 16 m_steps, aI (r0 22) cI 2304 m_numbers, aJ (r0 24) cJ 64 m_square_87, aJ (r0 25) cJ 64 m_rows_102, aI (r0 26) cI 64 m_added, oB (r0 0) 7 [.int m_thrown, .ref (r0 1), .int m_length, .int m_at, .int m_fault, .int m_hasHeader, .int m_width, .int m_height, .int m_limit, .ref (r0 2), .ref (r0 3), .ref (r0 4), .ref (r0 5), .ref (r0 6), .ref (r0 7), .ref (r0 8), .ref (r0 9), .int m_hasPicture, .int m_frames, .int m_taken, .ref (r0 10), .ref (r0 11), .ref (r0 12), .int m_many, .ref (r0 13), .ref (r0 14), .ref (r0 15), .ref (r0 16), .ref (r0 17), .ref (r0 18), .ref (r0 19), .ref (r0 20), .ref (r0 21), .ref (r0 22), .int m_due, .ref (r0 23), .ref (r0 24), .ref (r0 25), .ref (r0 26), .ref (r0 27), .ref (r0 28), .ref (r0 29)], aI (r0 27) cI 8 m_waves] []) H124 := hP124
                    have hD124 : va_D A (wf [aI (r0 2) cI 8 m_scales, aI (r0 3) cI 16 m_steps, aI (r0 22) cI 2304 m_numbers, aJ (r0 24) cJ 64 m_square_87, aJ (r0 25) cJ 64 m_rows_102, aI (r0 26) cI 64 m_added, oB (r0 0) 7 [.int m_thrown, .ref (r0 1), .int m_length, .int m_at, .int m_fault, .int m_hasHeader, .int m_width, .int m_height, .int m_limit, .ref (r0 2), .ref (r0 3), .ref (r0 4), .ref (r0 5), .ref (r0 6), .ref (r0 7), .ref (r0 8), .ref (r0 9), .int m_hasPicture, .int m_frames, .int m_taken, .ref (r0 10), .ref (r0 11), .ref (r0 12), .int m_many, .ref (r0 13), .ref (r0 14), .ref (r0 15), .ref (r0 16), .ref (r0 17), .ref (r0 18), .ref (r0 19), .ref (r0 20), .ref (r0 21), .ref (r0 22), .int m_due, .ref (r0 23), .ref (r0 24), .ref (r0 25), .ref (r0 26), .ref (r0 27), .ref (r0 28), .ref (r0 29)], aI (r0 27) cI 8 m_waves] []) := hD124
                    refine lv_i2l hx hb dX7_add_213 rfl ?_
                    refine lv_aload_n hx hb dX7_add_214 rfl (lv_at hl115 0 rfl) ?_
                    refine va_get (D := D) (ci := 7) (v := .ref (r0 24)) (C := RX7) (T := TX7) (N := 42) hx hb hts hi_X7_add_7 hown E.1 hP124 6 rfl rfl 36 (by decide) (hts _ (List.mem_of_getElem? (i := 4) rfl)) (fun _ h9 => h9) rfl dX7_add_215 ?_
                    refine lv_bipush (v := 8) hx hb dX7_add_218 (by decide) ?_
                    refine lv_iload hx hb dX7_add_220 (lv_at hl115 1 rfl) ?_
                    refine lv_imul hx hb dX7_add_222 ?_
                    refine lv_iload hx hb dX7_add_223 (lv_at hl115 4 rfl) ?_
                    refine lv_iadd hx hb dX7_add_225 ?_
                    obtain ⟨hin125, hm125⟩ := gi_some hm122; clear hm122
                    refine va_lald hx hb E.1 hP124 3 2 rfl rfl hin125 dX7_add_226 ?_
                    refine lv_lmul hx hb dX7_add_227 ?_
                    refine lv_ladd hx hb dX7_add_228 ?_
                    obtain ⟨v6_126, ev6_126, hm127⟩ := nm_some hm125; clear hm125
                    refine ct_topl ev6_126 ?_
                    refine lv_lstore (lv' := [(6, .long v6_126), (0, .ref (r0 0)), (4, .int v4_93), (5, .int v5_103), (8, .int v8_114)]) hx hb dX7_add_229 hl115 (by decide) rfl (fun ls128 hl128 => ?_); clear hl115
                    obtain ⟨v8_129, ev8_129, hm130⟩ := nm_some hm127; clear hm127
                    refine lv_iinc (v := v8_129) (lv' := [(8, .int v8_129), (6, .long v6_126), (0, .ref (r0 0)), (4, .int v4_93), (5, .int v5_103)]) hx hb dX7_add_231 hl128 (k := 4) rfl (by rw [ev8_129]; rfl) (by decide) rfl (fun ls131 hl131 => ?_); clear hl128
                    refine lv_goto (tgt := 196) hx hb dX7_add_234 (by decide) ?_
                    obtain ⟨hP132, hD132⟩ := ct_ord (n := 8) (k := 0) [6, 0, 1, 2, 3, 4, 5, 7] [] hP124 hD124 rfl rfl (by decide +kernel) (by decide +kernel)
                    have hS132 := hS124
                    have hP132 : va_P D vwCl (wf [oB (r0 0) 7 [.int m_thrown, .ref (r0 1), .int m_length, .int m_at, .int m_fault, .int m_hasHeader, .int m_width, .int m_height, .int m_limit, .ref (r0 2), .ref (r0 3), .ref (r0 4), .ref (r0 5), .ref (r0 6), .ref (r0 7), .ref (r0 8), .ref (r0 9), .int m_hasPicture, .int m_frames, .int m_taken, .ref (r0 10), .ref (r0 11), .ref (r0 12), .int m_many, .ref (r0 13), .ref (r0 14), .ref (r0 15), .ref (r0 16), .ref (r0 17), .ref (r0 18), .ref (r0 19), .ref (r0 20), .ref (r0 21), .ref (r0 22), .int m_due, .ref (r0 23), .ref (r0 24), .ref (r0 25), .ref (r0 26), .ref (r0 27), .ref (r0 28), .ref (r0 29)], aI (r0 2) cI 8 m_scales, aI (r0 3) cI 16 m_steps, aI (r0 22) cI 2304 m_numbers, aJ (r0 24) cJ 64 m_square_87, aJ (r0 25) cJ 64 m_rows_102, aI (r0 26) cI 64 m_added, aI (r0 27) cI 8 m_waves] []) H124 := hP132
                    have hD132 : va_D A (wf [oB (r0 0) 7 [.int m_thrown, .ref (r0 1), .int m_length, .int m_at, .int m_fault, .int m_hasHeader, .int m_width, .int m_height, .int m_limit, .ref (r0 2), .ref (r0 3), .ref (r0 4), .ref (r0 5), .ref (r0 6), .ref (r0 7), .ref (r0 8), .ref (r0 9), .int m_hasPicture, .int m_frames, .int m_taken, .ref (r0 10), .ref (r0 11), .ref (r0 12), .int m_many, .ref (r0 13), .ref (r0 14), .ref (r0 15), .ref (r0 16), .ref (r0 17), .ref (r0 18), .ref (r0 19), .ref (r0 20), .ref (r0 21), .ref (r0 22), .int m_due, .ref (r0 23), .ref (r0 24), .ref (r0 25), .ref (r0 26), .ref (r0 27), .ref (r0 28), .ref (r0 29)], aI (r0 2) cI 8 m_scales, aI (r0 3) cI 16 m_steps, aI (r0 22) cI 2304 m_numbers, aJ (r0 24) cJ 64 m_square_87, aJ (r0 25) cJ 64 m_rows_102, aI (r0 26) cI 64 m_added, aI (r0 27) cI 8 m_waves] []) := hD132
                    exact ih v6_126 v8_129 _ _ _ _ hm130 hP132 hD132 hS132 (lv_sub hl131 [2, 3, 4, 1, 0] rfl) kx
              refine LP112 4000 (16384 : Int64) (0 : Int32) (v6_133) _ _ _ hlp112 hP104 hD104 hS104 (lv_sub hl111 [2, 3, 4, 1, 0] rfl) (fun H135 lc135 ls135 hP135 hD135 hS135 hl135 => ?_); clear LP112 hlp112
              clear hP104 hD104 hS104
              have hl135 : lv_has ls135 11 [(0, .ref (r0 0)), (4, .int v4_93), (5, .int v5_103), (6, .long v6_133)] := hl135
              have hP135 : va_P D vwCl (wf [oB (r0 0) 7 [.int m_thrown, .ref (r0 1), .int m_length, .int m_at, .int m_fault, .int m_hasHeader, .int m_width, .int m_height, .int m_limit, .ref (r0 2), .ref (r0 3), .ref (r0 4), .ref (r0 5), .ref (r0 6), .ref (r0 7), .ref (r0 8), .ref (r0 9), .int m_hasPicture, .int m_frames, .int m_taken, .ref (r0 10), .ref (r0 11), .ref (r0 12), .int m_many, .ref (r0 13), .ref (r0 14), .ref (r0 15), .ref (r0 16), .ref (r0 17), .ref (r0 18), .ref (r0 19), .ref (r0 20), .ref (r0 21), .ref (r0 22), .int m_due, .ref (r0 23), .ref (r0 24), .ref (r0 25), .ref (r0 26), .ref (r0 27), .ref (r0 28), .ref (r0 29)], aI (r0 2) cI 8 m_scales, aI (r0 3) cI 16 m_steps, aI (r0 22) cI 2304 m_numbers, aJ (r0 24) cJ 64 m_square_87, aJ (r0 25) cJ 64 m_rows_102, aI (r0 26) cI 64 m_added, aI (r0 27) cI 8 m_waves] []) H135 := hP135
              have hD135 : va_D A (wf [oB (r0 0) 7 [.int m_thrown, .ref (r0 1), .int m_length, .int m_at, .int m_fault, .int m_hasHeader, .int m_width, .int m_height, .int m_limit, .ref (r0 2), .ref (r0 3), .ref (r0 4), .ref (r0 5), .ref (r0 6), .ref (r0 7), .ref (r0 8), .ref (r0 9), .int m_hasPicture, .int m_frames, .int m_taken, .ref (r0 10), .ref (r0 11), .ref (r0 12), .int m_many, .ref (r0 13), .ref (r0 14), .ref (r0 15), .ref (r0 16), .ref (r0 17), .ref (r0 18), .ref (r0 19), .ref (r0 20), .ref (r0 21), .ref (r0 22), .int m_due, .ref (r0 23), .ref (r0 24), .ref (r0 25), .ref (r0 26), .ref (r0 27), .ref (r0 28), .ref (r0 29)], aI (r0 2) cI 8 m_scales, aI (r0 3) cI 16 m_steps, aI (r0 22) cI 2304 m_numbers, aJ (r0 24) cJ 64 m_square_87, aJ (r0 25) cJ 64 m_rows_102, aI (r0 26) cI 64 m_added, aI (r0 27) cI 8 m_waves] []) := hD135
              refine lv_aload_n hx hb dX7_add_237 rfl (lv_at hl135 0 rfl) ?_
              refine va_get (D := D) (ci := 7) (v := .ref (r0 25)) (C := RX7) (T := TX7) (N := 42) hx hb hts hi_X7_add_7 hown E.1 hP135 0 rfl rfl 37 (by decide) (hts _ (List.mem_of_getElem? (i := 8) rfl)) (fun _ h9 => h9) rfl dX7_add_238 ?_
              refine lv_bipush (v := 8) hx hb dX7_add_241 (by decide) ?_
              refine lv_iload hx hb dX7_add_243 (lv_at hl135 1 rfl) ?_
              refine lv_imul hx hb dX7_add_245 ?_
              refine lv_iload hx hb dX7_add_246 (lv_at hl135 2 rfl) ?_
              refine lv_iadd hx hb dX7_add_248 ?_
              refine lv_lload hx hb dX7_add_249 (lv_at hl135 3 rfl) ?_
              refine lv_bipush (v := 15) hx hb dX7_add_251 (by decide) ?_
              refine lv_lshr hx hb dX7_add_253 rfl ?_
              obtain ⟨hin136, hm136⟩ := gi_some hm134; clear hm134
              obtain ⟨m_rows_137, em_rows_137, hm138⟩ := nm_some hm136; clear hm136
              refine ct_last (g := m_rows_137) (ws' := (wf [oB (r0 0) 7 [.int m_thrown, .ref (r0 1), .int m_length, .int m_at, .int m_fault, .int m_hasHeader, .int m_width, .int m_height, .int m_limit, .ref (r0 2), .ref (r0 3), .ref (r0 4), .ref (r0 5), .ref (r0 6), .ref (r0 7), .ref (r0 8), .ref (r0 9), .int m_hasPicture, .int m_frames, .int m_taken, .ref (r0 10), .ref (r0 11), .ref (r0 12), .int m_many, .ref (r0 13), .ref (r0 14), .ref (r0 15), .ref (r0 16), .ref (r0 17), .ref (r0 18), .ref (r0 19), .ref (r0 20), .ref (r0 21), .ref (r0 22), .int m_due, .ref (r0 23), .ref (r0 24), .ref (r0 25), .ref (r0 26), .ref (r0 27), .ref (r0 28), .ref (r0 29)], aI (r0 2) cI 8 m_scales, aI (r0 3) cI 16 m_steps, aI (r0 22) cI 2304 m_numbers, aJ (r0 24) cJ 64 m_square_87, aJ (r0 25) cJ 64 m_rows_137, aI (r0 26) cI 64 m_added, aI (r0 27) cI 8 m_waves] [])) hx hb E.1 hP135 hD135 hS135 5 2 rfl rfl hin136 em_rows_137 rfl dX7_add_254 (fun H139 lc139 hP139 hD139 hS139 => ?_)
              clear hP135 hD135 hS135
              obtain ⟨v5_140, ev5_140, hm141⟩ := nm_some hm138; clear hm138
              refine lv_iinc (v := v5_140) (lv' := [(5, .int v5_140), (0, .ref (r0 0)), (4, .int v4_93), (6, .long v6_133)]) hx hb dX7_add_255 hl135 (k := 2) rfl (by rw [ev5_140]; rfl) (by decide) rfl (fun ls142 hl142 => ?_); clear hl135
              refine lv_goto (tgt := 181) hx hb dX7_add_258 (by decide) ?_
              exact ih m_rows_137 v5_140 _ _ _ _ hm141 hP139 hD139 hS139 (lv_sub hl142 [1, 2, 0] rfl) kx
        refine LP101 4000 m_rows_92 (0 : Int32) (m_rows_143) _ _ _ hlp101 hP94 hD94 hS94 (lv_sub hl100 [1, 2, 0] rfl) (fun H145 lc145 ls145 hP145 hD145 hS145 hl145 => ?_); clear LP101 hlp101
        clear hP94 hD94 hS94
        have hl145 : lv_has ls145 11 [(0, .ref (r0 0)), (4, .int v4_93)] := hl145
        have hP145 : va_P D vwCl (wf [oB (r0 0) 7 [.int m_thrown, .ref (r0 1), .int m_length, .int m_at, .int m_fault, .int m_hasHeader, .int m_width, .int m_height, .int m_limit, .ref (r0 2), .ref (r0 3), .ref (r0 4), .ref (r0 5), .ref (r0 6), .ref (r0 7), .ref (r0 8), .ref (r0 9), .int m_hasPicture, .int m_frames, .int m_taken, .ref (r0 10), .ref (r0 11), .ref (r0 12), .int m_many, .ref (r0 13), .ref (r0 14), .ref (r0 15), .ref (r0 16), .ref (r0 17), .ref (r0 18), .ref (r0 19), .ref (r0 20), .ref (r0 21), .ref (r0 22), .int m_due, .ref (r0 23), .ref (r0 24), .ref (r0 25), .ref (r0 26), .ref (r0 27), .ref (r0 28), .ref (r0 29)], aI (r0 2) cI 8 m_scales, aI (r0 3) cI 16 m_steps, aI (r0 22) cI 2304 m_numbers, aJ (r0 24) cJ 64 m_square_87, aJ (r0 25) cJ 64 m_rows_143, aI (r0 26) cI 64 m_added, aI (r0 27) cI 8 m_waves] []) H145 := hP145
        have hD145 : va_D A (wf [oB (r0 0) 7 [.int m_thrown, .ref (r0 1), .int m_length, .int m_at, .int m_fault, .int m_hasHeader, .int m_width, .int m_height, .int m_limit, .ref (r0 2), .ref (r0 3), .ref (r0 4), .ref (r0 5), .ref (r0 6), .ref (r0 7), .ref (r0 8), .ref (r0 9), .int m_hasPicture, .int m_frames, .int m_taken, .ref (r0 10), .ref (r0 11), .ref (r0 12), .int m_many, .ref (r0 13), .ref (r0 14), .ref (r0 15), .ref (r0 16), .ref (r0 17), .ref (r0 18), .ref (r0 19), .ref (r0 20), .ref (r0 21), .ref (r0 22), .int m_due, .ref (r0 23), .ref (r0 24), .ref (r0 25), .ref (r0 26), .ref (r0 27), .ref (r0 28), .ref (r0 29)], aI (r0 2) cI 8 m_scales, aI (r0 3) cI 16 m_steps, aI (r0 22) cI 2304 m_numbers, aJ (r0 24) cJ 64 m_square_87, aJ (r0 25) cJ 64 m_rows_143, aI (r0 26) cI 64 m_added, aI (r0 27) cI 8 m_waves] []) := hD145
        obtain ⟨v4_146, ev4_146, hm147⟩ := nm_some hm144; clear hm144
        refine lv_iinc (v := v4_146) (lv' := [(4, .int v4_146), (0, .ref (r0 0))]) hx hb dX7_add_261 hl145 (k := 1) rfl (by rw [ev4_146]; rfl) (by decide) rfl (fun ls148 hl148 => ?_); clear hl145
        refine lv_goto (tgt := 171) hx hb dX7_add_264 (by decide) ?_
        exact ih m_rows_143 v4_146 _ _ _ _ hm147 hP145 hD145 hS145 (lv_sub hl148 [1, 0] rfl) kx
  refine LP91 4000 m_rows (0 : Int32) (m_rows_149) _ _ _ hlp91 hP89 hD89 hS89 (lv_sub hl90 [1, 0] rfl) (fun H151 lc151 ls151 hP151 hD151 hS151 hl151 => ?_); clear LP91 hlp91
  clear hP89 hD89 hS89
  have hl151 : lv_has ls151 11 [(0, .ref (r0 0))] := hl151
  have hP151 : va_P D vwCl (wf [oB (r0 0) 7 [.int m_thrown, .ref (r0 1), .int m_length, .int m_at, .int m_fault, .int m_hasHeader, .int m_width, .int m_height, .int m_limit, .ref (r0 2), .ref (r0 3), .ref (r0 4), .ref (r0 5), .ref (r0 6), .ref (r0 7), .ref (r0 8), .ref (r0 9), .int m_hasPicture, .int m_frames, .int m_taken, .ref (r0 10), .ref (r0 11), .ref (r0 12), .int m_many, .ref (r0 13), .ref (r0 14), .ref (r0 15), .ref (r0 16), .ref (r0 17), .ref (r0 18), .ref (r0 19), .ref (r0 20), .ref (r0 21), .ref (r0 22), .int m_due, .ref (r0 23), .ref (r0 24), .ref (r0 25), .ref (r0 26), .ref (r0 27), .ref (r0 28), .ref (r0 29)], aI (r0 2) cI 8 m_scales, aI (r0 3) cI 16 m_steps, aI (r0 22) cI 2304 m_numbers, aJ (r0 24) cJ 64 m_square_87, aJ (r0 25) cJ 64 m_rows_149, aI (r0 26) cI 64 m_added, aI (r0 27) cI 8 m_waves] []) H151 := hP151
  have hD151 : va_D A (wf [oB (r0 0) 7 [.int m_thrown, .ref (r0 1), .int m_length, .int m_at, .int m_fault, .int m_hasHeader, .int m_width, .int m_height, .int m_limit, .ref (r0 2), .ref (r0 3), .ref (r0 4), .ref (r0 5), .ref (r0 6), .ref (r0 7), .ref (r0 8), .ref (r0 9), .int m_hasPicture, .int m_frames, .int m_taken, .ref (r0 10), .ref (r0 11), .ref (r0 12), .int m_many, .ref (r0 13), .ref (r0 14), .ref (r0 15), .ref (r0 16), .ref (r0 17), .ref (r0 18), .ref (r0 19), .ref (r0 20), .ref (r0 21), .ref (r0 22), .int m_due, .ref (r0 23), .ref (r0 24), .ref (r0 25), .ref (r0 26), .ref (r0 27), .ref (r0 28), .ref (r0 29)], aI (r0 2) cI 8 m_scales, aI (r0 3) cI 16 m_steps, aI (r0 22) cI 2304 m_numbers, aJ (r0 24) cJ 64 m_square_87, aJ (r0 25) cJ 64 m_rows_149, aI (r0 26) cI 64 m_added, aI (r0 27) cI 8 m_waves] []) := hD151
  refine lv_iconst (v := 0) hx hb dX7_add_267 (by decide) ?_
  refine lv_istore (lv' := [(4, .int (0 : Int32)), (0, .ref (r0 0))]) hx hb dX7_add_268 hl151 (by decide) rfl (fun ls152 hl152 => ?_); clear hl151
  obtain ⟨m_added_211, hlp153, hm212⟩ := bd1_some hm150; clear hm150
  have LP153 : ∀ (n : Nat) (m_added_154 : Nat → Int32) (v4_155 : Int32) (z153 : (Nat → Int32)) (H156 : Heap) (lc156 : List Loc) (ls156 : Array Slot), f_X7_add_L270 m_waves m_rows_149 n m_added_154 v4_155 = some z153 → va_P D vwCl (wf [oB (r0 0) 7 [.int m_thrown, .ref (r0 1), .int m_length, .int m_at, .int m_fault, .int m_hasHeader, .int m_width, .int m_height, .int m_limit, .ref (r0 2), .ref (r0 3), .ref (r0 4), .ref (r0 5), .ref (r0 6), .ref (r0 7), .ref (r0 8), .ref (r0 9), .int m_hasPicture, .int m_frames, .int m_taken, .ref (r0 10), .ref (r0 11), .ref (r0 12), .int m_many, .ref (r0 13), .ref (r0 14), .ref (r0 15), .ref (r0 16), .ref (r0 17), .ref (r0 18), .ref (r0 19), .ref (r0 20), .ref (r0 21), .ref (r0 22), .int m_due, .ref (r0 23), .ref (r0 24), .ref (r0 25), .ref (r0 26), .ref (r0 27), .ref (r0 28), .ref (r0 29)], aI (r0 2) cI 8 m_scales, aI (r0 3) cI 16 m_steps, aI (r0 22) cI 2304 m_numbers, aJ (r0 24) cJ 64 m_square_87, aJ (r0 25) cJ 64 m_rows_149, aI (r0 26) cI 64 m_added_154, aI (r0 27) cI 8 m_waves] []) H156 → va_D A (wf [oB (r0 0) 7 [.int m_thrown, .ref (r0 1), .int m_length, .int m_at, .int m_fault, .int m_hasHeader, .int m_width, .int m_height, .int m_limit, .ref (r0 2), .ref (r0 3), .ref (r0 4), .ref (r0 5), .ref (r0 6), .ref (r0 7), .ref (r0 8), .ref (r0 9), .int m_hasPicture, .int m_frames, .int m_taken, .ref (r0 10), .ref (r0 11), .ref (r0 12), .int m_many, .ref (r0 13), .ref (r0 14), .ref (r0 15), .ref (r0 16), .ref (r0 17), .ref (r0 18), .ref (r0 19), .ref (r0 20), .ref (r0 21), .ref (r0 22), .int m_due, .ref (r0 23), .ref (r0 24), .ref (r0 25), .ref (r0 26), .ref (r0 27), .ref (r0 28), .ref (r0 29)], aI (r0 2) cI 8 m_scales, aI (r0 3) cI 16 m_steps, aI (r0 22) cI 2304 m_numbers, aJ (r0 24) cJ 64 m_square_87, aJ (r0 25) cJ 64 m_rows_149, aI (r0 26) cI 64 m_added_154, aI (r0 27) cI 8 m_waves] []) → va_S A s.heap H156 lc156 → lv_has ls156 11 [(0, .ref (r0 0)), (4, .int v4_155)] → (∀ (H : Heap) (lc : List Loc) (ls : Array Slot), va_P D vwCl (wf [oB (r0 0) 7 [.int m_thrown, .ref (r0 1), .int m_length, .int m_at, .int m_fault, .int m_hasHeader, .int m_width, .int m_height, .int m_limit, .ref (r0 2), .ref (r0 3), .ref (r0 4), .ref (r0 5), .ref (r0 6), .ref (r0 7), .ref (r0 8), .ref (r0 9), .int m_hasPicture, .int m_frames, .int m_taken, .ref (r0 10), .ref (r0 11), .ref (r0 12), .int m_many, .ref (r0 13), .ref (r0 14), .ref (r0 15), .ref (r0 16), .ref (r0 17), .ref (r0 18), .ref (r0 19), .ref (r0 20), .ref (r0 21), .ref (r0 22), .int m_due, .ref (r0 23), .ref (r0 24), .ref (r0 25), .ref (r0 26), .ref (r0 27), .ref (r0 28), .ref (r0 29)], aI (r0 2) cI 8 m_scales, aI (r0 3) cI 16 m_steps, aI (r0 22) cI 2304 m_numbers, aJ (r0 24) cJ 64 m_square_87, aJ (r0 25) cJ 64 m_rows_149, aI (r0 26) cI 64 z153, aI (r0 27) cI 8 m_waves] []) H → va_D A (wf [oB (r0 0) 7 [.int m_thrown, .ref (r0 1), .int m_length, .int m_at, .int m_fault, .int m_hasHeader, .int m_width, .int m_height, .int m_limit, .ref (r0 2), .ref (r0 3), .ref (r0 4), .ref (r0 5), .ref (r0 6), .ref (r0 7), .ref (r0 8), .ref (r0 9), .int m_hasPicture, .int m_frames, .int m_taken, .ref (r0 10), .ref (r0 11), .ref (r0 12), .int m_many, .ref (r0 13), .ref (r0 14), .ref (r0 15), .ref (r0 16), .ref (r0 17), .ref (r0 18), .ref (r0 19), .ref (r0 20), .ref (r0 21), .ref (r0 22), .int m_due, .ref (r0 23), .ref (r0 24), .ref (r0 25), .ref (r0 26), .ref (r0 27), .ref (r0 28), .ref (r0 29)], aI (r0 2) cI 8 m_scales, aI (r0 3) cI 16 m_steps, aI (r0 22) cI 2304 m_numbers, aJ (r0 24) cJ 64 m_square_87, aJ (r0 25) cJ 64 m_rows_149, aI (r0 26) cI 64 z153, aI (r0 27) cI 8 m_waves] []) → va_S A s.heap H lc → lv_has ls 11 [] → W p l e rm_X7_add s m args below meth c H lc 0 0 QQ (F0 m 367 ls [])) → W p l e rm_X7_add s m args below meth c H156 lc156 0 0 QQ (F0 m 270 ls156 []) := by
    intro n
    induction n with
    | zero =>
      intro m_added_154 v4_155 z153 H156 lc156 ls156 hm158; simp [f_X7_add_L270] at hm158
    | succ n ih =>
      intro m_added_154 v4_155 z153 H156 lc156 ls156 hm158 hP156 hD156 hS156 hl156 kx
      rw [f_X7_add_L270] at hm158
      refine lv_iload hx hb dX7_add_270 (lv_at hl156 1 rfl) ?_
      refine lv_bipush (v := 8) hx hb dX7_add_272 (by decide) ?_
      refine lv_icmp_ge (tgt := 367) hx hb dX7_add_274 (by decide) (fun hc159 => ?_) (fun hc159 => ?_)
      · have hm160 := bq_t hm158 hc159; clear hm158
        obtain rfl := Option.some.inj hm160
        exact kx _ _ _ hP156 hD156 hS156 (lv_sub hl156 [] rfl)
      · have hm161 := bq_f hm158 hc159; clear hm158
        refine lv_iconst (v := 0) hx hb dX7_add_277 (by decide) ?_
        refine lv_istore (lv' := [(5, .int (0 : Int32)), (0, .ref (r0 0)), (4, .int v4_155)]) hx hb dX7_add_278 hl156 (by decide) rfl (fun ls162 hl162 => ?_); clear hl156
        obtain ⟨m_added_205, hlp163, hm206⟩ := bd1_some hm161; clear hm161
        have LP163 : ∀ (n : Nat) (m_added_164 : Nat → Int32) (v5_165 : Int32) (z163 : (Nat → Int32)) (H166 : Heap) (lc166 : List Loc) (ls166 : Array Slot), f_X7_add_L280 m_waves m_rows_149 v4_155 n m_added_164 v5_165 = some z163 → va_P D vwCl (wf [oB (r0 0) 7 [.int m_thrown, .ref (r0 1), .int m_length, .int m_at, .int m_fault, .int m_hasHeader, .int m_width, .int m_height, .int m_limit, .ref (r0 2), .ref (r0 3), .ref (r0 4), .ref (r0 5), .ref (r0 6), .ref (r0 7), .ref (r0 8), .ref (r0 9), .int m_hasPicture, .int m_frames, .int m_taken, .ref (r0 10), .ref (r0 11), .ref (r0 12), .int m_many, .ref (r0 13), .ref (r0 14), .ref (r0 15), .ref (r0 16), .ref (r0 17), .ref (r0 18), .ref (r0 19), .ref (r0 20), .ref (r0 21), .ref (r0 22), .int m_due, .ref (r0 23), .ref (r0 24), .ref (r0 25), .ref (r0 26), .ref (r0 27), .ref (r0 28), .ref (r0 29)], aI (r0 2) cI 8 m_scales, aI (r0 3) cI 16 m_steps, aI (r0 22) cI 2304 m_numbers, aJ (r0 24) cJ 64 m_square_87, aJ (r0 25) cJ 64 m_rows_149, aI (r0 26) cI 64 m_added_164, aI (r0 27) cI 8 m_waves] []) H166 → va_D A (wf [oB (r0 0) 7 [.int m_thrown, .ref (r0 1), .int m_length, .int m_at, .int m_fault, .int m_hasHeader, .int m_width, .int m_height, .int m_limit, .ref (r0 2), .ref (r0 3), .ref (r0 4), .ref (r0 5), .ref (r0 6), .ref (r0 7), .ref (r0 8), .ref (r0 9), .int m_hasPicture, .int m_frames, .int m_taken, .ref (r0 10), .ref (r0 11), .ref (r0 12), .int m_many, .ref (r0 13), .ref (r0 14), .ref (r0 15), .ref (r0 16), .ref (r0 17), .ref (r0 18), .ref (r0 19), .ref (r0 20), .ref (r0 21), .ref (r0 22), .int m_due, .ref (r0 23), .ref (r0 24), .ref (r0 25), .ref (r0 26), .ref (r0 27), .ref (r0 28), .ref (r0 29)], aI (r0 2) cI 8 m_scales, aI (r0 3) cI 16 m_steps, aI (r0 22) cI 2304 m_numbers, aJ (r0 24) cJ 64 m_square_87, aJ (r0 25) cJ 64 m_rows_149, aI (r0 26) cI 64 m_added_164, aI (r0 27) cI 8 m_waves] []) → va_S A s.heap H166 lc166 → lv_has ls166 11 [(0, .ref (r0 0)), (4, .int v4_155), (5, .int v5_165)] → (∀ (H : Heap) (lc : List Loc) (ls : Array Slot), va_P D vwCl (wf [oB (r0 0) 7 [.int m_thrown, .ref (r0 1), .int m_length, .int m_at, .int m_fault, .int m_hasHeader, .int m_width, .int m_height, .int m_limit, .ref (r0 2), .ref (r0 3), .ref (r0 4), .ref (r0 5), .ref (r0 6), .ref (r0 7), .ref (r0 8), .ref (r0 9), .int m_hasPicture, .int m_frames, .int m_taken, .ref (r0 10), .ref (r0 11), .ref (r0 12), .int m_many, .ref (r0 13), .ref (r0 14), .ref (r0 15), .ref (r0 16), .ref (r0 17), .ref (r0 18), .ref (r0 19), .ref (r0 20), .ref (r0 21), .ref (r0 22), .int m_due, .ref (r0 23), .ref (r0 24), .ref (r0 25), .ref (r0 26), .ref (r0 27), .ref (r0 28), .ref (r0 29)], aI (r0 2) cI 8 m_scales, aI (r0 3) cI 16 m_steps, aI (r0 22) cI 2304 m_numbers, aJ (r0 24) cJ 64 m_square_87, aJ (r0 25) cJ 64 m_rows_149, aI (r0 26) cI 64 z163, aI (r0 27) cI 8 m_waves] []) H → va_D A (wf [oB (r0 0) 7 [.int m_thrown, .ref (r0 1), .int m_length, .int m_at, .int m_fault, .int m_hasHeader, .int m_width, .int m_height, .int m_limit, .ref (r0 2), .ref (r0 3), .ref (r0 4), .ref (r0 5), .ref (r0 6), .ref (r0 7), .ref (r0 8), .ref (r0 9), .int m_hasPicture, .int m_frames, .int m_taken, .ref (r0 10), .ref (r0 11), .ref (r0 12), .int m_many, .ref (r0 13), .ref (r0 14), .ref (r0 15), .ref (r0 16), .ref (r0 17), .ref (r0 18), .ref (r0 19), .ref (r0 20), .ref (r0 21), .ref (r0 22), .int m_due, .ref (r0 23), .ref (r0 24), .ref (r0 25), .ref (r0 26), .ref (r0 27), .ref (r0 28), .ref (r0 29)], aI (r0 2) cI 8 m_scales, aI (r0 3) cI 16 m_steps, aI (r0 22) cI 2304 m_numbers, aJ (r0 24) cJ 64 m_square_87, aJ (r0 25) cJ 64 m_rows_149, aI (r0 26) cI 64 z163, aI (r0 27) cI 8 m_waves] []) → va_S A s.heap H lc → lv_has ls 11 [(0, .ref (r0 0)), (4, .int v4_155)] → W p l e rm_X7_add s m args below meth c H lc 0 0 QQ (F0 m 361 ls [])) → W p l e rm_X7_add s m args below meth c H166 lc166 0 0 QQ (F0 m 280 ls166 []) := by
          intro n
          induction n with
          | zero =>
            intro m_added_164 v5_165 z163 H166 lc166 ls166 hm168; simp [f_X7_add_L280] at hm168
          | succ n ih =>
            intro m_added_164 v5_165 z163 H166 lc166 ls166 hm168 hP166 hD166 hS166 hl166 kx
            rw [f_X7_add_L280] at hm168
            refine lv_iload hx hb dX7_add_280 (lv_at hl166 2 rfl) ?_
            refine lv_bipush (v := 8) hx hb dX7_add_282 (by decide) ?_
            refine lv_icmp_ge (tgt := 361) hx hb dX7_add_284 (by decide) (fun hc169 => ?_) (fun hc169 => ?_)
            · have hm170 := bq_t hm168 hc169; clear hm168
              obtain rfl := Option.some.inj hm170
              exact kx _ _ _ hP166 hD166 hS166 (lv_sub hl166 [0, 1] rfl)
            · have hm171 := bq_f hm168 hc169; clear hm168
              refine lv_ldc2 (v := 16384) hx hb hown (hts _ (List.mem_of_getElem? (i := 7) rfl)) dX7_add_287 ?_
              refine lv_lstore (lv' := [(6, .long (16384 : Int64)), (0, .ref (r0 0)), (4, .int v4_155), (5, .int v5_165)]) hx hb dX7_add_290 hl166 (by decide) rfl (fun ls172 hl172 => ?_); clear hl166
              refine lv_iconst (v := 0) hx hb dX7_add_292 (by decide) ?_
              refine lv_istore (lv' := [(8, .int (0 : Int32)), (6, .long (16384 : Int64)), (0, .ref (r0 0)), (4, .int v4_155), (5, .int v5_165)]) hx hb dX7_add_293 hl172 (by decide) rfl (fun ls173 hl173 => ?_); clear hl172
              obtain ⟨v6_195, hlp174, hm196⟩ := bd1_some hm171; clear hm171
              have LP174 : ∀ (n : Nat) (v6_175 : Int64) (v8_176 : Int32) (z174 : Int64) (H177 : Heap) (lc177 : List Loc) (ls177 : Array Slot), f_X7_add_L295 m_waves m_rows_149 v4_155 v5_165 n v6_175 v8_176 = some z174 → va_P D vwCl (wf [oB (r0 0) 7 [.int m_thrown, .ref (r0 1), .int m_length, .int m_at, .int m_fault, .int m_hasHeader, .int m_width, .int m_height, .int m_limit, .ref (r0 2), .ref (r0 3), .ref (r0 4), .ref (r0 5), .ref (r0 6), .ref (r0 7), .ref (r0 8), .ref (r0 9), .int m_hasPicture, .int m_frames, .int m_taken, .ref (r0 10), .ref (r0 11), .ref (r0 12), .int m_many, .ref (r0 13), .ref (r0 14), .ref (r0 15), .ref (r0 16), .ref (r0 17), .ref (r0 18), .ref (r0 19), .ref (r0 20), .ref (r0 21), .ref (r0 22), .int m_due, .ref (r0 23), .ref (r0 24), .ref (r0 25), .ref (r0 26), .ref (r0 27), .ref (r0 28), .ref (r0 29)], aI (r0 2) cI 8 m_scales, aI (r0 3) cI 16 m_steps, aI (r0 22) cI 2304 m_numbers, aJ (r0 24) cJ 64 m_square_87, aJ (r0 25) cJ 64 m_rows_149, aI (r0 26) cI 64 m_added_164, aI (r0 27) cI 8 m_waves] []) H177 → va_D A (wf [oB (r0 0) 7 [.int m_thrown, .ref (r0 1), .int m_length, .int m_at, .int m_fault, .int m_hasHeader, .int m_width, .int m_height, .int m_limit, .ref (r0 2), .ref (r0 3), .ref (r0 4), .ref (r0 5), .ref (r0 6), .ref (r0 7), .ref (r0 8), .ref (r0 9), .int m_hasPicture, .int m_frames, .int m_taken, .ref (r0 10), .ref (r0 11), .ref (r0 12), .int m_many, .ref (r0 13), .ref (r0 14), .ref (r0 15), .ref (r0 16), .ref (r0 17), .ref (r0 18), .ref (r0 19), .ref (r0 20), .ref (r0 21), .ref (r0 22), .int m_due, .ref (r0 23), .ref (r0 24), .ref (r0 25), .ref (r0 26), .ref (r0 27), .ref (r0 28), .ref (r0 29)], aI (r0 2) cI 8 m_scales, aI (r0 3) cI 16 m_steps, aI (r0 22) cI 2304 m_numbers, aJ (r0 24) cJ 64 m_square_87, aJ (r0 25) cJ 64 m_rows_149, aI (r0 26) cI 64 m_added_164, aI (r0 27) cI 8 m_waves] []) → va_S A s.heap H177 lc177 → lv_has ls177 11 [(0, .ref (r0 0)), (4, .int v4_155), (5, .int v5_165), (6, .long v6_175), (8, .int v8_176)] → (∀ (H : Heap) (lc : List Loc) (ls : Array Slot), va_P D vwCl (wf [oB (r0 0) 7 [.int m_thrown, .ref (r0 1), .int m_length, .int m_at, .int m_fault, .int m_hasHeader, .int m_width, .int m_height, .int m_limit, .ref (r0 2), .ref (r0 3), .ref (r0 4), .ref (r0 5), .ref (r0 6), .ref (r0 7), .ref (r0 8), .ref (r0 9), .int m_hasPicture, .int m_frames, .int m_taken, .ref (r0 10), .ref (r0 11), .ref (r0 12), .int m_many, .ref (r0 13), .ref (r0 14), .ref (r0 15), .ref (r0 16), .ref (r0 17), .ref (r0 18), .ref (r0 19), .ref (r0 20), .ref (r0 21), .ref (r0 22), .int m_due, .ref (r0 23), .ref (r0 24), .ref (r0 25), .ref (r0 26), .ref (r0 27), .ref (r0 28), .ref (r0 29)], aI (r0 2) cI 8 m_scales, aI (r0 3) cI 16 m_steps, aI (r0 22) cI 2304 m_numbers, aJ (r0 24) cJ 64 m_square_87, aJ (r0 25) cJ 64 m_rows_149, aI (r0 26) cI 64 m_added_164, aI (r0 27) cI 8 m_waves] []) H → va_D A (wf [oB (r0 0) 7 [.int m_thrown, .ref (r0 1), .int m_length, .int m_at, .int m_fault, .int m_hasHeader, .int m_width, .int m_height, .int m_limit, .ref (r0 2), .ref (r0 3), .ref (r0 4), .ref (r0 5), .ref (r0 6), .ref (r0 7), .ref (r0 8), .ref (r0 9), .int m_hasPicture, .int m_frames, .int m_taken, .ref (r0 10), .ref (r0 11), .ref (r0 12), .int m_many, .ref (r0 13), .ref (r0 14), .ref (r0 15), .ref (r0 16), .ref (r0 17), .ref (r0 18), .ref (r0 19), .ref (r0 20), .ref (r0 21), .ref (r0 22), .int m_due, .ref (r0 23), .ref (r0 24), .ref (r0 25), .ref (r0 26), .ref (r0 27), .ref (r0 28), .ref (r0 29)], aI (r0 2) cI 8 m_scales, aI (r0 3) cI 16 m_steps, aI (r0 22) cI 2304 m_numbers, aJ (r0 24) cJ 64 m_square_87, aJ (r0 25) cJ 64 m_rows_149, aI (r0 26) cI 64 m_added_164, aI (r0 27) cI 8 m_waves] []) → va_S A s.heap H lc → lv_has ls 11 [(0, .ref (r0 0)), (4, .int v4_155), (5, .int v5_165), (6, .long z174)] → W p l e rm_X7_add s m args below meth c H lc 0 0 QQ (F0 m 336 ls [])) → W p l e rm_X7_add s m args below meth c H177 lc177 0 0 QQ (F0 m 295 ls177 []) := by
                intro n
                induction n with
                | zero =>
                  intro v6_175 v8_176 z174 H177 lc177 ls177 hm179; simp [f_X7_add_L295] at hm179
                | succ n ih =>
                  intro v6_175 v8_176 z174 H177 lc177 ls177 hm179 hP177 hD177 hS177 hl177 kx
                  rw [f_X7_add_L295] at hm179
                  refine lv_iload hx hb dX7_add_295 (lv_at hl177 4 rfl) ?_
                  refine lv_bipush (v := 8) hx hb dX7_add_297 (by decide) ?_
                  refine lv_icmp_ge (tgt := 336) hx hb dX7_add_299 (by decide) (fun hc180 => ?_) (fun hc180 => ?_)
                  · have hm181 := bq_t hm179 hc180; clear hm179
                    obtain rfl := Option.some.inj hm181
                    exact kx _ _ _ hP177 hD177 hS177 (lv_sub hl177 [0, 1, 2, 3] rfl)
                  · have hm182 := bq_f hm179 hc180; clear hm179
                    refine lv_lload hx hb dX7_add_302 (lv_at hl177 3 rfl) ?_
                    refine lv_aload_n hx hb dX7_add_304 rfl (lv_at hl177 0 rfl) ?_
                    refine lv_iload hx hb dX7_add_305 (lv_at hl177 2 rfl) ?_
                    refine lv_iload hx hb dX7_add_307 (lv_at hl177 4 rfl) ?_
                    obtain ⟨y_183, hcl184, hm184⟩ := bd1_some hm182; clear hm182
                    have sb185 := ctS.mk (n := 8) (k := 0) (pre := [oB (r0 0) 7 [.int m_thrown, .ref (r0 1), .int m_length, .int m_at, .int m_fault, .int m_hasHeader, .int m_width, .int m_height, .int m_limit, .ref (r0 2), .ref (r0 3), .ref (r0 4), .ref (r0 5), .ref (r0 6), .ref (r0 7), .ref (r0 8), .ref (r0 9), .int m_hasPicture, .int m_frames, .int m_taken, .ref (r0 10), .ref (r0 11), .ref (r0 12), .int m_many, .ref (r0 13), .ref (r0 14), .ref (r0 15), .ref (r0 16), .ref (r0 17), .ref (r0 18), .ref (r0 19), .ref (r0 20), .ref (r0 21), .ref (r0 22), .int m_due, .ref (r0 23), .ref (r0 24), .ref (r0 25), .ref (r0 26), .ref (r0 27), .ref (r0 28), .ref (r0 29)], aI (r0 2) cI 8 m_scales, aI (r0 3) cI 16 m_steps, aI (r0 22) cI 2304 m_numbers, aJ (r0 24) cJ 64 m_square_87, aJ (r0 25) cJ 64 m_rows_149, aI (r0 26) cI 64 m_added_164, aI (r0 27) cI 8 m_waves]) (tl := []) [0, 7] [1, 2, 3, 4, 5, 6] [] [] rfl rfl (by decide +kernel) (by decide +kernel)
                    refine ct_calli (r := y_183) E sb185 hP177 hD177 hS177 (va_runV (As := [.int v5_165, .int v8_176]) (rest := [.long v6_175]) ⟨hx, hb, hml, hown, hts⟩ (c_X7_wave l D cB cI cJ cQ N r0 H177.size v5_165 v8_176 m_thrown m_length m_at m_fault m_hasHeader m_width m_height m_limit m_hasPicture m_frames m_taken m_many m_due m_waves (y_183) hcl184) (cwV 2 hts gX7_add_X7_wave rfl rfl rfl cdV_X7_wave ⟨Nat.le_of_ble_eq_true rfl, Nat.le_of_ble_eq_true rfl⟩) (ct_preV (q0 := 0) (ci := 7) E sb185 hP177 hD177 hS177 rfl rfl) rfl rfl hl177.1 rfl (lv_room (Nat.le_of_ble_eq_true rfl)) dX7_add_309 ⟨Nat.zero_le _, Nat.zero_le _⟩) (fun H186 lc186 hP186 hD186 hS186 => ?_); clear sb185 hcl184
                    clear hP177 hD177 hS177
                    have hP186 : va_P D vwCl (wf [aI (r0 2) cI 8 m_scales, aI (r0 3) cI 16 m_steps, aI (r0 22) cI 2304 m_numbers, aJ (r0 24) cJ 64 m_square_87, aJ (r0 25) cJ 64 m_rows_149, aI (r0 26) cI 64 m_added_164, oB (r0 0) 7 [.int m_thrown, .ref (r0 1), .int m_length, .int m_at, .int m_fault, .int m_hasHeader, .int m_width, .int m_height, .int m_limit, .ref (r0 2), .ref (r0 3), .ref (r0 4), .ref (r0 5), .ref (r0 6), .ref (r0 7), .ref (r0 8), .ref (r0 9), .int m_hasPicture, .int m_frames, .int m_taken, .ref (r0 10), .ref (r0 11), .ref (r0 12), .int m_many, .ref (r0 13), .ref (r0 14), .ref (r0 15), .ref (r0 16), .ref (r0 17), .ref (r0 18), .ref (r0 19), .ref (r0 20), .ref (r0 21), .ref (r0 22), .int m_due, .ref (r0 23), .ref (r0 24), .ref (r0 25), .ref (r0 26), .ref (r0 27), .ref (r0 28), .ref (r0 29)], aI (r0 27) cI 8 m_waves] []) H186 := hP186
                    have hD186 : va_D A (wf [aI (r0 2) cI 8 m_scales, aI (r0 3) cI 16 m_steps, aI (r0 22) cI 2304 m_numbers, aJ (r0 24) cJ 64 m_square_87, aJ (r0 25) cJ 64 m_rows_149, aI (r0 26) cI 64 m_added_164, oB (r0 0) 7 [.int m_thrown, .ref (r0 1), .int m_length, .int m_at, .int m_fault, .int m_hasHeader, .int m_width, .int m_height, .int m_limit, .ref (r0 2), .ref (r0 3), .ref (r0 4), .ref (r0 5), .ref (r0 6), .ref (r0 7), .ref (r0 8), .ref (r0 9), .int m_hasPicture, .int m_frames, .int m_taken, .ref (r0 10), .ref (r0 11), .ref (r0 12), .int m_many, .ref (r0 13), .ref (r0 14), .ref (r0 15), .ref (r0 16), .ref (r0 17), .ref (r0 18), .ref (r0 19), .ref (r0 20), .ref (r0 21), .ref (r0 22), .int m_due, .ref (r0 23), .ref (r0 24), .ref (r0 25), .ref (r0 26), .ref (r0 27), .ref (r0 28), .ref (r0 29)], aI (r0 27) cI 8 m_waves] []) := hD186
                    refine lv_i2l hx hb dX7_add_312 rfl ?_
                    refine lv_aload_n hx hb dX7_add_313 rfl (lv_at hl177 0 rfl) ?_
                    refine va_get (D := D) (ci := 7) (v := .ref (r0 25)) (C := RX7) (T := TX7) (N := 42) hx hb hts hi_X7_add_7 hown E.1 hP186 6 rfl rfl 37 (by decide) (hts _ (List.mem_of_getElem? (i := 8) rfl)) (fun _ h9 => h9) rfl dX7_add_314 ?_
                    refine lv_bipush (v := 8) hx hb dX7_add_317 (by decide) ?_
                    refine lv_iload hx hb dX7_add_319 (lv_at hl177 4 rfl) ?_
                    refine lv_imul hx hb dX7_add_321 ?_
                    refine lv_iload hx hb dX7_add_322 (lv_at hl177 1 rfl) ?_
                    refine lv_iadd hx hb dX7_add_324 ?_
                    obtain ⟨hin187, hm187⟩ := gi_some hm184; clear hm184
                    refine va_lald hx hb E.1 hP186 4 2 rfl rfl hin187 dX7_add_325 ?_
                    refine lv_lmul hx hb dX7_add_326 ?_
                    refine lv_ladd hx hb dX7_add_327 ?_
                    obtain ⟨v6_188, ev6_188, hm189⟩ := nm_some hm187; clear hm187
                    refine ct_topl ev6_188 ?_
                    refine lv_lstore (lv' := [(6, .long v6_188), (0, .ref (r0 0)), (4, .int v4_155), (5, .int v5_165), (8, .int v8_176)]) hx hb dX7_add_328 hl177 (by decide) rfl (fun ls190 hl190 => ?_); clear hl177
                    obtain ⟨v8_191, ev8_191, hm192⟩ := nm_some hm189; clear hm189
                    refine lv_iinc (v := v8_191) (lv' := [(8, .int v8_191), (6, .long v6_188), (0, .ref (r0 0)), (4, .int v4_155), (5, .int v5_165)]) hx hb dX7_add_330 hl190 (k := 4) rfl (by rw [ev8_191]; rfl) (by decide) rfl (fun ls193 hl193 => ?_); clear hl190
                    refine lv_goto (tgt := 295) hx hb dX7_add_333 (by decide) ?_
                    obtain ⟨hP194, hD194⟩ := ct_ord (n := 8) (k := 0) [6, 0, 1, 2, 3, 4, 5, 7] [] hP186 hD186 rfl rfl (by decide +kernel) (by decide +kernel)
                    have hS194 := hS186
                    have hP194 : va_P D vwCl (wf [oB (r0 0) 7 [.int m_thrown, .ref (r0 1), .int m_length, .int m_at, .int m_fault, .int m_hasHeader, .int m_width, .int m_height, .int m_limit, .ref (r0 2), .ref (r0 3), .ref (r0 4), .ref (r0 5), .ref (r0 6), .ref (r0 7), .ref (r0 8), .ref (r0 9), .int m_hasPicture, .int m_frames, .int m_taken, .ref (r0 10), .ref (r0 11), .ref (r0 12), .int m_many, .ref (r0 13), .ref (r0 14), .ref (r0 15), .ref (r0 16), .ref (r0 17), .ref (r0 18), .ref (r0 19), .ref (r0 20), .ref (r0 21), .ref (r0 22), .int m_due, .ref (r0 23), .ref (r0 24), .ref (r0 25), .ref (r0 26), .ref (r0 27), .ref (r0 28), .ref (r0 29)], aI (r0 2) cI 8 m_scales, aI (r0 3) cI 16 m_steps, aI (r0 22) cI 2304 m_numbers, aJ (r0 24) cJ 64 m_square_87, aJ (r0 25) cJ 64 m_rows_149, aI (r0 26) cI 64 m_added_164, aI (r0 27) cI 8 m_waves] []) H186 := hP194
                    have hD194 : va_D A (wf [oB (r0 0) 7 [.int m_thrown, .ref (r0 1), .int m_length, .int m_at, .int m_fault, .int m_hasHeader, .int m_width, .int m_height, .int m_limit, .ref (r0 2), .ref (r0 3), .ref (r0 4), .ref (r0 5), .ref (r0 6), .ref (r0 7), .ref (r0 8), .ref (r0 9), .int m_hasPicture, .int m_frames, .int m_taken, .ref (r0 10), .ref (r0 11), .ref (r0 12), .int m_many, .ref (r0 13), .ref (r0 14), .ref (r0 15), .ref (r0 16), .ref (r0 17), .ref (r0 18), .ref (r0 19), .ref (r0 20), .ref (r0 21), .ref (r0 22), .int m_due, .ref (r0 23), .ref (r0 24), .ref (r0 25), .ref (r0 26), .ref (r0 27), .ref (r0 28), .ref (r0 29)], aI (r0 2) cI 8 m_scales, aI (r0 3) cI 16 m_steps, aI (r0 22) cI 2304 m_numbers, aJ (r0 24) cJ 64 m_square_87, aJ (r0 25) cJ 64 m_rows_149, aI (r0 26) cI 64 m_added_164, aI (r0 27) cI 8 m_waves] []) := hD194
                    exact ih v6_188 v8_191 _ _ _ _ hm192 hP194 hD194 hS194 (lv_sub hl193 [2, 3, 4, 1, 0] rfl) kx
              refine LP174 4000 (16384 : Int64) (0 : Int32) (v6_195) _ _ _ hlp174 hP166 hD166 hS166 (lv_sub hl173 [2, 3, 4, 1, 0] rfl) (fun H197 lc197 ls197 hP197 hD197 hS197 hl197 => ?_); clear LP174 hlp174
              clear hP166 hD166 hS166
              have hl197 : lv_has ls197 11 [(0, .ref (r0 0)), (4, .int v4_155), (5, .int v5_165), (6, .long v6_195)] := hl197
              have hP197 : va_P D vwCl (wf [oB (r0 0) 7 [.int m_thrown, .ref (r0 1), .int m_length, .int m_at, .int m_fault, .int m_hasHeader, .int m_width, .int m_height, .int m_limit, .ref (r0 2), .ref (r0 3), .ref (r0 4), .ref (r0 5), .ref (r0 6), .ref (r0 7), .ref (r0 8), .ref (r0 9), .int m_hasPicture, .int m_frames, .int m_taken, .ref (r0 10), .ref (r0 11), .ref (r0 12), .int m_many, .ref (r0 13), .ref (r0 14), .ref (r0 15), .ref (r0 16), .ref (r0 17), .ref (r0 18), .ref (r0 19), .ref (r0 20), .ref (r0 21), .ref (r0 22), .int m_due, .ref (r0 23), .ref (r0 24), .ref (r0 25), .ref (r0 26), .ref (r0 27), .ref (r0 28), .ref (r0 29)], aI (r0 2) cI 8 m_scales, aI (r0 3) cI 16 m_steps, aI (r0 22) cI 2304 m_numbers, aJ (r0 24) cJ 64 m_square_87, aJ (r0 25) cJ 64 m_rows_149, aI (r0 26) cI 64 m_added_164, aI (r0 27) cI 8 m_waves] []) H197 := hP197
              have hD197 : va_D A (wf [oB (r0 0) 7 [.int m_thrown, .ref (r0 1), .int m_length, .int m_at, .int m_fault, .int m_hasHeader, .int m_width, .int m_height, .int m_limit, .ref (r0 2), .ref (r0 3), .ref (r0 4), .ref (r0 5), .ref (r0 6), .ref (r0 7), .ref (r0 8), .ref (r0 9), .int m_hasPicture, .int m_frames, .int m_taken, .ref (r0 10), .ref (r0 11), .ref (r0 12), .int m_many, .ref (r0 13), .ref (r0 14), .ref (r0 15), .ref (r0 16), .ref (r0 17), .ref (r0 18), .ref (r0 19), .ref (r0 20), .ref (r0 21), .ref (r0 22), .int m_due, .ref (r0 23), .ref (r0 24), .ref (r0 25), .ref (r0 26), .ref (r0 27), .ref (r0 28), .ref (r0 29)], aI (r0 2) cI 8 m_scales, aI (r0 3) cI 16 m_steps, aI (r0 22) cI 2304 m_numbers, aJ (r0 24) cJ 64 m_square_87, aJ (r0 25) cJ 64 m_rows_149, aI (r0 26) cI 64 m_added_164, aI (r0 27) cI 8 m_waves] []) := hD197
              refine lv_aload_n hx hb dX7_add_336 rfl (lv_at hl197 0 rfl) ?_
              refine va_get (D := D) (ci := 7) (v := .ref (r0 26)) (C := RX7) (T := TX7) (N := 42) hx hb hts hi_X7_add_7 hown E.1 hP197 0 rfl rfl 38 (by decide) (hts _ (List.mem_of_getElem? (i := 9) rfl)) (fun _ h9 => h9) rfl dX7_add_337 ?_
              refine lv_bipush (v := 8) hx hb dX7_add_340 (by decide) ?_
              refine lv_iload hx hb dX7_add_342 (lv_at hl197 2 rfl) ?_
              refine lv_imul hx hb dX7_add_344 ?_
              refine lv_iload hx hb dX7_add_345 (lv_at hl197 1 rfl) ?_
              refine lv_iadd hx hb dX7_add_347 ?_
              refine lv_lload hx hb dX7_add_348 (lv_at hl197 3 rfl) ?_
              refine lv_bipush (v := 15) hx hb dX7_add_350 (by decide) ?_
              refine lv_lshr hx hb dX7_add_352 rfl ?_
              refine lv_l2i hx hb dX7_add_353 rfl ?_
              obtain ⟨hin198, hm198⟩ := gi_some hm196; clear hm196
              obtain ⟨m_added_199, em_added_199, hm200⟩ := nm_some hm198; clear hm198
              refine ct_iast (g := m_added_199) (ws' := (wf [oB (r0 0) 7 [.int m_thrown, .ref (r0 1), .int m_length, .int m_at, .int m_fault, .int m_hasHeader, .int m_width, .int m_height, .int m_limit, .ref (r0 2), .ref (r0 3), .ref (r0 4), .ref (r0 5), .ref (r0 6), .ref (r0 7), .ref (r0 8), .ref (r0 9), .int m_hasPicture, .int m_frames, .int m_taken, .ref (r0 10), .ref (r0 11), .ref (r0 12), .int m_many, .ref (r0 13), .ref (r0 14), .ref (r0 15), .ref (r0 16), .ref (r0 17), .ref (r0 18), .ref (r0 19), .ref (r0 20), .ref (r0 21), .ref (r0 22), .int m_due, .ref (r0 23), .ref (r0 24), .ref (r0 25), .ref (r0 26), .ref (r0 27), .ref (r0 28), .ref (r0 29)], aI (r0 2) cI 8 m_scales, aI (r0 3) cI 16 m_steps, aI (r0 22) cI 2304 m_numbers, aJ (r0 24) cJ 64 m_square_87, aJ (r0 25) cJ 64 m_rows_149, aI (r0 26) cI 64 m_added_199, aI (r0 27) cI 8 m_waves] [])) hx hb E.1 hP197 hD197 hS197 6 0 rfl rfl hin198 em_added_199 rfl dX7_add_354 (fun H201 lc201 hP201 hD201 hS201 => ?_)
              clear hP197 hD197 hS197
              obtain ⟨v5_202, ev5_202, hm203⟩ := nm_some hm200; clear hm200
              refine lv_iinc (v := v5_202) (lv' := [(5, .int v5_202), (0, .ref (r0 0)), (4, .int v4_155), (6, .long v6_195)]) hx hb dX7_add_355 hl197 (k := 2) rfl (by rw [ev5_202]; rfl) (by decide) rfl (fun ls204 hl204 => ?_); clear hl197
              refine lv_goto (tgt := 280) hx hb dX7_add_358 (by decide) ?_
              exact ih m_added_199 v5_202 _ _ _ _ hm203 hP201 hD201 hS201 (lv_sub hl204 [1, 2, 0] rfl) kx
        refine LP163 4000 m_added_154 (0 : Int32) (m_added_205) _ _ _ hlp163 hP156 hD156 hS156 (lv_sub hl162 [1, 2, 0] rfl) (fun H207 lc207 ls207 hP207 hD207 hS207 hl207 => ?_); clear LP163 hlp163
        clear hP156 hD156 hS156
        have hl207 : lv_has ls207 11 [(0, .ref (r0 0)), (4, .int v4_155)] := hl207
        have hP207 : va_P D vwCl (wf [oB (r0 0) 7 [.int m_thrown, .ref (r0 1), .int m_length, .int m_at, .int m_fault, .int m_hasHeader, .int m_width, .int m_height, .int m_limit, .ref (r0 2), .ref (r0 3), .ref (r0 4), .ref (r0 5), .ref (r0 6), .ref (r0 7), .ref (r0 8), .ref (r0 9), .int m_hasPicture, .int m_frames, .int m_taken, .ref (r0 10), .ref (r0 11), .ref (r0 12), .int m_many, .ref (r0 13), .ref (r0 14), .ref (r0 15), .ref (r0 16), .ref (r0 17), .ref (r0 18), .ref (r0 19), .ref (r0 20), .ref (r0 21), .ref (r0 22), .int m_due, .ref (r0 23), .ref (r0 24), .ref (r0 25), .ref (r0 26), .ref (r0 27), .ref (r0 28), .ref (r0 29)], aI (r0 2) cI 8 m_scales, aI (r0 3) cI 16 m_steps, aI (r0 22) cI 2304 m_numbers, aJ (r0 24) cJ 64 m_square_87, aJ (r0 25) cJ 64 m_rows_149, aI (r0 26) cI 64 m_added_205, aI (r0 27) cI 8 m_waves] []) H207 := hP207
        have hD207 : va_D A (wf [oB (r0 0) 7 [.int m_thrown, .ref (r0 1), .int m_length, .int m_at, .int m_fault, .int m_hasHeader, .int m_width, .int m_height, .int m_limit, .ref (r0 2), .ref (r0 3), .ref (r0 4), .ref (r0 5), .ref (r0 6), .ref (r0 7), .ref (r0 8), .ref (r0 9), .int m_hasPicture, .int m_frames, .int m_taken, .ref (r0 10), .ref (r0 11), .ref (r0 12), .int m_many, .ref (r0 13), .ref (r0 14), .ref (r0 15), .ref (r0 16), .ref (r0 17), .ref (r0 18), .ref (r0 19), .ref (r0 20), .ref (r0 21), .ref (r0 22), .int m_due, .ref (r0 23), .ref (r0 24), .ref (r0 25), .ref (r0 26), .ref (r0 27), .ref (r0 28), .ref (r0 29)], aI (r0 2) cI 8 m_scales, aI (r0 3) cI 16 m_steps, aI (r0 22) cI 2304 m_numbers, aJ (r0 24) cJ 64 m_square_87, aJ (r0 25) cJ 64 m_rows_149, aI (r0 26) cI 64 m_added_205, aI (r0 27) cI 8 m_waves] []) := hD207
        obtain ⟨v4_208, ev4_208, hm209⟩ := nm_some hm206; clear hm206
        refine lv_iinc (v := v4_208) (lv' := [(4, .int v4_208), (0, .ref (r0 0))]) hx hb dX7_add_361 hl207 (k := 1) rfl (by rw [ev4_208]; rfl) (by decide) rfl (fun ls210 hl210 => ?_); clear hl207
        refine lv_goto (tgt := 270) hx hb dX7_add_364 (by decide) ?_
        exact ih m_added_205 v4_208 _ _ _ _ hm209 hP207 hD207 hS207 (lv_sub hl210 [1, 0] rfl) kx
  refine LP153 4000 m_added (0 : Int32) (m_added_211) _ _ _ hlp153 hP151 hD151 hS151 (lv_sub hl152 [1, 0] rfl) (fun H213 lc213 ls213 hP213 hD213 hS213 hl213 => ?_); clear LP153 hlp153
  clear hP151 hD151 hS151
  have hl213 : lv_has ls213 11 [] := hl213
  have hP213 : va_P D vwCl (wf [oB (r0 0) 7 [.int m_thrown, .ref (r0 1), .int m_length, .int m_at, .int m_fault, .int m_hasHeader, .int m_width, .int m_height, .int m_limit, .ref (r0 2), .ref (r0 3), .ref (r0 4), .ref (r0 5), .ref (r0 6), .ref (r0 7), .ref (r0 8), .ref (r0 9), .int m_hasPicture, .int m_frames, .int m_taken, .ref (r0 10), .ref (r0 11), .ref (r0 12), .int m_many, .ref (r0 13), .ref (r0 14), .ref (r0 15), .ref (r0 16), .ref (r0 17), .ref (r0 18), .ref (r0 19), .ref (r0 20), .ref (r0 21), .ref (r0 22), .int m_due, .ref (r0 23), .ref (r0 24), .ref (r0 25), .ref (r0 26), .ref (r0 27), .ref (r0 28), .ref (r0 29)], aI (r0 2) cI 8 m_scales, aI (r0 3) cI 16 m_steps, aI (r0 22) cI 2304 m_numbers, aJ (r0 24) cJ 64 m_square_87, aJ (r0 25) cJ 64 m_rows_149, aI (r0 26) cI 64 m_added_211, aI (r0 27) cI 8 m_waves] []) H213 := hP213
  have hD213 : va_D A (wf [oB (r0 0) 7 [.int m_thrown, .ref (r0 1), .int m_length, .int m_at, .int m_fault, .int m_hasHeader, .int m_width, .int m_height, .int m_limit, .ref (r0 2), .ref (r0 3), .ref (r0 4), .ref (r0 5), .ref (r0 6), .ref (r0 7), .ref (r0 8), .ref (r0 9), .int m_hasPicture, .int m_frames, .int m_taken, .ref (r0 10), .ref (r0 11), .ref (r0 12), .int m_many, .ref (r0 13), .ref (r0 14), .ref (r0 15), .ref (r0 16), .ref (r0 17), .ref (r0 18), .ref (r0 19), .ref (r0 20), .ref (r0 21), .ref (r0 22), .int m_due, .ref (r0 23), .ref (r0 24), .ref (r0 25), .ref (r0 26), .ref (r0 27), .ref (r0 28), .ref (r0 29)], aI (r0 2) cI 8 m_scales, aI (r0 3) cI 16 m_steps, aI (r0 22) cI 2304 m_numbers, aJ (r0 24) cJ 64 m_square_87, aJ (r0 25) cJ 64 m_rows_149, aI (r0 26) cI 64 m_added_211, aI (r0 27) cI 8 m_waves] []) := hD213
  obtain rfl := Option.some.inj hm212
  rw [hQ]
  exact ct_vret hx hb hr hlk hP213 hD213 hS213 dX7_add_367

def f_X7_before (x1 : Int32) (x2 : Int32) (m_width : Int32) (m_height : Int32) (m_previous : Nat → Int32) : Option (Int32) :=
  bd1 (f_X7_within x2 (0 : Int32) (((8 : Int32) * m_height) - (1 : Int32))) fun y_1 =>
  bd1 (f_X7_within x1 (0 : Int32) (((8 : Int32) * m_width) - (1 : Int32))) fun y_5 =>
  gi (((48 : Int32) * y_1) + y_5) 2304 <|
  some ((m_previous (((48 : Int32) * y_1) + y_5).toNatClampNeg))

abbrev rm_X7_before : Room := { frames := 1, cells := 0, slots := 0, locals := 22 }

theorem cdS_X7_before : yX7_before.cls ≠ "java/lang/invoke/MethodHandle" ∧ yX7_before.cls ≠ "java/lang/invoke/VarHandle" ∧ (parseMethodDescriptor yX7_before.desc).map (fun d => d.parameters.length) = some 2 := by decide +kernel

theorem cdV_X7_before : yX7_before.cls = RX7 ∧ yX7_before.cls ≠ "java/lang/invoke/MethodHandle" ∧ yX7_before.cls ≠ "java/lang/invoke/VarHandle" ∧ (parseMethodDescriptor yX7_before.desc).map (fun d => d.parameters.length) = some 2 := ⟨rfl, cdS_X7_before⟩

theorem hi_X7_before_7 : ∀ w ∈ u_ws RX7 TX7 42, w ∈ wsX7_before := fun _ h => List.mem_cons_of_mem _ (List.mem_append_right _ h)

set_option maxHeartbeats 40000000 in
set_option maxRecDepth 100000 in
theorem c_X7_before (l : Launch) (D : va_G) (cB cI cJ cQ : ClassId) (N : Nat) (r0 : Nat → Nat) (sz : Nat) (x1 : Int32) (x2 : Int32) (m_thrown : Int32) (m_length : Int32) (m_at : Int32) (m_fault : Int32) (m_hasHeader : Int32) (m_width : Int32) (m_height : Int32) (m_limit : Int32) (m_hasPicture : Int32) (m_frames : Int32) (m_taken : Int32) (m_many : Int32) (m_due : Int32) (m_previous : Nat → Int32) (o : Int32) (hm0 : f_X7_before x1 x2 m_width m_height m_previous = some o) : Met l yX7_before wsX7_before rm_X7_before (ctP D cB cI cJ cQ N sz [.ref (r0 0), .int x1, .int x2] (wf [oB (r0 0) 7 [.int m_thrown, .ref (r0 1), .int m_length, .int m_at, .int m_fault, .int m_hasHeader, .int m_width, .int m_height, .int m_limit, .ref (r0 2), .ref (r0 3), .ref (r0 4), .ref (r0 5), .ref (r0 6), .ref (r0 7), .ref (r0 8), .ref (r0 9), .int m_hasPicture, .int m_frames, .int m_taken, .ref (r0 10), .ref (r0 11), .ref (r0 12), .int m_many, .ref (r0 13), .ref (r0 14), .ref (r0 15), .ref (r0 16), .ref (r0 17), .ref (r0 18), .ref (r0 19), .ref (r0 20), .ref (r0 21), .ref (r0 22), .int m_due, .ref (r0 23), .ref (r0 24), .ref (r0 25), .ref (r0 26), .ref (r0 27), .ref (r0 28), .ref (r0 29)], aI (r0 10) cI 2304 m_previous] [])) (ctQi D o (wf [oB (r0 0) 7 [.int m_thrown, .ref (r0 1), .int m_length, .int m_at, .int m_fault, .int m_hasHeader, .int m_width, .int m_height, .int m_limit, .ref (r0 2), .ref (r0 3), .ref (r0 4), .ref (r0 5), .ref (r0 6), .ref (r0 7), .ref (r0 8), .ref (r0 9), .int m_hasPicture, .int m_frames, .int m_taken, .ref (r0 10), .ref (r0 11), .ref (r0 12), .int m_many, .ref (r0 13), .ref (r0 14), .ref (r0 15), .ref (r0 16), .ref (r0 17), .ref (r0 18), .ref (r0 19), .ref (r0 20), .ref (r0 21), .ref (r0 22), .int m_due, .ref (r0 23), .ref (r0 24), .ref (r0 25), .ref (r0 26), .ref (r0 27), .ref (r0 28), .ref (r0 29)], aI (r0 10) cI 2304 m_previous] []) (va_A (wf [oB (r0 0) 7 [.int m_thrown, .ref (r0 1), .int m_length, .int m_at, .int m_fault, .int m_hasHeader, .int m_width, .int m_height, .int m_limit, .ref (r0 2), .ref (r0 3), .ref (r0 4), .ref (r0 5), .ref (r0 6), .ref (r0 7), .ref (r0 8), .ref (r0 9), .int m_hasPicture, .int m_frames, .int m_taken, .ref (r0 10), .ref (r0 11), .ref (r0 12), .int m_many, .ref (r0 13), .ref (r0 14), .ref (r0 15), .ref (r0 16), .ref (r0 17), .ref (r0 18), .ref (r0 19), .ref (r0 20), .ref (r0 21), .ref (r0 22), .int m_due, .ref (r0 23), .ref (r0 24), .ref (r0 25), .ref (r0 26), .ref (r0 27), .ref (r0 28), .ref (r0 29)], aI (r0 10) cI 2304 m_previous] []) sz)) 0 0 (va_A (wf [oB (r0 0) 7 [.int m_thrown, .ref (r0 1), .int m_length, .int m_at, .int m_fault, .int m_hasHeader, .int m_width, .int m_height, .int m_limit, .ref (r0 2), .ref (r0 3), .ref (r0 4), .ref (r0 5), .ref (r0 6), .ref (r0 7), .ref (r0 8), .ref (r0 9), .int m_hasPicture, .int m_frames, .int m_taken, .ref (r0 10), .ref (r0 11), .ref (r0 12), .int m_many, .ref (r0 13), .ref (r0 14), .ref (r0 15), .ref (r0 16), .ref (r0 17), .ref (r0 18), .ref (r0 19), .ref (r0 20), .ref (r0 21), .ref (r0 22), .int m_due, .ref (r0 23), .ref (r0 24), .ref (r0 25), .ref (r0 26), .ref (r0 27), .ref (r0 28), .ref (r0 29)], aI (r0 10) cI 2304 m_previous] []) sz) := by
  refine ct_of (y := yX7_before) (av := [.ref (r0 0), .int x1, .int x2]) (cc := cX7_before) (maxL := 3) (ret := (some .int)) (own := RX7) (Qp := ctQi D o (wf [oB (r0 0) 7 [.int m_thrown, .ref (r0 1), .int m_length, .int m_at, .int m_fault, .int m_hasHeader, .int m_width, .int m_height, .int m_limit, .ref (r0 2), .ref (r0 3), .ref (r0 4), .ref (r0 5), .ref (r0 6), .ref (r0 7), .ref (r0 8), .ref (r0 9), .int m_hasPicture, .int m_frames, .int m_taken, .ref (r0 10), .ref (r0 11), .ref (r0 12), .int m_many, .ref (r0 13), .ref (r0 14), .ref (r0 15), .ref (r0 16), .ref (r0 17), .ref (r0 18), .ref (r0 19), .ref (r0 20), .ref (r0 21), .ref (r0 22), .int m_due, .ref (r0 23), .ref (r0 24), .ref (r0 25), .ref (r0 26), .ref (r0 27), .ref (r0 28), .ref (r0 29)], aI (r0 10) cI 2304 m_previous] [])) (by decide) rfl rfl (Nat.le_of_ble_eq_true rfl) ?_
  intro p e s m args below meth c A hx hb hr hml hown hts hlk hnm hsz hAe E hP0 hD0 hS0 ls0 hl0
  subst hsz
  have hl0 : lv_has ls0 3 [(0, .ref (r0 0)), (1, .int x1), (2, .int x2)] := hl0
  obtain ⟨QQ, hQ⟩ : ∃ Q : State → Prop, Q = MQ below (ctQi D o (wf [oB (r0 0) 7 [.int m_thrown, .ref (r0 1), .int m_length, .int m_at, .int m_fault, .int m_hasHeader, .int m_width, .int m_height, .int m_limit, .ref (r0 2), .ref (r0 3), .ref (r0 4), .ref (r0 5), .ref (r0 6), .ref (r0 7), .ref (r0 8), .ref (r0 9), .int m_hasPicture, .int m_frames, .int m_taken, .ref (r0 10), .ref (r0 11), .ref (r0 12), .int m_many, .ref (r0 13), .ref (r0 14), .ref (r0 15), .ref (r0 16), .ref (r0 17), .ref (r0 18), .ref (r0 19), .ref (r0 20), .ref (r0 21), .ref (r0 22), .int m_due, .ref (r0 23), .ref (r0 24), .ref (r0 25), .ref (r0 26), .ref (r0 27), .ref (r0 28), .ref (r0 29)], aI (r0 10) cI 2304 m_previous] []) A) args s 0 0 A := ⟨_, rfl⟩
  rw [← hQ]
  unfold f_X7_before at hm0
  refine lv_aload_n hx hb dX7_before_0 rfl (lv_at hl0 0 rfl) ?_
  refine va_get (D := D) (ci := 7) (v := .ref (r0 10)) (C := RX7) (T := TX7) (N := 42) hx hb hts hi_X7_before_7 hown E.1 hP0 0 rfl rfl 20 (by decide) (hts _ (List.mem_of_getElem? (i := 1) rfl)) (fun _ h9 => h9) rfl dX7_before_1 ?_
  refine lv_bipush (v := 48) hx hb dX7_before_4 (by decide) ?_
  refine lv_iload_n hx hb dX7_before_6 rfl (lv_at hl0 2 rfl) ?_
  refine lv_iconst (v := 0) hx hb dX7_before_7 (by decide) ?_
  refine lv_bipush (v := 8) hx hb dX7_before_8 (by decide) ?_
  refine lv_aload_n hx hb dX7_before_10 rfl (lv_at hl0 0 rfl) ?_
  refine va_get (D := D) (ci := 7) (v := .int m_height) (C := RX7) (T := TX7) (N := 42) hx hb hts hi_X7_before_7 hown E.1 hP0 0 rfl rfl 7 (by decide) (hts _ (List.mem_of_getElem? (i := 2) rfl)) (fun _ h9 => h9) rfl dX7_before_11 ?_
  refine lv_imul hx hb dX7_before_14 ?_
  refine lv_iconst (v := 1) hx hb dX7_before_15 (by decide) ?_
  refine lv_isub hx hb dX7_before_16 ?_
  obtain ⟨y_1, hcl2, hm2⟩ := bd1_some hm0; clear hm0
  have sb3 := ctS.mk (n := 2) (k := 0) (pre := [oB (r0 0) 7 [.int m_thrown, .ref (r0 1), .int m_length, .int m_at, .int m_fault, .int m_hasHeader, .int m_width, .int m_height, .int m_limit, .ref (r0 2), .ref (r0 3), .ref (r0 4), .ref (r0 5), .ref (r0 6), .ref (r0 7), .ref (r0 8), .ref (r0 9), .int m_hasPicture, .int m_frames, .int m_taken, .ref (r0 10), .ref (r0 11), .ref (r0 12), .int m_many, .ref (r0 13), .ref (r0 14), .ref (r0 15), .ref (r0 16), .ref (r0 17), .ref (r0 18), .ref (r0 19), .ref (r0 20), .ref (r0 21), .ref (r0 22), .int m_due, .ref (r0 23), .ref (r0 24), .ref (r0 25), .ref (r0 26), .ref (r0 27), .ref (r0 28), .ref (r0 29)], aI (r0 10) cI 2304 m_previous]) (tl := []) [] [0, 1] [] [] rfl rfl (by decide +kernel) (by decide +kernel)
  refine ct_calli (r := y_1) E sb3 hP0 hD0 hS0 (va_runS (As := [.int x2, .int (0 : Int32), .int (((8 : Int32) * m_height) - (1 : Int32))]) (rest := [.int (48 : Int32), .ref (r0 10)]) ⟨hx, hb, hml, hown, hts⟩ (c_X7_within l D cB cI cJ cQ N s.heap.size x2 (0 : Int32) (((8 : Int32) * m_height) - (1 : Int32)) (y_1) hcl2) (va_cwS 3 hts gX7_before_X7_within rfl rfl rfl cdS_X7_within ⟨Nat.le_of_ble_eq_true rfl, Nat.le_of_ble_eq_true rfl⟩) (ct_preS E sb3 hP0 hD0 hS0) rfl rfl hl0.1 rfl (lv_room (Nat.le_of_ble_eq_true rfl)) dX7_before_17 ⟨Nat.zero_le _, Nat.zero_le _⟩) (fun H4 lc4 hP4 hD4 hS4 => ?_); clear sb3 hcl2
  clear hP0 hD0 hS0
  have hP4 : va_P D vwCl (wf [oB (r0 0) 7 [.int m_thrown, .ref (r0 1), .int m_length, .int m_at, .int m_fault, .int m_hasHeader, .int m_width, .int m_height, .int m_limit, .ref (r0 2), .ref (r0 3), .ref (r0 4), .ref (r0 5), .ref (r0 6), .ref (r0 7), .ref (r0 8), .ref (r0 9), .int m_hasPicture, .int m_frames, .int m_taken, .ref (r0 10), .ref (r0 11), .ref (r0 12), .int m_many, .ref (r0 13), .ref (r0 14), .ref (r0 15), .ref (r0 16), .ref (r0 17), .ref (r0 18), .ref (r0 19), .ref (r0 20), .ref (r0 21), .ref (r0 22), .int m_due, .ref (r0 23), .ref (r0 24), .ref (r0 25), .ref (r0 26), .ref (r0 27), .ref (r0 28), .ref (r0 29)], aI (r0 10) cI 2304 m_previous] []) H4 := hP4
  have hD4 : va_D A (wf [oB (r0 0) 7 [.int m_thrown, .ref (r0 1), .int m_length, .int m_at, .int m_fault, .int m_hasHeader, .int m_width, .int m_height, .int m_limit, .ref (r0 2), .ref (r0 3), .ref (r0 4), .ref (r0 5), .ref (r0 6), .ref (r0 7), .ref (r0 8), .ref (r0 9), .int m_hasPicture, .int m_frames, .int m_taken, .ref (r0 10), .ref (r0 11), .ref (r0 12), .int m_many, .ref (r0 13), .ref (r0 14), .ref (r0 15), .ref (r0 16), .ref (r0 17), .ref (r0 18), .ref (r0 19), .ref (r0 20), .ref (r0 21), .ref (r0 22), .int m_due, .ref (r0 23), .ref (r0 24), .ref (r0 25), .ref (r0 26), .ref (r0 27), .ref (r0 28), .ref (r0 29)], aI (r0 10) cI 2304 m_previous] []) := hD4
  refine lv_imul hx hb dX7_before_20 ?_
  refine lv_iload_n hx hb dX7_before_21 rfl (lv_at hl0 1 rfl) ?_
  refine lv_iconst (v := 0) hx hb dX7_before_22 (by decide) ?_
  refine lv_bipush (v := 8) hx hb dX7_before_23 (by decide) ?_
  refine lv_aload_n hx hb dX7_before_25 rfl (lv_at hl0 0 rfl) ?_
  refine va_get (D := D) (ci := 7) (v := .int m_width) (C := RX7) (T := TX7) (N := 42) hx hb hts hi_X7_before_7 hown E.1 hP4 0 rfl rfl 6 (by decide) (hts _ (List.mem_of_getElem? (i := 3) rfl)) (fun _ h9 => h9) rfl dX7_before_26 ?_
  refine lv_imul hx hb dX7_before_29 ?_
  refine lv_iconst (v := 1) hx hb dX7_before_30 (by decide) ?_
  refine lv_isub hx hb dX7_before_31 ?_
  obtain ⟨y_5, hcl6, hm6⟩ := bd1_some hm2; clear hm2
  have sb7 := ctS.mk (n := 2) (k := 0) (pre := [oB (r0 0) 7 [.int m_thrown, .ref (r0 1), .int m_length, .int m_at, .int m_fault, .int m_hasHeader, .int m_width, .int m_height, .int m_limit, .ref (r0 2), .ref (r0 3), .ref (r0 4), .ref (r0 5), .ref (r0 6), .ref (r0 7), .ref (r0 8), .ref (r0 9), .int m_hasPicture, .int m_frames, .int m_taken, .ref (r0 10), .ref (r0 11), .ref (r0 12), .int m_many, .ref (r0 13), .ref (r0 14), .ref (r0 15), .ref (r0 16), .ref (r0 17), .ref (r0 18), .ref (r0 19), .ref (r0 20), .ref (r0 21), .ref (r0 22), .int m_due, .ref (r0 23), .ref (r0 24), .ref (r0 25), .ref (r0 26), .ref (r0 27), .ref (r0 28), .ref (r0 29)], aI (r0 10) cI 2304 m_previous]) (tl := []) [] [0, 1] [] [] rfl rfl (by decide +kernel) (by decide +kernel)
  refine ct_calli (r := y_5) E sb7 hP4 hD4 hS4 (va_runS (As := [.int x1, .int (0 : Int32), .int (((8 : Int32) * m_width) - (1 : Int32))]) (rest := [.int ((48 : Int32) * y_1), .ref (r0 10)]) ⟨hx, hb, hml, hown, hts⟩ (c_X7_within l D cB cI cJ cQ N H4.size x1 (0 : Int32) (((8 : Int32) * m_width) - (1 : Int32)) (y_5) hcl6) (va_cwS 3 hts gX7_before_X7_within rfl rfl rfl cdS_X7_within ⟨Nat.le_of_ble_eq_true rfl, Nat.le_of_ble_eq_true rfl⟩) (ct_preS E sb7 hP4 hD4 hS4) rfl rfl hl0.1 rfl (lv_room (Nat.le_of_ble_eq_true rfl)) dX7_before_32 ⟨Nat.zero_le _, Nat.zero_le _⟩) (fun H8 lc8 hP8 hD8 hS8 => ?_); clear sb7 hcl6
  clear hP4 hD4 hS4
  have hP8 : va_P D vwCl (wf [oB (r0 0) 7 [.int m_thrown, .ref (r0 1), .int m_length, .int m_at, .int m_fault, .int m_hasHeader, .int m_width, .int m_height, .int m_limit, .ref (r0 2), .ref (r0 3), .ref (r0 4), .ref (r0 5), .ref (r0 6), .ref (r0 7), .ref (r0 8), .ref (r0 9), .int m_hasPicture, .int m_frames, .int m_taken, .ref (r0 10), .ref (r0 11), .ref (r0 12), .int m_many, .ref (r0 13), .ref (r0 14), .ref (r0 15), .ref (r0 16), .ref (r0 17), .ref (r0 18), .ref (r0 19), .ref (r0 20), .ref (r0 21), .ref (r0 22), .int m_due, .ref (r0 23), .ref (r0 24), .ref (r0 25), .ref (r0 26), .ref (r0 27), .ref (r0 28), .ref (r0 29)], aI (r0 10) cI 2304 m_previous] []) H8 := hP8
  have hD8 : va_D A (wf [oB (r0 0) 7 [.int m_thrown, .ref (r0 1), .int m_length, .int m_at, .int m_fault, .int m_hasHeader, .int m_width, .int m_height, .int m_limit, .ref (r0 2), .ref (r0 3), .ref (r0 4), .ref (r0 5), .ref (r0 6), .ref (r0 7), .ref (r0 8), .ref (r0 9), .int m_hasPicture, .int m_frames, .int m_taken, .ref (r0 10), .ref (r0 11), .ref (r0 12), .int m_many, .ref (r0 13), .ref (r0 14), .ref (r0 15), .ref (r0 16), .ref (r0 17), .ref (r0 18), .ref (r0 19), .ref (r0 20), .ref (r0 21), .ref (r0 22), .int m_due, .ref (r0 23), .ref (r0 24), .ref (r0 25), .ref (r0 26), .ref (r0 27), .ref (r0 28), .ref (r0 29)], aI (r0 10) cI 2304 m_previous] []) := hD8
  refine lv_iadd hx hb dX7_before_35 ?_
  obtain ⟨hin9, hm9⟩ := gi_some hm6; clear hm6
  refine va_iald hx hb E.1 hP8 1 0 rfl rfl hin9 dX7_before_36 ?_
  obtain rfl := Option.some.inj hm9
  rw [hQ]
  exact ct_iret hx hb hr hlk hP8 hD8 hS8 rfl dX7_before_37

def f_X7_base (x1 : Int32) (x2 : Int32) (x3 : Int32) (m_width : Int32) (m_height : Int32) (m_previous : Nat → Int32) (m_golden : Nat → Int32) (m_newModes : Nat → Int32) (m_newAcross : Nat → Int32) (m_newDown : Nat → Int32) : Option (Int32) :=
  gi x1 36 <|
  (if (m_newModes x1.toNatClampNeg) = (2 : Int32) then
  (some ((128 : Int32)))
  else
  (gi x1 36 <|
  (if (m_newModes x1.toNatClampNeg) = (4 : Int32) then
  (gi (((48 : Int32) * x3) + x2) 2304 <|
  some ((m_golden (((48 : Int32) * x3) + x2).toNatClampNeg)))
  else
  (gi x1 36 <|
  nm ((m_newAcross x1.toNatClampNeg) : Int32) fun v4_8 =>
  gi x1 36 <|
  nm ((m_newDown x1.toNatClampNeg) : Int32) fun v5_12 =>
  bd1 (f_X7_before (x2 + (v4_8 >>> ((1 : Int32) &&& (31 : Int32)))) (x3 + (v5_12 >>> ((1 : Int32) &&& (31 : Int32)))) m_width m_height m_previous) fun y_15 =>
  bd1 (f_X7_before (x2 + ((v4_8 + (1 : Int32)) >>> ((1 : Int32) &&& (31 : Int32)))) (x3 + ((v5_12 + (1 : Int32)) >>> ((1 : Int32) &&& (31 : Int32)))) m_width m_height m_previous) fun y_19 =>
  some (((y_15 + y_19) / (2 : Int32)))))))

abbrev rm_X7_base : Room := { frames := 2, cells := 0, slots := 0, locals := 44 }

theorem cdS_X7_base : yX7_base.cls ≠ "java/lang/invoke/MethodHandle" ∧ yX7_base.cls ≠ "java/lang/invoke/VarHandle" ∧ (parseMethodDescriptor yX7_base.desc).map (fun d => d.parameters.length) = some 3 := by decide +kernel

theorem cdV_X7_base : yX7_base.cls = RX7 ∧ yX7_base.cls ≠ "java/lang/invoke/MethodHandle" ∧ yX7_base.cls ≠ "java/lang/invoke/VarHandle" ∧ (parseMethodDescriptor yX7_base.desc).map (fun d => d.parameters.length) = some 3 := ⟨rfl, cdS_X7_base⟩

theorem hi_X7_base_7 : ∀ w ∈ u_ws RX7 TX7 42, w ∈ wsX7_base := fun _ h => List.mem_cons_of_mem _ (List.mem_append_right _ h)

set_option maxHeartbeats 40000000 in
set_option maxRecDepth 100000 in
theorem c_X7_base (l : Launch) (D : va_G) (cB cI cJ cQ : ClassId) (N : Nat) (r0 : Nat → Nat) (sz : Nat) (x1 : Int32) (x2 : Int32) (x3 : Int32) (m_thrown : Int32) (m_length : Int32) (m_at : Int32) (m_fault : Int32) (m_hasHeader : Int32) (m_width : Int32) (m_height : Int32) (m_limit : Int32) (m_hasPicture : Int32) (m_frames : Int32) (m_taken : Int32) (m_many : Int32) (m_due : Int32) (m_previous : Nat → Int32) (m_golden : Nat → Int32) (m_newModes : Nat → Int32) (m_newAcross : Nat → Int32) (m_newDown : Nat → Int32) (o : Int32) (hm0 : f_X7_base x1 x2 x3 m_width m_height m_previous m_golden m_newModes m_newAcross m_newDown = some o) : Met l yX7_base wsX7_base rm_X7_base (ctP D cB cI cJ cQ N sz [.ref (r0 0), .int x1, .int x2, .int x3] (wf [oB (r0 0) 7 [.int m_thrown, .ref (r0 1), .int m_length, .int m_at, .int m_fault, .int m_hasHeader, .int m_width, .int m_height, .int m_limit, .ref (r0 2), .ref (r0 3), .ref (r0 4), .ref (r0 5), .ref (r0 6), .ref (r0 7), .ref (r0 8), .ref (r0 9), .int m_hasPicture, .int m_frames, .int m_taken, .ref (r0 10), .ref (r0 11), .ref (r0 12), .int m_many, .ref (r0 13), .ref (r0 14), .ref (r0 15), .ref (r0 16), .ref (r0 17), .ref (r0 18), .ref (r0 19), .ref (r0 20), .ref (r0 21), .ref (r0 22), .int m_due, .ref (r0 23), .ref (r0 24), .ref (r0 25), .ref (r0 26), .ref (r0 27), .ref (r0 28), .ref (r0 29)], aI (r0 10) cI 2304 m_previous, aI (r0 11) cI 2304 m_golden, aI (r0 18) cI 36 m_newModes, aI (r0 19) cI 36 m_newAcross, aI (r0 20) cI 36 m_newDown] [])) (ctQi D o (wf [oB (r0 0) 7 [.int m_thrown, .ref (r0 1), .int m_length, .int m_at, .int m_fault, .int m_hasHeader, .int m_width, .int m_height, .int m_limit, .ref (r0 2), .ref (r0 3), .ref (r0 4), .ref (r0 5), .ref (r0 6), .ref (r0 7), .ref (r0 8), .ref (r0 9), .int m_hasPicture, .int m_frames, .int m_taken, .ref (r0 10), .ref (r0 11), .ref (r0 12), .int m_many, .ref (r0 13), .ref (r0 14), .ref (r0 15), .ref (r0 16), .ref (r0 17), .ref (r0 18), .ref (r0 19), .ref (r0 20), .ref (r0 21), .ref (r0 22), .int m_due, .ref (r0 23), .ref (r0 24), .ref (r0 25), .ref (r0 26), .ref (r0 27), .ref (r0 28), .ref (r0 29)], aI (r0 10) cI 2304 m_previous, aI (r0 11) cI 2304 m_golden, aI (r0 18) cI 36 m_newModes, aI (r0 19) cI 36 m_newAcross, aI (r0 20) cI 36 m_newDown] []) (va_A (wf [oB (r0 0) 7 [.int m_thrown, .ref (r0 1), .int m_length, .int m_at, .int m_fault, .int m_hasHeader, .int m_width, .int m_height, .int m_limit, .ref (r0 2), .ref (r0 3), .ref (r0 4), .ref (r0 5), .ref (r0 6), .ref (r0 7), .ref (r0 8), .ref (r0 9), .int m_hasPicture, .int m_frames, .int m_taken, .ref (r0 10), .ref (r0 11), .ref (r0 12), .int m_many, .ref (r0 13), .ref (r0 14), .ref (r0 15), .ref (r0 16), .ref (r0 17), .ref (r0 18), .ref (r0 19), .ref (r0 20), .ref (r0 21), .ref (r0 22), .int m_due, .ref (r0 23), .ref (r0 24), .ref (r0 25), .ref (r0 26), .ref (r0 27), .ref (r0 28), .ref (r0 29)], aI (r0 10) cI 2304 m_previous, aI (r0 11) cI 2304 m_golden, aI (r0 18) cI 36 m_newModes, aI (r0 19) cI 36 m_newAcross, aI (r0 20) cI 36 m_newDown] []) sz)) 0 0 (va_A (wf [oB (r0 0) 7 [.int m_thrown, .ref (r0 1), .int m_length, .int m_at, .int m_fault, .int m_hasHeader, .int m_width, .int m_height, .int m_limit, .ref (r0 2), .ref (r0 3), .ref (r0 4), .ref (r0 5), .ref (r0 6), .ref (r0 7), .ref (r0 8), .ref (r0 9), .int m_hasPicture, .int m_frames, .int m_taken, .ref (r0 10), .ref (r0 11), .ref (r0 12), .int m_many, .ref (r0 13), .ref (r0 14), .ref (r0 15), .ref (r0 16), .ref (r0 17), .ref (r0 18), .ref (r0 19), .ref (r0 20), .ref (r0 21), .ref (r0 22), .int m_due, .ref (r0 23), .ref (r0 24), .ref (r0 25), .ref (r0 26), .ref (r0 27), .ref (r0 28), .ref (r0 29)], aI (r0 10) cI 2304 m_previous, aI (r0 11) cI 2304 m_golden, aI (r0 18) cI 36 m_newModes, aI (r0 19) cI 36 m_newAcross, aI (r0 20) cI 36 m_newDown] []) sz) := by
  refine ct_of (y := yX7_base) (av := [.ref (r0 0), .int x1, .int x2, .int x3]) (cc := cX7_base) (maxL := 6) (ret := (some .int)) (own := RX7) (Qp := ctQi D o (wf [oB (r0 0) 7 [.int m_thrown, .ref (r0 1), .int m_length, .int m_at, .int m_fault, .int m_hasHeader, .int m_width, .int m_height, .int m_limit, .ref (r0 2), .ref (r0 3), .ref (r0 4), .ref (r0 5), .ref (r0 6), .ref (r0 7), .ref (r0 8), .ref (r0 9), .int m_hasPicture, .int m_frames, .int m_taken, .ref (r0 10), .ref (r0 11), .ref (r0 12), .int m_many, .ref (r0 13), .ref (r0 14), .ref (r0 15), .ref (r0 16), .ref (r0 17), .ref (r0 18), .ref (r0 19), .ref (r0 20), .ref (r0 21), .ref (r0 22), .int m_due, .ref (r0 23), .ref (r0 24), .ref (r0 25), .ref (r0 26), .ref (r0 27), .ref (r0 28), .ref (r0 29)], aI (r0 10) cI 2304 m_previous, aI (r0 11) cI 2304 m_golden, aI (r0 18) cI 36 m_newModes, aI (r0 19) cI 36 m_newAcross, aI (r0 20) cI 36 m_newDown] [])) (by decide) rfl rfl (Nat.le_of_ble_eq_true rfl) ?_
  intro p e s m args below meth c A hx hb hr hml hown hts hlk hnm hsz hAe E hP0 hD0 hS0 ls0 hl0
  subst hsz
  have hl0 : lv_has ls0 6 [(0, .ref (r0 0)), (1, .int x1), (2, .int x2), (3, .int x3)] := hl0
  obtain ⟨QQ, hQ⟩ : ∃ Q : State → Prop, Q = MQ below (ctQi D o (wf [oB (r0 0) 7 [.int m_thrown, .ref (r0 1), .int m_length, .int m_at, .int m_fault, .int m_hasHeader, .int m_width, .int m_height, .int m_limit, .ref (r0 2), .ref (r0 3), .ref (r0 4), .ref (r0 5), .ref (r0 6), .ref (r0 7), .ref (r0 8), .ref (r0 9), .int m_hasPicture, .int m_frames, .int m_taken, .ref (r0 10), .ref (r0 11), .ref (r0 12), .int m_many, .ref (r0 13), .ref (r0 14), .ref (r0 15), .ref (r0 16), .ref (r0 17), .ref (r0 18), .ref (r0 19), .ref (r0 20), .ref (r0 21), .ref (r0 22), .int m_due, .ref (r0 23), .ref (r0 24), .ref (r0 25), .ref (r0 26), .ref (r0 27), .ref (r0 28), .ref (r0 29)], aI (r0 10) cI 2304 m_previous, aI (r0 11) cI 2304 m_golden, aI (r0 18) cI 36 m_newModes, aI (r0 19) cI 36 m_newAcross, aI (r0 20) cI 36 m_newDown] []) A) args s 0 0 A := ⟨_, rfl⟩
  rw [← hQ]
  unfold f_X7_base at hm0
  refine lv_aload_n hx hb dX7_base_0 rfl (lv_at hl0 0 rfl) ?_
  refine va_get (D := D) (ci := 7) (v := .ref (r0 18)) (C := RX7) (T := TX7) (N := 42) hx hb hts hi_X7_base_7 hown E.1 hP0 0 rfl rfl 29 (by decide) (hts _ (List.mem_of_getElem? (i := 1) rfl)) (fun _ h9 => h9) rfl dX7_base_1 ?_
  refine lv_iload_n hx hb dX7_base_4 rfl (lv_at hl0 1 rfl) ?_
  obtain ⟨hin1, hm1⟩ := gi_some hm0; clear hm0
  refine va_iald hx hb E.1 hP0 3 0 rfl rfl hin1 dX7_base_5 ?_
  refine lv_iconst (v := 2) hx hb dX7_base_6 (by decide) ?_
  refine lv_icmp_ne (tgt := 14) hx hb dX7_base_7 (by decide) (fun hc2 => ?_) (fun hc2 => ?_)
  · have hm3 := bq_f hm1 hc2; clear hm1
    refine lv_aload_n hx hb dX7_base_14 rfl (lv_at hl0 0 rfl) ?_
    refine va_get (D := D) (ci := 7) (v := .ref (r0 18)) (C := RX7) (T := TX7) (N := 42) hx hb hts hi_X7_base_7 hown E.1 hP0 0 rfl rfl 29 (by decide) (hts _ (List.mem_of_getElem? (i := 1) rfl)) (fun _ h9 => h9) rfl dX7_base_15 ?_
    refine lv_iload_n hx hb dX7_base_18 rfl (lv_at hl0 1 rfl) ?_
    obtain ⟨hin4, hm4⟩ := gi_some hm3; clear hm3
    refine va_iald hx hb E.1 hP0 3 0 rfl rfl hin4 dX7_base_19 ?_
    refine lv_iconst (v := 4) hx hb dX7_base_20 (by decide) ?_
    refine lv_icmp_ne (tgt := 36) hx hb dX7_base_21 (by decide) (fun hc5 => ?_) (fun hc5 => ?_)
    · have hm6 := bq_f hm4 hc5; clear hm4
      refine lv_aload_n hx hb dX7_base_36 rfl (lv_at hl0 0 rfl) ?_
      refine va_get (D := D) (ci := 7) (v := .ref (r0 19)) (C := RX7) (T := TX7) (N := 42) hx hb hts hi_X7_base_7 hown E.1 hP0 0 rfl rfl 30 (by decide) (hts _ (List.mem_of_getElem? (i := 3) rfl)) (fun _ h9 => h9) rfl dX7_base_37 ?_
      refine lv_iload_n hx hb dX7_base_40 rfl (lv_at hl0 1 rfl) ?_
      obtain ⟨hin7, hm7⟩ := gi_some hm6; clear hm6
      refine va_iald hx hb E.1 hP0 4 0 rfl rfl hin7 dX7_base_41 ?_
      obtain ⟨v4_8, ev4_8, hm9⟩ := nm_some hm7; clear hm7
      refine ct_topi ev4_8 ?_
      refine lv_istore (lv' := [(4, .int v4_8), (0, .ref (r0 0)), (1, .int x1), (2, .int x2), (3, .int x3)]) hx hb dX7_base_42 hl0 (by decide) rfl (fun ls10 hl10 => ?_); clear hl0
      refine lv_aload_n hx hb dX7_base_44 rfl (lv_at hl10 1 rfl) ?_
      refine va_get (D := D) (ci := 7) (v := .ref (r0 20)) (C := RX7) (T := TX7) (N := 42) hx hb hts hi_X7_base_7 hown E.1 hP0 0 rfl rfl 31 (by decide) (hts _ (List.mem_of_getElem? (i := 4) rfl)) (fun _ h9 => h9) rfl dX7_base_45 ?_
      refine lv_iload_n hx hb dX7_base_48 rfl (lv_at hl10 2 rfl) ?_
      obtain ⟨hin11, hm11⟩ := gi_some hm9; clear hm9
      refine va_iald hx hb E.1 hP0 5 0 rfl rfl hin11 dX7_base_49 ?_
      obtain ⟨v5_12, ev5_12, hm13⟩ := nm_some hm11; clear hm11
      refine ct_topi ev5_12 ?_
      refine lv_istore (lv' := [(5, .int v5_12), (4, .int v4_8), (0, .ref (r0 0)), (1, .int x1), (2, .int x2), (3, .int x3)]) hx hb dX7_base_50 hl10 (by decide) rfl (fun ls14 hl14 => ?_); clear hl10
      refine lv_aload_n hx hb dX7_base_52 rfl (lv_at hl14 2 rfl) ?_
      refine lv_iload_n hx hb dX7_base_53 rfl (lv_at hl14 4 rfl) ?_
      refine lv_iload hx hb dX7_base_54 (lv_at hl14 1 rfl) ?_
      refine lv_iconst (v := 1) hx hb dX7_base_56 (by decide) ?_
      refine lv_ishr hx hb dX7_base_57 ?_
      refine lv_iadd hx hb dX7_base_58 ?_
      refine lv_iload_n hx hb dX7_base_59 rfl (lv_at hl14 5 rfl) ?_
      refine lv_iload hx hb dX7_base_60 (lv_at hl14 0 rfl) ?_
      refine lv_iconst (v := 1) hx hb dX7_base_62 (by decide) ?_
      refine lv_ishr hx hb dX7_base_63 ?_
      refine lv_iadd hx hb dX7_base_64 ?_
      obtain ⟨y_15, hcl16, hm16⟩ := bd1_some hm13; clear hm13
      have sb17 := ctS.mk (n := 6) (k := 0) (pre := [oB (r0 0) 7 [.int m_thrown, .ref (r0 1), .int m_length, .int m_at, .int m_fault, .int m_hasHeader, .int m_width, .int m_height, .int m_limit, .ref (r0 2), .ref (r0 3), .ref (r0 4), .ref (r0 5), .ref (r0 6), .ref (r0 7), .ref (r0 8), .ref (r0 9), .int m_hasPicture, .int m_frames, .int m_taken, .ref (r0 10), .ref (r0 11), .ref (r0 12), .int m_many, .ref (r0 13), .ref (r0 14), .ref (r0 15), .ref (r0 16), .ref (r0 17), .ref (r0 18), .ref (r0 19), .ref (r0 20), .ref (r0 21), .ref (r0 22), .int m_due, .ref (r0 23), .ref (r0 24), .ref (r0 25), .ref (r0 26), .ref (r0 27), .ref (r0 28), .ref (r0 29)], aI (r0 10) cI 2304 m_previous, aI (r0 11) cI 2304 m_golden, aI (r0 18) cI 36 m_newModes, aI (r0 19) cI 36 m_newAcross, aI (r0 20) cI 36 m_newDown]) (tl := []) [0, 1] [2, 3, 4, 5] [] [] rfl rfl (by decide +kernel) (by decide +kernel)
      refine ct_calli (r := y_15) E sb17 hP0 hD0 hS0 (va_runV (As := [.int (x2 + (v4_8 >>> ((1 : Int32) &&& (31 : Int32)))), .int (x3 + (v5_12 >>> ((1 : Int32) &&& (31 : Int32))))]) (rest := []) ⟨hx, hb, hml, hown, hts⟩ (c_X7_before l D cB cI cJ cQ N r0 s.heap.size (x2 + (v4_8 >>> ((1 : Int32) &&& (31 : Int32)))) (x3 + (v5_12 >>> ((1 : Int32) &&& (31 : Int32)))) m_thrown m_length m_at m_fault m_hasHeader m_width m_height m_limit m_hasPicture m_frames m_taken m_many m_due m_previous (y_15) hcl16) (cwV 2 hts gX7_base_X7_before rfl rfl rfl cdV_X7_before ⟨Nat.le_of_ble_eq_true rfl, Nat.le_of_ble_eq_true rfl⟩) (ct_preV (q0 := 0) (ci := 7) E sb17 hP0 hD0 hS0 rfl rfl) rfl rfl hl14.1 rfl (lv_room (Nat.le_of_ble_eq_true rfl)) dX7_base_65 ⟨Nat.zero_le _, Nat.zero_le _⟩) (fun H18 lc18 hP18 hD18 hS18 => ?_); clear sb17 hcl16
      clear hP0 hD0 hS0
      have hP18 : va_P D vwCl (wf [aI (r0 11) cI 2304 m_golden, aI (r0 18) cI 36 m_newModes, aI (r0 19) cI 36 m_newAcross, aI (r0 20) cI 36 m_newDown, oB (r0 0) 7 [.int m_thrown, .ref (r0 1), .int m_length, .int m_at, .int m_fault, .int m_hasHeader, .int m_width, .int m_height, .int m_limit, .ref (r0 2), .ref (r0 3), .ref (r0 4), .ref (r0 5), .ref (r0 6), .ref (r0 7), .ref (r0 8), .ref (r0 9), .int m_hasPicture, .int m_frames, .int m_taken, .ref (r0 10), .ref (r0 11), .ref (r0 12), .int m_many, .ref (r0 13), .ref (r0 14), .ref (r0 15), .ref (r0 16), .ref (r0 17), .ref (r0 18), .ref (r0 19), .ref (r0 20), .ref (r0 21), .ref (r0 22), .int m_due, .ref (r0 23), .ref (r0 24), .ref (r0 25), .ref (r0 26), .ref (r0 27), .ref (r0 28), .ref (r0 29)], aI (r0 10) cI 2304 m_previous] []) H18 := hP18
      have hD18 : va_D A (wf [aI (r0 11) cI 2304 m_golden, aI (r0 18) cI 36 m_newModes, aI (r0 19) cI 36 m_newAcross, aI (r0 20) cI 36 m_newDown, oB (r0 0) 7 [.int m_thrown, .ref (r0 1), .int m_length, .int m_at, .int m_fault, .int m_hasHeader, .int m_width, .int m_height, .int m_limit, .ref (r0 2), .ref (r0 3), .ref (r0 4), .ref (r0 5), .ref (r0 6), .ref (r0 7), .ref (r0 8), .ref (r0 9), .int m_hasPicture, .int m_frames, .int m_taken, .ref (r0 10), .ref (r0 11), .ref (r0 12), .int m_many, .ref (r0 13), .ref (r0 14), .ref (r0 15), .ref (r0 16), .ref (r0 17), .ref (r0 18), .ref (r0 19), .ref (r0 20), .ref (r0 21), .ref (r0 22), .int m_due, .ref (r0 23), .ref (r0 24), .ref (r0 25), .ref (r0 26), .ref (r0 27), .ref (r0 28), .ref (r0 29)], aI (r0 10) cI 2304 m_previous] []) := hD18
      refine lv_aload_n hx hb dX7_base_68 rfl (lv_at hl14 2 rfl) ?_
      refine lv_iload_n hx hb dX7_base_69 rfl (lv_at hl14 4 rfl) ?_
      refine lv_iload hx hb dX7_base_70 (lv_at hl14 1 rfl) ?_
      refine lv_iconst (v := 1) hx hb dX7_base_72 (by decide) ?_
      refine lv_iadd hx hb dX7_base_73 ?_
      refine lv_iconst (v := 1) hx hb dX7_base_74 (by decide) ?_
      refine lv_ishr hx hb dX7_base_75 ?_
      refine lv_iadd hx hb dX7_base_76 ?_
      refine lv_iload_n hx hb dX7_base_77 rfl (lv_at hl14 5 rfl) ?_
      refine lv_iload hx hb dX7_base_78 (lv_at hl14 0 rfl) ?_
      refine lv_iconst (v := 1) hx hb dX7_base_80 (by decide) ?_
      refine lv_iadd hx hb dX7_base_81 ?_
      refine lv_iconst (v := 1) hx hb dX7_base_82 (by decide) ?_
      refine lv_ishr hx hb dX7_base_83 ?_
      refine lv_iadd hx hb dX7_base_84 ?_
      obtain ⟨y_19, hcl20, hm20⟩ := bd1_some hm16; clear hm16
      have sb21 := ctS.mk (n := 6) (k := 0) (pre := [aI (r0 11) cI 2304 m_golden, aI (r0 18) cI 36 m_newModes, aI (r0 19) cI 36 m_newAcross, aI (r0 20) cI 36 m_newDown, oB (r0 0) 7 [.int m_thrown, .ref (r0 1), .int m_length, .int m_at, .int m_fault, .int m_hasHeader, .int m_width, .int m_height, .int m_limit, .ref (r0 2), .ref (r0 3), .ref (r0 4), .ref (r0 5), .ref (r0 6), .ref (r0 7), .ref (r0 8), .ref (r0 9), .int m_hasPicture, .int m_frames, .int m_taken, .ref (r0 10), .ref (r0 11), .ref (r0 12), .int m_many, .ref (r0 13), .ref (r0 14), .ref (r0 15), .ref (r0 16), .ref (r0 17), .ref (r0 18), .ref (r0 19), .ref (r0 20), .ref (r0 21), .ref (r0 22), .int m_due, .ref (r0 23), .ref (r0 24), .ref (r0 25), .ref (r0 26), .ref (r0 27), .ref (r0 28), .ref (r0 29)], aI (r0 10) cI 2304 m_previous]) (tl := []) [4, 5] [0, 1, 2, 3] [] [] rfl rfl (by decide +kernel) (by decide +kernel)
      refine ct_calli (r := y_19) E sb21 hP18 hD18 hS18 (va_runV (As := [.int (x2 + ((v4_8 + (1 : Int32)) >>> ((1 : Int32) &&& (31 : Int32)))), .int (x3 + ((v5_12 + (1 : Int32)) >>> ((1 : Int32) &&& (31 : Int32))))]) (rest := [.int y_15]) ⟨hx, hb, hml, hown, hts⟩ (c_X7_before l D cB cI cJ cQ N r0 H18.size (x2 + ((v4_8 + (1 : Int32)) >>> ((1 : Int32) &&& (31 : Int32)))) (x3 + ((v5_12 + (1 : Int32)) >>> ((1 : Int32) &&& (31 : Int32)))) m_thrown m_length m_at m_fault m_hasHeader m_width m_height m_limit m_hasPicture m_frames m_taken m_many m_due m_previous (y_19) hcl20) (cwV 2 hts gX7_base_X7_before rfl rfl rfl cdV_X7_before ⟨Nat.le_of_ble_eq_true rfl, Nat.le_of_ble_eq_true rfl⟩) (ct_preV (q0 := 4) (ci := 7) E sb21 hP18 hD18 hS18 rfl rfl) rfl rfl hl14.1 rfl (lv_room (Nat.le_of_ble_eq_true rfl)) dX7_base_85 ⟨Nat.zero_le _, Nat.zero_le _⟩) (fun H22 lc22 hP22 hD22 hS22 => ?_); clear sb21 hcl20
      clear hP18 hD18 hS18
      have hP22 : va_P D vwCl (wf [aI (r0 11) cI 2304 m_golden, aI (r0 18) cI 36 m_newModes, aI (r0 19) cI 36 m_newAcross, aI (r0 20) cI 36 m_newDown, oB (r0 0) 7 [.int m_thrown, .ref (r0 1), .int m_length, .int m_at, .int m_fault, .int m_hasHeader, .int m_width, .int m_height, .int m_limit, .ref (r0 2), .ref (r0 3), .ref (r0 4), .ref (r0 5), .ref (r0 6), .ref (r0 7), .ref (r0 8), .ref (r0 9), .int m_hasPicture, .int m_frames, .int m_taken, .ref (r0 10), .ref (r0 11), .ref (r0 12), .int m_many, .ref (r0 13), .ref (r0 14), .ref (r0 15), .ref (r0 16), .ref (r0 17), .ref (r0 18), .ref (r0 19), .ref (r0 20), .ref (r0 21), .ref (r0 22), .int m_due, .ref (r0 23), .ref (r0 24), .ref (r0 25), .ref (r0 26), .ref (r0 27), .ref (r0 28), .ref (r0 29)], aI (r0 10) cI 2304 m_previous] []) H22 := hP22
      have hD22 : va_D A (wf [aI (r0 11) cI 2304 m_golden, aI (r0 18) cI 36 m_newModes, aI (r0 19) cI 36 m_newAcross, aI (r0 20) cI 36 m_newDown, oB (r0 0) 7 [.int m_thrown, .ref (r0 1), .int m_length, .int m_at, .int m_fault, .int m_hasHeader, .int m_width, .int m_height, .int m_limit, .ref (r0 2), .ref (r0 3), .ref (r0 4), .ref (r0 5), .ref (r0 6), .ref (r0 7), .ref (r0 8), .ref (r0 9), .int m_hasPicture, .int m_frames, .int m_taken, .ref (r0 10), .ref (r0 11), .ref (r0 12), .int m_many, .ref (r0 13), .ref (r0 14), .ref (r0 15), .ref (r0 16), .ref (r0 17), .ref (r0 18), .ref (r0 19), .ref (r0 20), .ref (r0 21), .ref (r0 22), .int m_due, .ref (r0 23), .ref (r0 24), .ref (r0 25), .ref (r0 26), .ref (r0 27), .ref (r0 28), .ref (r0 29)], aI (r0 10) cI 2304 m_previous] []) := hD22
      refine lv_iadd hx hb dX7_base_88 ?_
      refine lv_iconst (v := 2) hx hb dX7_base_89 (by decide) ?_
      refine lv_idiv hx hb dX7_base_90 (by decide) ?_
      obtain ⟨hP23, hD23⟩ := ct_ord (n := 6) (k := 0) [4, 5, 0, 1, 2, 3] [] hP22 hD22 rfl rfl (by decide +kernel) (by decide +kernel)
      have hS23 := hS22
      have hP23 : va_P D vwCl (wf [oB (r0 0) 7 [.int m_thrown, .ref (r0 1), .int m_length, .int m_at, .int m_fault, .int m_hasHeader, .int m_width, .int m_height, .int m_limit, .ref (r0 2), .ref (r0 3), .ref (r0 4), .ref (r0 5), .ref (r0 6), .ref (r0 7), .ref (r0 8), .ref (r0 9), .int m_hasPicture, .int m_frames, .int m_taken, .ref (r0 10), .ref (r0 11), .ref (r0 12), .int m_many, .ref (r0 13), .ref (r0 14), .ref (r0 15), .ref (r0 16), .ref (r0 17), .ref (r0 18), .ref (r0 19), .ref (r0 20), .ref (r0 21), .ref (r0 22), .int m_due, .ref (r0 23), .ref (r0 24), .ref (r0 25), .ref (r0 26), .ref (r0 27), .ref (r0 28), .ref (r0 29)], aI (r0 10) cI 2304 m_previous, aI (r0 11) cI 2304 m_golden, aI (r0 18) cI 36 m_newModes, aI (r0 19) cI 36 m_newAcross, aI (r0 20) cI 36 m_newDown] []) H22 := hP23
      have hD23 : va_D A (wf [oB (r0 0) 7 [.int m_thrown, .ref (r0 1), .int m_length, .int m_at, .int m_fault, .int m_hasHeader, .int m_width, .int m_height, .int m_limit, .ref (r0 2), .ref (r0 3), .ref (r0 4), .ref (r0 5), .ref (r0 6), .ref (r0 7), .ref (r0 8), .ref (r0 9), .int m_hasPicture, .int m_frames, .int m_taken, .ref (r0 10), .ref (r0 11), .ref (r0 12), .int m_many, .ref (r0 13), .ref (r0 14), .ref (r0 15), .ref (r0 16), .ref (r0 17), .ref (r0 18), .ref (r0 19), .ref (r0 20), .ref (r0 21), .ref (r0 22), .int m_due, .ref (r0 23), .ref (r0 24), .ref (r0 25), .ref (r0 26), .ref (r0 27), .ref (r0 28), .ref (r0 29)], aI (r0 10) cI 2304 m_previous, aI (r0 11) cI 2304 m_golden, aI (r0 18) cI 36 m_newModes, aI (r0 19) cI 36 m_newAcross, aI (r0 20) cI 36 m_newDown] []) := hD23
      obtain rfl := Option.some.inj hm20
      rw [hQ]
      exact ct_iret hx hb hr hlk hP23 hD23 hS23 rfl dX7_base_91
    · have hm24 := bq_t hm4 hc5; clear hm4
      refine lv_aload_n hx hb dX7_base_24 rfl (lv_at hl0 0 rfl) ?_
      refine va_get (D := D) (ci := 7) (v := .ref (r0 11)) (C := RX7) (T := TX7) (N := 42) hx hb hts hi_X7_base_7 hown E.1 hP0 0 rfl rfl 21 (by decide) (hts _ (List.mem_of_getElem? (i := 2) rfl)) (fun _ h9 => h9) rfl dX7_base_25 ?_
      refine lv_bipush (v := 48) hx hb dX7_base_28 (by decide) ?_
      refine lv_iload_n hx hb dX7_base_30 rfl (lv_at hl0 3 rfl) ?_
      refine lv_imul hx hb dX7_base_31 ?_
      refine lv_iload_n hx hb dX7_base_32 rfl (lv_at hl0 2 rfl) ?_
      refine lv_iadd hx hb dX7_base_33 ?_
      obtain ⟨hin25, hm25⟩ := gi_some hm24; clear hm24
      refine va_iald hx hb E.1 hP0 2 0 rfl rfl hin25 dX7_base_34 ?_
      obtain rfl := Option.some.inj hm25
      rw [hQ]
      exact ct_iret hx hb hr hlk hP0 hD0 hS0 rfl dX7_base_35
  · have hm26 := bq_t hm1 hc2; clear hm1
    refine lv_sipush (v := 128) hx hb dX7_base_10 (by decide) ?_
    obtain rfl := Option.some.inj hm26
    rw [hQ]
    exact ct_iret hx hb hr hlk hP0 hD0 hS0 rfl dX7_base_13

def f_X7_paint_L2 (m_previous : Nat → Int32) : Nat → (Nat → Int32) → Int32 → Option ((Nat → Int32))
  | 0, _, _ => none
  | n + 1, m_made_3, v2_4 =>
  (if (2304 : Int32) ≤ v2_4 then
  (some (m_made_3))
  else
  (gi v2_4 2304 <|
  gi v2_4 2304 <|
  nm (upd m_made_3 v2_4.toNatClampNeg (m_previous v2_4.toNatClampNeg) : Nat → Int32) fun m_made_13 =>
  nm (v2_4 + (1 : Int32) : Int32) fun v2_16 =>
  f_X7_paint_L2 m_previous n m_made_13 v2_16))

def f_X7_paint_L62 (m_width : Int32) (m_height : Int32) (m_previous : Nat → Int32) (m_golden : Nat → Int32) (m_newModes : Nat → Int32) (m_newAcross : Nat → Int32) (m_newDown : Nat → Int32) (v3_36 : Int32) (m_added_56 : Nat → Int32) : Nat → (Nat → Int32) → Int32 → Option ((Nat → Int32))
  | 0, _, _ => none
  | n + 1, m_made_62, v4_63 =>
  (if (64 : Int32) ≤ v4_63 then
  (some (m_made_62))
  else
  (nm ((((8 : Int32) * (v3_36 - v3_36 / (6 : Int32) * (6 : Int32))) + (v4_63 - v4_63 / (8 : Int32) * (8 : Int32))) : Int32) fun v5_70 =>
  nm ((((8 : Int32) * (v3_36 / (6 : Int32))) + (v4_63 / (8 : Int32))) : Int32) fun v6_73 =>
  bd1 (f_X7_base v3_36 v5_70 v6_73 m_width m_height m_previous m_golden m_newModes m_newAcross m_newDown) fun y_76 =>
  gi v4_63 64 <|
  bd1 (f_X7_within (y_76 + (m_added_56 v4_63.toNatClampNeg)) (0 : Int32) (255 : Int32)) fun y_81 =>
  gi (((48 : Int32) * v6_73) + v5_70) 2304 <|
  nm (upd m_made_62 (((48 : Int32) * v6_73) + v5_70).toNatClampNeg y_81 : Nat → Int32) fun m_made_86 =>
  nm (v4_63 + (1 : Int32) : Int32) fun v4_89 =>
  f_X7_paint_L62 m_width m_height m_previous m_golden m_newModes m_newAcross m_newDown v3_36 m_added_56 n m_made_86 v4_89))

def f_X7_paint_L29 (x1 : Int32) (m_width : Int32) (m_height : Int32) (m_many : Int32) (m_scales : Nat → Int32) (m_steps : Nat → Int32) (m_previous : Nat → Int32) (m_golden : Nat → Int32) (m_order : Nat → Int32) (m_newModes : Nat → Int32) (m_newAcross : Nat → Int32) (m_newDown : Nat → Int32) (m_numbers : Nat → Int32) (m_waves : Nat → Int32) : Nat → (Nat → Int32) → (Nat → Int64) → (Nat → Int64) → (Nat → Int32) → Int32 → Option ((Nat → Int32) × (Nat → Int64) × (Nat → Int64) × (Nat → Int32))
  | 0, _, _, _, _, _ => none
  | n + 1, m_made_24, m_square_25, m_rows_26, m_added_27, v2_28 =>
  (if m_many ≤ v2_28 then
  (some (m_made_24, m_square_25, m_rows_26, m_added_27))
  else
  (gi v2_28 36 <|
  nm ((m_order v2_28.toNatClampNeg) : Int32) fun v3_36 =>
  gi v3_36 36 <|
  jn (fun (k41 : (Nat → Int32) → (Nat → Int64) → (Nat → Int64) → (Nat → Int32) → Option ((Nat → Int32) × (Nat → Int64) × (Nat → Int64) × (Nat → Int32))) => (if (m_newModes v3_36.toNatClampNeg) ≤ (0 : Int32) then
  (k41 m_made_24 m_square_25 m_rows_26 m_added_27)
  else
  (bd3 (f_X7_add v3_36 x1 m_scales m_steps m_numbers m_square_25 m_rows_26 m_added_27 m_waves) fun m_square_54 m_rows_55 m_added_56 =>
  bd1 (f_X7_paint_L62 m_width m_height m_previous m_golden m_newModes m_newAcross m_newDown v3_36 m_added_56 4000 m_made_24 (0 : Int32)) fun m_made_93 =>
  k41 m_made_93 m_square_54 m_rows_55 m_added_56))) fun m_made_42 m_square_43 m_rows_44 m_added_45 =>
  nm (v2_28 + (1 : Int32) : Int32) fun v2_48 =>
  f_X7_paint_L29 x1 m_width m_height m_many m_scales m_steps m_previous m_golden m_order m_newModes m_newAcross m_newDown m_numbers m_waves n m_made_42 m_square_43 m_rows_44 m_added_45 v2_48))

def f_X7_paint (x1 : Int32) (m_width : Int32) (m_height : Int32) (m_many : Int32) (m_scales : Nat → Int32) (m_steps : Nat → Int32) (m_previous : Nat → Int32) (m_golden : Nat → Int32) (m_made : Nat → Int32) (m_order : Nat → Int32) (m_newModes : Nat → Int32) (m_newAcross : Nat → Int32) (m_newDown : Nat → Int32) (m_numbers : Nat → Int32) (m_square : Nat → Int64) (m_rows : Nat → Int64) (m_added : Nat → Int32) (m_waves : Nat → Int32) : Option ((Nat → Int32) × (Nat → Int64) × (Nat → Int64) × (Nat → Int32)) :=
  bd1 (f_X7_paint_L2 m_previous 4000 m_made (0 : Int32)) fun m_made_19 =>
  bd4 (f_X7_paint_L29 x1 m_width m_height m_many m_scales m_steps m_previous m_golden m_order m_newModes m_newAcross m_newDown m_numbers m_waves 4000 m_made_19 m_square m_rows m_added (0 : Int32)) fun m_made_97 m_square_98 m_rows_99 m_added_100 =>
  some (m_made_97, m_square_98, m_rows_99, m_added_100)

abbrev rm_X7_paint : Room := { frames := 3, cells := 0, slots := 0, locals := 69 }

theorem cdS_X7_paint : yX7_paint.cls ≠ "java/lang/invoke/MethodHandle" ∧ yX7_paint.cls ≠ "java/lang/invoke/VarHandle" ∧ (parseMethodDescriptor yX7_paint.desc).map (fun d => d.parameters.length) = some 1 := by decide +kernel

theorem cdV_X7_paint : yX7_paint.cls = RX7 ∧ yX7_paint.cls ≠ "java/lang/invoke/MethodHandle" ∧ yX7_paint.cls ≠ "java/lang/invoke/VarHandle" ∧ (parseMethodDescriptor yX7_paint.desc).map (fun d => d.parameters.length) = some 1 := ⟨rfl, cdS_X7_paint⟩

theorem hi_X7_paint_7 : ∀ w ∈ u_ws RX7 TX7 42, w ∈ wsX7_paint := fun _ h => List.mem_cons_of_mem _ (List.mem_append_right _ h)

set_option maxHeartbeats 40000000 in
set_option maxRecDepth 100000 in
theorem c_X7_paint (l : Launch) (D : va_G) (cB cI cJ cQ : ClassId) (N : Nat) (r0 : Nat → Nat) (sz : Nat) (x1 : Int32) (m_thrown : Int32) (m_length : Int32) (m_at : Int32) (m_fault : Int32) (m_hasHeader : Int32) (m_width : Int32) (m_height : Int32) (m_limit : Int32) (m_hasPicture : Int32) (m_frames : Int32) (m_taken : Int32) (m_many : Int32) (m_due : Int32) (m_scales : Nat → Int32) (m_steps : Nat → Int32) (m_previous : Nat → Int32) (m_golden : Nat → Int32) (m_made : Nat → Int32) (m_order : Nat → Int32) (m_newModes : Nat → Int32) (m_newAcross : Nat → Int32) (m_newDown : Nat → Int32) (m_numbers : Nat → Int32) (m_square : Nat → Int64) (m_rows : Nat → Int64) (m_added : Nat → Int32) (m_waves : Nat → Int32) (o : (Nat → Int32) × (Nat → Int64) × (Nat → Int64) × (Nat → Int32)) (hm0 : f_X7_paint x1 m_width m_height m_many m_scales m_steps m_previous m_golden m_made m_order m_newModes m_newAcross m_newDown m_numbers m_square m_rows m_added m_waves = some o) : Met l yX7_paint wsX7_paint rm_X7_paint (ctP D cB cI cJ cQ N sz [.ref (r0 0), .int x1] (wf [oB (r0 0) 7 [.int m_thrown, .ref (r0 1), .int m_length, .int m_at, .int m_fault, .int m_hasHeader, .int m_width, .int m_height, .int m_limit, .ref (r0 2), .ref (r0 3), .ref (r0 4), .ref (r0 5), .ref (r0 6), .ref (r0 7), .ref (r0 8), .ref (r0 9), .int m_hasPicture, .int m_frames, .int m_taken, .ref (r0 10), .ref (r0 11), .ref (r0 12), .int m_many, .ref (r0 13), .ref (r0 14), .ref (r0 15), .ref (r0 16), .ref (r0 17), .ref (r0 18), .ref (r0 19), .ref (r0 20), .ref (r0 21), .ref (r0 22), .int m_due, .ref (r0 23), .ref (r0 24), .ref (r0 25), .ref (r0 26), .ref (r0 27), .ref (r0 28), .ref (r0 29)], aI (r0 2) cI 8 m_scales, aI (r0 3) cI 16 m_steps, aI (r0 10) cI 2304 m_previous, aI (r0 11) cI 2304 m_golden, aI (r0 12) cI 2304 m_made, aI (r0 13) cI 36 m_order, aI (r0 18) cI 36 m_newModes, aI (r0 19) cI 36 m_newAcross, aI (r0 20) cI 36 m_newDown, aI (r0 22) cI 2304 m_numbers, aJ (r0 24) cJ 64 m_square, aJ (r0 25) cJ 64 m_rows, aI (r0 26) cI 64 m_added, aI (r0 27) cI 8 m_waves] [])) (ctQv D (wf [oB (r0 0) 7 [.int m_thrown, .ref (r0 1), .int m_length, .int m_at, .int m_fault, .int m_hasHeader, .int m_width, .int m_height, .int m_limit, .ref (r0 2), .ref (r0 3), .ref (r0 4), .ref (r0 5), .ref (r0 6), .ref (r0 7), .ref (r0 8), .ref (r0 9), .int m_hasPicture, .int m_frames, .int m_taken, .ref (r0 10), .ref (r0 11), .ref (r0 12), .int m_many, .ref (r0 13), .ref (r0 14), .ref (r0 15), .ref (r0 16), .ref (r0 17), .ref (r0 18), .ref (r0 19), .ref (r0 20), .ref (r0 21), .ref (r0 22), .int m_due, .ref (r0 23), .ref (r0 24), .ref (r0 25), .ref (r0 26), .ref (r0 27), .ref (r0 28), .ref (r0 29)], aI (r0 2) cI 8 m_scales, aI (r0 3) cI 16 m_steps, aI (r0 10) cI 2304 m_previous, aI (r0 11) cI 2304 m_golden, aI (r0 12) cI 2304 (o.1), aI (r0 13) cI 36 m_order, aI (r0 18) cI 36 m_newModes, aI (r0 19) cI 36 m_newAcross, aI (r0 20) cI 36 m_newDown, aI (r0 22) cI 2304 m_numbers, aJ (r0 24) cJ 64 (o.2.1), aJ (r0 25) cJ 64 (o.2.2.1), aI (r0 26) cI 64 (o.2.2.2), aI (r0 27) cI 8 m_waves] []) (va_A (wf [oB (r0 0) 7 [.int m_thrown, .ref (r0 1), .int m_length, .int m_at, .int m_fault, .int m_hasHeader, .int m_width, .int m_height, .int m_limit, .ref (r0 2), .ref (r0 3), .ref (r0 4), .ref (r0 5), .ref (r0 6), .ref (r0 7), .ref (r0 8), .ref (r0 9), .int m_hasPicture, .int m_frames, .int m_taken, .ref (r0 10), .ref (r0 11), .ref (r0 12), .int m_many, .ref (r0 13), .ref (r0 14), .ref (r0 15), .ref (r0 16), .ref (r0 17), .ref (r0 18), .ref (r0 19), .ref (r0 20), .ref (r0 21), .ref (r0 22), .int m_due, .ref (r0 23), .ref (r0 24), .ref (r0 25), .ref (r0 26), .ref (r0 27), .ref (r0 28), .ref (r0 29)], aI (r0 2) cI 8 m_scales, aI (r0 3) cI 16 m_steps, aI (r0 10) cI 2304 m_previous, aI (r0 11) cI 2304 m_golden, aI (r0 12) cI 2304 m_made, aI (r0 13) cI 36 m_order, aI (r0 18) cI 36 m_newModes, aI (r0 19) cI 36 m_newAcross, aI (r0 20) cI 36 m_newDown, aI (r0 22) cI 2304 m_numbers, aJ (r0 24) cJ 64 m_square, aJ (r0 25) cJ 64 m_rows, aI (r0 26) cI 64 m_added, aI (r0 27) cI 8 m_waves] []) sz)) 0 0 (va_A (wf [oB (r0 0) 7 [.int m_thrown, .ref (r0 1), .int m_length, .int m_at, .int m_fault, .int m_hasHeader, .int m_width, .int m_height, .int m_limit, .ref (r0 2), .ref (r0 3), .ref (r0 4), .ref (r0 5), .ref (r0 6), .ref (r0 7), .ref (r0 8), .ref (r0 9), .int m_hasPicture, .int m_frames, .int m_taken, .ref (r0 10), .ref (r0 11), .ref (r0 12), .int m_many, .ref (r0 13), .ref (r0 14), .ref (r0 15), .ref (r0 16), .ref (r0 17), .ref (r0 18), .ref (r0 19), .ref (r0 20), .ref (r0 21), .ref (r0 22), .int m_due, .ref (r0 23), .ref (r0 24), .ref (r0 25), .ref (r0 26), .ref (r0 27), .ref (r0 28), .ref (r0 29)], aI (r0 2) cI 8 m_scales, aI (r0 3) cI 16 m_steps, aI (r0 10) cI 2304 m_previous, aI (r0 11) cI 2304 m_golden, aI (r0 12) cI 2304 m_made, aI (r0 13) cI 36 m_order, aI (r0 18) cI 36 m_newModes, aI (r0 19) cI 36 m_newAcross, aI (r0 20) cI 36 m_newDown, aI (r0 22) cI 2304 m_numbers, aJ (r0 24) cJ 64 m_square, aJ (r0 25) cJ 64 m_rows, aI (r0 26) cI 64 m_added, aI (r0 27) cI 8 m_waves] []) sz) := by
  refine ct_of (y := yX7_paint) (av := [.ref (r0 0), .int x1]) (cc := cX7_paint) (maxL := 7) (ret := none) (own := RX7) (Qp := ctQv D (wf [oB (r0 0) 7 [.int m_thrown, .ref (r0 1), .int m_length, .int m_at, .int m_fault, .int m_hasHeader, .int m_width, .int m_height, .int m_limit, .ref (r0 2), .ref (r0 3), .ref (r0 4), .ref (r0 5), .ref (r0 6), .ref (r0 7), .ref (r0 8), .ref (r0 9), .int m_hasPicture, .int m_frames, .int m_taken, .ref (r0 10), .ref (r0 11), .ref (r0 12), .int m_many, .ref (r0 13), .ref (r0 14), .ref (r0 15), .ref (r0 16), .ref (r0 17), .ref (r0 18), .ref (r0 19), .ref (r0 20), .ref (r0 21), .ref (r0 22), .int m_due, .ref (r0 23), .ref (r0 24), .ref (r0 25), .ref (r0 26), .ref (r0 27), .ref (r0 28), .ref (r0 29)], aI (r0 2) cI 8 m_scales, aI (r0 3) cI 16 m_steps, aI (r0 10) cI 2304 m_previous, aI (r0 11) cI 2304 m_golden, aI (r0 12) cI 2304 (o.1), aI (r0 13) cI 36 m_order, aI (r0 18) cI 36 m_newModes, aI (r0 19) cI 36 m_newAcross, aI (r0 20) cI 36 m_newDown, aI (r0 22) cI 2304 m_numbers, aJ (r0 24) cJ 64 (o.2.1), aJ (r0 25) cJ 64 (o.2.2.1), aI (r0 26) cI 64 (o.2.2.2), aI (r0 27) cI 8 m_waves] [])) (by decide) rfl rfl (Nat.le_of_ble_eq_true rfl) ?_
  intro p e s m args below meth c A hx hb hr hml hown hts hlk hnm hsz hAe E hP0 hD0 hS0 ls0 hl0
  subst hsz
  have hl0 : lv_has ls0 7 [(0, .ref (r0 0)), (1, .int x1)] := hl0
  obtain ⟨QQ, hQ⟩ : ∃ Q : State → Prop, Q = MQ below (ctQv D (wf [oB (r0 0) 7 [.int m_thrown, .ref (r0 1), .int m_length, .int m_at, .int m_fault, .int m_hasHeader, .int m_width, .int m_height, .int m_limit, .ref (r0 2), .ref (r0 3), .ref (r0 4), .ref (r0 5), .ref (r0 6), .ref (r0 7), .ref (r0 8), .ref (r0 9), .int m_hasPicture, .int m_frames, .int m_taken, .ref (r0 10), .ref (r0 11), .ref (r0 12), .int m_many, .ref (r0 13), .ref (r0 14), .ref (r0 15), .ref (r0 16), .ref (r0 17), .ref (r0 18), .ref (r0 19), .ref (r0 20), .ref (r0 21), .ref (r0 22), .int m_due, .ref (r0 23), .ref (r0 24), .ref (r0 25), .ref (r0 26), .ref (r0 27), .ref (r0 28), .ref (r0 29)], aI (r0 2) cI 8 m_scales, aI (r0 3) cI 16 m_steps, aI (r0 10) cI 2304 m_previous, aI (r0 11) cI 2304 m_golden, aI (r0 12) cI 2304 (o.1), aI (r0 13) cI 36 m_order, aI (r0 18) cI 36 m_newModes, aI (r0 19) cI 36 m_newAcross, aI (r0 20) cI 36 m_newDown, aI (r0 22) cI 2304 m_numbers, aJ (r0 24) cJ 64 (o.2.1), aJ (r0 25) cJ 64 (o.2.2.1), aI (r0 26) cI 64 (o.2.2.2), aI (r0 27) cI 8 m_waves] []) A) args s 0 0 A := ⟨_, rfl⟩
  rw [← hQ]
  unfold f_X7_paint at hm0
  refine lv_iconst (v := 0) hx hb dX7_paint_0 (by decide) ?_
  refine lv_istore_n (lv' := [(2, .int (0 : Int32)), (0, .ref (r0 0)), (1, .int x1)]) hx hb dX7_paint_1 rfl hl0 (by decide) rfl (fun ls1 hl1 => ?_); clear hl0
  obtain ⟨m_made_19, hlp2, hm20⟩ := bd1_some hm0; clear hm0
  have LP2 : ∀ (n : Nat) (m_made_3 : Nat → Int32) (v2_4 : Int32) (z2 : (Nat → Int32)) (H5 : Heap) (lc5 : List Loc) (ls5 : Array Slot), f_X7_paint_L2 m_previous n m_made_3 v2_4 = some z2 → va_P D vwCl (wf [oB (r0 0) 7 [.int m_thrown, .ref (r0 1), .int m_length, .int m_at, .int m_fault, .int m_hasHeader, .int m_width, .int m_height, .int m_limit, .ref (r0 2), .ref (r0 3), .ref (r0 4), .ref (r0 5), .ref (r0 6), .ref (r0 7), .ref (r0 8), .ref (r0 9), .int m_hasPicture, .int m_frames, .int m_taken, .ref (r0 10), .ref (r0 11), .ref (r0 12), .int m_many, .ref (r0 13), .ref (r0 14), .ref (r0 15), .ref (r0 16), .ref (r0 17), .ref (r0 18), .ref (r0 19), .ref (r0 20), .ref (r0 21), .ref (r0 22), .int m_due, .ref (r0 23), .ref (r0 24), .ref (r0 25), .ref (r0 26), .ref (r0 27), .ref (r0 28), .ref (r0 29)], aI (r0 2) cI 8 m_scales, aI (r0 3) cI 16 m_steps, aI (r0 10) cI 2304 m_previous, aI (r0 11) cI 2304 m_golden, aI (r0 12) cI 2304 m_made_3, aI (r0 13) cI 36 m_order, aI (r0 18) cI 36 m_newModes, aI (r0 19) cI 36 m_newAcross, aI (r0 20) cI 36 m_newDown, aI (r0 22) cI 2304 m_numbers, aJ (r0 24) cJ 64 m_square, aJ (r0 25) cJ 64 m_rows, aI (r0 26) cI 64 m_added, aI (r0 27) cI 8 m_waves] []) H5 → va_D A (wf [oB (r0 0) 7 [.int m_thrown, .ref (r0 1), .int m_length, .int m_at, .int m_fault, .int m_hasHeader, .int m_width, .int m_height, .int m_limit, .ref (r0 2), .ref (r0 3), .ref (r0 4), .ref (r0 5), .ref (r0 6), .ref (r0 7), .ref (r0 8), .ref (r0 9), .int m_hasPicture, .int m_frames, .int m_taken, .ref (r0 10), .ref (r0 11), .ref (r0 12), .int m_many, .ref (r0 13), .ref (r0 14), .ref (r0 15), .ref (r0 16), .ref (r0 17), .ref (r0 18), .ref (r0 19), .ref (r0 20), .ref (r0 21), .ref (r0 22), .int m_due, .ref (r0 23), .ref (r0 24), .ref (r0 25), .ref (r0 26), .ref (r0 27), .ref (r0 28), .ref (r0 29)], aI (r0 2) cI 8 m_scales, aI (r0 3) cI 16 m_steps, aI (r0 10) cI 2304 m_previous, aI (r0 11) cI 2304 m_golden, aI (r0 12) cI 2304 m_made_3, aI (r0 13) cI 36 m_order, aI (r0 18) cI 36 m_newModes, aI (r0 19) cI 36 m_newAcross, aI (r0 20) cI 36 m_newDown, aI (r0 22) cI 2304 m_numbers, aJ (r0 24) cJ 64 m_square, aJ (r0 25) cJ 64 m_rows, aI (r0 26) cI 64 m_added, aI (r0 27) cI 8 m_waves] []) → va_S A s.heap H5 lc5 → lv_has ls5 7 [(0, .ref (r0 0)), (1, .int x1), (2, .int v2_4)] → (∀ (H : Heap) (lc : List Loc) (ls : Array Slot), va_P D vwCl (wf [oB (r0 0) 7 [.int m_thrown, .ref (r0 1), .int m_length, .int m_at, .int m_fault, .int m_hasHeader, .int m_width, .int m_height, .int m_limit, .ref (r0 2), .ref (r0 3), .ref (r0 4), .ref (r0 5), .ref (r0 6), .ref (r0 7), .ref (r0 8), .ref (r0 9), .int m_hasPicture, .int m_frames, .int m_taken, .ref (r0 10), .ref (r0 11), .ref (r0 12), .int m_many, .ref (r0 13), .ref (r0 14), .ref (r0 15), .ref (r0 16), .ref (r0 17), .ref (r0 18), .ref (r0 19), .ref (r0 20), .ref (r0 21), .ref (r0 22), .int m_due, .ref (r0 23), .ref (r0 24), .ref (r0 25), .ref (r0 26), .ref (r0 27), .ref (r0 28), .ref (r0 29)], aI (r0 2) cI 8 m_scales, aI (r0 3) cI 16 m_steps, aI (r0 10) cI 2304 m_previous, aI (r0 11) cI 2304 m_golden, aI (r0 12) cI 2304 z2, aI (r0 13) cI 36 m_order, aI (r0 18) cI 36 m_newModes, aI (r0 19) cI 36 m_newAcross, aI (r0 20) cI 36 m_newDown, aI (r0 22) cI 2304 m_numbers, aJ (r0 24) cJ 64 m_square, aJ (r0 25) cJ 64 m_rows, aI (r0 26) cI 64 m_added, aI (r0 27) cI 8 m_waves] []) H → va_D A (wf [oB (r0 0) 7 [.int m_thrown, .ref (r0 1), .int m_length, .int m_at, .int m_fault, .int m_hasHeader, .int m_width, .int m_height, .int m_limit, .ref (r0 2), .ref (r0 3), .ref (r0 4), .ref (r0 5), .ref (r0 6), .ref (r0 7), .ref (r0 8), .ref (r0 9), .int m_hasPicture, .int m_frames, .int m_taken, .ref (r0 10), .ref (r0 11), .ref (r0 12), .int m_many, .ref (r0 13), .ref (r0 14), .ref (r0 15), .ref (r0 16), .ref (r0 17), .ref (r0 18), .ref (r0 19), .ref (r0 20), .ref (r0 21), .ref (r0 22), .int m_due, .ref (r0 23), .ref (r0 24), .ref (r0 25), .ref (r0 26), .ref (r0 27), .ref (r0 28), .ref (r0 29)], aI (r0 2) cI 8 m_scales, aI (r0 3) cI 16 m_steps, aI (r0 10) cI 2304 m_previous, aI (r0 11) cI 2304 m_golden, aI (r0 12) cI 2304 z2, aI (r0 13) cI 36 m_order, aI (r0 18) cI 36 m_newModes, aI (r0 19) cI 36 m_newAcross, aI (r0 20) cI 36 m_newDown, aI (r0 22) cI 2304 m_numbers, aJ (r0 24) cJ 64 m_square, aJ (r0 25) cJ 64 m_rows, aI (r0 26) cI 64 m_added, aI (r0 27) cI 8 m_waves] []) → va_S A s.heap H lc → lv_has ls 7 [(0, .ref (r0 0)), (1, .int x1)] → W p l e rm_X7_paint s m args below meth c H lc 0 0 QQ (F0 m 27 ls [])) → W p l e rm_X7_paint s m args below meth c H5 lc5 0 0 QQ (F0 m 2 ls5 []) := by
    intro n
    induction n with
    | zero =>
      intro m_made_3 v2_4 z2 H5 lc5 ls5 hm7; simp [f_X7_paint_L2] at hm7
    | succ n ih =>
      intro m_made_3 v2_4 z2 H5 lc5 ls5 hm7 hP5 hD5 hS5 hl5 kx
      rw [f_X7_paint_L2] at hm7
      refine lv_iload_n hx hb dX7_paint_2 rfl (lv_at hl5 2 rfl) ?_
      refine lv_sipush (v := 2304) hx hb dX7_paint_3 (by decide) ?_
      refine lv_icmp_ge (tgt := 27) hx hb dX7_paint_6 (by decide) (fun hc8 => ?_) (fun hc8 => ?_)
      · have hm9 := bq_t hm7 hc8; clear hm7
        obtain rfl := Option.some.inj hm9
        exact kx _ _ _ hP5 hD5 hS5 (lv_sub hl5 [0, 1] rfl)
      · have hm10 := bq_f hm7 hc8; clear hm7
        refine lv_aload_n hx hb dX7_paint_9 rfl (lv_at hl5 0 rfl) ?_
        refine va_get (D := D) (ci := 7) (v := .ref (r0 12)) (C := RX7) (T := TX7) (N := 42) hx hb hts hi_X7_paint_7 hown E.1 hP5 0 rfl rfl 22 (by decide) (hts _ (List.mem_of_getElem? (i := 1) rfl)) (fun _ h9 => h9) rfl dX7_paint_10 ?_
        refine lv_iload_n hx hb dX7_paint_13 rfl (lv_at hl5 2 rfl) ?_
        refine lv_aload_n hx hb dX7_paint_14 rfl (lv_at hl5 0 rfl) ?_
        refine va_get (D := D) (ci := 7) (v := .ref (r0 10)) (C := RX7) (T := TX7) (N := 42) hx hb hts hi_X7_paint_7 hown E.1 hP5 0 rfl rfl 20 (by decide) (hts _ (List.mem_of_getElem? (i := 2) rfl)) (fun _ h9 => h9) rfl dX7_paint_15 ?_
        refine lv_iload_n hx hb dX7_paint_18 rfl (lv_at hl5 2 rfl) ?_
        obtain ⟨hin11, hm11⟩ := gi_some hm10; clear hm10
        refine va_iald hx hb E.1 hP5 3 0 rfl rfl hin11 dX7_paint_19 ?_
        obtain ⟨hin12, hm12⟩ := gi_some hm11; clear hm11
        obtain ⟨m_made_13, em_made_13, hm14⟩ := nm_some hm12; clear hm12
        refine ct_iast (g := m_made_13) (ws' := (wf [oB (r0 0) 7 [.int m_thrown, .ref (r0 1), .int m_length, .int m_at, .int m_fault, .int m_hasHeader, .int m_width, .int m_height, .int m_limit, .ref (r0 2), .ref (r0 3), .ref (r0 4), .ref (r0 5), .ref (r0 6), .ref (r0 7), .ref (r0 8), .ref (r0 9), .int m_hasPicture, .int m_frames, .int m_taken, .ref (r0 10), .ref (r0 11), .ref (r0 12), .int m_many, .ref (r0 13), .ref (r0 14), .ref (r0 15), .ref (r0 16), .ref (r0 17), .ref (r0 18), .ref (r0 19), .ref (r0 20), .ref (r0 21), .ref (r0 22), .int m_due, .ref (r0 23), .ref (r0 24), .ref (r0 25), .ref (r0 26), .ref (r0 27), .ref (r0 28), .ref (r0 29)], aI (r0 2) cI 8 m_scales, aI (r0 3) cI 16 m_steps, aI (r0 10) cI 2304 m_previous, aI (r0 11) cI 2304 m_golden, aI (r0 12) cI 2304 m_made_13, aI (r0 13) cI 36 m_order, aI (r0 18) cI 36 m_newModes, aI (r0 19) cI 36 m_newAcross, aI (r0 20) cI 36 m_newDown, aI (r0 22) cI 2304 m_numbers, aJ (r0 24) cJ 64 m_square, aJ (r0 25) cJ 64 m_rows, aI (r0 26) cI 64 m_added, aI (r0 27) cI 8 m_waves] [])) hx hb E.1 hP5 hD5 hS5 5 0 rfl rfl hin12 em_made_13 rfl dX7_paint_20 (fun H15 lc15 hP15 hD15 hS15 => ?_)
        clear hP5 hD5 hS5
        obtain ⟨v2_16, ev2_16, hm17⟩ := nm_some hm14; clear hm14
        refine lv_iinc (v := v2_16) (lv' := [(2, .int v2_16), (0, .ref (r0 0)), (1, .int x1)]) hx hb dX7_paint_21 hl5 (k := 2) rfl (by rw [ev2_16]; rfl) (by decide) rfl (fun ls18 hl18 => ?_); clear hl5
        refine lv_goto (tgt := 2) hx hb dX7_paint_24 (by decide) ?_
        exact ih m_made_13 v2_16 _ _ _ _ hm17 hP15 hD15 hS15 (lv_sub hl18 [1, 2, 0] rfl) kx
  refine LP2 4000 m_made (0 : Int32) (m_made_19) _ _ _ hlp2 hP0 hD0 hS0 (lv_sub hl1 [1, 2, 0] rfl) (fun H21 lc21 ls21 hP21 hD21 hS21 hl21 => ?_); clear LP2 hlp2
  clear hP0 hD0 hS0
  have hl21 : lv_has ls21 7 [(0, .ref (r0 0)), (1, .int x1)] := hl21
  have hP21 : va_P D vwCl (wf [oB (r0 0) 7 [.int m_thrown, .ref (r0 1), .int m_length, .int m_at, .int m_fault, .int m_hasHeader, .int m_width, .int m_height, .int m_limit, .ref (r0 2), .ref (r0 3), .ref (r0 4), .ref (r0 5), .ref (r0 6), .ref (r0 7), .ref (r0 8), .ref (r0 9), .int m_hasPicture, .int m_frames, .int m_taken, .ref (r0 10), .ref (r0 11), .ref (r0 12), .int m_many, .ref (r0 13), .ref (r0 14), .ref (r0 15), .ref (r0 16), .ref (r0 17), .ref (r0 18), .ref (r0 19), .ref (r0 20), .ref (r0 21), .ref (r0 22), .int m_due, .ref (r0 23), .ref (r0 24), .ref (r0 25), .ref (r0 26), .ref (r0 27), .ref (r0 28), .ref (r0 29)], aI (r0 2) cI 8 m_scales, aI (r0 3) cI 16 m_steps, aI (r0 10) cI 2304 m_previous, aI (r0 11) cI 2304 m_golden, aI (r0 12) cI 2304 m_made_19, aI (r0 13) cI 36 m_order, aI (r0 18) cI 36 m_newModes, aI (r0 19) cI 36 m_newAcross, aI (r0 20) cI 36 m_newDown, aI (r0 22) cI 2304 m_numbers, aJ (r0 24) cJ 64 m_square, aJ (r0 25) cJ 64 m_rows, aI (r0 26) cI 64 m_added, aI (r0 27) cI 8 m_waves] []) H21 := hP21
  have hD21 : va_D A (wf [oB (r0 0) 7 [.int m_thrown, .ref (r0 1), .int m_length, .int m_at, .int m_fault, .int m_hasHeader, .int m_width, .int m_height, .int m_limit, .ref (r0 2), .ref (r0 3), .ref (r0 4), .ref (r0 5), .ref (r0 6), .ref (r0 7), .ref (r0 8), .ref (r0 9), .int m_hasPicture, .int m_frames, .int m_taken, .ref (r0 10), .ref (r0 11), .ref (r0 12), .int m_many, .ref (r0 13), .ref (r0 14), .ref (r0 15), .ref (r0 16), .ref (r0 17), .ref (r0 18), .ref (r0 19), .ref (r0 20), .ref (r0 21), .ref (r0 22), .int m_due, .ref (r0 23), .ref (r0 24), .ref (r0 25), .ref (r0 26), .ref (r0 27), .ref (r0 28), .ref (r0 29)], aI (r0 2) cI 8 m_scales, aI (r0 3) cI 16 m_steps, aI (r0 10) cI 2304 m_previous, aI (r0 11) cI 2304 m_golden, aI (r0 12) cI 2304 m_made_19, aI (r0 13) cI 36 m_order, aI (r0 18) cI 36 m_newModes, aI (r0 19) cI 36 m_newAcross, aI (r0 20) cI 36 m_newDown, aI (r0 22) cI 2304 m_numbers, aJ (r0 24) cJ 64 m_square, aJ (r0 25) cJ 64 m_rows, aI (r0 26) cI 64 m_added, aI (r0 27) cI 8 m_waves] []) := hD21
  refine lv_iconst (v := 0) hx hb dX7_paint_27 (by decide) ?_
  refine lv_istore_n (lv' := [(2, .int (0 : Int32)), (0, .ref (r0 0)), (1, .int x1)]) hx hb dX7_paint_28 rfl hl21 (by decide) rfl (fun ls22 hl22 => ?_); clear hl21
  obtain ⟨m_made_97, m_square_98, m_rows_99, m_added_100, hlp23, hm101⟩ := bd4_some hm20; clear hm20
  have LP23 : ∀ (n : Nat) (m_made_24 : Nat → Int32) (m_square_25 : Nat → Int64) (m_rows_26 : Nat → Int64) (m_added_27 : Nat → Int32) (v2_28 : Int32) (z23 : (Nat → Int32) × (Nat → Int64) × (Nat → Int64) × (Nat → Int32)) (H29 : Heap) (lc29 : List Loc) (ls29 : Array Slot), f_X7_paint_L29 x1 m_width m_height m_many m_scales m_steps m_previous m_golden m_order m_newModes m_newAcross m_newDown m_numbers m_waves n m_made_24 m_square_25 m_rows_26 m_added_27 v2_28 = some z23 → va_P D vwCl (wf [oB (r0 0) 7 [.int m_thrown, .ref (r0 1), .int m_length, .int m_at, .int m_fault, .int m_hasHeader, .int m_width, .int m_height, .int m_limit, .ref (r0 2), .ref (r0 3), .ref (r0 4), .ref (r0 5), .ref (r0 6), .ref (r0 7), .ref (r0 8), .ref (r0 9), .int m_hasPicture, .int m_frames, .int m_taken, .ref (r0 10), .ref (r0 11), .ref (r0 12), .int m_many, .ref (r0 13), .ref (r0 14), .ref (r0 15), .ref (r0 16), .ref (r0 17), .ref (r0 18), .ref (r0 19), .ref (r0 20), .ref (r0 21), .ref (r0 22), .int m_due, .ref (r0 23), .ref (r0 24), .ref (r0 25), .ref (r0 26), .ref (r0 27), .ref (r0 28), .ref (r0 29)], aI (r0 2) cI 8 m_scales, aI (r0 3) cI 16 m_steps, aI (r0 10) cI 2304 m_previous, aI (r0 11) cI 2304 m_golden, aI (r0 12) cI 2304 m_made_24, aI (r0 13) cI 36 m_order, aI (r0 18) cI 36 m_newModes, aI (r0 19) cI 36 m_newAcross, aI (r0 20) cI 36 m_newDown, aI (r0 22) cI 2304 m_numbers, aJ (r0 24) cJ 64 m_square_25, aJ (r0 25) cJ 64 m_rows_26, aI (r0 26) cI 64 m_added_27, aI (r0 27) cI 8 m_waves] []) H29 → va_D A (wf [oB (r0 0) 7 [.int m_thrown, .ref (r0 1), .int m_length, .int m_at, .int m_fault, .int m_hasHeader, .int m_width, .int m_height, .int m_limit, .ref (r0 2), .ref (r0 3), .ref (r0 4), .ref (r0 5), .ref (r0 6), .ref (r0 7), .ref (r0 8), .ref (r0 9), .int m_hasPicture, .int m_frames, .int m_taken, .ref (r0 10), .ref (r0 11), .ref (r0 12), .int m_many, .ref (r0 13), .ref (r0 14), .ref (r0 15), .ref (r0 16), .ref (r0 17), .ref (r0 18), .ref (r0 19), .ref (r0 20), .ref (r0 21), .ref (r0 22), .int m_due, .ref (r0 23), .ref (r0 24), .ref (r0 25), .ref (r0 26), .ref (r0 27), .ref (r0 28), .ref (r0 29)], aI (r0 2) cI 8 m_scales, aI (r0 3) cI 16 m_steps, aI (r0 10) cI 2304 m_previous, aI (r0 11) cI 2304 m_golden, aI (r0 12) cI 2304 m_made_24, aI (r0 13) cI 36 m_order, aI (r0 18) cI 36 m_newModes, aI (r0 19) cI 36 m_newAcross, aI (r0 20) cI 36 m_newDown, aI (r0 22) cI 2304 m_numbers, aJ (r0 24) cJ 64 m_square_25, aJ (r0 25) cJ 64 m_rows_26, aI (r0 26) cI 64 m_added_27, aI (r0 27) cI 8 m_waves] []) → va_S A s.heap H29 lc29 → lv_has ls29 7 [(0, .ref (r0 0)), (1, .int x1), (2, .int v2_28)] → (∀ (H : Heap) (lc : List Loc) (ls : Array Slot), va_P D vwCl (wf [oB (r0 0) 7 [.int m_thrown, .ref (r0 1), .int m_length, .int m_at, .int m_fault, .int m_hasHeader, .int m_width, .int m_height, .int m_limit, .ref (r0 2), .ref (r0 3), .ref (r0 4), .ref (r0 5), .ref (r0 6), .ref (r0 7), .ref (r0 8), .ref (r0 9), .int m_hasPicture, .int m_frames, .int m_taken, .ref (r0 10), .ref (r0 11), .ref (r0 12), .int m_many, .ref (r0 13), .ref (r0 14), .ref (r0 15), .ref (r0 16), .ref (r0 17), .ref (r0 18), .ref (r0 19), .ref (r0 20), .ref (r0 21), .ref (r0 22), .int m_due, .ref (r0 23), .ref (r0 24), .ref (r0 25), .ref (r0 26), .ref (r0 27), .ref (r0 28), .ref (r0 29)], aI (r0 2) cI 8 m_scales, aI (r0 3) cI 16 m_steps, aI (r0 10) cI 2304 m_previous, aI (r0 11) cI 2304 m_golden, aI (r0 12) cI 2304 (z23.1), aI (r0 13) cI 36 m_order, aI (r0 18) cI 36 m_newModes, aI (r0 19) cI 36 m_newAcross, aI (r0 20) cI 36 m_newDown, aI (r0 22) cI 2304 m_numbers, aJ (r0 24) cJ 64 (z23.2.1), aJ (r0 25) cJ 64 (z23.2.2.1), aI (r0 26) cI 64 (z23.2.2.2), aI (r0 27) cI 8 m_waves] []) H → va_D A (wf [oB (r0 0) 7 [.int m_thrown, .ref (r0 1), .int m_length, .int m_at, .int m_fault, .int m_hasHeader, .int m_width, .int m_height, .int m_limit, .ref (r0 2), .ref (r0 3), .ref (r0 4), .ref (r0 5), .ref (r0 6), .ref (r0 7), .ref (r0 8), .ref (r0 9), .int m_hasPicture, .int m_frames, .int m_taken, .ref (r0 10), .ref (r0 11), .ref (r0 12), .int m_many, .ref (r0 13), .ref (r0 14), .ref (r0 15), .ref (r0 16), .ref (r0 17), .ref (r0 18), .ref (r0 19), .ref (r0 20), .ref (r0 21), .ref (r0 22), .int m_due, .ref (r0 23), .ref (r0 24), .ref (r0 25), .ref (r0 26), .ref (r0 27), .ref (r0 28), .ref (r0 29)], aI (r0 2) cI 8 m_scales, aI (r0 3) cI 16 m_steps, aI (r0 10) cI 2304 m_previous, aI (r0 11) cI 2304 m_golden, aI (r0 12) cI 2304 (z23.1), aI (r0 13) cI 36 m_order, aI (r0 18) cI 36 m_newModes, aI (r0 19) cI 36 m_newAcross, aI (r0 20) cI 36 m_newDown, aI (r0 22) cI 2304 m_numbers, aJ (r0 24) cJ 64 (z23.2.1), aJ (r0 25) cJ 64 (z23.2.2.1), aI (r0 26) cI 64 (z23.2.2.2), aI (r0 27) cI 8 m_waves] []) → va_S A s.heap H lc → lv_has ls 7 [] → W p l e rm_X7_paint s m args below meth c H lc 0 0 QQ (F0 m 148 ls [])) → W p l e rm_X7_paint s m args below meth c H29 lc29 0 0 QQ (F0 m 29 ls29 []) := by
    intro n
    induction n with
    | zero =>
      intro m_made_24 m_square_25 m_rows_26 m_added_27 v2_28 z23 H29 lc29 ls29 hm31; simp [f_X7_paint_L29] at hm31
    | succ n ih =>
      intro m_made_24 m_square_25 m_rows_26 m_added_27 v2_28 z23 H29 lc29 ls29 hm31 hP29 hD29 hS29 hl29 kx
      rw [f_X7_paint_L29] at hm31
      refine lv_iload_n hx hb dX7_paint_29 rfl (lv_at hl29 2 rfl) ?_
      refine lv_aload_n hx hb dX7_paint_30 rfl (lv_at hl29 0 rfl) ?_
      refine va_get (D := D) (ci := 7) (v := .int m_many) (C := RX7) (T := TX7) (N := 42) hx hb hts hi_X7_paint_7 hown E.1 hP29 0 rfl rfl 23 (by decide) (hts _ (List.mem_of_getElem? (i := 3) rfl)) (fun _ h9 => h9) rfl dX7_paint_31 ?_
      refine lv_icmp_ge (tgt := 148) hx hb dX7_paint_34 (by decide) (fun hc32 => ?_) (fun hc32 => ?_)
      · have hm33 := bq_t hm31 hc32; clear hm31
        obtain rfl := Option.some.inj hm33
        exact kx _ _ _ hP29 hD29 hS29 (lv_sub hl29 [] rfl)
      · have hm34 := bq_f hm31 hc32; clear hm31
        refine lv_aload_n hx hb dX7_paint_37 rfl (lv_at hl29 0 rfl) ?_
        refine va_get (D := D) (ci := 7) (v := .ref (r0 13)) (C := RX7) (T := TX7) (N := 42) hx hb hts hi_X7_paint_7 hown E.1 hP29 0 rfl rfl 24 (by decide) (hts _ (List.mem_of_getElem? (i := 4) rfl)) (fun _ h9 => h9) rfl dX7_paint_38 ?_
        refine lv_iload_n hx hb dX7_paint_41 rfl (lv_at hl29 2 rfl) ?_
        obtain ⟨hin35, hm35⟩ := gi_some hm34; clear hm34
        refine va_iald hx hb E.1 hP29 6 0 rfl rfl hin35 dX7_paint_42 ?_
        obtain ⟨v3_36, ev3_36, hm37⟩ := nm_some hm35; clear hm35
        refine ct_topi ev3_36 ?_
        refine lv_istore_n (lv' := [(3, .int v3_36), (0, .ref (r0 0)), (1, .int x1), (2, .int v2_28)]) hx hb dX7_paint_43 rfl hl29 (by decide) rfl (fun ls38 hl38 => ?_); clear hl29
        refine lv_aload_n hx hb dX7_paint_44 rfl (lv_at hl38 1 rfl) ?_
        refine va_get (D := D) (ci := 7) (v := .ref (r0 18)) (C := RX7) (T := TX7) (N := 42) hx hb hts hi_X7_paint_7 hown E.1 hP29 0 rfl rfl 29 (by decide) (hts _ (List.mem_of_getElem? (i := 5) rfl)) (fun _ h9 => h9) rfl dX7_paint_45 ?_
        refine lv_iload_n hx hb dX7_paint_48 rfl (lv_at hl38 0 rfl) ?_
        obtain ⟨hin39, hm39⟩ := gi_some hm37; clear hm37
        refine va_iald hx hb E.1 hP29 7 0 rfl rfl hin39 dX7_paint_49 ?_
        obtain ⟨k41, ek41, hm41⟩ := jn_some hm39; clear hm39
        have KJ41 : ∀ (m_made_42 : Nat → Int32) (m_square_43 : Nat → Int64) (m_rows_44 : Nat → Int64) (m_added_45 : Nat → Int32) (H46 : Heap) (lc46 : List Loc) (ls46 : Array Slot), k41 m_made_42 m_square_43 m_rows_44 m_added_45 = some z23 → va_P D vwCl (wf [oB (r0 0) 7 [.int m_thrown, .ref (r0 1), .int m_length, .int m_at, .int m_fault, .int m_hasHeader, .int m_width, .int m_height, .int m_limit, .ref (r0 2), .ref (r0 3), .ref (r0 4), .ref (r0 5), .ref (r0 6), .ref (r0 7), .ref (r0 8), .ref (r0 9), .int m_hasPicture, .int m_frames, .int m_taken, .ref (r0 10), .ref (r0 11), .ref (r0 12), .int m_many, .ref (r0 13), .ref (r0 14), .ref (r0 15), .ref (r0 16), .ref (r0 17), .ref (r0 18), .ref (r0 19), .ref (r0 20), .ref (r0 21), .ref (r0 22), .int m_due, .ref (r0 23), .ref (r0 24), .ref (r0 25), .ref (r0 26), .ref (r0 27), .ref (r0 28), .ref (r0 29)], aI (r0 2) cI 8 m_scales, aI (r0 3) cI 16 m_steps, aI (r0 10) cI 2304 m_previous, aI (r0 11) cI 2304 m_golden, aI (r0 12) cI 2304 m_made_42, aI (r0 13) cI 36 m_order, aI (r0 18) cI 36 m_newModes, aI (r0 19) cI 36 m_newAcross, aI (r0 20) cI 36 m_newDown, aI (r0 22) cI 2304 m_numbers, aJ (r0 24) cJ 64 m_square_43, aJ (r0 25) cJ 64 m_rows_44, aI (r0 26) cI 64 m_added_45, aI (r0 27) cI 8 m_waves] []) H46 → va_D A (wf [oB (r0 0) 7 [.int m_thrown, .ref (r0 1), .int m_length, .int m_at, .int m_fault, .int m_hasHeader, .int m_width, .int m_height, .int m_limit, .ref (r0 2), .ref (r0 3), .ref (r0 4), .ref (r0 5), .ref (r0 6), .ref (r0 7), .ref (r0 8), .ref (r0 9), .int m_hasPicture, .int m_frames, .int m_taken, .ref (r0 10), .ref (r0 11), .ref (r0 12), .int m_many, .ref (r0 13), .ref (r0 14), .ref (r0 15), .ref (r0 16), .ref (r0 17), .ref (r0 18), .ref (r0 19), .ref (r0 20), .ref (r0 21), .ref (r0 22), .int m_due, .ref (r0 23), .ref (r0 24), .ref (r0 25), .ref (r0 26), .ref (r0 27), .ref (r0 28), .ref (r0 29)], aI (r0 2) cI 8 m_scales, aI (r0 3) cI 16 m_steps, aI (r0 10) cI 2304 m_previous, aI (r0 11) cI 2304 m_golden, aI (r0 12) cI 2304 m_made_42, aI (r0 13) cI 36 m_order, aI (r0 18) cI 36 m_newModes, aI (r0 19) cI 36 m_newAcross, aI (r0 20) cI 36 m_newDown, aI (r0 22) cI 2304 m_numbers, aJ (r0 24) cJ 64 m_square_43, aJ (r0 25) cJ 64 m_rows_44, aI (r0 26) cI 64 m_added_45, aI (r0 27) cI 8 m_waves] []) → va_S A s.heap H46 lc46 → lv_has ls46 7 [(0, .ref (r0 0)), (1, .int x1), (2, .int v2_28)] → W p l e rm_X7_paint s m args below meth c H46 lc46 0 0 QQ (F0 m 142 ls46 []) := by
          intro m_made_42 m_square_43 m_rows_44 m_added_45 H46 lc46 ls46 hm47 hP46 hD46 hS46 hl46
          rw [ek41] at hm47
          obtain ⟨v2_48, ev2_48, hm49⟩ := nm_some hm47; clear hm47
          refine lv_iinc (v := v2_48) (lv' := [(2, .int v2_48), (0, .ref (r0 0)), (1, .int x1)]) hx hb dX7_paint_142 hl46 (k := 2) rfl (by rw [ev2_48]; rfl) (by decide) rfl (fun ls50 hl50 => ?_); clear hl46
          refine lv_goto (tgt := 29) hx hb dX7_paint_145 (by decide) ?_
          exact ih m_made_42 m_square_43 m_rows_44 m_added_45 v2_48 _ _ _ _ hm49 hP46 hD46 hS46 (lv_sub hl50 [1, 2, 0] rfl) kx
        refine lv_if_le (tgt := 142) hx hb dX7_paint_50 (by decide) (fun hc51 => ?_) (fun hc51 => ?_)
        · have hm52 := bq_t hm41 hc51; clear hm41
          exact KJ41 m_made_24 m_square_25 m_rows_26 m_added_27 _ _ _ hm52 hP29 hD29 hS29 (lv_sub hl38 [1, 2, 3] rfl)
        · have hm53 := bq_f hm41 hc51; clear hm41
          refine lv_aload_n hx hb dX7_paint_53 rfl (lv_at hl38 1 rfl) ?_
          refine lv_iload_n hx hb dX7_paint_54 rfl (lv_at hl38 0 rfl) ?_
          refine lv_iload_n hx hb dX7_paint_55 rfl (lv_at hl38 2 rfl) ?_
          obtain ⟨m_square_54, m_rows_55, m_added_56, hcl57, hm57⟩ := bd3_some hm53; clear hm53
          have sb58 := ctS.mk (n := 15) (k := 0) (pre := [oB (r0 0) 7 [.int m_thrown, .ref (r0 1), .int m_length, .int m_at, .int m_fault, .int m_hasHeader, .int m_width, .int m_height, .int m_limit, .ref (r0 2), .ref (r0 3), .ref (r0 4), .ref (r0 5), .ref (r0 6), .ref (r0 7), .ref (r0 8), .ref (r0 9), .int m_hasPicture, .int m_frames, .int m_taken, .ref (r0 10), .ref (r0 11), .ref (r0 12), .int m_many, .ref (r0 13), .ref (r0 14), .ref (r0 15), .ref (r0 16), .ref (r0 17), .ref (r0 18), .ref (r0 19), .ref (r0 20), .ref (r0 21), .ref (r0 22), .int m_due, .ref (r0 23), .ref (r0 24), .ref (r0 25), .ref (r0 26), .ref (r0 27), .ref (r0 28), .ref (r0 29)], aI (r0 2) cI 8 m_scales, aI (r0 3) cI 16 m_steps, aI (r0 10) cI 2304 m_previous, aI (r0 11) cI 2304 m_golden, aI (r0 12) cI 2304 m_made_24, aI (r0 13) cI 36 m_order, aI (r0 18) cI 36 m_newModes, aI (r0 19) cI 36 m_newAcross, aI (r0 20) cI 36 m_newDown, aI (r0 22) cI 2304 m_numbers, aJ (r0 24) cJ 64 m_square_25, aJ (r0 25) cJ 64 m_rows_26, aI (r0 26) cI 64 m_added_27, aI (r0 27) cI 8 m_waves]) (tl := []) [0, 1, 2, 10, 11, 12, 13, 14] [3, 4, 5, 6, 7, 8, 9] [] [] rfl rfl (by decide +kernel) (by decide +kernel)
          refine ct_callv E sb58 hP29 hD29 hS29 (va_runV (As := [.int v3_36, .int x1]) (rest := []) ⟨hx, hb, hml, hown, hts⟩ (c_X7_add l D cB cI cJ cQ N r0 H29.size v3_36 x1 m_thrown m_length m_at m_fault m_hasHeader m_width m_height m_limit m_hasPicture m_frames m_taken m_many m_due m_scales m_steps m_numbers m_square_25 m_rows_26 m_added_27 m_waves (m_square_54, m_rows_55, m_added_56) hcl57) (cwV 2 hts gX7_paint_X7_add rfl rfl rfl cdV_X7_add ⟨Nat.le_of_ble_eq_true rfl, Nat.le_of_ble_eq_true rfl⟩) (ct_preV (q0 := 0) (ci := 7) E sb58 hP29 hD29 hS29 rfl rfl) rfl rfl hl38.1 rfl (lv_room (Nat.le_of_ble_eq_true rfl)) dX7_paint_56 ⟨Nat.zero_le _, Nat.zero_le _⟩) (fun H59 lc59 hP59 hD59 hS59 => ?_); clear sb58 hcl57
          clear hP29 hD29 hS29
          have hP59 : va_P D vwCl (wf [aI (r0 10) cI 2304 m_previous, aI (r0 11) cI 2304 m_golden, aI (r0 12) cI 2304 m_made_24, aI (r0 13) cI 36 m_order, aI (r0 18) cI 36 m_newModes, aI (r0 19) cI 36 m_newAcross, aI (r0 20) cI 36 m_newDown, oB (r0 0) 7 [.int m_thrown, .ref (r0 1), .int m_length, .int m_at, .int m_fault, .int m_hasHeader, .int m_width, .int m_height, .int m_limit, .ref (r0 2), .ref (r0 3), .ref (r0 4), .ref (r0 5), .ref (r0 6), .ref (r0 7), .ref (r0 8), .ref (r0 9), .int m_hasPicture, .int m_frames, .int m_taken, .ref (r0 10), .ref (r0 11), .ref (r0 12), .int m_many, .ref (r0 13), .ref (r0 14), .ref (r0 15), .ref (r0 16), .ref (r0 17), .ref (r0 18), .ref (r0 19), .ref (r0 20), .ref (r0 21), .ref (r0 22), .int m_due, .ref (r0 23), .ref (r0 24), .ref (r0 25), .ref (r0 26), .ref (r0 27), .ref (r0 28), .ref (r0 29)], aI (r0 2) cI 8 m_scales, aI (r0 3) cI 16 m_steps, aI (r0 22) cI 2304 m_numbers, aJ (r0 24) cJ 64 m_square_54, aJ (r0 25) cJ 64 m_rows_55, aI (r0 26) cI 64 m_added_56, aI (r0 27) cI 8 m_waves] []) H59 := hP59
          have hD59 : va_D A (wf [aI (r0 10) cI 2304 m_previous, aI (r0 11) cI 2304 m_golden, aI (r0 12) cI 2304 m_made_24, aI (r0 13) cI 36 m_order, aI (r0 18) cI 36 m_newModes, aI (r0 19) cI 36 m_newAcross, aI (r0 20) cI 36 m_newDown, oB (r0 0) 7 [.int m_thrown, .ref (r0 1), .int m_length, .int m_at, .int m_fault, .int m_hasHeader, .int m_width, .int m_height, .int m_limit, .ref (r0 2), .ref (r0 3), .ref (r0 4), .ref (r0 5), .ref (r0 6), .ref (r0 7), .ref (r0 8), .ref (r0 9), .int m_hasPicture, .int m_frames, .int m_taken, .ref (r0 10), .ref (r0 11), .ref (r0 12), .int m_many, .ref (r0 13), .ref (r0 14), .ref (r0 15), .ref (r0 16), .ref (r0 17), .ref (r0 18), .ref (r0 19), .ref (r0 20), .ref (r0 21), .ref (r0 22), .int m_due, .ref (r0 23), .ref (r0 24), .ref (r0 25), .ref (r0 26), .ref (r0 27), .ref (r0 28), .ref (r0 29)], aI (r0 2) cI 8 m_scales, aI (r0 3) cI 16 m_steps, aI (r0 22) cI 2304 m_numbers, aJ (r0 24) cJ 64 m_square_54, aJ (r0 25) cJ 64 m_rows_55, aI (r0 26) cI 64 m_added_56, aI (r0 27) cI 8 m_waves] []) := hD59
          refine lv_iconst (v := 0) hx hb dX7_paint_59 (by decide) ?_
          refine lv_istore (lv' := [(4, .int (0 : Int32)), (3, .int v3_36), (0, .ref (r0 0)), (1, .int x1), (2, .int v2_28)]) hx hb dX7_paint_60 hl38 (by decide) rfl (fun ls60 hl60 => ?_); clear hl38
          obtain ⟨m_made_93, hlp61, hm94⟩ := bd1_some hm57; clear hm57
          have LP61 : ∀ (n : Nat) (m_made_62 : Nat → Int32) (v4_63 : Int32) (z61 : (Nat → Int32)) (H64 : Heap) (lc64 : List Loc) (ls64 : Array Slot), f_X7_paint_L62 m_width m_height m_previous m_golden m_newModes m_newAcross m_newDown v3_36 m_added_56 n m_made_62 v4_63 = some z61 → va_P D vwCl (wf [aI (r0 10) cI 2304 m_previous, aI (r0 11) cI 2304 m_golden, aI (r0 12) cI 2304 m_made_62, aI (r0 13) cI 36 m_order, aI (r0 18) cI 36 m_newModes, aI (r0 19) cI 36 m_newAcross, aI (r0 20) cI 36 m_newDown, oB (r0 0) 7 [.int m_thrown, .ref (r0 1), .int m_length, .int m_at, .int m_fault, .int m_hasHeader, .int m_width, .int m_height, .int m_limit, .ref (r0 2), .ref (r0 3), .ref (r0 4), .ref (r0 5), .ref (r0 6), .ref (r0 7), .ref (r0 8), .ref (r0 9), .int m_hasPicture, .int m_frames, .int m_taken, .ref (r0 10), .ref (r0 11), .ref (r0 12), .int m_many, .ref (r0 13), .ref (r0 14), .ref (r0 15), .ref (r0 16), .ref (r0 17), .ref (r0 18), .ref (r0 19), .ref (r0 20), .ref (r0 21), .ref (r0 22), .int m_due, .ref (r0 23), .ref (r0 24), .ref (r0 25), .ref (r0 26), .ref (r0 27), .ref (r0 28), .ref (r0 29)], aI (r0 2) cI 8 m_scales, aI (r0 3) cI 16 m_steps, aI (r0 22) cI 2304 m_numbers, aJ (r0 24) cJ 64 m_square_54, aJ (r0 25) cJ 64 m_rows_55, aI (r0 26) cI 64 m_added_56, aI (r0 27) cI 8 m_waves] []) H64 → va_D A (wf [aI (r0 10) cI 2304 m_previous, aI (r0 11) cI 2304 m_golden, aI (r0 12) cI 2304 m_made_62, aI (r0 13) cI 36 m_order, aI (r0 18) cI 36 m_newModes, aI (r0 19) cI 36 m_newAcross, aI (r0 20) cI 36 m_newDown, oB (r0 0) 7 [.int m_thrown, .ref (r0 1), .int m_length, .int m_at, .int m_fault, .int m_hasHeader, .int m_width, .int m_height, .int m_limit, .ref (r0 2), .ref (r0 3), .ref (r0 4), .ref (r0 5), .ref (r0 6), .ref (r0 7), .ref (r0 8), .ref (r0 9), .int m_hasPicture, .int m_frames, .int m_taken, .ref (r0 10), .ref (r0 11), .ref (r0 12), .int m_many, .ref (r0 13), .ref (r0 14), .ref (r0 15), .ref (r0 16), .ref (r0 17), .ref (r0 18), .ref (r0 19), .ref (r0 20), .ref (r0 21), .ref (r0 22), .int m_due, .ref (r0 23), .ref (r0 24), .ref (r0 25), .ref (r0 26), .ref (r0 27), .ref (r0 28), .ref (r0 29)], aI (r0 2) cI 8 m_scales, aI (r0 3) cI 16 m_steps, aI (r0 22) cI 2304 m_numbers, aJ (r0 24) cJ 64 m_square_54, aJ (r0 25) cJ 64 m_rows_55, aI (r0 26) cI 64 m_added_56, aI (r0 27) cI 8 m_waves] []) → va_S A s.heap H64 lc64 → lv_has ls64 7 [(0, .ref (r0 0)), (1, .int x1), (2, .int v2_28), (3, .int v3_36), (4, .int v4_63)] → (∀ (H : Heap) (lc : List Loc) (ls : Array Slot), va_P D vwCl (wf [aI (r0 10) cI 2304 m_previous, aI (r0 11) cI 2304 m_golden, aI (r0 12) cI 2304 z61, aI (r0 13) cI 36 m_order, aI (r0 18) cI 36 m_newModes, aI (r0 19) cI 36 m_newAcross, aI (r0 20) cI 36 m_newDown, oB (r0 0) 7 [.int m_thrown, .ref (r0 1), .int m_length, .int m_at, .int m_fault, .int m_hasHeader, .int m_width, .int m_height, .int m_limit, .ref (r0 2), .ref (r0 3), .ref (r0 4), .ref (r0 5), .ref (r0 6), .ref (r0 7), .ref (r0 8), .ref (r0 9), .int m_hasPicture, .int m_frames, .int m_taken, .ref (r0 10), .ref (r0 11), .ref (r0 12), .int m_many, .ref (r0 13), .ref (r0 14), .ref (r0 15), .ref (r0 16), .ref (r0 17), .ref (r0 18), .ref (r0 19), .ref (r0 20), .ref (r0 21), .ref (r0 22), .int m_due, .ref (r0 23), .ref (r0 24), .ref (r0 25), .ref (r0 26), .ref (r0 27), .ref (r0 28), .ref (r0 29)], aI (r0 2) cI 8 m_scales, aI (r0 3) cI 16 m_steps, aI (r0 22) cI 2304 m_numbers, aJ (r0 24) cJ 64 m_square_54, aJ (r0 25) cJ 64 m_rows_55, aI (r0 26) cI 64 m_added_56, aI (r0 27) cI 8 m_waves] []) H → va_D A (wf [aI (r0 10) cI 2304 m_previous, aI (r0 11) cI 2304 m_golden, aI (r0 12) cI 2304 z61, aI (r0 13) cI 36 m_order, aI (r0 18) cI 36 m_newModes, aI (r0 19) cI 36 m_newAcross, aI (r0 20) cI 36 m_newDown, oB (r0 0) 7 [.int m_thrown, .ref (r0 1), .int m_length, .int m_at, .int m_fault, .int m_hasHeader, .int m_width, .int m_height, .int m_limit, .ref (r0 2), .ref (r0 3), .ref (r0 4), .ref (r0 5), .ref (r0 6), .ref (r0 7), .ref (r0 8), .ref (r0 9), .int m_hasPicture, .int m_frames, .int m_taken, .ref (r0 10), .ref (r0 11), .ref (r0 12), .int m_many, .ref (r0 13), .ref (r0 14), .ref (r0 15), .ref (r0 16), .ref (r0 17), .ref (r0 18), .ref (r0 19), .ref (r0 20), .ref (r0 21), .ref (r0 22), .int m_due, .ref (r0 23), .ref (r0 24), .ref (r0 25), .ref (r0 26), .ref (r0 27), .ref (r0 28), .ref (r0 29)], aI (r0 2) cI 8 m_scales, aI (r0 3) cI 16 m_steps, aI (r0 22) cI 2304 m_numbers, aJ (r0 24) cJ 64 m_square_54, aJ (r0 25) cJ 64 m_rows_55, aI (r0 26) cI 64 m_added_56, aI (r0 27) cI 8 m_waves] []) → va_S A s.heap H lc → lv_has ls 7 [(0, .ref (r0 0)), (1, .int x1), (2, .int v2_28)] → W p l e rm_X7_paint s m args below meth c H lc 0 0 QQ (F0 m 142 ls [])) → W p l e rm_X7_paint s m args below meth c H64 lc64 0 0 QQ (F0 m 62 ls64 []) := by
            intro n
            induction n with
            | zero =>
              intro m_made_62 v4_63 z61 H64 lc64 ls64 hm66; simp [f_X7_paint_L62] at hm66
            | succ n ih =>
              intro m_made_62 v4_63 z61 H64 lc64 ls64 hm66 hP64 hD64 hS64 hl64 kx
              rw [f_X7_paint_L62] at hm66
              refine lv_iload hx hb dX7_paint_62 (lv_at hl64 4 rfl) ?_
              refine lv_bipush (v := 64) hx hb dX7_paint_64 (by decide) ?_
              refine lv_icmp_ge (tgt := 142) hx hb dX7_paint_66 (by decide) (fun hc67 => ?_) (fun hc67 => ?_)
              · have hm68 := bq_t hm66 hc67; clear hm66
                obtain rfl := Option.some.inj hm68
                exact kx _ _ _ hP64 hD64 hS64 (lv_sub hl64 [0, 1, 2] rfl)
              · have hm69 := bq_f hm66 hc67; clear hm66
                refine lv_bipush (v := 8) hx hb dX7_paint_69 (by decide) ?_
                refine lv_iload_n hx hb dX7_paint_71 rfl (lv_at hl64 3 rfl) ?_
                refine lv_bipush (v := 6) hx hb dX7_paint_72 (by decide) ?_
                refine lv_irem hx hb dX7_paint_74 (by decide) ?_
                refine lv_imul hx hb dX7_paint_75 ?_
                refine lv_iload hx hb dX7_paint_76 (lv_at hl64 4 rfl) ?_
                refine lv_bipush (v := 8) hx hb dX7_paint_78 (by decide) ?_
                refine lv_irem hx hb dX7_paint_80 (by decide) ?_
                refine lv_iadd hx hb dX7_paint_81 ?_
                obtain ⟨v5_70, ev5_70, hm71⟩ := nm_some hm69; clear hm69
                refine ct_topi ev5_70 ?_
                refine lv_istore (lv' := [(5, .int v5_70), (0, .ref (r0 0)), (1, .int x1), (2, .int v2_28), (3, .int v3_36), (4, .int v4_63)]) hx hb dX7_paint_82 hl64 (by decide) rfl (fun ls72 hl72 => ?_); clear hl64
                refine lv_bipush (v := 8) hx hb dX7_paint_84 (by decide) ?_
                refine lv_iload_n hx hb dX7_paint_86 rfl (lv_at hl72 4 rfl) ?_
                refine lv_bipush (v := 6) hx hb dX7_paint_87 (by decide) ?_
                refine lv_idiv hx hb dX7_paint_89 (by decide) ?_
                refine lv_imul hx hb dX7_paint_90 ?_
                refine lv_iload hx hb dX7_paint_91 (lv_at hl72 5 rfl) ?_
                refine lv_bipush (v := 8) hx hb dX7_paint_93 (by decide) ?_
                refine lv_idiv hx hb dX7_paint_95 (by decide) ?_
                refine lv_iadd hx hb dX7_paint_96 ?_
                obtain ⟨v6_73, ev6_73, hm74⟩ := nm_some hm71; clear hm71
                refine ct_topi ev6_73 ?_
                refine lv_istore (lv' := [(6, .int v6_73), (5, .int v5_70), (0, .ref (r0 0)), (1, .int x1), (2, .int v2_28), (3, .int v3_36), (4, .int v4_63)]) hx hb dX7_paint_97 hl72 (by decide) rfl (fun ls75 hl75 => ?_); clear hl72
                refine lv_aload_n hx hb dX7_paint_99 rfl (lv_at hl75 2 rfl) ?_
                refine va_get (D := D) (ci := 7) (v := .ref (r0 12)) (C := RX7) (T := TX7) (N := 42) hx hb hts hi_X7_paint_7 hown E.1 hP64 7 rfl rfl 22 (by decide) (hts _ (List.mem_of_getElem? (i := 1) rfl)) (fun _ h9 => h9) rfl dX7_paint_100 ?_
                refine lv_bipush (v := 48) hx hb dX7_paint_103 (by decide) ?_
                refine lv_iload hx hb dX7_paint_105 (lv_at hl75 0 rfl) ?_
                refine lv_imul hx hb dX7_paint_107 ?_
                refine lv_iload hx hb dX7_paint_108 (lv_at hl75 1 rfl) ?_
                refine lv_iadd hx hb dX7_paint_110 ?_
                refine lv_aload_n hx hb dX7_paint_111 rfl (lv_at hl75 2 rfl) ?_
                refine lv_iload_n hx hb dX7_paint_112 rfl (lv_at hl75 5 rfl) ?_
                refine lv_iload hx hb dX7_paint_113 (lv_at hl75 1 rfl) ?_
                refine lv_iload hx hb dX7_paint_115 (lv_at hl75 0 rfl) ?_
                obtain ⟨y_76, hcl77, hm77⟩ := bd1_some hm74; clear hm74
                have sb78 := ctS.mk (n := 15) (k := 0) (pre := [aI (r0 10) cI 2304 m_previous, aI (r0 11) cI 2304 m_golden, aI (r0 12) cI 2304 m_made_62, aI (r0 13) cI 36 m_order, aI (r0 18) cI 36 m_newModes, aI (r0 19) cI 36 m_newAcross, aI (r0 20) cI 36 m_newDown, oB (r0 0) 7 [.int m_thrown, .ref (r0 1), .int m_length, .int m_at, .int m_fault, .int m_hasHeader, .int m_width, .int m_height, .int m_limit, .ref (r0 2), .ref (r0 3), .ref (r0 4), .ref (r0 5), .ref (r0 6), .ref (r0 7), .ref (r0 8), .ref (r0 9), .int m_hasPicture, .int m_frames, .int m_taken, .ref (r0 10), .ref (r0 11), .ref (r0 12), .int m_many, .ref (r0 13), .ref (r0 14), .ref (r0 15), .ref (r0 16), .ref (r0 17), .ref (r0 18), .ref (r0 19), .ref (r0 20), .ref (r0 21), .ref (r0 22), .int m_due, .ref (r0 23), .ref (r0 24), .ref (r0 25), .ref (r0 26), .ref (r0 27), .ref (r0 28), .ref (r0 29)], aI (r0 2) cI 8 m_scales, aI (r0 3) cI 16 m_steps, aI (r0 22) cI 2304 m_numbers, aJ (r0 24) cJ 64 m_square_54, aJ (r0 25) cJ 64 m_rows_55, aI (r0 26) cI 64 m_added_56, aI (r0 27) cI 8 m_waves]) (tl := []) [7, 0, 1, 4, 5, 6] [2, 3, 8, 9, 10, 11, 12, 13, 14] [] [] rfl rfl (by decide +kernel) (by decide +kernel)
                refine ct_calli (r := y_76) E sb78 hP64 hD64 hS64 (va_runV (As := [.int v3_36, .int v5_70, .int v6_73]) (rest := [.int (((48 : Int32) * v6_73) + v5_70), .ref (r0 12)]) ⟨hx, hb, hml, hown, hts⟩ (c_X7_base l D cB cI cJ cQ N r0 H64.size v3_36 v5_70 v6_73 m_thrown m_length m_at m_fault m_hasHeader m_width m_height m_limit m_hasPicture m_frames m_taken m_many m_due m_previous m_golden m_newModes m_newAcross m_newDown (y_76) hcl77) (cwV 3 hts gX7_paint_X7_base rfl rfl rfl cdV_X7_base ⟨Nat.le_of_ble_eq_true rfl, Nat.le_of_ble_eq_true rfl⟩) (ct_preV (q0 := 7) (ci := 7) E sb78 hP64 hD64 hS64 rfl rfl) rfl rfl hl75.1 rfl (lv_room (Nat.le_of_ble_eq_true rfl)) dX7_paint_117 ⟨Nat.zero_le _, Nat.zero_le _⟩) (fun H79 lc79 hP79 hD79 hS79 => ?_); clear sb78 hcl77
                clear hP64 hD64 hS64
                have hP79 : va_P D vwCl (wf [aI (r0 12) cI 2304 m_made_62, aI (r0 13) cI 36 m_order, aI (r0 2) cI 8 m_scales, aI (r0 3) cI 16 m_steps, aI (r0 22) cI 2304 m_numbers, aJ (r0 24) cJ 64 m_square_54, aJ (r0 25) cJ 64 m_rows_55, aI (r0 26) cI 64 m_added_56, aI (r0 27) cI 8 m_waves, oB (r0 0) 7 [.int m_thrown, .ref (r0 1), .int m_length, .int m_at, .int m_fault, .int m_hasHeader, .int m_width, .int m_height, .int m_limit, .ref (r0 2), .ref (r0 3), .ref (r0 4), .ref (r0 5), .ref (r0 6), .ref (r0 7), .ref (r0 8), .ref (r0 9), .int m_hasPicture, .int m_frames, .int m_taken, .ref (r0 10), .ref (r0 11), .ref (r0 12), .int m_many, .ref (r0 13), .ref (r0 14), .ref (r0 15), .ref (r0 16), .ref (r0 17), .ref (r0 18), .ref (r0 19), .ref (r0 20), .ref (r0 21), .ref (r0 22), .int m_due, .ref (r0 23), .ref (r0 24), .ref (r0 25), .ref (r0 26), .ref (r0 27), .ref (r0 28), .ref (r0 29)], aI (r0 10) cI 2304 m_previous, aI (r0 11) cI 2304 m_golden, aI (r0 18) cI 36 m_newModes, aI (r0 19) cI 36 m_newAcross, aI (r0 20) cI 36 m_newDown] []) H79 := hP79
                have hD79 : va_D A (wf [aI (r0 12) cI 2304 m_made_62, aI (r0 13) cI 36 m_order, aI (r0 2) cI 8 m_scales, aI (r0 3) cI 16 m_steps, aI (r0 22) cI 2304 m_numbers, aJ (r0 24) cJ 64 m_square_54, aJ (r0 25) cJ 64 m_rows_55, aI (r0 26) cI 64 m_added_56, aI (r0 27) cI 8 m_waves, oB (r0 0) 7 [.int m_thrown, .ref (r0 1), .int m_length, .int m_at, .int m_fault, .int m_hasHeader, .int m_width, .int m_height, .int m_limit, .ref (r0 2), .ref (r0 3), .ref (r0 4), .ref (r0 5), .ref (r0 6), .ref (r0 7), .ref (r0 8), .ref (r0 9), .int m_hasPicture, .int m_frames, .int m_taken, .ref (r0 10), .ref (r0 11), .ref (r0 12), .int m_many, .ref (r0 13), .ref (r0 14), .ref (r0 15), .ref (r0 16), .ref (r0 17), .ref (r0 18), .ref (r0 19), .ref (r0 20), .ref (r0 21), .ref (r0 22), .int m_due, .ref (r0 23), .ref (r0 24), .ref (r0 25), .ref (r0 26), .ref (r0 27), .ref (r0 28), .ref (r0 29)], aI (r0 10) cI 2304 m_previous, aI (r0 11) cI 2304 m_golden, aI (r0 18) cI 36 m_newModes, aI (r0 19) cI 36 m_newAcross, aI (r0 20) cI 36 m_newDown] []) := hD79
                refine lv_aload_n hx hb dX7_paint_120 rfl (lv_at hl75 2 rfl) ?_
                refine va_get (D := D) (ci := 7) (v := .ref (r0 26)) (C := RX7) (T := TX7) (N := 42) hx hb hts hi_X7_paint_7 hown E.1 hP79 9 rfl rfl 38 (by decide) (hts _ (List.mem_of_getElem? (i := 6) rfl)) (fun _ h9 => h9) rfl dX7_paint_121 ?_
                refine lv_iload hx hb dX7_paint_124 (lv_at hl75 6 rfl) ?_
                obtain ⟨hin80, hm80⟩ := gi_some hm77; clear hm77
                refine va_iald hx hb E.1 hP79 7 0 rfl rfl hin80 dX7_paint_126 ?_
                refine lv_iadd hx hb dX7_paint_127 ?_
                refine lv_iconst (v := 0) hx hb dX7_paint_128 (by decide) ?_
                refine lv_sipush (v := 255) hx hb dX7_paint_129 (by decide) ?_
                obtain ⟨y_81, hcl82, hm82⟩ := bd1_some hm80; clear hm80
                have sb83 := ctS.mk (n := 15) (k := 0) (pre := [aI (r0 12) cI 2304 m_made_62, aI (r0 13) cI 36 m_order, aI (r0 2) cI 8 m_scales, aI (r0 3) cI 16 m_steps, aI (r0 22) cI 2304 m_numbers, aJ (r0 24) cJ 64 m_square_54, aJ (r0 25) cJ 64 m_rows_55, aI (r0 26) cI 64 m_added_56, aI (r0 27) cI 8 m_waves, oB (r0 0) 7 [.int m_thrown, .ref (r0 1), .int m_length, .int m_at, .int m_fault, .int m_hasHeader, .int m_width, .int m_height, .int m_limit, .ref (r0 2), .ref (r0 3), .ref (r0 4), .ref (r0 5), .ref (r0 6), .ref (r0 7), .ref (r0 8), .ref (r0 9), .int m_hasPicture, .int m_frames, .int m_taken, .ref (r0 10), .ref (r0 11), .ref (r0 12), .int m_many, .ref (r0 13), .ref (r0 14), .ref (r0 15), .ref (r0 16), .ref (r0 17), .ref (r0 18), .ref (r0 19), .ref (r0 20), .ref (r0 21), .ref (r0 22), .int m_due, .ref (r0 23), .ref (r0 24), .ref (r0 25), .ref (r0 26), .ref (r0 27), .ref (r0 28), .ref (r0 29)], aI (r0 10) cI 2304 m_previous, aI (r0 11) cI 2304 m_golden, aI (r0 18) cI 36 m_newModes, aI (r0 19) cI 36 m_newAcross, aI (r0 20) cI 36 m_newDown]) (tl := []) [] [0, 1, 2, 3, 4, 5, 6, 7, 8, 9, 10, 11, 12, 13, 14] [] [] rfl rfl (by decide +kernel) (by decide +kernel)
                refine ct_calli (r := y_81) E sb83 hP79 hD79 hS79 (va_runS (As := [.int (y_76 + (m_added_56 v4_63.toNatClampNeg)), .int (0 : Int32), .int (255 : Int32)]) (rest := [.int (((48 : Int32) * v6_73) + v5_70), .ref (r0 12)]) ⟨hx, hb, hml, hown, hts⟩ (c_X7_within l D cB cI cJ cQ N H79.size (y_76 + (m_added_56 v4_63.toNatClampNeg)) (0 : Int32) (255 : Int32) (y_81) hcl82) (va_cwS 3 hts gX7_paint_X7_within rfl rfl rfl cdS_X7_within ⟨Nat.le_of_ble_eq_true rfl, Nat.le_of_ble_eq_true rfl⟩) (ct_preS E sb83 hP79 hD79 hS79) rfl rfl hl75.1 rfl (lv_room (Nat.le_of_ble_eq_true rfl)) dX7_paint_132 ⟨Nat.zero_le _, Nat.zero_le _⟩) (fun H84 lc84 hP84 hD84 hS84 => ?_); clear sb83 hcl82
                clear hP79 hD79 hS79
                have hP84 : va_P D vwCl (wf [aI (r0 12) cI 2304 m_made_62, aI (r0 13) cI 36 m_order, aI (r0 2) cI 8 m_scales, aI (r0 3) cI 16 m_steps, aI (r0 22) cI 2304 m_numbers, aJ (r0 24) cJ 64 m_square_54, aJ (r0 25) cJ 64 m_rows_55, aI (r0 26) cI 64 m_added_56, aI (r0 27) cI 8 m_waves, oB (r0 0) 7 [.int m_thrown, .ref (r0 1), .int m_length, .int m_at, .int m_fault, .int m_hasHeader, .int m_width, .int m_height, .int m_limit, .ref (r0 2), .ref (r0 3), .ref (r0 4), .ref (r0 5), .ref (r0 6), .ref (r0 7), .ref (r0 8), .ref (r0 9), .int m_hasPicture, .int m_frames, .int m_taken, .ref (r0 10), .ref (r0 11), .ref (r0 12), .int m_many, .ref (r0 13), .ref (r0 14), .ref (r0 15), .ref (r0 16), .ref (r0 17), .ref (r0 18), .ref (r0 19), .ref (r0 20), .ref (r0 21), .ref (r0 22), .int m_due, .ref (r0 23), .ref (r0 24), .ref (r0 25), .ref (r0 26), .ref (r0 27), .ref (r0 28), .ref (r0 29)], aI (r0 10) cI 2304 m_previous, aI (r0 11) cI 2304 m_golden, aI (r0 18) cI 36 m_newModes, aI (r0 19) cI 36 m_newAcross, aI (r0 20) cI 36 m_newDown] []) H84 := hP84
                have hD84 : va_D A (wf [aI (r0 12) cI 2304 m_made_62, aI (r0 13) cI 36 m_order, aI (r0 2) cI 8 m_scales, aI (r0 3) cI 16 m_steps, aI (r0 22) cI 2304 m_numbers, aJ (r0 24) cJ 64 m_square_54, aJ (r0 25) cJ 64 m_rows_55, aI (r0 26) cI 64 m_added_56, aI (r0 27) cI 8 m_waves, oB (r0 0) 7 [.int m_thrown, .ref (r0 1), .int m_length, .int m_at, .int m_fault, .int m_hasHeader, .int m_width, .int m_height, .int m_limit, .ref (r0 2), .ref (r0 3), .ref (r0 4), .ref (r0 5), .ref (r0 6), .ref (r0 7), .ref (r0 8), .ref (r0 9), .int m_hasPicture, .int m_frames, .int m_taken, .ref (r0 10), .ref (r0 11), .ref (r0 12), .int m_many, .ref (r0 13), .ref (r0 14), .ref (r0 15), .ref (r0 16), .ref (r0 17), .ref (r0 18), .ref (r0 19), .ref (r0 20), .ref (r0 21), .ref (r0 22), .int m_due, .ref (r0 23), .ref (r0 24), .ref (r0 25), .ref (r0 26), .ref (r0 27), .ref (r0 28), .ref (r0 29)], aI (r0 10) cI 2304 m_previous, aI (r0 11) cI 2304 m_golden, aI (r0 18) cI 36 m_newModes, aI (r0 19) cI 36 m_newAcross, aI (r0 20) cI 36 m_newDown] []) := hD84
                obtain ⟨hin85, hm85⟩ := gi_some hm82; clear hm82
                obtain ⟨m_made_86, em_made_86, hm87⟩ := nm_some hm85; clear hm85
                refine ct_iast (g := m_made_86) (ws' := (wf [aI (r0 12) cI 2304 m_made_86, aI (r0 13) cI 36 m_order, aI (r0 2) cI 8 m_scales, aI (r0 3) cI 16 m_steps, aI (r0 22) cI 2304 m_numbers, aJ (r0 24) cJ 64 m_square_54, aJ (r0 25) cJ 64 m_rows_55, aI (r0 26) cI 64 m_added_56, aI (r0 27) cI 8 m_waves, oB (r0 0) 7 [.int m_thrown, .ref (r0 1), .int m_length, .int m_at, .int m_fault, .int m_hasHeader, .int m_width, .int m_height, .int m_limit, .ref (r0 2), .ref (r0 3), .ref (r0 4), .ref (r0 5), .ref (r0 6), .ref (r0 7), .ref (r0 8), .ref (r0 9), .int m_hasPicture, .int m_frames, .int m_taken, .ref (r0 10), .ref (r0 11), .ref (r0 12), .int m_many, .ref (r0 13), .ref (r0 14), .ref (r0 15), .ref (r0 16), .ref (r0 17), .ref (r0 18), .ref (r0 19), .ref (r0 20), .ref (r0 21), .ref (r0 22), .int m_due, .ref (r0 23), .ref (r0 24), .ref (r0 25), .ref (r0 26), .ref (r0 27), .ref (r0 28), .ref (r0 29)], aI (r0 10) cI 2304 m_previous, aI (r0 11) cI 2304 m_golden, aI (r0 18) cI 36 m_newModes, aI (r0 19) cI 36 m_newAcross, aI (r0 20) cI 36 m_newDown] [])) hx hb E.1 hP84 hD84 hS84 0 0 rfl rfl hin85 em_made_86 rfl dX7_paint_135 (fun H88 lc88 hP88 hD88 hS88 => ?_)
                clear hP84 hD84 hS84
                obtain ⟨v4_89, ev4_89, hm90⟩ := nm_some hm87; clear hm87
                refine lv_iinc (v := v4_89) (lv' := [(4, .int v4_89), (6, .int v6_73), (5, .int v5_70), (0, .ref (r0 0)), (1, .int x1), (2, .int v2_28), (3, .int v3_36)]) hx hb dX7_paint_136 hl75 (k := 6) rfl (by rw [ev4_89]; rfl) (by decide) rfl (fun ls91 hl91 => ?_); clear hl75
                refine lv_goto (tgt := 62) hx hb dX7_paint_139 (by decide) ?_
                obtain ⟨hP92, hD92⟩ := ct_ord (n := 15) (k := 0) [10, 11, 0, 1, 12, 13, 14, 9, 2, 3, 4, 5, 6, 7, 8] [] hP88 hD88 rfl rfl (by decide +kernel) (by decide +kernel)
                have hS92 := hS88
                have hP92 : va_P D vwCl (wf [aI (r0 10) cI 2304 m_previous, aI (r0 11) cI 2304 m_golden, aI (r0 12) cI 2304 m_made_86, aI (r0 13) cI 36 m_order, aI (r0 18) cI 36 m_newModes, aI (r0 19) cI 36 m_newAcross, aI (r0 20) cI 36 m_newDown, oB (r0 0) 7 [.int m_thrown, .ref (r0 1), .int m_length, .int m_at, .int m_fault, .int m_hasHeader, .int m_width, .int m_height, .int m_limit, .ref (r0 2), .ref (r0 3), .ref (r0 4), .ref (r0 5), .ref (r0 6), .ref (r0 7), .ref (r0 8), .ref (r0 9), .int m_hasPicture, .int m_frames, .int m_taken, .ref (r0 10), .ref (r0 11), .ref (r0 12), .int m_many, .ref (r0 13), .ref (r0 14), .ref (r0 15), .ref (r0 16), .ref (r0 17), .ref (r0 18), .ref (r0 19), .ref (r0 20), .ref (r0 21), .ref (r0 22), .int m_due, .ref (r0 23), .ref (r0 24), .ref (r0 25), .ref (r0 26), .ref (r0 27), .ref (r0 28), .ref (r0 29)], aI (r0 2) cI 8 m_scales, aI (r0 3) cI 16 m_steps, aI (r0 22) cI 2304 m_numbers, aJ (r0 24) cJ 64 m_square_54, aJ (r0 25) cJ 64 m_rows_55, aI (r0 26) cI 64 m_added_56, aI (r0 27) cI 8 m_waves] []) H88 := hP92
                have hD92 : va_D A (wf [aI (r0 10) cI 2304 m_previous, aI (r0 11) cI 2304 m_golden, aI (r0 12) cI 2304 m_made_86, aI (r0 13) cI 36 m_order, aI (r0 18) cI 36 m_newModes, aI (r0 19) cI 36 m_newAcross, aI (r0 20) cI 36 m_newDown, oB (r0 0) 7 [.int m_thrown, .ref (r0 1), .int m_length, .int m_at, .int m_fault, .int m_hasHeader, .int m_width, .int m_height, .int m_limit, .ref (r0 2), .ref (r0 3), .ref (r0 4), .ref (r0 5), .ref (r0 6), .ref (r0 7), .ref (r0 8), .ref (r0 9), .int m_hasPicture, .int m_frames, .int m_taken, .ref (r0 10), .ref (r0 11), .ref (r0 12), .int m_many, .ref (r0 13), .ref (r0 14), .ref (r0 15), .ref (r0 16), .ref (r0 17), .ref (r0 18), .ref (r0 19), .ref (r0 20), .ref (r0 21), .ref (r0 22), .int m_due, .ref (r0 23), .ref (r0 24), .ref (r0 25), .ref (r0 26), .ref (r0 27), .ref (r0 28), .ref (r0 29)], aI (r0 2) cI 8 m_scales, aI (r0 3) cI 16 m_steps, aI (r0 22) cI 2304 m_numbers, aJ (r0 24) cJ 64 m_square_54, aJ (r0 25) cJ 64 m_rows_55, aI (r0 26) cI 64 m_added_56, aI (r0 27) cI 8 m_waves] []) := hD92
                exact ih m_made_86 v4_89 _ _ _ _ hm90 hP92 hD92 hS92 (lv_sub hl91 [3, 4, 5, 6, 0] rfl) kx
          refine LP61 4000 m_made_24 (0 : Int32) (m_made_93) _ _ _ hlp61 hP59 hD59 hS59 (lv_sub hl60 [2, 3, 4, 1, 0] rfl) (fun H95 lc95 ls95 hP95 hD95 hS95 hl95 => ?_); clear LP61 hlp61
          clear hP59 hD59 hS59
          have hl95 : lv_has ls95 7 [(0, .ref (r0 0)), (1, .int x1), (2, .int v2_28)] := hl95
          have hP95 : va_P D vwCl (wf [aI (r0 10) cI 2304 m_previous, aI (r0 11) cI 2304 m_golden, aI (r0 12) cI 2304 m_made_93, aI (r0 13) cI 36 m_order, aI (r0 18) cI 36 m_newModes, aI (r0 19) cI 36 m_newAcross, aI (r0 20) cI 36 m_newDown, oB (r0 0) 7 [.int m_thrown, .ref (r0 1), .int m_length, .int m_at, .int m_fault, .int m_hasHeader, .int m_width, .int m_height, .int m_limit, .ref (r0 2), .ref (r0 3), .ref (r0 4), .ref (r0 5), .ref (r0 6), .ref (r0 7), .ref (r0 8), .ref (r0 9), .int m_hasPicture, .int m_frames, .int m_taken, .ref (r0 10), .ref (r0 11), .ref (r0 12), .int m_many, .ref (r0 13), .ref (r0 14), .ref (r0 15), .ref (r0 16), .ref (r0 17), .ref (r0 18), .ref (r0 19), .ref (r0 20), .ref (r0 21), .ref (r0 22), .int m_due, .ref (r0 23), .ref (r0 24), .ref (r0 25), .ref (r0 26), .ref (r0 27), .ref (r0 28), .ref (r0 29)], aI (r0 2) cI 8 m_scales, aI (r0 3) cI 16 m_steps, aI (r0 22) cI 2304 m_numbers, aJ (r0 24) cJ 64 m_square_54, aJ (r0 25) cJ 64 m_rows_55, aI (r0 26) cI 64 m_added_56, aI (r0 27) cI 8 m_waves] []) H95 := hP95
          have hD95 : va_D A (wf [aI (r0 10) cI 2304 m_previous, aI (r0 11) cI 2304 m_golden, aI (r0 12) cI 2304 m_made_93, aI (r0 13) cI 36 m_order, aI (r0 18) cI 36 m_newModes, aI (r0 19) cI 36 m_newAcross, aI (r0 20) cI 36 m_newDown, oB (r0 0) 7 [.int m_thrown, .ref (r0 1), .int m_length, .int m_at, .int m_fault, .int m_hasHeader, .int m_width, .int m_height, .int m_limit, .ref (r0 2), .ref (r0 3), .ref (r0 4), .ref (r0 5), .ref (r0 6), .ref (r0 7), .ref (r0 8), .ref (r0 9), .int m_hasPicture, .int m_frames, .int m_taken, .ref (r0 10), .ref (r0 11), .ref (r0 12), .int m_many, .ref (r0 13), .ref (r0 14), .ref (r0 15), .ref (r0 16), .ref (r0 17), .ref (r0 18), .ref (r0 19), .ref (r0 20), .ref (r0 21), .ref (r0 22), .int m_due, .ref (r0 23), .ref (r0 24), .ref (r0 25), .ref (r0 26), .ref (r0 27), .ref (r0 28), .ref (r0 29)], aI (r0 2) cI 8 m_scales, aI (r0 3) cI 16 m_steps, aI (r0 22) cI 2304 m_numbers, aJ (r0 24) cJ 64 m_square_54, aJ (r0 25) cJ 64 m_rows_55, aI (r0 26) cI 64 m_added_56, aI (r0 27) cI 8 m_waves] []) := hD95
          obtain ⟨hP96, hD96⟩ := ct_ord (n := 15) (k := 0) [7, 8, 9, 0, 1, 2, 3, 4, 5, 6, 10, 11, 12, 13, 14] [] hP95 hD95 rfl rfl (by decide +kernel) (by decide +kernel)
          have hS96 := hS95
          have hP96 : va_P D vwCl (wf [oB (r0 0) 7 [.int m_thrown, .ref (r0 1), .int m_length, .int m_at, .int m_fault, .int m_hasHeader, .int m_width, .int m_height, .int m_limit, .ref (r0 2), .ref (r0 3), .ref (r0 4), .ref (r0 5), .ref (r0 6), .ref (r0 7), .ref (r0 8), .ref (r0 9), .int m_hasPicture, .int m_frames, .int m_taken, .ref (r0 10), .ref (r0 11), .ref (r0 12), .int m_many, .ref (r0 13), .ref (r0 14), .ref (r0 15), .ref (r0 16), .ref (r0 17), .ref (r0 18), .ref (r0 19), .ref (r0 20), .ref (r0 21), .ref (r0 22), .int m_due, .ref (r0 23), .ref (r0 24), .ref (r0 25), .ref (r0 26), .ref (r0 27), .ref (r0 28), .ref (r0 29)], aI (r0 2) cI 8 m_scales, aI (r0 3) cI 16 m_steps, aI (r0 10) cI 2304 m_previous, aI (r0 11) cI 2304 m_golden, aI (r0 12) cI 2304 m_made_93, aI (r0 13) cI 36 m_order, aI (r0 18) cI 36 m_newModes, aI (r0 19) cI 36 m_newAcross, aI (r0 20) cI 36 m_newDown, aI (r0 22) cI 2304 m_numbers, aJ (r0 24) cJ 64 m_square_54, aJ (r0 25) cJ 64 m_rows_55, aI (r0 26) cI 64 m_added_56, aI (r0 27) cI 8 m_waves] []) H95 := hP96
          have hD96 : va_D A (wf [oB (r0 0) 7 [.int m_thrown, .ref (r0 1), .int m_length, .int m_at, .int m_fault, .int m_hasHeader, .int m_width, .int m_height, .int m_limit, .ref (r0 2), .ref (r0 3), .ref (r0 4), .ref (r0 5), .ref (r0 6), .ref (r0 7), .ref (r0 8), .ref (r0 9), .int m_hasPicture, .int m_frames, .int m_taken, .ref (r0 10), .ref (r0 11), .ref (r0 12), .int m_many, .ref (r0 13), .ref (r0 14), .ref (r0 15), .ref (r0 16), .ref (r0 17), .ref (r0 18), .ref (r0 19), .ref (r0 20), .ref (r0 21), .ref (r0 22), .int m_due, .ref (r0 23), .ref (r0 24), .ref (r0 25), .ref (r0 26), .ref (r0 27), .ref (r0 28), .ref (r0 29)], aI (r0 2) cI 8 m_scales, aI (r0 3) cI 16 m_steps, aI (r0 10) cI 2304 m_previous, aI (r0 11) cI 2304 m_golden, aI (r0 12) cI 2304 m_made_93, aI (r0 13) cI 36 m_order, aI (r0 18) cI 36 m_newModes, aI (r0 19) cI 36 m_newAcross, aI (r0 20) cI 36 m_newDown, aI (r0 22) cI 2304 m_numbers, aJ (r0 24) cJ 64 m_square_54, aJ (r0 25) cJ 64 m_rows_55, aI (r0 26) cI 64 m_added_56, aI (r0 27) cI 8 m_waves] []) := hD96
          exact KJ41 m_made_93 m_square_54 m_rows_55 m_added_56 _ _ _ hm94 hP96 hD96 hS96 (lv_sub hl95 [0, 1, 2] rfl)
  refine LP23 4000 m_made_19 m_square m_rows m_added (0 : Int32) (m_made_97, m_square_98, m_rows_99, m_added_100) _ _ _ hlp23 hP21 hD21 hS21 (lv_sub hl22 [1, 2, 0] rfl) (fun H102 lc102 ls102 hP102 hD102 hS102 hl102 => ?_); clear LP23 hlp23
  clear hP21 hD21 hS21
  have hl102 : lv_has ls102 7 [] := hl102
  have hP102 : va_P D vwCl (wf [oB (r0 0) 7 [.int m_thrown, .ref (r0 1), .int m_length, .int m_at, .int m_fault, .int m_hasHeader, .int m_width, .int m_height, .int m_limit, .ref (r0 2), .ref (r0 3), .ref (r0 4), .ref (r0 5), .ref (r0 6), .ref (r0 7), .ref (r0 8), .ref (r0 9), .int m_hasPicture, .int m_frames, .int m_taken, .ref (r0 10), .ref (r0 11), .ref (r0 12), .int m_many, .ref (r0 13), .ref (r0 14), .ref (r0 15), .ref (r0 16), .ref (r0 17), .ref (r0 18), .ref (r0 19), .ref (r0 20), .ref (r0 21), .ref (r0 22), .int m_due, .ref (r0 23), .ref (r0 24), .ref (r0 25), .ref (r0 26), .ref (r0 27), .ref (r0 28), .ref (r0 29)], aI (r0 2) cI 8 m_scales, aI (r0 3) cI 16 m_steps, aI (r0 10) cI 2304 m_previous, aI (r0 11) cI 2304 m_golden, aI (r0 12) cI 2304 m_made_97, aI (r0 13) cI 36 m_order, aI (r0 18) cI 36 m_newModes, aI (r0 19) cI 36 m_newAcross, aI (r0 20) cI 36 m_newDown, aI (r0 22) cI 2304 m_numbers, aJ (r0 24) cJ 64 m_square_98, aJ (r0 25) cJ 64 m_rows_99, aI (r0 26) cI 64 m_added_100, aI (r0 27) cI 8 m_waves] []) H102 := hP102
  have hD102 : va_D A (wf [oB (r0 0) 7 [.int m_thrown, .ref (r0 1), .int m_length, .int m_at, .int m_fault, .int m_hasHeader, .int m_width, .int m_height, .int m_limit, .ref (r0 2), .ref (r0 3), .ref (r0 4), .ref (r0 5), .ref (r0 6), .ref (r0 7), .ref (r0 8), .ref (r0 9), .int m_hasPicture, .int m_frames, .int m_taken, .ref (r0 10), .ref (r0 11), .ref (r0 12), .int m_many, .ref (r0 13), .ref (r0 14), .ref (r0 15), .ref (r0 16), .ref (r0 17), .ref (r0 18), .ref (r0 19), .ref (r0 20), .ref (r0 21), .ref (r0 22), .int m_due, .ref (r0 23), .ref (r0 24), .ref (r0 25), .ref (r0 26), .ref (r0 27), .ref (r0 28), .ref (r0 29)], aI (r0 2) cI 8 m_scales, aI (r0 3) cI 16 m_steps, aI (r0 10) cI 2304 m_previous, aI (r0 11) cI 2304 m_golden, aI (r0 12) cI 2304 m_made_97, aI (r0 13) cI 36 m_order, aI (r0 18) cI 36 m_newModes, aI (r0 19) cI 36 m_newAcross, aI (r0 20) cI 36 m_newDown, aI (r0 22) cI 2304 m_numbers, aJ (r0 24) cJ 64 m_square_98, aJ (r0 25) cJ 64 m_rows_99, aI (r0 26) cI 64 m_added_100, aI (r0 27) cI 8 m_waves] []) := hD102
  obtain rfl := Option.some.inj hm101
  rw [hQ]
  exact ct_vret hx hb hr hlk hP102 hD102 hS102 dX7_paint_148

def f_X7_smooth_L3 (x1 : Int32) (x2 : Int32) (x3 : Int32) (m_limit : Int32) : Nat → (Nat → Int32) → Int32 → Option ((Nat → Int32))
  | 0, _, _ => none
  | n + 1, m_made_3, v4_4 =>
  (if (8 : Int32) ≤ v4_4 then
  (some (m_made_3))
  else
  (nm ((x1 + (v4_4 * x3)) : Int32) fun v5_11 =>
  gi (v5_11 - ((2 : Int32) * x2)) 2304 <|
  gi (v5_11 - x2) 2304 <|
  gi v5_11 2304 <|
  gi (v5_11 + x2) 2304 <|
  nm (((((((m_made_3 (v5_11 - ((2 : Int32) * x2)).toNatClampNeg) - ((3 : Int32) * (m_made_3 (v5_11 - x2).toNatClampNeg))) + ((3 : Int32) * (m_made_3 v5_11.toNatClampNeg))) - (m_made_3 (v5_11 + x2).toNatClampNeg)) + (4 : Int32)) >>> ((3 : Int32) &&& (31 : Int32))) : Int32) fun v6_18 =>
  jn (fun (k22 : Int32 → Option ((Nat → Int32))) => (if (0 : Int32) ≤ v6_18 then
  (k22 v6_18)
  else
  (k22 (-v6_18)))) fun k0_23 =>
  jn (fun (k28 : Int32 → Option ((Nat → Int32))) => (if m_limit ≤ k0_23 then
  ((if ((2 : Int32) * m_limit) ≤ k0_23 then
  (k28 (0 : Int32))
  else
  ((if (0 : Int32) ≤ v6_18 then
  (k28 (((2 : Int32) * m_limit) - k0_23))
  else
  (k28 (k0_23 - ((2 : Int32) * m_limit)))))))
  else
  (k28 v6_18))) fun k0_29 =>
  gi (v5_11 - x2) 2304 <|
  bd1 (f_X7_within ((m_made_3 (v5_11 - x2).toNatClampNeg) + k0_29) (0 : Int32) (255 : Int32)) fun y_34 =>
  gi (v5_11 - x2) 2304 <|
  nm (upd m_made_3 (v5_11 - x2).toNatClampNeg y_34 : Nat → Int32) fun m_made_39 =>
  gi v5_11 2304 <|
  bd1 (f_X7_within ((m_made_39 v5_11.toNatClampNeg) - k0_29) (0 : Int32) (255 : Int32)) fun y_43 =>
  gi v5_11 2304 <|
  nm (upd m_made_39 v5_11.toNatClampNeg y_43 : Nat → Int32) fun m_made_48 =>
  nm (v4_4 + (1 : Int32) : Int32) fun v4_51 =>
  f_X7_smooth_L3 x1 x2 x3 m_limit n m_made_48 v4_51))

def f_X7_smooth (x1 : Int32) (x2 : Int32) (x3 : Int32) (m_limit : Int32) (m_made : Nat → Int32) : Option ((Nat → Int32)) :=
  bd1 (f_X7_smooth_L3 x1 x2 x3 m_limit 4000 m_made (0 : Int32)) fun m_made_66 =>
  some (m_made_66)

abbrev rm_X7_smooth : Room := { frames := 1, cells := 0, slots := 0, locals := 22 }

theorem cdS_X7_smooth : yX7_smooth.cls ≠ "java/lang/invoke/MethodHandle" ∧ yX7_smooth.cls ≠ "java/lang/invoke/VarHandle" ∧ (parseMethodDescriptor yX7_smooth.desc).map (fun d => d.parameters.length) = some 3 := by decide +kernel

theorem cdV_X7_smooth : yX7_smooth.cls = RX7 ∧ yX7_smooth.cls ≠ "java/lang/invoke/MethodHandle" ∧ yX7_smooth.cls ≠ "java/lang/invoke/VarHandle" ∧ (parseMethodDescriptor yX7_smooth.desc).map (fun d => d.parameters.length) = some 3 := ⟨rfl, cdS_X7_smooth⟩

theorem hi_X7_smooth_7 : ∀ w ∈ u_ws RX7 TX7 42, w ∈ wsX7_smooth := fun _ h => List.mem_cons_of_mem _ (List.mem_append_right _ h)

set_option maxHeartbeats 40000000 in
set_option maxRecDepth 100000 in
theorem c_X7_smooth (l : Launch) (D : va_G) (cB cI cJ cQ : ClassId) (N : Nat) (r0 : Nat → Nat) (sz : Nat) (x1 : Int32) (x2 : Int32) (x3 : Int32) (m_thrown : Int32) (m_length : Int32) (m_at : Int32) (m_fault : Int32) (m_hasHeader : Int32) (m_width : Int32) (m_height : Int32) (m_limit : Int32) (m_hasPicture : Int32) (m_frames : Int32) (m_taken : Int32) (m_many : Int32) (m_due : Int32) (m_made : Nat → Int32) (o : (Nat → Int32)) (hm0 : f_X7_smooth x1 x2 x3 m_limit m_made = some o) : Met l yX7_smooth wsX7_smooth rm_X7_smooth (ctP D cB cI cJ cQ N sz [.ref (r0 0), .int x1, .int x2, .int x3] (wf [oB (r0 0) 7 [.int m_thrown, .ref (r0 1), .int m_length, .int m_at, .int m_fault, .int m_hasHeader, .int m_width, .int m_height, .int m_limit, .ref (r0 2), .ref (r0 3), .ref (r0 4), .ref (r0 5), .ref (r0 6), .ref (r0 7), .ref (r0 8), .ref (r0 9), .int m_hasPicture, .int m_frames, .int m_taken, .ref (r0 10), .ref (r0 11), .ref (r0 12), .int m_many, .ref (r0 13), .ref (r0 14), .ref (r0 15), .ref (r0 16), .ref (r0 17), .ref (r0 18), .ref (r0 19), .ref (r0 20), .ref (r0 21), .ref (r0 22), .int m_due, .ref (r0 23), .ref (r0 24), .ref (r0 25), .ref (r0 26), .ref (r0 27), .ref (r0 28), .ref (r0 29)], aI (r0 12) cI 2304 m_made] [])) (ctQv D (wf [oB (r0 0) 7 [.int m_thrown, .ref (r0 1), .int m_length, .int m_at, .int m_fault, .int m_hasHeader, .int m_width, .int m_height, .int m_limit, .ref (r0 2), .ref (r0 3), .ref (r0 4), .ref (r0 5), .ref (r0 6), .ref (r0 7), .ref (r0 8), .ref (r0 9), .int m_hasPicture, .int m_frames, .int m_taken, .ref (r0 10), .ref (r0 11), .ref (r0 12), .int m_many, .ref (r0 13), .ref (r0 14), .ref (r0 15), .ref (r0 16), .ref (r0 17), .ref (r0 18), .ref (r0 19), .ref (r0 20), .ref (r0 21), .ref (r0 22), .int m_due, .ref (r0 23), .ref (r0 24), .ref (r0 25), .ref (r0 26), .ref (r0 27), .ref (r0 28), .ref (r0 29)], aI (r0 12) cI 2304 o] []) (va_A (wf [oB (r0 0) 7 [.int m_thrown, .ref (r0 1), .int m_length, .int m_at, .int m_fault, .int m_hasHeader, .int m_width, .int m_height, .int m_limit, .ref (r0 2), .ref (r0 3), .ref (r0 4), .ref (r0 5), .ref (r0 6), .ref (r0 7), .ref (r0 8), .ref (r0 9), .int m_hasPicture, .int m_frames, .int m_taken, .ref (r0 10), .ref (r0 11), .ref (r0 12), .int m_many, .ref (r0 13), .ref (r0 14), .ref (r0 15), .ref (r0 16), .ref (r0 17), .ref (r0 18), .ref (r0 19), .ref (r0 20), .ref (r0 21), .ref (r0 22), .int m_due, .ref (r0 23), .ref (r0 24), .ref (r0 25), .ref (r0 26), .ref (r0 27), .ref (r0 28), .ref (r0 29)], aI (r0 12) cI 2304 m_made] []) sz)) 0 0 (va_A (wf [oB (r0 0) 7 [.int m_thrown, .ref (r0 1), .int m_length, .int m_at, .int m_fault, .int m_hasHeader, .int m_width, .int m_height, .int m_limit, .ref (r0 2), .ref (r0 3), .ref (r0 4), .ref (r0 5), .ref (r0 6), .ref (r0 7), .ref (r0 8), .ref (r0 9), .int m_hasPicture, .int m_frames, .int m_taken, .ref (r0 10), .ref (r0 11), .ref (r0 12), .int m_many, .ref (r0 13), .ref (r0 14), .ref (r0 15), .ref (r0 16), .ref (r0 17), .ref (r0 18), .ref (r0 19), .ref (r0 20), .ref (r0 21), .ref (r0 22), .int m_due, .ref (r0 23), .ref (r0 24), .ref (r0 25), .ref (r0 26), .ref (r0 27), .ref (r0 28), .ref (r0 29)], aI (r0 12) cI 2304 m_made] []) sz) := by
  refine ct_of (y := yX7_smooth) (av := [.ref (r0 0), .int x1, .int x2, .int x3]) (cc := cX7_smooth) (maxL := 9) (ret := none) (own := RX7) (Qp := ctQv D (wf [oB (r0 0) 7 [.int m_thrown, .ref (r0 1), .int m_length, .int m_at, .int m_fault, .int m_hasHeader, .int m_width, .int m_height, .int m_limit, .ref (r0 2), .ref (r0 3), .ref (r0 4), .ref (r0 5), .ref (r0 6), .ref (r0 7), .ref (r0 8), .ref (r0 9), .int m_hasPicture, .int m_frames, .int m_taken, .ref (r0 10), .ref (r0 11), .ref (r0 12), .int m_many, .ref (r0 13), .ref (r0 14), .ref (r0 15), .ref (r0 16), .ref (r0 17), .ref (r0 18), .ref (r0 19), .ref (r0 20), .ref (r0 21), .ref (r0 22), .int m_due, .ref (r0 23), .ref (r0 24), .ref (r0 25), .ref (r0 26), .ref (r0 27), .ref (r0 28), .ref (r0 29)], aI (r0 12) cI 2304 o] [])) (by decide) rfl rfl (Nat.le_of_ble_eq_true rfl) ?_
  intro p e s m args below meth c A hx hb hr hml hown hts hlk hnm hsz hAe E hP0 hD0 hS0 ls0 hl0
  subst hsz
  have hl0 : lv_has ls0 9 [(0, .ref (r0 0)), (1, .int x1), (2, .int x2), (3, .int x3)] := hl0
  obtain ⟨QQ, hQ⟩ : ∃ Q : State → Prop, Q = MQ below (ctQv D (wf [oB (r0 0) 7 [.int m_thrown, .ref (r0 1), .int m_length, .int m_at, .int m_fault, .int m_hasHeader, .int m_width, .int m_height, .int m_limit, .ref (r0 2), .ref (r0 3), .ref (r0 4), .ref (r0 5), .ref (r0 6), .ref (r0 7), .ref (r0 8), .ref (r0 9), .int m_hasPicture, .int m_frames, .int m_taken, .ref (r0 10), .ref (r0 11), .ref (r0 12), .int m_many, .ref (r0 13), .ref (r0 14), .ref (r0 15), .ref (r0 16), .ref (r0 17), .ref (r0 18), .ref (r0 19), .ref (r0 20), .ref (r0 21), .ref (r0 22), .int m_due, .ref (r0 23), .ref (r0 24), .ref (r0 25), .ref (r0 26), .ref (r0 27), .ref (r0 28), .ref (r0 29)], aI (r0 12) cI 2304 o] []) A) args s 0 0 A := ⟨_, rfl⟩
  rw [← hQ]
  unfold f_X7_smooth at hm0
  refine lv_iconst (v := 0) hx hb dX7_smooth_0 (by decide) ?_
  refine lv_istore (lv' := [(4, .int (0 : Int32)), (0, .ref (r0 0)), (1, .int x1), (2, .int x2), (3, .int x3)]) hx hb dX7_smooth_1 hl0 (by decide) rfl (fun ls1 hl1 => ?_); clear hl0
  obtain ⟨m_made_66, hlp2, hm67⟩ := bd1_some hm0; clear hm0
  have LP2 : ∀ (n : Nat) (m_made_3 : Nat → Int32) (v4_4 : Int32) (z2 : (Nat → Int32)) (H5 : Heap) (lc5 : List Loc) (ls5 : Array Slot), f_X7_smooth_L3 x1 x2 x3 m_limit n m_made_3 v4_4 = some z2 → va_P D vwCl (wf [oB (r0 0) 7 [.int m_thrown, .ref (r0 1), .int m_length, .int m_at, .int m_fault, .int m_hasHeader, .int m_width, .int m_height, .int m_limit, .ref (r0 2), .ref (r0 3), .ref (r0 4), .ref (r0 5), .ref (r0 6), .ref (r0 7), .ref (r0 8), .ref (r0 9), .int m_hasPicture, .int m_frames, .int m_taken, .ref (r0 10), .ref (r0 11), .ref (r0 12), .int m_many, .ref (r0 13), .ref (r0 14), .ref (r0 15), .ref (r0 16), .ref (r0 17), .ref (r0 18), .ref (r0 19), .ref (r0 20), .ref (r0 21), .ref (r0 22), .int m_due, .ref (r0 23), .ref (r0 24), .ref (r0 25), .ref (r0 26), .ref (r0 27), .ref (r0 28), .ref (r0 29)], aI (r0 12) cI 2304 m_made_3] []) H5 → va_D A (wf [oB (r0 0) 7 [.int m_thrown, .ref (r0 1), .int m_length, .int m_at, .int m_fault, .int m_hasHeader, .int m_width, .int m_height, .int m_limit, .ref (r0 2), .ref (r0 3), .ref (r0 4), .ref (r0 5), .ref (r0 6), .ref (r0 7), .ref (r0 8), .ref (r0 9), .int m_hasPicture, .int m_frames, .int m_taken, .ref (r0 10), .ref (r0 11), .ref (r0 12), .int m_many, .ref (r0 13), .ref (r0 14), .ref (r0 15), .ref (r0 16), .ref (r0 17), .ref (r0 18), .ref (r0 19), .ref (r0 20), .ref (r0 21), .ref (r0 22), .int m_due, .ref (r0 23), .ref (r0 24), .ref (r0 25), .ref (r0 26), .ref (r0 27), .ref (r0 28), .ref (r0 29)], aI (r0 12) cI 2304 m_made_3] []) → va_S A s.heap H5 lc5 → lv_has ls5 9 [(0, .ref (r0 0)), (1, .int x1), (2, .int x2), (3, .int x3), (4, .int v4_4)] → (∀ (H : Heap) (lc : List Loc) (ls : Array Slot), va_P D vwCl (wf [oB (r0 0) 7 [.int m_thrown, .ref (r0 1), .int m_length, .int m_at, .int m_fault, .int m_hasHeader, .int m_width, .int m_height, .int m_limit, .ref (r0 2), .ref (r0 3), .ref (r0 4), .ref (r0 5), .ref (r0 6), .ref (r0 7), .ref (r0 8), .ref (r0 9), .int m_hasPicture, .int m_frames, .int m_taken, .ref (r0 10), .ref (r0 11), .ref (r0 12), .int m_many, .ref (r0 13), .ref (r0 14), .ref (r0 15), .ref (r0 16), .ref (r0 17), .ref (r0 18), .ref (r0 19), .ref (r0 20), .ref (r0 21), .ref (r0 22), .int m_due, .ref (r0 23), .ref (r0 24), .ref (r0 25), .ref (r0 26), .ref (r0 27), .ref (r0 28), .ref (r0 29)], aI (r0 12) cI 2304 z2] []) H → va_D A (wf [oB (r0 0) 7 [.int m_thrown, .ref (r0 1), .int m_length, .int m_at, .int m_fault, .int m_hasHeader, .int m_width, .int m_height, .int m_limit, .ref (r0 2), .ref (r0 3), .ref (r0 4), .ref (r0 5), .ref (r0 6), .ref (r0 7), .ref (r0 8), .ref (r0 9), .int m_hasPicture, .int m_frames, .int m_taken, .ref (r0 10), .ref (r0 11), .ref (r0 12), .int m_many, .ref (r0 13), .ref (r0 14), .ref (r0 15), .ref (r0 16), .ref (r0 17), .ref (r0 18), .ref (r0 19), .ref (r0 20), .ref (r0 21), .ref (r0 22), .int m_due, .ref (r0 23), .ref (r0 24), .ref (r0 25), .ref (r0 26), .ref (r0 27), .ref (r0 28), .ref (r0 29)], aI (r0 12) cI 2304 z2] []) → va_S A s.heap H lc → lv_has ls 9 [] → W p l e rm_X7_smooth s m args below meth c H lc 0 0 QQ (F0 m 197 ls [])) → W p l e rm_X7_smooth s m args below meth c H5 lc5 0 0 QQ (F0 m 3 ls5 []) := by
    intro n
    induction n with
    | zero =>
      intro m_made_3 v4_4 z2 H5 lc5 ls5 hm7; simp [f_X7_smooth_L3] at hm7
    | succ n ih =>
      intro m_made_3 v4_4 z2 H5 lc5 ls5 hm7 hP5 hD5 hS5 hl5 kx
      rw [f_X7_smooth_L3] at hm7
      refine lv_iload hx hb dX7_smooth_3 (lv_at hl5 4 rfl) ?_
      refine lv_bipush (v := 8) hx hb dX7_smooth_5 (by decide) ?_
      refine lv_icmp_ge (tgt := 197) hx hb dX7_smooth_7 (by decide) (fun hc8 => ?_) (fun hc8 => ?_)
      · have hm9 := bq_t hm7 hc8; clear hm7
        obtain rfl := Option.some.inj hm9
        exact kx _ _ _ hP5 hD5 hS5 (lv_sub hl5 [] rfl)
      · have hm10 := bq_f hm7 hc8; clear hm7
        refine lv_iload_n hx hb dX7_smooth_10 rfl (lv_at hl5 1 rfl) ?_
        refine lv_iload hx hb dX7_smooth_11 (lv_at hl5 4 rfl) ?_
        refine lv_iload_n hx hb dX7_smooth_13 rfl (lv_at hl5 3 rfl) ?_
        refine lv_imul hx hb dX7_smooth_14 ?_
        refine lv_iadd hx hb dX7_smooth_15 ?_
        obtain ⟨v5_11, ev5_11, hm12⟩ := nm_some hm10; clear hm10
        refine ct_topi ev5_11 ?_
        refine lv_istore (lv' := [(5, .int v5_11), (0, .ref (r0 0)), (1, .int x1), (2, .int x2), (3, .int x3), (4, .int v4_4)]) hx hb dX7_smooth_16 hl5 (by decide) rfl (fun ls13 hl13 => ?_); clear hl5
        refine lv_aload_n hx hb dX7_smooth_18 rfl (lv_at hl13 1 rfl) ?_
        refine va_get (D := D) (ci := 7) (v := .ref (r0 12)) (C := RX7) (T := TX7) (N := 42) hx hb hts hi_X7_smooth_7 hown E.1 hP5 0 rfl rfl 22 (by decide) (hts _ (List.mem_of_getElem? (i := 1) rfl)) (fun _ h9 => h9) rfl dX7_smooth_19 ?_
        refine lv_iload hx hb dX7_smooth_22 (lv_at hl13 0 rfl) ?_
        refine lv_iconst (v := 2) hx hb dX7_smooth_24 (by decide) ?_
        refine lv_iload_n hx hb dX7_smooth_25 rfl (lv_at hl13 3 rfl) ?_
        refine lv_imul hx hb dX7_smooth_26 ?_
        refine lv_isub hx hb dX7_smooth_27 ?_
        obtain ⟨hin14, hm14⟩ := gi_some hm12; clear hm12
        refine va_iald hx hb E.1 hP5 1 0 rfl rfl hin14 dX7_smooth_28 ?_
        refine lv_iconst (v := 3) hx hb dX7_smooth_29 (by decide) ?_
        refine lv_aload_n hx hb dX7_smooth_30 rfl (lv_at hl13 1 rfl) ?_
        refine va_get (D := D) (ci := 7) (v := .ref (r0 12)) (C := RX7) (T := TX7) (N := 42) hx hb hts hi_X7_smooth_7 hown E.1 hP5 0 rfl rfl 22 (by decide) (hts _ (List.mem_of_getElem? (i := 1) rfl)) (fun _ h9 => h9) rfl dX7_smooth_31 ?_
        refine lv_iload hx hb dX7_smooth_34 (lv_at hl13 0 rfl) ?_
        refine lv_iload_n hx hb dX7_smooth_36 rfl (lv_at hl13 3 rfl) ?_
        refine lv_isub hx hb dX7_smooth_37 ?_
        obtain ⟨hin15, hm15⟩ := gi_some hm14; clear hm14
        refine va_iald hx hb E.1 hP5 1 0 rfl rfl hin15 dX7_smooth_38 ?_
        refine lv_imul hx hb dX7_smooth_39 ?_
        refine lv_isub hx hb dX7_smooth_40 ?_
        refine lv_iconst (v := 3) hx hb dX7_smooth_41 (by decide) ?_
        refine lv_aload_n hx hb dX7_smooth_42 rfl (lv_at hl13 1 rfl) ?_
        refine va_get (D := D) (ci := 7) (v := .ref (r0 12)) (C := RX7) (T := TX7) (N := 42) hx hb hts hi_X7_smooth_7 hown E.1 hP5 0 rfl rfl 22 (by decide) (hts _ (List.mem_of_getElem? (i := 1) rfl)) (fun _ h9 => h9) rfl dX7_smooth_43 ?_
        refine lv_iload hx hb dX7_smooth_46 (lv_at hl13 0 rfl) ?_
        obtain ⟨hin16, hm16⟩ := gi_some hm15; clear hm15
        refine va_iald hx hb E.1 hP5 1 0 rfl rfl hin16 dX7_smooth_48 ?_
        refine lv_imul hx hb dX7_smooth_49 ?_
        refine lv_iadd hx hb dX7_smooth_50 ?_
        refine lv_aload_n hx hb dX7_smooth_51 rfl (lv_at hl13 1 rfl) ?_
        refine va_get (D := D) (ci := 7) (v := .ref (r0 12)) (C := RX7) (T := TX7) (N := 42) hx hb hts hi_X7_smooth_7 hown E.1 hP5 0 rfl rfl 22 (by decide) (hts _ (List.mem_of_getElem? (i := 1) rfl)) (fun _ h9 => h9) rfl dX7_smooth_52 ?_
        refine lv_iload hx hb dX7_smooth_55 (lv_at hl13 0 rfl) ?_
        refine lv_iload_n hx hb dX7_smooth_57 rfl (lv_at hl13 3 rfl) ?_
        refine lv_iadd hx hb dX7_smooth_58 ?_
        obtain ⟨hin17, hm17⟩ := gi_some hm16; clear hm16
        refine va_iald hx hb E.1 hP5 1 0 rfl rfl hin17 dX7_smooth_59 ?_
        refine lv_isub hx hb dX7_smooth_60 ?_
        refine lv_iconst (v := 4) hx hb dX7_smooth_61 (by decide) ?_
        refine lv_iadd hx hb dX7_smooth_62 ?_
        refine lv_iconst (v := 3) hx hb dX7_smooth_63 (by decide) ?_
        refine lv_ishr hx hb dX7_smooth_64 ?_
        obtain ⟨v6_18, ev6_18, hm19⟩ := nm_some hm17; clear hm17
        refine ct_topi ev6_18 ?_
        refine lv_istore (lv' := [(6, .int v6_18), (5, .int v5_11), (0, .ref (r0 0)), (1, .int x1), (2, .int x2), (3, .int x3), (4, .int v4_4)]) hx hb dX7_smooth_65 hl13 (by decide) rfl (fun ls20 hl20 => ?_); clear hl13
        refine lv_iload hx hb dX7_smooth_67 (lv_at hl20 0 rfl) ?_
        obtain ⟨k22, ek22, hm22⟩ := jn_some hm19; clear hm19
        have KJ22 : ∀ (k0_23 : Int32) (H24 : Heap) (lc24 : List Loc) (ls24 : Array Slot), k22 k0_23 = some z2 → va_P D vwCl (wf [oB (r0 0) 7 [.int m_thrown, .ref (r0 1), .int m_length, .int m_at, .int m_fault, .int m_hasHeader, .int m_width, .int m_height, .int m_limit, .ref (r0 2), .ref (r0 3), .ref (r0 4), .ref (r0 5), .ref (r0 6), .ref (r0 7), .ref (r0 8), .ref (r0 9), .int m_hasPicture, .int m_frames, .int m_taken, .ref (r0 10), .ref (r0 11), .ref (r0 12), .int m_many, .ref (r0 13), .ref (r0 14), .ref (r0 15), .ref (r0 16), .ref (r0 17), .ref (r0 18), .ref (r0 19), .ref (r0 20), .ref (r0 21), .ref (r0 22), .int m_due, .ref (r0 23), .ref (r0 24), .ref (r0 25), .ref (r0 26), .ref (r0 27), .ref (r0 28), .ref (r0 29)], aI (r0 12) cI 2304 m_made_3] []) H24 → va_D A (wf [oB (r0 0) 7 [.int m_thrown, .ref (r0 1), .int m_length, .int m_at, .int m_fault, .int m_hasHeader, .int m_width, .int m_height, .int m_limit, .ref (r0 2), .ref (r0 3), .ref (r0 4), .ref (r0 5), .ref (r0 6), .ref (r0 7), .ref (r0 8), .ref (r0 9), .int m_hasPicture, .int m_frames, .int m_taken, .ref (r0 10), .ref (r0 11), .ref (r0 12), .int m_many, .ref (r0 13), .ref (r0 14), .ref (r0 15), .ref (r0 16), .ref (r0 17), .ref (r0 18), .ref (r0 19), .ref (r0 20), .ref (r0 21), .ref (r0 22), .int m_due, .ref (r0 23), .ref (r0 24), .ref (r0 25), .ref (r0 26), .ref (r0 27), .ref (r0 28), .ref (r0 29)], aI (r0 12) cI 2304 m_made_3] []) → va_S A s.heap H24 lc24 → lv_has ls24 9 [(0, .ref (r0 0)), (1, .int x1), (2, .int x2), (3, .int x3), (4, .int v4_4), (5, .int v5_11), (6, .int v6_18)] → W p l e rm_X7_smooth s m args below meth c H24 lc24 0 0 QQ (F0 m 80 ls24 [.int k0_23]) := by
          intro k0_23 H24 lc24 ls24 hm25 hP24 hD24 hS24 hl24
          rw [ek22] at hm25
          refine lv_istore (lv' := [(7, .int k0_23), (0, .ref (r0 0)), (1, .int x1), (2, .int x2), (3, .int x3), (4, .int v4_4), (5, .int v5_11), (6, .int v6_18)]) hx hb dX7_smooth_80 hl24 (by decide) rfl (fun ls26 hl26 => ?_); clear hl24
          refine lv_iload hx hb dX7_smooth_82 (lv_at hl26 0 rfl) ?_
          refine lv_aload_n hx hb dX7_smooth_84 rfl (lv_at hl26 1 rfl) ?_
          refine va_get (D := D) (ci := 7) (v := .int m_limit) (C := RX7) (T := TX7) (N := 42) hx hb hts hi_X7_smooth_7 hown E.1 hP24 0 rfl rfl 8 (by decide) (hts _ (List.mem_of_getElem? (i := 2) rfl)) (fun _ h9 => h9) rfl dX7_smooth_85 ?_
          obtain ⟨k28, ek28, hm28⟩ := jn_some hm25; clear hm25
          have KJ28 : ∀ (k0_29 : Int32) (H30 : Heap) (lc30 : List Loc) (ls30 : Array Slot), k28 k0_29 = some z2 → va_P D vwCl (wf [oB (r0 0) 7 [.int m_thrown, .ref (r0 1), .int m_length, .int m_at, .int m_fault, .int m_hasHeader, .int m_width, .int m_height, .int m_limit, .ref (r0 2), .ref (r0 3), .ref (r0 4), .ref (r0 5), .ref (r0 6), .ref (r0 7), .ref (r0 8), .ref (r0 9), .int m_hasPicture, .int m_frames, .int m_taken, .ref (r0 10), .ref (r0 11), .ref (r0 12), .int m_many, .ref (r0 13), .ref (r0 14), .ref (r0 15), .ref (r0 16), .ref (r0 17), .ref (r0 18), .ref (r0 19), .ref (r0 20), .ref (r0 21), .ref (r0 22), .int m_due, .ref (r0 23), .ref (r0 24), .ref (r0 25), .ref (r0 26), .ref (r0 27), .ref (r0 28), .ref (r0 29)], aI (r0 12) cI 2304 m_made_3] []) H30 → va_D A (wf [oB (r0 0) 7 [.int m_thrown, .ref (r0 1), .int m_length, .int m_at, .int m_fault, .int m_hasHeader, .int m_width, .int m_height, .int m_limit, .ref (r0 2), .ref (r0 3), .ref (r0 4), .ref (r0 5), .ref (r0 6), .ref (r0 7), .ref (r0 8), .ref (r0 9), .int m_hasPicture, .int m_frames, .int m_taken, .ref (r0 10), .ref (r0 11), .ref (r0 12), .int m_many, .ref (r0 13), .ref (r0 14), .ref (r0 15), .ref (r0 16), .ref (r0 17), .ref (r0 18), .ref (r0 19), .ref (r0 20), .ref (r0 21), .ref (r0 22), .int m_due, .ref (r0 23), .ref (r0 24), .ref (r0 25), .ref (r0 26), .ref (r0 27), .ref (r0 28), .ref (r0 29)], aI (r0 12) cI 2304 m_made_3] []) → va_S A s.heap H30 lc30 → lv_has ls30 9 [(0, .ref (r0 0)), (1, .int x1), (2, .int x2), (3, .int x3), (4, .int v4_4), (5, .int v5_11)] → W p l e rm_X7_smooth s m args below meth c H30 lc30 0 0 QQ (F0 m 137 ls30 [.int k0_29]) := by
            intro k0_29 H30 lc30 ls30 hm31 hP30 hD30 hS30 hl30
            rw [ek28] at hm31
            refine lv_istore (lv' := [(8, .int k0_29), (0, .ref (r0 0)), (1, .int x1), (2, .int x2), (3, .int x3), (4, .int v4_4), (5, .int v5_11)]) hx hb dX7_smooth_137 hl30 (by decide) rfl (fun ls32 hl32 => ?_); clear hl30
            refine lv_aload_n hx hb dX7_smooth_139 rfl (lv_at hl32 1 rfl) ?_
            refine va_get (D := D) (ci := 7) (v := .ref (r0 12)) (C := RX7) (T := TX7) (N := 42) hx hb hts hi_X7_smooth_7 hown E.1 hP30 0 rfl rfl 22 (by decide) (hts _ (List.mem_of_getElem? (i := 1) rfl)) (fun _ h9 => h9) rfl dX7_smooth_140 ?_
            refine lv_iload hx hb dX7_smooth_143 (lv_at hl32 6 rfl) ?_
            refine lv_iload_n hx hb dX7_smooth_145 rfl (lv_at hl32 3 rfl) ?_
            refine lv_isub hx hb dX7_smooth_146 ?_
            refine lv_aload_n hx hb dX7_smooth_147 rfl (lv_at hl32 1 rfl) ?_
            refine va_get (D := D) (ci := 7) (v := .ref (r0 12)) (C := RX7) (T := TX7) (N := 42) hx hb hts hi_X7_smooth_7 hown E.1 hP30 0 rfl rfl 22 (by decide) (hts _ (List.mem_of_getElem? (i := 1) rfl)) (fun _ h9 => h9) rfl dX7_smooth_148 ?_
            refine lv_iload hx hb dX7_smooth_151 (lv_at hl32 6 rfl) ?_
            refine lv_iload_n hx hb dX7_smooth_153 rfl (lv_at hl32 3 rfl) ?_
            refine lv_isub hx hb dX7_smooth_154 ?_
            obtain ⟨hin33, hm33⟩ := gi_some hm31; clear hm31
            refine va_iald hx hb E.1 hP30 1 0 rfl rfl hin33 dX7_smooth_155 ?_
            refine lv_iload hx hb dX7_smooth_156 (lv_at hl32 0 rfl) ?_
            refine lv_iadd hx hb dX7_smooth_158 ?_
            refine lv_iconst (v := 0) hx hb dX7_smooth_159 (by decide) ?_
            refine lv_sipush (v := 255) hx hb dX7_smooth_160 (by decide) ?_
            obtain ⟨y_34, hcl35, hm35⟩ := bd1_some hm33; clear hm33
            have sb36 := ctS.mk (n := 2) (k := 0) (pre := [oB (r0 0) 7 [.int m_thrown, .ref (r0 1), .int m_length, .int m_at, .int m_fault, .int m_hasHeader, .int m_width, .int m_height, .int m_limit, .ref (r0 2), .ref (r0 3), .ref (r0 4), .ref (r0 5), .ref (r0 6), .ref (r0 7), .ref (r0 8), .ref (r0 9), .int m_hasPicture, .int m_frames, .int m_taken, .ref (r0 10), .ref (r0 11), .ref (r0 12), .int m_many, .ref (r0 13), .ref (r0 14), .ref (r0 15), .ref (r0 16), .ref (r0 17), .ref (r0 18), .ref (r0 19), .ref (r0 20), .ref (r0 21), .ref (r0 22), .int m_due, .ref (r0 23), .ref (r0 24), .ref (r0 25), .ref (r0 26), .ref (r0 27), .ref (r0 28), .ref (r0 29)], aI (r0 12) cI 2304 m_made_3]) (tl := []) [] [0, 1] [] [] rfl rfl (by decide +kernel) (by decide +kernel)
            refine ct_calli (r := y_34) E sb36 hP30 hD30 hS30 (va_runS (As := [.int ((m_made_3 (v5_11 - x2).toNatClampNeg) + k0_29), .int (0 : Int32), .int (255 : Int32)]) (rest := [.int (v5_11 - x2), .ref (r0 12)]) ⟨hx, hb, hml, hown, hts⟩ (c_X7_within l D cB cI cJ cQ N H30.size ((m_made_3 (v5_11 - x2).toNatClampNeg) + k0_29) (0 : Int32) (255 : Int32) (y_34) hcl35) (va_cwS 3 hts gX7_smooth_X7_within rfl rfl rfl cdS_X7_within ⟨Nat.le_of_ble_eq_true rfl, Nat.le_of_ble_eq_true rfl⟩) (ct_preS E sb36 hP30 hD30 hS30) rfl rfl hl32.1 rfl (lv_room (Nat.le_of_ble_eq_true rfl)) dX7_smooth_163 ⟨Nat.zero_le _, Nat.zero_le _⟩) (fun H37 lc37 hP37 hD37 hS37 => ?_); clear sb36 hcl35
            clear hP30 hD30 hS30
            have hP37 : va_P D vwCl (wf [oB (r0 0) 7 [.int m_thrown, .ref (r0 1), .int m_length, .int m_at, .int m_fault, .int m_hasHeader, .int m_width, .int m_height, .int m_limit, .ref (r0 2), .ref (r0 3), .ref (r0 4), .ref (r0 5), .ref (r0 6), .ref (r0 7), .ref (r0 8), .ref (r0 9), .int m_hasPicture, .int m_frames, .int m_taken, .ref (r0 10), .ref (r0 11), .ref (r0 12), .int m_many, .ref (r0 13), .ref (r0 14), .ref (r0 15), .ref (r0 16), .ref (r0 17), .ref (r0 18), .ref (r0 19), .ref (r0 20), .ref (r0 21), .ref (r0 22), .int m_due, .ref (r0 23), .ref (r0 24), .ref (r0 25), .ref (r0 26), .ref (r0 27), .ref (r0 28), .ref (r0 29)], aI (r0 12) cI 2304 m_made_3] []) H37 := hP37
            have hD37 : va_D A (wf [oB (r0 0) 7 [.int m_thrown, .ref (r0 1), .int m_length, .int m_at, .int m_fault, .int m_hasHeader, .int m_width, .int m_height, .int m_limit, .ref (r0 2), .ref (r0 3), .ref (r0 4), .ref (r0 5), .ref (r0 6), .ref (r0 7), .ref (r0 8), .ref (r0 9), .int m_hasPicture, .int m_frames, .int m_taken, .ref (r0 10), .ref (r0 11), .ref (r0 12), .int m_many, .ref (r0 13), .ref (r0 14), .ref (r0 15), .ref (r0 16), .ref (r0 17), .ref (r0 18), .ref (r0 19), .ref (r0 20), .ref (r0 21), .ref (r0 22), .int m_due, .ref (r0 23), .ref (r0 24), .ref (r0 25), .ref (r0 26), .ref (r0 27), .ref (r0 28), .ref (r0 29)], aI (r0 12) cI 2304 m_made_3] []) := hD37
            obtain ⟨hin38, hm38⟩ := gi_some hm35; clear hm35
            obtain ⟨m_made_39, em_made_39, hm40⟩ := nm_some hm38; clear hm38
            refine ct_iast (g := m_made_39) (ws' := (wf [oB (r0 0) 7 [.int m_thrown, .ref (r0 1), .int m_length, .int m_at, .int m_fault, .int m_hasHeader, .int m_width, .int m_height, .int m_limit, .ref (r0 2), .ref (r0 3), .ref (r0 4), .ref (r0 5), .ref (r0 6), .ref (r0 7), .ref (r0 8), .ref (r0 9), .int m_hasPicture, .int m_frames, .int m_taken, .ref (r0 10), .ref (r0 11), .ref (r0 12), .int m_many, .ref (r0 13), .ref (r0 14), .ref (r0 15), .ref (r0 16), .ref (r0 17), .ref (r0 18), .ref (r0 19), .ref (r0 20), .ref (r0 21), .ref (r0 22), .int m_due, .ref (r0 23), .ref (r0 24), .ref (r0 25), .ref (r0 26), .ref (r0 27), .ref (r0 28), .ref (r0 29)], aI (r0 12) cI 2304 m_made_39] [])) hx hb E.1 hP37 hD37 hS37 1 0 rfl rfl hin38 em_made_39 rfl dX7_smooth_166 (fun H41 lc41 hP41 hD41 hS41 => ?_)
            clear hP37 hD37 hS37
            refine lv_aload_n hx hb dX7_smooth_167 rfl (lv_at hl32 1 rfl) ?_
            refine va_get (D := D) (ci := 7) (v := .ref (r0 12)) (C := RX7) (T := TX7) (N := 42) hx hb hts hi_X7_smooth_7 hown E.1 hP41 0 rfl rfl 22 (by decide) (hts _ (List.mem_of_getElem? (i := 1) rfl)) (fun _ h9 => h9) rfl dX7_smooth_168 ?_
            refine lv_iload hx hb dX7_smooth_171 (lv_at hl32 6 rfl) ?_
            refine lv_aload_n hx hb dX7_smooth_173 rfl (lv_at hl32 1 rfl) ?_
            refine va_get (D := D) (ci := 7) (v := .ref (r0 12)) (C := RX7) (T := TX7) (N := 42) hx hb hts hi_X7_smooth_7 hown E.1 hP41 0 rfl rfl 22 (by decide) (hts _ (List.mem_of_getElem? (i := 1) rfl)) (fun _ h9 => h9) rfl dX7_smooth_174 ?_
            refine lv_iload hx hb dX7_smooth_177 (lv_at hl32 6 rfl) ?_
            obtain ⟨hin42, hm42⟩ := gi_some hm40; clear hm40
            refine va_iald hx hb E.1 hP41 1 0 rfl rfl hin42 dX7_smooth_179 ?_
            refine lv_iload hx hb dX7_smooth_180 (lv_at hl32 0 rfl) ?_
            refine lv_isub hx hb dX7_smooth_182 ?_
            refine lv_iconst (v := 0) hx hb dX7_smooth_183 (by decide) ?_
            refine lv_sipush (v := 255) hx hb dX7_smooth_184 (by decide) ?_
            obtain ⟨y_43, hcl44, hm44⟩ := bd1_some hm42; clear hm42
            have sb45 := ctS.mk (n := 2) (k := 0) (pre := [oB (r0 0) 7 [.int m_thrown, .ref (r0 1), .int m_length, .int m_at, .int m_fault, .int m_hasHeader, .int m_width, .int m_height, .int m_limit, .ref (r0 2), .ref (r0 3), .ref (r0 4), .ref (r0 5), .ref (r0 6), .ref (r0 7), .ref (r0 8), .ref (r0 9), .int m_hasPicture, .int m_frames, .int m_taken, .ref (r0 10), .ref (r0 11), .ref (r0 12), .int m_many, .ref (r0 13), .ref (r0 14), .ref (r0 15), .ref (r0 16), .ref (r0 17), .ref (r0 18), .ref (r0 19), .ref (r0 20), .ref (r0 21), .ref (r0 22), .int m_due, .ref (r0 23), .ref (r0 24), .ref (r0 25), .ref (r0 26), .ref (r0 27), .ref (r0 28), .ref (r0 29)], aI (r0 12) cI 2304 m_made_39]) (tl := []) [] [0, 1] [] [] rfl rfl (by decide +kernel) (by decide +kernel)
            refine ct_calli (r := y_43) E sb45 hP41 hD41 hS41 (va_runS (As := [.int ((m_made_39 v5_11.toNatClampNeg) - k0_29), .int (0 : Int32), .int (255 : Int32)]) (rest := [.int v5_11, .ref (r0 12)]) ⟨hx, hb, hml, hown, hts⟩ (c_X7_within l D cB cI cJ cQ N H41.size ((m_made_39 v5_11.toNatClampNeg) - k0_29) (0 : Int32) (255 : Int32) (y_43) hcl44) (va_cwS 3 hts gX7_smooth_X7_within rfl rfl rfl cdS_X7_within ⟨Nat.le_of_ble_eq_true rfl, Nat.le_of_ble_eq_true rfl⟩) (ct_preS E sb45 hP41 hD41 hS41) rfl rfl hl32.1 rfl (lv_room (Nat.le_of_ble_eq_true rfl)) dX7_smooth_187 ⟨Nat.zero_le _, Nat.zero_le _⟩) (fun H46 lc46 hP46 hD46 hS46 => ?_); clear sb45 hcl44
            clear hP41 hD41 hS41
            have hP46 : va_P D vwCl (wf [oB (r0 0) 7 [.int m_thrown, .ref (r0 1), .int m_length, .int m_at, .int m_fault, .int m_hasHeader, .int m_width, .int m_height, .int m_limit, .ref (r0 2), .ref (r0 3), .ref (r0 4), .ref (r0 5), .ref (r0 6), .ref (r0 7), .ref (r0 8), .ref (r0 9), .int m_hasPicture, .int m_frames, .int m_taken, .ref (r0 10), .ref (r0 11), .ref (r0 12), .int m_many, .ref (r0 13), .ref (r0 14), .ref (r0 15), .ref (r0 16), .ref (r0 17), .ref (r0 18), .ref (r0 19), .ref (r0 20), .ref (r0 21), .ref (r0 22), .int m_due, .ref (r0 23), .ref (r0 24), .ref (r0 25), .ref (r0 26), .ref (r0 27), .ref (r0 28), .ref (r0 29)], aI (r0 12) cI 2304 m_made_39] []) H46 := hP46
            have hD46 : va_D A (wf [oB (r0 0) 7 [.int m_thrown, .ref (r0 1), .int m_length, .int m_at, .int m_fault, .int m_hasHeader, .int m_width, .int m_height, .int m_limit, .ref (r0 2), .ref (r0 3), .ref (r0 4), .ref (r0 5), .ref (r0 6), .ref (r0 7), .ref (r0 8), .ref (r0 9), .int m_hasPicture, .int m_frames, .int m_taken, .ref (r0 10), .ref (r0 11), .ref (r0 12), .int m_many, .ref (r0 13), .ref (r0 14), .ref (r0 15), .ref (r0 16), .ref (r0 17), .ref (r0 18), .ref (r0 19), .ref (r0 20), .ref (r0 21), .ref (r0 22), .int m_due, .ref (r0 23), .ref (r0 24), .ref (r0 25), .ref (r0 26), .ref (r0 27), .ref (r0 28), .ref (r0 29)], aI (r0 12) cI 2304 m_made_39] []) := hD46
            obtain ⟨hin47, hm47⟩ := gi_some hm44; clear hm44
            obtain ⟨m_made_48, em_made_48, hm49⟩ := nm_some hm47; clear hm47
            refine ct_iast (g := m_made_48) (ws' := (wf [oB (r0 0) 7 [.int m_thrown, .ref (r0 1), .int m_length, .int m_at, .int m_fault, .int m_hasHeader, .int m_width, .int m_height, .int m_limit, .ref (r0 2), .ref (r0 3), .ref (r0 4), .ref (r0 5), .ref (r0 6), .ref (r0 7), .ref (r0 8), .ref (r0 9), .int m_hasPicture, .int m_frames, .int m_taken, .ref (r0 10), .ref (r0 11), .ref (r0 12), .int m_many, .ref (r0 13), .ref (r0 14), .ref (r0 15), .ref (r0 16), .ref (r0 17), .ref (r0 18), .ref (r0 19), .ref (r0 20), .ref (r0 21), .ref (r0 22), .int m_due, .ref (r0 23), .ref (r0 24), .ref (r0 25), .ref (r0 26), .ref (r0 27), .ref (r0 28), .ref (r0 29)], aI (r0 12) cI 2304 m_made_48] [])) hx hb E.1 hP46 hD46 hS46 1 0 rfl rfl hin47 em_made_48 rfl dX7_smooth_190 (fun H50 lc50 hP50 hD50 hS50 => ?_)
            clear hP46 hD46 hS46
            obtain ⟨v4_51, ev4_51, hm52⟩ := nm_some hm49; clear hm49
            refine lv_iinc (v := v4_51) (lv' := [(4, .int v4_51), (8, .int k0_29), (0, .ref (r0 0)), (1, .int x1), (2, .int x2), (3, .int x3), (5, .int v5_11)]) hx hb dX7_smooth_191 hl32 (k := 5) rfl (by rw [ev4_51]; rfl) (by decide) rfl (fun ls53 hl53 => ?_); clear hl32
            refine lv_goto (tgt := 3) hx hb dX7_smooth_194 (by decide) ?_
            exact ih m_made_48 v4_51 _ _ _ _ hm52 hP50 hD50 hS50 (lv_sub hl53 [2, 3, 4, 5, 0] rfl) kx
          refine lv_icmp_ge (tgt := 96) hx hb dX7_smooth_88 (by decide) (fun hc54 => ?_) (fun hc54 => ?_)
          · have hm55 := bq_t hm28 hc54; clear hm28
            refine lv_iload hx hb dX7_smooth_96 (lv_at hl26 0 rfl) ?_
            refine lv_iconst (v := 2) hx hb dX7_smooth_98 (by decide) ?_
            refine lv_aload_n hx hb dX7_smooth_99 rfl (lv_at hl26 1 rfl) ?_
            refine va_get (D := D) (ci := 7) (v := .int m_limit) (C := RX7) (T := TX7) (N := 42) hx hb hts hi_X7_smooth_7 hown E.1 hP24 0 rfl rfl 8 (by decide) (hts _ (List.mem_of_getElem? (i := 2) rfl)) (fun _ h9 => h9) rfl dX7_smooth_100 ?_
            refine lv_imul hx hb dX7_smooth_103 ?_
            refine lv_icmp_ge (tgt := 136) hx hb dX7_smooth_104 (by decide) (fun hc56 => ?_) (fun hc56 => ?_)
            · have hm57 := bq_t hm55 hc56; clear hm55
              refine lv_iconst (v := 0) hx hb dX7_smooth_136 (by decide) ?_
              exact KJ28 (0 : Int32) _ _ _ hm57 hP24 hD24 hS24 (lv_sub hl26 [1, 2, 3, 4, 5, 6] rfl)
            · have hm58 := bq_f hm55 hc56; clear hm55
              refine lv_iload hx hb dX7_smooth_107 (lv_at hl26 7 rfl) ?_
              refine lv_if_ge (tgt := 124) hx hb dX7_smooth_109 (by decide) (fun hc59 => ?_) (fun hc59 => ?_)
              · have hm60 := bq_t hm58 hc59; clear hm58
                refine lv_iconst (v := 2) hx hb dX7_smooth_124 (by decide) ?_
                refine lv_aload_n hx hb dX7_smooth_125 rfl (lv_at hl26 1 rfl) ?_
                refine va_get (D := D) (ci := 7) (v := .int m_limit) (C := RX7) (T := TX7) (N := 42) hx hb hts hi_X7_smooth_7 hown E.1 hP24 0 rfl rfl 8 (by decide) (hts _ (List.mem_of_getElem? (i := 2) rfl)) (fun _ h9 => h9) rfl dX7_smooth_126 ?_
                refine lv_imul hx hb dX7_smooth_129 ?_
                refine lv_iload hx hb dX7_smooth_130 (lv_at hl26 0 rfl) ?_
                refine lv_isub hx hb dX7_smooth_132 ?_
                refine lv_goto (tgt := 137) hx hb dX7_smooth_133 (by decide) ?_
                exact KJ28 (((2 : Int32) * m_limit) - k0_23) _ _ _ hm60 hP24 hD24 hS24 (lv_sub hl26 [1, 2, 3, 4, 5, 6] rfl)
              · have hm61 := bq_f hm58 hc59; clear hm58
                refine lv_iload hx hb dX7_smooth_112 (lv_at hl26 0 rfl) ?_
                refine lv_iconst (v := 2) hx hb dX7_smooth_114 (by decide) ?_
                refine lv_aload_n hx hb dX7_smooth_115 rfl (lv_at hl26 1 rfl) ?_
                refine va_get (D := D) (ci := 7) (v := .int m_limit) (C := RX7) (T := TX7) (N := 42) hx hb hts hi_X7_smooth_7 hown E.1 hP24 0 rfl rfl 8 (by decide) (hts _ (List.mem_of_getElem? (i := 2) rfl)) (fun _ h9 => h9) rfl dX7_smooth_116 ?_
                refine lv_imul hx hb dX7_smooth_119 ?_
                refine lv_isub hx hb dX7_smooth_120 ?_
                refine lv_goto (tgt := 137) hx hb dX7_smooth_121 (by decide) ?_
                exact KJ28 (k0_23 - ((2 : Int32) * m_limit)) _ _ _ hm61 hP24 hD24 hS24 (lv_sub hl26 [1, 2, 3, 4, 5, 6] rfl)
          · have hm62 := bq_f hm28 hc54; clear hm28
            refine lv_iload hx hb dX7_smooth_91 (lv_at hl26 7 rfl) ?_
            refine lv_goto (tgt := 137) hx hb dX7_smooth_93 (by decide) ?_
            exact KJ28 v6_18 _ _ _ hm62 hP24 hD24 hS24 (lv_sub hl26 [1, 2, 3, 4, 5, 6] rfl)
        refine lv_if_ge (tgt := 78) hx hb dX7_smooth_69 (by decide) (fun hc63 => ?_) (fun hc63 => ?_)
        · have hm64 := bq_t hm22 hc63; clear hm22
          refine lv_iload hx hb dX7_smooth_78 (lv_at hl20 0 rfl) ?_
          exact KJ22 v6_18 _ _ _ hm64 hP5 hD5 hS5 (lv_sub hl20 [2, 3, 4, 5, 6, 1, 0] rfl)
        · have hm65 := bq_f hm22 hc63; clear hm22
          refine lv_iload hx hb dX7_smooth_72 (lv_at hl20 0 rfl) ?_
          refine lv_ineg hx hb dX7_smooth_74 ?_
          refine lv_goto (tgt := 80) hx hb dX7_smooth_75 (by decide) ?_
          exact KJ22 (-v6_18) _ _ _ hm65 hP5 hD5 hS5 (lv_sub hl20 [2, 3, 4, 5, 6, 1, 0] rfl)
  refine LP2 4000 m_made (0 : Int32) (m_made_66) _ _ _ hlp2 hP0 hD0 hS0 (lv_sub hl1 [1, 2, 3, 4, 0] rfl) (fun H68 lc68 ls68 hP68 hD68 hS68 hl68 => ?_); clear LP2 hlp2
  clear hP0 hD0 hS0
  have hl68 : lv_has ls68 9 [] := hl68
  have hP68 : va_P D vwCl (wf [oB (r0 0) 7 [.int m_thrown, .ref (r0 1), .int m_length, .int m_at, .int m_fault, .int m_hasHeader, .int m_width, .int m_height, .int m_limit, .ref (r0 2), .ref (r0 3), .ref (r0 4), .ref (r0 5), .ref (r0 6), .ref (r0 7), .ref (r0 8), .ref (r0 9), .int m_hasPicture, .int m_frames, .int m_taken, .ref (r0 10), .ref (r0 11), .ref (r0 12), .int m_many, .ref (r0 13), .ref (r0 14), .ref (r0 15), .ref (r0 16), .ref (r0 17), .ref (r0 18), .ref (r0 19), .ref (r0 20), .ref (r0 21), .ref (r0 22), .int m_due, .ref (r0 23), .ref (r0 24), .ref (r0 25), .ref (r0 26), .ref (r0 27), .ref (r0 28), .ref (r0 29)], aI (r0 12) cI 2304 m_made_66] []) H68 := hP68
  have hD68 : va_D A (wf [oB (r0 0) 7 [.int m_thrown, .ref (r0 1), .int m_length, .int m_at, .int m_fault, .int m_hasHeader, .int m_width, .int m_height, .int m_limit, .ref (r0 2), .ref (r0 3), .ref (r0 4), .ref (r0 5), .ref (r0 6), .ref (r0 7), .ref (r0 8), .ref (r0 9), .int m_hasPicture, .int m_frames, .int m_taken, .ref (r0 10), .ref (r0 11), .ref (r0 12), .int m_many, .ref (r0 13), .ref (r0 14), .ref (r0 15), .ref (r0 16), .ref (r0 17), .ref (r0 18), .ref (r0 19), .ref (r0 20), .ref (r0 21), .ref (r0 22), .int m_due, .ref (r0 23), .ref (r0 24), .ref (r0 25), .ref (r0 26), .ref (r0 27), .ref (r0 28), .ref (r0 29)], aI (r0 12) cI 2304 m_made_66] []) := hD68
  obtain rfl := Option.some.inj hm67
  rw [hQ]
  exact ct_vret hx hb hr hlk hP68 hD68 hS68 dX7_smooth_197

def f_X7_smoothAll_L19 (m_width : Int32) (m_height : Int32) (m_limit : Int32) (m_newModes : Nat → Int32) (v1_4 : Int32) : Nat → (Nat → Int32) → Int32 → Option ((Nat → Int32))
  | 0, _, _ => none
  | n + 1, m_made_16, v2_17 =>
  (if m_width ≤ v2_17 then
  (some (m_made_16))
  else
  (nm ((((6 : Int32) * v1_4) + v2_17) : Int32) fun v3_24 =>
  nm ((((384 : Int32) * v1_4) + ((8 : Int32) * v2_17)) : Int32) fun v4_27 =>
  gi v3_24 36 <|
  jn (fun (k32 : (Nat → Int32) → Option ((Nat → Int32))) => (if (m_newModes v3_24.toNatClampNeg) ≤ (0 : Int32) then
  (k32 m_made_16)
  else
  (jn (fun (k43 : (Nat → Int32) → Option ((Nat → Int32))) => (if v2_17 ≤ (0 : Int32) then
  (k43 m_made_16)
  else
  (bd1 (f_X7_smooth v4_27 (1 : Int32) (48 : Int32) m_limit m_made_16) fun m_made_92 =>
  k43 m_made_92))) fun m_made_44 =>
  jn (fun (k48 : (Nat → Int32) → Option ((Nat → Int32))) => (if v1_4 ≤ (0 : Int32) then
  (k48 m_made_44)
  else
  (bd1 (f_X7_smooth v4_27 (48 : Int32) (1 : Int32) m_limit m_made_44) fun m_made_84 =>
  k48 m_made_84))) fun m_made_49 =>
  jn (fun (k53 : (Nat → Int32) → Option ((Nat → Int32))) => (if m_width ≤ (v2_17 + (1 : Int32)) then
  (k53 m_made_49)
  else
  (gi (v3_24 + (1 : Int32)) 36 <|
  (if (m_newModes (v3_24 + (1 : Int32)).toNatClampNeg) = (0 : Int32) then
  (bd1 (f_X7_smooth (v4_27 + (8 : Int32)) (1 : Int32) (48 : Int32) m_limit m_made_49) fun m_made_76 =>
  k53 m_made_76)
  else
  (k53 m_made_49))))) fun m_made_54 =>
  (if m_height ≤ (v1_4 + (1 : Int32)) then
  (k32 m_made_54)
  else
  (gi (v3_24 + (6 : Int32)) 36 <|
  (if (m_newModes (v3_24 + (6 : Int32)).toNatClampNeg) = (0 : Int32) then
  (bd1 (f_X7_smooth (v4_27 + (384 : Int32)) (48 : Int32) (1 : Int32) m_limit m_made_54) fun m_made_64 =>
  k32 m_made_64)
  else
  (k32 m_made_54))))))) fun m_made_33 =>
  nm (v2_17 + (1 : Int32) : Int32) fun v2_36 =>
  f_X7_smoothAll_L19 m_width m_height m_limit m_newModes v1_4 n m_made_33 v2_36))

def f_X7_smoothAll_L2 (m_width : Int32) (m_height : Int32) (m_limit : Int32) (m_newModes : Nat → Int32) : Nat → (Nat → Int32) → Int32 → Option ((Nat → Int32))
  | 0, _, _ => none
  | n + 1, m_made_3, v1_4 =>
  (if m_height ≤ v1_4 then
  (some (m_made_3))
  else
  ((if m_limit ≤ (0 : Int32) then
  (some (m_made_3))
  else
  (bd1 (f_X7_smoothAll_L19 m_width m_height m_limit m_newModes v1_4 4000 m_made_3 (0 : Int32)) fun m_made_97 =>
  nm (v1_4 + (1 : Int32) : Int32) fun v1_100 =>
  f_X7_smoothAll_L2 m_width m_height m_limit m_newModes n m_made_97 v1_100))))

def f_X7_smoothAll (m_width : Int32) (m_height : Int32) (m_limit : Int32) (m_made : Nat → Int32) (m_newModes : Nat → Int32) : Option ((Nat → Int32)) :=
  bd1 (f_X7_smoothAll_L2 m_width m_height m_limit m_newModes 4000 m_made (0 : Int32)) fun m_made_103 =>
  some (m_made_103)

abbrev rm_X7_smoothAll : Room := { frames := 2, cells := 0, slots := 0, locals := 50 }

theorem cdS_X7_smoothAll : yX7_smoothAll.cls ≠ "java/lang/invoke/MethodHandle" ∧ yX7_smoothAll.cls ≠ "java/lang/invoke/VarHandle" ∧ (parseMethodDescriptor yX7_smoothAll.desc).map (fun d => d.parameters.length) = some 0 := by decide +kernel

theorem cdV_X7_smoothAll : yX7_smoothAll.cls = RX7 ∧ yX7_smoothAll.cls ≠ "java/lang/invoke/MethodHandle" ∧ yX7_smoothAll.cls ≠ "java/lang/invoke/VarHandle" ∧ (parseMethodDescriptor yX7_smoothAll.desc).map (fun d => d.parameters.length) = some 0 := ⟨rfl, cdS_X7_smoothAll⟩

theorem hi_X7_smoothAll_7 : ∀ w ∈ u_ws RX7 TX7 42, w ∈ wsX7_smoothAll := fun _ h => List.mem_cons_of_mem _ (List.mem_append_right _ h)

set_option maxHeartbeats 40000000 in
set_option maxRecDepth 100000 in
theorem c_X7_smoothAll (l : Launch) (D : va_G) (cB cI cJ cQ : ClassId) (N : Nat) (r0 : Nat → Nat) (sz : Nat) (m_thrown : Int32) (m_length : Int32) (m_at : Int32) (m_fault : Int32) (m_hasHeader : Int32) (m_width : Int32) (m_height : Int32) (m_limit : Int32) (m_hasPicture : Int32) (m_frames : Int32) (m_taken : Int32) (m_many : Int32) (m_due : Int32) (m_made : Nat → Int32) (m_newModes : Nat → Int32) (o : (Nat → Int32)) (hm0 : f_X7_smoothAll m_width m_height m_limit m_made m_newModes = some o) : Met l yX7_smoothAll wsX7_smoothAll rm_X7_smoothAll (ctP D cB cI cJ cQ N sz [.ref (r0 0)] (wf [oB (r0 0) 7 [.int m_thrown, .ref (r0 1), .int m_length, .int m_at, .int m_fault, .int m_hasHeader, .int m_width, .int m_height, .int m_limit, .ref (r0 2), .ref (r0 3), .ref (r0 4), .ref (r0 5), .ref (r0 6), .ref (r0 7), .ref (r0 8), .ref (r0 9), .int m_hasPicture, .int m_frames, .int m_taken, .ref (r0 10), .ref (r0 11), .ref (r0 12), .int m_many, .ref (r0 13), .ref (r0 14), .ref (r0 15), .ref (r0 16), .ref (r0 17), .ref (r0 18), .ref (r0 19), .ref (r0 20), .ref (r0 21), .ref (r0 22), .int m_due, .ref (r0 23), .ref (r0 24), .ref (r0 25), .ref (r0 26), .ref (r0 27), .ref (r0 28), .ref (r0 29)], aI (r0 12) cI 2304 m_made, aI (r0 18) cI 36 m_newModes] [])) (ctQv D (wf [oB (r0 0) 7 [.int m_thrown, .ref (r0 1), .int m_length, .int m_at, .int m_fault, .int m_hasHeader, .int m_width, .int m_height, .int m_limit, .ref (r0 2), .ref (r0 3), .ref (r0 4), .ref (r0 5), .ref (r0 6), .ref (r0 7), .ref (r0 8), .ref (r0 9), .int m_hasPicture, .int m_frames, .int m_taken, .ref (r0 10), .ref (r0 11), .ref (r0 12), .int m_many, .ref (r0 13), .ref (r0 14), .ref (r0 15), .ref (r0 16), .ref (r0 17), .ref (r0 18), .ref (r0 19), .ref (r0 20), .ref (r0 21), .ref (r0 22), .int m_due, .ref (r0 23), .ref (r0 24), .ref (r0 25), .ref (r0 26), .ref (r0 27), .ref (r0 28), .ref (r0 29)], aI (r0 12) cI 2304 o, aI (r0 18) cI 36 m_newModes] []) (va_A (wf [oB (r0 0) 7 [.int m_thrown, .ref (r0 1), .int m_length, .int m_at, .int m_fault, .int m_hasHeader, .int m_width, .int m_height, .int m_limit, .ref (r0 2), .ref (r0 3), .ref (r0 4), .ref (r0 5), .ref (r0 6), .ref (r0 7), .ref (r0 8), .ref (r0 9), .int m_hasPicture, .int m_frames, .int m_taken, .ref (r0 10), .ref (r0 11), .ref (r0 12), .int m_many, .ref (r0 13), .ref (r0 14), .ref (r0 15), .ref (r0 16), .ref (r0 17), .ref (r0 18), .ref (r0 19), .ref (r0 20), .ref (r0 21), .ref (r0 22), .int m_due, .ref (r0 23), .ref (r0 24), .ref (r0 25), .ref (r0 26), .ref (r0 27), .ref (r0 28), .ref (r0 29)], aI (r0 12) cI 2304 m_made, aI (r0 18) cI 36 m_newModes] []) sz)) 0 0 (va_A (wf [oB (r0 0) 7 [.int m_thrown, .ref (r0 1), .int m_length, .int m_at, .int m_fault, .int m_hasHeader, .int m_width, .int m_height, .int m_limit, .ref (r0 2), .ref (r0 3), .ref (r0 4), .ref (r0 5), .ref (r0 6), .ref (r0 7), .ref (r0 8), .ref (r0 9), .int m_hasPicture, .int m_frames, .int m_taken, .ref (r0 10), .ref (r0 11), .ref (r0 12), .int m_many, .ref (r0 13), .ref (r0 14), .ref (r0 15), .ref (r0 16), .ref (r0 17), .ref (r0 18), .ref (r0 19), .ref (r0 20), .ref (r0 21), .ref (r0 22), .int m_due, .ref (r0 23), .ref (r0 24), .ref (r0 25), .ref (r0 26), .ref (r0 27), .ref (r0 28), .ref (r0 29)], aI (r0 12) cI 2304 m_made, aI (r0 18) cI 36 m_newModes] []) sz) := by
  refine ct_of (y := yX7_smoothAll) (av := [.ref (r0 0)]) (cc := cX7_smoothAll) (maxL := 5) (ret := none) (own := RX7) (Qp := ctQv D (wf [oB (r0 0) 7 [.int m_thrown, .ref (r0 1), .int m_length, .int m_at, .int m_fault, .int m_hasHeader, .int m_width, .int m_height, .int m_limit, .ref (r0 2), .ref (r0 3), .ref (r0 4), .ref (r0 5), .ref (r0 6), .ref (r0 7), .ref (r0 8), .ref (r0 9), .int m_hasPicture, .int m_frames, .int m_taken, .ref (r0 10), .ref (r0 11), .ref (r0 12), .int m_many, .ref (r0 13), .ref (r0 14), .ref (r0 15), .ref (r0 16), .ref (r0 17), .ref (r0 18), .ref (r0 19), .ref (r0 20), .ref (r0 21), .ref (r0 22), .int m_due, .ref (r0 23), .ref (r0 24), .ref (r0 25), .ref (r0 26), .ref (r0 27), .ref (r0 28), .ref (r0 29)], aI (r0 12) cI 2304 o, aI (r0 18) cI 36 m_newModes] [])) (by decide) rfl rfl (Nat.le_of_ble_eq_true rfl) ?_
  intro p e s m args below meth c A hx hb hr hml hown hts hlk hnm hsz hAe E hP0 hD0 hS0 ls0 hl0
  subst hsz
  have hl0 : lv_has ls0 5 [(0, .ref (r0 0))] := hl0
  obtain ⟨QQ, hQ⟩ : ∃ Q : State → Prop, Q = MQ below (ctQv D (wf [oB (r0 0) 7 [.int m_thrown, .ref (r0 1), .int m_length, .int m_at, .int m_fault, .int m_hasHeader, .int m_width, .int m_height, .int m_limit, .ref (r0 2), .ref (r0 3), .ref (r0 4), .ref (r0 5), .ref (r0 6), .ref (r0 7), .ref (r0 8), .ref (r0 9), .int m_hasPicture, .int m_frames, .int m_taken, .ref (r0 10), .ref (r0 11), .ref (r0 12), .int m_many, .ref (r0 13), .ref (r0 14), .ref (r0 15), .ref (r0 16), .ref (r0 17), .ref (r0 18), .ref (r0 19), .ref (r0 20), .ref (r0 21), .ref (r0 22), .int m_due, .ref (r0 23), .ref (r0 24), .ref (r0 25), .ref (r0 26), .ref (r0 27), .ref (r0 28), .ref (r0 29)], aI (r0 12) cI 2304 o, aI (r0 18) cI 36 m_newModes] []) A) args s 0 0 A := ⟨_, rfl⟩
  rw [← hQ]
  unfold f_X7_smoothAll at hm0
  refine lv_iconst (v := 0) hx hb dX7_smoothAll_0 (by decide) ?_
  refine lv_istore_n (lv' := [(1, .int (0 : Int32)), (0, .ref (r0 0))]) hx hb dX7_smoothAll_1 rfl hl0 (by decide) rfl (fun ls1 hl1 => ?_); clear hl0
  obtain ⟨m_made_103, hlp2, hm104⟩ := bd1_some hm0; clear hm0
  have LP2 : ∀ (n : Nat) (m_made_3 : Nat → Int32) (v1_4 : Int32) (z2 : (Nat → Int32)) (H5 : Heap) (lc5 : List Loc) (ls5 : Array Slot), f_X7_smoothAll_L2 m_width m_height m_limit m_newModes n m_made_3 v1_4 = some z2 → va_P D vwCl (wf [oB (r0 0) 7 [.int m_thrown, .ref (r0 1), .int m_length, .int m_at, .int m_fault, .int m_hasHeader, .int m_width, .int m_height, .int m_limit, .ref (r0 2), .ref (r0 3), .ref (r0 4), .ref (r0 5), .ref (r0 6), .ref (r0 7), .ref (r0 8), .ref (r0 9), .int m_hasPicture, .int m_frames, .int m_taken, .ref (r0 10), .ref (r0 11), .ref (r0 12), .int m_many, .ref (r0 13), .ref (r0 14), .ref (r0 15), .ref (r0 16), .ref (r0 17), .ref (r0 18), .ref (r0 19), .ref (r0 20), .ref (r0 21), .ref (r0 22), .int m_due, .ref (r0 23), .ref (r0 24), .ref (r0 25), .ref (r0 26), .ref (r0 27), .ref (r0 28), .ref (r0 29)], aI (r0 12) cI 2304 m_made_3, aI (r0 18) cI 36 m_newModes] []) H5 → va_D A (wf [oB (r0 0) 7 [.int m_thrown, .ref (r0 1), .int m_length, .int m_at, .int m_fault, .int m_hasHeader, .int m_width, .int m_height, .int m_limit, .ref (r0 2), .ref (r0 3), .ref (r0 4), .ref (r0 5), .ref (r0 6), .ref (r0 7), .ref (r0 8), .ref (r0 9), .int m_hasPicture, .int m_frames, .int m_taken, .ref (r0 10), .ref (r0 11), .ref (r0 12), .int m_many, .ref (r0 13), .ref (r0 14), .ref (r0 15), .ref (r0 16), .ref (r0 17), .ref (r0 18), .ref (r0 19), .ref (r0 20), .ref (r0 21), .ref (r0 22), .int m_due, .ref (r0 23), .ref (r0 24), .ref (r0 25), .ref (r0 26), .ref (r0 27), .ref (r0 28), .ref (r0 29)], aI (r0 12) cI 2304 m_made_3, aI (r0 18) cI 36 m_newModes] []) → va_S A s.heap H5 lc5 → lv_has ls5 5 [(0, .ref (r0 0)), (1, .int v1_4)] → (∀ (H : Heap) (lc : List Loc) (ls : Array Slot), va_P D vwCl (wf [oB (r0 0) 7 [.int m_thrown, .ref (r0 1), .int m_length, .int m_at, .int m_fault, .int m_hasHeader, .int m_width, .int m_height, .int m_limit, .ref (r0 2), .ref (r0 3), .ref (r0 4), .ref (r0 5), .ref (r0 6), .ref (r0 7), .ref (r0 8), .ref (r0 9), .int m_hasPicture, .int m_frames, .int m_taken, .ref (r0 10), .ref (r0 11), .ref (r0 12), .int m_many, .ref (r0 13), .ref (r0 14), .ref (r0 15), .ref (r0 16), .ref (r0 17), .ref (r0 18), .ref (r0 19), .ref (r0 20), .ref (r0 21), .ref (r0 22), .int m_due, .ref (r0 23), .ref (r0 24), .ref (r0 25), .ref (r0 26), .ref (r0 27), .ref (r0 28), .ref (r0 29)], aI (r0 12) cI 2304 z2, aI (r0 18) cI 36 m_newModes] []) H → va_D A (wf [oB (r0 0) 7 [.int m_thrown, .ref (r0 1), .int m_length, .int m_at, .int m_fault, .int m_hasHeader, .int m_width, .int m_height, .int m_limit, .ref (r0 2), .ref (r0 3), .ref (r0 4), .ref (r0 5), .ref (r0 6), .ref (r0 7), .ref (r0 8), .ref (r0 9), .int m_hasPicture, .int m_frames, .int m_taken, .ref (r0 10), .ref (r0 11), .ref (r0 12), .int m_many, .ref (r0 13), .ref (r0 14), .ref (r0 15), .ref (r0 16), .ref (r0 17), .ref (r0 18), .ref (r0 19), .ref (r0 20), .ref (r0 21), .ref (r0 22), .int m_due, .ref (r0 23), .ref (r0 24), .ref (r0 25), .ref (r0 26), .ref (r0 27), .ref (r0 28), .ref (r0 29)], aI (r0 12) cI 2304 z2, aI (r0 18) cI 36 m_newModes] []) → va_S A s.heap H lc → lv_has ls 5 [] → W p l e rm_X7_smoothAll s m args below meth c H lc 0 0 QQ (F0 m 161 ls [])) → W p l e rm_X7_smoothAll s m args below meth c H5 lc5 0 0 QQ (F0 m 2 ls5 []) := by
    intro n
    induction n with
    | zero =>
      intro m_made_3 v1_4 z2 H5 lc5 ls5 hm7; simp [f_X7_smoothAll_L2] at hm7
    | succ n ih =>
      intro m_made_3 v1_4 z2 H5 lc5 ls5 hm7 hP5 hD5 hS5 hl5 kx
      rw [f_X7_smoothAll_L2] at hm7
      refine lv_iload_n hx hb dX7_smoothAll_2 rfl (lv_at hl5 1 rfl) ?_
      refine lv_aload_n hx hb dX7_smoothAll_3 rfl (lv_at hl5 0 rfl) ?_
      refine va_get (D := D) (ci := 7) (v := .int m_height) (C := RX7) (T := TX7) (N := 42) hx hb hts hi_X7_smoothAll_7 hown E.1 hP5 0 rfl rfl 7 (by decide) (hts _ (List.mem_of_getElem? (i := 1) rfl)) (fun _ h9 => h9) rfl dX7_smoothAll_4 ?_
      refine lv_icmp_ge (tgt := 161) hx hb dX7_smoothAll_7 (by decide) (fun hc8 => ?_) (fun hc8 => ?_)
      · have hm9 := bq_t hm7 hc8; clear hm7
        obtain rfl := Option.some.inj hm9
        exact kx _ _ _ hP5 hD5 hS5 (lv_sub hl5 [] rfl)
      · have hm10 := bq_f hm7 hc8; clear hm7
        refine lv_aload_n hx hb dX7_smoothAll_10 rfl (lv_at hl5 0 rfl) ?_
        refine va_get (D := D) (ci := 7) (v := .int m_limit) (C := RX7) (T := TX7) (N := 42) hx hb hts hi_X7_smoothAll_7 hown E.1 hP5 0 rfl rfl 8 (by decide) (hts _ (List.mem_of_getElem? (i := 2) rfl)) (fun _ h9 => h9) rfl dX7_smoothAll_11 ?_
        refine lv_if_le (tgt := 161) hx hb dX7_smoothAll_14 (by decide) (fun hc11 => ?_) (fun hc11 => ?_)
        · have hm12 := bq_t hm10 hc11; clear hm10
          obtain rfl := Option.some.inj hm12
          exact kx _ _ _ hP5 hD5 hS5 (lv_sub hl5 [] rfl)
        · have hm13 := bq_f hm10 hc11; clear hm10
          refine lv_iconst (v := 0) hx hb dX7_smoothAll_17 (by decide) ?_
          refine lv_istore_n (lv' := [(2, .int (0 : Int32)), (0, .ref (r0 0)), (1, .int v1_4)]) hx hb dX7_smoothAll_18 rfl hl5 (by decide) rfl (fun ls14 hl14 => ?_); clear hl5
          obtain ⟨m_made_97, hlp15, hm98⟩ := bd1_some hm13; clear hm13
          have LP15 : ∀ (n : Nat) (m_made_16 : Nat → Int32) (v2_17 : Int32) (z15 : (Nat → Int32)) (H18 : Heap) (lc18 : List Loc) (ls18 : Array Slot), f_X7_smoothAll_L19 m_width m_height m_limit m_newModes v1_4 n m_made_16 v2_17 = some z15 → va_P D vwCl (wf [oB (r0 0) 7 [.int m_thrown, .ref (r0 1), .int m_length, .int m_at, .int m_fault, .int m_hasHeader, .int m_width, .int m_height, .int m_limit, .ref (r0 2), .ref (r0 3), .ref (r0 4), .ref (r0 5), .ref (r0 6), .ref (r0 7), .ref (r0 8), .ref (r0 9), .int m_hasPicture, .int m_frames, .int m_taken, .ref (r0 10), .ref (r0 11), .ref (r0 12), .int m_many, .ref (r0 13), .ref (r0 14), .ref (r0 15), .ref (r0 16), .ref (r0 17), .ref (r0 18), .ref (r0 19), .ref (r0 20), .ref (r0 21), .ref (r0 22), .int m_due, .ref (r0 23), .ref (r0 24), .ref (r0 25), .ref (r0 26), .ref (r0 27), .ref (r0 28), .ref (r0 29)], aI (r0 12) cI 2304 m_made_16, aI (r0 18) cI 36 m_newModes] []) H18 → va_D A (wf [oB (r0 0) 7 [.int m_thrown, .ref (r0 1), .int m_length, .int m_at, .int m_fault, .int m_hasHeader, .int m_width, .int m_height, .int m_limit, .ref (r0 2), .ref (r0 3), .ref (r0 4), .ref (r0 5), .ref (r0 6), .ref (r0 7), .ref (r0 8), .ref (r0 9), .int m_hasPicture, .int m_frames, .int m_taken, .ref (r0 10), .ref (r0 11), .ref (r0 12), .int m_many, .ref (r0 13), .ref (r0 14), .ref (r0 15), .ref (r0 16), .ref (r0 17), .ref (r0 18), .ref (r0 19), .ref (r0 20), .ref (r0 21), .ref (r0 22), .int m_due, .ref (r0 23), .ref (r0 24), .ref (r0 25), .ref (r0 26), .ref (r0 27), .ref (r0 28), .ref (r0 29)], aI (r0 12) cI 2304 m_made_16, aI (r0 18) cI 36 m_newModes] []) → va_S A s.heap H18 lc18 → lv_has ls18 5 [(0, .ref (r0 0)), (1, .int v1_4), (2, .int v2_17)] → (∀ (H : Heap) (lc : List Loc) (ls : Array Slot), va_P D vwCl (wf [oB (r0 0) 7 [.int m_thrown, .ref (r0 1), .int m_length, .int m_at, .int m_fault, .int m_hasHeader, .int m_width, .int m_height, .int m_limit, .ref (r0 2), .ref (r0 3), .ref (r0 4), .ref (r0 5), .ref (r0 6), .ref (r0 7), .ref (r0 8), .ref (r0 9), .int m_hasPicture, .int m_frames, .int m_taken, .ref (r0 10), .ref (r0 11), .ref (r0 12), .int m_many, .ref (r0 13), .ref (r0 14), .ref (r0 15), .ref (r0 16), .ref (r0 17), .ref (r0 18), .ref (r0 19), .ref (r0 20), .ref (r0 21), .ref (r0 22), .int m_due, .ref (r0 23), .ref (r0 24), .ref (r0 25), .ref (r0 26), .ref (r0 27), .ref (r0 28), .ref (r0 29)], aI (r0 12) cI 2304 z15, aI (r0 18) cI 36 m_newModes] []) H → va_D A (wf [oB (r0 0) 7 [.int m_thrown, .ref (r0 1), .int m_length, .int m_at, .int m_fault, .int m_hasHeader, .int m_width, .int m_height, .int m_limit, .ref (r0 2), .ref (r0 3), .ref (r0 4), .ref (r0 5), .ref (r0 6), .ref (r0 7), .ref (r0 8), .ref (r0 9), .int m_hasPicture, .int m_frames, .int m_taken, .ref (r0 10), .ref (r0 11), .ref (r0 12), .int m_many, .ref (r0 13), .ref (r0 14), .ref (r0 15), .ref (r0 16), .ref (r0 17), .ref (r0 18), .ref (r0 19), .ref (r0 20), .ref (r0 21), .ref (r0 22), .int m_due, .ref (r0 23), .ref (r0 24), .ref (r0 25), .ref (r0 26), .ref (r0 27), .ref (r0 28), .ref (r0 29)], aI (r0 12) cI 2304 z15, aI (r0 18) cI 36 m_newModes] []) → va_S A s.heap H lc → lv_has ls 5 [(0, .ref (r0 0)), (1, .int v1_4)] → W p l e rm_X7_smoothAll s m args below meth c H lc 0 0 QQ (F0 m 155 ls [])) → W p l e rm_X7_smoothAll s m args below meth c H18 lc18 0 0 QQ (F0 m 19 ls18 []) := by
            intro n
            induction n with
            | zero =>
              intro m_made_16 v2_17 z15 H18 lc18 ls18 hm20; simp [f_X7_smoothAll_L19] at hm20
            | succ n ih =>
              intro m_made_16 v2_17 z15 H18 lc18 ls18 hm20 hP18 hD18 hS18 hl18 kx
              rw [f_X7_smoothAll_L19] at hm20
              refine lv_iload_n hx hb dX7_smoothAll_19 rfl (lv_at hl18 2 rfl) ?_
              refine lv_aload_n hx hb dX7_smoothAll_20 rfl (lv_at hl18 0 rfl) ?_
              refine va_get (D := D) (ci := 7) (v := .int m_width) (C := RX7) (T := TX7) (N := 42) hx hb hts hi_X7_smoothAll_7 hown E.1 hP18 0 rfl rfl 6 (by decide) (hts _ (List.mem_of_getElem? (i := 3) rfl)) (fun _ h9 => h9) rfl dX7_smoothAll_21 ?_
              refine lv_icmp_ge (tgt := 155) hx hb dX7_smoothAll_24 (by decide) (fun hc21 => ?_) (fun hc21 => ?_)
              · have hm22 := bq_t hm20 hc21; clear hm20
                obtain rfl := Option.some.inj hm22
                exact kx _ _ _ hP18 hD18 hS18 (lv_sub hl18 [0, 1] rfl)
              · have hm23 := bq_f hm20 hc21; clear hm20
                refine lv_bipush (v := 6) hx hb dX7_smoothAll_27 (by decide) ?_
                refine lv_iload_n hx hb dX7_smoothAll_29 rfl (lv_at hl18 1 rfl) ?_
                refine lv_imul hx hb dX7_smoothAll_30 ?_
                refine lv_iload_n hx hb dX7_smoothAll_31 rfl (lv_at hl18 2 rfl) ?_
                refine lv_iadd hx hb dX7_smoothAll_32 ?_
                obtain ⟨v3_24, ev3_24, hm25⟩ := nm_some hm23; clear hm23
                refine ct_topi ev3_24 ?_
                refine lv_istore_n (lv' := [(3, .int v3_24), (0, .ref (r0 0)), (1, .int v1_4), (2, .int v2_17)]) hx hb dX7_smoothAll_33 rfl hl18 (by decide) rfl (fun ls26 hl26 => ?_); clear hl18
                refine lv_sipush (v := 384) hx hb dX7_smoothAll_34 (by decide) ?_
                refine lv_iload_n hx hb dX7_smoothAll_37 rfl (lv_at hl26 2 rfl) ?_
                refine lv_imul hx hb dX7_smoothAll_38 ?_
                refine lv_bipush (v := 8) hx hb dX7_smoothAll_39 (by decide) ?_
                refine lv_iload_n hx hb dX7_smoothAll_41 rfl (lv_at hl26 3 rfl) ?_
                refine lv_imul hx hb dX7_smoothAll_42 ?_
                refine lv_iadd hx hb dX7_smoothAll_43 ?_
                obtain ⟨v4_27, ev4_27, hm28⟩ := nm_some hm25; clear hm25
                refine ct_topi ev4_27 ?_
                refine lv_istore (lv' := [(4, .int v4_27), (3, .int v3_24), (0, .ref (r0 0)), (1, .int v1_4), (2, .int v2_17)]) hx hb dX7_smoothAll_44 hl26 (by decide) rfl (fun ls29 hl29 => ?_); clear hl26
                refine lv_aload_n hx hb dX7_smoothAll_46 rfl (lv_at hl29 2 rfl) ?_
                refine va_get (D := D) (ci := 7) (v := .ref (r0 18)) (C := RX7) (T := TX7) (N := 42) hx hb hts hi_X7_smoothAll_7 hown E.1 hP18 0 rfl rfl 29 (by decide) (hts _ (List.mem_of_getElem? (i := 4) rfl)) (fun _ h9 => h9) rfl dX7_smoothAll_47 ?_
                refine lv_iload_n hx hb dX7_smoothAll_50 rfl (lv_at hl29 1 rfl) ?_
                obtain ⟨hin30, hm30⟩ := gi_some hm28; clear hm28
                refine va_iald hx hb E.1 hP18 2 0 rfl rfl hin30 dX7_smoothAll_51 ?_
                obtain ⟨k32, ek32, hm32⟩ := jn_some hm30; clear hm30
                have KJ32 : ∀ (m_made_33 : Nat → Int32) (H34 : Heap) (lc34 : List Loc) (ls34 : Array Slot), k32 m_made_33 = some z15 → va_P D vwCl (wf [oB (r0 0) 7 [.int m_thrown, .ref (r0 1), .int m_length, .int m_at, .int m_fault, .int m_hasHeader, .int m_width, .int m_height, .int m_limit, .ref (r0 2), .ref (r0 3), .ref (r0 4), .ref (r0 5), .ref (r0 6), .ref (r0 7), .ref (r0 8), .ref (r0 9), .int m_hasPicture, .int m_frames, .int m_taken, .ref (r0 10), .ref (r0 11), .ref (r0 12), .int m_many, .ref (r0 13), .ref (r0 14), .ref (r0 15), .ref (r0 16), .ref (r0 17), .ref (r0 18), .ref (r0 19), .ref (r0 20), .ref (r0 21), .ref (r0 22), .int m_due, .ref (r0 23), .ref (r0 24), .ref (r0 25), .ref (r0 26), .ref (r0 27), .ref (r0 28), .ref (r0 29)], aI (r0 12) cI 2304 m_made_33, aI (r0 18) cI 36 m_newModes] []) H34 → va_D A (wf [oB (r0 0) 7 [.int m_thrown, .ref (r0 1), .int m_length, .int m_at, .int m_fault, .int m_hasHeader, .int m_width, .int m_height, .int m_limit, .ref (r0 2), .ref (r0 3), .ref (r0 4), .ref (r0 5), .ref (r0 6), .ref (r0 7), .ref (r0 8), .ref (r0 9), .int m_hasPicture, .int m_frames, .int m_taken, .ref (r0 10), .ref (r0 11), .ref (r0 12), .int m_many, .ref (r0 13), .ref (r0 14), .ref (r0 15), .ref (r0 16), .ref (r0 17), .ref (r0 18), .ref (r0 19), .ref (r0 20), .ref (r0 21), .ref (r0 22), .int m_due, .ref (r0 23), .ref (r0 24), .ref (r0 25), .ref (r0 26), .ref (r0 27), .ref (r0 28), .ref (r0 29)], aI (r0 12) cI 2304 m_made_33, aI (r0 18) cI 36 m_newModes] []) → va_S A s.heap H34 lc34 → lv_has ls34 5 [(0, .ref (r0 0)), (1, .int v1_4), (2, .int v2_17)] → W p l e rm_X7_smoothAll s m args below meth c H34 lc34 0 0 QQ (F0 m 149 ls34 []) := by
                  intro m_made_33 H34 lc34 ls34 hm35 hP34 hD34 hS34 hl34
                  rw [ek32] at hm35
                  obtain ⟨v2_36, ev2_36, hm37⟩ := nm_some hm35; clear hm35
                  refine lv_iinc (v := v2_36) (lv' := [(2, .int v2_36), (0, .ref (r0 0)), (1, .int v1_4)]) hx hb dX7_smoothAll_149 hl34 (k := 2) rfl (by rw [ev2_36]; rfl) (by decide) rfl (fun ls38 hl38 => ?_); clear hl34
                  refine lv_goto (tgt := 19) hx hb dX7_smoothAll_152 (by decide) ?_
                  exact ih m_made_33 v2_36 _ _ _ _ hm37 hP34 hD34 hS34 (lv_sub hl38 [1, 2, 0] rfl) kx
                refine lv_if_le (tgt := 149) hx hb dX7_smoothAll_52 (by decide) (fun hc39 => ?_) (fun hc39 => ?_)
                · have hm40 := bq_t hm32 hc39; clear hm32
                  exact KJ32 m_made_16 _ _ _ hm40 hP18 hD18 hS18 (lv_sub hl29 [2, 3, 4] rfl)
                · have hm41 := bq_f hm32 hc39; clear hm32
                  refine lv_iload_n hx hb dX7_smoothAll_55 rfl (lv_at hl29 4 rfl) ?_
                  obtain ⟨k43, ek43, hm43⟩ := jn_some hm41; clear hm41
                  have KJ43 : ∀ (m_made_44 : Nat → Int32) (H45 : Heap) (lc45 : List Loc) (ls45 : Array Slot), k43 m_made_44 = some z15 → va_P D vwCl (wf [oB (r0 0) 7 [.int m_thrown, .ref (r0 1), .int m_length, .int m_at, .int m_fault, .int m_hasHeader, .int m_width, .int m_height, .int m_limit, .ref (r0 2), .ref (r0 3), .ref (r0 4), .ref (r0 5), .ref (r0 6), .ref (r0 7), .ref (r0 8), .ref (r0 9), .int m_hasPicture, .int m_frames, .int m_taken, .ref (r0 10), .ref (r0 11), .ref (r0 12), .int m_many, .ref (r0 13), .ref (r0 14), .ref (r0 15), .ref (r0 16), .ref (r0 17), .ref (r0 18), .ref (r0 19), .ref (r0 20), .ref (r0 21), .ref (r0 22), .int m_due, .ref (r0 23), .ref (r0 24), .ref (r0 25), .ref (r0 26), .ref (r0 27), .ref (r0 28), .ref (r0 29)], aI (r0 12) cI 2304 m_made_44, aI (r0 18) cI 36 m_newModes] []) H45 → va_D A (wf [oB (r0 0) 7 [.int m_thrown, .ref (r0 1), .int m_length, .int m_at, .int m_fault, .int m_hasHeader, .int m_width, .int m_height, .int m_limit, .ref (r0 2), .ref (r0 3), .ref (r0 4), .ref (r0 5), .ref (r0 6), .ref (r0 7), .ref (r0 8), .ref (r0 9), .int m_hasPicture, .int m_frames, .int m_taken, .ref (r0 10), .ref (r0 11), .ref (r0 12), .int m_many, .ref (r0 13), .ref (r0 14), .ref (r0 15), .ref (r0 16), .ref (r0 17), .ref (r0 18), .ref (r0 19), .ref (r0 20), .ref (r0 21), .ref (r0 22), .int m_due, .ref (r0 23), .ref (r0 24), .ref (r0 25), .ref (r0 26), .ref (r0 27), .ref (r0 28), .ref (r0 29)], aI (r0 12) cI 2304 m_made_44, aI (r0 18) cI 36 m_newModes] []) → va_S A s.heap H45 lc45 → lv_has ls45 5 [(0, .ref (r0 0)), (1, .int v1_4), (2, .int v2_17), (3, .int v3_24), (4, .int v4_27)] → W p l e rm_X7_smoothAll s m args below meth c H45 lc45 0 0 QQ (F0 m 68 ls45 []) := by
                    intro m_made_44 H45 lc45 ls45 hm46 hP45 hD45 hS45 hl45
                    rw [ek43] at hm46
                    refine lv_iload_n hx hb dX7_smoothAll_68 rfl (lv_at hl45 1 rfl) ?_
                    obtain ⟨k48, ek48, hm48⟩ := jn_some hm46; clear hm46
                    have KJ48 : ∀ (m_made_49 : Nat → Int32) (H50 : Heap) (lc50 : List Loc) (ls50 : Array Slot), k48 m_made_49 = some z15 → va_P D vwCl (wf [oB (r0 0) 7 [.int m_thrown, .ref (r0 1), .int m_length, .int m_at, .int m_fault, .int m_hasHeader, .int m_width, .int m_height, .int m_limit, .ref (r0 2), .ref (r0 3), .ref (r0 4), .ref (r0 5), .ref (r0 6), .ref (r0 7), .ref (r0 8), .ref (r0 9), .int m_hasPicture, .int m_frames, .int m_taken, .ref (r0 10), .ref (r0 11), .ref (r0 12), .int m_many, .ref (r0 13), .ref (r0 14), .ref (r0 15), .ref (r0 16), .ref (r0 17), .ref (r0 18), .ref (r0 19), .ref (r0 20), .ref (r0 21), .ref (r0 22), .int m_due, .ref (r0 23), .ref (r0 24), .ref (r0 25), .ref (r0 26), .ref (r0 27), .ref (r0 28), .ref (r0 29)], aI (r0 12) cI 2304 m_made_49, aI (r0 18) cI 36 m_newModes] []) H50 → va_D A (wf [oB (r0 0) 7 [.int m_thrown, .ref (r0 1), .int m_length, .int m_at, .int m_fault, .int m_hasHeader, .int m_width, .int m_height, .int m_limit, .ref (r0 2), .ref (r0 3), .ref (r0 4), .ref (r0 5), .ref (r0 6), .ref (r0 7), .ref (r0 8), .ref (r0 9), .int m_hasPicture, .int m_frames, .int m_taken, .ref (r0 10), .ref (r0 11), .ref (r0 12), .int m_many, .ref (r0 13), .ref (r0 14), .ref (r0 15), .ref (r0 16), .ref (r0 17), .ref (r0 18), .ref (r0 19), .ref (r0 20), .ref (r0 21), .ref (r0 22), .int m_due, .ref (r0 23), .ref (r0 24), .ref (r0 25), .ref (r0 26), .ref (r0 27), .ref (r0 28), .ref (r0 29)], aI (r0 12) cI 2304 m_made_49, aI (r0 18) cI 36 m_newModes] []) → va_S A s.heap H50 lc50 → lv_has ls50 5 [(0, .ref (r0 0)), (1, .int v1_4), (2, .int v2_17), (3, .int v3_24), (4, .int v4_27)] → W p l e rm_X7_smoothAll s m args below meth c H50 lc50 0 0 QQ (F0 m 81 ls50 []) := by
                      intro m_made_49 H50 lc50 ls50 hm51 hP50 hD50 hS50 hl50
                      rw [ek48] at hm51
                      refine lv_iload_n hx hb dX7_smoothAll_81 rfl (lv_at hl50 2 rfl) ?_
                      refine lv_iconst (v := 1) hx hb dX7_smoothAll_82 (by decide) ?_
                      refine lv_iadd hx hb dX7_smoothAll_83 ?_
                      refine lv_aload_n hx hb dX7_smoothAll_84 rfl (lv_at hl50 0 rfl) ?_
                      refine va_get (D := D) (ci := 7) (v := .int m_width) (C := RX7) (T := TX7) (N := 42) hx hb hts hi_X7_smoothAll_7 hown E.1 hP50 0 rfl rfl 6 (by decide) (hts _ (List.mem_of_getElem? (i := 3) rfl)) (fun _ h9 => h9) rfl dX7_smoothAll_85 ?_
                      obtain ⟨k53, ek53, hm53⟩ := jn_some hm51; clear hm51
                      have KJ53 : ∀ (m_made_54 : Nat → Int32) (H55 : Heap) (lc55 : List Loc) (ls55 : Array Slot), k53 m_made_54 = some z15 → va_P D vwCl (wf [oB (r0 0) 7 [.int m_thrown, .ref (r0 1), .int m_length, .int m_at, .int m_fault, .int m_hasHeader, .int m_width, .int m_height, .int m_limit, .ref (r0 2), .ref (r0 3), .ref (r0 4), .ref (r0 5), .ref (r0 6), .ref (r0 7), .ref (r0 8), .ref (r0 9), .int m_hasPicture, .int m_frames, .int m_taken, .ref (r0 10), .ref (r0 11), .ref (r0 12), .int m_many, .ref (r0 13), .ref (r0 14), .ref (r0 15), .ref (r0 16), .ref (r0 17), .ref (r0 18), .ref (r0 19), .ref (r0 20), .ref (r0 21), .ref (r0 22), .int m_due, .ref (r0 23), .ref (r0 24), .ref (r0 25), .ref (r0 26), .ref (r0 27), .ref (r0 28), .ref (r0 29)], aI (r0 12) cI 2304 m_made_54, aI (r0 18) cI 36 m_newModes] []) H55 → va_D A (wf [oB (r0 0) 7 [.int m_thrown, .ref (r0 1), .int m_length, .int m_at, .int m_fault, .int m_hasHeader, .int m_width, .int m_height, .int m_limit, .ref (r0 2), .ref (r0 3), .ref (r0 4), .ref (r0 5), .ref (r0 6), .ref (r0 7), .ref (r0 8), .ref (r0 9), .int m_hasPicture, .int m_frames, .int m_taken, .ref (r0 10), .ref (r0 11), .ref (r0 12), .int m_many, .ref (r0 13), .ref (r0 14), .ref (r0 15), .ref (r0 16), .ref (r0 17), .ref (r0 18), .ref (r0 19), .ref (r0 20), .ref (r0 21), .ref (r0 22), .int m_due, .ref (r0 23), .ref (r0 24), .ref (r0 25), .ref (r0 26), .ref (r0 27), .ref (r0 28), .ref (r0 29)], aI (r0 12) cI 2304 m_made_54, aI (r0 18) cI 36 m_newModes] []) → va_S A s.heap H55 lc55 → lv_has ls55 5 [(0, .ref (r0 0)), (1, .int v1_4), (2, .int v2_17), (3, .int v3_24), (4, .int v4_27)] → W p l e rm_X7_smoothAll s m args below meth c H55 lc55 0 0 QQ (F0 m 114 ls55 []) := by
                        intro m_made_54 H55 lc55 ls55 hm56 hP55 hD55 hS55 hl55
                        rw [ek53] at hm56
                        refine lv_iload_n hx hb dX7_smoothAll_114 rfl (lv_at hl55 1 rfl) ?_
                        refine lv_iconst (v := 1) hx hb dX7_smoothAll_115 (by decide) ?_
                        refine lv_iadd hx hb dX7_smoothAll_116 ?_
                        refine lv_aload_n hx hb dX7_smoothAll_117 rfl (lv_at hl55 0 rfl) ?_
                        refine va_get (D := D) (ci := 7) (v := .int m_height) (C := RX7) (T := TX7) (N := 42) hx hb hts hi_X7_smoothAll_7 hown E.1 hP55 0 rfl rfl 7 (by decide) (hts _ (List.mem_of_getElem? (i := 1) rfl)) (fun _ h9 => h9) rfl dX7_smoothAll_118 ?_
                        refine lv_icmp_ge (tgt := 149) hx hb dX7_smoothAll_121 (by decide) (fun hc57 => ?_) (fun hc57 => ?_)
                        · have hm58 := bq_t hm56 hc57; clear hm56
                          exact KJ32 m_made_54 _ _ _ hm58 hP55 hD55 hS55 (lv_sub hl55 [0, 1, 2] rfl)
                        · have hm59 := bq_f hm56 hc57; clear hm56
                          refine lv_aload_n hx hb dX7_smoothAll_124 rfl (lv_at hl55 0 rfl) ?_
                          refine va_get (D := D) (ci := 7) (v := .ref (r0 18)) (C := RX7) (T := TX7) (N := 42) hx hb hts hi_X7_smoothAll_7 hown E.1 hP55 0 rfl rfl 29 (by decide) (hts _ (List.mem_of_getElem? (i := 4) rfl)) (fun _ h9 => h9) rfl dX7_smoothAll_125 ?_
                          refine lv_iload_n hx hb dX7_smoothAll_128 rfl (lv_at hl55 3 rfl) ?_
                          refine lv_bipush (v := 6) hx hb dX7_smoothAll_129 (by decide) ?_
                          refine lv_iadd hx hb dX7_smoothAll_131 ?_
                          obtain ⟨hin60, hm60⟩ := gi_some hm59; clear hm59
                          refine va_iald hx hb E.1 hP55 2 0 rfl rfl hin60 dX7_smoothAll_132 ?_
                          refine lv_if_ne (tgt := 149) hx hb dX7_smoothAll_133 (by decide) (fun hc61 => ?_) (fun hc61 => ?_)
                          · have hm62 := bq_f hm60 hc61; clear hm60
                            exact KJ32 m_made_54 _ _ _ hm62 hP55 hD55 hS55 (lv_sub hl55 [0, 1, 2] rfl)
                          · have hm63 := bq_t hm60 hc61; clear hm60
                            refine lv_aload_n hx hb dX7_smoothAll_136 rfl (lv_at hl55 0 rfl) ?_
                            refine lv_iload hx hb dX7_smoothAll_137 (lv_at hl55 4 rfl) ?_
                            refine lv_sipush (v := 384) hx hb dX7_smoothAll_139 (by decide) ?_
                            refine lv_iadd hx hb dX7_smoothAll_142 ?_
                            refine lv_bipush (v := 48) hx hb dX7_smoothAll_143 (by decide) ?_
                            refine lv_iconst (v := 1) hx hb dX7_smoothAll_145 (by decide) ?_
                            obtain ⟨m_made_64, hcl65, hm65⟩ := bd1_some hm63; clear hm63
                            have sb66 := ctS.mk (n := 3) (k := 0) (pre := [oB (r0 0) 7 [.int m_thrown, .ref (r0 1), .int m_length, .int m_at, .int m_fault, .int m_hasHeader, .int m_width, .int m_height, .int m_limit, .ref (r0 2), .ref (r0 3), .ref (r0 4), .ref (r0 5), .ref (r0 6), .ref (r0 7), .ref (r0 8), .ref (r0 9), .int m_hasPicture, .int m_frames, .int m_taken, .ref (r0 10), .ref (r0 11), .ref (r0 12), .int m_many, .ref (r0 13), .ref (r0 14), .ref (r0 15), .ref (r0 16), .ref (r0 17), .ref (r0 18), .ref (r0 19), .ref (r0 20), .ref (r0 21), .ref (r0 22), .int m_due, .ref (r0 23), .ref (r0 24), .ref (r0 25), .ref (r0 26), .ref (r0 27), .ref (r0 28), .ref (r0 29)], aI (r0 12) cI 2304 m_made_54, aI (r0 18) cI 36 m_newModes]) (tl := []) [0, 1] [2] [] [] rfl rfl (by decide +kernel) (by decide +kernel)
                            refine ct_callv E sb66 hP55 hD55 hS55 (va_runV (As := [.int (v4_27 + (384 : Int32)), .int (48 : Int32), .int (1 : Int32)]) (rest := []) ⟨hx, hb, hml, hown, hts⟩ (c_X7_smooth l D cB cI cJ cQ N r0 H55.size (v4_27 + (384 : Int32)) (48 : Int32) (1 : Int32) m_thrown m_length m_at m_fault m_hasHeader m_width m_height m_limit m_hasPicture m_frames m_taken m_many m_due m_made_54 (m_made_64) hcl65) (cwV 3 hts gX7_smoothAll_X7_smooth rfl rfl rfl cdV_X7_smooth ⟨Nat.le_of_ble_eq_true rfl, Nat.le_of_ble_eq_true rfl⟩) (ct_preV (q0 := 0) (ci := 7) E sb66 hP55 hD55 hS55 rfl rfl) rfl rfl hl55.1 rfl (lv_room (Nat.le_of_ble_eq_true rfl)) dX7_smoothAll_146 ⟨Nat.zero_le _, Nat.zero_le _⟩) (fun H67 lc67 hP67 hD67 hS67 => ?_); clear sb66 hcl65
                            clear hP55 hD55 hS55
                            have hP67 : va_P D vwCl (wf [aI (r0 18) cI 36 m_newModes, oB (r0 0) 7 [.int m_thrown, .ref (r0 1), .int m_length, .int m_at, .int m_fault, .int m_hasHeader, .int m_width, .int m_height, .int m_limit, .ref (r0 2), .ref (r0 3), .ref (r0 4), .ref (r0 5), .ref (r0 6), .ref (r0 7), .ref (r0 8), .ref (r0 9), .int m_hasPicture, .int m_frames, .int m_taken, .ref (r0 10), .ref (r0 11), .ref (r0 12), .int m_many, .ref (r0 13), .ref (r0 14), .ref (r0 15), .ref (r0 16), .ref (r0 17), .ref (r0 18), .ref (r0 19), .ref (r0 20), .ref (r0 21), .ref (r0 22), .int m_due, .ref (r0 23), .ref (r0 24), .ref (r0 25), .ref (r0 26), .ref (r0 27), .ref (r0 28), .ref (r0 29)], aI (r0 12) cI 2304 m_made_64] []) H67 := hP67
                            have hD67 : va_D A (wf [aI (r0 18) cI 36 m_newModes, oB (r0 0) 7 [.int m_thrown, .ref (r0 1), .int m_length, .int m_at, .int m_fault, .int m_hasHeader, .int m_width, .int m_height, .int m_limit, .ref (r0 2), .ref (r0 3), .ref (r0 4), .ref (r0 5), .ref (r0 6), .ref (r0 7), .ref (r0 8), .ref (r0 9), .int m_hasPicture, .int m_frames, .int m_taken, .ref (r0 10), .ref (r0 11), .ref (r0 12), .int m_many, .ref (r0 13), .ref (r0 14), .ref (r0 15), .ref (r0 16), .ref (r0 17), .ref (r0 18), .ref (r0 19), .ref (r0 20), .ref (r0 21), .ref (r0 22), .int m_due, .ref (r0 23), .ref (r0 24), .ref (r0 25), .ref (r0 26), .ref (r0 27), .ref (r0 28), .ref (r0 29)], aI (r0 12) cI 2304 m_made_64] []) := hD67
                            obtain ⟨hP68, hD68⟩ := ct_ord (n := 3) (k := 0) [1, 2, 0] [] hP67 hD67 rfl rfl (by decide +kernel) (by decide +kernel)
                            have hS68 := hS67
                            have hP68 : va_P D vwCl (wf [oB (r0 0) 7 [.int m_thrown, .ref (r0 1), .int m_length, .int m_at, .int m_fault, .int m_hasHeader, .int m_width, .int m_height, .int m_limit, .ref (r0 2), .ref (r0 3), .ref (r0 4), .ref (r0 5), .ref (r0 6), .ref (r0 7), .ref (r0 8), .ref (r0 9), .int m_hasPicture, .int m_frames, .int m_taken, .ref (r0 10), .ref (r0 11), .ref (r0 12), .int m_many, .ref (r0 13), .ref (r0 14), .ref (r0 15), .ref (r0 16), .ref (r0 17), .ref (r0 18), .ref (r0 19), .ref (r0 20), .ref (r0 21), .ref (r0 22), .int m_due, .ref (r0 23), .ref (r0 24), .ref (r0 25), .ref (r0 26), .ref (r0 27), .ref (r0 28), .ref (r0 29)], aI (r0 12) cI 2304 m_made_64, aI (r0 18) cI 36 m_newModes] []) H67 := hP68
                            have hD68 : va_D A (wf [oB (r0 0) 7 [.int m_thrown, .ref (r0 1), .int m_length, .int m_at, .int m_fault, .int m_hasHeader, .int m_width, .int m_height, .int m_limit, .ref (r0 2), .ref (r0 3), .ref (r0 4), .ref (r0 5), .ref (r0 6), .ref (r0 7), .ref (r0 8), .ref (r0 9), .int m_hasPicture, .int m_frames, .int m_taken, .ref (r0 10), .ref (r0 11), .ref (r0 12), .int m_many, .ref (r0 13), .ref (r0 14), .ref (r0 15), .ref (r0 16), .ref (r0 17), .ref (r0 18), .ref (r0 19), .ref (r0 20), .ref (r0 21), .ref (r0 22), .int m_due, .ref (r0 23), .ref (r0 24), .ref (r0 25), .ref (r0 26), .ref (r0 27), .ref (r0 28), .ref (r0 29)], aI (r0 12) cI 2304 m_made_64, aI (r0 18) cI 36 m_newModes] []) := hD68
                            exact KJ32 m_made_64 _ _ _ hm65 hP68 hD68 hS68 (lv_sub hl55 [0, 1, 2] rfl)
                      refine lv_icmp_ge (tgt := 114) hx hb dX7_smoothAll_88 (by decide) (fun hc69 => ?_) (fun hc69 => ?_)
                      · have hm70 := bq_t hm53 hc69; clear hm53
                        exact KJ53 m_made_49 _ _ _ hm70 hP50 hD50 hS50 (lv_sub hl50 [0, 1, 2, 3, 4] rfl)
                      · have hm71 := bq_f hm53 hc69; clear hm53
                        refine lv_aload_n hx hb dX7_smoothAll_91 rfl (lv_at hl50 0 rfl) ?_
                        refine va_get (D := D) (ci := 7) (v := .ref (r0 18)) (C := RX7) (T := TX7) (N := 42) hx hb hts hi_X7_smoothAll_7 hown E.1 hP50 0 rfl rfl 29 (by decide) (hts _ (List.mem_of_getElem? (i := 4) rfl)) (fun _ h9 => h9) rfl dX7_smoothAll_92 ?_
                        refine lv_iload_n hx hb dX7_smoothAll_95 rfl (lv_at hl50 3 rfl) ?_
                        refine lv_iconst (v := 1) hx hb dX7_smoothAll_96 (by decide) ?_
                        refine lv_iadd hx hb dX7_smoothAll_97 ?_
                        obtain ⟨hin72, hm72⟩ := gi_some hm71; clear hm71
                        refine va_iald hx hb E.1 hP50 2 0 rfl rfl hin72 dX7_smoothAll_98 ?_
                        refine lv_if_ne (tgt := 114) hx hb dX7_smoothAll_99 (by decide) (fun hc73 => ?_) (fun hc73 => ?_)
                        · have hm74 := bq_f hm72 hc73; clear hm72
                          exact KJ53 m_made_49 _ _ _ hm74 hP50 hD50 hS50 (lv_sub hl50 [0, 1, 2, 3, 4] rfl)
                        · have hm75 := bq_t hm72 hc73; clear hm72
                          refine lv_aload_n hx hb dX7_smoothAll_102 rfl (lv_at hl50 0 rfl) ?_
                          refine lv_iload hx hb dX7_smoothAll_103 (lv_at hl50 4 rfl) ?_
                          refine lv_bipush (v := 8) hx hb dX7_smoothAll_105 (by decide) ?_
                          refine lv_iadd hx hb dX7_smoothAll_107 ?_
                          refine lv_iconst (v := 1) hx hb dX7_smoothAll_108 (by decide) ?_
                          refine lv_bipush (v := 48) hx hb dX7_smoothAll_109 (by decide) ?_
                          obtain ⟨m_made_76, hcl77, hm77⟩ := bd1_some hm75; clear hm75
                          have sb78 := ctS.mk (n := 3) (k := 0) (pre := [oB (r0 0) 7 [.int m_thrown, .ref (r0 1), .int m_length, .int m_at, .int m_fault, .int m_hasHeader, .int m_width, .int m_height, .int m_limit, .ref (r0 2), .ref (r0 3), .ref (r0 4), .ref (r0 5), .ref (r0 6), .ref (r0 7), .ref (r0 8), .ref (r0 9), .int m_hasPicture, .int m_frames, .int m_taken, .ref (r0 10), .ref (r0 11), .ref (r0 12), .int m_many, .ref (r0 13), .ref (r0 14), .ref (r0 15), .ref (r0 16), .ref (r0 17), .ref (r0 18), .ref (r0 19), .ref (r0 20), .ref (r0 21), .ref (r0 22), .int m_due, .ref (r0 23), .ref (r0 24), .ref (r0 25), .ref (r0 26), .ref (r0 27), .ref (r0 28), .ref (r0 29)], aI (r0 12) cI 2304 m_made_49, aI (r0 18) cI 36 m_newModes]) (tl := []) [0, 1] [2] [] [] rfl rfl (by decide +kernel) (by decide +kernel)
                          refine ct_callv E sb78 hP50 hD50 hS50 (va_runV (As := [.int (v4_27 + (8 : Int32)), .int (1 : Int32), .int (48 : Int32)]) (rest := []) ⟨hx, hb, hml, hown, hts⟩ (c_X7_smooth l D cB cI cJ cQ N r0 H50.size (v4_27 + (8 : Int32)) (1 : Int32) (48 : Int32) m_thrown m_length m_at m_fault m_hasHeader m_width m_height m_limit m_hasPicture m_frames m_taken m_many m_due m_made_49 (m_made_76) hcl77) (cwV 3 hts gX7_smoothAll_X7_smooth rfl rfl rfl cdV_X7_smooth ⟨Nat.le_of_ble_eq_true rfl, Nat.le_of_ble_eq_true rfl⟩) (ct_preV (q0 := 0) (ci := 7) E sb78 hP50 hD50 hS50 rfl rfl) rfl rfl hl50.1 rfl (lv_room (Nat.le_of_ble_eq_true rfl)) dX7_smoothAll_111 ⟨Nat.zero_le _, Nat.zero_le _⟩) (fun H79 lc79 hP79 hD79 hS79 => ?_); clear sb78 hcl77
                          clear hP50 hD50 hS50
                          have hP79 : va_P D vwCl (wf [aI (r0 18) cI 36 m_newModes, oB (r0 0) 7 [.int m_thrown, .ref (r0 1), .int m_length, .int m_at, .int m_fault, .int m_hasHeader, .int m_width, .int m_height, .int m_limit, .ref (r0 2), .ref (r0 3), .ref (r0 4), .ref (r0 5), .ref (r0 6), .ref (r0 7), .ref (r0 8), .ref (r0 9), .int m_hasPicture, .int m_frames, .int m_taken, .ref (r0 10), .ref (r0 11), .ref (r0 12), .int m_many, .ref (r0 13), .ref (r0 14), .ref (r0 15), .ref (r0 16), .ref (r0 17), .ref (r0 18), .ref (r0 19), .ref (r0 20), .ref (r0 21), .ref (r0 22), .int m_due, .ref (r0 23), .ref (r0 24), .ref (r0 25), .ref (r0 26), .ref (r0 27), .ref (r0 28), .ref (r0 29)], aI (r0 12) cI 2304 m_made_76] []) H79 := hP79
                          have hD79 : va_D A (wf [aI (r0 18) cI 36 m_newModes, oB (r0 0) 7 [.int m_thrown, .ref (r0 1), .int m_length, .int m_at, .int m_fault, .int m_hasHeader, .int m_width, .int m_height, .int m_limit, .ref (r0 2), .ref (r0 3), .ref (r0 4), .ref (r0 5), .ref (r0 6), .ref (r0 7), .ref (r0 8), .ref (r0 9), .int m_hasPicture, .int m_frames, .int m_taken, .ref (r0 10), .ref (r0 11), .ref (r0 12), .int m_many, .ref (r0 13), .ref (r0 14), .ref (r0 15), .ref (r0 16), .ref (r0 17), .ref (r0 18), .ref (r0 19), .ref (r0 20), .ref (r0 21), .ref (r0 22), .int m_due, .ref (r0 23), .ref (r0 24), .ref (r0 25), .ref (r0 26), .ref (r0 27), .ref (r0 28), .ref (r0 29)], aI (r0 12) cI 2304 m_made_76] []) := hD79
                          obtain ⟨hP80, hD80⟩ := ct_ord (n := 3) (k := 0) [1, 2, 0] [] hP79 hD79 rfl rfl (by decide +kernel) (by decide +kernel)
                          have hS80 := hS79
                          have hP80 : va_P D vwCl (wf [oB (r0 0) 7 [.int m_thrown, .ref (r0 1), .int m_length, .int m_at, .int m_fault, .int m_hasHeader, .int m_width, .int m_height, .int m_limit, .ref (r0 2), .ref (r0 3), .ref (r0 4), .ref (r0 5), .ref (r0 6), .ref (r0 7), .ref (r0 8), .ref (r0 9), .int m_hasPicture, .int m_frames, .int m_taken, .ref (r0 10), .ref (r0 11), .ref (r0 12), .int m_many, .ref (r0 13), .ref (r0 14), .ref (r0 15), .ref (r0 16), .ref (r0 17), .ref (r0 18), .ref (r0 19), .ref (r0 20), .ref (r0 21), .ref (r0 22), .int m_due, .ref (r0 23), .ref (r0 24), .ref (r0 25), .ref (r0 26), .ref (r0 27), .ref (r0 28), .ref (r0 29)], aI (r0 12) cI 2304 m_made_76, aI (r0 18) cI 36 m_newModes] []) H79 := hP80
                          have hD80 : va_D A (wf [oB (r0 0) 7 [.int m_thrown, .ref (r0 1), .int m_length, .int m_at, .int m_fault, .int m_hasHeader, .int m_width, .int m_height, .int m_limit, .ref (r0 2), .ref (r0 3), .ref (r0 4), .ref (r0 5), .ref (r0 6), .ref (r0 7), .ref (r0 8), .ref (r0 9), .int m_hasPicture, .int m_frames, .int m_taken, .ref (r0 10), .ref (r0 11), .ref (r0 12), .int m_many, .ref (r0 13), .ref (r0 14), .ref (r0 15), .ref (r0 16), .ref (r0 17), .ref (r0 18), .ref (r0 19), .ref (r0 20), .ref (r0 21), .ref (r0 22), .int m_due, .ref (r0 23), .ref (r0 24), .ref (r0 25), .ref (r0 26), .ref (r0 27), .ref (r0 28), .ref (r0 29)], aI (r0 12) cI 2304 m_made_76, aI (r0 18) cI 36 m_newModes] []) := hD80
                          exact KJ53 m_made_76 _ _ _ hm77 hP80 hD80 hS80 (lv_sub hl50 [0, 1, 2, 3, 4] rfl)
                    refine lv_if_le (tgt := 81) hx hb dX7_smoothAll_69 (by decide) (fun hc81 => ?_) (fun hc81 => ?_)
                    · have hm82 := bq_t hm48 hc81; clear hm48
                      exact KJ48 m_made_44 _ _ _ hm82 hP45 hD45 hS45 (lv_sub hl45 [0, 1, 2, 3, 4] rfl)
                    · have hm83 := bq_f hm48 hc81; clear hm48
                      refine lv_aload_n hx hb dX7_smoothAll_72 rfl (lv_at hl45 0 rfl) ?_
                      refine lv_iload hx hb dX7_smoothAll_73 (lv_at hl45 4 rfl) ?_
                      refine lv_bipush (v := 48) hx hb dX7_smoothAll_75 (by decide) ?_
                      refine lv_iconst (v := 1) hx hb dX7_smoothAll_77 (by decide) ?_
                      obtain ⟨m_made_84, hcl85, hm85⟩ := bd1_some hm83; clear hm83
                      have sb86 := ctS.mk (n := 3) (k := 0) (pre := [oB (r0 0) 7 [.int m_thrown, .ref (r0 1), .int m_length, .int m_at, .int m_fault, .int m_hasHeader, .int m_width, .int m_height, .int m_limit, .ref (r0 2), .ref (r0 3), .ref (r0 4), .ref (r0 5), .ref (r0 6), .ref (r0 7), .ref (r0 8), .ref (r0 9), .int m_hasPicture, .int m_frames, .int m_taken, .ref (r0 10), .ref (r0 11), .ref (r0 12), .int m_many, .ref (r0 13), .ref (r0 14), .ref (r0 15), .ref (r0 16), .ref (r0 17), .ref (r0 18), .ref (r0 19), .ref (r0 20), .ref (r0 21), .ref (r0 22), .int m_due, .ref (r0 23), .ref (r0 24), .ref (r0 25), .ref (r0 26), .ref (r0 27), .ref (r0 28), .ref (r0 29)], aI (r0 12) cI 2304 m_made_44, aI (r0 18) cI 36 m_newModes]) (tl := []) [0, 1] [2] [] [] rfl rfl (by decide +kernel) (by decide +kernel)
                      refine ct_callv E sb86 hP45 hD45 hS45 (va_runV (As := [.int v4_27, .int (48 : Int32), .int (1 : Int32)]) (rest := []) ⟨hx, hb, hml, hown, hts⟩ (c_X7_smooth l D cB cI cJ cQ N r0 H45.size v4_27 (48 : Int32) (1 : Int32) m_thrown m_length m_at m_fault m_hasHeader m_width m_height m_limit m_hasPicture m_frames m_taken m_many m_due m_made_44 (m_made_84) hcl85) (cwV 3 hts gX7_smoothAll_X7_smooth rfl rfl rfl cdV_X7_smooth ⟨Nat.le_of_ble_eq_true rfl, Nat.le_of_ble_eq_true rfl⟩) (ct_preV (q0 := 0) (ci := 7) E sb86 hP45 hD45 hS45 rfl rfl) rfl rfl hl45.1 rfl (lv_room (Nat.le_of_ble_eq_true rfl)) dX7_smoothAll_78 ⟨Nat.zero_le _, Nat.zero_le _⟩) (fun H87 lc87 hP87 hD87 hS87 => ?_); clear sb86 hcl85
                      clear hP45 hD45 hS45
                      have hP87 : va_P D vwCl (wf [aI (r0 18) cI 36 m_newModes, oB (r0 0) 7 [.int m_thrown, .ref (r0 1), .int m_length, .int m_at, .int m_fault, .int m_hasHeader, .int m_width, .int m_height, .int m_limit, .ref (r0 2), .ref (r0 3), .ref (r0 4), .ref (r0 5), .ref (r0 6), .ref (r0 7), .ref (r0 8), .ref (r0 9), .int m_hasPicture, .int m_frames, .int m_taken, .ref (r0 10), .ref (r0 11), .ref (r0 12), .int m_many, .ref (r0 13), .ref (r0 14), .ref (r0 15), .ref (r0 16), .ref (r0 17), .ref (r0 18), .ref (r0 19), .ref (r0 20), .ref (r0 21), .ref (r0 22), .int m_due, .ref (r0 23), .ref (r0 24), .ref (r0 25), .ref (r0 26), .ref (r0 27), .ref (r0 28), .ref (r0 29)], aI (r0 12) cI 2304 m_made_84] []) H87 := hP87
                      have hD87 : va_D A (wf [aI (r0 18) cI 36 m_newModes, oB (r0 0) 7 [.int m_thrown, .ref (r0 1), .int m_length, .int m_at, .int m_fault, .int m_hasHeader, .int m_width, .int m_height, .int m_limit, .ref (r0 2), .ref (r0 3), .ref (r0 4), .ref (r0 5), .ref (r0 6), .ref (r0 7), .ref (r0 8), .ref (r0 9), .int m_hasPicture, .int m_frames, .int m_taken, .ref (r0 10), .ref (r0 11), .ref (r0 12), .int m_many, .ref (r0 13), .ref (r0 14), .ref (r0 15), .ref (r0 16), .ref (r0 17), .ref (r0 18), .ref (r0 19), .ref (r0 20), .ref (r0 21), .ref (r0 22), .int m_due, .ref (r0 23), .ref (r0 24), .ref (r0 25), .ref (r0 26), .ref (r0 27), .ref (r0 28), .ref (r0 29)], aI (r0 12) cI 2304 m_made_84] []) := hD87
                      obtain ⟨hP88, hD88⟩ := ct_ord (n := 3) (k := 0) [1, 2, 0] [] hP87 hD87 rfl rfl (by decide +kernel) (by decide +kernel)
                      have hS88 := hS87
                      have hP88 : va_P D vwCl (wf [oB (r0 0) 7 [.int m_thrown, .ref (r0 1), .int m_length, .int m_at, .int m_fault, .int m_hasHeader, .int m_width, .int m_height, .int m_limit, .ref (r0 2), .ref (r0 3), .ref (r0 4), .ref (r0 5), .ref (r0 6), .ref (r0 7), .ref (r0 8), .ref (r0 9), .int m_hasPicture, .int m_frames, .int m_taken, .ref (r0 10), .ref (r0 11), .ref (r0 12), .int m_many, .ref (r0 13), .ref (r0 14), .ref (r0 15), .ref (r0 16), .ref (r0 17), .ref (r0 18), .ref (r0 19), .ref (r0 20), .ref (r0 21), .ref (r0 22), .int m_due, .ref (r0 23), .ref (r0 24), .ref (r0 25), .ref (r0 26), .ref (r0 27), .ref (r0 28), .ref (r0 29)], aI (r0 12) cI 2304 m_made_84, aI (r0 18) cI 36 m_newModes] []) H87 := hP88
                      have hD88 : va_D A (wf [oB (r0 0) 7 [.int m_thrown, .ref (r0 1), .int m_length, .int m_at, .int m_fault, .int m_hasHeader, .int m_width, .int m_height, .int m_limit, .ref (r0 2), .ref (r0 3), .ref (r0 4), .ref (r0 5), .ref (r0 6), .ref (r0 7), .ref (r0 8), .ref (r0 9), .int m_hasPicture, .int m_frames, .int m_taken, .ref (r0 10), .ref (r0 11), .ref (r0 12), .int m_many, .ref (r0 13), .ref (r0 14), .ref (r0 15), .ref (r0 16), .ref (r0 17), .ref (r0 18), .ref (r0 19), .ref (r0 20), .ref (r0 21), .ref (r0 22), .int m_due, .ref (r0 23), .ref (r0 24), .ref (r0 25), .ref (r0 26), .ref (r0 27), .ref (r0 28), .ref (r0 29)], aI (r0 12) cI 2304 m_made_84, aI (r0 18) cI 36 m_newModes] []) := hD88
                      exact KJ48 m_made_84 _ _ _ hm85 hP88 hD88 hS88 (lv_sub hl45 [0, 1, 2, 3, 4] rfl)
                  refine lv_if_le (tgt := 68) hx hb dX7_smoothAll_56 (by decide) (fun hc89 => ?_) (fun hc89 => ?_)
                  · have hm90 := bq_t hm43 hc89; clear hm43
                    exact KJ43 m_made_16 _ _ _ hm90 hP18 hD18 hS18 (lv_sub hl29 [2, 3, 4, 1, 0] rfl)
                  · have hm91 := bq_f hm43 hc89; clear hm43
                    refine lv_aload_n hx hb dX7_smoothAll_59 rfl (lv_at hl29 2 rfl) ?_
                    refine lv_iload hx hb dX7_smoothAll_60 (lv_at hl29 0 rfl) ?_
                    refine lv_iconst (v := 1) hx hb dX7_smoothAll_62 (by decide) ?_
                    refine lv_bipush (v := 48) hx hb dX7_smoothAll_63 (by decide) ?_
                    obtain ⟨m_made_92, hcl93, hm93⟩ := bd1_some hm91; clear hm91
                    have sb94 := ctS.mk (n := 3) (k := 0) (pre := [oB (r0 0) 7 [.int m_thrown, .ref (r0 1), .int m_length, .int m_at, .int m_fault, .int m_hasHeader, .int m_width, .int m_height, .int m_limit, .ref (r0 2), .ref (r0 3), .ref (r0 4), .ref (r0 5), .ref (r0 6), .ref (r0 7), .ref (r0 8), .ref (r0 9), .int m_hasPicture, .int m_frames, .int m_taken, .ref (r0 10), .ref (r0 11), .ref (r0 12), .int m_many, .ref (r0 13), .ref (r0 14), .ref (r0 15), .ref (r0 16), .ref (r0 17), .ref (r0 18), .ref (r0 19), .ref (r0 20), .ref (r0 21), .ref (r0 22), .int m_due, .ref (r0 23), .ref (r0 24), .ref (r0 25), .ref (r0 26), .ref (r0 27), .ref (r0 28), .ref (r0 29)], aI (r0 12) cI 2304 m_made_16, aI (r0 18) cI 36 m_newModes]) (tl := []) [0, 1] [2] [] [] rfl rfl (by decide +kernel) (by decide +kernel)
                    refine ct_callv E sb94 hP18 hD18 hS18 (va_runV (As := [.int v4_27, .int (1 : Int32), .int (48 : Int32)]) (rest := []) ⟨hx, hb, hml, hown, hts⟩ (c_X7_smooth l D cB cI cJ cQ N r0 H18.size v4_27 (1 : Int32) (48 : Int32) m_thrown m_length m_at m_fault m_hasHeader m_width m_height m_limit m_hasPicture m_frames m_taken m_many m_due m_made_16 (m_made_92) hcl93) (cwV 3 hts gX7_smoothAll_X7_smooth rfl rfl rfl cdV_X7_smooth ⟨Nat.le_of_ble_eq_true rfl, Nat.le_of_ble_eq_true rfl⟩) (ct_preV (q0 := 0) (ci := 7) E sb94 hP18 hD18 hS18 rfl rfl) rfl rfl hl29.1 rfl (lv_room (Nat.le_of_ble_eq_true rfl)) dX7_smoothAll_65 ⟨Nat.zero_le _, Nat.zero_le _⟩) (fun H95 lc95 hP95 hD95 hS95 => ?_); clear sb94 hcl93
                    clear hP18 hD18 hS18
                    have hP95 : va_P D vwCl (wf [aI (r0 18) cI 36 m_newModes, oB (r0 0) 7 [.int m_thrown, .ref (r0 1), .int m_length, .int m_at, .int m_fault, .int m_hasHeader, .int m_width, .int m_height, .int m_limit, .ref (r0 2), .ref (r0 3), .ref (r0 4), .ref (r0 5), .ref (r0 6), .ref (r0 7), .ref (r0 8), .ref (r0 9), .int m_hasPicture, .int m_frames, .int m_taken, .ref (r0 10), .ref (r0 11), .ref (r0 12), .int m_many, .ref (r0 13), .ref (r0 14), .ref (r0 15), .ref (r0 16), .ref (r0 17), .ref (r0 18), .ref (r0 19), .ref (r0 20), .ref (r0 21), .ref (r0 22), .int m_due, .ref (r0 23), .ref (r0 24), .ref (r0 25), .ref (r0 26), .ref (r0 27), .ref (r0 28), .ref (r0 29)], aI (r0 12) cI 2304 m_made_92] []) H95 := hP95
                    have hD95 : va_D A (wf [aI (r0 18) cI 36 m_newModes, oB (r0 0) 7 [.int m_thrown, .ref (r0 1), .int m_length, .int m_at, .int m_fault, .int m_hasHeader, .int m_width, .int m_height, .int m_limit, .ref (r0 2), .ref (r0 3), .ref (r0 4), .ref (r0 5), .ref (r0 6), .ref (r0 7), .ref (r0 8), .ref (r0 9), .int m_hasPicture, .int m_frames, .int m_taken, .ref (r0 10), .ref (r0 11), .ref (r0 12), .int m_many, .ref (r0 13), .ref (r0 14), .ref (r0 15), .ref (r0 16), .ref (r0 17), .ref (r0 18), .ref (r0 19), .ref (r0 20), .ref (r0 21), .ref (r0 22), .int m_due, .ref (r0 23), .ref (r0 24), .ref (r0 25), .ref (r0 26), .ref (r0 27), .ref (r0 28), .ref (r0 29)], aI (r0 12) cI 2304 m_made_92] []) := hD95
                    obtain ⟨hP96, hD96⟩ := ct_ord (n := 3) (k := 0) [1, 2, 0] [] hP95 hD95 rfl rfl (by decide +kernel) (by decide +kernel)
                    have hS96 := hS95
                    have hP96 : va_P D vwCl (wf [oB (r0 0) 7 [.int m_thrown, .ref (r0 1), .int m_length, .int m_at, .int m_fault, .int m_hasHeader, .int m_width, .int m_height, .int m_limit, .ref (r0 2), .ref (r0 3), .ref (r0 4), .ref (r0 5), .ref (r0 6), .ref (r0 7), .ref (r0 8), .ref (r0 9), .int m_hasPicture, .int m_frames, .int m_taken, .ref (r0 10), .ref (r0 11), .ref (r0 12), .int m_many, .ref (r0 13), .ref (r0 14), .ref (r0 15), .ref (r0 16), .ref (r0 17), .ref (r0 18), .ref (r0 19), .ref (r0 20), .ref (r0 21), .ref (r0 22), .int m_due, .ref (r0 23), .ref (r0 24), .ref (r0 25), .ref (r0 26), .ref (r0 27), .ref (r0 28), .ref (r0 29)], aI (r0 12) cI 2304 m_made_92, aI (r0 18) cI 36 m_newModes] []) H95 := hP96
                    have hD96 : va_D A (wf [oB (r0 0) 7 [.int m_thrown, .ref (r0 1), .int m_length, .int m_at, .int m_fault, .int m_hasHeader, .int m_width, .int m_height, .int m_limit, .ref (r0 2), .ref (r0 3), .ref (r0 4), .ref (r0 5), .ref (r0 6), .ref (r0 7), .ref (r0 8), .ref (r0 9), .int m_hasPicture, .int m_frames, .int m_taken, .ref (r0 10), .ref (r0 11), .ref (r0 12), .int m_many, .ref (r0 13), .ref (r0 14), .ref (r0 15), .ref (r0 16), .ref (r0 17), .ref (r0 18), .ref (r0 19), .ref (r0 20), .ref (r0 21), .ref (r0 22), .int m_due, .ref (r0 23), .ref (r0 24), .ref (r0 25), .ref (r0 26), .ref (r0 27), .ref (r0 28), .ref (r0 29)], aI (r0 12) cI 2304 m_made_92, aI (r0 18) cI 36 m_newModes] []) := hD96
                    exact KJ43 m_made_92 _ _ _ hm93 hP96 hD96 hS96 (lv_sub hl29 [2, 3, 4, 1, 0] rfl)
          refine LP15 4000 m_made_3 (0 : Int32) (m_made_97) _ _ _ hlp15 hP5 hD5 hS5 (lv_sub hl14 [1, 2, 0] rfl) (fun H99 lc99 ls99 hP99 hD99 hS99 hl99 => ?_); clear LP15 hlp15
          clear hP5 hD5 hS5
          have hl99 : lv_has ls99 5 [(0, .ref (r0 0)), (1, .int v1_4)] := hl99
          have hP99 : va_P D vwCl (wf [oB (r0 0) 7 [.int m_thrown, .ref (r0 1), .int m_length, .int m_at, .int m_fault, .int m_hasHeader, .int m_width, .int m_height, .int m_limit, .ref (r0 2), .ref (r0 3), .ref (r0 4), .ref (r0 5), .ref (r0 6), .ref (r0 7), .ref (r0 8), .ref (r0 9), .int m_hasPicture, .int m_frames, .int m_taken, .ref (r0 10), .ref (r0 11), .ref (r0 12), .int m_many, .ref (r0 13), .ref (r0 14), .ref (r0 15), .ref (r0 16), .ref (r0 17), .ref (r0 18), .ref (r0 19), .ref (r0 20), .ref (r0 21), .ref (r0 22), .int m_due, .ref (r0 23), .ref (r0 24), .ref (r0 25), .ref (r0 26), .ref (r0 27), .ref (r0 28), .ref (r0 29)], aI (r0 12) cI 2304 m_made_97, aI (r0 18) cI 36 m_newModes] []) H99 := hP99
          have hD99 : va_D A (wf [oB (r0 0) 7 [.int m_thrown, .ref (r0 1), .int m_length, .int m_at, .int m_fault, .int m_hasHeader, .int m_width, .int m_height, .int m_limit, .ref (r0 2), .ref (r0 3), .ref (r0 4), .ref (r0 5), .ref (r0 6), .ref (r0 7), .ref (r0 8), .ref (r0 9), .int m_hasPicture, .int m_frames, .int m_taken, .ref (r0 10), .ref (r0 11), .ref (r0 12), .int m_many, .ref (r0 13), .ref (r0 14), .ref (r0 15), .ref (r0 16), .ref (r0 17), .ref (r0 18), .ref (r0 19), .ref (r0 20), .ref (r0 21), .ref (r0 22), .int m_due, .ref (r0 23), .ref (r0 24), .ref (r0 25), .ref (r0 26), .ref (r0 27), .ref (r0 28), .ref (r0 29)], aI (r0 12) cI 2304 m_made_97, aI (r0 18) cI 36 m_newModes] []) := hD99
          obtain ⟨v1_100, ev1_100, hm101⟩ := nm_some hm98; clear hm98
          refine lv_iinc (v := v1_100) (lv' := [(1, .int v1_100), (0, .ref (r0 0))]) hx hb dX7_smoothAll_155 hl99 (k := 1) rfl (by rw [ev1_100]; rfl) (by decide) rfl (fun ls102 hl102 => ?_); clear hl99
          refine lv_goto (tgt := 2) hx hb dX7_smoothAll_158 (by decide) ?_
          exact ih m_made_97 v1_100 _ _ _ _ hm101 hP99 hD99 hS99 (lv_sub hl102 [1, 0] rfl) kx
  refine LP2 4000 m_made (0 : Int32) (m_made_103) _ _ _ hlp2 hP0 hD0 hS0 (lv_sub hl1 [1, 0] rfl) (fun H105 lc105 ls105 hP105 hD105 hS105 hl105 => ?_); clear LP2 hlp2
  clear hP0 hD0 hS0
  have hl105 : lv_has ls105 5 [] := hl105
  have hP105 : va_P D vwCl (wf [oB (r0 0) 7 [.int m_thrown, .ref (r0 1), .int m_length, .int m_at, .int m_fault, .int m_hasHeader, .int m_width, .int m_height, .int m_limit, .ref (r0 2), .ref (r0 3), .ref (r0 4), .ref (r0 5), .ref (r0 6), .ref (r0 7), .ref (r0 8), .ref (r0 9), .int m_hasPicture, .int m_frames, .int m_taken, .ref (r0 10), .ref (r0 11), .ref (r0 12), .int m_many, .ref (r0 13), .ref (r0 14), .ref (r0 15), .ref (r0 16), .ref (r0 17), .ref (r0 18), .ref (r0 19), .ref (r0 20), .ref (r0 21), .ref (r0 22), .int m_due, .ref (r0 23), .ref (r0 24), .ref (r0 25), .ref (r0 26), .ref (r0 27), .ref (r0 28), .ref (r0 29)], aI (r0 12) cI 2304 m_made_103, aI (r0 18) cI 36 m_newModes] []) H105 := hP105
  have hD105 : va_D A (wf [oB (r0 0) 7 [.int m_thrown, .ref (r0 1), .int m_length, .int m_at, .int m_fault, .int m_hasHeader, .int m_width, .int m_height, .int m_limit, .ref (r0 2), .ref (r0 3), .ref (r0 4), .ref (r0 5), .ref (r0 6), .ref (r0 7), .ref (r0 8), .ref (r0 9), .int m_hasPicture, .int m_frames, .int m_taken, .ref (r0 10), .ref (r0 11), .ref (r0 12), .int m_many, .ref (r0 13), .ref (r0 14), .ref (r0 15), .ref (r0 16), .ref (r0 17), .ref (r0 18), .ref (r0 19), .ref (r0 20), .ref (r0 21), .ref (r0 22), .int m_due, .ref (r0 23), .ref (r0 24), .ref (r0 25), .ref (r0 26), .ref (r0 27), .ref (r0 28), .ref (r0 29)], aI (r0 12) cI 2304 m_made_103, aI (r0 18) cI 36 m_newModes] []) := hD105
  obtain rfl := Option.some.inj hm104
  rw [hQ]
  exact ct_vret hx hb hr hlk hP105 hD105 hS105 dX7_smoothAll_161
