def f_X2_wave (x0 : Int32) (x1 : Int32) : Option (Int32) :=
  (if x1 = (0 : Int32) then
  (some ((11585 : Int32)))
  else
  (nm ((((((2 : Int32) * x0) + (1 : Int32)) * x1) &&& (31 : Int32)) : Int32) fun v2_3 =>
  (if (8 : Int32) < v2_3 then
  ((if (16 : Int32) < v2_3 then
  ((if (24 : Int32) < v2_3 then
  (gi ((32 : Int32) - v2_3) 9 <|
  some ((sWAVES ((32 : Int32) - v2_3).toNatClampNeg)))
  else
  (gi (v2_3 - (16 : Int32)) 9 <|
  some ((-(sWAVES (v2_3 - (16 : Int32)).toNatClampNeg))))))
  else
  (gi ((16 : Int32) - v2_3) 9 <|
  some ((-(sWAVES ((16 : Int32) - v2_3).toNatClampNeg))))))
  else
  (gi v2_3 9 <|
  some ((sWAVES v2_3.toNatClampNeg))))))

abbrev rm_X2_wave : Room := { frames := 0, cells := 0, slots := 0, locals := 0 }

theorem cdS_X2_wave : yX2_wave.cls ≠ "java/lang/invoke/MethodHandle" ∧ yX2_wave.cls ≠ "java/lang/invoke/VarHandle" ∧ (parseMethodDescriptor yX2_wave.desc).map (fun d => d.parameters.length) = some 2 := by decide +kernel

set_option maxHeartbeats 40000000 in
set_option maxRecDepth 100000 in
theorem c_X2_wave (l : Launch) (D : va_G) (cB cI cJ cQ : ClassId) (N : Nat) (sz : Nat) (x0 : Int32) (x1 : Int32) (o : Int32) (hm0 : f_X2_wave x0 x1 = some o) : Met l yX2_wave wsX2_wave rm_X2_wave (ctP D cB cI cJ cQ N sz [.int x0, .int x1] (wf [] [])) (ctQi D o (wf [] []) (va_A (wf [] []) sz)) 0 0 (va_A (wf [] []) sz) := by
  refine ct_of (cc := cX2_wave) (maxL := 3) (ret := (some .int)) (own := RX2) (Qp := ctQi D o (wf [] [])) (by decide) rfl rfl (Nat.le_of_ble_eq_true rfl) ?_
  intro p e s m args below meth c A hx hb hr hml hown hts hlk hnm hsz hAe E hP0 hD0 hS0 ls0 hl0
  subst hsz
  have hl0 : lv_has ls0 3 [(0, .int x0), (1, .int x1)] := hl0
  obtain ⟨QQ, hQ⟩ : ∃ Q : State → Prop, Q = MQ below (ctQi D o (wf [] []) A) args s 0 0 A := ⟨_, rfl⟩
  rw [← hQ]
  unfold f_X2_wave at hm0
  refine lv_iload_n hx hb dX2_wave_0 rfl (lv_at hl0 1 rfl) ?_
  refine lv_if_ne (tgt := 8) hx hb dX2_wave_1 (by decide) (fun hc1 => ?_) (fun hc1 => ?_)
  · have hm2 := bq_f hm0 hc1; clear hm0
    refine lv_iconst (v := 2) hx hb dX2_wave_8 (by decide) ?_
    refine lv_iload_n hx hb dX2_wave_9 rfl (lv_at hl0 0 rfl) ?_
    refine lv_imul hx hb dX2_wave_10 ?_
    refine lv_iconst (v := 1) hx hb dX2_wave_11 (by decide) ?_
    refine lv_iadd hx hb dX2_wave_12 ?_
    refine lv_iload_n hx hb dX2_wave_13 rfl (lv_at hl0 1 rfl) ?_
    refine lv_imul hx hb dX2_wave_14 ?_
    refine lv_bipush (v := 31) hx hb dX2_wave_15 (by decide) ?_
    refine lv_iand hx hb dX2_wave_17 ?_
    obtain ⟨v2_3, ev2_3, hm4⟩ := nm_some hm2; clear hm2
    refine ct_topi ev2_3 ?_
    refine lv_istore_n (lv' := [(2, .int v2_3), (0, .int x0), (1, .int x1)]) hx hb dX2_wave_18 rfl hl0 (by decide) rfl (fun ls5 hl5 => ?_); clear hl0
    refine lv_iload_n hx hb dX2_wave_19 rfl (lv_at hl5 0 rfl) ?_
    refine lv_bipush (v := 8) hx hb dX2_wave_20 (by decide) ?_
    refine lv_icmp_gt (tgt := 31) hx hb dX2_wave_22 (by decide) (fun hc6 => ?_) (fun hc6 => ?_)
    · have hm7 := bq_t hm4 hc6; clear hm4
      refine lv_iload_n hx hb dX2_wave_31 rfl (lv_at hl5 0 rfl) ?_
      refine lv_bipush (v := 16) hx hb dX2_wave_32 (by decide) ?_
      refine lv_icmp_gt (tgt := 47) hx hb dX2_wave_34 (by decide) (fun hc8 => ?_) (fun hc8 => ?_)
      · have hm9 := bq_t hm7 hc8; clear hm7
        refine lv_iload_n hx hb dX2_wave_47 rfl (lv_at hl5 0 rfl) ?_
        refine lv_bipush (v := 24) hx hb dX2_wave_48 (by decide) ?_
        refine lv_icmp_gt (tgt := 65) hx hb dX2_wave_50 (by decide) (fun hc10 => ?_) (fun hc10 => ?_)
        · have hm11 := bq_t hm9 hc10; clear hm9
          obtain ⟨sa12, hz12, hn12, hl12_, hxx12⟩ := E.2.1.2.2.2.2.2.2.2.2.2.1
          refine va_gets hx hb (hz12.narrow E.2.2.2.1) hS0 hown (hts _ (List.mem_of_getElem? (i := 1) rfl)) (fun _ h9 => h9) dX2_wave_65 ?_
          refine lv_bipush (v := 32) hx hb dX2_wave_68 (by decide) ?_
          refine lv_iload_n hx hb dX2_wave_70 rfl (lv_at hl5 0 rfl) ?_
          refine lv_isub hx hb dX2_wave_71 ?_
          obtain ⟨hin13, hm13⟩ := gi_some hm11; clear hm11
          refine va_sld hx hb hxx12 hl12_ (fun h => absurd (E.2.2.2.1 _ h) (Nat.not_le.mpr hn12)) hS0 hin13 dX2_wave_72 ?_
          obtain rfl := Option.some.inj hm13
          rw [hQ]
          exact ct_iret hx hb hr hlk hP0 hD0 hS0 rfl dX2_wave_73
        · have hm14 := bq_f hm9 hc10; clear hm9
          obtain ⟨sa15, hz15, hn15, hl15_, hxx15⟩ := E.2.1.2.2.2.2.2.2.2.2.2.1
          refine va_gets hx hb (hz15.narrow E.2.2.2.1) hS0 hown (hts _ (List.mem_of_getElem? (i := 1) rfl)) (fun _ h9 => h9) dX2_wave_53 ?_
          refine lv_iload_n hx hb dX2_wave_56 rfl (lv_at hl5 0 rfl) ?_
          refine lv_bipush (v := 16) hx hb dX2_wave_57 (by decide) ?_
          refine lv_isub hx hb dX2_wave_59 ?_
          obtain ⟨hin16, hm16⟩ := gi_some hm14; clear hm14
          refine va_sld hx hb hxx15 hl15_ (fun h => absurd (E.2.2.2.1 _ h) (Nat.not_le.mpr hn15)) hS0 hin16 dX2_wave_60 ?_
          refine lv_ineg hx hb dX2_wave_61 ?_
          refine lv_goto (tgt := 73) hx hb dX2_wave_62 (by decide) ?_
          obtain rfl := Option.some.inj hm16
          rw [hQ]
          exact ct_iret hx hb hr hlk hP0 hD0 hS0 rfl dX2_wave_73
      · have hm17 := bq_f hm7 hc8; clear hm7
        obtain ⟨sa18, hz18, hn18, hl18_, hxx18⟩ := E.2.1.2.2.2.2.2.2.2.2.2.1
        refine va_gets hx hb (hz18.narrow E.2.2.2.1) hS0 hown (hts _ (List.mem_of_getElem? (i := 1) rfl)) (fun _ h9 => h9) dX2_wave_37 ?_
        refine lv_bipush (v := 16) hx hb dX2_wave_40 (by decide) ?_
        refine lv_iload_n hx hb dX2_wave_42 rfl (lv_at hl5 0 rfl) ?_
        refine lv_isub hx hb dX2_wave_43 ?_
        obtain ⟨hin19, hm19⟩ := gi_some hm17; clear hm17
        refine va_sld hx hb hxx18 hl18_ (fun h => absurd (E.2.2.2.1 _ h) (Nat.not_le.mpr hn18)) hS0 hin19 dX2_wave_44 ?_
        refine lv_ineg hx hb dX2_wave_45 ?_
        obtain rfl := Option.some.inj hm19
        rw [hQ]
        exact ct_iret hx hb hr hlk hP0 hD0 hS0 rfl dX2_wave_46
    · have hm20 := bq_f hm4 hc6; clear hm4
      obtain ⟨sa21, hz21, hn21, hl21_, hxx21⟩ := E.2.1.2.2.2.2.2.2.2.2.2.1
      refine va_gets hx hb (hz21.narrow E.2.2.2.1) hS0 hown (hts _ (List.mem_of_getElem? (i := 1) rfl)) (fun _ h9 => h9) dX2_wave_25 ?_
      refine lv_iload_n hx hb dX2_wave_28 rfl (lv_at hl5 0 rfl) ?_
      obtain ⟨hin22, hm22⟩ := gi_some hm20; clear hm20
      refine va_sld hx hb hxx21 hl21_ (fun h => absurd (E.2.2.2.1 _ h) (Nat.not_le.mpr hn21)) hS0 hin22 dX2_wave_29 ?_
      obtain rfl := Option.some.inj hm22
      rw [hQ]
      exact ct_iret hx hb hr hlk hP0 hD0 hS0 rfl dX2_wave_30
  · have hm23 := bq_t hm0 hc1; clear hm0
    refine lv_sipush (v := 11585) hx hb dX2_wave_4 (by decide) ?_
    obtain rfl := Option.some.inj hm23
    rw [hQ]
    exact ct_iret hx hb hr hlk hP0 hD0 hS0 rfl dX2_wave_7

def f_X2_setSpots_L12 (v2_6 : Int32) : Nat → (Nat → Int32) → Int32 → Int32 → Option ((Nat → Int32) × Int32)
  | 0, _, _, _ => none
  | n + 1, w_spots_15, v1_16, v3_17 =>
  (if v2_6 < v3_17 then
  (some (w_spots_15, v1_16))
  else
  (jn (fun (k25 : Int32 → Option ((Nat → Int32) × Int32)) => (if (v2_6 - v2_6 / (2 : Int32) * (2 : Int32)) = (1 : Int32) then
  (k25 v3_17)
  else
  (k25 (v2_6 - v3_17)))) fun k0_26 =>
  nm ((v2_6 - k0_26) : Int32) fun v5_30 =>
  jn (fun (k34 : (Nat → Int32) → Int32 → Option ((Nat → Int32) × Int32)) => (if (8 : Int32) ≤ k0_26 then
  (k34 w_spots_15 v1_16)
  else
  ((if (8 : Int32) ≤ v5_30 then
  (k34 w_spots_15 v1_16)
  else
  ((if (64 : Int32) ≤ v1_16 then
  (k34 w_spots_15 v1_16)
  else
  (gi v1_16 64 <|
  nm (upd w_spots_15 v1_16.toNatClampNeg ((k0_26 * (8 : Int32)) + v5_30) : Nat → Int32) fun w_spots_52 =>
  nm (v1_16 + (1 : Int32) : Int32) fun v1_55 =>
  k34 w_spots_52 v1_55))))))) fun w_spots_35 v1_36 =>
  nm (v3_17 + (1 : Int32) : Int32) fun v3_39 =>
  f_X2_setSpots_L12 v2_6 n w_spots_35 v1_36 v3_39))

def f_X2_setSpots_L4  : Nat → (Nat → Int32) → Int32 → Int32 → Option ((Nat → Int32))
  | 0, _, _, _ => none
  | n + 1, w_spots_4, v1_5, v2_6 =>
  (if (15 : Int32) ≤ v2_6 then
  (some (w_spots_4))
  else
  (bd2 (f_X2_setSpots_L12 v2_6 4000 w_spots_4 v1_5 (0 : Int32)) fun w_spots_61 v1_62 =>
  nm (v2_6 + (1 : Int32) : Int32) fun v2_65 =>
  f_X2_setSpots_L4 n w_spots_61 v1_62 v2_65))

def f_X2_setSpots (w_spots : Nat → Int32) : Option ((Nat → Int32)) :=
  bd1 (f_X2_setSpots_L4 4000 w_spots (0 : Int32) (0 : Int32)) fun w_spots_68 =>
  some (w_spots_68)

abbrev rm_X2_setSpots : Room := { frames := 0, cells := 0, slots := 0, locals := 0 }

theorem cdS_X2_setSpots : yX2_setSpots.cls ≠ "java/lang/invoke/MethodHandle" ∧ yX2_setSpots.cls ≠ "java/lang/invoke/VarHandle" ∧ (parseMethodDescriptor yX2_setSpots.desc).map (fun d => d.parameters.length) = some 0 := by decide +kernel

theorem cdV_X2_setSpots : yX2_setSpots.cls = RX2 ∧ yX2_setSpots.cls ≠ "java/lang/invoke/MethodHandle" ∧ yX2_setSpots.cls ≠ "java/lang/invoke/VarHandle" ∧ (parseMethodDescriptor yX2_setSpots.desc).map (fun d => d.parameters.length) = some 0 := ⟨rfl, cdS_X2_setSpots⟩

theorem hi_X2_setSpots_2 : ∀ w ∈ u_ws RX2 TX2 5, w ∈ wsX2_setSpots := fun _ h => List.mem_cons_of_mem _ (List.mem_append_right _ h)

set_option maxHeartbeats 40000000 in
set_option maxRecDepth 100000 in
theorem c_X2_setSpots (l : Launch) (D : va_G) (cB cI cJ cQ : ClassId) (N : Nat) (r0 : Nat → Nat) (sz : Nat) (w_spots : Nat → Int32) (o : (Nat → Int32)) (hm0 : f_X2_setSpots w_spots = some o) : Met l yX2_setSpots wsX2_setSpots rm_X2_setSpots (ctP D cB cI cJ cQ N sz [.ref (r0 0)] (wf [oB (r0 0) 2 [.ref (r0 1), .ref (r0 2), .ref (r0 3), .ref (r0 4), .ref (r0 5)], aI (r0 1) cI 64 w_spots] [])) (ctQv D (wf [oB (r0 0) 2 [.ref (r0 1), .ref (r0 2), .ref (r0 3), .ref (r0 4), .ref (r0 5)], aI (r0 1) cI 64 o] []) (va_A (wf [oB (r0 0) 2 [.ref (r0 1), .ref (r0 2), .ref (r0 3), .ref (r0 4), .ref (r0 5)], aI (r0 1) cI 64 w_spots] []) sz)) 0 0 (va_A (wf [oB (r0 0) 2 [.ref (r0 1), .ref (r0 2), .ref (r0 3), .ref (r0 4), .ref (r0 5)], aI (r0 1) cI 64 w_spots] []) sz) := by
  refine ct_of (cc := cX2_setSpots) (maxL := 6) (ret := none) (own := RX2) (Qp := ctQv D (wf [oB (r0 0) 2 [.ref (r0 1), .ref (r0 2), .ref (r0 3), .ref (r0 4), .ref (r0 5)], aI (r0 1) cI 64 o] [])) (by decide) rfl rfl (Nat.le_of_ble_eq_true rfl) ?_
  intro p e s m args below meth c A hx hb hr hml hown hts hlk hnm hsz hAe E hP0 hD0 hS0 ls0 hl0
  subst hsz
  have hl0 : lv_has ls0 6 [(0, .ref (r0 0))] := hl0
  obtain ⟨QQ, hQ⟩ : ∃ Q : State → Prop, Q = MQ below (ctQv D (wf [oB (r0 0) 2 [.ref (r0 1), .ref (r0 2), .ref (r0 3), .ref (r0 4), .ref (r0 5)], aI (r0 1) cI 64 o] []) A) args s 0 0 A := ⟨_, rfl⟩
  rw [← hQ]
  unfold f_X2_setSpots at hm0
  refine lv_iconst (v := 0) hx hb dX2_setSpots_0 (by decide) ?_
  refine lv_istore_n (lv' := [(1, .int (0 : Int32)), (0, .ref (r0 0))]) hx hb dX2_setSpots_1 rfl hl0 (by decide) rfl (fun ls1 hl1 => ?_); clear hl0
  refine lv_iconst (v := 0) hx hb dX2_setSpots_2 (by decide) ?_
  refine lv_istore_n (lv' := [(2, .int (0 : Int32)), (1, .int (0 : Int32)), (0, .ref (r0 0))]) hx hb dX2_setSpots_3 rfl hl1 (by decide) rfl (fun ls2 hl2 => ?_); clear hl1
  obtain ⟨w_spots_68, hlp3, hm69⟩ := bd1_some hm0; clear hm0
  have LP3 : ∀ (n : Nat) (w_spots_4 : Nat → Int32) (v1_5 : Int32) (v2_6 : Int32) (z3 : (Nat → Int32)) (H7 : Heap) (lc7 : List Loc) (ls7 : Array Slot), f_X2_setSpots_L4 n w_spots_4 v1_5 v2_6 = some z3 → va_P D vwCl (wf [oB (r0 0) 2 [.ref (r0 1), .ref (r0 2), .ref (r0 3), .ref (r0 4), .ref (r0 5)], aI (r0 1) cI 64 w_spots_4] []) H7 → va_D A (wf [oB (r0 0) 2 [.ref (r0 1), .ref (r0 2), .ref (r0 3), .ref (r0 4), .ref (r0 5)], aI (r0 1) cI 64 w_spots_4] []) → va_S A s.heap H7 lc7 → lv_has ls7 6 [(0, .ref (r0 0)), (1, .int v1_5), (2, .int v2_6)] → (∀ (H : Heap) (lc : List Loc) (ls : Array Slot), va_P D vwCl (wf [oB (r0 0) 2 [.ref (r0 1), .ref (r0 2), .ref (r0 3), .ref (r0 4), .ref (r0 5)], aI (r0 1) cI 64 z3] []) H → va_D A (wf [oB (r0 0) 2 [.ref (r0 1), .ref (r0 2), .ref (r0 3), .ref (r0 4), .ref (r0 5)], aI (r0 1) cI 64 z3] []) → va_S A s.heap H lc → lv_has ls 6 [] → W p l e rm_X2_setSpots s m args below meth c H lc 0 0 QQ (F0 m 88 ls [])) → W p l e rm_X2_setSpots s m args below meth c H7 lc7 0 0 QQ (F0 m 4 ls7 []) := by
    intro n
    induction n with
    | zero =>
      intro w_spots_4 v1_5 v2_6 z3 H7 lc7 ls7 hm9; simp [f_X2_setSpots_L4] at hm9
    | succ n ih =>
      intro w_spots_4 v1_5 v2_6 z3 H7 lc7 ls7 hm9 hP7 hD7 hS7 hl7 kx
      rw [f_X2_setSpots_L4] at hm9
      refine lv_iload_n hx hb dX2_setSpots_4 rfl (lv_at hl7 2 rfl) ?_
      refine lv_bipush (v := 15) hx hb dX2_setSpots_5 (by decide) ?_
      refine lv_icmp_ge (tgt := 88) hx hb dX2_setSpots_7 (by decide) (fun hc10 => ?_) (fun hc10 => ?_)
      · have hm11 := bq_t hm9 hc10; clear hm9
        obtain rfl := Option.some.inj hm11
        exact kx _ _ _ hP7 hD7 hS7 (lv_sub hl7 [] rfl)
      · have hm12 := bq_f hm9 hc10; clear hm9
        refine lv_iconst (v := 0) hx hb dX2_setSpots_10 (by decide) ?_
        refine lv_istore_n (lv' := [(3, .int (0 : Int32)), (0, .ref (r0 0)), (1, .int v1_5), (2, .int v2_6)]) hx hb dX2_setSpots_11 rfl hl7 (by decide) rfl (fun ls13 hl13 => ?_); clear hl7
        obtain ⟨w_spots_61, v1_62, hlp14, hm63⟩ := bd2_some hm12; clear hm12
        have LP14 : ∀ (n : Nat) (w_spots_15 : Nat → Int32) (v1_16 : Int32) (v3_17 : Int32) (z14 : (Nat → Int32) × Int32) (H18 : Heap) (lc18 : List Loc) (ls18 : Array Slot), f_X2_setSpots_L12 v2_6 n w_spots_15 v1_16 v3_17 = some z14 → va_P D vwCl (wf [oB (r0 0) 2 [.ref (r0 1), .ref (r0 2), .ref (r0 3), .ref (r0 4), .ref (r0 5)], aI (r0 1) cI 64 w_spots_15] []) H18 → va_D A (wf [oB (r0 0) 2 [.ref (r0 1), .ref (r0 2), .ref (r0 3), .ref (r0 4), .ref (r0 5)], aI (r0 1) cI 64 w_spots_15] []) → va_S A s.heap H18 lc18 → lv_has ls18 6 [(0, .ref (r0 0)), (1, .int v1_16), (2, .int v2_6), (3, .int v3_17)] → (∀ (H : Heap) (lc : List Loc) (ls : Array Slot), va_P D vwCl (wf [oB (r0 0) 2 [.ref (r0 1), .ref (r0 2), .ref (r0 3), .ref (r0 4), .ref (r0 5)], aI (r0 1) cI 64 (z14.1)] []) H → va_D A (wf [oB (r0 0) 2 [.ref (r0 1), .ref (r0 2), .ref (r0 3), .ref (r0 4), .ref (r0 5)], aI (r0 1) cI 64 (z14.1)] []) → va_S A s.heap H lc → lv_has ls 6 [(0, .ref (r0 0)), (1, .int (z14.2)), (2, .int v2_6)] → W p l e rm_X2_setSpots s m args below meth c H lc 0 0 QQ (F0 m 82 ls [])) → W p l e rm_X2_setSpots s m args below meth c H18 lc18 0 0 QQ (F0 m 12 ls18 []) := by
          intro n
          induction n with
          | zero =>
            intro w_spots_15 v1_16 v3_17 z14 H18 lc18 ls18 hm20; simp [f_X2_setSpots_L12] at hm20
          | succ n ih =>
            intro w_spots_15 v1_16 v3_17 z14 H18 lc18 ls18 hm20 hP18 hD18 hS18 hl18 kx
            rw [f_X2_setSpots_L12] at hm20
            refine lv_iload_n hx hb dX2_setSpots_12 rfl (lv_at hl18 3 rfl) ?_
            refine lv_iload_n hx hb dX2_setSpots_13 rfl (lv_at hl18 2 rfl) ?_
            refine lv_icmp_gt (tgt := 82) hx hb dX2_setSpots_14 (by decide) (fun hc21 => ?_) (fun hc21 => ?_)
            · have hm22 := bq_t hm20 hc21; clear hm20
              obtain rfl := Option.some.inj hm22
              exact kx _ _ _ hP18 hD18 hS18 (lv_sub hl18 [0, 1, 2] rfl)
            · have hm23 := bq_f hm20 hc21; clear hm20
              refine lv_iload_n hx hb dX2_setSpots_17 rfl (lv_at hl18 2 rfl) ?_
              refine lv_iconst (v := 2) hx hb dX2_setSpots_18 (by decide) ?_
              refine lv_irem hx hb dX2_setSpots_19 (by decide) ?_
              refine lv_iconst (v := 1) hx hb dX2_setSpots_20 (by decide) ?_
              obtain ⟨k25, ek25, hm25⟩ := jn_some hm23; clear hm23
              have KJ25 : ∀ (k0_26 : Int32) (H27 : Heap) (lc27 : List Loc) (ls27 : Array Slot), k25 k0_26 = some z14 → va_P D vwCl (wf [oB (r0 0) 2 [.ref (r0 1), .ref (r0 2), .ref (r0 3), .ref (r0 4), .ref (r0 5)], aI (r0 1) cI 64 w_spots_15] []) H27 → va_D A (wf [oB (r0 0) 2 [.ref (r0 1), .ref (r0 2), .ref (r0 3), .ref (r0 4), .ref (r0 5)], aI (r0 1) cI 64 w_spots_15] []) → va_S A s.heap H27 lc27 → lv_has ls27 6 [(0, .ref (r0 0)), (1, .int v1_16), (2, .int v2_6), (3, .int v3_17)] → W p l e rm_X2_setSpots s m args below meth c H27 lc27 0 0 QQ (F0 m 31 ls27 [.int k0_26]) := by
                intro k0_26 H27 lc27 ls27 hm28 hP27 hD27 hS27 hl27
                rw [ek25] at hm28
                refine lv_istore (lv' := [(4, .int k0_26), (0, .ref (r0 0)), (1, .int v1_16), (2, .int v2_6), (3, .int v3_17)]) hx hb dX2_setSpots_31 hl27 (by decide) rfl (fun ls29 hl29 => ?_); clear hl27
                refine lv_iload_n hx hb dX2_setSpots_33 rfl (lv_at hl29 3 rfl) ?_
                refine lv_iload hx hb dX2_setSpots_34 (lv_at hl29 0 rfl) ?_
                refine lv_isub hx hb dX2_setSpots_36 ?_
                obtain ⟨v5_30, ev5_30, hm31⟩ := nm_some hm28; clear hm28
                refine ct_topi ev5_30 ?_
                refine lv_istore (lv' := [(5, .int v5_30), (4, .int k0_26), (0, .ref (r0 0)), (1, .int v1_16), (2, .int v2_6), (3, .int v3_17)]) hx hb dX2_setSpots_37 hl29 (by decide) rfl (fun ls32 hl32 => ?_); clear hl29
                refine lv_iload hx hb dX2_setSpots_39 (lv_at hl32 1 rfl) ?_
                refine lv_bipush (v := 8) hx hb dX2_setSpots_41 (by decide) ?_
                obtain ⟨k34, ek34, hm34⟩ := jn_some hm31; clear hm31
                have KJ34 : ∀ (w_spots_35 : Nat → Int32) (v1_36 : Int32) (H37 : Heap) (lc37 : List Loc) (ls37 : Array Slot), k34 w_spots_35 v1_36 = some z14 → va_P D vwCl (wf [oB (r0 0) 2 [.ref (r0 1), .ref (r0 2), .ref (r0 3), .ref (r0 4), .ref (r0 5)], aI (r0 1) cI 64 w_spots_35] []) H37 → va_D A (wf [oB (r0 0) 2 [.ref (r0 1), .ref (r0 2), .ref (r0 3), .ref (r0 4), .ref (r0 5)], aI (r0 1) cI 64 w_spots_35] []) → va_S A s.heap H37 lc37 → lv_has ls37 6 [(0, .ref (r0 0)), (1, .int v1_36), (2, .int v2_6), (3, .int v3_17)] → W p l e rm_X2_setSpots s m args below meth c H37 lc37 0 0 QQ (F0 m 76 ls37 []) := by
                  intro w_spots_35 v1_36 H37 lc37 ls37 hm38 hP37 hD37 hS37 hl37
                  rw [ek34] at hm38
                  obtain ⟨v3_39, ev3_39, hm40⟩ := nm_some hm38; clear hm38
                  refine lv_iinc (v := v3_39) (lv' := [(3, .int v3_39), (0, .ref (r0 0)), (1, .int v1_36), (2, .int v2_6)]) hx hb dX2_setSpots_76 hl37 (k := 3) rfl (by rw [ev3_39]; rfl) (by decide) rfl (fun ls41 hl41 => ?_); clear hl37
                  refine lv_goto (tgt := 12) hx hb dX2_setSpots_79 (by decide) ?_
                  exact ih w_spots_35 v1_36 v3_39 _ _ _ _ hm40 hP37 hD37 hS37 (lv_sub hl41 [1, 2, 3, 0] rfl) kx
                refine lv_icmp_ge (tgt := 76) hx hb dX2_setSpots_43 (by decide) (fun hc42 => ?_) (fun hc42 => ?_)
                · have hm43 := bq_t hm34 hc42; clear hm34
                  exact KJ34 w_spots_15 v1_16 _ _ _ hm43 hP27 hD27 hS27 (lv_sub hl32 [2, 3, 4, 5] rfl)
                · have hm44 := bq_f hm34 hc42; clear hm34
                  refine lv_iload hx hb dX2_setSpots_46 (lv_at hl32 0 rfl) ?_
                  refine lv_bipush (v := 8) hx hb dX2_setSpots_48 (by decide) ?_
                  refine lv_icmp_ge (tgt := 76) hx hb dX2_setSpots_50 (by decide) (fun hc45 => ?_) (fun hc45 => ?_)
                  · have hm46 := bq_t hm44 hc45; clear hm44
                    exact KJ34 w_spots_15 v1_16 _ _ _ hm46 hP27 hD27 hS27 (lv_sub hl32 [2, 3, 4, 5] rfl)
                  · have hm47 := bq_f hm44 hc45; clear hm44
                    refine lv_iload_n hx hb dX2_setSpots_53 rfl (lv_at hl32 3 rfl) ?_
                    refine lv_bipush (v := 64) hx hb dX2_setSpots_54 (by decide) ?_
                    refine lv_icmp_ge (tgt := 76) hx hb dX2_setSpots_56 (by decide) (fun hc48 => ?_) (fun hc48 => ?_)
                    · have hm49 := bq_t hm47 hc48; clear hm47
                      exact KJ34 w_spots_15 v1_16 _ _ _ hm49 hP27 hD27 hS27 (lv_sub hl32 [2, 3, 4, 5] rfl)
                    · have hm50 := bq_f hm47 hc48; clear hm47
                      refine lv_aload_n hx hb dX2_setSpots_59 rfl (lv_at hl32 2 rfl) ?_
                      refine va_get (D := D) (ci := 2) (v := .ref (r0 1)) (C := RX2) (T := TX2) (N := 5) hx hb hts hi_X2_setSpots_2 hown E.1 hP27 0 rfl rfl 0 (by decide) (hts _ (List.mem_of_getElem? (i := 1) rfl)) (fun _ h9 => h9) rfl dX2_setSpots_60 ?_
                      refine lv_iload_n hx hb dX2_setSpots_63 rfl (lv_at hl32 3 rfl) ?_
                      refine lv_iload hx hb dX2_setSpots_64 (lv_at hl32 1 rfl) ?_
                      refine lv_bipush (v := 8) hx hb dX2_setSpots_66 (by decide) ?_
                      refine lv_imul hx hb dX2_setSpots_68 ?_
                      refine lv_iload hx hb dX2_setSpots_69 (lv_at hl32 0 rfl) ?_
                      refine lv_iadd hx hb dX2_setSpots_71 ?_
                      obtain ⟨hin51, hm51⟩ := gi_some hm50; clear hm50
                      obtain ⟨w_spots_52, ew_spots_52, hm53⟩ := nm_some hm51; clear hm51
                      refine ct_iast (g := w_spots_52) (ws' := (wf [oB (r0 0) 2 [.ref (r0 1), .ref (r0 2), .ref (r0 3), .ref (r0 4), .ref (r0 5)], aI (r0 1) cI 64 w_spots_52] [])) hx hb E.1 hP27 hD27 hS27 1 0 rfl rfl hin51 ew_spots_52 rfl dX2_setSpots_72 (fun H54 lc54 hP54 hD54 hS54 => ?_)
                      clear hP27 hD27 hS27
                      obtain ⟨v1_55, ev1_55, hm56⟩ := nm_some hm53; clear hm53
                      refine lv_iinc (v := v1_55) (lv' := [(1, .int v1_55), (5, .int v5_30), (4, .int k0_26), (0, .ref (r0 0)), (2, .int v2_6), (3, .int v3_17)]) hx hb dX2_setSpots_73 hl32 (k := 3) rfl (by rw [ev1_55]; rfl) (by decide) rfl (fun ls57 hl57 => ?_); clear hl32
                      exact KJ34 w_spots_52 v1_55 _ _ _ hm56 hP54 hD54 hS54 (lv_sub hl57 [3, 0, 4, 5] rfl)
              refine lv_icmp_ne (tgt := 28) hx hb dX2_setSpots_21 (by decide) (fun hc58 => ?_) (fun hc58 => ?_)
              · have hm59 := bq_f hm25 hc58; clear hm25
                refine lv_iload_n hx hb dX2_setSpots_28 rfl (lv_at hl18 2 rfl) ?_
                refine lv_iload_n hx hb dX2_setSpots_29 rfl (lv_at hl18 3 rfl) ?_
                refine lv_isub hx hb dX2_setSpots_30 ?_
                exact KJ25 (v2_6 - v3_17) _ _ _ hm59 hP18 hD18 hS18 (lv_sub hl18 [0, 1, 2, 3] rfl)
              · have hm60 := bq_t hm25 hc58; clear hm25
                refine lv_iload_n hx hb dX2_setSpots_24 rfl (lv_at hl18 3 rfl) ?_
                refine lv_goto (tgt := 31) hx hb dX2_setSpots_25 (by decide) ?_
                exact KJ25 v3_17 _ _ _ hm60 hP18 hD18 hS18 (lv_sub hl18 [0, 1, 2, 3] rfl)
        refine LP14 4000 w_spots_4 v1_5 (0 : Int32) (w_spots_61, v1_62) _ _ _ hlp14 hP7 hD7 hS7 (lv_sub hl13 [1, 2, 3, 0] rfl) (fun H64 lc64 ls64 hP64 hD64 hS64 hl64 => ?_); clear LP14 hlp14
        clear hP7 hD7 hS7
        have hl64 : lv_has ls64 6 [(0, .ref (r0 0)), (1, .int v1_62), (2, .int v2_6)] := hl64
        have hP64 : va_P D vwCl (wf [oB (r0 0) 2 [.ref (r0 1), .ref (r0 2), .ref (r0 3), .ref (r0 4), .ref (r0 5)], aI (r0 1) cI 64 w_spots_61] []) H64 := hP64
        have hD64 : va_D A (wf [oB (r0 0) 2 [.ref (r0 1), .ref (r0 2), .ref (r0 3), .ref (r0 4), .ref (r0 5)], aI (r0 1) cI 64 w_spots_61] []) := hD64
        obtain ⟨v2_65, ev2_65, hm66⟩ := nm_some hm63; clear hm63
        refine lv_iinc (v := v2_65) (lv' := [(2, .int v2_65), (0, .ref (r0 0)), (1, .int v1_62)]) hx hb dX2_setSpots_82 hl64 (k := 2) rfl (by rw [ev2_65]; rfl) (by decide) rfl (fun ls67 hl67 => ?_); clear hl64
        refine lv_goto (tgt := 4) hx hb dX2_setSpots_85 (by decide) ?_
        exact ih w_spots_61 v1_62 v2_65 _ _ _ _ hm66 hP64 hD64 hS64 (lv_sub hl67 [1, 2, 0] rfl) kx
  refine LP3 4000 w_spots (0 : Int32) (0 : Int32) (w_spots_68) _ _ _ hlp3 hP0 hD0 hS0 (lv_sub hl2 [2, 1, 0] rfl) (fun H70 lc70 ls70 hP70 hD70 hS70 hl70 => ?_); clear LP3 hlp3
  clear hP0 hD0 hS0
  have hl70 : lv_has ls70 6 [] := hl70
  have hP70 : va_P D vwCl (wf [oB (r0 0) 2 [.ref (r0 1), .ref (r0 2), .ref (r0 3), .ref (r0 4), .ref (r0 5)], aI (r0 1) cI 64 w_spots_68] []) H70 := hP70
  have hD70 : va_D A (wf [oB (r0 0) 2 [.ref (r0 1), .ref (r0 2), .ref (r0 3), .ref (r0 4), .ref (r0 5)], aI (r0 1) cI 64 w_spots_68] []) := hD70
  obtain rfl := Option.some.inj hm69
  rw [hQ]
  exact ct_vret hx hb hr hlk hP70 hD70 hS70 dX2_setSpots_88

def f_X2_setWaves_L10 (v1_4 : Int32) : Nat → (Nat → Int32) → Int32 → Option ((Nat → Int32))
  | 0, _, _ => none
  | n + 1, w_waves_13, v2_14 =>
  (if (8 : Int32) ≤ v2_14 then
  (some (w_waves_13))
  else
  (bd1 (f_X2_wave v1_4 v2_14) fun y_21 =>
  gi ((v1_4 * (8 : Int32)) + v2_14) 64 <|
  nm (upd w_waves_13 ((v1_4 * (8 : Int32)) + v2_14).toNatClampNeg y_21 : Nat → Int32) fun w_waves_26 =>
  nm (v2_14 + (1 : Int32) : Int32) fun v2_29 =>
  f_X2_setWaves_L10 v1_4 n w_waves_26 v2_29))

def f_X2_setWaves_L2  : Nat → (Nat → Int32) → Int32 → Option ((Nat → Int32))
  | 0, _, _ => none
  | n + 1, w_waves_3, v1_4 =>
  (if (8 : Int32) ≤ v1_4 then
  (some (w_waves_3))
  else
  (bd1 (f_X2_setWaves_L10 v1_4 4000 w_waves_3 (0 : Int32)) fun w_waves_32 =>
  nm (v1_4 + (1 : Int32) : Int32) fun v1_35 =>
  f_X2_setWaves_L2 n w_waves_32 v1_35))

def f_X2_setWaves (w_waves : Nat → Int32) : Option ((Nat → Int32)) :=
  bd1 (f_X2_setWaves_L2 4000 w_waves (0 : Int32)) fun w_waves_38 =>
  some (w_waves_38)

abbrev rm_X2_setWaves : Room := { frames := 1, cells := 0, slots := 0, locals := 22 }

theorem cdS_X2_setWaves : yX2_setWaves.cls ≠ "java/lang/invoke/MethodHandle" ∧ yX2_setWaves.cls ≠ "java/lang/invoke/VarHandle" ∧ (parseMethodDescriptor yX2_setWaves.desc).map (fun d => d.parameters.length) = some 0 := by decide +kernel

theorem cdV_X2_setWaves : yX2_setWaves.cls = RX2 ∧ yX2_setWaves.cls ≠ "java/lang/invoke/MethodHandle" ∧ yX2_setWaves.cls ≠ "java/lang/invoke/VarHandle" ∧ (parseMethodDescriptor yX2_setWaves.desc).map (fun d => d.parameters.length) = some 0 := ⟨rfl, cdS_X2_setWaves⟩

theorem hi_X2_setWaves_2 : ∀ w ∈ u_ws RX2 TX2 5, w ∈ wsX2_setWaves := fun _ h => List.mem_cons_of_mem _ (List.mem_append_right _ h)

set_option maxHeartbeats 40000000 in
set_option maxRecDepth 100000 in
theorem c_X2_setWaves (l : Launch) (D : va_G) (cB cI cJ cQ : ClassId) (N : Nat) (r0 : Nat → Nat) (sz : Nat) (w_waves : Nat → Int32) (o : (Nat → Int32)) (hm0 : f_X2_setWaves w_waves = some o) : Met l yX2_setWaves wsX2_setWaves rm_X2_setWaves (ctP D cB cI cJ cQ N sz [.ref (r0 0)] (wf [oB (r0 0) 2 [.ref (r0 1), .ref (r0 2), .ref (r0 3), .ref (r0 4), .ref (r0 5)], aI (r0 2) cI 64 w_waves] [])) (ctQv D (wf [oB (r0 0) 2 [.ref (r0 1), .ref (r0 2), .ref (r0 3), .ref (r0 4), .ref (r0 5)], aI (r0 2) cI 64 o] []) (va_A (wf [oB (r0 0) 2 [.ref (r0 1), .ref (r0 2), .ref (r0 3), .ref (r0 4), .ref (r0 5)], aI (r0 2) cI 64 w_waves] []) sz)) 0 0 (va_A (wf [oB (r0 0) 2 [.ref (r0 1), .ref (r0 2), .ref (r0 3), .ref (r0 4), .ref (r0 5)], aI (r0 2) cI 64 w_waves] []) sz) := by
  refine ct_of (cc := cX2_setWaves) (maxL := 3) (ret := none) (own := RX2) (Qp := ctQv D (wf [oB (r0 0) 2 [.ref (r0 1), .ref (r0 2), .ref (r0 3), .ref (r0 4), .ref (r0 5)], aI (r0 2) cI 64 o] [])) (by decide) rfl rfl (Nat.le_of_ble_eq_true rfl) ?_
  intro p e s m args below meth c A hx hb hr hml hown hts hlk hnm hsz hAe E hP0 hD0 hS0 ls0 hl0
  subst hsz
  have hl0 : lv_has ls0 3 [(0, .ref (r0 0))] := hl0
  obtain ⟨QQ, hQ⟩ : ∃ Q : State → Prop, Q = MQ below (ctQv D (wf [oB (r0 0) 2 [.ref (r0 1), .ref (r0 2), .ref (r0 3), .ref (r0 4), .ref (r0 5)], aI (r0 2) cI 64 o] []) A) args s 0 0 A := ⟨_, rfl⟩
  rw [← hQ]
  unfold f_X2_setWaves at hm0
  refine lv_iconst (v := 0) hx hb dX2_setWaves_0 (by decide) ?_
  refine lv_istore_n (lv' := [(1, .int (0 : Int32)), (0, .ref (r0 0))]) hx hb dX2_setWaves_1 rfl hl0 (by decide) rfl (fun ls1 hl1 => ?_); clear hl0
  obtain ⟨w_waves_38, hlp2, hm39⟩ := bd1_some hm0; clear hm0
  have LP2 : ∀ (n : Nat) (w_waves_3 : Nat → Int32) (v1_4 : Int32) (z2 : (Nat → Int32)) (H5 : Heap) (lc5 : List Loc) (ls5 : Array Slot), f_X2_setWaves_L2 n w_waves_3 v1_4 = some z2 → va_P D vwCl (wf [oB (r0 0) 2 [.ref (r0 1), .ref (r0 2), .ref (r0 3), .ref (r0 4), .ref (r0 5)], aI (r0 2) cI 64 w_waves_3] []) H5 → va_D A (wf [oB (r0 0) 2 [.ref (r0 1), .ref (r0 2), .ref (r0 3), .ref (r0 4), .ref (r0 5)], aI (r0 2) cI 64 w_waves_3] []) → va_S A s.heap H5 lc5 → lv_has ls5 3 [(0, .ref (r0 0)), (1, .int v1_4)] → (∀ (H : Heap) (lc : List Loc) (ls : Array Slot), va_P D vwCl (wf [oB (r0 0) 2 [.ref (r0 1), .ref (r0 2), .ref (r0 3), .ref (r0 4), .ref (r0 5)], aI (r0 2) cI 64 z2] []) H → va_D A (wf [oB (r0 0) 2 [.ref (r0 1), .ref (r0 2), .ref (r0 3), .ref (r0 4), .ref (r0 5)], aI (r0 2) cI 64 z2] []) → va_S A s.heap H lc → lv_has ls 3 [] → W p l e rm_X2_setWaves s m args below meth c H lc 0 0 QQ (F0 m 44 ls [])) → W p l e rm_X2_setWaves s m args below meth c H5 lc5 0 0 QQ (F0 m 2 ls5 []) := by
    intro n
    induction n with
    | zero =>
      intro w_waves_3 v1_4 z2 H5 lc5 ls5 hm7; simp [f_X2_setWaves_L2] at hm7
    | succ n ih =>
      intro w_waves_3 v1_4 z2 H5 lc5 ls5 hm7 hP5 hD5 hS5 hl5 kx
      rw [f_X2_setWaves_L2] at hm7
      refine lv_iload_n hx hb dX2_setWaves_2 rfl (lv_at hl5 1 rfl) ?_
      refine lv_bipush (v := 8) hx hb dX2_setWaves_3 (by decide) ?_
      refine lv_icmp_ge (tgt := 44) hx hb dX2_setWaves_5 (by decide) (fun hc8 => ?_) (fun hc8 => ?_)
      · have hm9 := bq_t hm7 hc8; clear hm7
        obtain rfl := Option.some.inj hm9
        exact kx _ _ _ hP5 hD5 hS5 (lv_sub hl5 [] rfl)
      · have hm10 := bq_f hm7 hc8; clear hm7
        refine lv_iconst (v := 0) hx hb dX2_setWaves_8 (by decide) ?_
        refine lv_istore_n (lv' := [(2, .int (0 : Int32)), (0, .ref (r0 0)), (1, .int v1_4)]) hx hb dX2_setWaves_9 rfl hl5 (by decide) rfl (fun ls11 hl11 => ?_); clear hl5
        obtain ⟨w_waves_32, hlp12, hm33⟩ := bd1_some hm10; clear hm10
        have LP12 : ∀ (n : Nat) (w_waves_13 : Nat → Int32) (v2_14 : Int32) (z12 : (Nat → Int32)) (H15 : Heap) (lc15 : List Loc) (ls15 : Array Slot), f_X2_setWaves_L10 v1_4 n w_waves_13 v2_14 = some z12 → va_P D vwCl (wf [oB (r0 0) 2 [.ref (r0 1), .ref (r0 2), .ref (r0 3), .ref (r0 4), .ref (r0 5)], aI (r0 2) cI 64 w_waves_13] []) H15 → va_D A (wf [oB (r0 0) 2 [.ref (r0 1), .ref (r0 2), .ref (r0 3), .ref (r0 4), .ref (r0 5)], aI (r0 2) cI 64 w_waves_13] []) → va_S A s.heap H15 lc15 → lv_has ls15 3 [(0, .ref (r0 0)), (1, .int v1_4), (2, .int v2_14)] → (∀ (H : Heap) (lc : List Loc) (ls : Array Slot), va_P D vwCl (wf [oB (r0 0) 2 [.ref (r0 1), .ref (r0 2), .ref (r0 3), .ref (r0 4), .ref (r0 5)], aI (r0 2) cI 64 z12] []) H → va_D A (wf [oB (r0 0) 2 [.ref (r0 1), .ref (r0 2), .ref (r0 3), .ref (r0 4), .ref (r0 5)], aI (r0 2) cI 64 z12] []) → va_S A s.heap H lc → lv_has ls 3 [(0, .ref (r0 0)), (1, .int v1_4)] → W p l e rm_X2_setWaves s m args below meth c H lc 0 0 QQ (F0 m 38 ls [])) → W p l e rm_X2_setWaves s m args below meth c H15 lc15 0 0 QQ (F0 m 10 ls15 []) := by
          intro n
          induction n with
          | zero =>
            intro w_waves_13 v2_14 z12 H15 lc15 ls15 hm17; simp [f_X2_setWaves_L10] at hm17
          | succ n ih =>
            intro w_waves_13 v2_14 z12 H15 lc15 ls15 hm17 hP15 hD15 hS15 hl15 kx
            rw [f_X2_setWaves_L10] at hm17
            refine lv_iload_n hx hb dX2_setWaves_10 rfl (lv_at hl15 2 rfl) ?_
            refine lv_bipush (v := 8) hx hb dX2_setWaves_11 (by decide) ?_
            refine lv_icmp_ge (tgt := 38) hx hb dX2_setWaves_13 (by decide) (fun hc18 => ?_) (fun hc18 => ?_)
            · have hm19 := bq_t hm17 hc18; clear hm17
              obtain rfl := Option.some.inj hm19
              exact kx _ _ _ hP15 hD15 hS15 (lv_sub hl15 [0, 1] rfl)
            · have hm20 := bq_f hm17 hc18; clear hm17
              refine lv_aload_n hx hb dX2_setWaves_16 rfl (lv_at hl15 0 rfl) ?_
              refine va_get (D := D) (ci := 2) (v := .ref (r0 2)) (C := RX2) (T := TX2) (N := 5) hx hb hts hi_X2_setWaves_2 hown E.1 hP15 0 rfl rfl 1 (by decide) (hts _ (List.mem_of_getElem? (i := 1) rfl)) (fun _ h9 => h9) rfl dX2_setWaves_17 ?_
              refine lv_iload_n hx hb dX2_setWaves_20 rfl (lv_at hl15 1 rfl) ?_
              refine lv_bipush (v := 8) hx hb dX2_setWaves_21 (by decide) ?_
              refine lv_imul hx hb dX2_setWaves_23 ?_
              refine lv_iload_n hx hb dX2_setWaves_24 rfl (lv_at hl15 2 rfl) ?_
              refine lv_iadd hx hb dX2_setWaves_25 ?_
              refine lv_iload_n hx hb dX2_setWaves_26 rfl (lv_at hl15 1 rfl) ?_
              refine lv_iload_n hx hb dX2_setWaves_27 rfl (lv_at hl15 2 rfl) ?_
              obtain ⟨y_21, hcl22, hm22⟩ := bd1_some hm20; clear hm20
              have sb23 := ctS.mk (n := 2) (k := 0) (pre := [oB (r0 0) 2 [.ref (r0 1), .ref (r0 2), .ref (r0 3), .ref (r0 4), .ref (r0 5)], aI (r0 2) cI 64 w_waves_13]) (tl := []) [] [0, 1] [] [] rfl rfl (by decide +kernel) (by decide +kernel)
              refine ct_calli (r := y_21) E sb23 hP15 hD15 hS15 (va_runS (As := [.int v1_4, .int v2_14]) (rest := [.int ((v1_4 * (8 : Int32)) + v2_14), .ref (r0 2)]) ⟨hx, hb, hml, hown, hts⟩ (c_X2_wave l D cB cI cJ cQ N H15.size v1_4 v2_14 (y_21) hcl22) (va_cwS 2 hts gX2_setWaves_X2_wave rfl rfl rfl cdS_X2_wave ⟨Nat.le_of_ble_eq_true rfl, Nat.le_of_ble_eq_true rfl⟩) (ct_preS E sb23 hP15 hD15 hS15) rfl rfl hl15.1 rfl (lv_room (Nat.le_of_ble_eq_true rfl)) dX2_setWaves_28 ⟨Nat.zero_le _, Nat.zero_le _⟩) (fun H24 lc24 hP24 hD24 hS24 => ?_); clear sb23 hcl22
              clear hP15 hD15 hS15
              have hP24 : va_P D vwCl (wf [oB (r0 0) 2 [.ref (r0 1), .ref (r0 2), .ref (r0 3), .ref (r0 4), .ref (r0 5)], aI (r0 2) cI 64 w_waves_13] []) H24 := hP24
              have hD24 : va_D A (wf [oB (r0 0) 2 [.ref (r0 1), .ref (r0 2), .ref (r0 3), .ref (r0 4), .ref (r0 5)], aI (r0 2) cI 64 w_waves_13] []) := hD24
              obtain ⟨hin25, hm25⟩ := gi_some hm22; clear hm22
              obtain ⟨w_waves_26, ew_waves_26, hm27⟩ := nm_some hm25; clear hm25
              refine ct_iast (g := w_waves_26) (ws' := (wf [oB (r0 0) 2 [.ref (r0 1), .ref (r0 2), .ref (r0 3), .ref (r0 4), .ref (r0 5)], aI (r0 2) cI 64 w_waves_26] [])) hx hb E.1 hP24 hD24 hS24 1 0 rfl rfl hin25 ew_waves_26 rfl dX2_setWaves_31 (fun H28 lc28 hP28 hD28 hS28 => ?_)
              clear hP24 hD24 hS24
              obtain ⟨v2_29, ev2_29, hm30⟩ := nm_some hm27; clear hm27
              refine lv_iinc (v := v2_29) (lv' := [(2, .int v2_29), (0, .ref (r0 0)), (1, .int v1_4)]) hx hb dX2_setWaves_32 hl15 (k := 2) rfl (by rw [ev2_29]; rfl) (by decide) rfl (fun ls31 hl31 => ?_); clear hl15
              refine lv_goto (tgt := 10) hx hb dX2_setWaves_35 (by decide) ?_
              exact ih w_waves_26 v2_29 _ _ _ _ hm30 hP28 hD28 hS28 (lv_sub hl31 [1, 2, 0] rfl) kx
        refine LP12 4000 w_waves_3 (0 : Int32) (w_waves_32) _ _ _ hlp12 hP5 hD5 hS5 (lv_sub hl11 [1, 2, 0] rfl) (fun H34 lc34 ls34 hP34 hD34 hS34 hl34 => ?_); clear LP12 hlp12
        clear hP5 hD5 hS5
        have hl34 : lv_has ls34 3 [(0, .ref (r0 0)), (1, .int v1_4)] := hl34
        have hP34 : va_P D vwCl (wf [oB (r0 0) 2 [.ref (r0 1), .ref (r0 2), .ref (r0 3), .ref (r0 4), .ref (r0 5)], aI (r0 2) cI 64 w_waves_32] []) H34 := hP34
        have hD34 : va_D A (wf [oB (r0 0) 2 [.ref (r0 1), .ref (r0 2), .ref (r0 3), .ref (r0 4), .ref (r0 5)], aI (r0 2) cI 64 w_waves_32] []) := hD34
        obtain ⟨v1_35, ev1_35, hm36⟩ := nm_some hm33; clear hm33
        refine lv_iinc (v := v1_35) (lv' := [(1, .int v1_35), (0, .ref (r0 0))]) hx hb dX2_setWaves_38 hl34 (k := 1) rfl (by rw [ev1_35]; rfl) (by decide) rfl (fun ls37 hl37 => ?_); clear hl34
        refine lv_goto (tgt := 2) hx hb dX2_setWaves_41 (by decide) ?_
        exact ih w_waves_32 v1_35 _ _ _ _ hm36 hP34 hD34 hS34 (lv_sub hl37 [1, 0] rfl) kx
  refine LP2 4000 w_waves (0 : Int32) (w_waves_38) _ _ _ hlp2 hP0 hD0 hS0 (lv_sub hl1 [1, 0] rfl) (fun H40 lc40 ls40 hP40 hD40 hS40 hl40 => ?_); clear LP2 hlp2
  clear hP0 hD0 hS0
  have hl40 : lv_has ls40 3 [] := hl40
  have hP40 : va_P D vwCl (wf [oB (r0 0) 2 [.ref (r0 1), .ref (r0 2), .ref (r0 3), .ref (r0 4), .ref (r0 5)], aI (r0 2) cI 64 w_waves_38] []) H40 := hP40
  have hD40 : va_D A (wf [oB (r0 0) 2 [.ref (r0 1), .ref (r0 2), .ref (r0 3), .ref (r0 4), .ref (r0 5)], aI (r0 2) cI 64 w_waves_38] []) := hD40
  obtain rfl := Option.some.inj hm39
  rw [hQ]
  exact ct_vret hx hb hr hlk hP40 hD40 hS40 dX2_setWaves_44

def f_X2_sumRow_L36 (w_waves : Nat → Int32) (v3_8 : Int32) (v4_16 : Int64) : Nat → (Nat → Int64) → Int32 → Option ((Nat → Int64))
  | 0, _, _ => none
  | n + 1, w_sums_32, v6_33 =>
  (if (8 : Int32) ≤ v6_33 then
  (some (w_sums_32))
  else
  (gi v6_33 8 <|
  gi ((v6_33 * (8 : Int32)) + v3_8) 64 <|
  gi v6_33 8 <|
  nm (vp_updL w_sums_32 v6_33.toNatClampNeg ((w_sums_32 v6_33.toNatClampNeg) + ((Int32.toInt64 (w_waves ((v6_33 * (8 : Int32)) + v3_8).toNatClampNeg)) * v4_16)) : Nat → Int64) fun w_sums_43 =>
  nm (v6_33 + (1 : Int32) : Int32) fun v6_46 =>
  f_X2_sumRow_L36 w_waves v3_8 v4_16 n w_sums_43 v6_46))

def f_X2_sumRow_L12 (x2 : Int32) (w_waves : Nat → Int32) (a1 : Nat → Int32) : Nat → (Nat → Int64) → Int32 → Option ((Nat → Int64))
  | 0, _, _ => none
  | n + 1, w_sums_7, v3_8 =>
  (if (8 : Int32) ≤ v3_8 then
  (some (w_sums_7))
  else
  (gi (x2 + v3_8) 64 <|
  nm ((Int32.toInt64 (a1 (x2 + v3_8).toNatClampNeg)) : Int64) fun v4_16 =>
  jn (fun (k20 : (Nat → Int64) → Option ((Nat → Int64))) => (if (lg_cmp v4_16 (0 : Int64)) = (0 : Int32) then
  (k20 w_sums_7)
  else
  (bd1 (f_X2_sumRow_L36 w_waves v3_8 v4_16 4000 w_sums_7 (0 : Int32)) fun w_sums_49 =>
  k20 w_sums_49))) fun w_sums_21 =>
  nm (v3_8 + (1 : Int32) : Int32) fun v3_24 =>
  f_X2_sumRow_L12 x2 w_waves a1 n w_sums_21 v3_24))

def f_X2_sumRow (x2 : Int32) (w_waves : Nat → Int32) (w_sums : Nat → Int64) (a1 : Nat → Int32) : Option ((Nat → Int64)) :=
  bd1 (f_J7_fill_d0a16 (16384 : Int64) w_sums) fun w_sums_1 =>
  bd1 (f_X2_sumRow_L12 x2 w_waves a1 4000 w_sums_1 (0 : Int32)) fun w_sums_52 =>
  some (w_sums_52)

abbrev rm_X2_sumRow : Room := { frames := 1, cells := 0, slots := 0, locals := 24 }

theorem cdS_X2_sumRow : yX2_sumRow.cls ≠ "java/lang/invoke/MethodHandle" ∧ yX2_sumRow.cls ≠ "java/lang/invoke/VarHandle" ∧ (parseMethodDescriptor yX2_sumRow.desc).map (fun d => d.parameters.length) = some 2 := by decide +kernel

theorem cdV_X2_sumRow : yX2_sumRow.cls = RX2 ∧ yX2_sumRow.cls ≠ "java/lang/invoke/MethodHandle" ∧ yX2_sumRow.cls ≠ "java/lang/invoke/VarHandle" ∧ (parseMethodDescriptor yX2_sumRow.desc).map (fun d => d.parameters.length) = some 2 := ⟨rfl, cdS_X2_sumRow⟩

theorem hi_X2_sumRow_2 : ∀ w ∈ u_ws RX2 TX2 5, w ∈ wsX2_sumRow := fun _ h => List.mem_cons_of_mem _ (List.mem_append_right _ h)

set_option maxHeartbeats 40000000 in
set_option maxRecDepth 100000 in
theorem c_X2_sumRow (l : Launch) (D : va_G) (cB cI cJ cQ : ClassId) (N : Nat) (r0 : Nat → Nat) (r1 : Nat → Nat) (sz : Nat) (x2 : Int32) (w_waves : Nat → Int32) (w_sums : Nat → Int64) (a1 : Nat → Int32) (o : (Nat → Int64)) (hm0 : f_X2_sumRow x2 w_waves w_sums a1 = some o) : Met l yX2_sumRow wsX2_sumRow rm_X2_sumRow (ctP D cB cI cJ cQ N sz [.ref (r0 0), .ref (r1 0), .int x2] (wf [oB (r0 0) 2 [.ref (r0 1), .ref (r0 2), .ref (r0 3), .ref (r0 4), .ref (r0 5)], aI (r0 2) cI 64 w_waves, aJ (r0 5) cJ 8 w_sums, aI (r1 0) cI 64 a1] [])) (ctQv D (wf [oB (r0 0) 2 [.ref (r0 1), .ref (r0 2), .ref (r0 3), .ref (r0 4), .ref (r0 5)], aI (r0 2) cI 64 w_waves, aJ (r0 5) cJ 8 o, aI (r1 0) cI 64 a1] []) (va_A (wf [oB (r0 0) 2 [.ref (r0 1), .ref (r0 2), .ref (r0 3), .ref (r0 4), .ref (r0 5)], aI (r0 2) cI 64 w_waves, aJ (r0 5) cJ 8 w_sums, aI (r1 0) cI 64 a1] []) sz)) 0 0 (va_A (wf [oB (r0 0) 2 [.ref (r0 1), .ref (r0 2), .ref (r0 3), .ref (r0 4), .ref (r0 5)], aI (r0 2) cI 64 w_waves, aJ (r0 5) cJ 8 w_sums, aI (r1 0) cI 64 a1] []) sz) := by
  refine ct_of (cc := cX2_sumRow) (maxL := 7) (ret := none) (own := RX2) (Qp := ctQv D (wf [oB (r0 0) 2 [.ref (r0 1), .ref (r0 2), .ref (r0 3), .ref (r0 4), .ref (r0 5)], aI (r0 2) cI 64 w_waves, aJ (r0 5) cJ 8 o, aI (r1 0) cI 64 a1] [])) (by decide) rfl rfl (Nat.le_of_ble_eq_true rfl) ?_
  intro p e s m args below meth c A hx hb hr hml hown hts hlk hnm hsz hAe E hP0 hD0 hS0 ls0 hl0
  subst hsz
  have hl0 : lv_has ls0 7 [(0, .ref (r0 0)), (1, .ref (r1 0)), (2, .int x2)] := hl0
  obtain ⟨QQ, hQ⟩ : ∃ Q : State → Prop, Q = MQ below (ctQv D (wf [oB (r0 0) 2 [.ref (r0 1), .ref (r0 2), .ref (r0 3), .ref (r0 4), .ref (r0 5)], aI (r0 2) cI 64 w_waves, aJ (r0 5) cJ 8 o, aI (r1 0) cI 64 a1] []) A) args s 0 0 A := ⟨_, rfl⟩
  rw [← hQ]
  unfold f_X2_sumRow at hm0
  refine lv_aload_n hx hb dX2_sumRow_0 rfl (lv_at hl0 0 rfl) ?_
  refine va_get (D := D) (ci := 2) (v := .ref (r0 5)) (C := RX2) (T := TX2) (N := 5) hx hb hts hi_X2_sumRow_2 hown E.1 hP0 0 rfl rfl 4 (by decide) (hts _ (List.mem_of_getElem? (i := 1) rfl)) (fun _ h9 => h9) rfl dX2_sumRow_1 ?_
  refine lv_ldc2 (v := 16384) hx hb hown (hts _ (List.mem_of_getElem? (i := 2) rfl)) dX2_sumRow_4 ?_
  obtain ⟨w_sums_1, hcl2, hm2⟩ := bd1_some hm0; clear hm0
  have sb3 := ctS.mk (n := 4) (k := 0) (pre := [oB (r0 0) 2 [.ref (r0 1), .ref (r0 2), .ref (r0 3), .ref (r0 4), .ref (r0 5)], aI (r0 2) cI 64 w_waves, aJ (r0 5) cJ 8 w_sums, aI (r1 0) cI 64 a1]) (tl := []) [2] [0, 1, 3] [] [] rfl rfl (by decide +kernel) (by decide +kernel)
  refine ct_callv E sb3 hP0 hD0 hS0 (va_runS (As := [.ref (r0 5), .long (16384 : Int64)]) (rest := []) ⟨hx, hb, hml, hown, hts⟩ (c_J7_fill_d0a16 l D cB cI cJ cQ N (fun k => r0 (5 + k)) s.heap.size (16384 : Int64) w_sums (w_sums_1) hcl2) (va_cwS 2 hts gX2_sumRow_J7_fill_d0a16 rfl rfl rfl cdS_J7_fill_d0a16 ⟨Nat.le_of_ble_eq_true rfl, Nat.le_of_ble_eq_true rfl⟩) (ct_preS E sb3 hP0 hD0 hS0) rfl rfl hl0.1 rfl (lv_room (Nat.le_of_ble_eq_true rfl)) dX2_sumRow_7 ⟨Nat.zero_le _, Nat.zero_le _⟩) (fun H4 lc4 hP4 hD4 hS4 => ?_); clear sb3 hcl2
  clear hP0 hD0 hS0
  have hP4 : va_P D vwCl (wf [oB (r0 0) 2 [.ref (r0 1), .ref (r0 2), .ref (r0 3), .ref (r0 4), .ref (r0 5)], aI (r0 2) cI 64 w_waves, aI (r1 0) cI 64 a1, aJ (r0 5) cJ 8 w_sums_1] []) H4 := hP4
  have hD4 : va_D A (wf [oB (r0 0) 2 [.ref (r0 1), .ref (r0 2), .ref (r0 3), .ref (r0 4), .ref (r0 5)], aI (r0 2) cI 64 w_waves, aI (r1 0) cI 64 a1, aJ (r0 5) cJ 8 w_sums_1] []) := hD4
  refine lv_iconst (v := 0) hx hb dX2_sumRow_10 (by decide) ?_
  refine lv_istore_n (lv' := [(3, .int (0 : Int32)), (0, .ref (r0 0)), (1, .ref (r1 0)), (2, .int x2)]) hx hb dX2_sumRow_11 rfl hl0 (by decide) rfl (fun ls5 hl5 => ?_); clear hl0
  obtain ⟨w_sums_52, hlp6, hm53⟩ := bd1_some hm2; clear hm2
  have LP6 : ∀ (n : Nat) (w_sums_7 : Nat → Int64) (v3_8 : Int32) (z6 : (Nat → Int64)) (H9 : Heap) (lc9 : List Loc) (ls9 : Array Slot), f_X2_sumRow_L12 x2 w_waves a1 n w_sums_7 v3_8 = some z6 → va_P D vwCl (wf [oB (r0 0) 2 [.ref (r0 1), .ref (r0 2), .ref (r0 3), .ref (r0 4), .ref (r0 5)], aI (r0 2) cI 64 w_waves, aI (r1 0) cI 64 a1, aJ (r0 5) cJ 8 w_sums_7] []) H9 → va_D A (wf [oB (r0 0) 2 [.ref (r0 1), .ref (r0 2), .ref (r0 3), .ref (r0 4), .ref (r0 5)], aI (r0 2) cI 64 w_waves, aI (r1 0) cI 64 a1, aJ (r0 5) cJ 8 w_sums_7] []) → va_S A s.heap H9 lc9 → lv_has ls9 7 [(0, .ref (r0 0)), (1, .ref (r1 0)), (2, .int x2), (3, .int v3_8)] → (∀ (H : Heap) (lc : List Loc) (ls : Array Slot), va_P D vwCl (wf [oB (r0 0) 2 [.ref (r0 1), .ref (r0 2), .ref (r0 3), .ref (r0 4), .ref (r0 5)], aI (r0 2) cI 64 w_waves, aI (r1 0) cI 64 a1, aJ (r0 5) cJ 8 z6] []) H → va_D A (wf [oB (r0 0) 2 [.ref (r0 1), .ref (r0 2), .ref (r0 3), .ref (r0 4), .ref (r0 5)], aI (r0 2) cI 64 w_waves, aI (r1 0) cI 64 a1, aJ (r0 5) cJ 8 z6] []) → va_S A s.heap H lc → lv_has ls 7 [] → W p l e rm_X2_sumRow s m args below meth c H lc 0 0 QQ (F0 m 81 ls [])) → W p l e rm_X2_sumRow s m args below meth c H9 lc9 0 0 QQ (F0 m 12 ls9 []) := by
    intro n
    induction n with
    | zero =>
      intro w_sums_7 v3_8 z6 H9 lc9 ls9 hm11; simp [f_X2_sumRow_L12] at hm11
    | succ n ih =>
      intro w_sums_7 v3_8 z6 H9 lc9 ls9 hm11 hP9 hD9 hS9 hl9 kx
      rw [f_X2_sumRow_L12] at hm11
      refine lv_iload_n hx hb dX2_sumRow_12 rfl (lv_at hl9 3 rfl) ?_
      refine lv_bipush (v := 8) hx hb dX2_sumRow_13 (by decide) ?_
      refine lv_icmp_ge (tgt := 81) hx hb dX2_sumRow_15 (by decide) (fun hc12 => ?_) (fun hc12 => ?_)
      · have hm13 := bq_t hm11 hc12; clear hm11
        obtain rfl := Option.some.inj hm13
        exact kx _ _ _ hP9 hD9 hS9 (lv_sub hl9 [] rfl)
      · have hm14 := bq_f hm11 hc12; clear hm11
        refine lv_aload_n hx hb dX2_sumRow_18 rfl (lv_at hl9 1 rfl) ?_
        refine lv_iload_n hx hb dX2_sumRow_19 rfl (lv_at hl9 2 rfl) ?_
        refine lv_iload_n hx hb dX2_sumRow_20 rfl (lv_at hl9 3 rfl) ?_
        refine lv_iadd hx hb dX2_sumRow_21 ?_
        obtain ⟨hin15, hm15⟩ := gi_some hm14; clear hm14
        refine va_iald hx hb E.1 hP9 2 0 rfl rfl hin15 dX2_sumRow_22 ?_
        refine lv_i2l hx hb dX2_sumRow_23 rfl ?_
        obtain ⟨v4_16, ev4_16, hm17⟩ := nm_some hm15; clear hm15
        refine ct_topl ev4_16 ?_
        refine lv_lstore (lv' := [(4, .long v4_16), (0, .ref (r0 0)), (1, .ref (r1 0)), (2, .int x2), (3, .int v3_8)]) hx hb dX2_sumRow_24 hl9 (by decide) rfl (fun ls18 hl18 => ?_); clear hl9
        refine lv_lload hx hb dX2_sumRow_26 (lv_at hl18 0 rfl) ?_
        refine lv_lconst (v := 0) hx hb dX2_sumRow_28 (by decide) ?_
        refine W.lcmp hx hb dX2_sumRow_29 ?_
        obtain ⟨k20, ek20, hm20⟩ := jn_some hm17; clear hm17
        have KJ20 : ∀ (w_sums_21 : Nat → Int64) (H22 : Heap) (lc22 : List Loc) (ls22 : Array Slot), k20 w_sums_21 = some z6 → va_P D vwCl (wf [oB (r0 0) 2 [.ref (r0 1), .ref (r0 2), .ref (r0 3), .ref (r0 4), .ref (r0 5)], aI (r0 2) cI 64 w_waves, aI (r1 0) cI 64 a1, aJ (r0 5) cJ 8 w_sums_21] []) H22 → va_D A (wf [oB (r0 0) 2 [.ref (r0 1), .ref (r0 2), .ref (r0 3), .ref (r0 4), .ref (r0 5)], aI (r0 2) cI 64 w_waves, aI (r1 0) cI 64 a1, aJ (r0 5) cJ 8 w_sums_21] []) → va_S A s.heap H22 lc22 → lv_has ls22 7 [(0, .ref (r0 0)), (1, .ref (r1 0)), (2, .int x2), (3, .int v3_8)] → W p l e rm_X2_sumRow s m args below meth c H22 lc22 0 0 QQ (F0 m 75 ls22 []) := by
          intro w_sums_21 H22 lc22 ls22 hm23 hP22 hD22 hS22 hl22
          rw [ek20] at hm23
          obtain ⟨v3_24, ev3_24, hm25⟩ := nm_some hm23; clear hm23
          refine lv_iinc (v := v3_24) (lv' := [(3, .int v3_24), (0, .ref (r0 0)), (1, .ref (r1 0)), (2, .int x2)]) hx hb dX2_sumRow_75 hl22 (k := 3) rfl (by rw [ev3_24]; rfl) (by decide) rfl (fun ls26 hl26 => ?_); clear hl22
          refine lv_goto (tgt := 12) hx hb dX2_sumRow_78 (by decide) ?_
          exact ih w_sums_21 v3_24 _ _ _ _ hm25 hP22 hD22 hS22 (lv_sub hl26 [1, 2, 3, 0] rfl) kx
        refine lv_if_eq (tgt := 75) hx hb dX2_sumRow_30 (by decide) (fun hc27 => ?_) (fun hc27 => ?_)
        · have hm28 := bq_t hm20 hc27; clear hm20
          exact KJ20 w_sums_7 _ _ _ hm28 hP9 hD9 hS9 (lv_sub hl18 [1, 2, 3, 4] rfl)
        · have hm29 := bq_f hm20 hc27; clear hm20
          refine lv_iconst (v := 0) hx hb dX2_sumRow_33 (by decide) ?_
          refine lv_istore (lv' := [(6, .int (0 : Int32)), (4, .long v4_16), (0, .ref (r0 0)), (1, .ref (r1 0)), (2, .int x2), (3, .int v3_8)]) hx hb dX2_sumRow_34 hl18 (by decide) rfl (fun ls30 hl30 => ?_); clear hl18
          obtain ⟨w_sums_49, hlp31, hm50⟩ := bd1_some hm29; clear hm29
          have LP31 : ∀ (n : Nat) (w_sums_32 : Nat → Int64) (v6_33 : Int32) (z31 : (Nat → Int64)) (H34 : Heap) (lc34 : List Loc) (ls34 : Array Slot), f_X2_sumRow_L36 w_waves v3_8 v4_16 n w_sums_32 v6_33 = some z31 → va_P D vwCl (wf [oB (r0 0) 2 [.ref (r0 1), .ref (r0 2), .ref (r0 3), .ref (r0 4), .ref (r0 5)], aI (r0 2) cI 64 w_waves, aI (r1 0) cI 64 a1, aJ (r0 5) cJ 8 w_sums_32] []) H34 → va_D A (wf [oB (r0 0) 2 [.ref (r0 1), .ref (r0 2), .ref (r0 3), .ref (r0 4), .ref (r0 5)], aI (r0 2) cI 64 w_waves, aI (r1 0) cI 64 a1, aJ (r0 5) cJ 8 w_sums_32] []) → va_S A s.heap H34 lc34 → lv_has ls34 7 [(0, .ref (r0 0)), (1, .ref (r1 0)), (2, .int x2), (3, .int v3_8), (4, .long v4_16), (6, .int v6_33)] → (∀ (H : Heap) (lc : List Loc) (ls : Array Slot), va_P D vwCl (wf [oB (r0 0) 2 [.ref (r0 1), .ref (r0 2), .ref (r0 3), .ref (r0 4), .ref (r0 5)], aI (r0 2) cI 64 w_waves, aI (r1 0) cI 64 a1, aJ (r0 5) cJ 8 z31] []) H → va_D A (wf [oB (r0 0) 2 [.ref (r0 1), .ref (r0 2), .ref (r0 3), .ref (r0 4), .ref (r0 5)], aI (r0 2) cI 64 w_waves, aI (r1 0) cI 64 a1, aJ (r0 5) cJ 8 z31] []) → va_S A s.heap H lc → lv_has ls 7 [(0, .ref (r0 0)), (1, .ref (r1 0)), (2, .int x2), (3, .int v3_8)] → W p l e rm_X2_sumRow s m args below meth c H lc 0 0 QQ (F0 m 75 ls [])) → W p l e rm_X2_sumRow s m args below meth c H34 lc34 0 0 QQ (F0 m 36 ls34 []) := by
            intro n
            induction n with
            | zero =>
              intro w_sums_32 v6_33 z31 H34 lc34 ls34 hm36; simp [f_X2_sumRow_L36] at hm36
            | succ n ih =>
              intro w_sums_32 v6_33 z31 H34 lc34 ls34 hm36 hP34 hD34 hS34 hl34 kx
              rw [f_X2_sumRow_L36] at hm36
              refine lv_iload hx hb dX2_sumRow_36 (lv_at hl34 5 rfl) ?_
              refine lv_bipush (v := 8) hx hb dX2_sumRow_38 (by decide) ?_
              refine lv_icmp_ge (tgt := 75) hx hb dX2_sumRow_40 (by decide) (fun hc37 => ?_) (fun hc37 => ?_)
              · have hm38 := bq_t hm36 hc37; clear hm36
                obtain rfl := Option.some.inj hm38
                exact kx _ _ _ hP34 hD34 hS34 (lv_sub hl34 [0, 1, 2, 3] rfl)
              · have hm39 := bq_f hm36 hc37; clear hm36
                refine lv_aload_n hx hb dX2_sumRow_43 rfl (lv_at hl34 0 rfl) ?_
                refine va_get (D := D) (ci := 2) (v := .ref (r0 5)) (C := RX2) (T := TX2) (N := 5) hx hb hts hi_X2_sumRow_2 hown E.1 hP34 0 rfl rfl 4 (by decide) (hts _ (List.mem_of_getElem? (i := 1) rfl)) (fun _ h9 => h9) rfl dX2_sumRow_44 ?_
                refine lv_iload hx hb dX2_sumRow_47 (lv_at hl34 5 rfl) ?_
                refine lv_dup2_11 hx hb dX2_sumRow_49 rfl rfl ?_
                obtain ⟨hin40, hm40⟩ := gi_some hm39; clear hm39
                refine va_lald hx hb E.1 hP34 3 2 rfl rfl hin40 dX2_sumRow_50 ?_
                refine lv_aload_n hx hb dX2_sumRow_51 rfl (lv_at hl34 0 rfl) ?_
                refine va_get (D := D) (ci := 2) (v := .ref (r0 2)) (C := RX2) (T := TX2) (N := 5) hx hb hts hi_X2_sumRow_2 hown E.1 hP34 0 rfl rfl 1 (by decide) (hts _ (List.mem_of_getElem? (i := 3) rfl)) (fun _ h9 => h9) rfl dX2_sumRow_52 ?_
                refine lv_iload hx hb dX2_sumRow_55 (lv_at hl34 5 rfl) ?_
                refine lv_bipush (v := 8) hx hb dX2_sumRow_57 (by decide) ?_
                refine lv_imul hx hb dX2_sumRow_59 ?_
                refine lv_iload_n hx hb dX2_sumRow_60 rfl (lv_at hl34 3 rfl) ?_
                refine lv_iadd hx hb dX2_sumRow_61 ?_
                obtain ⟨hin41, hm41⟩ := gi_some hm40; clear hm40
                refine va_iald hx hb E.1 hP34 1 0 rfl rfl hin41 dX2_sumRow_62 ?_
                refine lv_i2l hx hb dX2_sumRow_63 rfl ?_
                refine lv_lload hx hb dX2_sumRow_64 (lv_at hl34 4 rfl) ?_
                refine lv_lmul hx hb dX2_sumRow_66 ?_
                refine lv_ladd hx hb dX2_sumRow_67 ?_
                obtain ⟨hin42, hm42⟩ := gi_some hm41; clear hm41
                obtain ⟨w_sums_43, ew_sums_43, hm44⟩ := nm_some hm42; clear hm42
                refine ct_last (g := w_sums_43) (ws' := (wf [oB (r0 0) 2 [.ref (r0 1), .ref (r0 2), .ref (r0 3), .ref (r0 4), .ref (r0 5)], aI (r0 2) cI 64 w_waves, aI (r1 0) cI 64 a1, aJ (r0 5) cJ 8 w_sums_43] [])) hx hb E.1 hP34 hD34 hS34 3 2 rfl rfl hin42 ew_sums_43 rfl dX2_sumRow_68 (fun H45 lc45 hP45 hD45 hS45 => ?_)
                clear hP34 hD34 hS34
                obtain ⟨v6_46, ev6_46, hm47⟩ := nm_some hm44; clear hm44
                refine lv_iinc (v := v6_46) (lv' := [(6, .int v6_46), (0, .ref (r0 0)), (1, .ref (r1 0)), (2, .int x2), (3, .int v3_8), (4, .long v4_16)]) hx hb dX2_sumRow_69 hl34 (k := 5) rfl (by rw [ev6_46]; rfl) (by decide) rfl (fun ls48 hl48 => ?_); clear hl34
                refine lv_goto (tgt := 36) hx hb dX2_sumRow_72 (by decide) ?_
                exact ih w_sums_43 v6_46 _ _ _ _ hm47 hP45 hD45 hS45 (lv_sub hl48 [1, 2, 3, 4, 5, 0] rfl) kx
          refine LP31 4000 w_sums_7 (0 : Int32) (w_sums_49) _ _ _ hlp31 hP9 hD9 hS9 (lv_sub hl30 [2, 3, 4, 5, 1, 0] rfl) (fun H51 lc51 ls51 hP51 hD51 hS51 hl51 => ?_); clear LP31 hlp31
          clear hP9 hD9 hS9
          have hl51 : lv_has ls51 7 [(0, .ref (r0 0)), (1, .ref (r1 0)), (2, .int x2), (3, .int v3_8)] := hl51
          have hP51 : va_P D vwCl (wf [oB (r0 0) 2 [.ref (r0 1), .ref (r0 2), .ref (r0 3), .ref (r0 4), .ref (r0 5)], aI (r0 2) cI 64 w_waves, aI (r1 0) cI 64 a1, aJ (r0 5) cJ 8 w_sums_49] []) H51 := hP51
          have hD51 : va_D A (wf [oB (r0 0) 2 [.ref (r0 1), .ref (r0 2), .ref (r0 3), .ref (r0 4), .ref (r0 5)], aI (r0 2) cI 64 w_waves, aI (r1 0) cI 64 a1, aJ (r0 5) cJ 8 w_sums_49] []) := hD51
          exact KJ20 w_sums_49 _ _ _ hm50 hP51 hD51 hS51 (lv_sub hl51 [0, 1, 2, 3] rfl)
  refine LP6 4000 w_sums_1 (0 : Int32) (w_sums_52) _ _ _ hlp6 hP4 hD4 hS4 (lv_sub hl5 [1, 2, 3, 0] rfl) (fun H54 lc54 ls54 hP54 hD54 hS54 hl54 => ?_); clear LP6 hlp6
  clear hP4 hD4 hS4
  have hl54 : lv_has ls54 7 [] := hl54
  have hP54 : va_P D vwCl (wf [oB (r0 0) 2 [.ref (r0 1), .ref (r0 2), .ref (r0 3), .ref (r0 4), .ref (r0 5)], aI (r0 2) cI 64 w_waves, aI (r1 0) cI 64 a1, aJ (r0 5) cJ 8 w_sums_52] []) H54 := hP54
  have hD54 : va_D A (wf [oB (r0 0) 2 [.ref (r0 1), .ref (r0 2), .ref (r0 3), .ref (r0 4), .ref (r0 5)], aI (r0 2) cI 64 w_waves, aI (r1 0) cI 64 a1, aJ (r0 5) cJ 8 w_sums_52] []) := hD54
  obtain ⟨hP55, hD55⟩ := ct_ord (n := 4) (k := 0) [0, 1, 3, 2] [] hP54 hD54 rfl rfl (by decide +kernel) (by decide +kernel)
  have hS55 := hS54
  have hP55 : va_P D vwCl (wf [oB (r0 0) 2 [.ref (r0 1), .ref (r0 2), .ref (r0 3), .ref (r0 4), .ref (r0 5)], aI (r0 2) cI 64 w_waves, aJ (r0 5) cJ 8 w_sums_52, aI (r1 0) cI 64 a1] []) H54 := hP55
  have hD55 : va_D A (wf [oB (r0 0) 2 [.ref (r0 1), .ref (r0 2), .ref (r0 3), .ref (r0 4), .ref (r0 5)], aI (r0 2) cI 64 w_waves, aJ (r0 5) cJ 8 w_sums_52, aI (r1 0) cI 64 a1] []) := hD55
  obtain rfl := Option.some.inj hm53
  rw [hQ]
  exact ct_vret hx hb hr hlk hP55 hD55 hS55 dX2_sumRow_81

def f_X2_sumWaves_L20 (v3_5 : Int32) (w_sums_12 : Nat → Int64) : Nat → (Nat → Int32) → Int32 → Option ((Nat → Int32))
  | 0, _, _ => none
  | n + 1, a2_18, v4_19 =>
  (if (8 : Int32) ≤ v4_19 then
  (some (a2_18))
  else
  (gi v4_19 8 <|
  gi ((v4_19 * (8 : Int32)) + v3_5) 64 <|
  nm (upd a2_18 ((v4_19 * (8 : Int32)) + v3_5).toNatClampNeg (Int64.toInt32 ((w_sums_12 v4_19.toNatClampNeg) >>> (Int32.toInt64 (15 : Int32) &&& (63 : Int64)))) : Nat → Int32) fun a2_28 =>
  nm (v4_19 + (1 : Int32) : Int32) fun v4_31 =>
  f_X2_sumWaves_L20 v3_5 w_sums_12 n a2_28 v4_31))

def f_X2_sumWaves_L2 (w_waves : Nat → Int32) (a1 : Nat → Int32) : Nat → (Nat → Int64) → (Nat → Int32) → Int32 → Option ((Nat → Int64) × (Nat → Int32))
  | 0, _, _, _ => none
  | n + 1, w_sums_3, a2_4, v3_5 =>
  (if (8 : Int32) ≤ v3_5 then
  (some (w_sums_3, a2_4))
  else
  (bd1 (f_X2_sumRow (v3_5 * (8 : Int32)) w_waves w_sums_3 a1) fun w_sums_12 =>
  bd1 (f_X2_sumWaves_L20 v3_5 w_sums_12 4000 a2_4 (0 : Int32)) fun a2_34 =>
  nm (v3_5 + (1 : Int32) : Int32) fun v3_37 =>
  f_X2_sumWaves_L2 w_waves a1 n w_sums_12 a2_34 v3_37))

def f_X2_sumWaves (w_waves : Nat → Int32) (w_sums : Nat → Int64) (a1 : Nat → Int32) (a2 : Nat → Int32) : Option ((Nat → Int64) × (Nat → Int32)) :=
  bd2 (f_X2_sumWaves_L2 w_waves a1 4000 w_sums a2 (0 : Int32)) fun w_sums_41 a2_42 =>
  some (w_sums_41, a2_42)

abbrev rm_X2_sumWaves : Room := { frames := 2, cells := 0, slots := 0, locals := 50 }

theorem cdS_X2_sumWaves : yX2_sumWaves.cls ≠ "java/lang/invoke/MethodHandle" ∧ yX2_sumWaves.cls ≠ "java/lang/invoke/VarHandle" ∧ (parseMethodDescriptor yX2_sumWaves.desc).map (fun d => d.parameters.length) = some 2 := by decide +kernel

theorem cdV_X2_sumWaves : yX2_sumWaves.cls = RX2 ∧ yX2_sumWaves.cls ≠ "java/lang/invoke/MethodHandle" ∧ yX2_sumWaves.cls ≠ "java/lang/invoke/VarHandle" ∧ (parseMethodDescriptor yX2_sumWaves.desc).map (fun d => d.parameters.length) = some 2 := ⟨rfl, cdS_X2_sumWaves⟩

theorem hi_X2_sumWaves_2 : ∀ w ∈ u_ws RX2 TX2 5, w ∈ wsX2_sumWaves := fun _ h => List.mem_cons_of_mem _ (List.mem_append_right _ h)

set_option maxHeartbeats 40000000 in
set_option maxRecDepth 100000 in
theorem c_X2_sumWaves (l : Launch) (D : va_G) (cB cI cJ cQ : ClassId) (N : Nat) (r0 : Nat → Nat) (r1 : Nat → Nat) (r2 : Nat → Nat) (sz : Nat) (w_waves : Nat → Int32) (w_sums : Nat → Int64) (a1 : Nat → Int32) (a2 : Nat → Int32) (o : (Nat → Int64) × (Nat → Int32)) (hm0 : f_X2_sumWaves w_waves w_sums a1 a2 = some o) : Met l yX2_sumWaves wsX2_sumWaves rm_X2_sumWaves (ctP D cB cI cJ cQ N sz [.ref (r0 0), .ref (r1 0), .ref (r2 0)] (wf [oB (r0 0) 2 [.ref (r0 1), .ref (r0 2), .ref (r0 3), .ref (r0 4), .ref (r0 5)], aI (r0 2) cI 64 w_waves, aJ (r0 5) cJ 8 w_sums, aI (r1 0) cI 64 a1, aI (r2 0) cI 64 a2] [])) (ctQv D (wf [oB (r0 0) 2 [.ref (r0 1), .ref (r0 2), .ref (r0 3), .ref (r0 4), .ref (r0 5)], aI (r0 2) cI 64 w_waves, aJ (r0 5) cJ 8 (o.1), aI (r1 0) cI 64 a1, aI (r2 0) cI 64 (o.2)] []) (va_A (wf [oB (r0 0) 2 [.ref (r0 1), .ref (r0 2), .ref (r0 3), .ref (r0 4), .ref (r0 5)], aI (r0 2) cI 64 w_waves, aJ (r0 5) cJ 8 w_sums, aI (r1 0) cI 64 a1, aI (r2 0) cI 64 a2] []) sz)) 0 0 (va_A (wf [oB (r0 0) 2 [.ref (r0 1), .ref (r0 2), .ref (r0 3), .ref (r0 4), .ref (r0 5)], aI (r0 2) cI 64 w_waves, aJ (r0 5) cJ 8 w_sums, aI (r1 0) cI 64 a1, aI (r2 0) cI 64 a2] []) sz) := by
  refine ct_of (cc := cX2_sumWaves) (maxL := 5) (ret := none) (own := RX2) (Qp := ctQv D (wf [oB (r0 0) 2 [.ref (r0 1), .ref (r0 2), .ref (r0 3), .ref (r0 4), .ref (r0 5)], aI (r0 2) cI 64 w_waves, aJ (r0 5) cJ 8 (o.1), aI (r1 0) cI 64 a1, aI (r2 0) cI 64 (o.2)] [])) (by decide) rfl rfl (Nat.le_of_ble_eq_true rfl) ?_
  intro p e s m args below meth c A hx hb hr hml hown hts hlk hnm hsz hAe E hP0 hD0 hS0 ls0 hl0
  subst hsz
  have hl0 : lv_has ls0 5 [(0, .ref (r0 0)), (1, .ref (r1 0)), (2, .ref (r2 0))] := hl0
  obtain ⟨QQ, hQ⟩ : ∃ Q : State → Prop, Q = MQ below (ctQv D (wf [oB (r0 0) 2 [.ref (r0 1), .ref (r0 2), .ref (r0 3), .ref (r0 4), .ref (r0 5)], aI (r0 2) cI 64 w_waves, aJ (r0 5) cJ 8 (o.1), aI (r1 0) cI 64 a1, aI (r2 0) cI 64 (o.2)] []) A) args s 0 0 A := ⟨_, rfl⟩
  rw [← hQ]
  unfold f_X2_sumWaves at hm0
  refine lv_iconst (v := 0) hx hb dX2_sumWaves_0 (by decide) ?_
  refine lv_istore_n (lv' := [(3, .int (0 : Int32)), (0, .ref (r0 0)), (1, .ref (r1 0)), (2, .ref (r2 0))]) hx hb dX2_sumWaves_1 rfl hl0 (by decide) rfl (fun ls1 hl1 => ?_); clear hl0
  obtain ⟨w_sums_41, a2_42, hlp2, hm43⟩ := bd2_some hm0; clear hm0
  have LP2 : ∀ (n : Nat) (w_sums_3 : Nat → Int64) (a2_4 : Nat → Int32) (v3_5 : Int32) (z2 : (Nat → Int64) × (Nat → Int32)) (H6 : Heap) (lc6 : List Loc) (ls6 : Array Slot), f_X2_sumWaves_L2 w_waves a1 n w_sums_3 a2_4 v3_5 = some z2 → va_P D vwCl (wf [oB (r0 0) 2 [.ref (r0 1), .ref (r0 2), .ref (r0 3), .ref (r0 4), .ref (r0 5)], aI (r0 2) cI 64 w_waves, aJ (r0 5) cJ 8 w_sums_3, aI (r1 0) cI 64 a1, aI (r2 0) cI 64 a2_4] []) H6 → va_D A (wf [oB (r0 0) 2 [.ref (r0 1), .ref (r0 2), .ref (r0 3), .ref (r0 4), .ref (r0 5)], aI (r0 2) cI 64 w_waves, aJ (r0 5) cJ 8 w_sums_3, aI (r1 0) cI 64 a1, aI (r2 0) cI 64 a2_4] []) → va_S A s.heap H6 lc6 → lv_has ls6 5 [(0, .ref (r0 0)), (1, .ref (r1 0)), (2, .ref (r2 0)), (3, .int v3_5)] → (∀ (H : Heap) (lc : List Loc) (ls : Array Slot), va_P D vwCl (wf [oB (r0 0) 2 [.ref (r0 1), .ref (r0 2), .ref (r0 3), .ref (r0 4), .ref (r0 5)], aI (r0 2) cI 64 w_waves, aJ (r0 5) cJ 8 (z2.1), aI (r1 0) cI 64 a1, aI (r2 0) cI 64 (z2.2)] []) H → va_D A (wf [oB (r0 0) 2 [.ref (r0 1), .ref (r0 2), .ref (r0 3), .ref (r0 4), .ref (r0 5)], aI (r0 2) cI 64 w_waves, aJ (r0 5) cJ 8 (z2.1), aI (r1 0) cI 64 a1, aI (r2 0) cI 64 (z2.2)] []) → va_S A s.heap H lc → lv_has ls 5 [] → W p l e rm_X2_sumWaves s m args below meth c H lc 0 0 QQ (F0 m 59 ls [])) → W p l e rm_X2_sumWaves s m args below meth c H6 lc6 0 0 QQ (F0 m 2 ls6 []) := by
    intro n
    induction n with
    | zero =>
      intro w_sums_3 a2_4 v3_5 z2 H6 lc6 ls6 hm8; simp [f_X2_sumWaves_L2] at hm8
    | succ n ih =>
      intro w_sums_3 a2_4 v3_5 z2 H6 lc6 ls6 hm8 hP6 hD6 hS6 hl6 kx
      rw [f_X2_sumWaves_L2] at hm8
      refine lv_iload_n hx hb dX2_sumWaves_2 rfl (lv_at hl6 3 rfl) ?_
      refine lv_bipush (v := 8) hx hb dX2_sumWaves_3 (by decide) ?_
      refine lv_icmp_ge (tgt := 59) hx hb dX2_sumWaves_5 (by decide) (fun hc9 => ?_) (fun hc9 => ?_)
      · have hm10 := bq_t hm8 hc9; clear hm8
        obtain rfl := Option.some.inj hm10
        exact kx _ _ _ hP6 hD6 hS6 (lv_sub hl6 [] rfl)
      · have hm11 := bq_f hm8 hc9; clear hm8
        refine lv_aload_n hx hb dX2_sumWaves_8 rfl (lv_at hl6 0 rfl) ?_
        refine lv_aload_n hx hb dX2_sumWaves_9 rfl (lv_at hl6 1 rfl) ?_
        refine lv_iload_n hx hb dX2_sumWaves_10 rfl (lv_at hl6 3 rfl) ?_
        refine lv_bipush (v := 8) hx hb dX2_sumWaves_11 (by decide) ?_
        refine lv_imul hx hb dX2_sumWaves_13 ?_
        obtain ⟨w_sums_12, hcl13, hm13⟩ := bd1_some hm11; clear hm11
        have sb14 := ctS.mk (n := 5) (k := 0) (pre := [oB (r0 0) 2 [.ref (r0 1), .ref (r0 2), .ref (r0 3), .ref (r0 4), .ref (r0 5)], aI (r0 2) cI 64 w_waves, aJ (r0 5) cJ 8 w_sums_3, aI (r1 0) cI 64 a1, aI (r2 0) cI 64 a2_4]) (tl := []) [0, 1, 2, 3] [4] [] [] rfl rfl (by decide +kernel) (by decide +kernel)
        refine ct_callv E sb14 hP6 hD6 hS6 (va_runV (As := [.ref (r1 0), .int (v3_5 * (8 : Int32))]) (rest := []) ⟨hx, hb, hml, hown, hts⟩ (c_X2_sumRow l D cB cI cJ cQ N r0 r1 H6.size (v3_5 * (8 : Int32)) w_waves w_sums_3 a1 (w_sums_12) hcl13) (cwV 2 hts gX2_sumWaves_X2_sumRow rfl rfl rfl cdV_X2_sumRow ⟨Nat.le_of_ble_eq_true rfl, Nat.le_of_ble_eq_true rfl⟩) (ct_preV (q0 := 0) (ci := 2) E sb14 hP6 hD6 hS6 rfl rfl) rfl rfl hl6.1 rfl (lv_room (Nat.le_of_ble_eq_true rfl)) dX2_sumWaves_14 ⟨Nat.zero_le _, Nat.zero_le _⟩) (fun H15 lc15 hP15 hD15 hS15 => ?_); clear sb14 hcl13
        clear hP6 hD6 hS6
        have hP15 : va_P D vwCl (wf [aI (r2 0) cI 64 a2_4, oB (r0 0) 2 [.ref (r0 1), .ref (r0 2), .ref (r0 3), .ref (r0 4), .ref (r0 5)], aI (r0 2) cI 64 w_waves, aJ (r0 5) cJ 8 w_sums_12, aI (r1 0) cI 64 a1] []) H15 := hP15
        have hD15 : va_D A (wf [aI (r2 0) cI 64 a2_4, oB (r0 0) 2 [.ref (r0 1), .ref (r0 2), .ref (r0 3), .ref (r0 4), .ref (r0 5)], aI (r0 2) cI 64 w_waves, aJ (r0 5) cJ 8 w_sums_12, aI (r1 0) cI 64 a1] []) := hD15
        refine lv_iconst (v := 0) hx hb dX2_sumWaves_17 (by decide) ?_
        refine lv_istore (lv' := [(4, .int (0 : Int32)), (0, .ref (r0 0)), (1, .ref (r1 0)), (2, .ref (r2 0)), (3, .int v3_5)]) hx hb dX2_sumWaves_18 hl6 (by decide) rfl (fun ls16 hl16 => ?_); clear hl6
        obtain ⟨a2_34, hlp17, hm35⟩ := bd1_some hm13; clear hm13
        have LP17 : ∀ (n : Nat) (a2_18 : Nat → Int32) (v4_19 : Int32) (z17 : (Nat → Int32)) (H20 : Heap) (lc20 : List Loc) (ls20 : Array Slot), f_X2_sumWaves_L20 v3_5 w_sums_12 n a2_18 v4_19 = some z17 → va_P D vwCl (wf [aI (r2 0) cI 64 a2_18, oB (r0 0) 2 [.ref (r0 1), .ref (r0 2), .ref (r0 3), .ref (r0 4), .ref (r0 5)], aI (r0 2) cI 64 w_waves, aJ (r0 5) cJ 8 w_sums_12, aI (r1 0) cI 64 a1] []) H20 → va_D A (wf [aI (r2 0) cI 64 a2_18, oB (r0 0) 2 [.ref (r0 1), .ref (r0 2), .ref (r0 3), .ref (r0 4), .ref (r0 5)], aI (r0 2) cI 64 w_waves, aJ (r0 5) cJ 8 w_sums_12, aI (r1 0) cI 64 a1] []) → va_S A s.heap H20 lc20 → lv_has ls20 5 [(0, .ref (r0 0)), (1, .ref (r1 0)), (2, .ref (r2 0)), (3, .int v3_5), (4, .int v4_19)] → (∀ (H : Heap) (lc : List Loc) (ls : Array Slot), va_P D vwCl (wf [aI (r2 0) cI 64 z17, oB (r0 0) 2 [.ref (r0 1), .ref (r0 2), .ref (r0 3), .ref (r0 4), .ref (r0 5)], aI (r0 2) cI 64 w_waves, aJ (r0 5) cJ 8 w_sums_12, aI (r1 0) cI 64 a1] []) H → va_D A (wf [aI (r2 0) cI 64 z17, oB (r0 0) 2 [.ref (r0 1), .ref (r0 2), .ref (r0 3), .ref (r0 4), .ref (r0 5)], aI (r0 2) cI 64 w_waves, aJ (r0 5) cJ 8 w_sums_12, aI (r1 0) cI 64 a1] []) → va_S A s.heap H lc → lv_has ls 5 [(0, .ref (r0 0)), (1, .ref (r1 0)), (2, .ref (r2 0)), (3, .int v3_5)] → W p l e rm_X2_sumWaves s m args below meth c H lc 0 0 QQ (F0 m 53 ls [])) → W p l e rm_X2_sumWaves s m args below meth c H20 lc20 0 0 QQ (F0 m 20 ls20 []) := by
          intro n
          induction n with
          | zero =>
            intro a2_18 v4_19 z17 H20 lc20 ls20 hm22; simp [f_X2_sumWaves_L20] at hm22
          | succ n ih =>
            intro a2_18 v4_19 z17 H20 lc20 ls20 hm22 hP20 hD20 hS20 hl20 kx
            rw [f_X2_sumWaves_L20] at hm22
            refine lv_iload hx hb dX2_sumWaves_20 (lv_at hl20 4 rfl) ?_
            refine lv_bipush (v := 8) hx hb dX2_sumWaves_22 (by decide) ?_
            refine lv_icmp_ge (tgt := 53) hx hb dX2_sumWaves_24 (by decide) (fun hc23 => ?_) (fun hc23 => ?_)
            · have hm24 := bq_t hm22 hc23; clear hm22
              obtain rfl := Option.some.inj hm24
              exact kx _ _ _ hP20 hD20 hS20 (lv_sub hl20 [0, 1, 2, 3] rfl)
            · have hm25 := bq_f hm22 hc23; clear hm22
              refine lv_aload_n hx hb dX2_sumWaves_27 rfl (lv_at hl20 2 rfl) ?_
              refine lv_iload hx hb dX2_sumWaves_28 (lv_at hl20 4 rfl) ?_
              refine lv_bipush (v := 8) hx hb dX2_sumWaves_30 (by decide) ?_
              refine lv_imul hx hb dX2_sumWaves_32 ?_
              refine lv_iload_n hx hb dX2_sumWaves_33 rfl (lv_at hl20 3 rfl) ?_
              refine lv_iadd hx hb dX2_sumWaves_34 ?_
              refine lv_aload_n hx hb dX2_sumWaves_35 rfl (lv_at hl20 0 rfl) ?_
              refine va_get (D := D) (ci := 2) (v := .ref (r0 5)) (C := RX2) (T := TX2) (N := 5) hx hb hts hi_X2_sumWaves_2 hown E.1 hP20 1 rfl rfl 4 (by decide) (hts _ (List.mem_of_getElem? (i := 1) rfl)) (fun _ h9 => h9) rfl dX2_sumWaves_36 ?_
              refine lv_iload hx hb dX2_sumWaves_39 (lv_at hl20 4 rfl) ?_
              obtain ⟨hin26, hm26⟩ := gi_some hm25; clear hm25
              refine va_lald hx hb E.1 hP20 3 2 rfl rfl hin26 dX2_sumWaves_41 ?_
              refine lv_bipush (v := 15) hx hb dX2_sumWaves_42 (by decide) ?_
              refine lv_lshr hx hb dX2_sumWaves_44 rfl ?_
              refine lv_l2i hx hb dX2_sumWaves_45 rfl ?_
              obtain ⟨hin27, hm27⟩ := gi_some hm26; clear hm26
              obtain ⟨a2_28, ea2_28, hm29⟩ := nm_some hm27; clear hm27
              refine ct_iast (g := a2_28) (ws' := (wf [aI (r2 0) cI 64 a2_28, oB (r0 0) 2 [.ref (r0 1), .ref (r0 2), .ref (r0 3), .ref (r0 4), .ref (r0 5)], aI (r0 2) cI 64 w_waves, aJ (r0 5) cJ 8 w_sums_12, aI (r1 0) cI 64 a1] [])) hx hb E.1 hP20 hD20 hS20 0 0 rfl rfl hin27 ea2_28 rfl dX2_sumWaves_46 (fun H30 lc30 hP30 hD30 hS30 => ?_)
              clear hP20 hD20 hS20
              obtain ⟨v4_31, ev4_31, hm32⟩ := nm_some hm29; clear hm29
              refine lv_iinc (v := v4_31) (lv' := [(4, .int v4_31), (0, .ref (r0 0)), (1, .ref (r1 0)), (2, .ref (r2 0)), (3, .int v3_5)]) hx hb dX2_sumWaves_47 hl20 (k := 4) rfl (by rw [ev4_31]; rfl) (by decide) rfl (fun ls33 hl33 => ?_); clear hl20
              refine lv_goto (tgt := 20) hx hb dX2_sumWaves_50 (by decide) ?_
              exact ih a2_28 v4_31 _ _ _ _ hm32 hP30 hD30 hS30 (lv_sub hl33 [1, 2, 3, 4, 0] rfl) kx
        refine LP17 4000 a2_4 (0 : Int32) (a2_34) _ _ _ hlp17 hP15 hD15 hS15 (lv_sub hl16 [1, 2, 3, 4, 0] rfl) (fun H36 lc36 ls36 hP36 hD36 hS36 hl36 => ?_); clear LP17 hlp17
        clear hP15 hD15 hS15
        have hl36 : lv_has ls36 5 [(0, .ref (r0 0)), (1, .ref (r1 0)), (2, .ref (r2 0)), (3, .int v3_5)] := hl36
        have hP36 : va_P D vwCl (wf [aI (r2 0) cI 64 a2_34, oB (r0 0) 2 [.ref (r0 1), .ref (r0 2), .ref (r0 3), .ref (r0 4), .ref (r0 5)], aI (r0 2) cI 64 w_waves, aJ (r0 5) cJ 8 w_sums_12, aI (r1 0) cI 64 a1] []) H36 := hP36
        have hD36 : va_D A (wf [aI (r2 0) cI 64 a2_34, oB (r0 0) 2 [.ref (r0 1), .ref (r0 2), .ref (r0 3), .ref (r0 4), .ref (r0 5)], aI (r0 2) cI 64 w_waves, aJ (r0 5) cJ 8 w_sums_12, aI (r1 0) cI 64 a1] []) := hD36
        obtain ⟨v3_37, ev3_37, hm38⟩ := nm_some hm35; clear hm35
        refine lv_iinc (v := v3_37) (lv' := [(3, .int v3_37), (0, .ref (r0 0)), (1, .ref (r1 0)), (2, .ref (r2 0))]) hx hb dX2_sumWaves_53 hl36 (k := 3) rfl (by rw [ev3_37]; rfl) (by decide) rfl (fun ls39 hl39 => ?_); clear hl36
        refine lv_goto (tgt := 2) hx hb dX2_sumWaves_56 (by decide) ?_
        obtain ⟨hP40, hD40⟩ := ct_ord (n := 5) (k := 0) [1, 2, 3, 4, 0] [] hP36 hD36 rfl rfl (by decide +kernel) (by decide +kernel)
        have hS40 := hS36
        have hP40 : va_P D vwCl (wf [oB (r0 0) 2 [.ref (r0 1), .ref (r0 2), .ref (r0 3), .ref (r0 4), .ref (r0 5)], aI (r0 2) cI 64 w_waves, aJ (r0 5) cJ 8 w_sums_12, aI (r1 0) cI 64 a1, aI (r2 0) cI 64 a2_34] []) H36 := hP40
        have hD40 : va_D A (wf [oB (r0 0) 2 [.ref (r0 1), .ref (r0 2), .ref (r0 3), .ref (r0 4), .ref (r0 5)], aI (r0 2) cI 64 w_waves, aJ (r0 5) cJ 8 w_sums_12, aI (r1 0) cI 64 a1, aI (r2 0) cI 64 a2_34] []) := hD40
        exact ih w_sums_12 a2_34 v3_37 _ _ _ _ hm38 hP40 hD40 hS40 (lv_sub hl39 [1, 2, 3, 0] rfl) kx
  refine LP2 4000 w_sums a2 (0 : Int32) (w_sums_41, a2_42) _ _ _ hlp2 hP0 hD0 hS0 (lv_sub hl1 [1, 2, 3, 0] rfl) (fun H44 lc44 ls44 hP44 hD44 hS44 hl44 => ?_); clear LP2 hlp2
  clear hP0 hD0 hS0
  have hl44 : lv_has ls44 5 [] := hl44
  have hP44 : va_P D vwCl (wf [oB (r0 0) 2 [.ref (r0 1), .ref (r0 2), .ref (r0 3), .ref (r0 4), .ref (r0 5)], aI (r0 2) cI 64 w_waves, aJ (r0 5) cJ 8 w_sums_41, aI (r1 0) cI 64 a1, aI (r2 0) cI 64 a2_42] []) H44 := hP44
  have hD44 : va_D A (wf [oB (r0 0) 2 [.ref (r0 1), .ref (r0 2), .ref (r0 3), .ref (r0 4), .ref (r0 5)], aI (r0 2) cI 64 w_waves, aJ (r0 5) cJ 8 w_sums_41, aI (r1 0) cI 64 a1, aI (r2 0) cI 64 a2_42] []) := hD44
  obtain rfl := Option.some.inj hm43
  rw [hQ]
  exact ct_vret hx hb hr hlk hP44 hD44 hS44 dX2_sumWaves_59

def f_X2_makeAdded_L3 (x3 : Int32) (w_spots : Nat → Int32) (f_scale : Int32) (h_scales : Nat → Int32) (h_steps : Nat → Int32) (f_grid : Nat → Nat → Int32) : Nat → (Nat → Int32) → Int32 → Option ((Nat → Int32))
  | 0, _, _ => none
  | n + 1, w_square_3, v4_4 =>
  (if (64 : Int32) ≤ v4_4 then
  (some (w_square_3))
  else
  (bd1 (f_X0_number x3 v4_4 f_grid) fun y_11 =>
  bd1 (f_X0_scale f_scale) fun y_15 =>
  bd1 (f_X1_factor y_15 v4_4 h_scales h_steps) fun y_19 =>
  nm ((y_11 * y_19) : Int32) fun v5_23 =>
  gi v4_4 64 <|
  bd1 (f_X6_bring v5_23 (-32768 : Int32) (32767 : Int32)) fun y_27 =>
  gi (w_spots v4_4.toNatClampNeg) 64 <|
  nm (upd w_square_3 (w_spots v4_4.toNatClampNeg).toNatClampNeg y_27 : Nat → Int32) fun w_square_32 =>
  nm (v4_4 + (1 : Int32) : Int32) fun v4_35 =>
  f_X2_makeAdded_L3 x3 w_spots f_scale h_scales h_steps f_grid n w_square_32 v4_35))

def f_X2_makeAdded (x3 : Int32) (w_spots : Nat → Int32) (w_waves : Nat → Int32) (w_square : Nat → Int32) (w_halfway : Nat → Int32) (w_sums : Nat → Int64) (f_scale : Int32) (f_grid : Nat → Nat → Int32) (h_scales : Nat → Int32) (h_steps : Nat → Int32) : Option ((Nat → Int32) × (Nat → Int32) × (Nat → Int64)) :=
  bd1 (f_X2_makeAdded_L3 x3 w_spots f_scale h_scales h_steps f_grid 4000 w_square (0 : Int32)) fun w_square_39 =>
  bd2 (f_X2_sumWaves w_waves w_sums w_square_39 w_halfway) fun w_sums_42 w_halfway_43 =>
  bd2 (f_X2_sumWaves w_waves w_sums_42 w_halfway_43 w_square_39) fun w_sums_47 w_square_48 =>
  some (w_square_48, w_halfway_43, w_sums_47)

abbrev rm_X2_makeAdded : Room := { frames := 3, cells := 0, slots := 0, locals := 104 }

theorem cdS_X2_makeAdded : yX2_makeAdded.cls ≠ "java/lang/invoke/MethodHandle" ∧ yX2_makeAdded.cls ≠ "java/lang/invoke/VarHandle" ∧ (parseMethodDescriptor yX2_makeAdded.desc).map (fun d => d.parameters.length) = some 3 := by decide +kernel

theorem cdV_X2_makeAdded : yX2_makeAdded.cls = RX2 ∧ yX2_makeAdded.cls ≠ "java/lang/invoke/MethodHandle" ∧ yX2_makeAdded.cls ≠ "java/lang/invoke/VarHandle" ∧ (parseMethodDescriptor yX2_makeAdded.desc).map (fun d => d.parameters.length) = some 3 := ⟨rfl, cdS_X2_makeAdded⟩

theorem hi_X2_makeAdded_2 : ∀ w ∈ u_ws RX2 TX2 5, w ∈ wsX2_makeAdded := fun _ h => List.mem_cons_of_mem _ (List.mem_append_left _ (List.mem_append_left _ (List.mem_append_right _ h)))

set_option maxHeartbeats 40000000 in
set_option maxRecDepth 100000 in
theorem c_X2_makeAdded (l : Launch) (D : va_G) (cB cI cJ cQ : ClassId) (N : Nat) (r0 : Nat → Nat) (r1 : Nat → Nat) (r2 : Nat → Nat) (sz : Nat) (x3 : Int32) (w_spots : Nat → Int32) (w_waves : Nat → Int32) (w_square : Nat → Int32) (w_halfway : Nat → Int32) (w_sums : Nat → Int64) (f_columns : Int32) (f_rows : Int32) (f_scale : Int32) (f_toEnd : Int32) (f_between : Int32) (f_kept : Int32) (h_columns : Int32) (h_rows : Int32) (h_limit : Int32) (h_scales : Nat → Int32) (h_steps : Nat → Int32) (f_grid : Nat → Nat → Int32) (o : (Nat → Int32) × (Nat → Int32) × (Nat → Int64)) (hm0 : f_X2_makeAdded x3 w_spots w_waves w_square w_halfway w_sums f_scale f_grid h_scales h_steps = some o) : Met l yX2_makeAdded wsX2_makeAdded rm_X2_makeAdded (ctP D cB cI cJ cQ N sz [.ref (r0 0), .ref (r1 0), .ref (r2 0), .int x3] (wf [oB (r0 0) 2 [.ref (r0 1), .ref (r0 2), .ref (r0 3), .ref (r0 4), .ref (r0 5)], aI (r0 1) cI 64 w_spots, aI (r0 2) cI 64 w_waves, aI (r0 3) cI 64 w_square, aI (r0 4) cI 64 w_halfway, aJ (r0 5) cJ 8 w_sums, oB (r1 0) 0 [.ref (r1 1), .ref (r1 2), .ref (r1 3), .ref (r1 4), .ref (r1 5), .ref (r1 6), .int f_columns, .int f_rows, .int f_scale, .int f_toEnd, .int f_between, .int f_kept], aQ (r1 4) cQ r1, oB (r2 0) 1 [.ref (r2 1), .ref (r2 2), .ref (r2 3), .ref (r2 5), .ref (r2 7), .int h_columns, .int h_rows, .int h_limit], aI (r2 1) cI 8 h_scales, aI (r2 2) cI 16 h_steps] [rowsW cI r1 f_grid])) (ctQv D (wf [oB (r0 0) 2 [.ref (r0 1), .ref (r0 2), .ref (r0 3), .ref (r0 4), .ref (r0 5)], aI (r0 1) cI 64 w_spots, aI (r0 2) cI 64 w_waves, aI (r0 3) cI 64 (o.1), aI (r0 4) cI 64 (o.2.1), aJ (r0 5) cJ 8 (o.2.2), oB (r1 0) 0 [.ref (r1 1), .ref (r1 2), .ref (r1 3), .ref (r1 4), .ref (r1 5), .ref (r1 6), .int f_columns, .int f_rows, .int f_scale, .int f_toEnd, .int f_between, .int f_kept], aQ (r1 4) cQ r1, oB (r2 0) 1 [.ref (r2 1), .ref (r2 2), .ref (r2 3), .ref (r2 5), .ref (r2 7), .int h_columns, .int h_rows, .int h_limit], aI (r2 1) cI 8 h_scales, aI (r2 2) cI 16 h_steps] [rowsW cI r1 f_grid]) (va_A (wf [oB (r0 0) 2 [.ref (r0 1), .ref (r0 2), .ref (r0 3), .ref (r0 4), .ref (r0 5)], aI (r0 1) cI 64 w_spots, aI (r0 2) cI 64 w_waves, aI (r0 3) cI 64 w_square, aI (r0 4) cI 64 w_halfway, aJ (r0 5) cJ 8 w_sums, oB (r1 0) 0 [.ref (r1 1), .ref (r1 2), .ref (r1 3), .ref (r1 4), .ref (r1 5), .ref (r1 6), .int f_columns, .int f_rows, .int f_scale, .int f_toEnd, .int f_between, .int f_kept], aQ (r1 4) cQ r1, oB (r2 0) 1 [.ref (r2 1), .ref (r2 2), .ref (r2 3), .ref (r2 5), .ref (r2 7), .int h_columns, .int h_rows, .int h_limit], aI (r2 1) cI 8 h_scales, aI (r2 2) cI 16 h_steps] [rowsW cI r1 f_grid]) sz)) 0 0 (va_A (wf [oB (r0 0) 2 [.ref (r0 1), .ref (r0 2), .ref (r0 3), .ref (r0 4), .ref (r0 5)], aI (r0 1) cI 64 w_spots, aI (r0 2) cI 64 w_waves, aI (r0 3) cI 64 w_square, aI (r0 4) cI 64 w_halfway, aJ (r0 5) cJ 8 w_sums, oB (r1 0) 0 [.ref (r1 1), .ref (r1 2), .ref (r1 3), .ref (r1 4), .ref (r1 5), .ref (r1 6), .int f_columns, .int f_rows, .int f_scale, .int f_toEnd, .int f_between, .int f_kept], aQ (r1 4) cQ r1, oB (r2 0) 1 [.ref (r2 1), .ref (r2 2), .ref (r2 3), .ref (r2 5), .ref (r2 7), .int h_columns, .int h_rows, .int h_limit], aI (r2 1) cI 8 h_scales, aI (r2 2) cI 16 h_steps] [rowsW cI r1 f_grid]) sz) := by
  refine ct_of (cc := cX2_makeAdded) (maxL := 6) (ret := none) (own := RX2) (Qp := ctQv D (wf [oB (r0 0) 2 [.ref (r0 1), .ref (r0 2), .ref (r0 3), .ref (r0 4), .ref (r0 5)], aI (r0 1) cI 64 w_spots, aI (r0 2) cI 64 w_waves, aI (r0 3) cI 64 (o.1), aI (r0 4) cI 64 (o.2.1), aJ (r0 5) cJ 8 (o.2.2), oB (r1 0) 0 [.ref (r1 1), .ref (r1 2), .ref (r1 3), .ref (r1 4), .ref (r1 5), .ref (r1 6), .int f_columns, .int f_rows, .int f_scale, .int f_toEnd, .int f_between, .int f_kept], aQ (r1 4) cQ r1, oB (r2 0) 1 [.ref (r2 1), .ref (r2 2), .ref (r2 3), .ref (r2 5), .ref (r2 7), .int h_columns, .int h_rows, .int h_limit], aI (r2 1) cI 8 h_scales, aI (r2 2) cI 16 h_steps] [rowsW cI r1 f_grid])) (by decide) rfl rfl (Nat.le_of_ble_eq_true rfl) ?_
  intro p e s m args below meth c A hx hb hr hml hown hts hlk hnm hsz hAe E hP0 hD0 hS0 ls0 hl0
  subst hsz
  have hl0 : lv_has ls0 6 [(0, .ref (r0 0)), (1, .ref (r1 0)), (2, .ref (r2 0)), (3, .int x3)] := hl0
  obtain ⟨QQ, hQ⟩ : ∃ Q : State → Prop, Q = MQ below (ctQv D (wf [oB (r0 0) 2 [.ref (r0 1), .ref (r0 2), .ref (r0 3), .ref (r0 4), .ref (r0 5)], aI (r0 1) cI 64 w_spots, aI (r0 2) cI 64 w_waves, aI (r0 3) cI 64 (o.1), aI (r0 4) cI 64 (o.2.1), aJ (r0 5) cJ 8 (o.2.2), oB (r1 0) 0 [.ref (r1 1), .ref (r1 2), .ref (r1 3), .ref (r1 4), .ref (r1 5), .ref (r1 6), .int f_columns, .int f_rows, .int f_scale, .int f_toEnd, .int f_between, .int f_kept], aQ (r1 4) cQ r1, oB (r2 0) 1 [.ref (r2 1), .ref (r2 2), .ref (r2 3), .ref (r2 5), .ref (r2 7), .int h_columns, .int h_rows, .int h_limit], aI (r2 1) cI 8 h_scales, aI (r2 2) cI 16 h_steps] [rowsW cI r1 f_grid]) A) args s 0 0 A := ⟨_, rfl⟩
  rw [← hQ]
  unfold f_X2_makeAdded at hm0
  refine lv_iconst (v := 0) hx hb dX2_makeAdded_0 (by decide) ?_
  refine lv_istore (lv' := [(4, .int (0 : Int32)), (0, .ref (r0 0)), (1, .ref (r1 0)), (2, .ref (r2 0)), (3, .int x3)]) hx hb dX2_makeAdded_1 hl0 (by decide) rfl (fun ls1 hl1 => ?_); clear hl0
  obtain ⟨w_square_39, hlp2, hm40⟩ := bd1_some hm0; clear hm0
  have LP2 : ∀ (n : Nat) (w_square_3 : Nat → Int32) (v4_4 : Int32) (z2 : (Nat → Int32)) (H5 : Heap) (lc5 : List Loc) (ls5 : Array Slot), f_X2_makeAdded_L3 x3 w_spots f_scale h_scales h_steps f_grid n w_square_3 v4_4 = some z2 → va_P D vwCl (wf [oB (r0 0) 2 [.ref (r0 1), .ref (r0 2), .ref (r0 3), .ref (r0 4), .ref (r0 5)], aI (r0 1) cI 64 w_spots, aI (r0 2) cI 64 w_waves, aI (r0 3) cI 64 w_square_3, aI (r0 4) cI 64 w_halfway, aJ (r0 5) cJ 8 w_sums, oB (r1 0) 0 [.ref (r1 1), .ref (r1 2), .ref (r1 3), .ref (r1 4), .ref (r1 5), .ref (r1 6), .int f_columns, .int f_rows, .int f_scale, .int f_toEnd, .int f_between, .int f_kept], aQ (r1 4) cQ r1, oB (r2 0) 1 [.ref (r2 1), .ref (r2 2), .ref (r2 3), .ref (r2 5), .ref (r2 7), .int h_columns, .int h_rows, .int h_limit], aI (r2 1) cI 8 h_scales, aI (r2 2) cI 16 h_steps] [rowsW cI r1 f_grid]) H5 → va_D A (wf [oB (r0 0) 2 [.ref (r0 1), .ref (r0 2), .ref (r0 3), .ref (r0 4), .ref (r0 5)], aI (r0 1) cI 64 w_spots, aI (r0 2) cI 64 w_waves, aI (r0 3) cI 64 w_square_3, aI (r0 4) cI 64 w_halfway, aJ (r0 5) cJ 8 w_sums, oB (r1 0) 0 [.ref (r1 1), .ref (r1 2), .ref (r1 3), .ref (r1 4), .ref (r1 5), .ref (r1 6), .int f_columns, .int f_rows, .int f_scale, .int f_toEnd, .int f_between, .int f_kept], aQ (r1 4) cQ r1, oB (r2 0) 1 [.ref (r2 1), .ref (r2 2), .ref (r2 3), .ref (r2 5), .ref (r2 7), .int h_columns, .int h_rows, .int h_limit], aI (r2 1) cI 8 h_scales, aI (r2 2) cI 16 h_steps] [rowsW cI r1 f_grid]) → va_S A s.heap H5 lc5 → lv_has ls5 6 [(0, .ref (r0 0)), (1, .ref (r1 0)), (2, .ref (r2 0)), (3, .int x3), (4, .int v4_4)] → (∀ (H : Heap) (lc : List Loc) (ls : Array Slot), va_P D vwCl (wf [oB (r0 0) 2 [.ref (r0 1), .ref (r0 2), .ref (r0 3), .ref (r0 4), .ref (r0 5)], aI (r0 1) cI 64 w_spots, aI (r0 2) cI 64 w_waves, aI (r0 3) cI 64 z2, aI (r0 4) cI 64 w_halfway, aJ (r0 5) cJ 8 w_sums, oB (r1 0) 0 [.ref (r1 1), .ref (r1 2), .ref (r1 3), .ref (r1 4), .ref (r1 5), .ref (r1 6), .int f_columns, .int f_rows, .int f_scale, .int f_toEnd, .int f_between, .int f_kept], aQ (r1 4) cQ r1, oB (r2 0) 1 [.ref (r2 1), .ref (r2 2), .ref (r2 3), .ref (r2 5), .ref (r2 7), .int h_columns, .int h_rows, .int h_limit], aI (r2 1) cI 8 h_scales, aI (r2 2) cI 16 h_steps] [rowsW cI r1 f_grid]) H → va_D A (wf [oB (r0 0) 2 [.ref (r0 1), .ref (r0 2), .ref (r0 3), .ref (r0 4), .ref (r0 5)], aI (r0 1) cI 64 w_spots, aI (r0 2) cI 64 w_waves, aI (r0 3) cI 64 z2, aI (r0 4) cI 64 w_halfway, aJ (r0 5) cJ 8 w_sums, oB (r1 0) 0 [.ref (r1 1), .ref (r1 2), .ref (r1 3), .ref (r1 4), .ref (r1 5), .ref (r1 6), .int f_columns, .int f_rows, .int f_scale, .int f_toEnd, .int f_between, .int f_kept], aQ (r1 4) cQ r1, oB (r2 0) 1 [.ref (r2 1), .ref (r2 2), .ref (r2 3), .ref (r2 5), .ref (r2 7), .int h_columns, .int h_rows, .int h_limit], aI (r2 1) cI 8 h_scales, aI (r2 2) cI 16 h_steps] [rowsW cI r1 f_grid]) → va_S A s.heap H lc → lv_has ls 6 [(0, .ref (r0 0))] → W p l e rm_X2_makeAdded s m args below meth c H lc 0 0 QQ (F0 m 59 ls [])) → W p l e rm_X2_makeAdded s m args below meth c H5 lc5 0 0 QQ (F0 m 3 ls5 []) := by
    intro n
    induction n with
    | zero =>
      intro w_square_3 v4_4 z2 H5 lc5 ls5 hm7; simp [f_X2_makeAdded_L3] at hm7
    | succ n ih =>
      intro w_square_3 v4_4 z2 H5 lc5 ls5 hm7 hP5 hD5 hS5 hl5 kx
      rw [f_X2_makeAdded_L3] at hm7
      refine lv_iload hx hb dX2_makeAdded_3 (lv_at hl5 4 rfl) ?_
      refine lv_bipush (v := 64) hx hb dX2_makeAdded_5 (by decide) ?_
      refine lv_icmp_ge (tgt := 59) hx hb dX2_makeAdded_7 (by decide) (fun hc8 => ?_) (fun hc8 => ?_)
      · have hm9 := bq_t hm7 hc8; clear hm7
        obtain rfl := Option.some.inj hm9
        exact kx _ _ _ hP5 hD5 hS5 (lv_sub hl5 [0] rfl)
      · have hm10 := bq_f hm7 hc8; clear hm7
        refine lv_aload_n hx hb dX2_makeAdded_10 rfl (lv_at hl5 1 rfl) ?_
        refine lv_iload_n hx hb dX2_makeAdded_11 rfl (lv_at hl5 3 rfl) ?_
        refine lv_iload hx hb dX2_makeAdded_12 (lv_at hl5 4 rfl) ?_
        obtain ⟨y_11, hcl12, hm12⟩ := bd1_some hm10; clear hm10
        have sb13 := ctS.mk (n := 11) (k := 1) (pre := [oB (r0 0) 2 [.ref (r0 1), .ref (r0 2), .ref (r0 3), .ref (r0 4), .ref (r0 5)], aI (r0 1) cI 64 w_spots, aI (r0 2) cI 64 w_waves, aI (r0 3) cI 64 w_square_3, aI (r0 4) cI 64 w_halfway, aJ (r0 5) cJ 8 w_sums, oB (r1 0) 0 [.ref (r1 1), .ref (r1 2), .ref (r1 3), .ref (r1 4), .ref (r1 5), .ref (r1 6), .int f_columns, .int f_rows, .int f_scale, .int f_toEnd, .int f_between, .int f_kept], aQ (r1 4) cQ r1, oB (r2 0) 1 [.ref (r2 1), .ref (r2 2), .ref (r2 3), .ref (r2 5), .ref (r2 7), .int h_columns, .int h_rows, .int h_limit], aI (r2 1) cI 8 h_scales, aI (r2 2) cI 16 h_steps]) (tl := [rowsW cI r1 f_grid]) [6, 7] [0, 1, 2, 3, 4, 5, 8, 9, 10] [0] [] rfl rfl (by decide +kernel) (by decide +kernel)
        refine ct_calli (r := y_11) E sb13 hP5 hD5 hS5 (va_runV (As := [.int x3, .int v4_4]) (rest := []) ⟨hx, hb, hml, hown, hts⟩ (c_X0_number l D cB cI cJ cQ N r1 H5.size x3 v4_4 f_columns f_rows f_scale f_toEnd f_between f_kept f_grid (y_11) hcl12) (cwV 2 hts gX2_makeAdded_X0_number rfl rfl rfl cdV_X0_number ⟨Nat.le_of_ble_eq_true rfl, Nat.le_of_ble_eq_true rfl⟩) (ct_preV (q0 := 6) (ci := 0) E sb13 hP5 hD5 hS5 rfl rfl) rfl rfl hl5.1 rfl (lv_room (Nat.le_of_ble_eq_true rfl)) dX2_makeAdded_14 ⟨Nat.zero_le _, Nat.zero_le _⟩) (fun H14 lc14 hP14 hD14 hS14 => ?_); clear sb13 hcl12
        clear hP5 hD5 hS5
        have hP14 : va_P D vwCl (wf [oB (r0 0) 2 [.ref (r0 1), .ref (r0 2), .ref (r0 3), .ref (r0 4), .ref (r0 5)], aI (r0 1) cI 64 w_spots, aI (r0 2) cI 64 w_waves, aI (r0 3) cI 64 w_square_3, aI (r0 4) cI 64 w_halfway, aJ (r0 5) cJ 8 w_sums, oB (r2 0) 1 [.ref (r2 1), .ref (r2 2), .ref (r2 3), .ref (r2 5), .ref (r2 7), .int h_columns, .int h_rows, .int h_limit], aI (r2 1) cI 8 h_scales, aI (r2 2) cI 16 h_steps, oB (r1 0) 0 [.ref (r1 1), .ref (r1 2), .ref (r1 3), .ref (r1 4), .ref (r1 5), .ref (r1 6), .int f_columns, .int f_rows, .int f_scale, .int f_toEnd, .int f_between, .int f_kept], aQ (r1 4) cQ r1] [rowsW cI r1 f_grid]) H14 := hP14
        have hD14 : va_D A (wf [oB (r0 0) 2 [.ref (r0 1), .ref (r0 2), .ref (r0 3), .ref (r0 4), .ref (r0 5)], aI (r0 1) cI 64 w_spots, aI (r0 2) cI 64 w_waves, aI (r0 3) cI 64 w_square_3, aI (r0 4) cI 64 w_halfway, aJ (r0 5) cJ 8 w_sums, oB (r2 0) 1 [.ref (r2 1), .ref (r2 2), .ref (r2 3), .ref (r2 5), .ref (r2 7), .int h_columns, .int h_rows, .int h_limit], aI (r2 1) cI 8 h_scales, aI (r2 2) cI 16 h_steps, oB (r1 0) 0 [.ref (r1 1), .ref (r1 2), .ref (r1 3), .ref (r1 4), .ref (r1 5), .ref (r1 6), .int f_columns, .int f_rows, .int f_scale, .int f_toEnd, .int f_between, .int f_kept], aQ (r1 4) cQ r1] [rowsW cI r1 f_grid]) := hD14
        refine lv_aload_n hx hb dX2_makeAdded_17 rfl (lv_at hl5 2 rfl) ?_
        refine lv_aload_n hx hb dX2_makeAdded_18 rfl (lv_at hl5 1 rfl) ?_
        obtain ⟨y_15, hcl16, hm16⟩ := bd1_some hm12; clear hm12
        have sb17 := ctS.mk (n := 11) (k := 1) (pre := [oB (r0 0) 2 [.ref (r0 1), .ref (r0 2), .ref (r0 3), .ref (r0 4), .ref (r0 5)], aI (r0 1) cI 64 w_spots, aI (r0 2) cI 64 w_waves, aI (r0 3) cI 64 w_square_3, aI (r0 4) cI 64 w_halfway, aJ (r0 5) cJ 8 w_sums, oB (r2 0) 1 [.ref (r2 1), .ref (r2 2), .ref (r2 3), .ref (r2 5), .ref (r2 7), .int h_columns, .int h_rows, .int h_limit], aI (r2 1) cI 8 h_scales, aI (r2 2) cI 16 h_steps, oB (r1 0) 0 [.ref (r1 1), .ref (r1 2), .ref (r1 3), .ref (r1 4), .ref (r1 5), .ref (r1 6), .int f_columns, .int f_rows, .int f_scale, .int f_toEnd, .int f_between, .int f_kept], aQ (r1 4) cQ r1]) (tl := [rowsW cI r1 f_grid]) [9] [0, 1, 2, 3, 4, 5, 6, 7, 8, 10] [] [0] rfl rfl (by decide +kernel) (by decide +kernel)
        refine ct_calli (r := y_15) E sb17 hP14 hD14 hS14 (va_runV (As := []) (rest := [.ref (r2 0), .int y_11]) ⟨hx, hb, hml, hown, hts⟩ (c_X0_scale l D cB cI cJ cQ N r1 H14.size f_columns f_rows f_scale f_toEnd f_between f_kept (y_15) hcl16) (cwV 0 hts gX2_makeAdded_X0_scale rfl rfl rfl cdV_X0_scale ⟨Nat.le_of_ble_eq_true rfl, Nat.le_of_ble_eq_true rfl⟩) (ct_preV (q0 := 9) (ci := 0) E sb17 hP14 hD14 hS14 rfl rfl) rfl rfl hl5.1 rfl (lv_room (Nat.le_of_ble_eq_true rfl)) dX2_makeAdded_19 ⟨Nat.zero_le _, Nat.zero_le _⟩) (fun H18 lc18 hP18 hD18 hS18 => ?_); clear sb17 hcl16
        clear hP14 hD14 hS14
        have hP18 : va_P D vwCl (wf [oB (r0 0) 2 [.ref (r0 1), .ref (r0 2), .ref (r0 3), .ref (r0 4), .ref (r0 5)], aI (r0 1) cI 64 w_spots, aI (r0 2) cI 64 w_waves, aI (r0 3) cI 64 w_square_3, aI (r0 4) cI 64 w_halfway, aJ (r0 5) cJ 8 w_sums, oB (r2 0) 1 [.ref (r2 1), .ref (r2 2), .ref (r2 3), .ref (r2 5), .ref (r2 7), .int h_columns, .int h_rows, .int h_limit], aI (r2 1) cI 8 h_scales, aI (r2 2) cI 16 h_steps, aQ (r1 4) cQ r1, oB (r1 0) 0 [.ref (r1 1), .ref (r1 2), .ref (r1 3), .ref (r1 4), .ref (r1 5), .ref (r1 6), .int f_columns, .int f_rows, .int f_scale, .int f_toEnd, .int f_between, .int f_kept]] [rowsW cI r1 f_grid]) H18 := hP18
        have hD18 : va_D A (wf [oB (r0 0) 2 [.ref (r0 1), .ref (r0 2), .ref (r0 3), .ref (r0 4), .ref (r0 5)], aI (r0 1) cI 64 w_spots, aI (r0 2) cI 64 w_waves, aI (r0 3) cI 64 w_square_3, aI (r0 4) cI 64 w_halfway, aJ (r0 5) cJ 8 w_sums, oB (r2 0) 1 [.ref (r2 1), .ref (r2 2), .ref (r2 3), .ref (r2 5), .ref (r2 7), .int h_columns, .int h_rows, .int h_limit], aI (r2 1) cI 8 h_scales, aI (r2 2) cI 16 h_steps, aQ (r1 4) cQ r1, oB (r1 0) 0 [.ref (r1 1), .ref (r1 2), .ref (r1 3), .ref (r1 4), .ref (r1 5), .ref (r1 6), .int f_columns, .int f_rows, .int f_scale, .int f_toEnd, .int f_between, .int f_kept]] [rowsW cI r1 f_grid]) := hD18
        refine lv_iload hx hb dX2_makeAdded_22 (lv_at hl5 4 rfl) ?_
        obtain ⟨y_19, hcl20, hm20⟩ := bd1_some hm16; clear hm16
        have sb21 := ctS.mk (n := 11) (k := 1) (pre := [oB (r0 0) 2 [.ref (r0 1), .ref (r0 2), .ref (r0 3), .ref (r0 4), .ref (r0 5)], aI (r0 1) cI 64 w_spots, aI (r0 2) cI 64 w_waves, aI (r0 3) cI 64 w_square_3, aI (r0 4) cI 64 w_halfway, aJ (r0 5) cJ 8 w_sums, oB (r2 0) 1 [.ref (r2 1), .ref (r2 2), .ref (r2 3), .ref (r2 5), .ref (r2 7), .int h_columns, .int h_rows, .int h_limit], aI (r2 1) cI 8 h_scales, aI (r2 2) cI 16 h_steps, aQ (r1 4) cQ r1, oB (r1 0) 0 [.ref (r1 1), .ref (r1 2), .ref (r1 3), .ref (r1 4), .ref (r1 5), .ref (r1 6), .int f_columns, .int f_rows, .int f_scale, .int f_toEnd, .int f_between, .int f_kept]]) (tl := [rowsW cI r1 f_grid]) [6, 7, 8] [0, 1, 2, 3, 4, 5, 9, 10] [] [0] rfl rfl (by decide +kernel) (by decide +kernel)
        refine ct_calli (r := y_19) E sb21 hP18 hD18 hS18 (va_runV (As := [.int y_15, .int v4_4]) (rest := [.int y_11]) ⟨hx, hb, hml, hown, hts⟩ (c_X1_factor l D cB cI cJ cQ N r2 H18.size y_15 v4_4 h_columns h_rows h_limit h_scales h_steps (y_19) hcl20) (cwV 2 hts gX2_makeAdded_X1_factor rfl rfl rfl cdV_X1_factor ⟨Nat.le_of_ble_eq_true rfl, Nat.le_of_ble_eq_true rfl⟩) (ct_preV (q0 := 6) (ci := 1) E sb21 hP18 hD18 hS18 rfl rfl) rfl rfl hl5.1 rfl (lv_room (Nat.le_of_ble_eq_true rfl)) dX2_makeAdded_24 ⟨Nat.zero_le _, Nat.zero_le _⟩) (fun H22 lc22 hP22 hD22 hS22 => ?_); clear sb21 hcl20
        clear hP18 hD18 hS18
        have hP22 : va_P D vwCl (wf [oB (r0 0) 2 [.ref (r0 1), .ref (r0 2), .ref (r0 3), .ref (r0 4), .ref (r0 5)], aI (r0 1) cI 64 w_spots, aI (r0 2) cI 64 w_waves, aI (r0 3) cI 64 w_square_3, aI (r0 4) cI 64 w_halfway, aJ (r0 5) cJ 8 w_sums, aQ (r1 4) cQ r1, oB (r1 0) 0 [.ref (r1 1), .ref (r1 2), .ref (r1 3), .ref (r1 4), .ref (r1 5), .ref (r1 6), .int f_columns, .int f_rows, .int f_scale, .int f_toEnd, .int f_between, .int f_kept], oB (r2 0) 1 [.ref (r2 1), .ref (r2 2), .ref (r2 3), .ref (r2 5), .ref (r2 7), .int h_columns, .int h_rows, .int h_limit], aI (r2 1) cI 8 h_scales, aI (r2 2) cI 16 h_steps] [rowsW cI r1 f_grid]) H22 := hP22
        have hD22 : va_D A (wf [oB (r0 0) 2 [.ref (r0 1), .ref (r0 2), .ref (r0 3), .ref (r0 4), .ref (r0 5)], aI (r0 1) cI 64 w_spots, aI (r0 2) cI 64 w_waves, aI (r0 3) cI 64 w_square_3, aI (r0 4) cI 64 w_halfway, aJ (r0 5) cJ 8 w_sums, aQ (r1 4) cQ r1, oB (r1 0) 0 [.ref (r1 1), .ref (r1 2), .ref (r1 3), .ref (r1 4), .ref (r1 5), .ref (r1 6), .int f_columns, .int f_rows, .int f_scale, .int f_toEnd, .int f_between, .int f_kept], oB (r2 0) 1 [.ref (r2 1), .ref (r2 2), .ref (r2 3), .ref (r2 5), .ref (r2 7), .int h_columns, .int h_rows, .int h_limit], aI (r2 1) cI 8 h_scales, aI (r2 2) cI 16 h_steps] [rowsW cI r1 f_grid]) := hD22
        refine lv_imul hx hb dX2_makeAdded_27 ?_
        obtain ⟨v5_23, ev5_23, hm24⟩ := nm_some hm20; clear hm20
        refine ct_topi ev5_23 ?_
        refine lv_istore (lv' := [(5, .int v5_23), (0, .ref (r0 0)), (1, .ref (r1 0)), (2, .ref (r2 0)), (3, .int x3), (4, .int v4_4)]) hx hb dX2_makeAdded_28 hl5 (by decide) rfl (fun ls25 hl25 => ?_); clear hl5
        refine lv_aload_n hx hb dX2_makeAdded_30 rfl (lv_at hl25 1 rfl) ?_
        refine va_get (D := D) (ci := 2) (v := .ref (r0 3)) (C := RX2) (T := TX2) (N := 5) hx hb hts hi_X2_makeAdded_2 hown E.1 hP22 0 rfl rfl 2 (by decide) (hts _ (List.mem_of_getElem? (i := 1) rfl)) (fun _ h9 => h9) rfl dX2_makeAdded_31 ?_
        refine lv_aload_n hx hb dX2_makeAdded_34 rfl (lv_at hl25 1 rfl) ?_
        refine va_get (D := D) (ci := 2) (v := .ref (r0 1)) (C := RX2) (T := TX2) (N := 5) hx hb hts hi_X2_makeAdded_2 hown E.1 hP22 0 rfl rfl 0 (by decide) (hts _ (List.mem_of_getElem? (i := 2) rfl)) (fun _ h9 => h9) rfl dX2_makeAdded_35 ?_
        refine lv_iload hx hb dX2_makeAdded_38 (lv_at hl25 5 rfl) ?_
        obtain ⟨hin26, hm26⟩ := gi_some hm24; clear hm24
        refine va_iald hx hb E.1 hP22 1 0 rfl rfl hin26 dX2_makeAdded_40 ?_
        refine lv_iload hx hb dX2_makeAdded_41 (lv_at hl25 0 rfl) ?_
        refine lv_sipush (v := -32768) hx hb dX2_makeAdded_43 (by decide) ?_
        refine lv_sipush (v := 32767) hx hb dX2_makeAdded_46 (by decide) ?_
        obtain ⟨y_27, hcl28, hm28⟩ := bd1_some hm26; clear hm26
        have sb29 := ctS.mk (n := 11) (k := 1) (pre := [oB (r0 0) 2 [.ref (r0 1), .ref (r0 2), .ref (r0 3), .ref (r0 4), .ref (r0 5)], aI (r0 1) cI 64 w_spots, aI (r0 2) cI 64 w_waves, aI (r0 3) cI 64 w_square_3, aI (r0 4) cI 64 w_halfway, aJ (r0 5) cJ 8 w_sums, aQ (r1 4) cQ r1, oB (r1 0) 0 [.ref (r1 1), .ref (r1 2), .ref (r1 3), .ref (r1 4), .ref (r1 5), .ref (r1 6), .int f_columns, .int f_rows, .int f_scale, .int f_toEnd, .int f_between, .int f_kept], oB (r2 0) 1 [.ref (r2 1), .ref (r2 2), .ref (r2 3), .ref (r2 5), .ref (r2 7), .int h_columns, .int h_rows, .int h_limit], aI (r2 1) cI 8 h_scales, aI (r2 2) cI 16 h_steps]) (tl := [rowsW cI r1 f_grid]) [] [0, 1, 2, 3, 4, 5, 6, 7, 8, 9, 10] [] [0] rfl rfl (by decide +kernel) (by decide +kernel)
        refine ct_calli (r := y_27) E sb29 hP22 hD22 hS22 (va_runSN (As := [.int v5_23, .int (-32768 : Int32), .int (32767 : Int32)]) (rest := [.int (w_spots v4_4.toNatClampNeg), .ref (r0 3)]) ⟨hx, hb, hml, hown, hts⟩ (c_X6_bring l D cB cI cJ cQ N H22.size v5_23 (-32768 : Int32) (32767 : Int32) (y_27) hcl28) ⟨va_cnB 3 hts gX2_makeAdded_X6_bring_n106 rfl rfl rfl (E.2.1.1 _ (List.mem_of_getElem? (i := 6) rfl)) (hts _ (List.mem_of_getElem? (i := 23) rfl)) cdS_X6_bring ⟨Nat.le_of_ble_eq_true rfl, Nat.le_of_ble_eq_true rfl⟩, (hts _ (List.mem_of_getElem? (i := 22) rfl)), trivial⟩ (ct_preS E sb29 hP22 hD22 hS22) rfl rfl hl25.1 rfl (lv_room (Nat.le_of_ble_eq_true rfl)) dX2_makeAdded_49 ⟨Nat.zero_le _, Nat.zero_le _⟩) (fun H30 lc30 hP30 hD30 hS30 => ?_); clear sb29 hcl28
        clear hP22 hD22 hS22
        have hP30 : va_P D vwCl (wf [oB (r0 0) 2 [.ref (r0 1), .ref (r0 2), .ref (r0 3), .ref (r0 4), .ref (r0 5)], aI (r0 1) cI 64 w_spots, aI (r0 2) cI 64 w_waves, aI (r0 3) cI 64 w_square_3, aI (r0 4) cI 64 w_halfway, aJ (r0 5) cJ 8 w_sums, aQ (r1 4) cQ r1, oB (r1 0) 0 [.ref (r1 1), .ref (r1 2), .ref (r1 3), .ref (r1 4), .ref (r1 5), .ref (r1 6), .int f_columns, .int f_rows, .int f_scale, .int f_toEnd, .int f_between, .int f_kept], oB (r2 0) 1 [.ref (r2 1), .ref (r2 2), .ref (r2 3), .ref (r2 5), .ref (r2 7), .int h_columns, .int h_rows, .int h_limit], aI (r2 1) cI 8 h_scales, aI (r2 2) cI 16 h_steps] [rowsW cI r1 f_grid]) H30 := hP30
        have hD30 : va_D A (wf [oB (r0 0) 2 [.ref (r0 1), .ref (r0 2), .ref (r0 3), .ref (r0 4), .ref (r0 5)], aI (r0 1) cI 64 w_spots, aI (r0 2) cI 64 w_waves, aI (r0 3) cI 64 w_square_3, aI (r0 4) cI 64 w_halfway, aJ (r0 5) cJ 8 w_sums, aQ (r1 4) cQ r1, oB (r1 0) 0 [.ref (r1 1), .ref (r1 2), .ref (r1 3), .ref (r1 4), .ref (r1 5), .ref (r1 6), .int f_columns, .int f_rows, .int f_scale, .int f_toEnd, .int f_between, .int f_kept], oB (r2 0) 1 [.ref (r2 1), .ref (r2 2), .ref (r2 3), .ref (r2 5), .ref (r2 7), .int h_columns, .int h_rows, .int h_limit], aI (r2 1) cI 8 h_scales, aI (r2 2) cI 16 h_steps] [rowsW cI r1 f_grid]) := hD30
        obtain ⟨hin31, hm31⟩ := gi_some hm28; clear hm28
        obtain ⟨w_square_32, ew_square_32, hm33⟩ := nm_some hm31; clear hm31
        refine ct_iast (g := w_square_32) (ws' := (wf [oB (r0 0) 2 [.ref (r0 1), .ref (r0 2), .ref (r0 3), .ref (r0 4), .ref (r0 5)], aI (r0 1) cI 64 w_spots, aI (r0 2) cI 64 w_waves, aI (r0 3) cI 64 w_square_32, aI (r0 4) cI 64 w_halfway, aJ (r0 5) cJ 8 w_sums, aQ (r1 4) cQ r1, oB (r1 0) 0 [.ref (r1 1), .ref (r1 2), .ref (r1 3), .ref (r1 4), .ref (r1 5), .ref (r1 6), .int f_columns, .int f_rows, .int f_scale, .int f_toEnd, .int f_between, .int f_kept], oB (r2 0) 1 [.ref (r2 1), .ref (r2 2), .ref (r2 3), .ref (r2 5), .ref (r2 7), .int h_columns, .int h_rows, .int h_limit], aI (r2 1) cI 8 h_scales, aI (r2 2) cI 16 h_steps] [rowsW cI r1 f_grid])) hx hb E.1 hP30 hD30 hS30 3 0 rfl rfl hin31 ew_square_32 rfl dX2_makeAdded_52 (fun H34 lc34 hP34 hD34 hS34 => ?_)
        clear hP30 hD30 hS30
        obtain ⟨v4_35, ev4_35, hm36⟩ := nm_some hm33; clear hm33
        refine lv_iinc (v := v4_35) (lv' := [(4, .int v4_35), (5, .int v5_23), (0, .ref (r0 0)), (1, .ref (r1 0)), (2, .ref (r2 0)), (3, .int x3)]) hx hb dX2_makeAdded_53 hl25 (k := 5) rfl (by rw [ev4_35]; rfl) (by decide) rfl (fun ls37 hl37 => ?_); clear hl25
        refine lv_goto (tgt := 3) hx hb dX2_makeAdded_56 (by decide) ?_
        obtain ⟨hP38, hD38⟩ := ct_ord (n := 11) (k := 1) [0, 1, 2, 3, 4, 5, 7, 6, 8, 9, 10] [0] hP34 hD34 rfl rfl (by decide +kernel) (by decide +kernel)
        have hS38 := hS34
        have hP38 : va_P D vwCl (wf [oB (r0 0) 2 [.ref (r0 1), .ref (r0 2), .ref (r0 3), .ref (r0 4), .ref (r0 5)], aI (r0 1) cI 64 w_spots, aI (r0 2) cI 64 w_waves, aI (r0 3) cI 64 w_square_32, aI (r0 4) cI 64 w_halfway, aJ (r0 5) cJ 8 w_sums, oB (r1 0) 0 [.ref (r1 1), .ref (r1 2), .ref (r1 3), .ref (r1 4), .ref (r1 5), .ref (r1 6), .int f_columns, .int f_rows, .int f_scale, .int f_toEnd, .int f_between, .int f_kept], aQ (r1 4) cQ r1, oB (r2 0) 1 [.ref (r2 1), .ref (r2 2), .ref (r2 3), .ref (r2 5), .ref (r2 7), .int h_columns, .int h_rows, .int h_limit], aI (r2 1) cI 8 h_scales, aI (r2 2) cI 16 h_steps] [rowsW cI r1 f_grid]) H34 := hP38
        have hD38 : va_D A (wf [oB (r0 0) 2 [.ref (r0 1), .ref (r0 2), .ref (r0 3), .ref (r0 4), .ref (r0 5)], aI (r0 1) cI 64 w_spots, aI (r0 2) cI 64 w_waves, aI (r0 3) cI 64 w_square_32, aI (r0 4) cI 64 w_halfway, aJ (r0 5) cJ 8 w_sums, oB (r1 0) 0 [.ref (r1 1), .ref (r1 2), .ref (r1 3), .ref (r1 4), .ref (r1 5), .ref (r1 6), .int f_columns, .int f_rows, .int f_scale, .int f_toEnd, .int f_between, .int f_kept], aQ (r1 4) cQ r1, oB (r2 0) 1 [.ref (r2 1), .ref (r2 2), .ref (r2 3), .ref (r2 5), .ref (r2 7), .int h_columns, .int h_rows, .int h_limit], aI (r2 1) cI 8 h_scales, aI (r2 2) cI 16 h_steps] [rowsW cI r1 f_grid]) := hD38
        exact ih w_square_32 v4_35 _ _ _ _ hm36 hP38 hD38 hS38 (lv_sub hl37 [2, 3, 4, 5, 0] rfl) kx
  refine LP2 4000 w_square (0 : Int32) (w_square_39) _ _ _ hlp2 hP0 hD0 hS0 (lv_sub hl1 [1, 2, 3, 4, 0] rfl) (fun H41 lc41 ls41 hP41 hD41 hS41 hl41 => ?_); clear LP2 hlp2
  clear hP0 hD0 hS0
  have hl41 : lv_has ls41 6 [(0, .ref (r0 0))] := hl41
  have hP41 : va_P D vwCl (wf [oB (r0 0) 2 [.ref (r0 1), .ref (r0 2), .ref (r0 3), .ref (r0 4), .ref (r0 5)], aI (r0 1) cI 64 w_spots, aI (r0 2) cI 64 w_waves, aI (r0 3) cI 64 w_square_39, aI (r0 4) cI 64 w_halfway, aJ (r0 5) cJ 8 w_sums, oB (r1 0) 0 [.ref (r1 1), .ref (r1 2), .ref (r1 3), .ref (r1 4), .ref (r1 5), .ref (r1 6), .int f_columns, .int f_rows, .int f_scale, .int f_toEnd, .int f_between, .int f_kept], aQ (r1 4) cQ r1, oB (r2 0) 1 [.ref (r2 1), .ref (r2 2), .ref (r2 3), .ref (r2 5), .ref (r2 7), .int h_columns, .int h_rows, .int h_limit], aI (r2 1) cI 8 h_scales, aI (r2 2) cI 16 h_steps] [rowsW cI r1 f_grid]) H41 := hP41
  have hD41 : va_D A (wf [oB (r0 0) 2 [.ref (r0 1), .ref (r0 2), .ref (r0 3), .ref (r0 4), .ref (r0 5)], aI (r0 1) cI 64 w_spots, aI (r0 2) cI 64 w_waves, aI (r0 3) cI 64 w_square_39, aI (r0 4) cI 64 w_halfway, aJ (r0 5) cJ 8 w_sums, oB (r1 0) 0 [.ref (r1 1), .ref (r1 2), .ref (r1 3), .ref (r1 4), .ref (r1 5), .ref (r1 6), .int f_columns, .int f_rows, .int f_scale, .int f_toEnd, .int f_between, .int f_kept], aQ (r1 4) cQ r1, oB (r2 0) 1 [.ref (r2 1), .ref (r2 2), .ref (r2 3), .ref (r2 5), .ref (r2 7), .int h_columns, .int h_rows, .int h_limit], aI (r2 1) cI 8 h_scales, aI (r2 2) cI 16 h_steps] [rowsW cI r1 f_grid]) := hD41
  refine lv_aload_n hx hb dX2_makeAdded_59 rfl (lv_at hl41 0 rfl) ?_
  refine lv_aload_n hx hb dX2_makeAdded_60 rfl (lv_at hl41 0 rfl) ?_
  refine va_get (D := D) (ci := 2) (v := .ref (r0 3)) (C := RX2) (T := TX2) (N := 5) hx hb hts hi_X2_makeAdded_2 hown E.1 hP41 0 rfl rfl 2 (by decide) (hts _ (List.mem_of_getElem? (i := 1) rfl)) (fun _ h9 => h9) rfl dX2_makeAdded_61 ?_
  refine lv_aload_n hx hb dX2_makeAdded_64 rfl (lv_at hl41 0 rfl) ?_
  refine va_get (D := D) (ci := 2) (v := .ref (r0 4)) (C := RX2) (T := TX2) (N := 5) hx hb hts hi_X2_makeAdded_2 hown E.1 hP41 0 rfl rfl 3 (by decide) (hts _ (List.mem_of_getElem? (i := 3) rfl)) (fun _ h9 => h9) rfl dX2_makeAdded_65 ?_
  obtain ⟨w_sums_42, w_halfway_43, hcl44, hm44⟩ := bd2_some hm40; clear hm40
  have sb45 := ctS.mk (n := 11) (k := 1) (pre := [oB (r0 0) 2 [.ref (r0 1), .ref (r0 2), .ref (r0 3), .ref (r0 4), .ref (r0 5)], aI (r0 1) cI 64 w_spots, aI (r0 2) cI 64 w_waves, aI (r0 3) cI 64 w_square_39, aI (r0 4) cI 64 w_halfway, aJ (r0 5) cJ 8 w_sums, oB (r1 0) 0 [.ref (r1 1), .ref (r1 2), .ref (r1 3), .ref (r1 4), .ref (r1 5), .ref (r1 6), .int f_columns, .int f_rows, .int f_scale, .int f_toEnd, .int f_between, .int f_kept], aQ (r1 4) cQ r1, oB (r2 0) 1 [.ref (r2 1), .ref (r2 2), .ref (r2 3), .ref (r2 5), .ref (r2 7), .int h_columns, .int h_rows, .int h_limit], aI (r2 1) cI 8 h_scales, aI (r2 2) cI 16 h_steps]) (tl := [rowsW cI r1 f_grid]) [0, 2, 5, 3, 4] [1, 6, 7, 8, 9, 10] [] [0] rfl rfl (by decide +kernel) (by decide +kernel)
  refine ct_callv E sb45 hP41 hD41 hS41 (va_runV (As := [.ref (r0 3), .ref (r0 4)]) (rest := []) ⟨hx, hb, hml, hown, hts⟩ (c_X2_sumWaves l D cB cI cJ cQ N r0 (fun k => r0 (3 + k)) (fun k => r0 (4 + k)) H41.size w_waves w_sums w_square_39 w_halfway (w_sums_42, w_halfway_43) hcl44) (cwV 2 hts gX2_makeAdded_X2_sumWaves rfl rfl rfl cdV_X2_sumWaves ⟨Nat.le_of_ble_eq_true rfl, Nat.le_of_ble_eq_true rfl⟩) (ct_preV (q0 := 0) (ci := 2) E sb45 hP41 hD41 hS41 rfl rfl) rfl rfl hl41.1 rfl (lv_room (Nat.le_of_ble_eq_true rfl)) dX2_makeAdded_68 ⟨Nat.zero_le _, Nat.zero_le _⟩) (fun H46 lc46 hP46 hD46 hS46 => ?_); clear sb45 hcl44
  clear hP41 hD41 hS41
  have hP46 : va_P D vwCl (wf [aI (r0 1) cI 64 w_spots, oB (r1 0) 0 [.ref (r1 1), .ref (r1 2), .ref (r1 3), .ref (r1 4), .ref (r1 5), .ref (r1 6), .int f_columns, .int f_rows, .int f_scale, .int f_toEnd, .int f_between, .int f_kept], aQ (r1 4) cQ r1, oB (r2 0) 1 [.ref (r2 1), .ref (r2 2), .ref (r2 3), .ref (r2 5), .ref (r2 7), .int h_columns, .int h_rows, .int h_limit], aI (r2 1) cI 8 h_scales, aI (r2 2) cI 16 h_steps, oB (r0 0) 2 [.ref (r0 1), .ref (r0 2), .ref (r0 3), .ref (r0 4), .ref (r0 5)], aI (r0 2) cI 64 w_waves, aJ (r0 5) cJ 8 w_sums_42, aI (r0 3) cI 64 w_square_39, aI (r0 4) cI 64 w_halfway_43] [rowsW cI r1 f_grid]) H46 := hP46
  have hD46 : va_D A (wf [aI (r0 1) cI 64 w_spots, oB (r1 0) 0 [.ref (r1 1), .ref (r1 2), .ref (r1 3), .ref (r1 4), .ref (r1 5), .ref (r1 6), .int f_columns, .int f_rows, .int f_scale, .int f_toEnd, .int f_between, .int f_kept], aQ (r1 4) cQ r1, oB (r2 0) 1 [.ref (r2 1), .ref (r2 2), .ref (r2 3), .ref (r2 5), .ref (r2 7), .int h_columns, .int h_rows, .int h_limit], aI (r2 1) cI 8 h_scales, aI (r2 2) cI 16 h_steps, oB (r0 0) 2 [.ref (r0 1), .ref (r0 2), .ref (r0 3), .ref (r0 4), .ref (r0 5)], aI (r0 2) cI 64 w_waves, aJ (r0 5) cJ 8 w_sums_42, aI (r0 3) cI 64 w_square_39, aI (r0 4) cI 64 w_halfway_43] [rowsW cI r1 f_grid]) := hD46
  refine lv_aload_n hx hb dX2_makeAdded_71 rfl (lv_at hl41 0 rfl) ?_
  refine lv_aload_n hx hb dX2_makeAdded_72 rfl (lv_at hl41 0 rfl) ?_
  refine va_get (D := D) (ci := 2) (v := .ref (r0 4)) (C := RX2) (T := TX2) (N := 5) hx hb hts hi_X2_makeAdded_2 hown E.1 hP46 6 rfl rfl 3 (by decide) (hts _ (List.mem_of_getElem? (i := 3) rfl)) (fun _ h9 => h9) rfl dX2_makeAdded_73 ?_
  refine lv_aload_n hx hb dX2_makeAdded_76 rfl (lv_at hl41 0 rfl) ?_
  refine va_get (D := D) (ci := 2) (v := .ref (r0 3)) (C := RX2) (T := TX2) (N := 5) hx hb hts hi_X2_makeAdded_2 hown E.1 hP46 6 rfl rfl 2 (by decide) (hts _ (List.mem_of_getElem? (i := 1) rfl)) (fun _ h9 => h9) rfl dX2_makeAdded_77 ?_
  obtain ⟨w_sums_47, w_square_48, hcl49, hm49⟩ := bd2_some hm44; clear hm44
  have sb50 := ctS.mk (n := 11) (k := 1) (pre := [aI (r0 1) cI 64 w_spots, oB (r1 0) 0 [.ref (r1 1), .ref (r1 2), .ref (r1 3), .ref (r1 4), .ref (r1 5), .ref (r1 6), .int f_columns, .int f_rows, .int f_scale, .int f_toEnd, .int f_between, .int f_kept], aQ (r1 4) cQ r1, oB (r2 0) 1 [.ref (r2 1), .ref (r2 2), .ref (r2 3), .ref (r2 5), .ref (r2 7), .int h_columns, .int h_rows, .int h_limit], aI (r2 1) cI 8 h_scales, aI (r2 2) cI 16 h_steps, oB (r0 0) 2 [.ref (r0 1), .ref (r0 2), .ref (r0 3), .ref (r0 4), .ref (r0 5)], aI (r0 2) cI 64 w_waves, aJ (r0 5) cJ 8 w_sums_42, aI (r0 3) cI 64 w_square_39, aI (r0 4) cI 64 w_halfway_43]) (tl := [rowsW cI r1 f_grid]) [6, 7, 8, 10, 9] [0, 1, 2, 3, 4, 5] [] [0] rfl rfl (by decide +kernel) (by decide +kernel)
  refine ct_callv E sb50 hP46 hD46 hS46 (va_runV (As := [.ref (r0 4), .ref (r0 3)]) (rest := []) ⟨hx, hb, hml, hown, hts⟩ (c_X2_sumWaves l D cB cI cJ cQ N r0 (fun k => r0 (4 + k)) (fun k => r0 (3 + k)) H46.size w_waves w_sums_42 w_halfway_43 w_square_39 (w_sums_47, w_square_48) hcl49) (cwV 2 hts gX2_makeAdded_X2_sumWaves rfl rfl rfl cdV_X2_sumWaves ⟨Nat.le_of_ble_eq_true rfl, Nat.le_of_ble_eq_true rfl⟩) (ct_preV (q0 := 6) (ci := 2) E sb50 hP46 hD46 hS46 rfl rfl) rfl rfl hl41.1 rfl (lv_room (Nat.le_of_ble_eq_true rfl)) dX2_makeAdded_80 ⟨Nat.zero_le _, Nat.zero_le _⟩) (fun H51 lc51 hP51 hD51 hS51 => ?_); clear sb50 hcl49
  clear hP46 hD46 hS46
  have hP51 : va_P D vwCl (wf [aI (r0 1) cI 64 w_spots, oB (r1 0) 0 [.ref (r1 1), .ref (r1 2), .ref (r1 3), .ref (r1 4), .ref (r1 5), .ref (r1 6), .int f_columns, .int f_rows, .int f_scale, .int f_toEnd, .int f_between, .int f_kept], aQ (r1 4) cQ r1, oB (r2 0) 1 [.ref (r2 1), .ref (r2 2), .ref (r2 3), .ref (r2 5), .ref (r2 7), .int h_columns, .int h_rows, .int h_limit], aI (r2 1) cI 8 h_scales, aI (r2 2) cI 16 h_steps, oB (r0 0) 2 [.ref (r0 1), .ref (r0 2), .ref (r0 3), .ref (r0 4), .ref (r0 5)], aI (r0 2) cI 64 w_waves, aJ (r0 5) cJ 8 w_sums_47, aI (r0 4) cI 64 w_halfway_43, aI (r0 3) cI 64 w_square_48] [rowsW cI r1 f_grid]) H51 := hP51
  have hD51 : va_D A (wf [aI (r0 1) cI 64 w_spots, oB (r1 0) 0 [.ref (r1 1), .ref (r1 2), .ref (r1 3), .ref (r1 4), .ref (r1 5), .ref (r1 6), .int f_columns, .int f_rows, .int f_scale, .int f_toEnd, .int f_between, .int f_kept], aQ (r1 4) cQ r1, oB (r2 0) 1 [.ref (r2 1), .ref (r2 2), .ref (r2 3), .ref (r2 5), .ref (r2 7), .int h_columns, .int h_rows, .int h_limit], aI (r2 1) cI 8 h_scales, aI (r2 2) cI 16 h_steps, oB (r0 0) 2 [.ref (r0 1), .ref (r0 2), .ref (r0 3), .ref (r0 4), .ref (r0 5)], aI (r0 2) cI 64 w_waves, aJ (r0 5) cJ 8 w_sums_47, aI (r0 4) cI 64 w_halfway_43, aI (r0 3) cI 64 w_square_48] [rowsW cI r1 f_grid]) := hD51
  obtain ⟨hP52, hD52⟩ := ct_ord (n := 11) (k := 1) [6, 0, 7, 10, 9, 8, 1, 2, 3, 4, 5] [0] hP51 hD51 rfl rfl (by decide +kernel) (by decide +kernel)
  have hS52 := hS51
  have hP52 : va_P D vwCl (wf [oB (r0 0) 2 [.ref (r0 1), .ref (r0 2), .ref (r0 3), .ref (r0 4), .ref (r0 5)], aI (r0 1) cI 64 w_spots, aI (r0 2) cI 64 w_waves, aI (r0 3) cI 64 w_square_48, aI (r0 4) cI 64 w_halfway_43, aJ (r0 5) cJ 8 w_sums_47, oB (r1 0) 0 [.ref (r1 1), .ref (r1 2), .ref (r1 3), .ref (r1 4), .ref (r1 5), .ref (r1 6), .int f_columns, .int f_rows, .int f_scale, .int f_toEnd, .int f_between, .int f_kept], aQ (r1 4) cQ r1, oB (r2 0) 1 [.ref (r2 1), .ref (r2 2), .ref (r2 3), .ref (r2 5), .ref (r2 7), .int h_columns, .int h_rows, .int h_limit], aI (r2 1) cI 8 h_scales, aI (r2 2) cI 16 h_steps] [rowsW cI r1 f_grid]) H51 := hP52
  have hD52 : va_D A (wf [oB (r0 0) 2 [.ref (r0 1), .ref (r0 2), .ref (r0 3), .ref (r0 4), .ref (r0 5)], aI (r0 1) cI 64 w_spots, aI (r0 2) cI 64 w_waves, aI (r0 3) cI 64 w_square_48, aI (r0 4) cI 64 w_halfway_43, aJ (r0 5) cJ 8 w_sums_47, oB (r1 0) 0 [.ref (r1 1), .ref (r1 2), .ref (r1 3), .ref (r1 4), .ref (r1 5), .ref (r1 6), .int f_columns, .int f_rows, .int f_scale, .int f_toEnd, .int f_between, .int f_kept], aQ (r1 4) cQ r1, oB (r2 0) 1 [.ref (r2 1), .ref (r2 2), .ref (r2 3), .ref (r2 5), .ref (r2 7), .int h_columns, .int h_rows, .int h_limit], aI (r2 1) cI 8 h_scales, aI (r2 2) cI 16 h_steps] [rowsW cI r1 f_grid]) := hD52
  obtain rfl := Option.some.inj hm49
  rw [hQ]
  exact ct_vret hx hb hr hlk hP52 hD52 hS52 dX2_makeAdded_83

def f_X2_moved (x1 : Int32) (x2 : Int32) (x3 : Int32) (x4 : Int32) (p_width : Int32) (p_height : Int32) (p_samples : Nat → Int32) : Option (Int32) :=
  bd1 (f_X3_at (x1 + (x3 >>> ((1 : Int32) &&& (31 : Int32)))) (x2 + (x4 >>> ((1 : Int32) &&& (31 : Int32)))) p_width p_height p_samples) fun y_1 =>
  bd1 (f_X3_at (x1 + ((x3 + (1 : Int32)) >>> ((1 : Int32) &&& (31 : Int32)))) (x2 + ((x4 + (1 : Int32)) >>> ((1 : Int32) &&& (31 : Int32)))) p_width p_height p_samples) fun y_6 =>
  some (((y_1 + y_6) / (2 : Int32)))

abbrev rm_X2_moved : Room := { frames := 3, cells := 0, slots := 0, locals := 104 }

theorem cdS_X2_moved : yX2_moved.cls ≠ "java/lang/invoke/MethodHandle" ∧ yX2_moved.cls ≠ "java/lang/invoke/VarHandle" ∧ (parseMethodDescriptor yX2_moved.desc).map (fun d => d.parameters.length) = some 5 := by decide +kernel

set_option maxHeartbeats 40000000 in
set_option maxRecDepth 100000 in
theorem c_X2_moved (l : Launch) (D : va_G) (cB cI cJ cQ : ClassId) (N : Nat) (r0 : Nat → Nat) (sz : Nat) (x1 : Int32) (x2 : Int32) (x3 : Int32) (x4 : Int32) (p_width : Int32) (p_height : Int32) (p_samples : Nat → Int32) (o : Int32) (hm0 : f_X2_moved x1 x2 x3 x4 p_width p_height p_samples = some o) : Met l yX2_moved wsX2_moved rm_X2_moved (ctP D cB cI cJ cQ N sz [.ref (r0 0), .int x1, .int x2, .int x3, .int x4] (wf [oB (r0 0) 3 [.ref (r0 1), .int p_width, .int p_height], aI (r0 1) cI 2304 p_samples] [])) (ctQi D o (wf [oB (r0 0) 3 [.ref (r0 1), .int p_width, .int p_height], aI (r0 1) cI 2304 p_samples] []) (va_A (wf [oB (r0 0) 3 [.ref (r0 1), .int p_width, .int p_height], aI (r0 1) cI 2304 p_samples] []) sz)) 0 0 (va_A (wf [oB (r0 0) 3 [.ref (r0 1), .int p_width, .int p_height], aI (r0 1) cI 2304 p_samples] []) sz) := by
  refine ct_of (cc := cX2_moved) (maxL := 7) (ret := (some .int)) (own := RX2) (Qp := ctQi D o (wf [oB (r0 0) 3 [.ref (r0 1), .int p_width, .int p_height], aI (r0 1) cI 2304 p_samples] [])) (by decide) rfl rfl (Nat.le_of_ble_eq_true rfl) ?_
  intro p e s m args below meth c A hx hb hr hml hown hts hlk hnm hsz hAe E hP0 hD0 hS0 ls0 hl0
  subst hsz
  have hl0 : lv_has ls0 7 [(0, .ref (r0 0)), (1, .int x1), (2, .int x2), (3, .int x3), (4, .int x4)] := hl0
  obtain ⟨QQ, hQ⟩ : ∃ Q : State → Prop, Q = MQ below (ctQi D o (wf [oB (r0 0) 3 [.ref (r0 1), .int p_width, .int p_height], aI (r0 1) cI 2304 p_samples] []) A) args s 0 0 A := ⟨_, rfl⟩
  rw [← hQ]
  unfold f_X2_moved at hm0
  refine lv_aload_n hx hb dX2_moved_0 rfl (lv_at hl0 0 rfl) ?_
  refine lv_iload_n hx hb dX2_moved_1 rfl (lv_at hl0 1 rfl) ?_
  refine lv_iload_n hx hb dX2_moved_2 rfl (lv_at hl0 3 rfl) ?_
  refine lv_iconst (v := 1) hx hb dX2_moved_3 (by decide) ?_
  refine lv_ishr hx hb dX2_moved_4 ?_
  refine lv_iadd hx hb dX2_moved_5 ?_
  refine lv_iload_n hx hb dX2_moved_6 rfl (lv_at hl0 2 rfl) ?_
  refine lv_iload hx hb dX2_moved_7 (lv_at hl0 4 rfl) ?_
  refine lv_iconst (v := 1) hx hb dX2_moved_9 (by decide) ?_
  refine lv_ishr hx hb dX2_moved_10 ?_
  refine lv_iadd hx hb dX2_moved_11 ?_
  obtain ⟨y_1, hcl2, hm2⟩ := bd1_some hm0; clear hm0
  have sb3 := ctS.mk (n := 2) (k := 0) (pre := [oB (r0 0) 3 [.ref (r0 1), .int p_width, .int p_height], aI (r0 1) cI 2304 p_samples]) (tl := []) [0, 1] [] [] [] rfl rfl (by decide +kernel) (by decide +kernel)
  refine ct_calli (r := y_1) E sb3 hP0 hD0 hS0 (va_runV (As := [.int (x1 + (x3 >>> ((1 : Int32) &&& (31 : Int32)))), .int (x2 + (x4 >>> ((1 : Int32) &&& (31 : Int32))))]) (rest := []) ⟨hx, hb, hml, hown, hts⟩ (c_X3_at l D cB cI cJ cQ N r0 s.heap.size (x1 + (x3 >>> ((1 : Int32) &&& (31 : Int32)))) (x2 + (x4 >>> ((1 : Int32) &&& (31 : Int32)))) p_width p_height p_samples (y_1) hcl2) (cwV 2 hts gX2_moved_X3_at rfl rfl rfl cdV_X3_at ⟨Nat.le_of_ble_eq_true rfl, Nat.le_of_ble_eq_true rfl⟩) (ct_preV (q0 := 0) (ci := 3) E sb3 hP0 hD0 hS0 rfl rfl) rfl rfl hl0.1 rfl (lv_room (Nat.le_of_ble_eq_true rfl)) dX2_moved_12 ⟨Nat.zero_le _, Nat.zero_le _⟩) (fun H4 lc4 hP4 hD4 hS4 => ?_); clear sb3 hcl2
  clear hP0 hD0 hS0
  have hP4 : va_P D vwCl (wf [oB (r0 0) 3 [.ref (r0 1), .int p_width, .int p_height], aI (r0 1) cI 2304 p_samples] []) H4 := hP4
  have hD4 : va_D A (wf [oB (r0 0) 3 [.ref (r0 1), .int p_width, .int p_height], aI (r0 1) cI 2304 p_samples] []) := hD4
  refine lv_istore (lv' := [(5, .int y_1), (0, .ref (r0 0)), (1, .int x1), (2, .int x2), (3, .int x3), (4, .int x4)]) hx hb dX2_moved_15 hl0 (by decide) rfl (fun ls5 hl5 => ?_); clear hl0
  refine lv_aload_n hx hb dX2_moved_17 rfl (lv_at hl5 1 rfl) ?_
  refine lv_iload_n hx hb dX2_moved_18 rfl (lv_at hl5 2 rfl) ?_
  refine lv_iload_n hx hb dX2_moved_19 rfl (lv_at hl5 4 rfl) ?_
  refine lv_iconst (v := 1) hx hb dX2_moved_20 (by decide) ?_
  refine lv_iadd hx hb dX2_moved_21 ?_
  refine lv_iconst (v := 1) hx hb dX2_moved_22 (by decide) ?_
  refine lv_ishr hx hb dX2_moved_23 ?_
  refine lv_iadd hx hb dX2_moved_24 ?_
  refine lv_iload_n hx hb dX2_moved_25 rfl (lv_at hl5 3 rfl) ?_
  refine lv_iload hx hb dX2_moved_26 (lv_at hl5 5 rfl) ?_
  refine lv_iconst (v := 1) hx hb dX2_moved_28 (by decide) ?_
  refine lv_iadd hx hb dX2_moved_29 ?_
  refine lv_iconst (v := 1) hx hb dX2_moved_30 (by decide) ?_
  refine lv_ishr hx hb dX2_moved_31 ?_
  refine lv_iadd hx hb dX2_moved_32 ?_
  obtain ⟨y_6, hcl7, hm7⟩ := bd1_some hm2; clear hm2
  have sb8 := ctS.mk (n := 2) (k := 0) (pre := [oB (r0 0) 3 [.ref (r0 1), .int p_width, .int p_height], aI (r0 1) cI 2304 p_samples]) (tl := []) [0, 1] [] [] [] rfl rfl (by decide +kernel) (by decide +kernel)
  refine ct_calli (r := y_6) E sb8 hP4 hD4 hS4 (va_runV (As := [.int (x1 + ((x3 + (1 : Int32)) >>> ((1 : Int32) &&& (31 : Int32)))), .int (x2 + ((x4 + (1 : Int32)) >>> ((1 : Int32) &&& (31 : Int32))))]) (rest := []) ⟨hx, hb, hml, hown, hts⟩ (c_X3_at l D cB cI cJ cQ N r0 H4.size (x1 + ((x3 + (1 : Int32)) >>> ((1 : Int32) &&& (31 : Int32)))) (x2 + ((x4 + (1 : Int32)) >>> ((1 : Int32) &&& (31 : Int32)))) p_width p_height p_samples (y_6) hcl7) (cwV 2 hts gX2_moved_X3_at rfl rfl rfl cdV_X3_at ⟨Nat.le_of_ble_eq_true rfl, Nat.le_of_ble_eq_true rfl⟩) (ct_preV (q0 := 0) (ci := 3) E sb8 hP4 hD4 hS4 rfl rfl) rfl rfl hl5.1 rfl (lv_room (Nat.le_of_ble_eq_true rfl)) dX2_moved_33 ⟨Nat.zero_le _, Nat.zero_le _⟩) (fun H9 lc9 hP9 hD9 hS9 => ?_); clear sb8 hcl7
  clear hP4 hD4 hS4
  have hP9 : va_P D vwCl (wf [oB (r0 0) 3 [.ref (r0 1), .int p_width, .int p_height], aI (r0 1) cI 2304 p_samples] []) H9 := hP9
  have hD9 : va_D A (wf [oB (r0 0) 3 [.ref (r0 1), .int p_width, .int p_height], aI (r0 1) cI 2304 p_samples] []) := hD9
  refine lv_istore (lv' := [(6, .int y_6), (5, .int y_1), (0, .ref (r0 0)), (1, .int x1), (2, .int x2), (3, .int x3), (4, .int x4)]) hx hb dX2_moved_36 hl5 (by decide) rfl (fun ls10 hl10 => ?_); clear hl5
  refine lv_iload hx hb dX2_moved_38 (lv_at hl10 1 rfl) ?_
  refine lv_iload hx hb dX2_moved_40 (lv_at hl10 0 rfl) ?_
  refine lv_iadd hx hb dX2_moved_42 ?_
  refine lv_iconst (v := 2) hx hb dX2_moved_43 (by decide) ?_
  refine lv_idiv hx hb dX2_moved_44 (by decide) ?_
  obtain rfl := Option.some.inj hm7
  rw [hQ]
  exact ct_iret hx hb hr hlk hP9 hD9 hS9 rfl dX2_moved_45

def f_X2_paintBlock_L11 (x2 : Int32) (x3 : Int32) (w_square : Nat → Int32) (f_modes : Nat → Int32) (f_across : Nat → Int32) (f_down : Nat → Int32) (p2_width : Int32) (p2_height : Int32) (p2_samples : Nat → Int32) (p3_width : Int32) (y_1 : Int32) : Nat → (Nat → Int32) → Int32 → Option ((Nat → Int32))
  | 0, _, _ => none
  | n + 1, p3_samples_8, v7_9 =>
  (if (64 : Int32) ≤ v7_9 then
  (some (p3_samples_8))
  else
  (nm (((x2 * (8 : Int32)) + (v7_9 - v7_9 / (8 : Int32) * (8 : Int32))) : Int32) fun v8_16 =>
  nm (((x3 * (8 : Int32)) + (v7_9 / (8 : Int32))) : Int32) fun v9_19 =>
  bd1 (f_X0_mode y_1 f_modes) fun y_22 =>
  jn (fun (k27 : Int32 → Option ((Nat → Int32))) => (if y_22 = (2 : Int32) then
  (k27 (128 : Int32))
  else
  (bd1 (f_X0_across y_1 f_across) fun y_43 =>
  bd1 (f_X0_down y_1 f_down) fun y_47 =>
  bd1 (f_X2_moved v8_16 v9_19 y_43 y_47 p2_width p2_height p2_samples) fun y_51 =>
  k27 y_51))) fun k0_28 =>
  gi v7_9 64 <|
  bd1 (f_X3_put v8_16 v9_19 (k0_28 + (w_square v7_9.toNatClampNeg)) p3_width p3_samples_8) fun p3_samples_33 =>
  nm (v7_9 + (1 : Int32) : Int32) fun v7_37 =>
  f_X2_paintBlock_L11 x2 x3 w_square f_modes f_across f_down p2_width p2_height p2_samples p3_width y_1 n p3_samples_33 v7_37))

def f_X2_paintBlock (x2 : Int32) (x3 : Int32) (w_square : Nat → Int32) (f_columns : Int32) (f_modes : Nat → Int32) (f_across : Nat → Int32) (f_down : Nat → Int32) (p2_width : Int32) (p2_height : Int32) (p2_samples : Nat → Int32) (p3_width : Int32) (p3_samples : Nat → Int32) : Option ((Nat → Int32)) :=
  bd1 (f_X0_index x2 x3 f_columns) fun y_1 =>
  bd1 (f_X2_paintBlock_L11 x2 x3 w_square f_modes f_across f_down p2_width p2_height p2_samples p3_width y_1 4000 p3_samples (0 : Int32)) fun p3_samples_57 =>
  some (p3_samples_57)

abbrev rm_X2_paintBlock : Room := { frames := 4, cells := 0, slots := 0, locals := 130 }

theorem cdS_X2_paintBlock : yX2_paintBlock.cls ≠ "java/lang/invoke/MethodHandle" ∧ yX2_paintBlock.cls ≠ "java/lang/invoke/VarHandle" ∧ (parseMethodDescriptor yX2_paintBlock.desc).map (fun d => d.parameters.length) = some 5 := by decide +kernel

theorem cdV_X2_paintBlock : yX2_paintBlock.cls = RX2 ∧ yX2_paintBlock.cls ≠ "java/lang/invoke/MethodHandle" ∧ yX2_paintBlock.cls ≠ "java/lang/invoke/VarHandle" ∧ (parseMethodDescriptor yX2_paintBlock.desc).map (fun d => d.parameters.length) = some 5 := ⟨rfl, cdS_X2_paintBlock⟩

theorem hi_X2_paintBlock_2 : ∀ w ∈ u_ws RX2 TX2 5, w ∈ wsX2_paintBlock := fun _ h => List.mem_cons_of_mem _ (List.mem_append_left _ (List.mem_append_left _ (List.mem_append_right _ h)))

set_option maxHeartbeats 40000000 in
set_option maxRecDepth 100000 in
theorem c_X2_paintBlock (l : Launch) (D : va_G) (cB cI cJ cQ : ClassId) (N : Nat) (r0 : Nat → Nat) (r1 : Nat → Nat) (r2 : Nat → Nat) (r3 : Nat → Nat) (sz : Nat) (x2 : Int32) (x3 : Int32) (w_square : Nat → Int32) (f_columns : Int32) (f_rows : Int32) (f_scale : Int32) (f_toEnd : Int32) (f_between : Int32) (f_kept : Int32) (f_modes : Nat → Int32) (f_across : Nat → Int32) (f_down : Nat → Int32) (p2_width : Int32) (p2_height : Int32) (p2_samples : Nat → Int32) (p3_width : Int32) (p3_height : Int32) (p3_samples : Nat → Int32) (o : (Nat → Int32)) (hm0 : f_X2_paintBlock x2 x3 w_square f_columns f_modes f_across f_down p2_width p2_height p2_samples p3_width p3_samples = some o) : Met l yX2_paintBlock wsX2_paintBlock rm_X2_paintBlock (ctP D cB cI cJ cQ N sz [.ref (r0 0), .ref (r1 0), .int x2, .int x3, .ref (r2 0), .ref (r3 0)] (wf [oB (r0 0) 2 [.ref (r0 1), .ref (r0 2), .ref (r0 3), .ref (r0 4), .ref (r0 5)], aI (r0 3) cI 64 w_square, oB (r1 0) 0 [.ref (r1 1), .ref (r1 2), .ref (r1 3), .ref (r1 4), .ref (r1 5), .ref (r1 6), .int f_columns, .int f_rows, .int f_scale, .int f_toEnd, .int f_between, .int f_kept], aI (r1 1) cI 36 f_modes, aI (r1 2) cI 36 f_across, aI (r1 3) cI 36 f_down, oB (r2 0) 3 [.ref (r2 1), .int p2_width, .int p2_height], aI (r2 1) cI 2304 p2_samples, oB (r3 0) 3 [.ref (r3 1), .int p3_width, .int p3_height], aI (r3 1) cI 2304 p3_samples] [])) (ctQv D (wf [oB (r0 0) 2 [.ref (r0 1), .ref (r0 2), .ref (r0 3), .ref (r0 4), .ref (r0 5)], aI (r0 3) cI 64 w_square, oB (r1 0) 0 [.ref (r1 1), .ref (r1 2), .ref (r1 3), .ref (r1 4), .ref (r1 5), .ref (r1 6), .int f_columns, .int f_rows, .int f_scale, .int f_toEnd, .int f_between, .int f_kept], aI (r1 1) cI 36 f_modes, aI (r1 2) cI 36 f_across, aI (r1 3) cI 36 f_down, oB (r2 0) 3 [.ref (r2 1), .int p2_width, .int p2_height], aI (r2 1) cI 2304 p2_samples, oB (r3 0) 3 [.ref (r3 1), .int p3_width, .int p3_height], aI (r3 1) cI 2304 o] []) (va_A (wf [oB (r0 0) 2 [.ref (r0 1), .ref (r0 2), .ref (r0 3), .ref (r0 4), .ref (r0 5)], aI (r0 3) cI 64 w_square, oB (r1 0) 0 [.ref (r1 1), .ref (r1 2), .ref (r1 3), .ref (r1 4), .ref (r1 5), .ref (r1 6), .int f_columns, .int f_rows, .int f_scale, .int f_toEnd, .int f_between, .int f_kept], aI (r1 1) cI 36 f_modes, aI (r1 2) cI 36 f_across, aI (r1 3) cI 36 f_down, oB (r2 0) 3 [.ref (r2 1), .int p2_width, .int p2_height], aI (r2 1) cI 2304 p2_samples, oB (r3 0) 3 [.ref (r3 1), .int p3_width, .int p3_height], aI (r3 1) cI 2304 p3_samples] []) sz)) 0 0 (va_A (wf [oB (r0 0) 2 [.ref (r0 1), .ref (r0 2), .ref (r0 3), .ref (r0 4), .ref (r0 5)], aI (r0 3) cI 64 w_square, oB (r1 0) 0 [.ref (r1 1), .ref (r1 2), .ref (r1 3), .ref (r1 4), .ref (r1 5), .ref (r1 6), .int f_columns, .int f_rows, .int f_scale, .int f_toEnd, .int f_between, .int f_kept], aI (r1 1) cI 36 f_modes, aI (r1 2) cI 36 f_across, aI (r1 3) cI 36 f_down, oB (r2 0) 3 [.ref (r2 1), .int p2_width, .int p2_height], aI (r2 1) cI 2304 p2_samples, oB (r3 0) 3 [.ref (r3 1), .int p3_width, .int p3_height], aI (r3 1) cI 2304 p3_samples] []) sz) := by
  refine ct_of (cc := cX2_paintBlock) (maxL := 11) (ret := none) (own := RX2) (Qp := ctQv D (wf [oB (r0 0) 2 [.ref (r0 1), .ref (r0 2), .ref (r0 3), .ref (r0 4), .ref (r0 5)], aI (r0 3) cI 64 w_square, oB (r1 0) 0 [.ref (r1 1), .ref (r1 2), .ref (r1 3), .ref (r1 4), .ref (r1 5), .ref (r1 6), .int f_columns, .int f_rows, .int f_scale, .int f_toEnd, .int f_between, .int f_kept], aI (r1 1) cI 36 f_modes, aI (r1 2) cI 36 f_across, aI (r1 3) cI 36 f_down, oB (r2 0) 3 [.ref (r2 1), .int p2_width, .int p2_height], aI (r2 1) cI 2304 p2_samples, oB (r3 0) 3 [.ref (r3 1), .int p3_width, .int p3_height], aI (r3 1) cI 2304 o] [])) (by decide) rfl rfl (Nat.le_of_ble_eq_true rfl) ?_
  intro p e s m args below meth c A hx hb hr hml hown hts hlk hnm hsz hAe E hP0 hD0 hS0 ls0 hl0
  subst hsz
  have hl0 : lv_has ls0 11 [(0, .ref (r0 0)), (1, .ref (r1 0)), (2, .int x2), (3, .int x3), (4, .ref (r2 0)), (5, .ref (r3 0))] := hl0
  obtain ⟨QQ, hQ⟩ : ∃ Q : State → Prop, Q = MQ below (ctQv D (wf [oB (r0 0) 2 [.ref (r0 1), .ref (r0 2), .ref (r0 3), .ref (r0 4), .ref (r0 5)], aI (r0 3) cI 64 w_square, oB (r1 0) 0 [.ref (r1 1), .ref (r1 2), .ref (r1 3), .ref (r1 4), .ref (r1 5), .ref (r1 6), .int f_columns, .int f_rows, .int f_scale, .int f_toEnd, .int f_between, .int f_kept], aI (r1 1) cI 36 f_modes, aI (r1 2) cI 36 f_across, aI (r1 3) cI 36 f_down, oB (r2 0) 3 [.ref (r2 1), .int p2_width, .int p2_height], aI (r2 1) cI 2304 p2_samples, oB (r3 0) 3 [.ref (r3 1), .int p3_width, .int p3_height], aI (r3 1) cI 2304 o] []) A) args s 0 0 A := ⟨_, rfl⟩
  rw [← hQ]
  unfold f_X2_paintBlock at hm0
  refine lv_aload_n hx hb dX2_paintBlock_0 rfl (lv_at hl0 1 rfl) ?_
  refine lv_iload_n hx hb dX2_paintBlock_1 rfl (lv_at hl0 2 rfl) ?_
  refine lv_iload_n hx hb dX2_paintBlock_2 rfl (lv_at hl0 3 rfl) ?_
  obtain ⟨y_1, hcl2, hm2⟩ := bd1_some hm0; clear hm0
  have sb3 := ctS.mk (n := 10) (k := 0) (pre := [oB (r0 0) 2 [.ref (r0 1), .ref (r0 2), .ref (r0 3), .ref (r0 4), .ref (r0 5)], aI (r0 3) cI 64 w_square, oB (r1 0) 0 [.ref (r1 1), .ref (r1 2), .ref (r1 3), .ref (r1 4), .ref (r1 5), .ref (r1 6), .int f_columns, .int f_rows, .int f_scale, .int f_toEnd, .int f_between, .int f_kept], aI (r1 1) cI 36 f_modes, aI (r1 2) cI 36 f_across, aI (r1 3) cI 36 f_down, oB (r2 0) 3 [.ref (r2 1), .int p2_width, .int p2_height], aI (r2 1) cI 2304 p2_samples, oB (r3 0) 3 [.ref (r3 1), .int p3_width, .int p3_height], aI (r3 1) cI 2304 p3_samples]) (tl := []) [2] [0, 1, 3, 4, 5, 6, 7, 8, 9] [] [] rfl rfl (by decide +kernel) (by decide +kernel)
  refine ct_calli (r := y_1) E sb3 hP0 hD0 hS0 (va_runV (As := [.int x2, .int x3]) (rest := []) ⟨hx, hb, hml, hown, hts⟩ (c_X0_index l D cB cI cJ cQ N r1 s.heap.size x2 x3 f_columns f_rows f_scale f_toEnd f_between f_kept (y_1) hcl2) (cwV 2 hts gX2_paintBlock_X0_index rfl rfl rfl cdV_X0_index ⟨Nat.le_of_ble_eq_true rfl, Nat.le_of_ble_eq_true rfl⟩) (ct_preV (q0 := 2) (ci := 0) E sb3 hP0 hD0 hS0 rfl rfl) rfl rfl hl0.1 rfl (lv_room (Nat.le_of_ble_eq_true rfl)) dX2_paintBlock_3 ⟨Nat.zero_le _, Nat.zero_le _⟩) (fun H4 lc4 hP4 hD4 hS4 => ?_); clear sb3 hcl2
  clear hP0 hD0 hS0
  have hP4 : va_P D vwCl (wf [oB (r0 0) 2 [.ref (r0 1), .ref (r0 2), .ref (r0 3), .ref (r0 4), .ref (r0 5)], aI (r0 3) cI 64 w_square, aI (r1 1) cI 36 f_modes, aI (r1 2) cI 36 f_across, aI (r1 3) cI 36 f_down, oB (r2 0) 3 [.ref (r2 1), .int p2_width, .int p2_height], aI (r2 1) cI 2304 p2_samples, oB (r3 0) 3 [.ref (r3 1), .int p3_width, .int p3_height], aI (r3 1) cI 2304 p3_samples, oB (r1 0) 0 [.ref (r1 1), .ref (r1 2), .ref (r1 3), .ref (r1 4), .ref (r1 5), .ref (r1 6), .int f_columns, .int f_rows, .int f_scale, .int f_toEnd, .int f_between, .int f_kept]] []) H4 := hP4
  have hD4 : va_D A (wf [oB (r0 0) 2 [.ref (r0 1), .ref (r0 2), .ref (r0 3), .ref (r0 4), .ref (r0 5)], aI (r0 3) cI 64 w_square, aI (r1 1) cI 36 f_modes, aI (r1 2) cI 36 f_across, aI (r1 3) cI 36 f_down, oB (r2 0) 3 [.ref (r2 1), .int p2_width, .int p2_height], aI (r2 1) cI 2304 p2_samples, oB (r3 0) 3 [.ref (r3 1), .int p3_width, .int p3_height], aI (r3 1) cI 2304 p3_samples, oB (r1 0) 0 [.ref (r1 1), .ref (r1 2), .ref (r1 3), .ref (r1 4), .ref (r1 5), .ref (r1 6), .int f_columns, .int f_rows, .int f_scale, .int f_toEnd, .int f_between, .int f_kept]] []) := hD4
  refine lv_istore (lv' := [(6, .int y_1), (0, .ref (r0 0)), (1, .ref (r1 0)), (2, .int x2), (3, .int x3), (4, .ref (r2 0)), (5, .ref (r3 0))]) hx hb dX2_paintBlock_6 hl0 (by decide) rfl (fun ls5 hl5 => ?_); clear hl0
  refine lv_iconst (v := 0) hx hb dX2_paintBlock_8 (by decide) ?_
  refine lv_istore (lv' := [(7, .int (0 : Int32)), (6, .int y_1), (0, .ref (r0 0)), (1, .ref (r1 0)), (2, .int x2), (3, .int x3), (4, .ref (r2 0)), (5, .ref (r3 0))]) hx hb dX2_paintBlock_9 hl5 (by decide) rfl (fun ls6 hl6 => ?_); clear hl5
  obtain ⟨p3_samples_57, hlp7, hm58⟩ := bd1_some hm2; clear hm2
  have LP7 : ∀ (n : Nat) (p3_samples_8 : Nat → Int32) (v7_9 : Int32) (z7 : (Nat → Int32)) (H10 : Heap) (lc10 : List Loc) (ls10 : Array Slot), f_X2_paintBlock_L11 x2 x3 w_square f_modes f_across f_down p2_width p2_height p2_samples p3_width y_1 n p3_samples_8 v7_9 = some z7 → va_P D vwCl (wf [oB (r0 0) 2 [.ref (r0 1), .ref (r0 2), .ref (r0 3), .ref (r0 4), .ref (r0 5)], aI (r0 3) cI 64 w_square, aI (r1 1) cI 36 f_modes, aI (r1 2) cI 36 f_across, aI (r1 3) cI 36 f_down, oB (r2 0) 3 [.ref (r2 1), .int p2_width, .int p2_height], aI (r2 1) cI 2304 p2_samples, oB (r3 0) 3 [.ref (r3 1), .int p3_width, .int p3_height], aI (r3 1) cI 2304 p3_samples_8, oB (r1 0) 0 [.ref (r1 1), .ref (r1 2), .ref (r1 3), .ref (r1 4), .ref (r1 5), .ref (r1 6), .int f_columns, .int f_rows, .int f_scale, .int f_toEnd, .int f_between, .int f_kept]] []) H10 → va_D A (wf [oB (r0 0) 2 [.ref (r0 1), .ref (r0 2), .ref (r0 3), .ref (r0 4), .ref (r0 5)], aI (r0 3) cI 64 w_square, aI (r1 1) cI 36 f_modes, aI (r1 2) cI 36 f_across, aI (r1 3) cI 36 f_down, oB (r2 0) 3 [.ref (r2 1), .int p2_width, .int p2_height], aI (r2 1) cI 2304 p2_samples, oB (r3 0) 3 [.ref (r3 1), .int p3_width, .int p3_height], aI (r3 1) cI 2304 p3_samples_8, oB (r1 0) 0 [.ref (r1 1), .ref (r1 2), .ref (r1 3), .ref (r1 4), .ref (r1 5), .ref (r1 6), .int f_columns, .int f_rows, .int f_scale, .int f_toEnd, .int f_between, .int f_kept]] []) → va_S A s.heap H10 lc10 → lv_has ls10 11 [(0, .ref (r0 0)), (1, .ref (r1 0)), (2, .int x2), (3, .int x3), (4, .ref (r2 0)), (5, .ref (r3 0)), (6, .int y_1), (7, .int v7_9)] → (∀ (H : Heap) (lc : List Loc) (ls : Array Slot), va_P D vwCl (wf [oB (r0 0) 2 [.ref (r0 1), .ref (r0 2), .ref (r0 3), .ref (r0 4), .ref (r0 5)], aI (r0 3) cI 64 w_square, aI (r1 1) cI 36 f_modes, aI (r1 2) cI 36 f_across, aI (r1 3) cI 36 f_down, oB (r2 0) 3 [.ref (r2 1), .int p2_width, .int p2_height], aI (r2 1) cI 2304 p2_samples, oB (r3 0) 3 [.ref (r3 1), .int p3_width, .int p3_height], aI (r3 1) cI 2304 z7, oB (r1 0) 0 [.ref (r1 1), .ref (r1 2), .ref (r1 3), .ref (r1 4), .ref (r1 5), .ref (r1 6), .int f_columns, .int f_rows, .int f_scale, .int f_toEnd, .int f_between, .int f_kept]] []) H → va_D A (wf [oB (r0 0) 2 [.ref (r0 1), .ref (r0 2), .ref (r0 3), .ref (r0 4), .ref (r0 5)], aI (r0 3) cI 64 w_square, aI (r1 1) cI 36 f_modes, aI (r1 2) cI 36 f_across, aI (r1 3) cI 36 f_down, oB (r2 0) 3 [.ref (r2 1), .int p2_width, .int p2_height], aI (r2 1) cI 2304 p2_samples, oB (r3 0) 3 [.ref (r3 1), .int p3_width, .int p3_height], aI (r3 1) cI 2304 z7, oB (r1 0) 0 [.ref (r1 1), .ref (r1 2), .ref (r1 3), .ref (r1 4), .ref (r1 5), .ref (r1 6), .int f_columns, .int f_rows, .int f_scale, .int f_toEnd, .int f_between, .int f_kept]] []) → va_S A s.heap H lc → lv_has ls 11 [] → W p l e rm_X2_paintBlock s m args below meth c H lc 0 0 QQ (F0 m 106 ls [])) → W p l e rm_X2_paintBlock s m args below meth c H10 lc10 0 0 QQ (F0 m 11 ls10 []) := by
    intro n
    induction n with
    | zero =>
      intro p3_samples_8 v7_9 z7 H10 lc10 ls10 hm12; simp [f_X2_paintBlock_L11] at hm12
    | succ n ih =>
      intro p3_samples_8 v7_9 z7 H10 lc10 ls10 hm12 hP10 hD10 hS10 hl10 kx
      rw [f_X2_paintBlock_L11] at hm12
      refine lv_iload hx hb dX2_paintBlock_11 (lv_at hl10 7 rfl) ?_
      refine lv_bipush (v := 64) hx hb dX2_paintBlock_13 (by decide) ?_
      refine lv_icmp_ge (tgt := 106) hx hb dX2_paintBlock_15 (by decide) (fun hc13 => ?_) (fun hc13 => ?_)
      · have hm14 := bq_t hm12 hc13; clear hm12
        obtain rfl := Option.some.inj hm14
        exact kx _ _ _ hP10 hD10 hS10 (lv_sub hl10 [] rfl)
      · have hm15 := bq_f hm12 hc13; clear hm12
        refine lv_iload_n hx hb dX2_paintBlock_18 rfl (lv_at hl10 2 rfl) ?_
        refine lv_bipush (v := 8) hx hb dX2_paintBlock_19 (by decide) ?_
        refine lv_imul hx hb dX2_paintBlock_21 ?_
        refine lv_iload hx hb dX2_paintBlock_22 (lv_at hl10 7 rfl) ?_
        refine lv_bipush (v := 8) hx hb dX2_paintBlock_24 (by decide) ?_
        refine lv_irem hx hb dX2_paintBlock_26 (by decide) ?_
        refine lv_iadd hx hb dX2_paintBlock_27 ?_
        obtain ⟨v8_16, ev8_16, hm17⟩ := nm_some hm15; clear hm15
        refine ct_topi ev8_16 ?_
        refine lv_istore (lv' := [(8, .int v8_16), (0, .ref (r0 0)), (1, .ref (r1 0)), (2, .int x2), (3, .int x3), (4, .ref (r2 0)), (5, .ref (r3 0)), (6, .int y_1), (7, .int v7_9)]) hx hb dX2_paintBlock_28 hl10 (by decide) rfl (fun ls18 hl18 => ?_); clear hl10
        refine lv_iload_n hx hb dX2_paintBlock_30 rfl (lv_at hl18 4 rfl) ?_
        refine lv_bipush (v := 8) hx hb dX2_paintBlock_31 (by decide) ?_
        refine lv_imul hx hb dX2_paintBlock_33 ?_
        refine lv_iload hx hb dX2_paintBlock_34 (lv_at hl18 8 rfl) ?_
        refine lv_bipush (v := 8) hx hb dX2_paintBlock_36 (by decide) ?_
        refine lv_idiv hx hb dX2_paintBlock_38 (by decide) ?_
        refine lv_iadd hx hb dX2_paintBlock_39 ?_
        obtain ⟨v9_19, ev9_19, hm20⟩ := nm_some hm17; clear hm17
        refine ct_topi ev9_19 ?_
        refine lv_istore (lv' := [(9, .int v9_19), (8, .int v8_16), (0, .ref (r0 0)), (1, .ref (r1 0)), (2, .int x2), (3, .int x3), (4, .ref (r2 0)), (5, .ref (r3 0)), (6, .int y_1), (7, .int v7_9)]) hx hb dX2_paintBlock_40 hl18 (by decide) rfl (fun ls21 hl21 => ?_); clear hl18
        refine lv_aload_n hx hb dX2_paintBlock_42 rfl (lv_at hl21 3 rfl) ?_
        refine lv_iload hx hb dX2_paintBlock_43 (lv_at hl21 8 rfl) ?_
        obtain ⟨y_22, hcl23, hm23⟩ := bd1_some hm20; clear hm20
        have sb24 := ctS.mk (n := 10) (k := 0) (pre := [oB (r0 0) 2 [.ref (r0 1), .ref (r0 2), .ref (r0 3), .ref (r0 4), .ref (r0 5)], aI (r0 3) cI 64 w_square, aI (r1 1) cI 36 f_modes, aI (r1 2) cI 36 f_across, aI (r1 3) cI 36 f_down, oB (r2 0) 3 [.ref (r2 1), .int p2_width, .int p2_height], aI (r2 1) cI 2304 p2_samples, oB (r3 0) 3 [.ref (r3 1), .int p3_width, .int p3_height], aI (r3 1) cI 2304 p3_samples_8, oB (r1 0) 0 [.ref (r1 1), .ref (r1 2), .ref (r1 3), .ref (r1 4), .ref (r1 5), .ref (r1 6), .int f_columns, .int f_rows, .int f_scale, .int f_toEnd, .int f_between, .int f_kept]]) (tl := []) [9, 2] [0, 1, 3, 4, 5, 6, 7, 8] [] [] rfl rfl (by decide +kernel) (by decide +kernel)
        refine ct_calli (r := y_22) E sb24 hP10 hD10 hS10 (va_runV (As := [.int y_1]) (rest := []) ⟨hx, hb, hml, hown, hts⟩ (c_X0_mode l D cB cI cJ cQ N r1 H10.size y_1 f_columns f_rows f_scale f_toEnd f_between f_kept f_modes (y_22) hcl23) (cwV 1 hts gX2_paintBlock_X0_mode rfl rfl rfl cdV_X0_mode ⟨Nat.le_of_ble_eq_true rfl, Nat.le_of_ble_eq_true rfl⟩) (ct_preV (q0 := 9) (ci := 0) E sb24 hP10 hD10 hS10 rfl rfl) rfl rfl hl21.1 rfl (lv_room (Nat.le_of_ble_eq_true rfl)) dX2_paintBlock_45 ⟨Nat.zero_le _, Nat.zero_le _⟩) (fun H25 lc25 hP25 hD25 hS25 => ?_); clear sb24 hcl23
        clear hP10 hD10 hS10
        have hP25 : va_P D vwCl (wf [oB (r0 0) 2 [.ref (r0 1), .ref (r0 2), .ref (r0 3), .ref (r0 4), .ref (r0 5)], aI (r0 3) cI 64 w_square, aI (r1 2) cI 36 f_across, aI (r1 3) cI 36 f_down, oB (r2 0) 3 [.ref (r2 1), .int p2_width, .int p2_height], aI (r2 1) cI 2304 p2_samples, oB (r3 0) 3 [.ref (r3 1), .int p3_width, .int p3_height], aI (r3 1) cI 2304 p3_samples_8, oB (r1 0) 0 [.ref (r1 1), .ref (r1 2), .ref (r1 3), .ref (r1 4), .ref (r1 5), .ref (r1 6), .int f_columns, .int f_rows, .int f_scale, .int f_toEnd, .int f_between, .int f_kept], aI (r1 1) cI 36 f_modes] []) H25 := hP25
        have hD25 : va_D A (wf [oB (r0 0) 2 [.ref (r0 1), .ref (r0 2), .ref (r0 3), .ref (r0 4), .ref (r0 5)], aI (r0 3) cI 64 w_square, aI (r1 2) cI 36 f_across, aI (r1 3) cI 36 f_down, oB (r2 0) 3 [.ref (r2 1), .int p2_width, .int p2_height], aI (r2 1) cI 2304 p2_samples, oB (r3 0) 3 [.ref (r3 1), .int p3_width, .int p3_height], aI (r3 1) cI 2304 p3_samples_8, oB (r1 0) 0 [.ref (r1 1), .ref (r1 2), .ref (r1 3), .ref (r1 4), .ref (r1 5), .ref (r1 6), .int f_columns, .int f_rows, .int f_scale, .int f_toEnd, .int f_between, .int f_kept], aI (r1 1) cI 36 f_modes] []) := hD25
        refine lv_iconst (v := 2) hx hb dX2_paintBlock_48 (by decide) ?_
        obtain ⟨k27, ek27, hm27⟩ := jn_some hm23; clear hm23
        have KJ27 : ∀ (k0_28 : Int32) (H29 : Heap) (lc29 : List Loc) (ls29 : Array Slot), k27 k0_28 = some z7 → va_P D vwCl (wf [oB (r0 0) 2 [.ref (r0 1), .ref (r0 2), .ref (r0 3), .ref (r0 4), .ref (r0 5)], aI (r0 3) cI 64 w_square, aI (r1 2) cI 36 f_across, aI (r1 3) cI 36 f_down, oB (r2 0) 3 [.ref (r2 1), .int p2_width, .int p2_height], aI (r2 1) cI 2304 p2_samples, oB (r3 0) 3 [.ref (r3 1), .int p3_width, .int p3_height], aI (r3 1) cI 2304 p3_samples_8, oB (r1 0) 0 [.ref (r1 1), .ref (r1 2), .ref (r1 3), .ref (r1 4), .ref (r1 5), .ref (r1 6), .int f_columns, .int f_rows, .int f_scale, .int f_toEnd, .int f_between, .int f_kept], aI (r1 1) cI 36 f_modes] []) H29 → va_D A (wf [oB (r0 0) 2 [.ref (r0 1), .ref (r0 2), .ref (r0 3), .ref (r0 4), .ref (r0 5)], aI (r0 3) cI 64 w_square, aI (r1 2) cI 36 f_across, aI (r1 3) cI 36 f_down, oB (r2 0) 3 [.ref (r2 1), .int p2_width, .int p2_height], aI (r2 1) cI 2304 p2_samples, oB (r3 0) 3 [.ref (r3 1), .int p3_width, .int p3_height], aI (r3 1) cI 2304 p3_samples_8, oB (r1 0) 0 [.ref (r1 1), .ref (r1 2), .ref (r1 3), .ref (r1 4), .ref (r1 5), .ref (r1 6), .int f_columns, .int f_rows, .int f_scale, .int f_toEnd, .int f_between, .int f_kept], aI (r1 1) cI 36 f_modes] []) → va_S A s.heap H29 lc29 → lv_has ls29 11 [(0, .ref (r0 0)), (1, .ref (r1 0)), (2, .int x2), (3, .int x3), (4, .ref (r2 0)), (5, .ref (r3 0)), (6, .int y_1), (7, .int v7_9), (8, .int v8_16), (9, .int v9_19)] → W p l e rm_X2_paintBlock s m args below meth c H29 lc29 0 0 QQ (F0 m 79 ls29 [.int k0_28]) := by
          intro k0_28 H29 lc29 ls29 hm30 hP29 hD29 hS29 hl29
          rw [ek27] at hm30
          refine lv_istore (lv' := [(10, .int k0_28), (0, .ref (r0 0)), (1, .ref (r1 0)), (2, .int x2), (3, .int x3), (4, .ref (r2 0)), (5, .ref (r3 0)), (6, .int y_1), (7, .int v7_9), (8, .int v8_16), (9, .int v9_19)]) hx hb dX2_paintBlock_79 hl29 (by decide) rfl (fun ls31 hl31 => ?_); clear hl29
          refine lv_aload hx hb dX2_paintBlock_81 (lv_at hl31 6 rfl) ?_
          refine lv_iload hx hb dX2_paintBlock_83 (lv_at hl31 9 rfl) ?_
          refine lv_iload hx hb dX2_paintBlock_85 (lv_at hl31 10 rfl) ?_
          refine lv_iload hx hb dX2_paintBlock_87 (lv_at hl31 0 rfl) ?_
          refine lv_aload_n hx hb dX2_paintBlock_89 rfl (lv_at hl31 1 rfl) ?_
          refine va_get (D := D) (ci := 2) (v := .ref (r0 3)) (C := RX2) (T := TX2) (N := 5) hx hb hts hi_X2_paintBlock_2 hown E.1 hP29 0 rfl rfl 2 (by decide) (hts _ (List.mem_of_getElem? (i := 1) rfl)) (fun _ h9 => h9) rfl dX2_paintBlock_90 ?_
          refine lv_iload hx hb dX2_paintBlock_93 (lv_at hl31 8 rfl) ?_
          obtain ⟨hin32, hm32⟩ := gi_some hm30; clear hm30
          refine va_iald hx hb E.1 hP29 1 0 rfl rfl hin32 dX2_paintBlock_95 ?_
          refine lv_iadd hx hb dX2_paintBlock_96 ?_
          obtain ⟨p3_samples_33, hcl34, hm34⟩ := bd1_some hm32; clear hm32
          have sb35 := ctS.mk (n := 10) (k := 0) (pre := [oB (r0 0) 2 [.ref (r0 1), .ref (r0 2), .ref (r0 3), .ref (r0 4), .ref (r0 5)], aI (r0 3) cI 64 w_square, aI (r1 2) cI 36 f_across, aI (r1 3) cI 36 f_down, oB (r2 0) 3 [.ref (r2 1), .int p2_width, .int p2_height], aI (r2 1) cI 2304 p2_samples, oB (r3 0) 3 [.ref (r3 1), .int p3_width, .int p3_height], aI (r3 1) cI 2304 p3_samples_8, oB (r1 0) 0 [.ref (r1 1), .ref (r1 2), .ref (r1 3), .ref (r1 4), .ref (r1 5), .ref (r1 6), .int f_columns, .int f_rows, .int f_scale, .int f_toEnd, .int f_between, .int f_kept], aI (r1 1) cI 36 f_modes]) (tl := []) [6, 7] [0, 1, 2, 3, 4, 5, 8, 9] [] [] rfl rfl (by decide +kernel) (by decide +kernel)
          refine ct_callv E sb35 hP29 hD29 hS29 (va_runV (As := [.int v8_16, .int v9_19, .int (k0_28 + (w_square v7_9.toNatClampNeg))]) (rest := []) ⟨hx, hb, hml, hown, hts⟩ (c_X3_put l D cB cI cJ cQ N r3 H29.size v8_16 v9_19 (k0_28 + (w_square v7_9.toNatClampNeg)) p3_width p3_height p3_samples_8 (p3_samples_33) hcl34) (cwV 3 hts gX2_paintBlock_X3_put rfl rfl rfl cdV_X3_put ⟨Nat.le_of_ble_eq_true rfl, Nat.le_of_ble_eq_true rfl⟩) (ct_preV (q0 := 6) (ci := 3) E sb35 hP29 hD29 hS29 rfl rfl) rfl rfl hl31.1 rfl (lv_room (Nat.le_of_ble_eq_true rfl)) dX2_paintBlock_97 ⟨Nat.zero_le _, Nat.zero_le _⟩) (fun H36 lc36 hP36 hD36 hS36 => ?_); clear sb35 hcl34
          clear hP29 hD29 hS29
          have hP36 : va_P D vwCl (wf [oB (r0 0) 2 [.ref (r0 1), .ref (r0 2), .ref (r0 3), .ref (r0 4), .ref (r0 5)], aI (r0 3) cI 64 w_square, aI (r1 2) cI 36 f_across, aI (r1 3) cI 36 f_down, oB (r2 0) 3 [.ref (r2 1), .int p2_width, .int p2_height], aI (r2 1) cI 2304 p2_samples, oB (r1 0) 0 [.ref (r1 1), .ref (r1 2), .ref (r1 3), .ref (r1 4), .ref (r1 5), .ref (r1 6), .int f_columns, .int f_rows, .int f_scale, .int f_toEnd, .int f_between, .int f_kept], aI (r1 1) cI 36 f_modes, oB (r3 0) 3 [.ref (r3 1), .int p3_width, .int p3_height], aI (r3 1) cI 2304 p3_samples_33] []) H36 := hP36
          have hD36 : va_D A (wf [oB (r0 0) 2 [.ref (r0 1), .ref (r0 2), .ref (r0 3), .ref (r0 4), .ref (r0 5)], aI (r0 3) cI 64 w_square, aI (r1 2) cI 36 f_across, aI (r1 3) cI 36 f_down, oB (r2 0) 3 [.ref (r2 1), .int p2_width, .int p2_height], aI (r2 1) cI 2304 p2_samples, oB (r1 0) 0 [.ref (r1 1), .ref (r1 2), .ref (r1 3), .ref (r1 4), .ref (r1 5), .ref (r1 6), .int f_columns, .int f_rows, .int f_scale, .int f_toEnd, .int f_between, .int f_kept], aI (r1 1) cI 36 f_modes, oB (r3 0) 3 [.ref (r3 1), .int p3_width, .int p3_height], aI (r3 1) cI 2304 p3_samples_33] []) := hD36
          obtain ⟨v7_37, ev7_37, hm38⟩ := nm_some hm34; clear hm34
          refine lv_iinc (v := v7_37) (lv' := [(7, .int v7_37), (10, .int k0_28), (0, .ref (r0 0)), (1, .ref (r1 0)), (2, .int x2), (3, .int x3), (4, .ref (r2 0)), (5, .ref (r3 0)), (6, .int y_1), (8, .int v8_16), (9, .int v9_19)]) hx hb dX2_paintBlock_100 hl31 (k := 8) rfl (by rw [ev7_37]; rfl) (by decide) rfl (fun ls39 hl39 => ?_); clear hl31
          refine lv_goto (tgt := 11) hx hb dX2_paintBlock_103 (by decide) ?_
          obtain ⟨hP40, hD40⟩ := ct_ord (n := 10) (k := 0) [0, 1, 7, 2, 3, 4, 5, 8, 9, 6] [] hP36 hD36 rfl rfl (by decide +kernel) (by decide +kernel)
          have hS40 := hS36
          have hP40 : va_P D vwCl (wf [oB (r0 0) 2 [.ref (r0 1), .ref (r0 2), .ref (r0 3), .ref (r0 4), .ref (r0 5)], aI (r0 3) cI 64 w_square, aI (r1 1) cI 36 f_modes, aI (r1 2) cI 36 f_across, aI (r1 3) cI 36 f_down, oB (r2 0) 3 [.ref (r2 1), .int p2_width, .int p2_height], aI (r2 1) cI 2304 p2_samples, oB (r3 0) 3 [.ref (r3 1), .int p3_width, .int p3_height], aI (r3 1) cI 2304 p3_samples_33, oB (r1 0) 0 [.ref (r1 1), .ref (r1 2), .ref (r1 3), .ref (r1 4), .ref (r1 5), .ref (r1 6), .int f_columns, .int f_rows, .int f_scale, .int f_toEnd, .int f_between, .int f_kept]] []) H36 := hP40
          have hD40 : va_D A (wf [oB (r0 0) 2 [.ref (r0 1), .ref (r0 2), .ref (r0 3), .ref (r0 4), .ref (r0 5)], aI (r0 3) cI 64 w_square, aI (r1 1) cI 36 f_modes, aI (r1 2) cI 36 f_across, aI (r1 3) cI 36 f_down, oB (r2 0) 3 [.ref (r2 1), .int p2_width, .int p2_height], aI (r2 1) cI 2304 p2_samples, oB (r3 0) 3 [.ref (r3 1), .int p3_width, .int p3_height], aI (r3 1) cI 2304 p3_samples_33, oB (r1 0) 0 [.ref (r1 1), .ref (r1 2), .ref (r1 3), .ref (r1 4), .ref (r1 5), .ref (r1 6), .int f_columns, .int f_rows, .int f_scale, .int f_toEnd, .int f_between, .int f_kept]] []) := hD40
          exact ih p3_samples_33 v7_37 _ _ _ _ hm38 hP40 hD40 hS40 (lv_sub hl39 [2, 3, 4, 5, 6, 7, 8, 0] rfl) kx
        refine lv_icmp_ne (tgt := 58) hx hb dX2_paintBlock_49 (by decide) (fun hc41 => ?_) (fun hc41 => ?_)
        · have hm42 := bq_f hm27 hc41; clear hm27
          refine lv_aload hx hb dX2_paintBlock_58 (lv_at hl21 6 rfl) ?_
          refine lv_iload hx hb dX2_paintBlock_60 (lv_at hl21 1 rfl) ?_
          refine lv_iload hx hb dX2_paintBlock_62 (lv_at hl21 0 rfl) ?_
          refine lv_aload_n hx hb dX2_paintBlock_64 rfl (lv_at hl21 3 rfl) ?_
          refine lv_iload hx hb dX2_paintBlock_65 (lv_at hl21 8 rfl) ?_
          obtain ⟨y_43, hcl44, hm44⟩ := bd1_some hm42; clear hm42
          have sb45 := ctS.mk (n := 10) (k := 0) (pre := [oB (r0 0) 2 [.ref (r0 1), .ref (r0 2), .ref (r0 3), .ref (r0 4), .ref (r0 5)], aI (r0 3) cI 64 w_square, aI (r1 2) cI 36 f_across, aI (r1 3) cI 36 f_down, oB (r2 0) 3 [.ref (r2 1), .int p2_width, .int p2_height], aI (r2 1) cI 2304 p2_samples, oB (r3 0) 3 [.ref (r3 1), .int p3_width, .int p3_height], aI (r3 1) cI 2304 p3_samples_8, oB (r1 0) 0 [.ref (r1 1), .ref (r1 2), .ref (r1 3), .ref (r1 4), .ref (r1 5), .ref (r1 6), .int f_columns, .int f_rows, .int f_scale, .int f_toEnd, .int f_between, .int f_kept], aI (r1 1) cI 36 f_modes]) (tl := []) [8, 2] [0, 1, 3, 4, 5, 6, 7, 9] [] [] rfl rfl (by decide +kernel) (by decide +kernel)
          refine ct_calli (r := y_43) E sb45 hP25 hD25 hS25 (va_runV (As := [.int y_1]) (rest := [.int v9_19, .int v8_16, .ref (r2 0)]) ⟨hx, hb, hml, hown, hts⟩ (c_X0_across l D cB cI cJ cQ N r1 H25.size y_1 f_columns f_rows f_scale f_toEnd f_between f_kept f_across (y_43) hcl44) (cwV 1 hts gX2_paintBlock_X0_across rfl rfl rfl cdV_X0_across ⟨Nat.le_of_ble_eq_true rfl, Nat.le_of_ble_eq_true rfl⟩) (ct_preV (q0 := 8) (ci := 0) E sb45 hP25 hD25 hS25 rfl rfl) rfl rfl hl21.1 rfl (lv_room (Nat.le_of_ble_eq_true rfl)) dX2_paintBlock_67 ⟨Nat.zero_le _, Nat.zero_le _⟩) (fun H46 lc46 hP46 hD46 hS46 => ?_); clear sb45 hcl44
          clear hP25 hD25 hS25
          have hP46 : va_P D vwCl (wf [oB (r0 0) 2 [.ref (r0 1), .ref (r0 2), .ref (r0 3), .ref (r0 4), .ref (r0 5)], aI (r0 3) cI 64 w_square, aI (r1 3) cI 36 f_down, oB (r2 0) 3 [.ref (r2 1), .int p2_width, .int p2_height], aI (r2 1) cI 2304 p2_samples, oB (r3 0) 3 [.ref (r3 1), .int p3_width, .int p3_height], aI (r3 1) cI 2304 p3_samples_8, aI (r1 1) cI 36 f_modes, oB (r1 0) 0 [.ref (r1 1), .ref (r1 2), .ref (r1 3), .ref (r1 4), .ref (r1 5), .ref (r1 6), .int f_columns, .int f_rows, .int f_scale, .int f_toEnd, .int f_between, .int f_kept], aI (r1 2) cI 36 f_across] []) H46 := hP46
          have hD46 : va_D A (wf [oB (r0 0) 2 [.ref (r0 1), .ref (r0 2), .ref (r0 3), .ref (r0 4), .ref (r0 5)], aI (r0 3) cI 64 w_square, aI (r1 3) cI 36 f_down, oB (r2 0) 3 [.ref (r2 1), .int p2_width, .int p2_height], aI (r2 1) cI 2304 p2_samples, oB (r3 0) 3 [.ref (r3 1), .int p3_width, .int p3_height], aI (r3 1) cI 2304 p3_samples_8, aI (r1 1) cI 36 f_modes, oB (r1 0) 0 [.ref (r1 1), .ref (r1 2), .ref (r1 3), .ref (r1 4), .ref (r1 5), .ref (r1 6), .int f_columns, .int f_rows, .int f_scale, .int f_toEnd, .int f_between, .int f_kept], aI (r1 2) cI 36 f_across] []) := hD46
          refine lv_aload_n hx hb dX2_paintBlock_70 rfl (lv_at hl21 3 rfl) ?_
          refine lv_iload hx hb dX2_paintBlock_71 (lv_at hl21 8 rfl) ?_
          obtain ⟨y_47, hcl48, hm48⟩ := bd1_some hm44; clear hm44
          have sb49 := ctS.mk (n := 10) (k := 0) (pre := [oB (r0 0) 2 [.ref (r0 1), .ref (r0 2), .ref (r0 3), .ref (r0 4), .ref (r0 5)], aI (r0 3) cI 64 w_square, aI (r1 3) cI 36 f_down, oB (r2 0) 3 [.ref (r2 1), .int p2_width, .int p2_height], aI (r2 1) cI 2304 p2_samples, oB (r3 0) 3 [.ref (r3 1), .int p3_width, .int p3_height], aI (r3 1) cI 2304 p3_samples_8, aI (r1 1) cI 36 f_modes, oB (r1 0) 0 [.ref (r1 1), .ref (r1 2), .ref (r1 3), .ref (r1 4), .ref (r1 5), .ref (r1 6), .int f_columns, .int f_rows, .int f_scale, .int f_toEnd, .int f_between, .int f_kept], aI (r1 2) cI 36 f_across]) (tl := []) [8, 2] [0, 1, 3, 4, 5, 6, 7, 9] [] [] rfl rfl (by decide +kernel) (by decide +kernel)
          refine ct_calli (r := y_47) E sb49 hP46 hD46 hS46 (va_runV (As := [.int y_1]) (rest := [.int y_43, .int v9_19, .int v8_16, .ref (r2 0)]) ⟨hx, hb, hml, hown, hts⟩ (c_X0_down l D cB cI cJ cQ N r1 H46.size y_1 f_columns f_rows f_scale f_toEnd f_between f_kept f_down (y_47) hcl48) (cwV 1 hts gX2_paintBlock_X0_down rfl rfl rfl cdV_X0_down ⟨Nat.le_of_ble_eq_true rfl, Nat.le_of_ble_eq_true rfl⟩) (ct_preV (q0 := 8) (ci := 0) E sb49 hP46 hD46 hS46 rfl rfl) rfl rfl hl21.1 rfl (lv_room (Nat.le_of_ble_eq_true rfl)) dX2_paintBlock_73 ⟨Nat.zero_le _, Nat.zero_le _⟩) (fun H50 lc50 hP50 hD50 hS50 => ?_); clear sb49 hcl48
          clear hP46 hD46 hS46
          have hP50 : va_P D vwCl (wf [oB (r0 0) 2 [.ref (r0 1), .ref (r0 2), .ref (r0 3), .ref (r0 4), .ref (r0 5)], aI (r0 3) cI 64 w_square, oB (r2 0) 3 [.ref (r2 1), .int p2_width, .int p2_height], aI (r2 1) cI 2304 p2_samples, oB (r3 0) 3 [.ref (r3 1), .int p3_width, .int p3_height], aI (r3 1) cI 2304 p3_samples_8, aI (r1 1) cI 36 f_modes, aI (r1 2) cI 36 f_across, oB (r1 0) 0 [.ref (r1 1), .ref (r1 2), .ref (r1 3), .ref (r1 4), .ref (r1 5), .ref (r1 6), .int f_columns, .int f_rows, .int f_scale, .int f_toEnd, .int f_between, .int f_kept], aI (r1 3) cI 36 f_down] []) H50 := hP50
          have hD50 : va_D A (wf [oB (r0 0) 2 [.ref (r0 1), .ref (r0 2), .ref (r0 3), .ref (r0 4), .ref (r0 5)], aI (r0 3) cI 64 w_square, oB (r2 0) 3 [.ref (r2 1), .int p2_width, .int p2_height], aI (r2 1) cI 2304 p2_samples, oB (r3 0) 3 [.ref (r3 1), .int p3_width, .int p3_height], aI (r3 1) cI 2304 p3_samples_8, aI (r1 1) cI 36 f_modes, aI (r1 2) cI 36 f_across, oB (r1 0) 0 [.ref (r1 1), .ref (r1 2), .ref (r1 3), .ref (r1 4), .ref (r1 5), .ref (r1 6), .int f_columns, .int f_rows, .int f_scale, .int f_toEnd, .int f_between, .int f_kept], aI (r1 3) cI 36 f_down] []) := hD50
          obtain ⟨y_51, hcl52, hm52⟩ := bd1_some hm48; clear hm48
          have sb53 := ctS.mk (n := 10) (k := 0) (pre := [oB (r0 0) 2 [.ref (r0 1), .ref (r0 2), .ref (r0 3), .ref (r0 4), .ref (r0 5)], aI (r0 3) cI 64 w_square, oB (r2 0) 3 [.ref (r2 1), .int p2_width, .int p2_height], aI (r2 1) cI 2304 p2_samples, oB (r3 0) 3 [.ref (r3 1), .int p3_width, .int p3_height], aI (r3 1) cI 2304 p3_samples_8, aI (r1 1) cI 36 f_modes, aI (r1 2) cI 36 f_across, oB (r1 0) 0 [.ref (r1 1), .ref (r1 2), .ref (r1 3), .ref (r1 4), .ref (r1 5), .ref (r1 6), .int f_columns, .int f_rows, .int f_scale, .int f_toEnd, .int f_between, .int f_kept], aI (r1 3) cI 36 f_down]) (tl := []) [2, 3] [0, 1, 4, 5, 6, 7, 8, 9] [] [] rfl rfl (by decide +kernel) (by decide +kernel)
          refine ct_calli (r := y_51) E sb53 hP50 hD50 hS50 (va_runS (As := [.ref (r2 0), .int v8_16, .int v9_19, .int y_43, .int y_47]) (rest := []) ⟨hx, hb, hml, hown, hts⟩ (c_X2_moved l D cB cI cJ cQ N r2 H50.size v8_16 v9_19 y_43 y_47 p2_width p2_height p2_samples (y_51) hcl52) (va_cwS 5 hts gX2_paintBlock_X2_moved rfl rfl rfl cdS_X2_moved ⟨Nat.le_of_ble_eq_true rfl, Nat.le_of_ble_eq_true rfl⟩) (ct_preS E sb53 hP50 hD50 hS50) rfl rfl hl21.1 rfl (lv_room (Nat.le_of_ble_eq_true rfl)) dX2_paintBlock_76 ⟨Nat.zero_le _, Nat.zero_le _⟩) (fun H54 lc54 hP54 hD54 hS54 => ?_); clear sb53 hcl52
          clear hP50 hD50 hS50
          have hP54 : va_P D vwCl (wf [oB (r0 0) 2 [.ref (r0 1), .ref (r0 2), .ref (r0 3), .ref (r0 4), .ref (r0 5)], aI (r0 3) cI 64 w_square, oB (r3 0) 3 [.ref (r3 1), .int p3_width, .int p3_height], aI (r3 1) cI 2304 p3_samples_8, aI (r1 1) cI 36 f_modes, aI (r1 2) cI 36 f_across, oB (r1 0) 0 [.ref (r1 1), .ref (r1 2), .ref (r1 3), .ref (r1 4), .ref (r1 5), .ref (r1 6), .int f_columns, .int f_rows, .int f_scale, .int f_toEnd, .int f_between, .int f_kept], aI (r1 3) cI 36 f_down, oB (r2 0) 3 [.ref (r2 1), .int p2_width, .int p2_height], aI (r2 1) cI 2304 p2_samples] []) H54 := hP54
          have hD54 : va_D A (wf [oB (r0 0) 2 [.ref (r0 1), .ref (r0 2), .ref (r0 3), .ref (r0 4), .ref (r0 5)], aI (r0 3) cI 64 w_square, oB (r3 0) 3 [.ref (r3 1), .int p3_width, .int p3_height], aI (r3 1) cI 2304 p3_samples_8, aI (r1 1) cI 36 f_modes, aI (r1 2) cI 36 f_across, oB (r1 0) 0 [.ref (r1 1), .ref (r1 2), .ref (r1 3), .ref (r1 4), .ref (r1 5), .ref (r1 6), .int f_columns, .int f_rows, .int f_scale, .int f_toEnd, .int f_between, .int f_kept], aI (r1 3) cI 36 f_down, oB (r2 0) 3 [.ref (r2 1), .int p2_width, .int p2_height], aI (r2 1) cI 2304 p2_samples] []) := hD54
          obtain ⟨hP55, hD55⟩ := ct_ord (n := 10) (k := 0) [0, 1, 5, 7, 8, 9, 2, 3, 6, 4] [] hP54 hD54 rfl rfl (by decide +kernel) (by decide +kernel)
          have hS55 := hS54
          have hP55 : va_P D vwCl (wf [oB (r0 0) 2 [.ref (r0 1), .ref (r0 2), .ref (r0 3), .ref (r0 4), .ref (r0 5)], aI (r0 3) cI 64 w_square, aI (r1 2) cI 36 f_across, aI (r1 3) cI 36 f_down, oB (r2 0) 3 [.ref (r2 1), .int p2_width, .int p2_height], aI (r2 1) cI 2304 p2_samples, oB (r3 0) 3 [.ref (r3 1), .int p3_width, .int p3_height], aI (r3 1) cI 2304 p3_samples_8, oB (r1 0) 0 [.ref (r1 1), .ref (r1 2), .ref (r1 3), .ref (r1 4), .ref (r1 5), .ref (r1 6), .int f_columns, .int f_rows, .int f_scale, .int f_toEnd, .int f_between, .int f_kept], aI (r1 1) cI 36 f_modes] []) H54 := hP55
          have hD55 : va_D A (wf [oB (r0 0) 2 [.ref (r0 1), .ref (r0 2), .ref (r0 3), .ref (r0 4), .ref (r0 5)], aI (r0 3) cI 64 w_square, aI (r1 2) cI 36 f_across, aI (r1 3) cI 36 f_down, oB (r2 0) 3 [.ref (r2 1), .int p2_width, .int p2_height], aI (r2 1) cI 2304 p2_samples, oB (r3 0) 3 [.ref (r3 1), .int p3_width, .int p3_height], aI (r3 1) cI 2304 p3_samples_8, oB (r1 0) 0 [.ref (r1 1), .ref (r1 2), .ref (r1 3), .ref (r1 4), .ref (r1 5), .ref (r1 6), .int f_columns, .int f_rows, .int f_scale, .int f_toEnd, .int f_between, .int f_kept], aI (r1 1) cI 36 f_modes] []) := hD55
          exact KJ27 y_51 _ _ _ hm52 hP55 hD55 hS55 (lv_sub hl21 [2, 3, 4, 5, 6, 7, 8, 9, 1, 0] rfl)
        · have hm56 := bq_t hm27 hc41; clear hm27
          refine lv_sipush (v := 128) hx hb dX2_paintBlock_52 (by decide) ?_
          refine lv_goto (tgt := 79) hx hb dX2_paintBlock_55 (by decide) ?_
          exact KJ27 (128 : Int32) _ _ _ hm56 hP25 hD25 hS25 (lv_sub hl21 [2, 3, 4, 5, 6, 7, 8, 9, 1, 0] rfl)
  refine LP7 4000 p3_samples (0 : Int32) (p3_samples_57) _ _ _ hlp7 hP4 hD4 hS4 (lv_sub hl6 [2, 3, 4, 5, 6, 7, 1, 0] rfl) (fun H59 lc59 ls59 hP59 hD59 hS59 hl59 => ?_); clear LP7 hlp7
  clear hP4 hD4 hS4
  have hl59 : lv_has ls59 11 [] := hl59
  have hP59 : va_P D vwCl (wf [oB (r0 0) 2 [.ref (r0 1), .ref (r0 2), .ref (r0 3), .ref (r0 4), .ref (r0 5)], aI (r0 3) cI 64 w_square, aI (r1 1) cI 36 f_modes, aI (r1 2) cI 36 f_across, aI (r1 3) cI 36 f_down, oB (r2 0) 3 [.ref (r2 1), .int p2_width, .int p2_height], aI (r2 1) cI 2304 p2_samples, oB (r3 0) 3 [.ref (r3 1), .int p3_width, .int p3_height], aI (r3 1) cI 2304 p3_samples_57, oB (r1 0) 0 [.ref (r1 1), .ref (r1 2), .ref (r1 3), .ref (r1 4), .ref (r1 5), .ref (r1 6), .int f_columns, .int f_rows, .int f_scale, .int f_toEnd, .int f_between, .int f_kept]] []) H59 := hP59
  have hD59 : va_D A (wf [oB (r0 0) 2 [.ref (r0 1), .ref (r0 2), .ref (r0 3), .ref (r0 4), .ref (r0 5)], aI (r0 3) cI 64 w_square, aI (r1 1) cI 36 f_modes, aI (r1 2) cI 36 f_across, aI (r1 3) cI 36 f_down, oB (r2 0) 3 [.ref (r2 1), .int p2_width, .int p2_height], aI (r2 1) cI 2304 p2_samples, oB (r3 0) 3 [.ref (r3 1), .int p3_width, .int p3_height], aI (r3 1) cI 2304 p3_samples_57, oB (r1 0) 0 [.ref (r1 1), .ref (r1 2), .ref (r1 3), .ref (r1 4), .ref (r1 5), .ref (r1 6), .int f_columns, .int f_rows, .int f_scale, .int f_toEnd, .int f_between, .int f_kept]] []) := hD59
  obtain ⟨hP60, hD60⟩ := ct_ord (n := 10) (k := 0) [0, 1, 9, 2, 3, 4, 5, 6, 7, 8] [] hP59 hD59 rfl rfl (by decide +kernel) (by decide +kernel)
  have hS60 := hS59
  have hP60 : va_P D vwCl (wf [oB (r0 0) 2 [.ref (r0 1), .ref (r0 2), .ref (r0 3), .ref (r0 4), .ref (r0 5)], aI (r0 3) cI 64 w_square, oB (r1 0) 0 [.ref (r1 1), .ref (r1 2), .ref (r1 3), .ref (r1 4), .ref (r1 5), .ref (r1 6), .int f_columns, .int f_rows, .int f_scale, .int f_toEnd, .int f_between, .int f_kept], aI (r1 1) cI 36 f_modes, aI (r1 2) cI 36 f_across, aI (r1 3) cI 36 f_down, oB (r2 0) 3 [.ref (r2 1), .int p2_width, .int p2_height], aI (r2 1) cI 2304 p2_samples, oB (r3 0) 3 [.ref (r3 1), .int p3_width, .int p3_height], aI (r3 1) cI 2304 p3_samples_57] []) H59 := hP60
  have hD60 : va_D A (wf [oB (r0 0) 2 [.ref (r0 1), .ref (r0 2), .ref (r0 3), .ref (r0 4), .ref (r0 5)], aI (r0 3) cI 64 w_square, oB (r1 0) 0 [.ref (r1 1), .ref (r1 2), .ref (r1 3), .ref (r1 4), .ref (r1 5), .ref (r1 6), .int f_columns, .int f_rows, .int f_scale, .int f_toEnd, .int f_between, .int f_kept], aI (r1 1) cI 36 f_modes, aI (r1 2) cI 36 f_across, aI (r1 3) cI 36 f_down, oB (r2 0) 3 [.ref (r2 1), .int p2_width, .int p2_height], aI (r2 1) cI 2304 p2_samples, oB (r3 0) 3 [.ref (r3 1), .int p3_width, .int p3_height], aI (r3 1) cI 2304 p3_samples_57] []) := hD60
  obtain rfl := Option.some.inj hm58
  rw [hQ]
  exact ct_vret hx hb hr hlk hP60 hD60 hS60 dX2_paintBlock_106

def f_X2_paint_L28 (w_spots : Nat → Int32) (w_waves : Nat → Int32) (f_columns : Int32) (f_scale : Int32) (f_modes : Nat → Int32) (f_across : Nat → Int32) (f_down : Nat → Int32) (h_columns : Int32) (h_scales : Nat → Int32) (h_steps : Nat → Int32) (p3_width : Int32) (p3_height : Int32) (p3_samples : Nat → Int32) (p4_width : Int32) (p4_height : Int32) (p4_samples : Nat → Int32) (f_grid : Nat → Nat → Int32) (p5_width_9 : Int32) (v6_20 : Int32) : Nat → (Nat → Int32) → (Nat → Int32) → (Nat → Int64) → (Nat → Int32) → Int32 → Option ((Nat → Int32) × (Nat → Int32) × (Nat → Int64) × (Nat → Int32))
  | 0, _, _, _, _, _ => none
  | n + 1, w_square_34, w_halfway_35, w_sums_36, p5_samples_37, v7_38 =>
  bd1 (f_X1_columns h_columns) fun y_42 =>
  (if y_42 ≤ v7_38 then
  (some (w_square_34, w_halfway_35, w_sums_36, p5_samples_37))
  else
  (bd1 (f_X0_index v7_38 v6_20 f_columns) fun y_49 =>
  bd1 (f_X0_mode y_49 f_modes) fun y_54 =>
  (if y_54 = (4 : Int32) then
  (bd3 (f_X2_makeAdded y_49 w_spots w_waves w_square_34 w_halfway_35 w_sums_36 f_scale f_grid h_scales h_steps) fun w_square_77 w_halfway_78 w_sums_79 =>
  bd1 (f_X2_paintBlock v7_38 v6_20 w_square_77 f_columns f_modes f_across f_down p4_width p4_height p4_samples p5_width_9 p5_samples_37) fun p5_samples_83 =>
  nm (v7_38 + (1 : Int32) : Int32) fun v7_87 =>
  f_X2_paint_L28 w_spots w_waves f_columns f_scale f_modes f_across f_down h_columns h_scales h_steps p3_width p3_height p3_samples p4_width p4_height p4_samples f_grid p5_width_9 v6_20 n w_square_77 w_halfway_78 w_sums_79 p5_samples_83 v7_87)
  else
  (bd3 (f_X2_makeAdded y_49 w_spots w_waves w_square_34 w_halfway_35 w_sums_36 f_scale f_grid h_scales h_steps) fun w_square_61 w_halfway_62 w_sums_63 =>
  bd1 (f_X2_paintBlock v7_38 v6_20 w_square_61 f_columns f_modes f_across f_down p3_width p3_height p3_samples p5_width_9 p5_samples_37) fun p5_samples_67 =>
  nm (v7_38 + (1 : Int32) : Int32) fun v7_71 =>
  f_X2_paint_L28 w_spots w_waves f_columns f_scale f_modes f_across f_down h_columns h_scales h_steps p3_width p3_height p3_samples p4_width p4_height p4_samples f_grid p5_width_9 v6_20 n w_square_61 w_halfway_62 w_sums_63 p5_samples_67 v7_71))))

def f_X2_paint_L16 (w_spots : Nat → Int32) (w_waves : Nat → Int32) (f_columns : Int32) (f_scale : Int32) (f_modes : Nat → Int32) (f_across : Nat → Int32) (f_down : Nat → Int32) (h_columns : Int32) (h_rows : Int32) (h_scales : Nat → Int32) (h_steps : Nat → Int32) (p3_width : Int32) (p3_height : Int32) (p3_samples : Nat → Int32) (p4_width : Int32) (p4_height : Int32) (p4_samples : Nat → Int32) (f_grid : Nat → Nat → Int32) (p5_width_9 : Int32) : Nat → (Nat → Int32) → (Nat → Int32) → (Nat → Int64) → (Nat → Int32) → Int32 → Option ((Nat → Int32) × (Nat → Int32) × (Nat → Int64) × (Nat → Int32))
  | 0, _, _, _, _, _ => none
  | n + 1, w_square_16, w_halfway_17, w_sums_18, p5_samples_19, v6_20 =>
  bd1 (f_X1_rows h_rows) fun y_24 =>
  (if y_24 ≤ v6_20 then
  (some (w_square_16, w_halfway_17, w_sums_18, p5_samples_19))
  else
  (bd4 (f_X2_paint_L28 w_spots w_waves f_columns f_scale f_modes f_across f_down h_columns h_scales h_steps p3_width p3_height p3_samples p4_width p4_height p4_samples f_grid p5_width_9 v6_20 4000 w_square_16 w_halfway_17 w_sums_18 p5_samples_19 (0 : Int32)) fun w_square_91 w_halfway_92 w_sums_93 p5_samples_94 =>
  nm (v6_20 + (1 : Int32) : Int32) fun v6_97 =>
  f_X2_paint_L16 w_spots w_waves f_columns f_scale f_modes f_across f_down h_columns h_rows h_scales h_steps p3_width p3_height p3_samples p4_width p4_height p4_samples f_grid p5_width_9 n w_square_91 w_halfway_92 w_sums_93 p5_samples_94 v6_97))

def f_X2_paint (w_spots : Nat → Int32) (w_waves : Nat → Int32) (w_square : Nat → Int32) (w_halfway : Nat → Int32) (w_sums : Nat → Int64) (f_columns : Int32) (f_rows : Int32) (f_scale : Int32) (f_modes : Nat → Int32) (f_across : Nat → Int32) (f_down : Nat → Int32) (f_grid : Nat → Nat → Int32) (h_columns : Int32) (h_rows : Int32) (h_limit : Int32) (h_scales : Nat → Int32) (h_steps : Nat → Int32) (p3_width : Int32) (p3_height : Int32) (p3_samples : Nat → Int32) (p4_width : Int32) (p4_height : Int32) (p4_samples : Nat → Int32) (p5_width : Int32) (p5_height : Int32) (p5_samples : Nat → Int32) : Option ((Nat → Int32) × (Nat → Int32) × (Nat → Int64) × Int32 × Int32 × (Nat → Int32)) :=
  bd1 (f_X1_columns h_columns) fun y_1 =>
  bd1 (f_X1_rows h_rows) fun y_5 =>
  bd2 (f_X3_setSize y_1 y_5 p5_width p5_height) fun p5_width_9 p5_height_10 =>
  bd4 (f_X2_paint_L16 w_spots w_waves f_columns f_scale f_modes f_across f_down h_columns h_rows h_scales h_steps p3_width p3_height p3_samples p4_width p4_height p4_samples f_grid p5_width_9 4000 w_square w_halfway w_sums p5_samples (0 : Int32)) fun w_square_101 w_halfway_102 w_sums_103 p5_samples_104 =>
  bd1 (f_X1_limit h_limit) fun y_107 =>
  (if y_107 = (0 : Int32) then
  (some (w_square_101, w_halfway_102, w_sums_103, p5_width_9, p5_height_10, p5_samples_104))
  else
  (bd1 (f_X1_limit h_limit) fun y_115 =>
  bd1 (f_X3_smooth y_115 p5_width_9 p5_samples_104 f_columns f_rows f_modes) fun p5_samples_119 =>
  some (w_square_101, w_halfway_102, w_sums_103, p5_width_9, p5_height_10, p5_samples_119)))

abbrev rm_X2_paint : Room := { frames := 6, cells := 0, slots := 0, locals := 184 }

theorem cdS_X2_paint : yX2_paint.cls ≠ "java/lang/invoke/MethodHandle" ∧ yX2_paint.cls ≠ "java/lang/invoke/VarHandle" ∧ (parseMethodDescriptor yX2_paint.desc).map (fun d => d.parameters.length) = some 5 := by decide +kernel

theorem cdV_X2_paint : yX2_paint.cls = RX2 ∧ yX2_paint.cls ≠ "java/lang/invoke/MethodHandle" ∧ yX2_paint.cls ≠ "java/lang/invoke/VarHandle" ∧ (parseMethodDescriptor yX2_paint.desc).map (fun d => d.parameters.length) = some 5 := ⟨rfl, cdS_X2_paint⟩

set_option maxHeartbeats 40000000 in
set_option maxRecDepth 100000 in
theorem c_X2_paint (l : Launch) (D : va_G) (cB cI cJ cQ : ClassId) (N : Nat) (r0 : Nat → Nat) (r1 : Nat → Nat) (r2 : Nat → Nat) (r3 : Nat → Nat) (r4 : Nat → Nat) (r5 : Nat → Nat) (sz : Nat) (w_spots : Nat → Int32) (w_waves : Nat → Int32) (w_square : Nat → Int32) (w_halfway : Nat → Int32) (w_sums : Nat → Int64) (f_columns : Int32) (f_rows : Int32) (f_scale : Int32) (f_toEnd : Int32) (f_between : Int32) (f_kept : Int32) (f_modes : Nat → Int32) (f_across : Nat → Int32) (f_down : Nat → Int32) (h_columns : Int32) (h_rows : Int32) (h_limit : Int32) (h_scales : Nat → Int32) (h_steps : Nat → Int32) (p3_width : Int32) (p3_height : Int32) (p3_samples : Nat → Int32) (p4_width : Int32) (p4_height : Int32) (p4_samples : Nat → Int32) (p5_width : Int32) (p5_height : Int32) (p5_samples : Nat → Int32) (f_grid : Nat → Nat → Int32) (o : (Nat → Int32) × (Nat → Int32) × (Nat → Int64) × Int32 × Int32 × (Nat → Int32)) (hm0 : f_X2_paint w_spots w_waves w_square w_halfway w_sums f_columns f_rows f_scale f_modes f_across f_down f_grid h_columns h_rows h_limit h_scales h_steps p3_width p3_height p3_samples p4_width p4_height p4_samples p5_width p5_height p5_samples = some o) : Met l yX2_paint wsX2_paint rm_X2_paint (ctP D cB cI cJ cQ N sz [.ref (r0 0), .ref (r1 0), .ref (r2 0), .ref (r3 0), .ref (r4 0), .ref (r5 0)] (wf [oB (r0 0) 2 [.ref (r0 1), .ref (r0 2), .ref (r0 3), .ref (r0 4), .ref (r0 5)], aI (r0 1) cI 64 w_spots, aI (r0 2) cI 64 w_waves, aI (r0 3) cI 64 w_square, aI (r0 4) cI 64 w_halfway, aJ (r0 5) cJ 8 w_sums, oB (r1 0) 0 [.ref (r1 1), .ref (r1 2), .ref (r1 3), .ref (r1 4), .ref (r1 5), .ref (r1 6), .int f_columns, .int f_rows, .int f_scale, .int f_toEnd, .int f_between, .int f_kept], aI (r1 1) cI 36 f_modes, aI (r1 2) cI 36 f_across, aI (r1 3) cI 36 f_down, aQ (r1 4) cQ r1, oB (r2 0) 1 [.ref (r2 1), .ref (r2 2), .ref (r2 3), .ref (r2 5), .ref (r2 7), .int h_columns, .int h_rows, .int h_limit], aI (r2 1) cI 8 h_scales, aI (r2 2) cI 16 h_steps, oB (r3 0) 3 [.ref (r3 1), .int p3_width, .int p3_height], aI (r3 1) cI 2304 p3_samples, oB (r4 0) 3 [.ref (r4 1), .int p4_width, .int p4_height], aI (r4 1) cI 2304 p4_samples, oB (r5 0) 3 [.ref (r5 1), .int p5_width, .int p5_height], aI (r5 1) cI 2304 p5_samples] [rowsW cI r1 f_grid])) (ctQv D (wf [oB (r0 0) 2 [.ref (r0 1), .ref (r0 2), .ref (r0 3), .ref (r0 4), .ref (r0 5)], aI (r0 1) cI 64 w_spots, aI (r0 2) cI 64 w_waves, aI (r0 3) cI 64 (o.1), aI (r0 4) cI 64 (o.2.1), aJ (r0 5) cJ 8 (o.2.2.1), oB (r1 0) 0 [.ref (r1 1), .ref (r1 2), .ref (r1 3), .ref (r1 4), .ref (r1 5), .ref (r1 6), .int f_columns, .int f_rows, .int f_scale, .int f_toEnd, .int f_between, .int f_kept], aI (r1 1) cI 36 f_modes, aI (r1 2) cI 36 f_across, aI (r1 3) cI 36 f_down, aQ (r1 4) cQ r1, oB (r2 0) 1 [.ref (r2 1), .ref (r2 2), .ref (r2 3), .ref (r2 5), .ref (r2 7), .int h_columns, .int h_rows, .int h_limit], aI (r2 1) cI 8 h_scales, aI (r2 2) cI 16 h_steps, oB (r3 0) 3 [.ref (r3 1), .int p3_width, .int p3_height], aI (r3 1) cI 2304 p3_samples, oB (r4 0) 3 [.ref (r4 1), .int p4_width, .int p4_height], aI (r4 1) cI 2304 p4_samples, oB (r5 0) 3 [.ref (r5 1), .int (o.2.2.2.1), .int (o.2.2.2.2.1)], aI (r5 1) cI 2304 (o.2.2.2.2.2)] [rowsW cI r1 f_grid]) (va_A (wf [oB (r0 0) 2 [.ref (r0 1), .ref (r0 2), .ref (r0 3), .ref (r0 4), .ref (r0 5)], aI (r0 1) cI 64 w_spots, aI (r0 2) cI 64 w_waves, aI (r0 3) cI 64 w_square, aI (r0 4) cI 64 w_halfway, aJ (r0 5) cJ 8 w_sums, oB (r1 0) 0 [.ref (r1 1), .ref (r1 2), .ref (r1 3), .ref (r1 4), .ref (r1 5), .ref (r1 6), .int f_columns, .int f_rows, .int f_scale, .int f_toEnd, .int f_between, .int f_kept], aI (r1 1) cI 36 f_modes, aI (r1 2) cI 36 f_across, aI (r1 3) cI 36 f_down, aQ (r1 4) cQ r1, oB (r2 0) 1 [.ref (r2 1), .ref (r2 2), .ref (r2 3), .ref (r2 5), .ref (r2 7), .int h_columns, .int h_rows, .int h_limit], aI (r2 1) cI 8 h_scales, aI (r2 2) cI 16 h_steps, oB (r3 0) 3 [.ref (r3 1), .int p3_width, .int p3_height], aI (r3 1) cI 2304 p3_samples, oB (r4 0) 3 [.ref (r4 1), .int p4_width, .int p4_height], aI (r4 1) cI 2304 p4_samples, oB (r5 0) 3 [.ref (r5 1), .int p5_width, .int p5_height], aI (r5 1) cI 2304 p5_samples] [rowsW cI r1 f_grid]) sz)) 0 0 (va_A (wf [oB (r0 0) 2 [.ref (r0 1), .ref (r0 2), .ref (r0 3), .ref (r0 4), .ref (r0 5)], aI (r0 1) cI 64 w_spots, aI (r0 2) cI 64 w_waves, aI (r0 3) cI 64 w_square, aI (r0 4) cI 64 w_halfway, aJ (r0 5) cJ 8 w_sums, oB (r1 0) 0 [.ref (r1 1), .ref (r1 2), .ref (r1 3), .ref (r1 4), .ref (r1 5), .ref (r1 6), .int f_columns, .int f_rows, .int f_scale, .int f_toEnd, .int f_between, .int f_kept], aI (r1 1) cI 36 f_modes, aI (r1 2) cI 36 f_across, aI (r1 3) cI 36 f_down, aQ (r1 4) cQ r1, oB (r2 0) 1 [.ref (r2 1), .ref (r2 2), .ref (r2 3), .ref (r2 5), .ref (r2 7), .int h_columns, .int h_rows, .int h_limit], aI (r2 1) cI 8 h_scales, aI (r2 2) cI 16 h_steps, oB (r3 0) 3 [.ref (r3 1), .int p3_width, .int p3_height], aI (r3 1) cI 2304 p3_samples, oB (r4 0) 3 [.ref (r4 1), .int p4_width, .int p4_height], aI (r4 1) cI 2304 p4_samples, oB (r5 0) 3 [.ref (r5 1), .int p5_width, .int p5_height], aI (r5 1) cI 2304 p5_samples] [rowsW cI r1 f_grid]) sz) := by
  refine ct_of (cc := cX2_paint) (maxL := 10) (ret := none) (own := RX2) (Qp := ctQv D (wf [oB (r0 0) 2 [.ref (r0 1), .ref (r0 2), .ref (r0 3), .ref (r0 4), .ref (r0 5)], aI (r0 1) cI 64 w_spots, aI (r0 2) cI 64 w_waves, aI (r0 3) cI 64 (o.1), aI (r0 4) cI 64 (o.2.1), aJ (r0 5) cJ 8 (o.2.2.1), oB (r1 0) 0 [.ref (r1 1), .ref (r1 2), .ref (r1 3), .ref (r1 4), .ref (r1 5), .ref (r1 6), .int f_columns, .int f_rows, .int f_scale, .int f_toEnd, .int f_between, .int f_kept], aI (r1 1) cI 36 f_modes, aI (r1 2) cI 36 f_across, aI (r1 3) cI 36 f_down, aQ (r1 4) cQ r1, oB (r2 0) 1 [.ref (r2 1), .ref (r2 2), .ref (r2 3), .ref (r2 5), .ref (r2 7), .int h_columns, .int h_rows, .int h_limit], aI (r2 1) cI 8 h_scales, aI (r2 2) cI 16 h_steps, oB (r3 0) 3 [.ref (r3 1), .int p3_width, .int p3_height], aI (r3 1) cI 2304 p3_samples, oB (r4 0) 3 [.ref (r4 1), .int p4_width, .int p4_height], aI (r4 1) cI 2304 p4_samples, oB (r5 0) 3 [.ref (r5 1), .int (o.2.2.2.1), .int (o.2.2.2.2.1)], aI (r5 1) cI 2304 (o.2.2.2.2.2)] [rowsW cI r1 f_grid])) (by decide) rfl rfl (Nat.le_of_ble_eq_true rfl) ?_
  intro p e s m args below meth c A hx hb hr hml hown hts hlk hnm hsz hAe E hP0 hD0 hS0 ls0 hl0
  subst hsz
  have hl0 : lv_has ls0 10 [(0, .ref (r0 0)), (1, .ref (r1 0)), (2, .ref (r2 0)), (3, .ref (r3 0)), (4, .ref (r4 0)), (5, .ref (r5 0))] := hl0
  obtain ⟨QQ, hQ⟩ : ∃ Q : State → Prop, Q = MQ below (ctQv D (wf [oB (r0 0) 2 [.ref (r0 1), .ref (r0 2), .ref (r0 3), .ref (r0 4), .ref (r0 5)], aI (r0 1) cI 64 w_spots, aI (r0 2) cI 64 w_waves, aI (r0 3) cI 64 (o.1), aI (r0 4) cI 64 (o.2.1), aJ (r0 5) cJ 8 (o.2.2.1), oB (r1 0) 0 [.ref (r1 1), .ref (r1 2), .ref (r1 3), .ref (r1 4), .ref (r1 5), .ref (r1 6), .int f_columns, .int f_rows, .int f_scale, .int f_toEnd, .int f_between, .int f_kept], aI (r1 1) cI 36 f_modes, aI (r1 2) cI 36 f_across, aI (r1 3) cI 36 f_down, aQ (r1 4) cQ r1, oB (r2 0) 1 [.ref (r2 1), .ref (r2 2), .ref (r2 3), .ref (r2 5), .ref (r2 7), .int h_columns, .int h_rows, .int h_limit], aI (r2 1) cI 8 h_scales, aI (r2 2) cI 16 h_steps, oB (r3 0) 3 [.ref (r3 1), .int p3_width, .int p3_height], aI (r3 1) cI 2304 p3_samples, oB (r4 0) 3 [.ref (r4 1), .int p4_width, .int p4_height], aI (r4 1) cI 2304 p4_samples, oB (r5 0) 3 [.ref (r5 1), .int (o.2.2.2.1), .int (o.2.2.2.2.1)], aI (r5 1) cI 2304 (o.2.2.2.2.2)] [rowsW cI r1 f_grid]) A) args s 0 0 A := ⟨_, rfl⟩
  rw [← hQ]
  unfold f_X2_paint at hm0
  refine lv_aload hx hb dX2_paint_0 (lv_at hl0 5 rfl) ?_
  refine lv_aload_n hx hb dX2_paint_2 rfl (lv_at hl0 2 rfl) ?_
  obtain ⟨y_1, hcl2, hm2⟩ := bd1_some hm0; clear hm0
  have sb3 := ctS.mk (n := 20) (k := 1) (pre := [oB (r0 0) 2 [.ref (r0 1), .ref (r0 2), .ref (r0 3), .ref (r0 4), .ref (r0 5)], aI (r0 1) cI 64 w_spots, aI (r0 2) cI 64 w_waves, aI (r0 3) cI 64 w_square, aI (r0 4) cI 64 w_halfway, aJ (r0 5) cJ 8 w_sums, oB (r1 0) 0 [.ref (r1 1), .ref (r1 2), .ref (r1 3), .ref (r1 4), .ref (r1 5), .ref (r1 6), .int f_columns, .int f_rows, .int f_scale, .int f_toEnd, .int f_between, .int f_kept], aI (r1 1) cI 36 f_modes, aI (r1 2) cI 36 f_across, aI (r1 3) cI 36 f_down, aQ (r1 4) cQ r1, oB (r2 0) 1 [.ref (r2 1), .ref (r2 2), .ref (r2 3), .ref (r2 5), .ref (r2 7), .int h_columns, .int h_rows, .int h_limit], aI (r2 1) cI 8 h_scales, aI (r2 2) cI 16 h_steps, oB (r3 0) 3 [.ref (r3 1), .int p3_width, .int p3_height], aI (r3 1) cI 2304 p3_samples, oB (r4 0) 3 [.ref (r4 1), .int p4_width, .int p4_height], aI (r4 1) cI 2304 p4_samples, oB (r5 0) 3 [.ref (r5 1), .int p5_width, .int p5_height], aI (r5 1) cI 2304 p5_samples]) (tl := [rowsW cI r1 f_grid]) [11] [0, 1, 2, 3, 4, 5, 6, 7, 8, 9, 10, 12, 13, 14, 15, 16, 17, 18, 19] [] [0] rfl rfl (by decide +kernel) (by decide +kernel)
  refine ct_calli (r := y_1) E sb3 hP0 hD0 hS0 (va_runV (As := []) (rest := [.ref (r5 0)]) ⟨hx, hb, hml, hown, hts⟩ (c_X1_columns l D cB cI cJ cQ N r2 s.heap.size h_columns h_rows h_limit (y_1) hcl2) (cwV 0 hts gX2_paint_X1_columns rfl rfl rfl cdV_X1_columns ⟨Nat.le_of_ble_eq_true rfl, Nat.le_of_ble_eq_true rfl⟩) (ct_preV (q0 := 11) (ci := 1) E sb3 hP0 hD0 hS0 rfl rfl) rfl rfl hl0.1 rfl (lv_room (Nat.le_of_ble_eq_true rfl)) dX2_paint_3 ⟨Nat.zero_le _, Nat.zero_le _⟩) (fun H4 lc4 hP4 hD4 hS4 => ?_); clear sb3 hcl2
  clear hP0 hD0 hS0
  have hP4 : va_P D vwCl (wf [oB (r0 0) 2 [.ref (r0 1), .ref (r0 2), .ref (r0 3), .ref (r0 4), .ref (r0 5)], aI (r0 1) cI 64 w_spots, aI (r0 2) cI 64 w_waves, aI (r0 3) cI 64 w_square, aI (r0 4) cI 64 w_halfway, aJ (r0 5) cJ 8 w_sums, oB (r1 0) 0 [.ref (r1 1), .ref (r1 2), .ref (r1 3), .ref (r1 4), .ref (r1 5), .ref (r1 6), .int f_columns, .int f_rows, .int f_scale, .int f_toEnd, .int f_between, .int f_kept], aI (r1 1) cI 36 f_modes, aI (r1 2) cI 36 f_across, aI (r1 3) cI 36 f_down, aQ (r1 4) cQ r1, aI (r2 1) cI 8 h_scales, aI (r2 2) cI 16 h_steps, oB (r3 0) 3 [.ref (r3 1), .int p3_width, .int p3_height], aI (r3 1) cI 2304 p3_samples, oB (r4 0) 3 [.ref (r4 1), .int p4_width, .int p4_height], aI (r4 1) cI 2304 p4_samples, oB (r5 0) 3 [.ref (r5 1), .int p5_width, .int p5_height], aI (r5 1) cI 2304 p5_samples, oB (r2 0) 1 [.ref (r2 1), .ref (r2 2), .ref (r2 3), .ref (r2 5), .ref (r2 7), .int h_columns, .int h_rows, .int h_limit]] [rowsW cI r1 f_grid]) H4 := hP4
  have hD4 : va_D A (wf [oB (r0 0) 2 [.ref (r0 1), .ref (r0 2), .ref (r0 3), .ref (r0 4), .ref (r0 5)], aI (r0 1) cI 64 w_spots, aI (r0 2) cI 64 w_waves, aI (r0 3) cI 64 w_square, aI (r0 4) cI 64 w_halfway, aJ (r0 5) cJ 8 w_sums, oB (r1 0) 0 [.ref (r1 1), .ref (r1 2), .ref (r1 3), .ref (r1 4), .ref (r1 5), .ref (r1 6), .int f_columns, .int f_rows, .int f_scale, .int f_toEnd, .int f_between, .int f_kept], aI (r1 1) cI 36 f_modes, aI (r1 2) cI 36 f_across, aI (r1 3) cI 36 f_down, aQ (r1 4) cQ r1, aI (r2 1) cI 8 h_scales, aI (r2 2) cI 16 h_steps, oB (r3 0) 3 [.ref (r3 1), .int p3_width, .int p3_height], aI (r3 1) cI 2304 p3_samples, oB (r4 0) 3 [.ref (r4 1), .int p4_width, .int p4_height], aI (r4 1) cI 2304 p4_samples, oB (r5 0) 3 [.ref (r5 1), .int p5_width, .int p5_height], aI (r5 1) cI 2304 p5_samples, oB (r2 0) 1 [.ref (r2 1), .ref (r2 2), .ref (r2 3), .ref (r2 5), .ref (r2 7), .int h_columns, .int h_rows, .int h_limit]] [rowsW cI r1 f_grid]) := hD4
  refine lv_aload_n hx hb dX2_paint_6 rfl (lv_at hl0 2 rfl) ?_
  obtain ⟨y_5, hcl6, hm6⟩ := bd1_some hm2; clear hm2
  have sb7 := ctS.mk (n := 20) (k := 1) (pre := [oB (r0 0) 2 [.ref (r0 1), .ref (r0 2), .ref (r0 3), .ref (r0 4), .ref (r0 5)], aI (r0 1) cI 64 w_spots, aI (r0 2) cI 64 w_waves, aI (r0 3) cI 64 w_square, aI (r0 4) cI 64 w_halfway, aJ (r0 5) cJ 8 w_sums, oB (r1 0) 0 [.ref (r1 1), .ref (r1 2), .ref (r1 3), .ref (r1 4), .ref (r1 5), .ref (r1 6), .int f_columns, .int f_rows, .int f_scale, .int f_toEnd, .int f_between, .int f_kept], aI (r1 1) cI 36 f_modes, aI (r1 2) cI 36 f_across, aI (r1 3) cI 36 f_down, aQ (r1 4) cQ r1, aI (r2 1) cI 8 h_scales, aI (r2 2) cI 16 h_steps, oB (r3 0) 3 [.ref (r3 1), .int p3_width, .int p3_height], aI (r3 1) cI 2304 p3_samples, oB (r4 0) 3 [.ref (r4 1), .int p4_width, .int p4_height], aI (r4 1) cI 2304 p4_samples, oB (r5 0) 3 [.ref (r5 1), .int p5_width, .int p5_height], aI (r5 1) cI 2304 p5_samples, oB (r2 0) 1 [.ref (r2 1), .ref (r2 2), .ref (r2 3), .ref (r2 5), .ref (r2 7), .int h_columns, .int h_rows, .int h_limit]]) (tl := [rowsW cI r1 f_grid]) [19] [0, 1, 2, 3, 4, 5, 6, 7, 8, 9, 10, 11, 12, 13, 14, 15, 16, 17, 18] [] [0] rfl rfl (by decide +kernel) (by decide +kernel)
  refine ct_calli (r := y_5) E sb7 hP4 hD4 hS4 (va_runV (As := []) (rest := [.int y_1, .ref (r5 0)]) ⟨hx, hb, hml, hown, hts⟩ (c_X1_rows l D cB cI cJ cQ N r2 H4.size h_columns h_rows h_limit (y_5) hcl6) (cwV 0 hts gX2_paint_X1_rows rfl rfl rfl cdV_X1_rows ⟨Nat.le_of_ble_eq_true rfl, Nat.le_of_ble_eq_true rfl⟩) (ct_preV (q0 := 19) (ci := 1) E sb7 hP4 hD4 hS4 rfl rfl) rfl rfl hl0.1 rfl (lv_room (Nat.le_of_ble_eq_true rfl)) dX2_paint_7 ⟨Nat.zero_le _, Nat.zero_le _⟩) (fun H8 lc8 hP8 hD8 hS8 => ?_); clear sb7 hcl6
  clear hP4 hD4 hS4
  have hP8 : va_P D vwCl (wf [oB (r0 0) 2 [.ref (r0 1), .ref (r0 2), .ref (r0 3), .ref (r0 4), .ref (r0 5)], aI (r0 1) cI 64 w_spots, aI (r0 2) cI 64 w_waves, aI (r0 3) cI 64 w_square, aI (r0 4) cI 64 w_halfway, aJ (r0 5) cJ 8 w_sums, oB (r1 0) 0 [.ref (r1 1), .ref (r1 2), .ref (r1 3), .ref (r1 4), .ref (r1 5), .ref (r1 6), .int f_columns, .int f_rows, .int f_scale, .int f_toEnd, .int f_between, .int f_kept], aI (r1 1) cI 36 f_modes, aI (r1 2) cI 36 f_across, aI (r1 3) cI 36 f_down, aQ (r1 4) cQ r1, aI (r2 1) cI 8 h_scales, aI (r2 2) cI 16 h_steps, oB (r3 0) 3 [.ref (r3 1), .int p3_width, .int p3_height], aI (r3 1) cI 2304 p3_samples, oB (r4 0) 3 [.ref (r4 1), .int p4_width, .int p4_height], aI (r4 1) cI 2304 p4_samples, oB (r5 0) 3 [.ref (r5 1), .int p5_width, .int p5_height], aI (r5 1) cI 2304 p5_samples, oB (r2 0) 1 [.ref (r2 1), .ref (r2 2), .ref (r2 3), .ref (r2 5), .ref (r2 7), .int h_columns, .int h_rows, .int h_limit]] [rowsW cI r1 f_grid]) H8 := hP8
  have hD8 : va_D A (wf [oB (r0 0) 2 [.ref (r0 1), .ref (r0 2), .ref (r0 3), .ref (r0 4), .ref (r0 5)], aI (r0 1) cI 64 w_spots, aI (r0 2) cI 64 w_waves, aI (r0 3) cI 64 w_square, aI (r0 4) cI 64 w_halfway, aJ (r0 5) cJ 8 w_sums, oB (r1 0) 0 [.ref (r1 1), .ref (r1 2), .ref (r1 3), .ref (r1 4), .ref (r1 5), .ref (r1 6), .int f_columns, .int f_rows, .int f_scale, .int f_toEnd, .int f_between, .int f_kept], aI (r1 1) cI 36 f_modes, aI (r1 2) cI 36 f_across, aI (r1 3) cI 36 f_down, aQ (r1 4) cQ r1, aI (r2 1) cI 8 h_scales, aI (r2 2) cI 16 h_steps, oB (r3 0) 3 [.ref (r3 1), .int p3_width, .int p3_height], aI (r3 1) cI 2304 p3_samples, oB (r4 0) 3 [.ref (r4 1), .int p4_width, .int p4_height], aI (r4 1) cI 2304 p4_samples, oB (r5 0) 3 [.ref (r5 1), .int p5_width, .int p5_height], aI (r5 1) cI 2304 p5_samples, oB (r2 0) 1 [.ref (r2 1), .ref (r2 2), .ref (r2 3), .ref (r2 5), .ref (r2 7), .int h_columns, .int h_rows, .int h_limit]] [rowsW cI r1 f_grid]) := hD8
  obtain ⟨p5_width_9, p5_height_10, hcl11, hm11⟩ := bd2_some hm6; clear hm6
  have sb12 := ctS.mk (n := 20) (k := 1) (pre := [oB (r0 0) 2 [.ref (r0 1), .ref (r0 2), .ref (r0 3), .ref (r0 4), .ref (r0 5)], aI (r0 1) cI 64 w_spots, aI (r0 2) cI 64 w_waves, aI (r0 3) cI 64 w_square, aI (r0 4) cI 64 w_halfway, aJ (r0 5) cJ 8 w_sums, oB (r1 0) 0 [.ref (r1 1), .ref (r1 2), .ref (r1 3), .ref (r1 4), .ref (r1 5), .ref (r1 6), .int f_columns, .int f_rows, .int f_scale, .int f_toEnd, .int f_between, .int f_kept], aI (r1 1) cI 36 f_modes, aI (r1 2) cI 36 f_across, aI (r1 3) cI 36 f_down, aQ (r1 4) cQ r1, aI (r2 1) cI 8 h_scales, aI (r2 2) cI 16 h_steps, oB (r3 0) 3 [.ref (r3 1), .int p3_width, .int p3_height], aI (r3 1) cI 2304 p3_samples, oB (r4 0) 3 [.ref (r4 1), .int p4_width, .int p4_height], aI (r4 1) cI 2304 p4_samples, oB (r5 0) 3 [.ref (r5 1), .int p5_width, .int p5_height], aI (r5 1) cI 2304 p5_samples, oB (r2 0) 1 [.ref (r2 1), .ref (r2 2), .ref (r2 3), .ref (r2 5), .ref (r2 7), .int h_columns, .int h_rows, .int h_limit]]) (tl := [rowsW cI r1 f_grid]) [17] [0, 1, 2, 3, 4, 5, 6, 7, 8, 9, 10, 11, 12, 13, 14, 15, 16, 18, 19] [] [0] rfl rfl (by decide +kernel) (by decide +kernel)
  refine ct_callv E sb12 hP8 hD8 hS8 (va_runV (As := [.int y_1, .int y_5]) (rest := []) ⟨hx, hb, hml, hown, hts⟩ (c_X3_setSize l D cB cI cJ cQ N r5 H8.size y_1 y_5 p5_width p5_height (p5_width_9, p5_height_10) hcl11) (cwV 2 hts gX2_paint_X3_setSize rfl rfl rfl cdV_X3_setSize ⟨Nat.le_of_ble_eq_true rfl, Nat.le_of_ble_eq_true rfl⟩) (ct_preV (q0 := 17) (ci := 3) E sb12 hP8 hD8 hS8 rfl rfl) rfl rfl hl0.1 rfl (lv_room (Nat.le_of_ble_eq_true rfl)) dX2_paint_10 ⟨Nat.zero_le _, Nat.zero_le _⟩) (fun H13 lc13 hP13 hD13 hS13 => ?_); clear sb12 hcl11
  clear hP8 hD8 hS8
  have hP13 : va_P D vwCl (wf [oB (r0 0) 2 [.ref (r0 1), .ref (r0 2), .ref (r0 3), .ref (r0 4), .ref (r0 5)], aI (r0 1) cI 64 w_spots, aI (r0 2) cI 64 w_waves, aI (r0 3) cI 64 w_square, aI (r0 4) cI 64 w_halfway, aJ (r0 5) cJ 8 w_sums, oB (r1 0) 0 [.ref (r1 1), .ref (r1 2), .ref (r1 3), .ref (r1 4), .ref (r1 5), .ref (r1 6), .int f_columns, .int f_rows, .int f_scale, .int f_toEnd, .int f_between, .int f_kept], aI (r1 1) cI 36 f_modes, aI (r1 2) cI 36 f_across, aI (r1 3) cI 36 f_down, aQ (r1 4) cQ r1, aI (r2 1) cI 8 h_scales, aI (r2 2) cI 16 h_steps, oB (r3 0) 3 [.ref (r3 1), .int p3_width, .int p3_height], aI (r3 1) cI 2304 p3_samples, oB (r4 0) 3 [.ref (r4 1), .int p4_width, .int p4_height], aI (r4 1) cI 2304 p4_samples, aI (r5 1) cI 2304 p5_samples, oB (r2 0) 1 [.ref (r2 1), .ref (r2 2), .ref (r2 3), .ref (r2 5), .ref (r2 7), .int h_columns, .int h_rows, .int h_limit], oB (r5 0) 3 [.ref (r5 1), .int p5_width_9, .int p5_height_10]] [rowsW cI r1 f_grid]) H13 := hP13
  have hD13 : va_D A (wf [oB (r0 0) 2 [.ref (r0 1), .ref (r0 2), .ref (r0 3), .ref (r0 4), .ref (r0 5)], aI (r0 1) cI 64 w_spots, aI (r0 2) cI 64 w_waves, aI (r0 3) cI 64 w_square, aI (r0 4) cI 64 w_halfway, aJ (r0 5) cJ 8 w_sums, oB (r1 0) 0 [.ref (r1 1), .ref (r1 2), .ref (r1 3), .ref (r1 4), .ref (r1 5), .ref (r1 6), .int f_columns, .int f_rows, .int f_scale, .int f_toEnd, .int f_between, .int f_kept], aI (r1 1) cI 36 f_modes, aI (r1 2) cI 36 f_across, aI (r1 3) cI 36 f_down, aQ (r1 4) cQ r1, aI (r2 1) cI 8 h_scales, aI (r2 2) cI 16 h_steps, oB (r3 0) 3 [.ref (r3 1), .int p3_width, .int p3_height], aI (r3 1) cI 2304 p3_samples, oB (r4 0) 3 [.ref (r4 1), .int p4_width, .int p4_height], aI (r4 1) cI 2304 p4_samples, aI (r5 1) cI 2304 p5_samples, oB (r2 0) 1 [.ref (r2 1), .ref (r2 2), .ref (r2 3), .ref (r2 5), .ref (r2 7), .int h_columns, .int h_rows, .int h_limit], oB (r5 0) 3 [.ref (r5 1), .int p5_width_9, .int p5_height_10]] [rowsW cI r1 f_grid]) := hD13
  refine lv_iconst (v := 0) hx hb dX2_paint_13 (by decide) ?_
  refine lv_istore (lv' := [(6, .int (0 : Int32)), (0, .ref (r0 0)), (1, .ref (r1 0)), (2, .ref (r2 0)), (3, .ref (r3 0)), (4, .ref (r4 0)), (5, .ref (r5 0))]) hx hb dX2_paint_14 hl0 (by decide) rfl (fun ls14 hl14 => ?_); clear hl0
  obtain ⟨w_square_101, w_halfway_102, w_sums_103, p5_samples_104, hlp15, hm105⟩ := bd4_some hm11; clear hm11
  have LP15 : ∀ (n : Nat) (w_square_16 : Nat → Int32) (w_halfway_17 : Nat → Int32) (w_sums_18 : Nat → Int64) (p5_samples_19 : Nat → Int32) (v6_20 : Int32) (z15 : (Nat → Int32) × (Nat → Int32) × (Nat → Int64) × (Nat → Int32)) (H21 : Heap) (lc21 : List Loc) (ls21 : Array Slot), f_X2_paint_L16 w_spots w_waves f_columns f_scale f_modes f_across f_down h_columns h_rows h_scales h_steps p3_width p3_height p3_samples p4_width p4_height p4_samples f_grid p5_width_9 n w_square_16 w_halfway_17 w_sums_18 p5_samples_19 v6_20 = some z15 → va_P D vwCl (wf [oB (r0 0) 2 [.ref (r0 1), .ref (r0 2), .ref (r0 3), .ref (r0 4), .ref (r0 5)], aI (r0 1) cI 64 w_spots, aI (r0 2) cI 64 w_waves, aI (r0 3) cI 64 w_square_16, aI (r0 4) cI 64 w_halfway_17, aJ (r0 5) cJ 8 w_sums_18, oB (r1 0) 0 [.ref (r1 1), .ref (r1 2), .ref (r1 3), .ref (r1 4), .ref (r1 5), .ref (r1 6), .int f_columns, .int f_rows, .int f_scale, .int f_toEnd, .int f_between, .int f_kept], aI (r1 1) cI 36 f_modes, aI (r1 2) cI 36 f_across, aI (r1 3) cI 36 f_down, aQ (r1 4) cQ r1, aI (r2 1) cI 8 h_scales, aI (r2 2) cI 16 h_steps, oB (r3 0) 3 [.ref (r3 1), .int p3_width, .int p3_height], aI (r3 1) cI 2304 p3_samples, oB (r4 0) 3 [.ref (r4 1), .int p4_width, .int p4_height], aI (r4 1) cI 2304 p4_samples, aI (r5 1) cI 2304 p5_samples_19, oB (r2 0) 1 [.ref (r2 1), .ref (r2 2), .ref (r2 3), .ref (r2 5), .ref (r2 7), .int h_columns, .int h_rows, .int h_limit], oB (r5 0) 3 [.ref (r5 1), .int p5_width_9, .int p5_height_10]] [rowsW cI r1 f_grid]) H21 → va_D A (wf [oB (r0 0) 2 [.ref (r0 1), .ref (r0 2), .ref (r0 3), .ref (r0 4), .ref (r0 5)], aI (r0 1) cI 64 w_spots, aI (r0 2) cI 64 w_waves, aI (r0 3) cI 64 w_square_16, aI (r0 4) cI 64 w_halfway_17, aJ (r0 5) cJ 8 w_sums_18, oB (r1 0) 0 [.ref (r1 1), .ref (r1 2), .ref (r1 3), .ref (r1 4), .ref (r1 5), .ref (r1 6), .int f_columns, .int f_rows, .int f_scale, .int f_toEnd, .int f_between, .int f_kept], aI (r1 1) cI 36 f_modes, aI (r1 2) cI 36 f_across, aI (r1 3) cI 36 f_down, aQ (r1 4) cQ r1, aI (r2 1) cI 8 h_scales, aI (r2 2) cI 16 h_steps, oB (r3 0) 3 [.ref (r3 1), .int p3_width, .int p3_height], aI (r3 1) cI 2304 p3_samples, oB (r4 0) 3 [.ref (r4 1), .int p4_width, .int p4_height], aI (r4 1) cI 2304 p4_samples, aI (r5 1) cI 2304 p5_samples_19, oB (r2 0) 1 [.ref (r2 1), .ref (r2 2), .ref (r2 3), .ref (r2 5), .ref (r2 7), .int h_columns, .int h_rows, .int h_limit], oB (r5 0) 3 [.ref (r5 1), .int p5_width_9, .int p5_height_10]] [rowsW cI r1 f_grid]) → va_S A s.heap H21 lc21 → lv_has ls21 10 [(0, .ref (r0 0)), (1, .ref (r1 0)), (2, .ref (r2 0)), (3, .ref (r3 0)), (4, .ref (r4 0)), (5, .ref (r5 0)), (6, .int v6_20)] → (∀ (H : Heap) (lc : List Loc) (ls : Array Slot), va_P D vwCl (wf [oB (r0 0) 2 [.ref (r0 1), .ref (r0 2), .ref (r0 3), .ref (r0 4), .ref (r0 5)], aI (r0 1) cI 64 w_spots, aI (r0 2) cI 64 w_waves, aI (r0 3) cI 64 (z15.1), aI (r0 4) cI 64 (z15.2.1), aJ (r0 5) cJ 8 (z15.2.2.1), oB (r1 0) 0 [.ref (r1 1), .ref (r1 2), .ref (r1 3), .ref (r1 4), .ref (r1 5), .ref (r1 6), .int f_columns, .int f_rows, .int f_scale, .int f_toEnd, .int f_between, .int f_kept], aI (r1 1) cI 36 f_modes, aI (r1 2) cI 36 f_across, aI (r1 3) cI 36 f_down, aQ (r1 4) cQ r1, aI (r2 1) cI 8 h_scales, aI (r2 2) cI 16 h_steps, oB (r3 0) 3 [.ref (r3 1), .int p3_width, .int p3_height], aI (r3 1) cI 2304 p3_samples, oB (r4 0) 3 [.ref (r4 1), .int p4_width, .int p4_height], aI (r4 1) cI 2304 p4_samples, aI (r5 1) cI 2304 (z15.2.2.2), oB (r2 0) 1 [.ref (r2 1), .ref (r2 2), .ref (r2 3), .ref (r2 5), .ref (r2 7), .int h_columns, .int h_rows, .int h_limit], oB (r5 0) 3 [.ref (r5 1), .int p5_width_9, .int p5_height_10]] [rowsW cI r1 f_grid]) H → va_D A (wf [oB (r0 0) 2 [.ref (r0 1), .ref (r0 2), .ref (r0 3), .ref (r0 4), .ref (r0 5)], aI (r0 1) cI 64 w_spots, aI (r0 2) cI 64 w_waves, aI (r0 3) cI 64 (z15.1), aI (r0 4) cI 64 (z15.2.1), aJ (r0 5) cJ 8 (z15.2.2.1), oB (r1 0) 0 [.ref (r1 1), .ref (r1 2), .ref (r1 3), .ref (r1 4), .ref (r1 5), .ref (r1 6), .int f_columns, .int f_rows, .int f_scale, .int f_toEnd, .int f_between, .int f_kept], aI (r1 1) cI 36 f_modes, aI (r1 2) cI 36 f_across, aI (r1 3) cI 36 f_down, aQ (r1 4) cQ r1, aI (r2 1) cI 8 h_scales, aI (r2 2) cI 16 h_steps, oB (r3 0) 3 [.ref (r3 1), .int p3_width, .int p3_height], aI (r3 1) cI 2304 p3_samples, oB (r4 0) 3 [.ref (r4 1), .int p4_width, .int p4_height], aI (r4 1) cI 2304 p4_samples, aI (r5 1) cI 2304 (z15.2.2.2), oB (r2 0) 1 [.ref (r2 1), .ref (r2 2), .ref (r2 3), .ref (r2 5), .ref (r2 7), .int h_columns, .int h_rows, .int h_limit], oB (r5 0) 3 [.ref (r5 1), .int p5_width_9, .int p5_height_10]] [rowsW cI r1 f_grid]) → va_S A s.heap H lc → lv_has ls 10 [(1, .ref (r1 0)), (2, .ref (r2 0)), (5, .ref (r5 0))] → W p l e rm_X2_paint s m args below meth c H lc 0 0 QQ (F0 m 98 ls [])) → W p l e rm_X2_paint s m args below meth c H21 lc21 0 0 QQ (F0 m 16 ls21 []) := by
    intro n
    induction n with
    | zero =>
      intro w_square_16 w_halfway_17 w_sums_18 p5_samples_19 v6_20 z15 H21 lc21 ls21 hm23; simp [f_X2_paint_L16] at hm23
    | succ n ih =>
      intro w_square_16 w_halfway_17 w_sums_18 p5_samples_19 v6_20 z15 H21 lc21 ls21 hm23 hP21 hD21 hS21 hl21 kx
      rw [f_X2_paint_L16] at hm23
      refine lv_iload hx hb dX2_paint_16 (lv_at hl21 6 rfl) ?_
      refine lv_aload_n hx hb dX2_paint_18 rfl (lv_at hl21 2 rfl) ?_
      obtain ⟨y_24, hcl25, hm25⟩ := bd1_some hm23; clear hm23
      have sb26 := ctS.mk (n := 20) (k := 1) (pre := [oB (r0 0) 2 [.ref (r0 1), .ref (r0 2), .ref (r0 3), .ref (r0 4), .ref (r0 5)], aI (r0 1) cI 64 w_spots, aI (r0 2) cI 64 w_waves, aI (r0 3) cI 64 w_square_16, aI (r0 4) cI 64 w_halfway_17, aJ (r0 5) cJ 8 w_sums_18, oB (r1 0) 0 [.ref (r1 1), .ref (r1 2), .ref (r1 3), .ref (r1 4), .ref (r1 5), .ref (r1 6), .int f_columns, .int f_rows, .int f_scale, .int f_toEnd, .int f_between, .int f_kept], aI (r1 1) cI 36 f_modes, aI (r1 2) cI 36 f_across, aI (r1 3) cI 36 f_down, aQ (r1 4) cQ r1, aI (r2 1) cI 8 h_scales, aI (r2 2) cI 16 h_steps, oB (r3 0) 3 [.ref (r3 1), .int p3_width, .int p3_height], aI (r3 1) cI 2304 p3_samples, oB (r4 0) 3 [.ref (r4 1), .int p4_width, .int p4_height], aI (r4 1) cI 2304 p4_samples, aI (r5 1) cI 2304 p5_samples_19, oB (r2 0) 1 [.ref (r2 1), .ref (r2 2), .ref (r2 3), .ref (r2 5), .ref (r2 7), .int h_columns, .int h_rows, .int h_limit], oB (r5 0) 3 [.ref (r5 1), .int p5_width_9, .int p5_height_10]]) (tl := [rowsW cI r1 f_grid]) [18] [0, 1, 2, 3, 4, 5, 6, 7, 8, 9, 10, 11, 12, 13, 14, 15, 16, 17, 19] [] [0] rfl rfl (by decide +kernel) (by decide +kernel)
      refine ct_calli (r := y_24) E sb26 hP21 hD21 hS21 (va_runV (As := []) (rest := [.int v6_20]) ⟨hx, hb, hml, hown, hts⟩ (c_X1_rows l D cB cI cJ cQ N r2 H21.size h_columns h_rows h_limit (y_24) hcl25) (cwV 0 hts gX2_paint_X1_rows rfl rfl rfl cdV_X1_rows ⟨Nat.le_of_ble_eq_true rfl, Nat.le_of_ble_eq_true rfl⟩) (ct_preV (q0 := 18) (ci := 1) E sb26 hP21 hD21 hS21 rfl rfl) rfl rfl hl21.1 rfl (lv_room (Nat.le_of_ble_eq_true rfl)) dX2_paint_19 ⟨Nat.zero_le _, Nat.zero_le _⟩) (fun H27 lc27 hP27 hD27 hS27 => ?_); clear sb26 hcl25
      clear hP21 hD21 hS21
      have hP27 : va_P D vwCl (wf [oB (r0 0) 2 [.ref (r0 1), .ref (r0 2), .ref (r0 3), .ref (r0 4), .ref (r0 5)], aI (r0 1) cI 64 w_spots, aI (r0 2) cI 64 w_waves, aI (r0 3) cI 64 w_square_16, aI (r0 4) cI 64 w_halfway_17, aJ (r0 5) cJ 8 w_sums_18, oB (r1 0) 0 [.ref (r1 1), .ref (r1 2), .ref (r1 3), .ref (r1 4), .ref (r1 5), .ref (r1 6), .int f_columns, .int f_rows, .int f_scale, .int f_toEnd, .int f_between, .int f_kept], aI (r1 1) cI 36 f_modes, aI (r1 2) cI 36 f_across, aI (r1 3) cI 36 f_down, aQ (r1 4) cQ r1, aI (r2 1) cI 8 h_scales, aI (r2 2) cI 16 h_steps, oB (r3 0) 3 [.ref (r3 1), .int p3_width, .int p3_height], aI (r3 1) cI 2304 p3_samples, oB (r4 0) 3 [.ref (r4 1), .int p4_width, .int p4_height], aI (r4 1) cI 2304 p4_samples, aI (r5 1) cI 2304 p5_samples_19, oB (r5 0) 3 [.ref (r5 1), .int p5_width_9, .int p5_height_10], oB (r2 0) 1 [.ref (r2 1), .ref (r2 2), .ref (r2 3), .ref (r2 5), .ref (r2 7), .int h_columns, .int h_rows, .int h_limit]] [rowsW cI r1 f_grid]) H27 := hP27
      have hD27 : va_D A (wf [oB (r0 0) 2 [.ref (r0 1), .ref (r0 2), .ref (r0 3), .ref (r0 4), .ref (r0 5)], aI (r0 1) cI 64 w_spots, aI (r0 2) cI 64 w_waves, aI (r0 3) cI 64 w_square_16, aI (r0 4) cI 64 w_halfway_17, aJ (r0 5) cJ 8 w_sums_18, oB (r1 0) 0 [.ref (r1 1), .ref (r1 2), .ref (r1 3), .ref (r1 4), .ref (r1 5), .ref (r1 6), .int f_columns, .int f_rows, .int f_scale, .int f_toEnd, .int f_between, .int f_kept], aI (r1 1) cI 36 f_modes, aI (r1 2) cI 36 f_across, aI (r1 3) cI 36 f_down, aQ (r1 4) cQ r1, aI (r2 1) cI 8 h_scales, aI (r2 2) cI 16 h_steps, oB (r3 0) 3 [.ref (r3 1), .int p3_width, .int p3_height], aI (r3 1) cI 2304 p3_samples, oB (r4 0) 3 [.ref (r4 1), .int p4_width, .int p4_height], aI (r4 1) cI 2304 p4_samples, aI (r5 1) cI 2304 p5_samples_19, oB (r5 0) 3 [.ref (r5 1), .int p5_width_9, .int p5_height_10], oB (r2 0) 1 [.ref (r2 1), .ref (r2 2), .ref (r2 3), .ref (r2 5), .ref (r2 7), .int h_columns, .int h_rows, .int h_limit]] [rowsW cI r1 f_grid]) := hD27
      refine lv_icmp_ge (tgt := 98) hx hb dX2_paint_22 (by decide) (fun hc28 => ?_) (fun hc28 => ?_)
      · have hm29 := bq_t hm25 hc28; clear hm25
        obtain ⟨hP30, hD30⟩ := ct_ord (n := 20) (k := 1) [0, 1, 2, 3, 4, 5, 6, 7, 8, 9, 10, 11, 12, 13, 14, 15, 16, 17, 19, 18] [0] hP27 hD27 rfl rfl (by decide +kernel) (by decide +kernel)
        have hS30 := hS27
        have hP30 : va_P D vwCl (wf [oB (r0 0) 2 [.ref (r0 1), .ref (r0 2), .ref (r0 3), .ref (r0 4), .ref (r0 5)], aI (r0 1) cI 64 w_spots, aI (r0 2) cI 64 w_waves, aI (r0 3) cI 64 w_square_16, aI (r0 4) cI 64 w_halfway_17, aJ (r0 5) cJ 8 w_sums_18, oB (r1 0) 0 [.ref (r1 1), .ref (r1 2), .ref (r1 3), .ref (r1 4), .ref (r1 5), .ref (r1 6), .int f_columns, .int f_rows, .int f_scale, .int f_toEnd, .int f_between, .int f_kept], aI (r1 1) cI 36 f_modes, aI (r1 2) cI 36 f_across, aI (r1 3) cI 36 f_down, aQ (r1 4) cQ r1, aI (r2 1) cI 8 h_scales, aI (r2 2) cI 16 h_steps, oB (r3 0) 3 [.ref (r3 1), .int p3_width, .int p3_height], aI (r3 1) cI 2304 p3_samples, oB (r4 0) 3 [.ref (r4 1), .int p4_width, .int p4_height], aI (r4 1) cI 2304 p4_samples, aI (r5 1) cI 2304 p5_samples_19, oB (r2 0) 1 [.ref (r2 1), .ref (r2 2), .ref (r2 3), .ref (r2 5), .ref (r2 7), .int h_columns, .int h_rows, .int h_limit], oB (r5 0) 3 [.ref (r5 1), .int p5_width_9, .int p5_height_10]] [rowsW cI r1 f_grid]) H27 := hP30
        have hD30 : va_D A (wf [oB (r0 0) 2 [.ref (r0 1), .ref (r0 2), .ref (r0 3), .ref (r0 4), .ref (r0 5)], aI (r0 1) cI 64 w_spots, aI (r0 2) cI 64 w_waves, aI (r0 3) cI 64 w_square_16, aI (r0 4) cI 64 w_halfway_17, aJ (r0 5) cJ 8 w_sums_18, oB (r1 0) 0 [.ref (r1 1), .ref (r1 2), .ref (r1 3), .ref (r1 4), .ref (r1 5), .ref (r1 6), .int f_columns, .int f_rows, .int f_scale, .int f_toEnd, .int f_between, .int f_kept], aI (r1 1) cI 36 f_modes, aI (r1 2) cI 36 f_across, aI (r1 3) cI 36 f_down, aQ (r1 4) cQ r1, aI (r2 1) cI 8 h_scales, aI (r2 2) cI 16 h_steps, oB (r3 0) 3 [.ref (r3 1), .int p3_width, .int p3_height], aI (r3 1) cI 2304 p3_samples, oB (r4 0) 3 [.ref (r4 1), .int p4_width, .int p4_height], aI (r4 1) cI 2304 p4_samples, aI (r5 1) cI 2304 p5_samples_19, oB (r2 0) 1 [.ref (r2 1), .ref (r2 2), .ref (r2 3), .ref (r2 5), .ref (r2 7), .int h_columns, .int h_rows, .int h_limit], oB (r5 0) 3 [.ref (r5 1), .int p5_width_9, .int p5_height_10]] [rowsW cI r1 f_grid]) := hD30
        obtain rfl := Option.some.inj hm29
        exact kx _ _ _ hP30 hD30 hS30 (lv_sub hl21 [1, 2, 5] rfl)
      · have hm31 := bq_f hm25 hc28; clear hm25
        refine lv_iconst (v := 0) hx hb dX2_paint_25 (by decide) ?_
        refine lv_istore (lv' := [(7, .int (0 : Int32)), (0, .ref (r0 0)), (1, .ref (r1 0)), (2, .ref (r2 0)), (3, .ref (r3 0)), (4, .ref (r4 0)), (5, .ref (r5 0)), (6, .int v6_20)]) hx hb dX2_paint_26 hl21 (by decide) rfl (fun ls32 hl32 => ?_); clear hl21
        obtain ⟨w_square_91, w_halfway_92, w_sums_93, p5_samples_94, hlp33, hm95⟩ := bd4_some hm31; clear hm31
        have LP33 : ∀ (n : Nat) (w_square_34 : Nat → Int32) (w_halfway_35 : Nat → Int32) (w_sums_36 : Nat → Int64) (p5_samples_37 : Nat → Int32) (v7_38 : Int32) (z33 : (Nat → Int32) × (Nat → Int32) × (Nat → Int64) × (Nat → Int32)) (H39 : Heap) (lc39 : List Loc) (ls39 : Array Slot), f_X2_paint_L28 w_spots w_waves f_columns f_scale f_modes f_across f_down h_columns h_scales h_steps p3_width p3_height p3_samples p4_width p4_height p4_samples f_grid p5_width_9 v6_20 n w_square_34 w_halfway_35 w_sums_36 p5_samples_37 v7_38 = some z33 → va_P D vwCl (wf [oB (r0 0) 2 [.ref (r0 1), .ref (r0 2), .ref (r0 3), .ref (r0 4), .ref (r0 5)], aI (r0 1) cI 64 w_spots, aI (r0 2) cI 64 w_waves, aI (r0 3) cI 64 w_square_34, aI (r0 4) cI 64 w_halfway_35, aJ (r0 5) cJ 8 w_sums_36, oB (r1 0) 0 [.ref (r1 1), .ref (r1 2), .ref (r1 3), .ref (r1 4), .ref (r1 5), .ref (r1 6), .int f_columns, .int f_rows, .int f_scale, .int f_toEnd, .int f_between, .int f_kept], aI (r1 1) cI 36 f_modes, aI (r1 2) cI 36 f_across, aI (r1 3) cI 36 f_down, aQ (r1 4) cQ r1, aI (r2 1) cI 8 h_scales, aI (r2 2) cI 16 h_steps, oB (r3 0) 3 [.ref (r3 1), .int p3_width, .int p3_height], aI (r3 1) cI 2304 p3_samples, oB (r4 0) 3 [.ref (r4 1), .int p4_width, .int p4_height], aI (r4 1) cI 2304 p4_samples, aI (r5 1) cI 2304 p5_samples_37, oB (r5 0) 3 [.ref (r5 1), .int p5_width_9, .int p5_height_10], oB (r2 0) 1 [.ref (r2 1), .ref (r2 2), .ref (r2 3), .ref (r2 5), .ref (r2 7), .int h_columns, .int h_rows, .int h_limit]] [rowsW cI r1 f_grid]) H39 → va_D A (wf [oB (r0 0) 2 [.ref (r0 1), .ref (r0 2), .ref (r0 3), .ref (r0 4), .ref (r0 5)], aI (r0 1) cI 64 w_spots, aI (r0 2) cI 64 w_waves, aI (r0 3) cI 64 w_square_34, aI (r0 4) cI 64 w_halfway_35, aJ (r0 5) cJ 8 w_sums_36, oB (r1 0) 0 [.ref (r1 1), .ref (r1 2), .ref (r1 3), .ref (r1 4), .ref (r1 5), .ref (r1 6), .int f_columns, .int f_rows, .int f_scale, .int f_toEnd, .int f_between, .int f_kept], aI (r1 1) cI 36 f_modes, aI (r1 2) cI 36 f_across, aI (r1 3) cI 36 f_down, aQ (r1 4) cQ r1, aI (r2 1) cI 8 h_scales, aI (r2 2) cI 16 h_steps, oB (r3 0) 3 [.ref (r3 1), .int p3_width, .int p3_height], aI (r3 1) cI 2304 p3_samples, oB (r4 0) 3 [.ref (r4 1), .int p4_width, .int p4_height], aI (r4 1) cI 2304 p4_samples, aI (r5 1) cI 2304 p5_samples_37, oB (r5 0) 3 [.ref (r5 1), .int p5_width_9, .int p5_height_10], oB (r2 0) 1 [.ref (r2 1), .ref (r2 2), .ref (r2 3), .ref (r2 5), .ref (r2 7), .int h_columns, .int h_rows, .int h_limit]] [rowsW cI r1 f_grid]) → va_S A s.heap H39 lc39 → lv_has ls39 10 [(0, .ref (r0 0)), (1, .ref (r1 0)), (2, .ref (r2 0)), (3, .ref (r3 0)), (4, .ref (r4 0)), (5, .ref (r5 0)), (6, .int v6_20), (7, .int v7_38)] → (∀ (H : Heap) (lc : List Loc) (ls : Array Slot), va_P D vwCl (wf [oB (r0 0) 2 [.ref (r0 1), .ref (r0 2), .ref (r0 3), .ref (r0 4), .ref (r0 5)], aI (r0 1) cI 64 w_spots, aI (r0 2) cI 64 w_waves, aI (r0 3) cI 64 (z33.1), aI (r0 4) cI 64 (z33.2.1), aJ (r0 5) cJ 8 (z33.2.2.1), oB (r1 0) 0 [.ref (r1 1), .ref (r1 2), .ref (r1 3), .ref (r1 4), .ref (r1 5), .ref (r1 6), .int f_columns, .int f_rows, .int f_scale, .int f_toEnd, .int f_between, .int f_kept], aI (r1 1) cI 36 f_modes, aI (r1 2) cI 36 f_across, aI (r1 3) cI 36 f_down, aQ (r1 4) cQ r1, aI (r2 1) cI 8 h_scales, aI (r2 2) cI 16 h_steps, oB (r3 0) 3 [.ref (r3 1), .int p3_width, .int p3_height], aI (r3 1) cI 2304 p3_samples, oB (r4 0) 3 [.ref (r4 1), .int p4_width, .int p4_height], aI (r4 1) cI 2304 p4_samples, aI (r5 1) cI 2304 (z33.2.2.2), oB (r5 0) 3 [.ref (r5 1), .int p5_width_9, .int p5_height_10], oB (r2 0) 1 [.ref (r2 1), .ref (r2 2), .ref (r2 3), .ref (r2 5), .ref (r2 7), .int h_columns, .int h_rows, .int h_limit]] [rowsW cI r1 f_grid]) H → va_D A (wf [oB (r0 0) 2 [.ref (r0 1), .ref (r0 2), .ref (r0 3), .ref (r0 4), .ref (r0 5)], aI (r0 1) cI 64 w_spots, aI (r0 2) cI 64 w_waves, aI (r0 3) cI 64 (z33.1), aI (r0 4) cI 64 (z33.2.1), aJ (r0 5) cJ 8 (z33.2.2.1), oB (r1 0) 0 [.ref (r1 1), .ref (r1 2), .ref (r1 3), .ref (r1 4), .ref (r1 5), .ref (r1 6), .int f_columns, .int f_rows, .int f_scale, .int f_toEnd, .int f_between, .int f_kept], aI (r1 1) cI 36 f_modes, aI (r1 2) cI 36 f_across, aI (r1 3) cI 36 f_down, aQ (r1 4) cQ r1, aI (r2 1) cI 8 h_scales, aI (r2 2) cI 16 h_steps, oB (r3 0) 3 [.ref (r3 1), .int p3_width, .int p3_height], aI (r3 1) cI 2304 p3_samples, oB (r4 0) 3 [.ref (r4 1), .int p4_width, .int p4_height], aI (r4 1) cI 2304 p4_samples, aI (r5 1) cI 2304 (z33.2.2.2), oB (r5 0) 3 [.ref (r5 1), .int p5_width_9, .int p5_height_10], oB (r2 0) 1 [.ref (r2 1), .ref (r2 2), .ref (r2 3), .ref (r2 5), .ref (r2 7), .int h_columns, .int h_rows, .int h_limit]] [rowsW cI r1 f_grid]) → va_S A s.heap H lc → lv_has ls 10 [(0, .ref (r0 0)), (1, .ref (r1 0)), (2, .ref (r2 0)), (3, .ref (r3 0)), (4, .ref (r4 0)), (5, .ref (r5 0)), (6, .int v6_20)] → W p l e rm_X2_paint s m args below meth c H lc 0 0 QQ (F0 m 92 ls [])) → W p l e rm_X2_paint s m args below meth c H39 lc39 0 0 QQ (F0 m 28 ls39 []) := by
          intro n
          induction n with
          | zero =>
            intro w_square_34 w_halfway_35 w_sums_36 p5_samples_37 v7_38 z33 H39 lc39 ls39 hm41; simp [f_X2_paint_L28] at hm41
          | succ n ih =>
            intro w_square_34 w_halfway_35 w_sums_36 p5_samples_37 v7_38 z33 H39 lc39 ls39 hm41 hP39 hD39 hS39 hl39 kx
            rw [f_X2_paint_L28] at hm41
            refine lv_iload hx hb dX2_paint_28 (lv_at hl39 7 rfl) ?_
            refine lv_aload_n hx hb dX2_paint_30 rfl (lv_at hl39 2 rfl) ?_
            obtain ⟨y_42, hcl43, hm43⟩ := bd1_some hm41; clear hm41
            have sb44 := ctS.mk (n := 20) (k := 1) (pre := [oB (r0 0) 2 [.ref (r0 1), .ref (r0 2), .ref (r0 3), .ref (r0 4), .ref (r0 5)], aI (r0 1) cI 64 w_spots, aI (r0 2) cI 64 w_waves, aI (r0 3) cI 64 w_square_34, aI (r0 4) cI 64 w_halfway_35, aJ (r0 5) cJ 8 w_sums_36, oB (r1 0) 0 [.ref (r1 1), .ref (r1 2), .ref (r1 3), .ref (r1 4), .ref (r1 5), .ref (r1 6), .int f_columns, .int f_rows, .int f_scale, .int f_toEnd, .int f_between, .int f_kept], aI (r1 1) cI 36 f_modes, aI (r1 2) cI 36 f_across, aI (r1 3) cI 36 f_down, aQ (r1 4) cQ r1, aI (r2 1) cI 8 h_scales, aI (r2 2) cI 16 h_steps, oB (r3 0) 3 [.ref (r3 1), .int p3_width, .int p3_height], aI (r3 1) cI 2304 p3_samples, oB (r4 0) 3 [.ref (r4 1), .int p4_width, .int p4_height], aI (r4 1) cI 2304 p4_samples, aI (r5 1) cI 2304 p5_samples_37, oB (r5 0) 3 [.ref (r5 1), .int p5_width_9, .int p5_height_10], oB (r2 0) 1 [.ref (r2 1), .ref (r2 2), .ref (r2 3), .ref (r2 5), .ref (r2 7), .int h_columns, .int h_rows, .int h_limit]]) (tl := [rowsW cI r1 f_grid]) [19] [0, 1, 2, 3, 4, 5, 6, 7, 8, 9, 10, 11, 12, 13, 14, 15, 16, 17, 18] [] [0] rfl rfl (by decide +kernel) (by decide +kernel)
            refine ct_calli (r := y_42) E sb44 hP39 hD39 hS39 (va_runV (As := []) (rest := [.int v7_38]) ⟨hx, hb, hml, hown, hts⟩ (c_X1_columns l D cB cI cJ cQ N r2 H39.size h_columns h_rows h_limit (y_42) hcl43) (cwV 0 hts gX2_paint_X1_columns rfl rfl rfl cdV_X1_columns ⟨Nat.le_of_ble_eq_true rfl, Nat.le_of_ble_eq_true rfl⟩) (ct_preV (q0 := 19) (ci := 1) E sb44 hP39 hD39 hS39 rfl rfl) rfl rfl hl39.1 rfl (lv_room (Nat.le_of_ble_eq_true rfl)) dX2_paint_31 ⟨Nat.zero_le _, Nat.zero_le _⟩) (fun H45 lc45 hP45 hD45 hS45 => ?_); clear sb44 hcl43
            clear hP39 hD39 hS39
            have hP45 : va_P D vwCl (wf [oB (r0 0) 2 [.ref (r0 1), .ref (r0 2), .ref (r0 3), .ref (r0 4), .ref (r0 5)], aI (r0 1) cI 64 w_spots, aI (r0 2) cI 64 w_waves, aI (r0 3) cI 64 w_square_34, aI (r0 4) cI 64 w_halfway_35, aJ (r0 5) cJ 8 w_sums_36, oB (r1 0) 0 [.ref (r1 1), .ref (r1 2), .ref (r1 3), .ref (r1 4), .ref (r1 5), .ref (r1 6), .int f_columns, .int f_rows, .int f_scale, .int f_toEnd, .int f_between, .int f_kept], aI (r1 1) cI 36 f_modes, aI (r1 2) cI 36 f_across, aI (r1 3) cI 36 f_down, aQ (r1 4) cQ r1, aI (r2 1) cI 8 h_scales, aI (r2 2) cI 16 h_steps, oB (r3 0) 3 [.ref (r3 1), .int p3_width, .int p3_height], aI (r3 1) cI 2304 p3_samples, oB (r4 0) 3 [.ref (r4 1), .int p4_width, .int p4_height], aI (r4 1) cI 2304 p4_samples, aI (r5 1) cI 2304 p5_samples_37, oB (r5 0) 3 [.ref (r5 1), .int p5_width_9, .int p5_height_10], oB (r2 0) 1 [.ref (r2 1), .ref (r2 2), .ref (r2 3), .ref (r2 5), .ref (r2 7), .int h_columns, .int h_rows, .int h_limit]] [rowsW cI r1 f_grid]) H45 := hP45
            have hD45 : va_D A (wf [oB (r0 0) 2 [.ref (r0 1), .ref (r0 2), .ref (r0 3), .ref (r0 4), .ref (r0 5)], aI (r0 1) cI 64 w_spots, aI (r0 2) cI 64 w_waves, aI (r0 3) cI 64 w_square_34, aI (r0 4) cI 64 w_halfway_35, aJ (r0 5) cJ 8 w_sums_36, oB (r1 0) 0 [.ref (r1 1), .ref (r1 2), .ref (r1 3), .ref (r1 4), .ref (r1 5), .ref (r1 6), .int f_columns, .int f_rows, .int f_scale, .int f_toEnd, .int f_between, .int f_kept], aI (r1 1) cI 36 f_modes, aI (r1 2) cI 36 f_across, aI (r1 3) cI 36 f_down, aQ (r1 4) cQ r1, aI (r2 1) cI 8 h_scales, aI (r2 2) cI 16 h_steps, oB (r3 0) 3 [.ref (r3 1), .int p3_width, .int p3_height], aI (r3 1) cI 2304 p3_samples, oB (r4 0) 3 [.ref (r4 1), .int p4_width, .int p4_height], aI (r4 1) cI 2304 p4_samples, aI (r5 1) cI 2304 p5_samples_37, oB (r5 0) 3 [.ref (r5 1), .int p5_width_9, .int p5_height_10], oB (r2 0) 1 [.ref (r2 1), .ref (r2 2), .ref (r2 3), .ref (r2 5), .ref (r2 7), .int h_columns, .int h_rows, .int h_limit]] [rowsW cI r1 f_grid]) := hD45
            refine lv_icmp_ge (tgt := 92) hx hb dX2_paint_34 (by decide) (fun hc46 => ?_) (fun hc46 => ?_)
            · have hm47 := bq_t hm43 hc46; clear hm43
              obtain rfl := Option.some.inj hm47
              exact kx _ _ _ hP45 hD45 hS45 (lv_sub hl39 [0, 1, 2, 3, 4, 5, 6] rfl)
            · have hm48 := bq_f hm43 hc46; clear hm43
              refine lv_aload_n hx hb dX2_paint_37 rfl (lv_at hl39 1 rfl) ?_
              refine lv_iload hx hb dX2_paint_38 (lv_at hl39 7 rfl) ?_
              refine lv_iload hx hb dX2_paint_40 (lv_at hl39 6 rfl) ?_
              obtain ⟨y_49, hcl50, hm50⟩ := bd1_some hm48; clear hm48
              have sb51 := ctS.mk (n := 20) (k := 1) (pre := [oB (r0 0) 2 [.ref (r0 1), .ref (r0 2), .ref (r0 3), .ref (r0 4), .ref (r0 5)], aI (r0 1) cI 64 w_spots, aI (r0 2) cI 64 w_waves, aI (r0 3) cI 64 w_square_34, aI (r0 4) cI 64 w_halfway_35, aJ (r0 5) cJ 8 w_sums_36, oB (r1 0) 0 [.ref (r1 1), .ref (r1 2), .ref (r1 3), .ref (r1 4), .ref (r1 5), .ref (r1 6), .int f_columns, .int f_rows, .int f_scale, .int f_toEnd, .int f_between, .int f_kept], aI (r1 1) cI 36 f_modes, aI (r1 2) cI 36 f_across, aI (r1 3) cI 36 f_down, aQ (r1 4) cQ r1, aI (r2 1) cI 8 h_scales, aI (r2 2) cI 16 h_steps, oB (r3 0) 3 [.ref (r3 1), .int p3_width, .int p3_height], aI (r3 1) cI 2304 p3_samples, oB (r4 0) 3 [.ref (r4 1), .int p4_width, .int p4_height], aI (r4 1) cI 2304 p4_samples, aI (r5 1) cI 2304 p5_samples_37, oB (r5 0) 3 [.ref (r5 1), .int p5_width_9, .int p5_height_10], oB (r2 0) 1 [.ref (r2 1), .ref (r2 2), .ref (r2 3), .ref (r2 5), .ref (r2 7), .int h_columns, .int h_rows, .int h_limit]]) (tl := [rowsW cI r1 f_grid]) [6] [0, 1, 2, 3, 4, 5, 7, 8, 9, 10, 11, 12, 13, 14, 15, 16, 17, 18, 19] [] [0] rfl rfl (by decide +kernel) (by decide +kernel)
              refine ct_calli (r := y_49) E sb51 hP45 hD45 hS45 (va_runV (As := [.int v7_38, .int v6_20]) (rest := []) ⟨hx, hb, hml, hown, hts⟩ (c_X0_index l D cB cI cJ cQ N r1 H45.size v7_38 v6_20 f_columns f_rows f_scale f_toEnd f_between f_kept (y_49) hcl50) (cwV 2 hts gX2_paint_X0_index rfl rfl rfl cdV_X0_index ⟨Nat.le_of_ble_eq_true rfl, Nat.le_of_ble_eq_true rfl⟩) (ct_preV (q0 := 6) (ci := 0) E sb51 hP45 hD45 hS45 rfl rfl) rfl rfl hl39.1 rfl (lv_room (Nat.le_of_ble_eq_true rfl)) dX2_paint_42 ⟨Nat.zero_le _, Nat.zero_le _⟩) (fun H52 lc52 hP52 hD52 hS52 => ?_); clear sb51 hcl50
              clear hP45 hD45 hS45
              have hP52 : va_P D vwCl (wf [oB (r0 0) 2 [.ref (r0 1), .ref (r0 2), .ref (r0 3), .ref (r0 4), .ref (r0 5)], aI (r0 1) cI 64 w_spots, aI (r0 2) cI 64 w_waves, aI (r0 3) cI 64 w_square_34, aI (r0 4) cI 64 w_halfway_35, aJ (r0 5) cJ 8 w_sums_36, aI (r1 1) cI 36 f_modes, aI (r1 2) cI 36 f_across, aI (r1 3) cI 36 f_down, aQ (r1 4) cQ r1, aI (r2 1) cI 8 h_scales, aI (r2 2) cI 16 h_steps, oB (r3 0) 3 [.ref (r3 1), .int p3_width, .int p3_height], aI (r3 1) cI 2304 p3_samples, oB (r4 0) 3 [.ref (r4 1), .int p4_width, .int p4_height], aI (r4 1) cI 2304 p4_samples, aI (r5 1) cI 2304 p5_samples_37, oB (r5 0) 3 [.ref (r5 1), .int p5_width_9, .int p5_height_10], oB (r2 0) 1 [.ref (r2 1), .ref (r2 2), .ref (r2 3), .ref (r2 5), .ref (r2 7), .int h_columns, .int h_rows, .int h_limit], oB (r1 0) 0 [.ref (r1 1), .ref (r1 2), .ref (r1 3), .ref (r1 4), .ref (r1 5), .ref (r1 6), .int f_columns, .int f_rows, .int f_scale, .int f_toEnd, .int f_between, .int f_kept]] [rowsW cI r1 f_grid]) H52 := hP52
              have hD52 : va_D A (wf [oB (r0 0) 2 [.ref (r0 1), .ref (r0 2), .ref (r0 3), .ref (r0 4), .ref (r0 5)], aI (r0 1) cI 64 w_spots, aI (r0 2) cI 64 w_waves, aI (r0 3) cI 64 w_square_34, aI (r0 4) cI 64 w_halfway_35, aJ (r0 5) cJ 8 w_sums_36, aI (r1 1) cI 36 f_modes, aI (r1 2) cI 36 f_across, aI (r1 3) cI 36 f_down, aQ (r1 4) cQ r1, aI (r2 1) cI 8 h_scales, aI (r2 2) cI 16 h_steps, oB (r3 0) 3 [.ref (r3 1), .int p3_width, .int p3_height], aI (r3 1) cI 2304 p3_samples, oB (r4 0) 3 [.ref (r4 1), .int p4_width, .int p4_height], aI (r4 1) cI 2304 p4_samples, aI (r5 1) cI 2304 p5_samples_37, oB (r5 0) 3 [.ref (r5 1), .int p5_width_9, .int p5_height_10], oB (r2 0) 1 [.ref (r2 1), .ref (r2 2), .ref (r2 3), .ref (r2 5), .ref (r2 7), .int h_columns, .int h_rows, .int h_limit], oB (r1 0) 0 [.ref (r1 1), .ref (r1 2), .ref (r1 3), .ref (r1 4), .ref (r1 5), .ref (r1 6), .int f_columns, .int f_rows, .int f_scale, .int f_toEnd, .int f_between, .int f_kept]] [rowsW cI r1 f_grid]) := hD52
              refine lv_istore (lv' := [(8, .int y_49), (0, .ref (r0 0)), (1, .ref (r1 0)), (2, .ref (r2 0)), (3, .ref (r3 0)), (4, .ref (r4 0)), (5, .ref (r5 0)), (6, .int v6_20), (7, .int v7_38)]) hx hb dX2_paint_45 hl39 (by decide) rfl (fun ls53 hl53 => ?_); clear hl39
              refine lv_aload_n hx hb dX2_paint_47 rfl (lv_at hl53 2 rfl) ?_
              refine lv_iload hx hb dX2_paint_48 (lv_at hl53 0 rfl) ?_
              obtain ⟨y_54, hcl55, hm55⟩ := bd1_some hm50; clear hm50
              have sb56 := ctS.mk (n := 20) (k := 1) (pre := [oB (r0 0) 2 [.ref (r0 1), .ref (r0 2), .ref (r0 3), .ref (r0 4), .ref (r0 5)], aI (r0 1) cI 64 w_spots, aI (r0 2) cI 64 w_waves, aI (r0 3) cI 64 w_square_34, aI (r0 4) cI 64 w_halfway_35, aJ (r0 5) cJ 8 w_sums_36, aI (r1 1) cI 36 f_modes, aI (r1 2) cI 36 f_across, aI (r1 3) cI 36 f_down, aQ (r1 4) cQ r1, aI (r2 1) cI 8 h_scales, aI (r2 2) cI 16 h_steps, oB (r3 0) 3 [.ref (r3 1), .int p3_width, .int p3_height], aI (r3 1) cI 2304 p3_samples, oB (r4 0) 3 [.ref (r4 1), .int p4_width, .int p4_height], aI (r4 1) cI 2304 p4_samples, aI (r5 1) cI 2304 p5_samples_37, oB (r5 0) 3 [.ref (r5 1), .int p5_width_9, .int p5_height_10], oB (r2 0) 1 [.ref (r2 1), .ref (r2 2), .ref (r2 3), .ref (r2 5), .ref (r2 7), .int h_columns, .int h_rows, .int h_limit], oB (r1 0) 0 [.ref (r1 1), .ref (r1 2), .ref (r1 3), .ref (r1 4), .ref (r1 5), .ref (r1 6), .int f_columns, .int f_rows, .int f_scale, .int f_toEnd, .int f_between, .int f_kept]]) (tl := [rowsW cI r1 f_grid]) [19, 6] [0, 1, 2, 3, 4, 5, 7, 8, 9, 10, 11, 12, 13, 14, 15, 16, 17, 18] [] [0] rfl rfl (by decide +kernel) (by decide +kernel)
              refine ct_calli (r := y_54) E sb56 hP52 hD52 hS52 (va_runV (As := [.int y_49]) (rest := []) ⟨hx, hb, hml, hown, hts⟩ (c_X0_mode l D cB cI cJ cQ N r1 H52.size y_49 f_columns f_rows f_scale f_toEnd f_between f_kept f_modes (y_54) hcl55) (cwV 1 hts gX2_paint_X0_mode rfl rfl rfl cdV_X0_mode ⟨Nat.le_of_ble_eq_true rfl, Nat.le_of_ble_eq_true rfl⟩) (ct_preV (q0 := 19) (ci := 0) E sb56 hP52 hD52 hS52 rfl rfl) rfl rfl hl53.1 rfl (lv_room (Nat.le_of_ble_eq_true rfl)) dX2_paint_50 ⟨Nat.zero_le _, Nat.zero_le _⟩) (fun H57 lc57 hP57 hD57 hS57 => ?_); clear sb56 hcl55
              clear hP52 hD52 hS52
              have hP57 : va_P D vwCl (wf [oB (r0 0) 2 [.ref (r0 1), .ref (r0 2), .ref (r0 3), .ref (r0 4), .ref (r0 5)], aI (r0 1) cI 64 w_spots, aI (r0 2) cI 64 w_waves, aI (r0 3) cI 64 w_square_34, aI (r0 4) cI 64 w_halfway_35, aJ (r0 5) cJ 8 w_sums_36, aI (r1 2) cI 36 f_across, aI (r1 3) cI 36 f_down, aQ (r1 4) cQ r1, aI (r2 1) cI 8 h_scales, aI (r2 2) cI 16 h_steps, oB (r3 0) 3 [.ref (r3 1), .int p3_width, .int p3_height], aI (r3 1) cI 2304 p3_samples, oB (r4 0) 3 [.ref (r4 1), .int p4_width, .int p4_height], aI (r4 1) cI 2304 p4_samples, aI (r5 1) cI 2304 p5_samples_37, oB (r5 0) 3 [.ref (r5 1), .int p5_width_9, .int p5_height_10], oB (r2 0) 1 [.ref (r2 1), .ref (r2 2), .ref (r2 3), .ref (r2 5), .ref (r2 7), .int h_columns, .int h_rows, .int h_limit], oB (r1 0) 0 [.ref (r1 1), .ref (r1 2), .ref (r1 3), .ref (r1 4), .ref (r1 5), .ref (r1 6), .int f_columns, .int f_rows, .int f_scale, .int f_toEnd, .int f_between, .int f_kept], aI (r1 1) cI 36 f_modes] [rowsW cI r1 f_grid]) H57 := hP57
              have hD57 : va_D A (wf [oB (r0 0) 2 [.ref (r0 1), .ref (r0 2), .ref (r0 3), .ref (r0 4), .ref (r0 5)], aI (r0 1) cI 64 w_spots, aI (r0 2) cI 64 w_waves, aI (r0 3) cI 64 w_square_34, aI (r0 4) cI 64 w_halfway_35, aJ (r0 5) cJ 8 w_sums_36, aI (r1 2) cI 36 f_across, aI (r1 3) cI 36 f_down, aQ (r1 4) cQ r1, aI (r2 1) cI 8 h_scales, aI (r2 2) cI 16 h_steps, oB (r3 0) 3 [.ref (r3 1), .int p3_width, .int p3_height], aI (r3 1) cI 2304 p3_samples, oB (r4 0) 3 [.ref (r4 1), .int p4_width, .int p4_height], aI (r4 1) cI 2304 p4_samples, aI (r5 1) cI 2304 p5_samples_37, oB (r5 0) 3 [.ref (r5 1), .int p5_width_9, .int p5_height_10], oB (r2 0) 1 [.ref (r2 1), .ref (r2 2), .ref (r2 3), .ref (r2 5), .ref (r2 7), .int h_columns, .int h_rows, .int h_limit], oB (r1 0) 0 [.ref (r1 1), .ref (r1 2), .ref (r1 3), .ref (r1 4), .ref (r1 5), .ref (r1 6), .int f_columns, .int f_rows, .int f_scale, .int f_toEnd, .int f_between, .int f_kept], aI (r1 1) cI 36 f_modes] [rowsW cI r1 f_grid]) := hD57
              refine lv_iconst (v := 4) hx hb dX2_paint_53 (by decide) ?_
              refine lv_icmp_ne (tgt := 62) hx hb dX2_paint_54 (by decide) (fun hc58 => ?_) (fun hc58 => ?_)
              · have hm59 := bq_f hm55 hc58; clear hm55
                refine lv_aload_n hx hb dX2_paint_62 rfl (lv_at hl53 4 rfl) ?_
                refine lv_astore (lv' := [(9, .ref (r3 0)), (8, .int y_49), (0, .ref (r0 0)), (1, .ref (r1 0)), (2, .ref (r2 0)), (3, .ref (r3 0)), (4, .ref (r4 0)), (5, .ref (r5 0)), (6, .int v6_20), (7, .int v7_38)]) hx hb dX2_paint_63 hl53 (by decide) rfl (fun ls60 hl60 => ?_); clear hl53
                refine lv_aload_n hx hb dX2_paint_65 rfl (lv_at hl60 2 rfl) ?_
                refine lv_aload_n hx hb dX2_paint_66 rfl (lv_at hl60 3 rfl) ?_
                refine lv_aload_n hx hb dX2_paint_67 rfl (lv_at hl60 4 rfl) ?_
                refine lv_iload hx hb dX2_paint_68 (lv_at hl60 1 rfl) ?_
                obtain ⟨w_square_61, w_halfway_62, w_sums_63, hcl64, hm64⟩ := bd3_some hm59; clear hm59
                have sb65 := ctS.mk (n := 20) (k := 1) (pre := [oB (r0 0) 2 [.ref (r0 1), .ref (r0 2), .ref (r0 3), .ref (r0 4), .ref (r0 5)], aI (r0 1) cI 64 w_spots, aI (r0 2) cI 64 w_waves, aI (r0 3) cI 64 w_square_34, aI (r0 4) cI 64 w_halfway_35, aJ (r0 5) cJ 8 w_sums_36, aI (r1 2) cI 36 f_across, aI (r1 3) cI 36 f_down, aQ (r1 4) cQ r1, aI (r2 1) cI 8 h_scales, aI (r2 2) cI 16 h_steps, oB (r3 0) 3 [.ref (r3 1), .int p3_width, .int p3_height], aI (r3 1) cI 2304 p3_samples, oB (r4 0) 3 [.ref (r4 1), .int p4_width, .int p4_height], aI (r4 1) cI 2304 p4_samples, aI (r5 1) cI 2304 p5_samples_37, oB (r5 0) 3 [.ref (r5 1), .int p5_width_9, .int p5_height_10], oB (r2 0) 1 [.ref (r2 1), .ref (r2 2), .ref (r2 3), .ref (r2 5), .ref (r2 7), .int h_columns, .int h_rows, .int h_limit], oB (r1 0) 0 [.ref (r1 1), .ref (r1 2), .ref (r1 3), .ref (r1 4), .ref (r1 5), .ref (r1 6), .int f_columns, .int f_rows, .int f_scale, .int f_toEnd, .int f_between, .int f_kept], aI (r1 1) cI 36 f_modes]) (tl := [rowsW cI r1 f_grid]) [0, 1, 2, 3, 4, 5, 18, 8, 17, 9, 10] [6, 7, 11, 12, 13, 14, 15, 16, 19] [0] [] rfl rfl (by decide +kernel) (by decide +kernel)
                refine ct_callv E sb65 hP57 hD57 hS57 (va_runV (As := [.ref (r1 0), .ref (r2 0), .int y_49]) (rest := []) ⟨hx, hb, hml, hown, hts⟩ (c_X2_makeAdded l D cB cI cJ cQ N r0 r1 r2 H57.size y_49 w_spots w_waves w_square_34 w_halfway_35 w_sums_36 f_columns f_rows f_scale f_toEnd f_between f_kept h_columns h_rows h_limit h_scales h_steps f_grid (w_square_61, w_halfway_62, w_sums_63) hcl64) (cwV 3 hts gX2_paint_X2_makeAdded rfl rfl rfl cdV_X2_makeAdded ⟨Nat.le_of_ble_eq_true rfl, Nat.le_of_ble_eq_true rfl⟩) (ct_preV (q0 := 0) (ci := 2) E sb65 hP57 hD57 hS57 rfl rfl) rfl rfl hl60.1 rfl (lv_room (Nat.le_of_ble_eq_true rfl)) dX2_paint_70 ⟨Nat.zero_le _, Nat.zero_le _⟩) (fun H66 lc66 hP66 hD66 hS66 => ?_); clear sb65 hcl64
                clear hP57 hD57 hS57
                have hP66 : va_P D vwCl (wf [aI (r1 2) cI 36 f_across, aI (r1 3) cI 36 f_down, oB (r3 0) 3 [.ref (r3 1), .int p3_width, .int p3_height], aI (r3 1) cI 2304 p3_samples, oB (r4 0) 3 [.ref (r4 1), .int p4_width, .int p4_height], aI (r4 1) cI 2304 p4_samples, aI (r5 1) cI 2304 p5_samples_37, oB (r5 0) 3 [.ref (r5 1), .int p5_width_9, .int p5_height_10], aI (r1 1) cI 36 f_modes, oB (r0 0) 2 [.ref (r0 1), .ref (r0 2), .ref (r0 3), .ref (r0 4), .ref (r0 5)], aI (r0 1) cI 64 w_spots, aI (r0 2) cI 64 w_waves, aI (r0 3) cI 64 w_square_61, aI (r0 4) cI 64 w_halfway_62, aJ (r0 5) cJ 8 w_sums_63, oB (r1 0) 0 [.ref (r1 1), .ref (r1 2), .ref (r1 3), .ref (r1 4), .ref (r1 5), .ref (r1 6), .int f_columns, .int f_rows, .int f_scale, .int f_toEnd, .int f_between, .int f_kept], aQ (r1 4) cQ r1, oB (r2 0) 1 [.ref (r2 1), .ref (r2 2), .ref (r2 3), .ref (r2 5), .ref (r2 7), .int h_columns, .int h_rows, .int h_limit], aI (r2 1) cI 8 h_scales, aI (r2 2) cI 16 h_steps] [rowsW cI r1 f_grid]) H66 := hP66
                have hD66 : va_D A (wf [aI (r1 2) cI 36 f_across, aI (r1 3) cI 36 f_down, oB (r3 0) 3 [.ref (r3 1), .int p3_width, .int p3_height], aI (r3 1) cI 2304 p3_samples, oB (r4 0) 3 [.ref (r4 1), .int p4_width, .int p4_height], aI (r4 1) cI 2304 p4_samples, aI (r5 1) cI 2304 p5_samples_37, oB (r5 0) 3 [.ref (r5 1), .int p5_width_9, .int p5_height_10], aI (r1 1) cI 36 f_modes, oB (r0 0) 2 [.ref (r0 1), .ref (r0 2), .ref (r0 3), .ref (r0 4), .ref (r0 5)], aI (r0 1) cI 64 w_spots, aI (r0 2) cI 64 w_waves, aI (r0 3) cI 64 w_square_61, aI (r0 4) cI 64 w_halfway_62, aJ (r0 5) cJ 8 w_sums_63, oB (r1 0) 0 [.ref (r1 1), .ref (r1 2), .ref (r1 3), .ref (r1 4), .ref (r1 5), .ref (r1 6), .int f_columns, .int f_rows, .int f_scale, .int f_toEnd, .int f_between, .int f_kept], aQ (r1 4) cQ r1, oB (r2 0) 1 [.ref (r2 1), .ref (r2 2), .ref (r2 3), .ref (r2 5), .ref (r2 7), .int h_columns, .int h_rows, .int h_limit], aI (r2 1) cI 8 h_scales, aI (r2 2) cI 16 h_steps] [rowsW cI r1 f_grid]) := hD66
                refine lv_aload_n hx hb dX2_paint_73 rfl (lv_at hl60 2 rfl) ?_
                refine lv_aload_n hx hb dX2_paint_74 rfl (lv_at hl60 3 rfl) ?_
                refine lv_iload hx hb dX2_paint_75 (lv_at hl60 9 rfl) ?_
                refine lv_iload hx hb dX2_paint_77 (lv_at hl60 8 rfl) ?_
                refine lv_aload hx hb dX2_paint_79 (lv_at hl60 0 rfl) ?_
                refine lv_aload hx hb dX2_paint_81 (lv_at hl60 7 rfl) ?_
                obtain ⟨p5_samples_67, hcl68, hm68⟩ := bd1_some hm64; clear hm64
                have sb69 := ctS.mk (n := 20) (k := 1) (pre := [aI (r1 2) cI 36 f_across, aI (r1 3) cI 36 f_down, oB (r3 0) 3 [.ref (r3 1), .int p3_width, .int p3_height], aI (r3 1) cI 2304 p3_samples, oB (r4 0) 3 [.ref (r4 1), .int p4_width, .int p4_height], aI (r4 1) cI 2304 p4_samples, aI (r5 1) cI 2304 p5_samples_37, oB (r5 0) 3 [.ref (r5 1), .int p5_width_9, .int p5_height_10], aI (r1 1) cI 36 f_modes, oB (r0 0) 2 [.ref (r0 1), .ref (r0 2), .ref (r0 3), .ref (r0 4), .ref (r0 5)], aI (r0 1) cI 64 w_spots, aI (r0 2) cI 64 w_waves, aI (r0 3) cI 64 w_square_61, aI (r0 4) cI 64 w_halfway_62, aJ (r0 5) cJ 8 w_sums_63, oB (r1 0) 0 [.ref (r1 1), .ref (r1 2), .ref (r1 3), .ref (r1 4), .ref (r1 5), .ref (r1 6), .int f_columns, .int f_rows, .int f_scale, .int f_toEnd, .int f_between, .int f_kept], aQ (r1 4) cQ r1, oB (r2 0) 1 [.ref (r2 1), .ref (r2 2), .ref (r2 3), .ref (r2 5), .ref (r2 7), .int h_columns, .int h_rows, .int h_limit], aI (r2 1) cI 8 h_scales, aI (r2 2) cI 16 h_steps]) (tl := [rowsW cI r1 f_grid]) [9, 12, 15, 8, 0, 1, 2, 3, 7, 6] [4, 5, 10, 11, 13, 14, 16, 17, 18, 19] [] [0] rfl rfl (by decide +kernel) (by decide +kernel)
                refine ct_callv E sb69 hP66 hD66 hS66 (va_runV (As := [.ref (r1 0), .int v7_38, .int v6_20, .ref (r3 0), .ref (r5 0)]) (rest := []) ⟨hx, hb, hml, hown, hts⟩ (c_X2_paintBlock l D cB cI cJ cQ N r0 r1 r3 r5 H66.size v7_38 v6_20 w_square_61 f_columns f_rows f_scale f_toEnd f_between f_kept f_modes f_across f_down p3_width p3_height p3_samples p5_width_9 p5_height_10 p5_samples_37 (p5_samples_67) hcl68) (cwV 5 hts gX2_paint_X2_paintBlock rfl rfl rfl cdV_X2_paintBlock ⟨Nat.le_of_ble_eq_true rfl, Nat.le_of_ble_eq_true rfl⟩) (ct_preV (q0 := 9) (ci := 2) E sb69 hP66 hD66 hS66 rfl rfl) rfl rfl hl60.1 rfl (lv_room (Nat.le_of_ble_eq_true rfl)) dX2_paint_83 ⟨Nat.zero_le _, Nat.zero_le _⟩) (fun H70 lc70 hP70 hD70 hS70 => ?_); clear sb69 hcl68
                clear hP66 hD66 hS66
                have hP70 : va_P D vwCl (wf [oB (r4 0) 3 [.ref (r4 1), .int p4_width, .int p4_height], aI (r4 1) cI 2304 p4_samples, aI (r0 1) cI 64 w_spots, aI (r0 2) cI 64 w_waves, aI (r0 4) cI 64 w_halfway_62, aJ (r0 5) cJ 8 w_sums_63, aQ (r1 4) cQ r1, oB (r2 0) 1 [.ref (r2 1), .ref (r2 2), .ref (r2 3), .ref (r2 5), .ref (r2 7), .int h_columns, .int h_rows, .int h_limit], aI (r2 1) cI 8 h_scales, aI (r2 2) cI 16 h_steps, oB (r0 0) 2 [.ref (r0 1), .ref (r0 2), .ref (r0 3), .ref (r0 4), .ref (r0 5)], aI (r0 3) cI 64 w_square_61, oB (r1 0) 0 [.ref (r1 1), .ref (r1 2), .ref (r1 3), .ref (r1 4), .ref (r1 5), .ref (r1 6), .int f_columns, .int f_rows, .int f_scale, .int f_toEnd, .int f_between, .int f_kept], aI (r1 1) cI 36 f_modes, aI (r1 2) cI 36 f_across, aI (r1 3) cI 36 f_down, oB (r3 0) 3 [.ref (r3 1), .int p3_width, .int p3_height], aI (r3 1) cI 2304 p3_samples, oB (r5 0) 3 [.ref (r5 1), .int p5_width_9, .int p5_height_10], aI (r5 1) cI 2304 p5_samples_67] [rowsW cI r1 f_grid]) H70 := hP70
                have hD70 : va_D A (wf [oB (r4 0) 3 [.ref (r4 1), .int p4_width, .int p4_height], aI (r4 1) cI 2304 p4_samples, aI (r0 1) cI 64 w_spots, aI (r0 2) cI 64 w_waves, aI (r0 4) cI 64 w_halfway_62, aJ (r0 5) cJ 8 w_sums_63, aQ (r1 4) cQ r1, oB (r2 0) 1 [.ref (r2 1), .ref (r2 2), .ref (r2 3), .ref (r2 5), .ref (r2 7), .int h_columns, .int h_rows, .int h_limit], aI (r2 1) cI 8 h_scales, aI (r2 2) cI 16 h_steps, oB (r0 0) 2 [.ref (r0 1), .ref (r0 2), .ref (r0 3), .ref (r0 4), .ref (r0 5)], aI (r0 3) cI 64 w_square_61, oB (r1 0) 0 [.ref (r1 1), .ref (r1 2), .ref (r1 3), .ref (r1 4), .ref (r1 5), .ref (r1 6), .int f_columns, .int f_rows, .int f_scale, .int f_toEnd, .int f_between, .int f_kept], aI (r1 1) cI 36 f_modes, aI (r1 2) cI 36 f_across, aI (r1 3) cI 36 f_down, oB (r3 0) 3 [.ref (r3 1), .int p3_width, .int p3_height], aI (r3 1) cI 2304 p3_samples, oB (r5 0) 3 [.ref (r5 1), .int p5_width_9, .int p5_height_10], aI (r5 1) cI 2304 p5_samples_67] [rowsW cI r1 f_grid]) := hD70
                obtain ⟨v7_71, ev7_71, hm72⟩ := nm_some hm68; clear hm68
                refine lv_iinc (v := v7_71) (lv' := [(7, .int v7_71), (9, .ref (r3 0)), (8, .int y_49), (0, .ref (r0 0)), (1, .ref (r1 0)), (2, .ref (r2 0)), (3, .ref (r3 0)), (4, .ref (r4 0)), (5, .ref (r5 0)), (6, .int v6_20)]) hx hb dX2_paint_86 hl60 (k := 9) rfl (by rw [ev7_71]; rfl) (by decide) rfl (fun ls73 hl73 => ?_); clear hl60
                refine lv_goto (tgt := 28) hx hb dX2_paint_89 (by decide) ?_
                obtain ⟨hP74, hD74⟩ := ct_ord (n := 20) (k := 1) [10, 2, 3, 11, 4, 5, 12, 13, 14, 15, 6, 8, 9, 16, 17, 0, 1, 19, 18, 7] [0] hP70 hD70 rfl rfl (by decide +kernel) (by decide +kernel)
                have hS74 := hS70
                have hP74 : va_P D vwCl (wf [oB (r0 0) 2 [.ref (r0 1), .ref (r0 2), .ref (r0 3), .ref (r0 4), .ref (r0 5)], aI (r0 1) cI 64 w_spots, aI (r0 2) cI 64 w_waves, aI (r0 3) cI 64 w_square_61, aI (r0 4) cI 64 w_halfway_62, aJ (r0 5) cJ 8 w_sums_63, oB (r1 0) 0 [.ref (r1 1), .ref (r1 2), .ref (r1 3), .ref (r1 4), .ref (r1 5), .ref (r1 6), .int f_columns, .int f_rows, .int f_scale, .int f_toEnd, .int f_between, .int f_kept], aI (r1 1) cI 36 f_modes, aI (r1 2) cI 36 f_across, aI (r1 3) cI 36 f_down, aQ (r1 4) cQ r1, aI (r2 1) cI 8 h_scales, aI (r2 2) cI 16 h_steps, oB (r3 0) 3 [.ref (r3 1), .int p3_width, .int p3_height], aI (r3 1) cI 2304 p3_samples, oB (r4 0) 3 [.ref (r4 1), .int p4_width, .int p4_height], aI (r4 1) cI 2304 p4_samples, aI (r5 1) cI 2304 p5_samples_67, oB (r5 0) 3 [.ref (r5 1), .int p5_width_9, .int p5_height_10], oB (r2 0) 1 [.ref (r2 1), .ref (r2 2), .ref (r2 3), .ref (r2 5), .ref (r2 7), .int h_columns, .int h_rows, .int h_limit]] [rowsW cI r1 f_grid]) H70 := hP74
                have hD74 : va_D A (wf [oB (r0 0) 2 [.ref (r0 1), .ref (r0 2), .ref (r0 3), .ref (r0 4), .ref (r0 5)], aI (r0 1) cI 64 w_spots, aI (r0 2) cI 64 w_waves, aI (r0 3) cI 64 w_square_61, aI (r0 4) cI 64 w_halfway_62, aJ (r0 5) cJ 8 w_sums_63, oB (r1 0) 0 [.ref (r1 1), .ref (r1 2), .ref (r1 3), .ref (r1 4), .ref (r1 5), .ref (r1 6), .int f_columns, .int f_rows, .int f_scale, .int f_toEnd, .int f_between, .int f_kept], aI (r1 1) cI 36 f_modes, aI (r1 2) cI 36 f_across, aI (r1 3) cI 36 f_down, aQ (r1 4) cQ r1, aI (r2 1) cI 8 h_scales, aI (r2 2) cI 16 h_steps, oB (r3 0) 3 [.ref (r3 1), .int p3_width, .int p3_height], aI (r3 1) cI 2304 p3_samples, oB (r4 0) 3 [.ref (r4 1), .int p4_width, .int p4_height], aI (r4 1) cI 2304 p4_samples, aI (r5 1) cI 2304 p5_samples_67, oB (r5 0) 3 [.ref (r5 1), .int p5_width_9, .int p5_height_10], oB (r2 0) 1 [.ref (r2 1), .ref (r2 2), .ref (r2 3), .ref (r2 5), .ref (r2 7), .int h_columns, .int h_rows, .int h_limit]] [rowsW cI r1 f_grid]) := hD74
                exact ih w_square_61 w_halfway_62 w_sums_63 p5_samples_67 v7_71 _ _ _ _ hm72 hP74 hD74 hS74 (lv_sub hl73 [3, 4, 5, 6, 7, 8, 9, 0] rfl) kx
              · have hm75 := bq_t hm55 hc58; clear hm55
                refine lv_aload hx hb dX2_paint_57 (lv_at hl53 5 rfl) ?_
                refine lv_goto (tgt := 63) hx hb dX2_paint_59 (by decide) ?_
                refine lv_astore (lv' := [(9, .ref (r4 0)), (8, .int y_49), (0, .ref (r0 0)), (1, .ref (r1 0)), (2, .ref (r2 0)), (3, .ref (r3 0)), (4, .ref (r4 0)), (5, .ref (r5 0)), (6, .int v6_20), (7, .int v7_38)]) hx hb dX2_paint_63 hl53 (by decide) rfl (fun ls76 hl76 => ?_); clear hl53
                refine lv_aload_n hx hb dX2_paint_65 rfl (lv_at hl76 2 rfl) ?_
                refine lv_aload_n hx hb dX2_paint_66 rfl (lv_at hl76 3 rfl) ?_
                refine lv_aload_n hx hb dX2_paint_67 rfl (lv_at hl76 4 rfl) ?_
                refine lv_iload hx hb dX2_paint_68 (lv_at hl76 1 rfl) ?_
                obtain ⟨w_square_77, w_halfway_78, w_sums_79, hcl80, hm80⟩ := bd3_some hm75; clear hm75
                have sb81 := ctS.mk (n := 20) (k := 1) (pre := [oB (r0 0) 2 [.ref (r0 1), .ref (r0 2), .ref (r0 3), .ref (r0 4), .ref (r0 5)], aI (r0 1) cI 64 w_spots, aI (r0 2) cI 64 w_waves, aI (r0 3) cI 64 w_square_34, aI (r0 4) cI 64 w_halfway_35, aJ (r0 5) cJ 8 w_sums_36, aI (r1 2) cI 36 f_across, aI (r1 3) cI 36 f_down, aQ (r1 4) cQ r1, aI (r2 1) cI 8 h_scales, aI (r2 2) cI 16 h_steps, oB (r3 0) 3 [.ref (r3 1), .int p3_width, .int p3_height], aI (r3 1) cI 2304 p3_samples, oB (r4 0) 3 [.ref (r4 1), .int p4_width, .int p4_height], aI (r4 1) cI 2304 p4_samples, aI (r5 1) cI 2304 p5_samples_37, oB (r5 0) 3 [.ref (r5 1), .int p5_width_9, .int p5_height_10], oB (r2 0) 1 [.ref (r2 1), .ref (r2 2), .ref (r2 3), .ref (r2 5), .ref (r2 7), .int h_columns, .int h_rows, .int h_limit], oB (r1 0) 0 [.ref (r1 1), .ref (r1 2), .ref (r1 3), .ref (r1 4), .ref (r1 5), .ref (r1 6), .int f_columns, .int f_rows, .int f_scale, .int f_toEnd, .int f_between, .int f_kept], aI (r1 1) cI 36 f_modes]) (tl := [rowsW cI r1 f_grid]) [0, 1, 2, 3, 4, 5, 18, 8, 17, 9, 10] [6, 7, 11, 12, 13, 14, 15, 16, 19] [0] [] rfl rfl (by decide +kernel) (by decide +kernel)
                refine ct_callv E sb81 hP57 hD57 hS57 (va_runV (As := [.ref (r1 0), .ref (r2 0), .int y_49]) (rest := []) ⟨hx, hb, hml, hown, hts⟩ (c_X2_makeAdded l D cB cI cJ cQ N r0 r1 r2 H57.size y_49 w_spots w_waves w_square_34 w_halfway_35 w_sums_36 f_columns f_rows f_scale f_toEnd f_between f_kept h_columns h_rows h_limit h_scales h_steps f_grid (w_square_77, w_halfway_78, w_sums_79) hcl80) (cwV 3 hts gX2_paint_X2_makeAdded rfl rfl rfl cdV_X2_makeAdded ⟨Nat.le_of_ble_eq_true rfl, Nat.le_of_ble_eq_true rfl⟩) (ct_preV (q0 := 0) (ci := 2) E sb81 hP57 hD57 hS57 rfl rfl) rfl rfl hl76.1 rfl (lv_room (Nat.le_of_ble_eq_true rfl)) dX2_paint_70 ⟨Nat.zero_le _, Nat.zero_le _⟩) (fun H82 lc82 hP82 hD82 hS82 => ?_); clear sb81 hcl80
                clear hP57 hD57 hS57
                have hP82 : va_P D vwCl (wf [aI (r1 2) cI 36 f_across, aI (r1 3) cI 36 f_down, oB (r3 0) 3 [.ref (r3 1), .int p3_width, .int p3_height], aI (r3 1) cI 2304 p3_samples, oB (r4 0) 3 [.ref (r4 1), .int p4_width, .int p4_height], aI (r4 1) cI 2304 p4_samples, aI (r5 1) cI 2304 p5_samples_37, oB (r5 0) 3 [.ref (r5 1), .int p5_width_9, .int p5_height_10], aI (r1 1) cI 36 f_modes, oB (r0 0) 2 [.ref (r0 1), .ref (r0 2), .ref (r0 3), .ref (r0 4), .ref (r0 5)], aI (r0 1) cI 64 w_spots, aI (r0 2) cI 64 w_waves, aI (r0 3) cI 64 w_square_77, aI (r0 4) cI 64 w_halfway_78, aJ (r0 5) cJ 8 w_sums_79, oB (r1 0) 0 [.ref (r1 1), .ref (r1 2), .ref (r1 3), .ref (r1 4), .ref (r1 5), .ref (r1 6), .int f_columns, .int f_rows, .int f_scale, .int f_toEnd, .int f_between, .int f_kept], aQ (r1 4) cQ r1, oB (r2 0) 1 [.ref (r2 1), .ref (r2 2), .ref (r2 3), .ref (r2 5), .ref (r2 7), .int h_columns, .int h_rows, .int h_limit], aI (r2 1) cI 8 h_scales, aI (r2 2) cI 16 h_steps] [rowsW cI r1 f_grid]) H82 := hP82
                have hD82 : va_D A (wf [aI (r1 2) cI 36 f_across, aI (r1 3) cI 36 f_down, oB (r3 0) 3 [.ref (r3 1), .int p3_width, .int p3_height], aI (r3 1) cI 2304 p3_samples, oB (r4 0) 3 [.ref (r4 1), .int p4_width, .int p4_height], aI (r4 1) cI 2304 p4_samples, aI (r5 1) cI 2304 p5_samples_37, oB (r5 0) 3 [.ref (r5 1), .int p5_width_9, .int p5_height_10], aI (r1 1) cI 36 f_modes, oB (r0 0) 2 [.ref (r0 1), .ref (r0 2), .ref (r0 3), .ref (r0 4), .ref (r0 5)], aI (r0 1) cI 64 w_spots, aI (r0 2) cI 64 w_waves, aI (r0 3) cI 64 w_square_77, aI (r0 4) cI 64 w_halfway_78, aJ (r0 5) cJ 8 w_sums_79, oB (r1 0) 0 [.ref (r1 1), .ref (r1 2), .ref (r1 3), .ref (r1 4), .ref (r1 5), .ref (r1 6), .int f_columns, .int f_rows, .int f_scale, .int f_toEnd, .int f_between, .int f_kept], aQ (r1 4) cQ r1, oB (r2 0) 1 [.ref (r2 1), .ref (r2 2), .ref (r2 3), .ref (r2 5), .ref (r2 7), .int h_columns, .int h_rows, .int h_limit], aI (r2 1) cI 8 h_scales, aI (r2 2) cI 16 h_steps] [rowsW cI r1 f_grid]) := hD82
                refine lv_aload_n hx hb dX2_paint_73 rfl (lv_at hl76 2 rfl) ?_
                refine lv_aload_n hx hb dX2_paint_74 rfl (lv_at hl76 3 rfl) ?_
                refine lv_iload hx hb dX2_paint_75 (lv_at hl76 9 rfl) ?_
                refine lv_iload hx hb dX2_paint_77 (lv_at hl76 8 rfl) ?_
                refine lv_aload hx hb dX2_paint_79 (lv_at hl76 0 rfl) ?_
                refine lv_aload hx hb dX2_paint_81 (lv_at hl76 7 rfl) ?_
                obtain ⟨p5_samples_83, hcl84, hm84⟩ := bd1_some hm80; clear hm80
                have sb85 := ctS.mk (n := 20) (k := 1) (pre := [aI (r1 2) cI 36 f_across, aI (r1 3) cI 36 f_down, oB (r3 0) 3 [.ref (r3 1), .int p3_width, .int p3_height], aI (r3 1) cI 2304 p3_samples, oB (r4 0) 3 [.ref (r4 1), .int p4_width, .int p4_height], aI (r4 1) cI 2304 p4_samples, aI (r5 1) cI 2304 p5_samples_37, oB (r5 0) 3 [.ref (r5 1), .int p5_width_9, .int p5_height_10], aI (r1 1) cI 36 f_modes, oB (r0 0) 2 [.ref (r0 1), .ref (r0 2), .ref (r0 3), .ref (r0 4), .ref (r0 5)], aI (r0 1) cI 64 w_spots, aI (r0 2) cI 64 w_waves, aI (r0 3) cI 64 w_square_77, aI (r0 4) cI 64 w_halfway_78, aJ (r0 5) cJ 8 w_sums_79, oB (r1 0) 0 [.ref (r1 1), .ref (r1 2), .ref (r1 3), .ref (r1 4), .ref (r1 5), .ref (r1 6), .int f_columns, .int f_rows, .int f_scale, .int f_toEnd, .int f_between, .int f_kept], aQ (r1 4) cQ r1, oB (r2 0) 1 [.ref (r2 1), .ref (r2 2), .ref (r2 3), .ref (r2 5), .ref (r2 7), .int h_columns, .int h_rows, .int h_limit], aI (r2 1) cI 8 h_scales, aI (r2 2) cI 16 h_steps]) (tl := [rowsW cI r1 f_grid]) [9, 12, 15, 8, 0, 1, 4, 5, 7, 6] [2, 3, 10, 11, 13, 14, 16, 17, 18, 19] [] [0] rfl rfl (by decide +kernel) (by decide +kernel)
                refine ct_callv E sb85 hP82 hD82 hS82 (va_runV (As := [.ref (r1 0), .int v7_38, .int v6_20, .ref (r4 0), .ref (r5 0)]) (rest := []) ⟨hx, hb, hml, hown, hts⟩ (c_X2_paintBlock l D cB cI cJ cQ N r0 r1 r4 r5 H82.size v7_38 v6_20 w_square_77 f_columns f_rows f_scale f_toEnd f_between f_kept f_modes f_across f_down p4_width p4_height p4_samples p5_width_9 p5_height_10 p5_samples_37 (p5_samples_83) hcl84) (cwV 5 hts gX2_paint_X2_paintBlock rfl rfl rfl cdV_X2_paintBlock ⟨Nat.le_of_ble_eq_true rfl, Nat.le_of_ble_eq_true rfl⟩) (ct_preV (q0 := 9) (ci := 2) E sb85 hP82 hD82 hS82 rfl rfl) rfl rfl hl76.1 rfl (lv_room (Nat.le_of_ble_eq_true rfl)) dX2_paint_83 ⟨Nat.zero_le _, Nat.zero_le _⟩) (fun H86 lc86 hP86 hD86 hS86 => ?_); clear sb85 hcl84
                clear hP82 hD82 hS82
                have hP86 : va_P D vwCl (wf [oB (r3 0) 3 [.ref (r3 1), .int p3_width, .int p3_height], aI (r3 1) cI 2304 p3_samples, aI (r0 1) cI 64 w_spots, aI (r0 2) cI 64 w_waves, aI (r0 4) cI 64 w_halfway_78, aJ (r0 5) cJ 8 w_sums_79, aQ (r1 4) cQ r1, oB (r2 0) 1 [.ref (r2 1), .ref (r2 2), .ref (r2 3), .ref (r2 5), .ref (r2 7), .int h_columns, .int h_rows, .int h_limit], aI (r2 1) cI 8 h_scales, aI (r2 2) cI 16 h_steps, oB (r0 0) 2 [.ref (r0 1), .ref (r0 2), .ref (r0 3), .ref (r0 4), .ref (r0 5)], aI (r0 3) cI 64 w_square_77, oB (r1 0) 0 [.ref (r1 1), .ref (r1 2), .ref (r1 3), .ref (r1 4), .ref (r1 5), .ref (r1 6), .int f_columns, .int f_rows, .int f_scale, .int f_toEnd, .int f_between, .int f_kept], aI (r1 1) cI 36 f_modes, aI (r1 2) cI 36 f_across, aI (r1 3) cI 36 f_down, oB (r4 0) 3 [.ref (r4 1), .int p4_width, .int p4_height], aI (r4 1) cI 2304 p4_samples, oB (r5 0) 3 [.ref (r5 1), .int p5_width_9, .int p5_height_10], aI (r5 1) cI 2304 p5_samples_83] [rowsW cI r1 f_grid]) H86 := hP86
                have hD86 : va_D A (wf [oB (r3 0) 3 [.ref (r3 1), .int p3_width, .int p3_height], aI (r3 1) cI 2304 p3_samples, aI (r0 1) cI 64 w_spots, aI (r0 2) cI 64 w_waves, aI (r0 4) cI 64 w_halfway_78, aJ (r0 5) cJ 8 w_sums_79, aQ (r1 4) cQ r1, oB (r2 0) 1 [.ref (r2 1), .ref (r2 2), .ref (r2 3), .ref (r2 5), .ref (r2 7), .int h_columns, .int h_rows, .int h_limit], aI (r2 1) cI 8 h_scales, aI (r2 2) cI 16 h_steps, oB (r0 0) 2 [.ref (r0 1), .ref (r0 2), .ref (r0 3), .ref (r0 4), .ref (r0 5)], aI (r0 3) cI 64 w_square_77, oB (r1 0) 0 [.ref (r1 1), .ref (r1 2), .ref (r1 3), .ref (r1 4), .ref (r1 5), .ref (r1 6), .int f_columns, .int f_rows, .int f_scale, .int f_toEnd, .int f_between, .int f_kept], aI (r1 1) cI 36 f_modes, aI (r1 2) cI 36 f_across, aI (r1 3) cI 36 f_down, oB (r4 0) 3 [.ref (r4 1), .int p4_width, .int p4_height], aI (r4 1) cI 2304 p4_samples, oB (r5 0) 3 [.ref (r5 1), .int p5_width_9, .int p5_height_10], aI (r5 1) cI 2304 p5_samples_83] [rowsW cI r1 f_grid]) := hD86
                obtain ⟨v7_87, ev7_87, hm88⟩ := nm_some hm84; clear hm84
                refine lv_iinc (v := v7_87) (lv' := [(7, .int v7_87), (9, .ref (r4 0)), (8, .int y_49), (0, .ref (r0 0)), (1, .ref (r1 0)), (2, .ref (r2 0)), (3, .ref (r3 0)), (4, .ref (r4 0)), (5, .ref (r5 0)), (6, .int v6_20)]) hx hb dX2_paint_86 hl76 (k := 9) rfl (by rw [ev7_87]; rfl) (by decide) rfl (fun ls89 hl89 => ?_); clear hl76
                refine lv_goto (tgt := 28) hx hb dX2_paint_89 (by decide) ?_
                obtain ⟨hP90, hD90⟩ := ct_ord (n := 20) (k := 1) [10, 2, 3, 11, 4, 5, 12, 13, 14, 15, 6, 8, 9, 0, 1, 16, 17, 19, 18, 7] [0] hP86 hD86 rfl rfl (by decide +kernel) (by decide +kernel)
                have hS90 := hS86
                have hP90 : va_P D vwCl (wf [oB (r0 0) 2 [.ref (r0 1), .ref (r0 2), .ref (r0 3), .ref (r0 4), .ref (r0 5)], aI (r0 1) cI 64 w_spots, aI (r0 2) cI 64 w_waves, aI (r0 3) cI 64 w_square_77, aI (r0 4) cI 64 w_halfway_78, aJ (r0 5) cJ 8 w_sums_79, oB (r1 0) 0 [.ref (r1 1), .ref (r1 2), .ref (r1 3), .ref (r1 4), .ref (r1 5), .ref (r1 6), .int f_columns, .int f_rows, .int f_scale, .int f_toEnd, .int f_between, .int f_kept], aI (r1 1) cI 36 f_modes, aI (r1 2) cI 36 f_across, aI (r1 3) cI 36 f_down, aQ (r1 4) cQ r1, aI (r2 1) cI 8 h_scales, aI (r2 2) cI 16 h_steps, oB (r3 0) 3 [.ref (r3 1), .int p3_width, .int p3_height], aI (r3 1) cI 2304 p3_samples, oB (r4 0) 3 [.ref (r4 1), .int p4_width, .int p4_height], aI (r4 1) cI 2304 p4_samples, aI (r5 1) cI 2304 p5_samples_83, oB (r5 0) 3 [.ref (r5 1), .int p5_width_9, .int p5_height_10], oB (r2 0) 1 [.ref (r2 1), .ref (r2 2), .ref (r2 3), .ref (r2 5), .ref (r2 7), .int h_columns, .int h_rows, .int h_limit]] [rowsW cI r1 f_grid]) H86 := hP90
                have hD90 : va_D A (wf [oB (r0 0) 2 [.ref (r0 1), .ref (r0 2), .ref (r0 3), .ref (r0 4), .ref (r0 5)], aI (r0 1) cI 64 w_spots, aI (r0 2) cI 64 w_waves, aI (r0 3) cI 64 w_square_77, aI (r0 4) cI 64 w_halfway_78, aJ (r0 5) cJ 8 w_sums_79, oB (r1 0) 0 [.ref (r1 1), .ref (r1 2), .ref (r1 3), .ref (r1 4), .ref (r1 5), .ref (r1 6), .int f_columns, .int f_rows, .int f_scale, .int f_toEnd, .int f_between, .int f_kept], aI (r1 1) cI 36 f_modes, aI (r1 2) cI 36 f_across, aI (r1 3) cI 36 f_down, aQ (r1 4) cQ r1, aI (r2 1) cI 8 h_scales, aI (r2 2) cI 16 h_steps, oB (r3 0) 3 [.ref (r3 1), .int p3_width, .int p3_height], aI (r3 1) cI 2304 p3_samples, oB (r4 0) 3 [.ref (r4 1), .int p4_width, .int p4_height], aI (r4 1) cI 2304 p4_samples, aI (r5 1) cI 2304 p5_samples_83, oB (r5 0) 3 [.ref (r5 1), .int p5_width_9, .int p5_height_10], oB (r2 0) 1 [.ref (r2 1), .ref (r2 2), .ref (r2 3), .ref (r2 5), .ref (r2 7), .int h_columns, .int h_rows, .int h_limit]] [rowsW cI r1 f_grid]) := hD90
                exact ih w_square_77 w_halfway_78 w_sums_79 p5_samples_83 v7_87 _ _ _ _ hm88 hP90 hD90 hS90 (lv_sub hl89 [3, 4, 5, 6, 7, 8, 9, 0] rfl) kx
        refine LP33 4000 w_square_16 w_halfway_17 w_sums_18 p5_samples_19 (0 : Int32) (w_square_91, w_halfway_92, w_sums_93, p5_samples_94) _ _ _ hlp33 hP27 hD27 hS27 (lv_sub hl32 [1, 2, 3, 4, 5, 6, 7, 0] rfl) (fun H96 lc96 ls96 hP96 hD96 hS96 hl96 => ?_); clear LP33 hlp33
        clear hP27 hD27 hS27
        have hl96 : lv_has ls96 10 [(0, .ref (r0 0)), (1, .ref (r1 0)), (2, .ref (r2 0)), (3, .ref (r3 0)), (4, .ref (r4 0)), (5, .ref (r5 0)), (6, .int v6_20)] := hl96
        have hP96 : va_P D vwCl (wf [oB (r0 0) 2 [.ref (r0 1), .ref (r0 2), .ref (r0 3), .ref (r0 4), .ref (r0 5)], aI (r0 1) cI 64 w_spots, aI (r0 2) cI 64 w_waves, aI (r0 3) cI 64 w_square_91, aI (r0 4) cI 64 w_halfway_92, aJ (r0 5) cJ 8 w_sums_93, oB (r1 0) 0 [.ref (r1 1), .ref (r1 2), .ref (r1 3), .ref (r1 4), .ref (r1 5), .ref (r1 6), .int f_columns, .int f_rows, .int f_scale, .int f_toEnd, .int f_between, .int f_kept], aI (r1 1) cI 36 f_modes, aI (r1 2) cI 36 f_across, aI (r1 3) cI 36 f_down, aQ (r1 4) cQ r1, aI (r2 1) cI 8 h_scales, aI (r2 2) cI 16 h_steps, oB (r3 0) 3 [.ref (r3 1), .int p3_width, .int p3_height], aI (r3 1) cI 2304 p3_samples, oB (r4 0) 3 [.ref (r4 1), .int p4_width, .int p4_height], aI (r4 1) cI 2304 p4_samples, aI (r5 1) cI 2304 p5_samples_94, oB (r5 0) 3 [.ref (r5 1), .int p5_width_9, .int p5_height_10], oB (r2 0) 1 [.ref (r2 1), .ref (r2 2), .ref (r2 3), .ref (r2 5), .ref (r2 7), .int h_columns, .int h_rows, .int h_limit]] [rowsW cI r1 f_grid]) H96 := hP96
        have hD96 : va_D A (wf [oB (r0 0) 2 [.ref (r0 1), .ref (r0 2), .ref (r0 3), .ref (r0 4), .ref (r0 5)], aI (r0 1) cI 64 w_spots, aI (r0 2) cI 64 w_waves, aI (r0 3) cI 64 w_square_91, aI (r0 4) cI 64 w_halfway_92, aJ (r0 5) cJ 8 w_sums_93, oB (r1 0) 0 [.ref (r1 1), .ref (r1 2), .ref (r1 3), .ref (r1 4), .ref (r1 5), .ref (r1 6), .int f_columns, .int f_rows, .int f_scale, .int f_toEnd, .int f_between, .int f_kept], aI (r1 1) cI 36 f_modes, aI (r1 2) cI 36 f_across, aI (r1 3) cI 36 f_down, aQ (r1 4) cQ r1, aI (r2 1) cI 8 h_scales, aI (r2 2) cI 16 h_steps, oB (r3 0) 3 [.ref (r3 1), .int p3_width, .int p3_height], aI (r3 1) cI 2304 p3_samples, oB (r4 0) 3 [.ref (r4 1), .int p4_width, .int p4_height], aI (r4 1) cI 2304 p4_samples, aI (r5 1) cI 2304 p5_samples_94, oB (r5 0) 3 [.ref (r5 1), .int p5_width_9, .int p5_height_10], oB (r2 0) 1 [.ref (r2 1), .ref (r2 2), .ref (r2 3), .ref (r2 5), .ref (r2 7), .int h_columns, .int h_rows, .int h_limit]] [rowsW cI r1 f_grid]) := hD96
        obtain ⟨v6_97, ev6_97, hm98⟩ := nm_some hm95; clear hm95
        refine lv_iinc (v := v6_97) (lv' := [(6, .int v6_97), (0, .ref (r0 0)), (1, .ref (r1 0)), (2, .ref (r2 0)), (3, .ref (r3 0)), (4, .ref (r4 0)), (5, .ref (r5 0))]) hx hb dX2_paint_92 hl96 (k := 6) rfl (by rw [ev6_97]; rfl) (by decide) rfl (fun ls99 hl99 => ?_); clear hl96
        refine lv_goto (tgt := 16) hx hb dX2_paint_95 (by decide) ?_
        obtain ⟨hP100, hD100⟩ := ct_ord (n := 20) (k := 1) [0, 1, 2, 3, 4, 5, 6, 7, 8, 9, 10, 11, 12, 13, 14, 15, 16, 17, 19, 18] [0] hP96 hD96 rfl rfl (by decide +kernel) (by decide +kernel)
        have hS100 := hS96
        have hP100 : va_P D vwCl (wf [oB (r0 0) 2 [.ref (r0 1), .ref (r0 2), .ref (r0 3), .ref (r0 4), .ref (r0 5)], aI (r0 1) cI 64 w_spots, aI (r0 2) cI 64 w_waves, aI (r0 3) cI 64 w_square_91, aI (r0 4) cI 64 w_halfway_92, aJ (r0 5) cJ 8 w_sums_93, oB (r1 0) 0 [.ref (r1 1), .ref (r1 2), .ref (r1 3), .ref (r1 4), .ref (r1 5), .ref (r1 6), .int f_columns, .int f_rows, .int f_scale, .int f_toEnd, .int f_between, .int f_kept], aI (r1 1) cI 36 f_modes, aI (r1 2) cI 36 f_across, aI (r1 3) cI 36 f_down, aQ (r1 4) cQ r1, aI (r2 1) cI 8 h_scales, aI (r2 2) cI 16 h_steps, oB (r3 0) 3 [.ref (r3 1), .int p3_width, .int p3_height], aI (r3 1) cI 2304 p3_samples, oB (r4 0) 3 [.ref (r4 1), .int p4_width, .int p4_height], aI (r4 1) cI 2304 p4_samples, aI (r5 1) cI 2304 p5_samples_94, oB (r2 0) 1 [.ref (r2 1), .ref (r2 2), .ref (r2 3), .ref (r2 5), .ref (r2 7), .int h_columns, .int h_rows, .int h_limit], oB (r5 0) 3 [.ref (r5 1), .int p5_width_9, .int p5_height_10]] [rowsW cI r1 f_grid]) H96 := hP100
        have hD100 : va_D A (wf [oB (r0 0) 2 [.ref (r0 1), .ref (r0 2), .ref (r0 3), .ref (r0 4), .ref (r0 5)], aI (r0 1) cI 64 w_spots, aI (r0 2) cI 64 w_waves, aI (r0 3) cI 64 w_square_91, aI (r0 4) cI 64 w_halfway_92, aJ (r0 5) cJ 8 w_sums_93, oB (r1 0) 0 [.ref (r1 1), .ref (r1 2), .ref (r1 3), .ref (r1 4), .ref (r1 5), .ref (r1 6), .int f_columns, .int f_rows, .int f_scale, .int f_toEnd, .int f_between, .int f_kept], aI (r1 1) cI 36 f_modes, aI (r1 2) cI 36 f_across, aI (r1 3) cI 36 f_down, aQ (r1 4) cQ r1, aI (r2 1) cI 8 h_scales, aI (r2 2) cI 16 h_steps, oB (r3 0) 3 [.ref (r3 1), .int p3_width, .int p3_height], aI (r3 1) cI 2304 p3_samples, oB (r4 0) 3 [.ref (r4 1), .int p4_width, .int p4_height], aI (r4 1) cI 2304 p4_samples, aI (r5 1) cI 2304 p5_samples_94, oB (r2 0) 1 [.ref (r2 1), .ref (r2 2), .ref (r2 3), .ref (r2 5), .ref (r2 7), .int h_columns, .int h_rows, .int h_limit], oB (r5 0) 3 [.ref (r5 1), .int p5_width_9, .int p5_height_10]] [rowsW cI r1 f_grid]) := hD100
        exact ih w_square_91 w_halfway_92 w_sums_93 p5_samples_94 v6_97 _ _ _ _ hm98 hP100 hD100 hS100 (lv_sub hl99 [1, 2, 3, 4, 5, 6, 0] rfl) kx
  refine LP15 4000 w_square w_halfway w_sums p5_samples (0 : Int32) (w_square_101, w_halfway_102, w_sums_103, p5_samples_104) _ _ _ hlp15 hP13 hD13 hS13 (lv_sub hl14 [1, 2, 3, 4, 5, 6, 0] rfl) (fun H106 lc106 ls106 hP106 hD106 hS106 hl106 => ?_); clear LP15 hlp15
  clear hP13 hD13 hS13
  have hl106 : lv_has ls106 10 [(1, .ref (r1 0)), (2, .ref (r2 0)), (5, .ref (r5 0))] := hl106
  have hP106 : va_P D vwCl (wf [oB (r0 0) 2 [.ref (r0 1), .ref (r0 2), .ref (r0 3), .ref (r0 4), .ref (r0 5)], aI (r0 1) cI 64 w_spots, aI (r0 2) cI 64 w_waves, aI (r0 3) cI 64 w_square_101, aI (r0 4) cI 64 w_halfway_102, aJ (r0 5) cJ 8 w_sums_103, oB (r1 0) 0 [.ref (r1 1), .ref (r1 2), .ref (r1 3), .ref (r1 4), .ref (r1 5), .ref (r1 6), .int f_columns, .int f_rows, .int f_scale, .int f_toEnd, .int f_between, .int f_kept], aI (r1 1) cI 36 f_modes, aI (r1 2) cI 36 f_across, aI (r1 3) cI 36 f_down, aQ (r1 4) cQ r1, aI (r2 1) cI 8 h_scales, aI (r2 2) cI 16 h_steps, oB (r3 0) 3 [.ref (r3 1), .int p3_width, .int p3_height], aI (r3 1) cI 2304 p3_samples, oB (r4 0) 3 [.ref (r4 1), .int p4_width, .int p4_height], aI (r4 1) cI 2304 p4_samples, aI (r5 1) cI 2304 p5_samples_104, oB (r2 0) 1 [.ref (r2 1), .ref (r2 2), .ref (r2 3), .ref (r2 5), .ref (r2 7), .int h_columns, .int h_rows, .int h_limit], oB (r5 0) 3 [.ref (r5 1), .int p5_width_9, .int p5_height_10]] [rowsW cI r1 f_grid]) H106 := hP106
  have hD106 : va_D A (wf [oB (r0 0) 2 [.ref (r0 1), .ref (r0 2), .ref (r0 3), .ref (r0 4), .ref (r0 5)], aI (r0 1) cI 64 w_spots, aI (r0 2) cI 64 w_waves, aI (r0 3) cI 64 w_square_101, aI (r0 4) cI 64 w_halfway_102, aJ (r0 5) cJ 8 w_sums_103, oB (r1 0) 0 [.ref (r1 1), .ref (r1 2), .ref (r1 3), .ref (r1 4), .ref (r1 5), .ref (r1 6), .int f_columns, .int f_rows, .int f_scale, .int f_toEnd, .int f_between, .int f_kept], aI (r1 1) cI 36 f_modes, aI (r1 2) cI 36 f_across, aI (r1 3) cI 36 f_down, aQ (r1 4) cQ r1, aI (r2 1) cI 8 h_scales, aI (r2 2) cI 16 h_steps, oB (r3 0) 3 [.ref (r3 1), .int p3_width, .int p3_height], aI (r3 1) cI 2304 p3_samples, oB (r4 0) 3 [.ref (r4 1), .int p4_width, .int p4_height], aI (r4 1) cI 2304 p4_samples, aI (r5 1) cI 2304 p5_samples_104, oB (r2 0) 1 [.ref (r2 1), .ref (r2 2), .ref (r2 3), .ref (r2 5), .ref (r2 7), .int h_columns, .int h_rows, .int h_limit], oB (r5 0) 3 [.ref (r5 1), .int p5_width_9, .int p5_height_10]] [rowsW cI r1 f_grid]) := hD106
  refine lv_aload_n hx hb dX2_paint_98 rfl (lv_at hl106 1 rfl) ?_
  obtain ⟨y_107, hcl108, hm108⟩ := bd1_some hm105; clear hm105
  have sb109 := ctS.mk (n := 20) (k := 1) (pre := [oB (r0 0) 2 [.ref (r0 1), .ref (r0 2), .ref (r0 3), .ref (r0 4), .ref (r0 5)], aI (r0 1) cI 64 w_spots, aI (r0 2) cI 64 w_waves, aI (r0 3) cI 64 w_square_101, aI (r0 4) cI 64 w_halfway_102, aJ (r0 5) cJ 8 w_sums_103, oB (r1 0) 0 [.ref (r1 1), .ref (r1 2), .ref (r1 3), .ref (r1 4), .ref (r1 5), .ref (r1 6), .int f_columns, .int f_rows, .int f_scale, .int f_toEnd, .int f_between, .int f_kept], aI (r1 1) cI 36 f_modes, aI (r1 2) cI 36 f_across, aI (r1 3) cI 36 f_down, aQ (r1 4) cQ r1, aI (r2 1) cI 8 h_scales, aI (r2 2) cI 16 h_steps, oB (r3 0) 3 [.ref (r3 1), .int p3_width, .int p3_height], aI (r3 1) cI 2304 p3_samples, oB (r4 0) 3 [.ref (r4 1), .int p4_width, .int p4_height], aI (r4 1) cI 2304 p4_samples, aI (r5 1) cI 2304 p5_samples_104, oB (r2 0) 1 [.ref (r2 1), .ref (r2 2), .ref (r2 3), .ref (r2 5), .ref (r2 7), .int h_columns, .int h_rows, .int h_limit], oB (r5 0) 3 [.ref (r5 1), .int p5_width_9, .int p5_height_10]]) (tl := [rowsW cI r1 f_grid]) [18] [0, 1, 2, 3, 4, 5, 6, 7, 8, 9, 10, 11, 12, 13, 14, 15, 16, 17, 19] [] [0] rfl rfl (by decide +kernel) (by decide +kernel)
  refine ct_calli (r := y_107) E sb109 hP106 hD106 hS106 (va_runV (As := []) (rest := []) ⟨hx, hb, hml, hown, hts⟩ (c_X1_limit l D cB cI cJ cQ N r2 H106.size h_columns h_rows h_limit (y_107) hcl108) (cwV 0 hts gX2_paint_X1_limit rfl rfl rfl cdV_X1_limit ⟨Nat.le_of_ble_eq_true rfl, Nat.le_of_ble_eq_true rfl⟩) (ct_preV (q0 := 18) (ci := 1) E sb109 hP106 hD106 hS106 rfl rfl) rfl rfl hl106.1 rfl (lv_room (Nat.le_of_ble_eq_true rfl)) dX2_paint_99 ⟨Nat.zero_le _, Nat.zero_le _⟩) (fun H110 lc110 hP110 hD110 hS110 => ?_); clear sb109 hcl108
  clear hP106 hD106 hS106
  have hP110 : va_P D vwCl (wf [oB (r0 0) 2 [.ref (r0 1), .ref (r0 2), .ref (r0 3), .ref (r0 4), .ref (r0 5)], aI (r0 1) cI 64 w_spots, aI (r0 2) cI 64 w_waves, aI (r0 3) cI 64 w_square_101, aI (r0 4) cI 64 w_halfway_102, aJ (r0 5) cJ 8 w_sums_103, oB (r1 0) 0 [.ref (r1 1), .ref (r1 2), .ref (r1 3), .ref (r1 4), .ref (r1 5), .ref (r1 6), .int f_columns, .int f_rows, .int f_scale, .int f_toEnd, .int f_between, .int f_kept], aI (r1 1) cI 36 f_modes, aI (r1 2) cI 36 f_across, aI (r1 3) cI 36 f_down, aQ (r1 4) cQ r1, aI (r2 1) cI 8 h_scales, aI (r2 2) cI 16 h_steps, oB (r3 0) 3 [.ref (r3 1), .int p3_width, .int p3_height], aI (r3 1) cI 2304 p3_samples, oB (r4 0) 3 [.ref (r4 1), .int p4_width, .int p4_height], aI (r4 1) cI 2304 p4_samples, aI (r5 1) cI 2304 p5_samples_104, oB (r5 0) 3 [.ref (r5 1), .int p5_width_9, .int p5_height_10], oB (r2 0) 1 [.ref (r2 1), .ref (r2 2), .ref (r2 3), .ref (r2 5), .ref (r2 7), .int h_columns, .int h_rows, .int h_limit]] [rowsW cI r1 f_grid]) H110 := hP110
  have hD110 : va_D A (wf [oB (r0 0) 2 [.ref (r0 1), .ref (r0 2), .ref (r0 3), .ref (r0 4), .ref (r0 5)], aI (r0 1) cI 64 w_spots, aI (r0 2) cI 64 w_waves, aI (r0 3) cI 64 w_square_101, aI (r0 4) cI 64 w_halfway_102, aJ (r0 5) cJ 8 w_sums_103, oB (r1 0) 0 [.ref (r1 1), .ref (r1 2), .ref (r1 3), .ref (r1 4), .ref (r1 5), .ref (r1 6), .int f_columns, .int f_rows, .int f_scale, .int f_toEnd, .int f_between, .int f_kept], aI (r1 1) cI 36 f_modes, aI (r1 2) cI 36 f_across, aI (r1 3) cI 36 f_down, aQ (r1 4) cQ r1, aI (r2 1) cI 8 h_scales, aI (r2 2) cI 16 h_steps, oB (r3 0) 3 [.ref (r3 1), .int p3_width, .int p3_height], aI (r3 1) cI 2304 p3_samples, oB (r4 0) 3 [.ref (r4 1), .int p4_width, .int p4_height], aI (r4 1) cI 2304 p4_samples, aI (r5 1) cI 2304 p5_samples_104, oB (r5 0) 3 [.ref (r5 1), .int p5_width_9, .int p5_height_10], oB (r2 0) 1 [.ref (r2 1), .ref (r2 2), .ref (r2 3), .ref (r2 5), .ref (r2 7), .int h_columns, .int h_rows, .int h_limit]] [rowsW cI r1 f_grid]) := hD110
  refine lv_if_eq (tgt := 115) hx hb dX2_paint_102 (by decide) (fun hc111 => ?_) (fun hc111 => ?_)
  · have hm112 := bq_t hm108 hc111; clear hm108
    obtain ⟨hP113, hD113⟩ := ct_ord (n := 20) (k := 1) [0, 1, 2, 3, 4, 5, 6, 7, 8, 9, 10, 19, 11, 12, 13, 14, 15, 16, 18, 17] [0] hP110 hD110 rfl rfl (by decide +kernel) (by decide +kernel)
    have hS113 := hS110
    have hP113 : va_P D vwCl (wf [oB (r0 0) 2 [.ref (r0 1), .ref (r0 2), .ref (r0 3), .ref (r0 4), .ref (r0 5)], aI (r0 1) cI 64 w_spots, aI (r0 2) cI 64 w_waves, aI (r0 3) cI 64 w_square_101, aI (r0 4) cI 64 w_halfway_102, aJ (r0 5) cJ 8 w_sums_103, oB (r1 0) 0 [.ref (r1 1), .ref (r1 2), .ref (r1 3), .ref (r1 4), .ref (r1 5), .ref (r1 6), .int f_columns, .int f_rows, .int f_scale, .int f_toEnd, .int f_between, .int f_kept], aI (r1 1) cI 36 f_modes, aI (r1 2) cI 36 f_across, aI (r1 3) cI 36 f_down, aQ (r1 4) cQ r1, oB (r2 0) 1 [.ref (r2 1), .ref (r2 2), .ref (r2 3), .ref (r2 5), .ref (r2 7), .int h_columns, .int h_rows, .int h_limit], aI (r2 1) cI 8 h_scales, aI (r2 2) cI 16 h_steps, oB (r3 0) 3 [.ref (r3 1), .int p3_width, .int p3_height], aI (r3 1) cI 2304 p3_samples, oB (r4 0) 3 [.ref (r4 1), .int p4_width, .int p4_height], aI (r4 1) cI 2304 p4_samples, oB (r5 0) 3 [.ref (r5 1), .int p5_width_9, .int p5_height_10], aI (r5 1) cI 2304 p5_samples_104] [rowsW cI r1 f_grid]) H110 := hP113
    have hD113 : va_D A (wf [oB (r0 0) 2 [.ref (r0 1), .ref (r0 2), .ref (r0 3), .ref (r0 4), .ref (r0 5)], aI (r0 1) cI 64 w_spots, aI (r0 2) cI 64 w_waves, aI (r0 3) cI 64 w_square_101, aI (r0 4) cI 64 w_halfway_102, aJ (r0 5) cJ 8 w_sums_103, oB (r1 0) 0 [.ref (r1 1), .ref (r1 2), .ref (r1 3), .ref (r1 4), .ref (r1 5), .ref (r1 6), .int f_columns, .int f_rows, .int f_scale, .int f_toEnd, .int f_between, .int f_kept], aI (r1 1) cI 36 f_modes, aI (r1 2) cI 36 f_across, aI (r1 3) cI 36 f_down, aQ (r1 4) cQ r1, oB (r2 0) 1 [.ref (r2 1), .ref (r2 2), .ref (r2 3), .ref (r2 5), .ref (r2 7), .int h_columns, .int h_rows, .int h_limit], aI (r2 1) cI 8 h_scales, aI (r2 2) cI 16 h_steps, oB (r3 0) 3 [.ref (r3 1), .int p3_width, .int p3_height], aI (r3 1) cI 2304 p3_samples, oB (r4 0) 3 [.ref (r4 1), .int p4_width, .int p4_height], aI (r4 1) cI 2304 p4_samples, oB (r5 0) 3 [.ref (r5 1), .int p5_width_9, .int p5_height_10], aI (r5 1) cI 2304 p5_samples_104] [rowsW cI r1 f_grid]) := hD113
    obtain rfl := Option.some.inj hm112
    rw [hQ]
    exact ct_vret hx hb hr hlk hP113 hD113 hS113 dX2_paint_115
  · have hm114 := bq_f hm108 hc111; clear hm108
    refine lv_aload hx hb dX2_paint_105 (lv_at hl106 2 rfl) ?_
    refine lv_aload_n hx hb dX2_paint_107 rfl (lv_at hl106 0 rfl) ?_
    refine lv_aload_n hx hb dX2_paint_108 rfl (lv_at hl106 1 rfl) ?_
    obtain ⟨y_115, hcl116, hm116⟩ := bd1_some hm114; clear hm114
    have sb117 := ctS.mk (n := 20) (k := 1) (pre := [oB (r0 0) 2 [.ref (r0 1), .ref (r0 2), .ref (r0 3), .ref (r0 4), .ref (r0 5)], aI (r0 1) cI 64 w_spots, aI (r0 2) cI 64 w_waves, aI (r0 3) cI 64 w_square_101, aI (r0 4) cI 64 w_halfway_102, aJ (r0 5) cJ 8 w_sums_103, oB (r1 0) 0 [.ref (r1 1), .ref (r1 2), .ref (r1 3), .ref (r1 4), .ref (r1 5), .ref (r1 6), .int f_columns, .int f_rows, .int f_scale, .int f_toEnd, .int f_between, .int f_kept], aI (r1 1) cI 36 f_modes, aI (r1 2) cI 36 f_across, aI (r1 3) cI 36 f_down, aQ (r1 4) cQ r1, aI (r2 1) cI 8 h_scales, aI (r2 2) cI 16 h_steps, oB (r3 0) 3 [.ref (r3 1), .int p3_width, .int p3_height], aI (r3 1) cI 2304 p3_samples, oB (r4 0) 3 [.ref (r4 1), .int p4_width, .int p4_height], aI (r4 1) cI 2304 p4_samples, aI (r5 1) cI 2304 p5_samples_104, oB (r5 0) 3 [.ref (r5 1), .int p5_width_9, .int p5_height_10], oB (r2 0) 1 [.ref (r2 1), .ref (r2 2), .ref (r2 3), .ref (r2 5), .ref (r2 7), .int h_columns, .int h_rows, .int h_limit]]) (tl := [rowsW cI r1 f_grid]) [19] [0, 1, 2, 3, 4, 5, 6, 7, 8, 9, 10, 11, 12, 13, 14, 15, 16, 17, 18] [] [0] rfl rfl (by decide +kernel) (by decide +kernel)
    refine ct_calli (r := y_115) E sb117 hP110 hD110 hS110 (va_runV (As := []) (rest := [.ref (r1 0), .ref (r5 0)]) ⟨hx, hb, hml, hown, hts⟩ (c_X1_limit l D cB cI cJ cQ N r2 H110.size h_columns h_rows h_limit (y_115) hcl116) (cwV 0 hts gX2_paint_X1_limit rfl rfl rfl cdV_X1_limit ⟨Nat.le_of_ble_eq_true rfl, Nat.le_of_ble_eq_true rfl⟩) (ct_preV (q0 := 19) (ci := 1) E sb117 hP110 hD110 hS110 rfl rfl) rfl rfl hl106.1 rfl (lv_room (Nat.le_of_ble_eq_true rfl)) dX2_paint_109 ⟨Nat.zero_le _, Nat.zero_le _⟩) (fun H118 lc118 hP118 hD118 hS118 => ?_); clear sb117 hcl116
    clear hP110 hD110 hS110
    have hP118 : va_P D vwCl (wf [oB (r0 0) 2 [.ref (r0 1), .ref (r0 2), .ref (r0 3), .ref (r0 4), .ref (r0 5)], aI (r0 1) cI 64 w_spots, aI (r0 2) cI 64 w_waves, aI (r0 3) cI 64 w_square_101, aI (r0 4) cI 64 w_halfway_102, aJ (r0 5) cJ 8 w_sums_103, oB (r1 0) 0 [.ref (r1 1), .ref (r1 2), .ref (r1 3), .ref (r1 4), .ref (r1 5), .ref (r1 6), .int f_columns, .int f_rows, .int f_scale, .int f_toEnd, .int f_between, .int f_kept], aI (r1 1) cI 36 f_modes, aI (r1 2) cI 36 f_across, aI (r1 3) cI 36 f_down, aQ (r1 4) cQ r1, aI (r2 1) cI 8 h_scales, aI (r2 2) cI 16 h_steps, oB (r3 0) 3 [.ref (r3 1), .int p3_width, .int p3_height], aI (r3 1) cI 2304 p3_samples, oB (r4 0) 3 [.ref (r4 1), .int p4_width, .int p4_height], aI (r4 1) cI 2304 p4_samples, aI (r5 1) cI 2304 p5_samples_104, oB (r5 0) 3 [.ref (r5 1), .int p5_width_9, .int p5_height_10], oB (r2 0) 1 [.ref (r2 1), .ref (r2 2), .ref (r2 3), .ref (r2 5), .ref (r2 7), .int h_columns, .int h_rows, .int h_limit]] [rowsW cI r1 f_grid]) H118 := hP118
    have hD118 : va_D A (wf [oB (r0 0) 2 [.ref (r0 1), .ref (r0 2), .ref (r0 3), .ref (r0 4), .ref (r0 5)], aI (r0 1) cI 64 w_spots, aI (r0 2) cI 64 w_waves, aI (r0 3) cI 64 w_square_101, aI (r0 4) cI 64 w_halfway_102, aJ (r0 5) cJ 8 w_sums_103, oB (r1 0) 0 [.ref (r1 1), .ref (r1 2), .ref (r1 3), .ref (r1 4), .ref (r1 5), .ref (r1 6), .int f_columns, .int f_rows, .int f_scale, .int f_toEnd, .int f_between, .int f_kept], aI (r1 1) cI 36 f_modes, aI (r1 2) cI 36 f_across, aI (r1 3) cI 36 f_down, aQ (r1 4) cQ r1, aI (r2 1) cI 8 h_scales, aI (r2 2) cI 16 h_steps, oB (r3 0) 3 [.ref (r3 1), .int p3_width, .int p3_height], aI (r3 1) cI 2304 p3_samples, oB (r4 0) 3 [.ref (r4 1), .int p4_width, .int p4_height], aI (r4 1) cI 2304 p4_samples, aI (r5 1) cI 2304 p5_samples_104, oB (r5 0) 3 [.ref (r5 1), .int p5_width_9, .int p5_height_10], oB (r2 0) 1 [.ref (r2 1), .ref (r2 2), .ref (r2 3), .ref (r2 5), .ref (r2 7), .int h_columns, .int h_rows, .int h_limit]] [rowsW cI r1 f_grid]) := hD118
    obtain ⟨p5_samples_119, hcl120, hm120⟩ := bd1_some hm116; clear hm116
    have sb121 := ctS.mk (n := 20) (k := 1) (pre := [oB (r0 0) 2 [.ref (r0 1), .ref (r0 2), .ref (r0 3), .ref (r0 4), .ref (r0 5)], aI (r0 1) cI 64 w_spots, aI (r0 2) cI 64 w_waves, aI (r0 3) cI 64 w_square_101, aI (r0 4) cI 64 w_halfway_102, aJ (r0 5) cJ 8 w_sums_103, oB (r1 0) 0 [.ref (r1 1), .ref (r1 2), .ref (r1 3), .ref (r1 4), .ref (r1 5), .ref (r1 6), .int f_columns, .int f_rows, .int f_scale, .int f_toEnd, .int f_between, .int f_kept], aI (r1 1) cI 36 f_modes, aI (r1 2) cI 36 f_across, aI (r1 3) cI 36 f_down, aQ (r1 4) cQ r1, aI (r2 1) cI 8 h_scales, aI (r2 2) cI 16 h_steps, oB (r3 0) 3 [.ref (r3 1), .int p3_width, .int p3_height], aI (r3 1) cI 2304 p3_samples, oB (r4 0) 3 [.ref (r4 1), .int p4_width, .int p4_height], aI (r4 1) cI 2304 p4_samples, aI (r5 1) cI 2304 p5_samples_104, oB (r5 0) 3 [.ref (r5 1), .int p5_width_9, .int p5_height_10], oB (r2 0) 1 [.ref (r2 1), .ref (r2 2), .ref (r2 3), .ref (r2 5), .ref (r2 7), .int h_columns, .int h_rows, .int h_limit]]) (tl := [rowsW cI r1 f_grid]) [18, 17, 6, 7] [0, 1, 2, 3, 4, 5, 8, 9, 10, 11, 12, 13, 14, 15, 16, 19] [] [0] rfl rfl (by decide +kernel) (by decide +kernel)
    refine ct_callv E sb121 hP118 hD118 hS118 (va_runV (As := [.ref (r1 0), .int y_115]) (rest := []) ⟨hx, hb, hml, hown, hts⟩ (c_X3_smooth l D cB cI cJ cQ N r5 r1 H118.size y_115 p5_width_9 p5_height_10 p5_samples_104 f_columns f_rows f_scale f_toEnd f_between f_kept f_modes (p5_samples_119) hcl120) (cwV 2 hts gX2_paint_X3_smooth rfl rfl rfl cdV_X3_smooth ⟨Nat.le_of_ble_eq_true rfl, Nat.le_of_ble_eq_true rfl⟩) (ct_preV (q0 := 18) (ci := 3) E sb121 hP118 hD118 hS118 rfl rfl) rfl rfl hl106.1 rfl (lv_room (Nat.le_of_ble_eq_true rfl)) dX2_paint_112 ⟨Nat.zero_le _, Nat.zero_le _⟩) (fun H122 lc122 hP122 hD122 hS122 => ?_); clear sb121 hcl120
    clear hP118 hD118 hS118
    have hP122 : va_P D vwCl (wf [oB (r0 0) 2 [.ref (r0 1), .ref (r0 2), .ref (r0 3), .ref (r0 4), .ref (r0 5)], aI (r0 1) cI 64 w_spots, aI (r0 2) cI 64 w_waves, aI (r0 3) cI 64 w_square_101, aI (r0 4) cI 64 w_halfway_102, aJ (r0 5) cJ 8 w_sums_103, aI (r1 2) cI 36 f_across, aI (r1 3) cI 36 f_down, aQ (r1 4) cQ r1, aI (r2 1) cI 8 h_scales, aI (r2 2) cI 16 h_steps, oB (r3 0) 3 [.ref (r3 1), .int p3_width, .int p3_height], aI (r3 1) cI 2304 p3_samples, oB (r4 0) 3 [.ref (r4 1), .int p4_width, .int p4_height], aI (r4 1) cI 2304 p4_samples, oB (r2 0) 1 [.ref (r2 1), .ref (r2 2), .ref (r2 3), .ref (r2 5), .ref (r2 7), .int h_columns, .int h_rows, .int h_limit], oB (r5 0) 3 [.ref (r5 1), .int p5_width_9, .int p5_height_10], aI (r5 1) cI 2304 p5_samples_119, oB (r1 0) 0 [.ref (r1 1), .ref (r1 2), .ref (r1 3), .ref (r1 4), .ref (r1 5), .ref (r1 6), .int f_columns, .int f_rows, .int f_scale, .int f_toEnd, .int f_between, .int f_kept], aI (r1 1) cI 36 f_modes] [rowsW cI r1 f_grid]) H122 := hP122
    have hD122 : va_D A (wf [oB (r0 0) 2 [.ref (r0 1), .ref (r0 2), .ref (r0 3), .ref (r0 4), .ref (r0 5)], aI (r0 1) cI 64 w_spots, aI (r0 2) cI 64 w_waves, aI (r0 3) cI 64 w_square_101, aI (r0 4) cI 64 w_halfway_102, aJ (r0 5) cJ 8 w_sums_103, aI (r1 2) cI 36 f_across, aI (r1 3) cI 36 f_down, aQ (r1 4) cQ r1, aI (r2 1) cI 8 h_scales, aI (r2 2) cI 16 h_steps, oB (r3 0) 3 [.ref (r3 1), .int p3_width, .int p3_height], aI (r3 1) cI 2304 p3_samples, oB (r4 0) 3 [.ref (r4 1), .int p4_width, .int p4_height], aI (r4 1) cI 2304 p4_samples, oB (r2 0) 1 [.ref (r2 1), .ref (r2 2), .ref (r2 3), .ref (r2 5), .ref (r2 7), .int h_columns, .int h_rows, .int h_limit], oB (r5 0) 3 [.ref (r5 1), .int p5_width_9, .int p5_height_10], aI (r5 1) cI 2304 p5_samples_119, oB (r1 0) 0 [.ref (r1 1), .ref (r1 2), .ref (r1 3), .ref (r1 4), .ref (r1 5), .ref (r1 6), .int f_columns, .int f_rows, .int f_scale, .int f_toEnd, .int f_between, .int f_kept], aI (r1 1) cI 36 f_modes] [rowsW cI r1 f_grid]) := hD122
    obtain ⟨hP123, hD123⟩ := ct_ord (n := 20) (k := 1) [0, 1, 2, 3, 4, 5, 18, 19, 6, 7, 8, 15, 9, 10, 11, 12, 13, 14, 16, 17] [0] hP122 hD122 rfl rfl (by decide +kernel) (by decide +kernel)
    have hS123 := hS122
    have hP123 : va_P D vwCl (wf [oB (r0 0) 2 [.ref (r0 1), .ref (r0 2), .ref (r0 3), .ref (r0 4), .ref (r0 5)], aI (r0 1) cI 64 w_spots, aI (r0 2) cI 64 w_waves, aI (r0 3) cI 64 w_square_101, aI (r0 4) cI 64 w_halfway_102, aJ (r0 5) cJ 8 w_sums_103, oB (r1 0) 0 [.ref (r1 1), .ref (r1 2), .ref (r1 3), .ref (r1 4), .ref (r1 5), .ref (r1 6), .int f_columns, .int f_rows, .int f_scale, .int f_toEnd, .int f_between, .int f_kept], aI (r1 1) cI 36 f_modes, aI (r1 2) cI 36 f_across, aI (r1 3) cI 36 f_down, aQ (r1 4) cQ r1, oB (r2 0) 1 [.ref (r2 1), .ref (r2 2), .ref (r2 3), .ref (r2 5), .ref (r2 7), .int h_columns, .int h_rows, .int h_limit], aI (r2 1) cI 8 h_scales, aI (r2 2) cI 16 h_steps, oB (r3 0) 3 [.ref (r3 1), .int p3_width, .int p3_height], aI (r3 1) cI 2304 p3_samples, oB (r4 0) 3 [.ref (r4 1), .int p4_width, .int p4_height], aI (r4 1) cI 2304 p4_samples, oB (r5 0) 3 [.ref (r5 1), .int p5_width_9, .int p5_height_10], aI (r5 1) cI 2304 p5_samples_119] [rowsW cI r1 f_grid]) H122 := hP123
    have hD123 : va_D A (wf [oB (r0 0) 2 [.ref (r0 1), .ref (r0 2), .ref (r0 3), .ref (r0 4), .ref (r0 5)], aI (r0 1) cI 64 w_spots, aI (r0 2) cI 64 w_waves, aI (r0 3) cI 64 w_square_101, aI (r0 4) cI 64 w_halfway_102, aJ (r0 5) cJ 8 w_sums_103, oB (r1 0) 0 [.ref (r1 1), .ref (r1 2), .ref (r1 3), .ref (r1 4), .ref (r1 5), .ref (r1 6), .int f_columns, .int f_rows, .int f_scale, .int f_toEnd, .int f_between, .int f_kept], aI (r1 1) cI 36 f_modes, aI (r1 2) cI 36 f_across, aI (r1 3) cI 36 f_down, aQ (r1 4) cQ r1, oB (r2 0) 1 [.ref (r2 1), .ref (r2 2), .ref (r2 3), .ref (r2 5), .ref (r2 7), .int h_columns, .int h_rows, .int h_limit], aI (r2 1) cI 8 h_scales, aI (r2 2) cI 16 h_steps, oB (r3 0) 3 [.ref (r3 1), .int p3_width, .int p3_height], aI (r3 1) cI 2304 p3_samples, oB (r4 0) 3 [.ref (r4 1), .int p4_width, .int p4_height], aI (r4 1) cI 2304 p4_samples, oB (r5 0) 3 [.ref (r5 1), .int p5_width_9, .int p5_height_10], aI (r5 1) cI 2304 p5_samples_119] [rowsW cI r1 f_grid]) := hD123
    obtain rfl := Option.some.inj hm120
    rw [hQ]
    exact ct_vret hx hb hr hlk hP123 hD123 hS123 dX2_paint_115
