def f_X0_addGuesses_L2  : Nat → (Nat → Int32) → Int32 → Option ((Nat → Int32))
  | 0, _, _ => none
  | n + 1, f_latestOfKind_3, v1_4 =>
  (if (4 : Int32) < v1_4 then
  (some (f_latestOfKind_3))
  else
  (gi v1_4 5 <|
  nm (upd f_latestOfKind_3 v1_4.toNatClampNeg (0 : Int32) : Nat → Int32) fun f_latestOfKind_12 =>
  nm (v1_4 + (1 : Int32) : Int32) fun v1_15 =>
  f_X0_addGuesses_L2 n f_latestOfKind_12 v1_15))

def f_X0_addGuesses_L32 (f_columns : Int32) (f_modes : Nat → Int32) (v1_25 : Int32) : Nat → (Nat → Int32) → (Nat → Nat → Int32) → Int32 → Option ((Nat → Int32) × (Nat → Nat → Int32))
  | 0, _, _, _ => none
  | n + 1, f_latestOfKind_34, f_grid_35, v2_36 =>
  (if f_columns ≤ v2_36 then
  (some (f_latestOfKind_34, f_grid_35))
  else
  (bd1 (f_X0_index v2_36 v1_25 f_columns) fun y_43 =>
  bd1 (f_X0_isCoded y_43 f_modes) fun y_48 =>
  jn (fun (k53 : (Nat → Int32) → (Nat → Nat → Int32) → Option ((Nat → Int32) × (Nat → Nat → Int32))) => (if y_48 = (0 : Int32) then
  (k53 f_latestOfKind_34 f_grid_35)
  else
  (gi y_43 36 <|
  gi (0 : Int32) 64 <|
  bd1 (f_X0_guess v2_36 v1_25 f_columns f_modes f_latestOfKind_34 f_grid_35) fun y_67 =>
  gi (0 : Int32) 64 <|
  nm (updM f_grid_35 y_43.toNatClampNeg (0 : Int32).toNatClampNeg ((f_grid_35 y_43.toNatClampNeg (0 : Int32).toNatClampNeg) + y_67) : Nat → Nat → Int32) fun f_grid_72 =>
  bd1 (f_X0_kind y_43 f_modes) fun y_75 =>
  gi y_43 36 <|
  gi (0 : Int32) 64 <|
  gi y_75 5 <|
  nm (upd f_latestOfKind_34 y_75.toNatClampNeg (f_grid_72 y_43.toNatClampNeg (0 : Int32).toNatClampNeg) : Nat → Int32) fun f_latestOfKind_82 =>
  k53 f_latestOfKind_82 f_grid_72))) fun f_latestOfKind_54 f_grid_55 =>
  nm (v2_36 + (1 : Int32) : Int32) fun v2_58 =>
  f_X0_addGuesses_L32 f_columns f_modes v1_25 n f_latestOfKind_54 f_grid_55 v2_58))

def f_X0_addGuesses_L22 (f_columns : Int32) (f_rows : Int32) (f_modes : Nat → Int32) : Nat → (Nat → Int32) → (Nat → Nat → Int32) → Int32 → Option ((Nat → Int32) × (Nat → Nat → Int32))
  | 0, _, _, _ => none
  | n + 1, f_latestOfKind_23, f_grid_24, v1_25 =>
  (if f_rows ≤ v1_25 then
  (some (f_latestOfKind_23, f_grid_24))
  else
  (bd2 (f_X0_addGuesses_L32 f_columns f_modes v1_25 4000 f_latestOfKind_23 f_grid_24 (0 : Int32)) fun f_latestOfKind_85 f_grid_86 =>
  nm (v1_25 + (1 : Int32) : Int32) fun v1_89 =>
  f_X0_addGuesses_L22 f_columns f_rows f_modes n f_latestOfKind_85 f_grid_86 v1_89))

def f_X0_addGuesses (f_columns : Int32) (f_rows : Int32) (f_modes : Nat → Int32) (f_latestOfKind : Nat → Int32) (f_grid : Nat → Nat → Int32) : Option ((Nat → Int32) × (Nat → Nat → Int32)) :=
  bd1 (f_X0_addGuesses_L2 4000 f_latestOfKind (0 : Int32)) fun f_latestOfKind_18 =>
  bd2 (f_X0_addGuesses_L22 f_columns f_rows f_modes 4000 f_latestOfKind_18 f_grid (0 : Int32)) fun f_latestOfKind_92 f_grid_93 =>
  some (f_latestOfKind_92, f_grid_93)

abbrev rm_X0_addGuesses : Room := { frames := 2, cells := 0, slots := 0, locals := 49 }

theorem cdS_X0_addGuesses : yX0_addGuesses.cls ≠ "java/lang/invoke/MethodHandle" ∧ yX0_addGuesses.cls ≠ "java/lang/invoke/VarHandle" ∧ (parseMethodDescriptor yX0_addGuesses.desc).map (fun d => d.parameters.length) = some 0 := by decide +kernel

theorem cdV_X0_addGuesses : yX0_addGuesses.cls = RX0 ∧ yX0_addGuesses.cls ≠ "java/lang/invoke/MethodHandle" ∧ yX0_addGuesses.cls ≠ "java/lang/invoke/VarHandle" ∧ (parseMethodDescriptor yX0_addGuesses.desc).map (fun d => d.parameters.length) = some 0 := ⟨rfl, cdS_X0_addGuesses⟩

theorem hi_X0_addGuesses_0 : ∀ w ∈ u_ws RX0 TX0 12, w ∈ wsX0_addGuesses := fun _ h => List.mem_cons_of_mem _ (List.mem_append_right _ h)

set_option maxHeartbeats 40000000 in
set_option maxRecDepth 100000 in
theorem c_X0_addGuesses (l : Launch) (D : va_G) (cB cI cJ cQ : ClassId) (N : Nat) (r0 : Nat → Nat) (sz : Nat) (f_columns : Int32) (f_rows : Int32) (f_scale : Int32) (f_toEnd : Int32) (f_between : Int32) (f_kept : Int32) (f_modes : Nat → Int32) (f_latestOfKind : Nat → Int32) (f_grid : Nat → Nat → Int32) (o : (Nat → Int32) × (Nat → Nat → Int32)) (hm0 : f_X0_addGuesses f_columns f_rows f_modes f_latestOfKind f_grid = some o) : Met l yX0_addGuesses wsX0_addGuesses rm_X0_addGuesses (ctP D cB cI cJ cQ N sz [.ref (r0 0)] (wf [oB (r0 0) 0 [.ref (r0 1), .ref (r0 2), .ref (r0 3), .ref (r0 4), .ref (r0 5), .ref (r0 6), .int f_columns, .int f_rows, .int f_scale, .int f_toEnd, .int f_between, .int f_kept], aI (r0 1) cI 36 f_modes, aQ (r0 4) cQ r0, aI (r0 6) cI 5 f_latestOfKind] [rowsW cI r0 f_grid])) (ctQv D (wf [oB (r0 0) 0 [.ref (r0 1), .ref (r0 2), .ref (r0 3), .ref (r0 4), .ref (r0 5), .ref (r0 6), .int f_columns, .int f_rows, .int f_scale, .int f_toEnd, .int f_between, .int f_kept], aI (r0 1) cI 36 f_modes, aQ (r0 4) cQ r0, aI (r0 6) cI 5 (o.1)] [rowsW cI r0 (o.2)]) (va_A (wf [oB (r0 0) 0 [.ref (r0 1), .ref (r0 2), .ref (r0 3), .ref (r0 4), .ref (r0 5), .ref (r0 6), .int f_columns, .int f_rows, .int f_scale, .int f_toEnd, .int f_between, .int f_kept], aI (r0 1) cI 36 f_modes, aQ (r0 4) cQ r0, aI (r0 6) cI 5 f_latestOfKind] [rowsW cI r0 f_grid]) sz)) 0 0 (va_A (wf [oB (r0 0) 0 [.ref (r0 1), .ref (r0 2), .ref (r0 3), .ref (r0 4), .ref (r0 5), .ref (r0 6), .int f_columns, .int f_rows, .int f_scale, .int f_toEnd, .int f_between, .int f_kept], aI (r0 1) cI 36 f_modes, aQ (r0 4) cQ r0, aI (r0 6) cI 5 f_latestOfKind] [rowsW cI r0 f_grid]) sz) := by
  refine ct_of (cc := cX0_addGuesses) (maxL := 4) (ret := none) (own := RX0) (Qp := ctQv D (wf [oB (r0 0) 0 [.ref (r0 1), .ref (r0 2), .ref (r0 3), .ref (r0 4), .ref (r0 5), .ref (r0 6), .int f_columns, .int f_rows, .int f_scale, .int f_toEnd, .int f_between, .int f_kept], aI (r0 1) cI 36 f_modes, aQ (r0 4) cQ r0, aI (r0 6) cI 5 (o.1)] [rowsW cI r0 (o.2)])) (by decide) rfl rfl (Nat.le_of_ble_eq_true rfl) ?_
  intro p e s m args below meth c A hx hb hr hml hown hts hlk hnm hsz hAe E hP0 hD0 hS0 ls0 hl0
  subst hsz
  have hl0 : lv_has ls0 4 [(0, .ref (r0 0))] := hl0
  obtain ⟨QQ, hQ⟩ : ∃ Q : State → Prop, Q = MQ below (ctQv D (wf [oB (r0 0) 0 [.ref (r0 1), .ref (r0 2), .ref (r0 3), .ref (r0 4), .ref (r0 5), .ref (r0 6), .int f_columns, .int f_rows, .int f_scale, .int f_toEnd, .int f_between, .int f_kept], aI (r0 1) cI 36 f_modes, aQ (r0 4) cQ r0, aI (r0 6) cI 5 (o.1)] [rowsW cI r0 (o.2)]) A) args s 0 0 A := ⟨_, rfl⟩
  rw [← hQ]
  unfold f_X0_addGuesses at hm0
  refine lv_iconst (v := 0) hx hb dX0_addGuesses_0 (by decide) ?_
  refine lv_istore_n (lv' := [(1, .int (0 : Int32)), (0, .ref (r0 0))]) hx hb dX0_addGuesses_1 rfl hl0 (by decide) rfl (fun ls1 hl1 => ?_); clear hl0
  obtain ⟨f_latestOfKind_18, hlp2, hm19⟩ := bd1_some hm0; clear hm0
  have LP2 : ∀ (n : Nat) (f_latestOfKind_3 : Nat → Int32) (v1_4 : Int32) (z2 : (Nat → Int32)) (H5 : Heap) (lc5 : List Loc) (ls5 : Array Slot), f_X0_addGuesses_L2 n f_latestOfKind_3 v1_4 = some z2 → va_P D vwCl (wf [oB (r0 0) 0 [.ref (r0 1), .ref (r0 2), .ref (r0 3), .ref (r0 4), .ref (r0 5), .ref (r0 6), .int f_columns, .int f_rows, .int f_scale, .int f_toEnd, .int f_between, .int f_kept], aI (r0 1) cI 36 f_modes, aQ (r0 4) cQ r0, aI (r0 6) cI 5 f_latestOfKind_3] [rowsW cI r0 f_grid]) H5 → va_D A (wf [oB (r0 0) 0 [.ref (r0 1), .ref (r0 2), .ref (r0 3), .ref (r0 4), .ref (r0 5), .ref (r0 6), .int f_columns, .int f_rows, .int f_scale, .int f_toEnd, .int f_between, .int f_kept], aI (r0 1) cI 36 f_modes, aQ (r0 4) cQ r0, aI (r0 6) cI 5 f_latestOfKind_3] [rowsW cI r0 f_grid]) → va_S A s.heap H5 lc5 → lv_has ls5 4 [(0, .ref (r0 0)), (1, .int v1_4)] → (∀ (H : Heap) (lc : List Loc) (ls : Array Slot), va_P D vwCl (wf [oB (r0 0) 0 [.ref (r0 1), .ref (r0 2), .ref (r0 3), .ref (r0 4), .ref (r0 5), .ref (r0 6), .int f_columns, .int f_rows, .int f_scale, .int f_toEnd, .int f_between, .int f_kept], aI (r0 1) cI 36 f_modes, aQ (r0 4) cQ r0, aI (r0 6) cI 5 z2] [rowsW cI r0 f_grid]) H → va_D A (wf [oB (r0 0) 0 [.ref (r0 1), .ref (r0 2), .ref (r0 3), .ref (r0 4), .ref (r0 5), .ref (r0 6), .int f_columns, .int f_rows, .int f_scale, .int f_toEnd, .int f_between, .int f_kept], aI (r0 1) cI 36 f_modes, aQ (r0 4) cQ r0, aI (r0 6) cI 5 z2] [rowsW cI r0 f_grid]) → va_S A s.heap H lc → lv_has ls 4 [(0, .ref (r0 0))] → W p l e rm_X0_addGuesses s m args below meth c H lc 0 0 QQ (F0 m 20 ls [])) → W p l e rm_X0_addGuesses s m args below meth c H5 lc5 0 0 QQ (F0 m 2 ls5 []) := by
    intro n
    induction n with
    | zero =>
      intro f_latestOfKind_3 v1_4 z2 H5 lc5 ls5 hm7; simp [f_X0_addGuesses_L2] at hm7
    | succ n ih =>
      intro f_latestOfKind_3 v1_4 z2 H5 lc5 ls5 hm7 hP5 hD5 hS5 hl5 kx
      rw [f_X0_addGuesses_L2] at hm7
      refine lv_iload_n hx hb dX0_addGuesses_2 rfl (lv_at hl5 1 rfl) ?_
      refine lv_iconst (v := 4) hx hb dX0_addGuesses_3 (by decide) ?_
      refine lv_icmp_gt (tgt := 20) hx hb dX0_addGuesses_4 (by decide) (fun hc8 => ?_) (fun hc8 => ?_)
      · have hm9 := bq_t hm7 hc8; clear hm7
        obtain rfl := Option.some.inj hm9
        exact kx _ _ _ hP5 hD5 hS5 (lv_sub hl5 [0] rfl)
      · have hm10 := bq_f hm7 hc8; clear hm7
        refine lv_aload_n hx hb dX0_addGuesses_7 rfl (lv_at hl5 0 rfl) ?_
        refine va_get (D := D) (ci := 0) (v := .ref (r0 6)) (C := RX0) (T := TX0) (N := 12) hx hb hts hi_X0_addGuesses_0 hown E.1 hP5 0 rfl rfl 5 (by decide) (hts _ (List.mem_of_getElem? (i := 1) rfl)) (fun _ h9 => h9) rfl dX0_addGuesses_8 ?_
        refine lv_iload_n hx hb dX0_addGuesses_11 rfl (lv_at hl5 1 rfl) ?_
        refine lv_iconst (v := 0) hx hb dX0_addGuesses_12 (by decide) ?_
        obtain ⟨hin11, hm11⟩ := gi_some hm10; clear hm10
        obtain ⟨f_latestOfKind_12, ef_latestOfKind_12, hm13⟩ := nm_some hm11; clear hm11
        refine ct_iast (g := f_latestOfKind_12) (ws' := (wf [oB (r0 0) 0 [.ref (r0 1), .ref (r0 2), .ref (r0 3), .ref (r0 4), .ref (r0 5), .ref (r0 6), .int f_columns, .int f_rows, .int f_scale, .int f_toEnd, .int f_between, .int f_kept], aI (r0 1) cI 36 f_modes, aQ (r0 4) cQ r0, aI (r0 6) cI 5 f_latestOfKind_12] [rowsW cI r0 f_grid])) hx hb E.1 hP5 hD5 hS5 3 0 rfl rfl hin11 ef_latestOfKind_12 rfl dX0_addGuesses_13 (fun H14 lc14 hP14 hD14 hS14 => ?_)
        clear hP5 hD5 hS5
        obtain ⟨v1_15, ev1_15, hm16⟩ := nm_some hm13; clear hm13
        refine lv_iinc (v := v1_15) (lv' := [(1, .int v1_15), (0, .ref (r0 0))]) hx hb dX0_addGuesses_14 hl5 (k := 1) rfl (by rw [ev1_15]; rfl) (by decide) rfl (fun ls17 hl17 => ?_); clear hl5
        refine lv_goto (tgt := 2) hx hb dX0_addGuesses_17 (by decide) ?_
        exact ih f_latestOfKind_12 v1_15 _ _ _ _ hm16 hP14 hD14 hS14 (lv_sub hl17 [1, 0] rfl) kx
  refine LP2 4000 f_latestOfKind (0 : Int32) (f_latestOfKind_18) _ _ _ hlp2 hP0 hD0 hS0 (lv_sub hl1 [1, 0] rfl) (fun H20 lc20 ls20 hP20 hD20 hS20 hl20 => ?_); clear LP2 hlp2
  clear hP0 hD0 hS0
  have hl20 : lv_has ls20 4 [(0, .ref (r0 0))] := hl20
  have hP20 : va_P D vwCl (wf [oB (r0 0) 0 [.ref (r0 1), .ref (r0 2), .ref (r0 3), .ref (r0 4), .ref (r0 5), .ref (r0 6), .int f_columns, .int f_rows, .int f_scale, .int f_toEnd, .int f_between, .int f_kept], aI (r0 1) cI 36 f_modes, aQ (r0 4) cQ r0, aI (r0 6) cI 5 f_latestOfKind_18] [rowsW cI r0 f_grid]) H20 := hP20
  have hD20 : va_D A (wf [oB (r0 0) 0 [.ref (r0 1), .ref (r0 2), .ref (r0 3), .ref (r0 4), .ref (r0 5), .ref (r0 6), .int f_columns, .int f_rows, .int f_scale, .int f_toEnd, .int f_between, .int f_kept], aI (r0 1) cI 36 f_modes, aQ (r0 4) cQ r0, aI (r0 6) cI 5 f_latestOfKind_18] [rowsW cI r0 f_grid]) := hD20
  refine lv_iconst (v := 0) hx hb dX0_addGuesses_20 (by decide) ?_
  refine lv_istore_n (lv' := [(1, .int (0 : Int32)), (0, .ref (r0 0))]) hx hb dX0_addGuesses_21 rfl hl20 (by decide) rfl (fun ls21 hl21 => ?_); clear hl20
  obtain ⟨f_latestOfKind_92, f_grid_93, hlp22, hm94⟩ := bd2_some hm19; clear hm19
  have LP22 : ∀ (n : Nat) (f_latestOfKind_23 : Nat → Int32) (f_grid_24 : Nat → Nat → Int32) (v1_25 : Int32) (z22 : (Nat → Int32) × (Nat → Nat → Int32)) (H26 : Heap) (lc26 : List Loc) (ls26 : Array Slot), f_X0_addGuesses_L22 f_columns f_rows f_modes n f_latestOfKind_23 f_grid_24 v1_25 = some z22 → va_P D vwCl (wf [oB (r0 0) 0 [.ref (r0 1), .ref (r0 2), .ref (r0 3), .ref (r0 4), .ref (r0 5), .ref (r0 6), .int f_columns, .int f_rows, .int f_scale, .int f_toEnd, .int f_between, .int f_kept], aI (r0 1) cI 36 f_modes, aQ (r0 4) cQ r0, aI (r0 6) cI 5 f_latestOfKind_23] [rowsW cI r0 f_grid_24]) H26 → va_D A (wf [oB (r0 0) 0 [.ref (r0 1), .ref (r0 2), .ref (r0 3), .ref (r0 4), .ref (r0 5), .ref (r0 6), .int f_columns, .int f_rows, .int f_scale, .int f_toEnd, .int f_between, .int f_kept], aI (r0 1) cI 36 f_modes, aQ (r0 4) cQ r0, aI (r0 6) cI 5 f_latestOfKind_23] [rowsW cI r0 f_grid_24]) → va_S A s.heap H26 lc26 → lv_has ls26 4 [(0, .ref (r0 0)), (1, .int v1_25)] → (∀ (H : Heap) (lc : List Loc) (ls : Array Slot), va_P D vwCl (wf [oB (r0 0) 0 [.ref (r0 1), .ref (r0 2), .ref (r0 3), .ref (r0 4), .ref (r0 5), .ref (r0 6), .int f_columns, .int f_rows, .int f_scale, .int f_toEnd, .int f_between, .int f_kept], aI (r0 1) cI 36 f_modes, aQ (r0 4) cQ r0, aI (r0 6) cI 5 (z22.1)] [rowsW cI r0 (z22.2)]) H → va_D A (wf [oB (r0 0) 0 [.ref (r0 1), .ref (r0 2), .ref (r0 3), .ref (r0 4), .ref (r0 5), .ref (r0 6), .int f_columns, .int f_rows, .int f_scale, .int f_toEnd, .int f_between, .int f_kept], aI (r0 1) cI 36 f_modes, aQ (r0 4) cQ r0, aI (r0 6) cI 5 (z22.1)] [rowsW cI r0 (z22.2)]) → va_S A s.heap H lc → lv_has ls 4 [] → W p l e rm_X0_addGuesses s m args below meth c H lc 0 0 QQ (F0 m 102 ls [])) → W p l e rm_X0_addGuesses s m args below meth c H26 lc26 0 0 QQ (F0 m 22 ls26 []) := by
    intro n
    induction n with
    | zero =>
      intro f_latestOfKind_23 f_grid_24 v1_25 z22 H26 lc26 ls26 hm28; simp [f_X0_addGuesses_L22] at hm28
    | succ n ih =>
      intro f_latestOfKind_23 f_grid_24 v1_25 z22 H26 lc26 ls26 hm28 hP26 hD26 hS26 hl26 kx
      rw [f_X0_addGuesses_L22] at hm28
      refine lv_iload_n hx hb dX0_addGuesses_22 rfl (lv_at hl26 1 rfl) ?_
      refine lv_aload_n hx hb dX0_addGuesses_23 rfl (lv_at hl26 0 rfl) ?_
      refine va_get (D := D) (ci := 0) (v := .int f_rows) (C := RX0) (T := TX0) (N := 12) hx hb hts hi_X0_addGuesses_0 hown E.1 hP26 0 rfl rfl 7 (by decide) (hts _ (List.mem_of_getElem? (i := 2) rfl)) (fun _ h9 => h9) rfl dX0_addGuesses_24 ?_
      refine lv_icmp_ge (tgt := 102) hx hb dX0_addGuesses_27 (by decide) (fun hc29 => ?_) (fun hc29 => ?_)
      · have hm30 := bq_t hm28 hc29; clear hm28
        obtain rfl := Option.some.inj hm30
        exact kx _ _ _ hP26 hD26 hS26 (lv_sub hl26 [] rfl)
      · have hm31 := bq_f hm28 hc29; clear hm28
        refine lv_iconst (v := 0) hx hb dX0_addGuesses_30 (by decide) ?_
        refine lv_istore_n (lv' := [(2, .int (0 : Int32)), (0, .ref (r0 0)), (1, .int v1_25)]) hx hb dX0_addGuesses_31 rfl hl26 (by decide) rfl (fun ls32 hl32 => ?_); clear hl26
        obtain ⟨f_latestOfKind_85, f_grid_86, hlp33, hm87⟩ := bd2_some hm31; clear hm31
        have LP33 : ∀ (n : Nat) (f_latestOfKind_34 : Nat → Int32) (f_grid_35 : Nat → Nat → Int32) (v2_36 : Int32) (z33 : (Nat → Int32) × (Nat → Nat → Int32)) (H37 : Heap) (lc37 : List Loc) (ls37 : Array Slot), f_X0_addGuesses_L32 f_columns f_modes v1_25 n f_latestOfKind_34 f_grid_35 v2_36 = some z33 → va_P D vwCl (wf [oB (r0 0) 0 [.ref (r0 1), .ref (r0 2), .ref (r0 3), .ref (r0 4), .ref (r0 5), .ref (r0 6), .int f_columns, .int f_rows, .int f_scale, .int f_toEnd, .int f_between, .int f_kept], aI (r0 1) cI 36 f_modes, aQ (r0 4) cQ r0, aI (r0 6) cI 5 f_latestOfKind_34] [rowsW cI r0 f_grid_35]) H37 → va_D A (wf [oB (r0 0) 0 [.ref (r0 1), .ref (r0 2), .ref (r0 3), .ref (r0 4), .ref (r0 5), .ref (r0 6), .int f_columns, .int f_rows, .int f_scale, .int f_toEnd, .int f_between, .int f_kept], aI (r0 1) cI 36 f_modes, aQ (r0 4) cQ r0, aI (r0 6) cI 5 f_latestOfKind_34] [rowsW cI r0 f_grid_35]) → va_S A s.heap H37 lc37 → lv_has ls37 4 [(0, .ref (r0 0)), (1, .int v1_25), (2, .int v2_36)] → (∀ (H : Heap) (lc : List Loc) (ls : Array Slot), va_P D vwCl (wf [oB (r0 0) 0 [.ref (r0 1), .ref (r0 2), .ref (r0 3), .ref (r0 4), .ref (r0 5), .ref (r0 6), .int f_columns, .int f_rows, .int f_scale, .int f_toEnd, .int f_between, .int f_kept], aI (r0 1) cI 36 f_modes, aQ (r0 4) cQ r0, aI (r0 6) cI 5 (z33.1)] [rowsW cI r0 (z33.2)]) H → va_D A (wf [oB (r0 0) 0 [.ref (r0 1), .ref (r0 2), .ref (r0 3), .ref (r0 4), .ref (r0 5), .ref (r0 6), .int f_columns, .int f_rows, .int f_scale, .int f_toEnd, .int f_between, .int f_kept], aI (r0 1) cI 36 f_modes, aQ (r0 4) cQ r0, aI (r0 6) cI 5 (z33.1)] [rowsW cI r0 (z33.2)]) → va_S A s.heap H lc → lv_has ls 4 [(0, .ref (r0 0)), (1, .int v1_25)] → W p l e rm_X0_addGuesses s m args below meth c H lc 0 0 QQ (F0 m 96 ls [])) → W p l e rm_X0_addGuesses s m args below meth c H37 lc37 0 0 QQ (F0 m 32 ls37 []) := by
          intro n
          induction n with
          | zero =>
            intro f_latestOfKind_34 f_grid_35 v2_36 z33 H37 lc37 ls37 hm39; simp [f_X0_addGuesses_L32] at hm39
          | succ n ih =>
            intro f_latestOfKind_34 f_grid_35 v2_36 z33 H37 lc37 ls37 hm39 hP37 hD37 hS37 hl37 kx
            rw [f_X0_addGuesses_L32] at hm39
            refine lv_iload_n hx hb dX0_addGuesses_32 rfl (lv_at hl37 2 rfl) ?_
            refine lv_aload_n hx hb dX0_addGuesses_33 rfl (lv_at hl37 0 rfl) ?_
            refine va_get (D := D) (ci := 0) (v := .int f_columns) (C := RX0) (T := TX0) (N := 12) hx hb hts hi_X0_addGuesses_0 hown E.1 hP37 0 rfl rfl 6 (by decide) (hts _ (List.mem_of_getElem? (i := 3) rfl)) (fun _ h9 => h9) rfl dX0_addGuesses_34 ?_
            refine lv_icmp_ge (tgt := 96) hx hb dX0_addGuesses_37 (by decide) (fun hc40 => ?_) (fun hc40 => ?_)
            · have hm41 := bq_t hm39 hc40; clear hm39
              obtain rfl := Option.some.inj hm41
              exact kx _ _ _ hP37 hD37 hS37 (lv_sub hl37 [0, 1] rfl)
            · have hm42 := bq_f hm39 hc40; clear hm39
              refine lv_aload_n hx hb dX0_addGuesses_40 rfl (lv_at hl37 0 rfl) ?_
              refine lv_iload_n hx hb dX0_addGuesses_41 rfl (lv_at hl37 2 rfl) ?_
              refine lv_iload_n hx hb dX0_addGuesses_42 rfl (lv_at hl37 1 rfl) ?_
              obtain ⟨y_43, hcl44, hm44⟩ := bd1_some hm42; clear hm42
              have sb45 := ctS.mk (n := 4) (k := 1) (pre := [oB (r0 0) 0 [.ref (r0 1), .ref (r0 2), .ref (r0 3), .ref (r0 4), .ref (r0 5), .ref (r0 6), .int f_columns, .int f_rows, .int f_scale, .int f_toEnd, .int f_between, .int f_kept], aI (r0 1) cI 36 f_modes, aQ (r0 4) cQ r0, aI (r0 6) cI 5 f_latestOfKind_34]) (tl := [rowsW cI r0 f_grid_35]) [0] [1, 2, 3] [] [0] rfl rfl (by decide +kernel) (by decide +kernel)
              refine ct_calli (r := y_43) E sb45 hP37 hD37 hS37 (va_runV (As := [.int v2_36, .int v1_25]) (rest := []) ⟨hx, hb, hml, hown, hts⟩ (c_X0_index l D cB cI cJ cQ N r0 H37.size v2_36 v1_25 f_columns f_rows f_scale f_toEnd f_between f_kept (y_43) hcl44) (cwV 2 hts gX0_addGuesses_X0_index rfl rfl rfl cdV_X0_index ⟨Nat.le_of_ble_eq_true rfl, Nat.le_of_ble_eq_true rfl⟩) (ct_preV (q0 := 0) (ci := 0) E sb45 hP37 hD37 hS37 rfl rfl) rfl rfl hl37.1 rfl (lv_room (Nat.le_of_ble_eq_true rfl)) dX0_addGuesses_43 ⟨Nat.zero_le _, Nat.zero_le _⟩) (fun H46 lc46 hP46 hD46 hS46 => ?_); clear sb45 hcl44
              clear hP37 hD37 hS37
              have hP46 : va_P D vwCl (wf [aI (r0 1) cI 36 f_modes, aQ (r0 4) cQ r0, aI (r0 6) cI 5 f_latestOfKind_34, oB (r0 0) 0 [.ref (r0 1), .ref (r0 2), .ref (r0 3), .ref (r0 4), .ref (r0 5), .ref (r0 6), .int f_columns, .int f_rows, .int f_scale, .int f_toEnd, .int f_between, .int f_kept]] [rowsW cI r0 f_grid_35]) H46 := hP46
              have hD46 : va_D A (wf [aI (r0 1) cI 36 f_modes, aQ (r0 4) cQ r0, aI (r0 6) cI 5 f_latestOfKind_34, oB (r0 0) 0 [.ref (r0 1), .ref (r0 2), .ref (r0 3), .ref (r0 4), .ref (r0 5), .ref (r0 6), .int f_columns, .int f_rows, .int f_scale, .int f_toEnd, .int f_between, .int f_kept]] [rowsW cI r0 f_grid_35]) := hD46
              refine lv_istore_n (lv' := [(3, .int y_43), (0, .ref (r0 0)), (1, .int v1_25), (2, .int v2_36)]) hx hb dX0_addGuesses_46 rfl hl37 (by decide) rfl (fun ls47 hl47 => ?_); clear hl37
              refine lv_aload_n hx hb dX0_addGuesses_47 rfl (lv_at hl47 1 rfl) ?_
              refine lv_iload_n hx hb dX0_addGuesses_48 rfl (lv_at hl47 0 rfl) ?_
              obtain ⟨y_48, hcl49, hm49⟩ := bd1_some hm44; clear hm44
              have sb50 := ctS.mk (n := 4) (k := 1) (pre := [aI (r0 1) cI 36 f_modes, aQ (r0 4) cQ r0, aI (r0 6) cI 5 f_latestOfKind_34, oB (r0 0) 0 [.ref (r0 1), .ref (r0 2), .ref (r0 3), .ref (r0 4), .ref (r0 5), .ref (r0 6), .int f_columns, .int f_rows, .int f_scale, .int f_toEnd, .int f_between, .int f_kept]]) (tl := [rowsW cI r0 f_grid_35]) [3, 0] [1, 2] [] [0] rfl rfl (by decide +kernel) (by decide +kernel)
              refine ct_calli (r := y_48) E sb50 hP46 hD46 hS46 (va_runV (As := [.int y_43]) (rest := []) ⟨hx, hb, hml, hown, hts⟩ (c_X0_isCoded l D cB cI cJ cQ N r0 H46.size y_43 f_columns f_rows f_scale f_toEnd f_between f_kept f_modes (y_48) hcl49) (cwV 1 hts gX0_addGuesses_X0_isCoded rfl rfl rfl cdV_X0_isCoded ⟨Nat.le_of_ble_eq_true rfl, Nat.le_of_ble_eq_true rfl⟩) (ct_preV (q0 := 3) (ci := 0) E sb50 hP46 hD46 hS46 rfl rfl) rfl rfl hl47.1 rfl (lv_room (Nat.le_of_ble_eq_true rfl)) dX0_addGuesses_49 ⟨Nat.zero_le _, Nat.zero_le _⟩) (fun H51 lc51 hP51 hD51 hS51 => ?_); clear sb50 hcl49
              clear hP46 hD46 hS46
              have hP51 : va_P D vwCl (wf [aQ (r0 4) cQ r0, aI (r0 6) cI 5 f_latestOfKind_34, oB (r0 0) 0 [.ref (r0 1), .ref (r0 2), .ref (r0 3), .ref (r0 4), .ref (r0 5), .ref (r0 6), .int f_columns, .int f_rows, .int f_scale, .int f_toEnd, .int f_between, .int f_kept], aI (r0 1) cI 36 f_modes] [rowsW cI r0 f_grid_35]) H51 := hP51
              have hD51 : va_D A (wf [aQ (r0 4) cQ r0, aI (r0 6) cI 5 f_latestOfKind_34, oB (r0 0) 0 [.ref (r0 1), .ref (r0 2), .ref (r0 3), .ref (r0 4), .ref (r0 5), .ref (r0 6), .int f_columns, .int f_rows, .int f_scale, .int f_toEnd, .int f_between, .int f_kept], aI (r0 1) cI 36 f_modes] [rowsW cI r0 f_grid_35]) := hD51
              obtain ⟨k53, ek53, hm53⟩ := jn_some hm49; clear hm49
              have KJ53 : ∀ (f_latestOfKind_54 : Nat → Int32) (f_grid_55 : Nat → Nat → Int32) (H56 : Heap) (lc56 : List Loc) (ls56 : Array Slot), k53 f_latestOfKind_54 f_grid_55 = some z33 → va_P D vwCl (wf [aQ (r0 4) cQ r0, aI (r0 6) cI 5 f_latestOfKind_54, oB (r0 0) 0 [.ref (r0 1), .ref (r0 2), .ref (r0 3), .ref (r0 4), .ref (r0 5), .ref (r0 6), .int f_columns, .int f_rows, .int f_scale, .int f_toEnd, .int f_between, .int f_kept], aI (r0 1) cI 36 f_modes] [rowsW cI r0 f_grid_55]) H56 → va_D A (wf [aQ (r0 4) cQ r0, aI (r0 6) cI 5 f_latestOfKind_54, oB (r0 0) 0 [.ref (r0 1), .ref (r0 2), .ref (r0 3), .ref (r0 4), .ref (r0 5), .ref (r0 6), .int f_columns, .int f_rows, .int f_scale, .int f_toEnd, .int f_between, .int f_kept], aI (r0 1) cI 36 f_modes] [rowsW cI r0 f_grid_55]) → va_S A s.heap H56 lc56 → lv_has ls56 4 [(0, .ref (r0 0)), (1, .int v1_25), (2, .int v2_36)] → W p l e rm_X0_addGuesses s m args below meth c H56 lc56 0 0 QQ (F0 m 90 ls56 []) := by
                intro f_latestOfKind_54 f_grid_55 H56 lc56 ls56 hm57 hP56 hD56 hS56 hl56
                rw [ek53] at hm57
                obtain ⟨v2_58, ev2_58, hm59⟩ := nm_some hm57; clear hm57
                refine lv_iinc (v := v2_58) (lv' := [(2, .int v2_58), (0, .ref (r0 0)), (1, .int v1_25)]) hx hb dX0_addGuesses_90 hl56 (k := 2) rfl (by rw [ev2_58]; rfl) (by decide) rfl (fun ls60 hl60 => ?_); clear hl56
                refine lv_goto (tgt := 32) hx hb dX0_addGuesses_93 (by decide) ?_
                obtain ⟨hP61, hD61⟩ := ct_ord (n := 4) (k := 1) [2, 3, 0, 1] [0] hP56 hD56 rfl rfl (by decide +kernel) (by decide +kernel)
                have hS61 := hS56
                have hP61 : va_P D vwCl (wf [oB (r0 0) 0 [.ref (r0 1), .ref (r0 2), .ref (r0 3), .ref (r0 4), .ref (r0 5), .ref (r0 6), .int f_columns, .int f_rows, .int f_scale, .int f_toEnd, .int f_between, .int f_kept], aI (r0 1) cI 36 f_modes, aQ (r0 4) cQ r0, aI (r0 6) cI 5 f_latestOfKind_54] [rowsW cI r0 f_grid_55]) H56 := hP61
                have hD61 : va_D A (wf [oB (r0 0) 0 [.ref (r0 1), .ref (r0 2), .ref (r0 3), .ref (r0 4), .ref (r0 5), .ref (r0 6), .int f_columns, .int f_rows, .int f_scale, .int f_toEnd, .int f_between, .int f_kept], aI (r0 1) cI 36 f_modes, aQ (r0 4) cQ r0, aI (r0 6) cI 5 f_latestOfKind_54] [rowsW cI r0 f_grid_55]) := hD61
                exact ih f_latestOfKind_54 f_grid_55 v2_58 _ _ _ _ hm59 hP61 hD61 hS61 (lv_sub hl60 [1, 2, 0] rfl) kx
              refine lv_if_eq (tgt := 90) hx hb dX0_addGuesses_52 (by decide) (fun hc62 => ?_) (fun hc62 => ?_)
              · have hm63 := bq_t hm53 hc62; clear hm53
                exact KJ53 f_latestOfKind_34 f_grid_35 _ _ _ hm63 hP51 hD51 hS51 (lv_sub hl47 [1, 2, 3] rfl)
              · have hm64 := bq_f hm53 hc62; clear hm53
                refine lv_aload_n hx hb dX0_addGuesses_55 rfl (lv_at hl47 1 rfl) ?_
                refine va_get (D := D) (ci := 0) (v := .ref (r0 4)) (C := RX0) (T := TX0) (N := 12) hx hb hts hi_X0_addGuesses_0 hown E.1 hP51 2 rfl rfl 3 (by decide) (hts _ (List.mem_of_getElem? (i := 4) rfl)) (fun _ h9 => h9) rfl dX0_addGuesses_56 ?_
                refine lv_iload_n hx hb dX0_addGuesses_59 rfl (lv_at hl47 0 rfl) ?_
                obtain ⟨hin65, hm65⟩ := gi_some hm64; clear hm64
                refine ct_aald hx hb E.1 hP51 0 rfl hin65 dX0_addGuesses_60 ?_
                refine lv_iconst (v := 0) hx hb dX0_addGuesses_61 (by decide) ?_
                refine lv_dup2_11 hx hb dX0_addGuesses_62 rfl rfl ?_
                obtain ⟨hin66, hm66⟩ := gi_some hm65; clear hm65
                refine ct_rld hx hb E.1 hP51 (vp_row hin65) hin66 dX0_addGuesses_63 ?_
                refine lv_aload_n hx hb dX0_addGuesses_64 rfl (lv_at hl47 1 rfl) ?_
                refine lv_iload_n hx hb dX0_addGuesses_65 rfl (lv_at hl47 3 rfl) ?_
                refine lv_iload_n hx hb dX0_addGuesses_66 rfl (lv_at hl47 2 rfl) ?_
                obtain ⟨y_67, hcl68, hm68⟩ := bd1_some hm66; clear hm66
                have sb69 := ctS.mk (n := 4) (k := 1) (pre := [aQ (r0 4) cQ r0, aI (r0 6) cI 5 f_latestOfKind_34, oB (r0 0) 0 [.ref (r0 1), .ref (r0 2), .ref (r0 3), .ref (r0 4), .ref (r0 5), .ref (r0 6), .int f_columns, .int f_rows, .int f_scale, .int f_toEnd, .int f_between, .int f_kept], aI (r0 1) cI 36 f_modes]) (tl := [rowsW cI r0 f_grid_35]) [2, 3, 0, 1] [] [0] [] rfl rfl (by decide +kernel) (by decide +kernel)
                refine ct_calli (r := y_67) E sb69 hP51 hD51 hS51 (va_runV (As := [.int v2_36, .int v1_25]) (rest := [.int (f_grid_35 y_43.toNatClampNeg (0 : Int32).toNatClampNeg), .int (0 : Int32), .ref (r0 (7 + y_43.toNatClampNeg))]) ⟨hx, hb, hml, hown, hts⟩ (c_X0_guess l D cB cI cJ cQ N r0 H51.size v2_36 v1_25 f_columns f_rows f_scale f_toEnd f_between f_kept f_modes f_latestOfKind_34 f_grid_35 (y_67) hcl68) (cwV 2 hts gX0_addGuesses_X0_guess rfl rfl rfl cdV_X0_guess ⟨Nat.le_of_ble_eq_true rfl, Nat.le_of_ble_eq_true rfl⟩) (ct_preV (q0 := 2) (ci := 0) E sb69 hP51 hD51 hS51 rfl rfl) rfl rfl hl47.1 rfl (lv_room (Nat.le_of_ble_eq_true rfl)) dX0_addGuesses_67 ⟨Nat.zero_le _, Nat.zero_le _⟩) (fun H70 lc70 hP70 hD70 hS70 => ?_); clear sb69 hcl68
                clear hP51 hD51 hS51
                have hP70 : va_P D vwCl (wf [oB (r0 0) 0 [.ref (r0 1), .ref (r0 2), .ref (r0 3), .ref (r0 4), .ref (r0 5), .ref (r0 6), .int f_columns, .int f_rows, .int f_scale, .int f_toEnd, .int f_between, .int f_kept], aI (r0 1) cI 36 f_modes, aQ (r0 4) cQ r0, aI (r0 6) cI 5 f_latestOfKind_34] [rowsW cI r0 f_grid_35]) H70 := hP70
                have hD70 : va_D A (wf [oB (r0 0) 0 [.ref (r0 1), .ref (r0 2), .ref (r0 3), .ref (r0 4), .ref (r0 5), .ref (r0 6), .int f_columns, .int f_rows, .int f_scale, .int f_toEnd, .int f_between, .int f_kept], aI (r0 1) cI 36 f_modes, aQ (r0 4) cQ r0, aI (r0 6) cI 5 f_latestOfKind_34] [rowsW cI r0 f_grid_35]) := hD70
                refine lv_iadd hx hb dX0_addGuesses_70 ?_
                obtain ⟨hin71, hm71⟩ := gi_some hm68; clear hm68
                obtain ⟨f_grid_72, ef_grid_72, hm73⟩ := nm_some hm71; clear hm71
                refine ct_rst hx hb E.1 hP70 hD70 hS70 (vp_row hin65) hin71 ef_grid_72 dX0_addGuesses_71 (fun H74 lc74 hP74 hD74 hS74 => ?_)
                clear hP70 hD70 hS70
                have hP74 : va_P D vwCl (wf [oB (r0 0) 0 [.ref (r0 1), .ref (r0 2), .ref (r0 3), .ref (r0 4), .ref (r0 5), .ref (r0 6), .int f_columns, .int f_rows, .int f_scale, .int f_toEnd, .int f_between, .int f_kept], aI (r0 1) cI 36 f_modes, aQ (r0 4) cQ r0, aI (r0 6) cI 5 f_latestOfKind_34] [rowsW cI r0 f_grid_72]) H74 := hP74
                have hD74 : va_D A (wf [oB (r0 0) 0 [.ref (r0 1), .ref (r0 2), .ref (r0 3), .ref (r0 4), .ref (r0 5), .ref (r0 6), .int f_columns, .int f_rows, .int f_scale, .int f_toEnd, .int f_between, .int f_kept], aI (r0 1) cI 36 f_modes, aQ (r0 4) cQ r0, aI (r0 6) cI 5 f_latestOfKind_34] [rowsW cI r0 f_grid_72]) := hD74
                refine lv_aload_n hx hb dX0_addGuesses_72 rfl (lv_at hl47 1 rfl) ?_
                refine va_get (D := D) (ci := 0) (v := .ref (r0 6)) (C := RX0) (T := TX0) (N := 12) hx hb hts hi_X0_addGuesses_0 hown E.1 hP74 0 rfl rfl 5 (by decide) (hts _ (List.mem_of_getElem? (i := 1) rfl)) (fun _ h9 => h9) rfl dX0_addGuesses_73 ?_
                refine lv_aload_n hx hb dX0_addGuesses_76 rfl (lv_at hl47 1 rfl) ?_
                refine lv_iload_n hx hb dX0_addGuesses_77 rfl (lv_at hl47 0 rfl) ?_
                obtain ⟨y_75, hcl76, hm76⟩ := bd1_some hm73; clear hm73
                have sb77 := ctS.mk (n := 4) (k := 1) (pre := [oB (r0 0) 0 [.ref (r0 1), .ref (r0 2), .ref (r0 3), .ref (r0 4), .ref (r0 5), .ref (r0 6), .int f_columns, .int f_rows, .int f_scale, .int f_toEnd, .int f_between, .int f_kept], aI (r0 1) cI 36 f_modes, aQ (r0 4) cQ r0, aI (r0 6) cI 5 f_latestOfKind_34]) (tl := [rowsW cI r0 f_grid_72]) [0, 1] [2, 3] [] [0] rfl rfl (by decide +kernel) (by decide +kernel)
                refine ct_calli (r := y_75) E sb77 hP74 hD74 hS74 (va_runV (As := [.int y_43]) (rest := [.ref (r0 6)]) ⟨hx, hb, hml, hown, hts⟩ (c_X0_kind l D cB cI cJ cQ N r0 H74.size y_43 f_columns f_rows f_scale f_toEnd f_between f_kept f_modes (y_75) hcl76) (cwV 1 hts gX0_addGuesses_X0_kind rfl rfl rfl cdV_X0_kind ⟨Nat.le_of_ble_eq_true rfl, Nat.le_of_ble_eq_true rfl⟩) (ct_preV (q0 := 0) (ci := 0) E sb77 hP74 hD74 hS74 rfl rfl) rfl rfl hl47.1 rfl (lv_room (Nat.le_of_ble_eq_true rfl)) dX0_addGuesses_78 ⟨Nat.zero_le _, Nat.zero_le _⟩) (fun H78 lc78 hP78 hD78 hS78 => ?_); clear sb77 hcl76
                clear hP74 hD74 hS74
                have hP78 : va_P D vwCl (wf [aQ (r0 4) cQ r0, aI (r0 6) cI 5 f_latestOfKind_34, oB (r0 0) 0 [.ref (r0 1), .ref (r0 2), .ref (r0 3), .ref (r0 4), .ref (r0 5), .ref (r0 6), .int f_columns, .int f_rows, .int f_scale, .int f_toEnd, .int f_between, .int f_kept], aI (r0 1) cI 36 f_modes] [rowsW cI r0 f_grid_72]) H78 := hP78
                have hD78 : va_D A (wf [aQ (r0 4) cQ r0, aI (r0 6) cI 5 f_latestOfKind_34, oB (r0 0) 0 [.ref (r0 1), .ref (r0 2), .ref (r0 3), .ref (r0 4), .ref (r0 5), .ref (r0 6), .int f_columns, .int f_rows, .int f_scale, .int f_toEnd, .int f_between, .int f_kept], aI (r0 1) cI 36 f_modes] [rowsW cI r0 f_grid_72]) := hD78
                refine lv_aload_n hx hb dX0_addGuesses_81 rfl (lv_at hl47 1 rfl) ?_
                refine va_get (D := D) (ci := 0) (v := .ref (r0 4)) (C := RX0) (T := TX0) (N := 12) hx hb hts hi_X0_addGuesses_0 hown E.1 hP78 2 rfl rfl 3 (by decide) (hts _ (List.mem_of_getElem? (i := 4) rfl)) (fun _ h9 => h9) rfl dX0_addGuesses_82 ?_
                refine lv_iload_n hx hb dX0_addGuesses_85 rfl (lv_at hl47 0 rfl) ?_
                obtain ⟨hin79, hm79⟩ := gi_some hm76; clear hm76
                refine ct_aald hx hb E.1 hP78 0 rfl hin79 dX0_addGuesses_86 ?_
                refine lv_iconst (v := 0) hx hb dX0_addGuesses_87 (by decide) ?_
                obtain ⟨hin80, hm80⟩ := gi_some hm79; clear hm79
                refine ct_rld hx hb E.1 hP78 (vp_row hin79) hin80 dX0_addGuesses_88 ?_
                obtain ⟨hin81, hm81⟩ := gi_some hm80; clear hm80
                obtain ⟨f_latestOfKind_82, ef_latestOfKind_82, hm83⟩ := nm_some hm81; clear hm81
                refine ct_iast (g := f_latestOfKind_82) (ws' := (wf [aQ (r0 4) cQ r0, aI (r0 6) cI 5 f_latestOfKind_82, oB (r0 0) 0 [.ref (r0 1), .ref (r0 2), .ref (r0 3), .ref (r0 4), .ref (r0 5), .ref (r0 6), .int f_columns, .int f_rows, .int f_scale, .int f_toEnd, .int f_between, .int f_kept], aI (r0 1) cI 36 f_modes] [rowsW cI r0 f_grid_72])) hx hb E.1 hP78 hD78 hS78 1 0 rfl rfl hin81 ef_latestOfKind_82 rfl dX0_addGuesses_89 (fun H84 lc84 hP84 hD84 hS84 => ?_)
                clear hP78 hD78 hS78
                exact KJ53 f_latestOfKind_82 f_grid_72 _ _ _ hm83 hP84 hD84 hS84 (lv_sub hl47 [1, 2, 3] rfl)
        refine LP33 4000 f_latestOfKind_23 f_grid_24 (0 : Int32) (f_latestOfKind_85, f_grid_86) _ _ _ hlp33 hP26 hD26 hS26 (lv_sub hl32 [1, 2, 0] rfl) (fun H88 lc88 ls88 hP88 hD88 hS88 hl88 => ?_); clear LP33 hlp33
        clear hP26 hD26 hS26
        have hl88 : lv_has ls88 4 [(0, .ref (r0 0)), (1, .int v1_25)] := hl88
        have hP88 : va_P D vwCl (wf [oB (r0 0) 0 [.ref (r0 1), .ref (r0 2), .ref (r0 3), .ref (r0 4), .ref (r0 5), .ref (r0 6), .int f_columns, .int f_rows, .int f_scale, .int f_toEnd, .int f_between, .int f_kept], aI (r0 1) cI 36 f_modes, aQ (r0 4) cQ r0, aI (r0 6) cI 5 f_latestOfKind_85] [rowsW cI r0 f_grid_86]) H88 := hP88
        have hD88 : va_D A (wf [oB (r0 0) 0 [.ref (r0 1), .ref (r0 2), .ref (r0 3), .ref (r0 4), .ref (r0 5), .ref (r0 6), .int f_columns, .int f_rows, .int f_scale, .int f_toEnd, .int f_between, .int f_kept], aI (r0 1) cI 36 f_modes, aQ (r0 4) cQ r0, aI (r0 6) cI 5 f_latestOfKind_85] [rowsW cI r0 f_grid_86]) := hD88
        obtain ⟨v1_89, ev1_89, hm90⟩ := nm_some hm87; clear hm87
        refine lv_iinc (v := v1_89) (lv' := [(1, .int v1_89), (0, .ref (r0 0))]) hx hb dX0_addGuesses_96 hl88 (k := 1) rfl (by rw [ev1_89]; rfl) (by decide) rfl (fun ls91 hl91 => ?_); clear hl88
        refine lv_goto (tgt := 22) hx hb dX0_addGuesses_99 (by decide) ?_
        exact ih f_latestOfKind_85 f_grid_86 v1_89 _ _ _ _ hm90 hP88 hD88 hS88 (lv_sub hl91 [1, 0] rfl) kx
  refine LP22 4000 f_latestOfKind_18 f_grid (0 : Int32) (f_latestOfKind_92, f_grid_93) _ _ _ hlp22 hP20 hD20 hS20 (lv_sub hl21 [1, 0] rfl) (fun H95 lc95 ls95 hP95 hD95 hS95 hl95 => ?_); clear LP22 hlp22
  clear hP20 hD20 hS20
  have hl95 : lv_has ls95 4 [] := hl95
  have hP95 : va_P D vwCl (wf [oB (r0 0) 0 [.ref (r0 1), .ref (r0 2), .ref (r0 3), .ref (r0 4), .ref (r0 5), .ref (r0 6), .int f_columns, .int f_rows, .int f_scale, .int f_toEnd, .int f_between, .int f_kept], aI (r0 1) cI 36 f_modes, aQ (r0 4) cQ r0, aI (r0 6) cI 5 f_latestOfKind_92] [rowsW cI r0 f_grid_93]) H95 := hP95
  have hD95 : va_D A (wf [oB (r0 0) 0 [.ref (r0 1), .ref (r0 2), .ref (r0 3), .ref (r0 4), .ref (r0 5), .ref (r0 6), .int f_columns, .int f_rows, .int f_scale, .int f_toEnd, .int f_between, .int f_kept], aI (r0 1) cI 36 f_modes, aQ (r0 4) cQ r0, aI (r0 6) cI 5 f_latestOfKind_92] [rowsW cI r0 f_grid_93]) := hD95
  obtain rfl := Option.some.inj hm94
  rw [hQ]
  exact ct_vret hx hb hr hlk hP95 hD95 hS95 dX0_addGuesses_102
