def f_C0 (LS : Nat) (xs : Nat → Int32) (x4 : Int32) (m_thrown : Int32) (m_length : Int32) (m_tape : Nat → Int32) (a2 : Nat → Int64) (t_size : Int32) (t_bytes : Nat → Int32) : Option (Int32 × Int32 × (Nat → Int32) × (Nat → Int64) × Int32 × (Nat → Int32)) :=
  gi (x4 + (1 : Int32)) LS <|
  gi (x4 + (2 : Int32)) LS <|
  gi (x4 + (3 : Int32)) LS <|
  gi (x4 + (4 : Int32)) LS <|
  bd4 (f_L_feed (xs (x4 + (1 : Int32)).toNatClampNeg) (xs (x4 + (2 : Int32)).toNatClampNeg) (xs (x4 + (3 : Int32)).toNatClampNeg) (xs (x4 + (4 : Int32)).toNatClampNeg) a2 t_size t_bytes) fun y_5 a2_6 t_size_7 t_bytes_8 =>
  gi (x4 + (1 : Int32)) LS <|
  gi (x4 + (2 : Int32)) LS <|
  gi (x4 + (3 : Int32)) LS <|
  gi (x4 + (4 : Int32)) LS <|
  bd4 (f_X7_feed (xs (x4 + (1 : Int32)).toNatClampNeg) (xs (x4 + (2 : Int32)).toNatClampNeg) (xs (x4 + (3 : Int32)).toNatClampNeg) (xs (x4 + (4 : Int32)).toNatClampNeg) m_thrown m_length m_tape) fun y_17 m_thrown_18 m_length_19 m_tape_20 =>
  bd1 (f_X7_thrown m_thrown_18) fun y_25 =>
  (if y_25 = y_5 then
  ((if y_5 = (0 : Int32) then
  (gi (0 : Int32) 1 <|
  (if (lg_cmp (a2_6 (0 : Int32).toNatClampNeg) (Int32.toInt64 y_17)) = (0 : Int32) then
  (some (m_thrown_18, m_length_19, m_tape_20, a2_6, t_size_7, t_bytes_8))
  else
  (none)))
  else
  (none)))
  else
  (none))

set_option maxHeartbeats 40000000 in
set_option maxRecDepth 100000 in
theorem c_C0 {p : Program} {l : Launch} {e : Env} {s : State} {m : MethodId} {args : Array Value} {below : List Frame} {meth : Method} {c : Code} {A : Nat → Prop} {QQ : State → Prop} {D : va_G} {cB cI cJ cQ : ClassId} {N bS LS cells slots : Nat} {xs : Nat → Int32} (hst : l.stackTraces = false) (hx : p.tables.exec = Jvm.exec) (hb : c.code = cL_law) (hml : c.maxLocals = 7) (hown : s.vm.findClass RL = some m.cls) (hts : ∀ w ∈ wsL_law, w.before args s = true) (E : ctE D cB cI cJ cQ N A s) (GX9 : GX N s) (hXS : va_X bS LS xs s s.heap) (hbl : bS < s.heap.size) (hbA : ¬ A bS) (hc0 : cells ≤ room_1.cells) (hs0 : slots ≤ room_1.slots) (hc1 : cells + 1 ≤ room_1.cells) (hs1 : slots + 6 ≤ room_1.slots) (r0 : Nat → Nat) (r1 : Nat → Nat) (r2 : Nat → Nat) (r3 : Nat → Nat) (r4 : Nat → Nat) (r5 : Nat → Nat) (r6 : Nat → Nat) (r7 : Nat → Nat) (r8 : Nat → Nat) (r9 : Nat → Nat) (r10 : Nat → Nat) (r11 : Nat → Nat) (o_hasHeader : Int32) (o_hasPicture : Int32) (o_frameCount : Int32) (m_thrown : Int32) (m_length : Int32) (m_at : Int32) (m_fault : Int32) (m_hasHeader : Int32) (m_width : Int32) (m_height : Int32) (m_limit : Int32) (m_hasPicture : Int32) (m_frames : Int32) (m_taken : Int32) (m_many : Int32) (m_due : Int32) (m_tape : Nat → Int32) (a2 : Nat → Int64) (t_size : Int32) (t_position : Int32) (t_fault : Int32) (t_bytes : Nat → Int32) (wr : va_W) (x4 : Int32) (o : Int32 × Int32 × (Nat → Int32) × (Nat → Int64) × Int32 × (Nat → Int32)) (hm0 : f_C0 LS xs x4 m_thrown m_length m_tape a2 t_size t_bytes = some o) (H0 : Heap) (lc0 : List Loc) (ls0 : Array Slot) (hP0 : va_P D vwCl (wf [oB (r0 0) 6 [.ref (r3 0), .ref (r4 0), .ref (r5 0), .ref (r6 0), .ref (r7 0), .ref (r8 0), .ref (r9 0), .ref (r10 0), .ref (r11 0), .int o_hasHeader, .int o_hasPicture, .int o_frameCount], oB (r1 0) 7 [.int m_thrown, .ref (r1 1), .int m_length, .int m_at, .int m_fault, .int m_hasHeader, .int m_width, .int m_height, .int m_limit, .ref (r1 2), .ref (r1 3), .ref (r1 4), .ref (r1 5), .ref (r1 6), .ref (r1 7), .ref (r1 8), .ref (r1 9), .int m_hasPicture, .int m_frames, .int m_taken, .ref (r1 10), .ref (r1 11), .ref (r1 12), .int m_many, .ref (r1 13), .ref (r1 14), .ref (r1 15), .ref (r1 16), .ref (r1 17), .ref (r1 18), .ref (r1 19), .ref (r1 20), .ref (r1 21), .ref (r1 22), .int m_due, .ref (r1 23), .ref (r1 24), .ref (r1 25), .ref (r1 26), .ref (r1 27), .ref (r1 28), .ref (r1 29)], aI (r1 1) cB 6000 m_tape, aJ (r2 0) cJ 1 a2, oB (r3 0) 4 [.ref (r3 1), .int t_size, .int t_position, .int t_fault], aI (r3 1) cB 6000 t_bytes] [wr]) H0) (hD0 : va_D A (wf [oB (r0 0) 6 [.ref (r3 0), .ref (r4 0), .ref (r5 0), .ref (r6 0), .ref (r7 0), .ref (r8 0), .ref (r9 0), .ref (r10 0), .ref (r11 0), .int o_hasHeader, .int o_hasPicture, .int o_frameCount], oB (r1 0) 7 [.int m_thrown, .ref (r1 1), .int m_length, .int m_at, .int m_fault, .int m_hasHeader, .int m_width, .int m_height, .int m_limit, .ref (r1 2), .ref (r1 3), .ref (r1 4), .ref (r1 5), .ref (r1 6), .ref (r1 7), .ref (r1 8), .ref (r1 9), .int m_hasPicture, .int m_frames, .int m_taken, .ref (r1 10), .ref (r1 11), .ref (r1 12), .int m_many, .ref (r1 13), .ref (r1 14), .ref (r1 15), .ref (r1 16), .ref (r1 17), .ref (r1 18), .ref (r1 19), .ref (r1 20), .ref (r1 21), .ref (r1 22), .int m_due, .ref (r1 23), .ref (r1 24), .ref (r1 25), .ref (r1 26), .ref (r1 27), .ref (r1 28), .ref (r1 29)], aI (r1 1) cB 6000 m_tape, aJ (r2 0) cJ 1 a2, oB (r3 0) 4 [.ref (r3 1), .int t_size, .int t_position, .int t_fault], aI (r3 1) cB 6000 t_bytes] [wr])) (hS0 : va_S A s.heap H0 lc0) (hl0 : lv_has ls0 7 [(0, .ref bS), (1, .ref (r0 0)), (2, .ref (r1 0)), (3, .ref (r2 0)), (4, .int x4)])
    (kx : ∀ (H : Heap) (lc : List Loc) (ls : Array Slot), va_P D vwCl (wf [oB (r0 0) 6 [.ref (r3 0), .ref (r4 0), .ref (r5 0), .ref (r6 0), .ref (r7 0), .ref (r8 0), .ref (r9 0), .ref (r10 0), .ref (r11 0), .int o_hasHeader, .int o_hasPicture, .int o_frameCount], oB (r1 0) 7 [.int (o.1), .ref (r1 1), .int (o.2.1), .int m_at, .int m_fault, .int m_hasHeader, .int m_width, .int m_height, .int m_limit, .ref (r1 2), .ref (r1 3), .ref (r1 4), .ref (r1 5), .ref (r1 6), .ref (r1 7), .ref (r1 8), .ref (r1 9), .int m_hasPicture, .int m_frames, .int m_taken, .ref (r1 10), .ref (r1 11), .ref (r1 12), .int m_many, .ref (r1 13), .ref (r1 14), .ref (r1 15), .ref (r1 16), .ref (r1 17), .ref (r1 18), .ref (r1 19), .ref (r1 20), .ref (r1 21), .ref (r1 22), .int m_due, .ref (r1 23), .ref (r1 24), .ref (r1 25), .ref (r1 26), .ref (r1 27), .ref (r1 28), .ref (r1 29)], aI (r1 1) cB 6000 (o.2.2.1), aJ (r2 0) cJ 1 (o.2.2.2.1), oB (r3 0) 4 [.ref (r3 1), .int (o.2.2.2.2.1), .int t_position, .int t_fault], aI (r3 1) cB 6000 (o.2.2.2.2.2)] [wr]) H → va_D A (wf [oB (r0 0) 6 [.ref (r3 0), .ref (r4 0), .ref (r5 0), .ref (r6 0), .ref (r7 0), .ref (r8 0), .ref (r9 0), .ref (r10 0), .ref (r11 0), .int o_hasHeader, .int o_hasPicture, .int o_frameCount], oB (r1 0) 7 [.int (o.1), .ref (r1 1), .int (o.2.1), .int m_at, .int m_fault, .int m_hasHeader, .int m_width, .int m_height, .int m_limit, .ref (r1 2), .ref (r1 3), .ref (r1 4), .ref (r1 5), .ref (r1 6), .ref (r1 7), .ref (r1 8), .ref (r1 9), .int m_hasPicture, .int m_frames, .int m_taken, .ref (r1 10), .ref (r1 11), .ref (r1 12), .int m_many, .ref (r1 13), .ref (r1 14), .ref (r1 15), .ref (r1 16), .ref (r1 17), .ref (r1 18), .ref (r1 19), .ref (r1 20), .ref (r1 21), .ref (r1 22), .int m_due, .ref (r1 23), .ref (r1 24), .ref (r1 25), .ref (r1 26), .ref (r1 27), .ref (r1 28), .ref (r1 29)], aI (r1 1) cB 6000 (o.2.2.1), aJ (r2 0) cJ 1 (o.2.2.2.1), oB (r3 0) 4 [.ref (r3 1), .int (o.2.2.2.2.1), .int t_position, .int t_fault], aI (r3 1) cB 6000 (o.2.2.2.2.2)] [wr]) → va_S A s.heap H lc → lv_has ls 7 [(0, .ref bS), (1, .ref (r0 0)), (2, .ref (r1 0)), (3, .ref (r2 0)), (4, .int x4)] → W p l e room_1 s m args below meth c H lc cells slots QQ (F0 m 548 ls [])) : W p l e room_1 s m args below meth c H0 lc0 cells slots QQ (F0 m 92 ls0 []) := by
  unfold f_C0 at hm0
  refine lv_aload_n hx hb dL_law_92 rfl (lv_at hl0 1 rfl) ?_
  refine lv_aload_n hx hb dL_law_93 rfl (lv_at hl0 0 rfl) ?_
  refine lv_iload hx hb dL_law_94 (lv_at hl0 4 rfl) ?_
  refine lv_iconst (v := 1) hx hb dL_law_96 (by decide) ?_
  refine lv_iadd hx hb dL_law_97 ?_
  obtain ⟨hin1, hm1⟩ := gi_some hm0; clear hm0
  refine va_sld hx hb hXS hbl hbA hS0 hin1 dL_law_98 ?_
  refine lv_aload_n hx hb dL_law_99 rfl (lv_at hl0 0 rfl) ?_
  refine lv_iload hx hb dL_law_100 (lv_at hl0 4 rfl) ?_
  refine lv_iconst (v := 2) hx hb dL_law_102 (by decide) ?_
  refine lv_iadd hx hb dL_law_103 ?_
  obtain ⟨hin2, hm2⟩ := gi_some hm1; clear hm1
  refine va_sld hx hb hXS hbl hbA hS0 hin2 dL_law_104 ?_
  refine lv_aload_n hx hb dL_law_105 rfl (lv_at hl0 0 rfl) ?_
  refine lv_iload hx hb dL_law_106 (lv_at hl0 4 rfl) ?_
  refine lv_iconst (v := 3) hx hb dL_law_108 (by decide) ?_
  refine lv_iadd hx hb dL_law_109 ?_
  obtain ⟨hin3, hm3⟩ := gi_some hm2; clear hm2
  refine va_sld hx hb hXS hbl hbA hS0 hin3 dL_law_110 ?_
  refine lv_aload_n hx hb dL_law_111 rfl (lv_at hl0 0 rfl) ?_
  refine lv_iload hx hb dL_law_112 (lv_at hl0 4 rfl) ?_
  refine lv_iconst (v := 4) hx hb dL_law_114 (by decide) ?_
  refine lv_iadd hx hb dL_law_115 ?_
  obtain ⟨hin4, hm4⟩ := gi_some hm3; clear hm3
  refine va_sld hx hb hXS hbl hbA hS0 hin4 dL_law_116 ?_
  refine lv_aload_n hx hb dL_law_117 rfl (lv_at hl0 3 rfl) ?_
  obtain ⟨y_5, a2_6, t_size_7, t_bytes_8, hcl9, hm9⟩ := bd4_some hm4; clear hm4
  have sb10 := ctS.mk (n := 6) (k := 1) (pre := [oB (r0 0) 6 [.ref (r3 0), .ref (r4 0), .ref (r5 0), .ref (r6 0), .ref (r7 0), .ref (r8 0), .ref (r9 0), .ref (r10 0), .ref (r11 0), .int o_hasHeader, .int o_hasPicture, .int o_frameCount], oB (r1 0) 7 [.int m_thrown, .ref (r1 1), .int m_length, .int m_at, .int m_fault, .int m_hasHeader, .int m_width, .int m_height, .int m_limit, .ref (r1 2), .ref (r1 3), .ref (r1 4), .ref (r1 5), .ref (r1 6), .ref (r1 7), .ref (r1 8), .ref (r1 9), .int m_hasPicture, .int m_frames, .int m_taken, .ref (r1 10), .ref (r1 11), .ref (r1 12), .int m_many, .ref (r1 13), .ref (r1 14), .ref (r1 15), .ref (r1 16), .ref (r1 17), .ref (r1 18), .ref (r1 19), .ref (r1 20), .ref (r1 21), .ref (r1 22), .int m_due, .ref (r1 23), .ref (r1 24), .ref (r1 25), .ref (r1 26), .ref (r1 27), .ref (r1 28), .ref (r1 29)], aI (r1 1) cB 6000 m_tape, aJ (r2 0) cJ 1 a2, oB (r3 0) 4 [.ref (r3 1), .int t_size, .int t_position, .int t_fault], aI (r3 1) cB 6000 t_bytes]) (tl := [wr]) [0, 3, 4, 5] [1, 2] [] [0] rfl rfl (by decide +kernel) (by decide +kernel)
  refine cth_calli (r := y_5) E sb10 hP0 hD0 hS0 (vx_runSX (As := [.ref (r0 0), .int (xs (x4 + (1 : Int32)).toNatClampNeg), .int (xs (x4 + (2 : Int32)).toNatClampNeg), .int (xs (x4 + (3 : Int32)).toNatClampNeg), .int (xs (x4 + (4 : Int32)).toNatClampNeg), .ref (r2 0)]) (rest := []) ⟨hx, hb, hml, hown, hts⟩ (c_L_feed l D cB cI cJ cQ N hst r0 r2 r3 r4 r5 r6 r7 r8 r9 r10 r11 H0.size (xs (x4 + (1 : Int32)).toNatClampNeg) (xs (x4 + (2 : Int32)).toNatClampNeg) (xs (x4 + (3 : Int32)).toNatClampNeg) (xs (x4 + (4 : Int32)).toNatClampNeg) o_hasHeader o_hasPicture o_frameCount a2 t_size t_position t_fault t_bytes (y_5, a2_6, t_size_7, t_bytes_8) hcl9) (vx_cwSW 6 hts gL_law_L_feed rfl rfl rfl cdS_L_feed ⟨Nat.le_of_ble_eq_true rfl, Nat.le_of_ble_eq_true rfl⟩) (ctx_preS E GX9 sb10 hP0 hD0 hS0) rfl rfl hl0.1 rfl (lv_room (Nat.le_of_ble_eq_true rfl)) dL_law_118 ⟨hc0, hs0⟩) (fun H11 lc11 hP11 hD11 hS11 => ?_); clear sb10 hcl9
  clear hP0 hD0 hS0
  have hP11 : va_P D vwCl (wf [oB (r1 0) 7 [.int m_thrown, .ref (r1 1), .int m_length, .int m_at, .int m_fault, .int m_hasHeader, .int m_width, .int m_height, .int m_limit, .ref (r1 2), .ref (r1 3), .ref (r1 4), .ref (r1 5), .ref (r1 6), .ref (r1 7), .ref (r1 8), .ref (r1 9), .int m_hasPicture, .int m_frames, .int m_taken, .ref (r1 10), .ref (r1 11), .ref (r1 12), .int m_many, .ref (r1 13), .ref (r1 14), .ref (r1 15), .ref (r1 16), .ref (r1 17), .ref (r1 18), .ref (r1 19), .ref (r1 20), .ref (r1 21), .ref (r1 22), .int m_due, .ref (r1 23), .ref (r1 24), .ref (r1 25), .ref (r1 26), .ref (r1 27), .ref (r1 28), .ref (r1 29)], aI (r1 1) cB 6000 m_tape, oB (r0 0) 6 [.ref (r3 0), .ref (r4 0), .ref (r5 0), .ref (r6 0), .ref (r7 0), .ref (r8 0), .ref (r9 0), .ref (r10 0), .ref (r11 0), .int o_hasHeader, .int o_hasPicture, .int o_frameCount], aJ (r2 0) cJ 1 a2_6, oB (r3 0) 4 [.ref (r3 1), .int t_size_7, .int t_position, .int t_fault], aI (r3 1) cB 6000 t_bytes_8] [wr]) H11 := hP11
  have hD11 : va_D A (wf [oB (r1 0) 7 [.int m_thrown, .ref (r1 1), .int m_length, .int m_at, .int m_fault, .int m_hasHeader, .int m_width, .int m_height, .int m_limit, .ref (r1 2), .ref (r1 3), .ref (r1 4), .ref (r1 5), .ref (r1 6), .ref (r1 7), .ref (r1 8), .ref (r1 9), .int m_hasPicture, .int m_frames, .int m_taken, .ref (r1 10), .ref (r1 11), .ref (r1 12), .int m_many, .ref (r1 13), .ref (r1 14), .ref (r1 15), .ref (r1 16), .ref (r1 17), .ref (r1 18), .ref (r1 19), .ref (r1 20), .ref (r1 21), .ref (r1 22), .int m_due, .ref (r1 23), .ref (r1 24), .ref (r1 25), .ref (r1 26), .ref (r1 27), .ref (r1 28), .ref (r1 29)], aI (r1 1) cB 6000 m_tape, oB (r0 0) 6 [.ref (r3 0), .ref (r4 0), .ref (r5 0), .ref (r6 0), .ref (r7 0), .ref (r8 0), .ref (r9 0), .ref (r10 0), .ref (r11 0), .int o_hasHeader, .int o_hasPicture, .int o_frameCount], aJ (r2 0) cJ 1 a2_6, oB (r3 0) 4 [.ref (r3 1), .int t_size_7, .int t_position, .int t_fault], aI (r3 1) cB 6000 t_bytes_8] [wr]) := hD11
  refine lv_istore (lv' := [(5, .int y_5), (0, .ref bS), (1, .ref (r0 0)), (2, .ref (r1 0)), (3, .ref (r2 0)), (4, .int x4)]) hx hb dL_law_121 hl0 (by decide) rfl (fun ls12 hl12 => ?_); clear hl0
  refine lv_aload_n hx hb dL_law_123 rfl (lv_at hl12 3 rfl) ?_
  refine lv_aload_n hx hb dL_law_124 rfl (lv_at hl12 1 rfl) ?_
  refine lv_iload hx hb dL_law_125 (lv_at hl12 5 rfl) ?_
  refine lv_iconst (v := 1) hx hb dL_law_127 (by decide) ?_
  refine lv_iadd hx hb dL_law_128 ?_
  obtain ⟨hin13, hm13⟩ := gi_some hm9; clear hm9
  refine va_sld hx hb hXS hbl hbA hS11 hin13 dL_law_129 ?_
  refine lv_aload_n hx hb dL_law_130 rfl (lv_at hl12 1 rfl) ?_
  refine lv_iload hx hb dL_law_131 (lv_at hl12 5 rfl) ?_
  refine lv_iconst (v := 2) hx hb dL_law_133 (by decide) ?_
  refine lv_iadd hx hb dL_law_134 ?_
  obtain ⟨hin14, hm14⟩ := gi_some hm13; clear hm13
  refine va_sld hx hb hXS hbl hbA hS11 hin14 dL_law_135 ?_
  refine lv_aload_n hx hb dL_law_136 rfl (lv_at hl12 1 rfl) ?_
  refine lv_iload hx hb dL_law_137 (lv_at hl12 5 rfl) ?_
  refine lv_iconst (v := 3) hx hb dL_law_139 (by decide) ?_
  refine lv_iadd hx hb dL_law_140 ?_
  obtain ⟨hin15, hm15⟩ := gi_some hm14; clear hm14
  refine va_sld hx hb hXS hbl hbA hS11 hin15 dL_law_141 ?_
  refine lv_aload_n hx hb dL_law_142 rfl (lv_at hl12 1 rfl) ?_
  refine lv_iload hx hb dL_law_143 (lv_at hl12 5 rfl) ?_
  refine lv_iconst (v := 4) hx hb dL_law_145 (by decide) ?_
  refine lv_iadd hx hb dL_law_146 ?_
  obtain ⟨hin16, hm16⟩ := gi_some hm15; clear hm15
  refine va_sld hx hb hXS hbl hbA hS11 hin16 dL_law_147 ?_
  obtain ⟨y_17, m_thrown_18, m_length_19, m_tape_20, hcl21, hm21⟩ := bd4_some hm16; clear hm16
  have sb22 := ctS.mk (n := 6) (k := 1) (pre := [oB (r1 0) 7 [.int m_thrown, .ref (r1 1), .int m_length, .int m_at, .int m_fault, .int m_hasHeader, .int m_width, .int m_height, .int m_limit, .ref (r1 2), .ref (r1 3), .ref (r1 4), .ref (r1 5), .ref (r1 6), .ref (r1 7), .ref (r1 8), .ref (r1 9), .int m_hasPicture, .int m_frames, .int m_taken, .ref (r1 10), .ref (r1 11), .ref (r1 12), .int m_many, .ref (r1 13), .ref (r1 14), .ref (r1 15), .ref (r1 16), .ref (r1 17), .ref (r1 18), .ref (r1 19), .ref (r1 20), .ref (r1 21), .ref (r1 22), .int m_due, .ref (r1 23), .ref (r1 24), .ref (r1 25), .ref (r1 26), .ref (r1 27), .ref (r1 28), .ref (r1 29)], aI (r1 1) cB 6000 m_tape, oB (r0 0) 6 [.ref (r3 0), .ref (r4 0), .ref (r5 0), .ref (r6 0), .ref (r7 0), .ref (r8 0), .ref (r9 0), .ref (r10 0), .ref (r11 0), .int o_hasHeader, .int o_hasPicture, .int o_frameCount], aJ (r2 0) cJ 1 a2_6, oB (r3 0) 4 [.ref (r3 1), .int t_size_7, .int t_position, .int t_fault], aI (r3 1) cB 6000 t_bytes_8]) (tl := [wr]) [0, 1] [2, 3, 4, 5] [] [0] rfl rfl (by decide +kernel) (by decide +kernel)
  refine ct_calli (r := y_17) E sb22 hP11 hD11 hS11 (va_runV (As := [.int (xs (x4 + (1 : Int32)).toNatClampNeg), .int (xs (x4 + (2 : Int32)).toNatClampNeg), .int (xs (x4 + (3 : Int32)).toNatClampNeg), .int (xs (x4 + (4 : Int32)).toNatClampNeg)]) (rest := []) ⟨hx, hb, hml, hown, hts⟩ (c_X7_feed l D cB cI cJ cQ N r1 H11.size (xs (x4 + (1 : Int32)).toNatClampNeg) (xs (x4 + (2 : Int32)).toNatClampNeg) (xs (x4 + (3 : Int32)).toNatClampNeg) (xs (x4 + (4 : Int32)).toNatClampNeg) m_thrown m_length m_at m_fault m_hasHeader m_width m_height m_limit m_hasPicture m_frames m_taken m_many m_due m_tape (y_17, m_thrown_18, m_length_19, m_tape_20) hcl21) (cwV 4 hts gL_law_X7_feed rfl rfl rfl cdV_X7_feed ⟨Nat.le_of_ble_eq_true rfl, Nat.le_of_ble_eq_true rfl⟩) (ct_preV (q0 := 0) (ci := 7) E sb22 hP11 hD11 hS11 rfl rfl) rfl rfl hl12.1 rfl (lv_room (Nat.le_of_ble_eq_true rfl)) dL_law_148 ⟨hc0, hs0⟩) (fun H23 lc23 hP23 hD23 hS23 => ?_); clear sb22 hcl21
  clear hP11 hD11 hS11
  have hP23 : va_P D vwCl (wf [oB (r0 0) 6 [.ref (r3 0), .ref (r4 0), .ref (r5 0), .ref (r6 0), .ref (r7 0), .ref (r8 0), .ref (r9 0), .ref (r10 0), .ref (r11 0), .int o_hasHeader, .int o_hasPicture, .int o_frameCount], aJ (r2 0) cJ 1 a2_6, oB (r3 0) 4 [.ref (r3 1), .int t_size_7, .int t_position, .int t_fault], aI (r3 1) cB 6000 t_bytes_8, oB (r1 0) 7 [.int m_thrown_18, .ref (r1 1), .int m_length_19, .int m_at, .int m_fault, .int m_hasHeader, .int m_width, .int m_height, .int m_limit, .ref (r1 2), .ref (r1 3), .ref (r1 4), .ref (r1 5), .ref (r1 6), .ref (r1 7), .ref (r1 8), .ref (r1 9), .int m_hasPicture, .int m_frames, .int m_taken, .ref (r1 10), .ref (r1 11), .ref (r1 12), .int m_many, .ref (r1 13), .ref (r1 14), .ref (r1 15), .ref (r1 16), .ref (r1 17), .ref (r1 18), .ref (r1 19), .ref (r1 20), .ref (r1 21), .ref (r1 22), .int m_due, .ref (r1 23), .ref (r1 24), .ref (r1 25), .ref (r1 26), .ref (r1 27), .ref (r1 28), .ref (r1 29)], aI (r1 1) cB 6000 m_tape_20] [wr]) H23 := hP23
  have hD23 : va_D A (wf [oB (r0 0) 6 [.ref (r3 0), .ref (r4 0), .ref (r5 0), .ref (r6 0), .ref (r7 0), .ref (r8 0), .ref (r9 0), .ref (r10 0), .ref (r11 0), .int o_hasHeader, .int o_hasPicture, .int o_frameCount], aJ (r2 0) cJ 1 a2_6, oB (r3 0) 4 [.ref (r3 1), .int t_size_7, .int t_position, .int t_fault], aI (r3 1) cB 6000 t_bytes_8, oB (r1 0) 7 [.int m_thrown_18, .ref (r1 1), .int m_length_19, .int m_at, .int m_fault, .int m_hasHeader, .int m_width, .int m_height, .int m_limit, .ref (r1 2), .ref (r1 3), .ref (r1 4), .ref (r1 5), .ref (r1 6), .ref (r1 7), .ref (r1 8), .ref (r1 9), .int m_hasPicture, .int m_frames, .int m_taken, .ref (r1 10), .ref (r1 11), .ref (r1 12), .int m_many, .ref (r1 13), .ref (r1 14), .ref (r1 15), .ref (r1 16), .ref (r1 17), .ref (r1 18), .ref (r1 19), .ref (r1 20), .ref (r1 21), .ref (r1 22), .int m_due, .ref (r1 23), .ref (r1 24), .ref (r1 25), .ref (r1 26), .ref (r1 27), .ref (r1 28), .ref (r1 29)], aI (r1 1) cB 6000 m_tape_20] [wr]) := hD23
  refine lv_istore (lv' := [(6, .int y_17), (5, .int y_5), (0, .ref bS), (1, .ref (r0 0)), (2, .ref (r1 0)), (3, .ref (r2 0)), (4, .int x4)]) hx hb dL_law_151 hl12 (by decide) rfl (fun ls24 hl24 => ?_); clear hl12
  refine lv_aload_n hx hb dL_law_153 rfl (lv_at hl24 4 rfl) ?_
  obtain ⟨y_25, hcl26, hm26⟩ := bd1_some hm21; clear hm21
  have sb27 := ctS.mk (n := 6) (k := 1) (pre := [oB (r0 0) 6 [.ref (r3 0), .ref (r4 0), .ref (r5 0), .ref (r6 0), .ref (r7 0), .ref (r8 0), .ref (r9 0), .ref (r10 0), .ref (r11 0), .int o_hasHeader, .int o_hasPicture, .int o_frameCount], aJ (r2 0) cJ 1 a2_6, oB (r3 0) 4 [.ref (r3 1), .int t_size_7, .int t_position, .int t_fault], aI (r3 1) cB 6000 t_bytes_8, oB (r1 0) 7 [.int m_thrown_18, .ref (r1 1), .int m_length_19, .int m_at, .int m_fault, .int m_hasHeader, .int m_width, .int m_height, .int m_limit, .ref (r1 2), .ref (r1 3), .ref (r1 4), .ref (r1 5), .ref (r1 6), .ref (r1 7), .ref (r1 8), .ref (r1 9), .int m_hasPicture, .int m_frames, .int m_taken, .ref (r1 10), .ref (r1 11), .ref (r1 12), .int m_many, .ref (r1 13), .ref (r1 14), .ref (r1 15), .ref (r1 16), .ref (r1 17), .ref (r1 18), .ref (r1 19), .ref (r1 20), .ref (r1 21), .ref (r1 22), .int m_due, .ref (r1 23), .ref (r1 24), .ref (r1 25), .ref (r1 26), .ref (r1 27), .ref (r1 28), .ref (r1 29)], aI (r1 1) cB 6000 m_tape_20]) (tl := [wr]) [4] [0, 1, 2, 3, 5] [] [0] rfl rfl (by decide +kernel) (by decide +kernel)
  refine ct_calli (r := y_25) E sb27 hP23 hD23 hS23 (va_runV (As := []) (rest := []) ⟨hx, hb, hml, hown, hts⟩ (c_X7_thrown l D cB cI cJ cQ N r1 H23.size m_thrown_18 m_length_19 m_at m_fault m_hasHeader m_width m_height m_limit m_hasPicture m_frames m_taken m_many m_due (y_25) hcl26) (cwV 0 hts gL_law_X7_thrown rfl rfl rfl cdV_X7_thrown ⟨Nat.le_of_ble_eq_true rfl, Nat.le_of_ble_eq_true rfl⟩) (ct_preV (q0 := 4) (ci := 7) E sb27 hP23 hD23 hS23 rfl rfl) rfl rfl hl24.1 rfl (lv_room (Nat.le_of_ble_eq_true rfl)) dL_law_154 ⟨hc0, hs0⟩) (fun H28 lc28 hP28 hD28 hS28 => ?_); clear sb27 hcl26
  clear hP23 hD23 hS23
  have hP28 : va_P D vwCl (wf [oB (r0 0) 6 [.ref (r3 0), .ref (r4 0), .ref (r5 0), .ref (r6 0), .ref (r7 0), .ref (r8 0), .ref (r9 0), .ref (r10 0), .ref (r11 0), .int o_hasHeader, .int o_hasPicture, .int o_frameCount], aJ (r2 0) cJ 1 a2_6, oB (r3 0) 4 [.ref (r3 1), .int t_size_7, .int t_position, .int t_fault], aI (r3 1) cB 6000 t_bytes_8, aI (r1 1) cB 6000 m_tape_20, oB (r1 0) 7 [.int m_thrown_18, .ref (r1 1), .int m_length_19, .int m_at, .int m_fault, .int m_hasHeader, .int m_width, .int m_height, .int m_limit, .ref (r1 2), .ref (r1 3), .ref (r1 4), .ref (r1 5), .ref (r1 6), .ref (r1 7), .ref (r1 8), .ref (r1 9), .int m_hasPicture, .int m_frames, .int m_taken, .ref (r1 10), .ref (r1 11), .ref (r1 12), .int m_many, .ref (r1 13), .ref (r1 14), .ref (r1 15), .ref (r1 16), .ref (r1 17), .ref (r1 18), .ref (r1 19), .ref (r1 20), .ref (r1 21), .ref (r1 22), .int m_due, .ref (r1 23), .ref (r1 24), .ref (r1 25), .ref (r1 26), .ref (r1 27), .ref (r1 28), .ref (r1 29)]] [wr]) H28 := hP28
  have hD28 : va_D A (wf [oB (r0 0) 6 [.ref (r3 0), .ref (r4 0), .ref (r5 0), .ref (r6 0), .ref (r7 0), .ref (r8 0), .ref (r9 0), .ref (r10 0), .ref (r11 0), .int o_hasHeader, .int o_hasPicture, .int o_frameCount], aJ (r2 0) cJ 1 a2_6, oB (r3 0) 4 [.ref (r3 1), .int t_size_7, .int t_position, .int t_fault], aI (r3 1) cB 6000 t_bytes_8, aI (r1 1) cB 6000 m_tape_20, oB (r1 0) 7 [.int m_thrown_18, .ref (r1 1), .int m_length_19, .int m_at, .int m_fault, .int m_hasHeader, .int m_width, .int m_height, .int m_limit, .ref (r1 2), .ref (r1 3), .ref (r1 4), .ref (r1 5), .ref (r1 6), .ref (r1 7), .ref (r1 8), .ref (r1 9), .int m_hasPicture, .int m_frames, .int m_taken, .ref (r1 10), .ref (r1 11), .ref (r1 12), .int m_many, .ref (r1 13), .ref (r1 14), .ref (r1 15), .ref (r1 16), .ref (r1 17), .ref (r1 18), .ref (r1 19), .ref (r1 20), .ref (r1 21), .ref (r1 22), .int m_due, .ref (r1 23), .ref (r1 24), .ref (r1 25), .ref (r1 26), .ref (r1 27), .ref (r1 28), .ref (r1 29)]] [wr]) := hD28
  refine lv_iload hx hb dL_law_157 (lv_at hl24 1 rfl) ?_
  refine lv_icmp_eq (tgt := 164) hx hb dL_law_159 (by decide) (fun hc29 => ?_) (fun hc29 => ?_)
  · have hm30 := bq_t hm26 hc29; clear hm26
    refine lv_iload hx hb dL_law_164 (lv_at hl24 1 rfl) ?_
    refine lv_if_ne (tgt := 181) hx hb dL_law_166 (by decide) (fun hc31 => ?_) (fun hc31 => ?_)
    · have hm32 := bq_f hm30 hc31; clear hm30
      cases hm32
    · have hm33 := bq_t hm30 hc31; clear hm30
      refine lv_aload_n hx hb dL_law_169 rfl (lv_at hl24 5 rfl) ?_
      refine lv_iconst (v := 0) hx hb dL_law_170 (by decide) ?_
      obtain ⟨hin34, hm34⟩ := gi_some hm33; clear hm33
      refine va_lald hx hb E.1 hP28 1 2 rfl rfl hin34 dL_law_171 ?_
      refine lv_iload hx hb dL_law_172 (lv_at hl24 0 rfl) ?_
      refine lv_i2l hx hb dL_law_174 rfl ?_
      refine W.lcmp hx hb dL_law_175 ?_
      refine lv_if_eq (tgt := 181) hx hb dL_law_176 (by decide) (fun hc35 => ?_) (fun hc35 => ?_)
      · have hm36 := bq_t hm34 hc35; clear hm34
        refine lv_goto (tgt := 548) hx hb dL_law_181 (by decide) ?_
        obtain ⟨hP37, hD37⟩ := ct_ord (n := 6) (k := 1) [0, 5, 4, 1, 2, 3] [0] hP28 hD28 rfl rfl (by decide +kernel) (by decide +kernel)
        have hS37 := hS28
        have hP37 : va_P D vwCl (wf [oB (r0 0) 6 [.ref (r3 0), .ref (r4 0), .ref (r5 0), .ref (r6 0), .ref (r7 0), .ref (r8 0), .ref (r9 0), .ref (r10 0), .ref (r11 0), .int o_hasHeader, .int o_hasPicture, .int o_frameCount], oB (r1 0) 7 [.int m_thrown_18, .ref (r1 1), .int m_length_19, .int m_at, .int m_fault, .int m_hasHeader, .int m_width, .int m_height, .int m_limit, .ref (r1 2), .ref (r1 3), .ref (r1 4), .ref (r1 5), .ref (r1 6), .ref (r1 7), .ref (r1 8), .ref (r1 9), .int m_hasPicture, .int m_frames, .int m_taken, .ref (r1 10), .ref (r1 11), .ref (r1 12), .int m_many, .ref (r1 13), .ref (r1 14), .ref (r1 15), .ref (r1 16), .ref (r1 17), .ref (r1 18), .ref (r1 19), .ref (r1 20), .ref (r1 21), .ref (r1 22), .int m_due, .ref (r1 23), .ref (r1 24), .ref (r1 25), .ref (r1 26), .ref (r1 27), .ref (r1 28), .ref (r1 29)], aI (r1 1) cB 6000 m_tape_20, aJ (r2 0) cJ 1 a2_6, oB (r3 0) 4 [.ref (r3 1), .int t_size_7, .int t_position, .int t_fault], aI (r3 1) cB 6000 t_bytes_8] [wr]) H28 := hP37
        have hD37 : va_D A (wf [oB (r0 0) 6 [.ref (r3 0), .ref (r4 0), .ref (r5 0), .ref (r6 0), .ref (r7 0), .ref (r8 0), .ref (r9 0), .ref (r10 0), .ref (r11 0), .int o_hasHeader, .int o_hasPicture, .int o_frameCount], oB (r1 0) 7 [.int m_thrown_18, .ref (r1 1), .int m_length_19, .int m_at, .int m_fault, .int m_hasHeader, .int m_width, .int m_height, .int m_limit, .ref (r1 2), .ref (r1 3), .ref (r1 4), .ref (r1 5), .ref (r1 6), .ref (r1 7), .ref (r1 8), .ref (r1 9), .int m_hasPicture, .int m_frames, .int m_taken, .ref (r1 10), .ref (r1 11), .ref (r1 12), .int m_many, .ref (r1 13), .ref (r1 14), .ref (r1 15), .ref (r1 16), .ref (r1 17), .ref (r1 18), .ref (r1 19), .ref (r1 20), .ref (r1 21), .ref (r1 22), .int m_due, .ref (r1 23), .ref (r1 24), .ref (r1 25), .ref (r1 26), .ref (r1 27), .ref (r1 28), .ref (r1 29)], aI (r1 1) cB 6000 m_tape_20, aJ (r2 0) cJ 1 a2_6, oB (r3 0) 4 [.ref (r3 1), .int t_size_7, .int t_position, .int t_fault], aI (r3 1) cB 6000 t_bytes_8] [wr]) := hD37
        obtain rfl := Option.some.inj hm36
        exact kx _ _ _ hP37 hD37 hS37 (lv_sub hl24 [2, 3, 4, 5, 6] rfl)
      · have hm38 := bq_f hm34 hc35; clear hm34
        refine lv_iconst (v := 0) hx hb dL_law_179 (by decide) ?_
        cases hm38
  · have hm39 := bq_f hm26 hc29; clear hm26
    refine lv_iconst (v := 0) hx hb dL_law_162 (by decide) ?_
    cases hm39
