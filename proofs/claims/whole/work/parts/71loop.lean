/-! The law's loop. -/
theorem sub5 : ∀ k : Nat, k < 321 → (Int32.ofNat k - 5).toInt = (k : Int) - 5 := by decide +kernel
theorem mono5 {LS i : Nat} (hL : LS ≤ 320) (hi : i ≤ 320) (h : ¬ Int32.ofNat LS - 5 < nI i) : i + 5 ≤ LS := by
  rw [Int32.lt_iff_toInt_lt, sub5 LS (by omega), nI_toInt (by omega)] at h
  omega
set_option maxHeartbeats 4000000 in
theorem stepS {p : Program} {l : Launch} {e : Env} {s : State} {m : MethodId} {args : Array Value} {below : List Frame} {meth : Method} {c : Code} {A : Nat → Prop} {QQ : State → Prop} {D : va_G} {cB cI cJ cQ : ClassId} {N bS LS cells slots : Nat} {xs : Nat → Int32} (hst : l.stackTraces = false) (hx : p.tables.exec = Jvm.exec) (hb : c.code = cL_law) (hml : c.maxLocals = 7) (hown : s.vm.findClass RL = some m.cls) (hts : ∀ w ∈ wsL_law, w.before args s = true) (E : ctE D cB cI cJ cQ N A s) (GX9 : GX N s) (hXS : va_X bS LS xs s s.heap) (hbl : bS < s.heap.size) (hbA : ¬ A bS) (hc0 : cells ≤ room_1.cells) (hs0 : slots ≤ room_1.slots) (hc1 : cells + 1 ≤ room_1.cells) (hs1 : slots + 6 ≤ room_1.slots) {i : Nat} (hL : LS ≤ 320) (hi3 : i ≤ 320) {q0 q1 q2 : Nat} (H0 : Heap) (lc0 : List Loc) (ls0 : Array Slot) (hI : LWI D cB cI cJ cQ A q0 q1 q2 H0) (hS0 : va_S A s.heap H0 lc0) (hl0 : lv_has ls0 7 [(0, .ref bS), (1, .ref q0), (2, .ref q1), (3, .ref q2), (4, .int (nI i))])
    (kend : ∀ ls : Array Slot, W p l e room_1 s m args below meth c H0 lc0 cells slots QQ (F0 m 554 ls []))
    (knext : i + 5 ≤ LS → ∀ (H : Heap) (lc : List Loc) (ls : Array Slot), LWI D cB cI cJ cQ A q0 q1 q2 H → va_S A s.heap H lc → lv_has ls 7 [(0, .ref bS), (1, .ref q0), (2, .ref q1), (3, .ref q2), (4, .int (nI (i + 5)))] → W p l e room_1 s m args below meth c H lc (cells + 1) (slots + 6) QQ (F0 m 23 ls [])) : W p l e room_1 s m args below meth c H0 lc0 cells slots QQ (F0 m 23 ls0 []) := by
  refine lv_iload hx hb dL_law_23 (lv_at hl0 4 rfl) ?_
  refine lv_aload_n hx hb dL_law_25 rfl (lv_at hl0 0 rfl) ?_
  refine va_slen hx hb hXS hbl hbA hS0 dL_law_26 ?_
  refine lv_iconst (v := 5) hx hb dL_law_27 (by decide) ?_
  refine lv_isub hx hb dL_law_28 ?_
  refine lv_icmp_gt (tgt := 554) hx hb dL_law_29 (by decide) (fun hc => ?_) (fun hc => ?_)
  · exact kend ls0
  have hi := mono5 hL hi3 hc
  have kx : ∀ (H : Heap) (lc : List Loc) (ls : Array Slot), LWI D cB cI cJ cQ A q0 q1 q2 H → va_S A s.heap H lc → lv_has ls 7 [(0, .ref bS), (1, .ref q0), (2, .ref q1), (3, .ref q2), (4, .int (nI i))] → W p l e room_1 s m args below meth c H lc (cells + 1) (slots + 6) QQ (F0 m 548 ls []) := by
    intro H lc ls hI hS hl
    refine lv_iinc (v := nI (i + 5)) (lv' := [(4, .int (nI (i + 5))), (0, .ref bS), (1, .ref q0), (2, .ref q1), (3, .ref q2)]) hx hb dL_law_548 hl (k := 4) rfl (by rw [show Int32.ofInt 5 = nI 5 by decide +kernel]; exact nI_add i 5) (by decide) rfl (fun ls2 hl2 => ?_)
    refine lv_goto (tgt := 23) hx hb dL_law_551 (by decide) ?_
    exact knext hi H lc ls2 hI hS (lv_sub hl2 [1, 2, 3, 4, 0] rfl)
  refine lv_aload_n hx hb dL_law_32 rfl (lv_at hl0 0 rfl) ?_
  refine lv_iload hx hb dL_law_33 (lv_at hl0 4 rfl) ?_
  refine va_sld (i := nI i) hx hb hXS hbl hbA hS0 (vp_in_nI (by omega) (by omega)) dL_law_35 ?_
  refine lv_bipush (v := 15) hx hb dL_law_36 (by decide) ?_
  refine lv_iand hx hb dL_law_38 ?_
  obtain ⟨j, hj, ej⟩ := pk_andE (xs (nI i).toNatClampNeg) (m := 15) 4 (by decide)
  rw [ej]
  rcases (show j = 0 ∨ j = 1 ∨ j = 2 ∨ j = 3 ∨ j = 4 ∨ j = 5 ∨ j = 6 ∨ j = 7 ∨ j = 8 ∨ j = 9 ∨ (10 ≤ j ∧ j < 16) by omega) with rfl | rfl | rfl | rfl | rfl | rfl | rfl | rfl | rfl | rfl | h10
  · exact lv_tableIn (x := nI 0) (off := 53) (tgt := 92) hx hb dL_law_39 (by decide +kernel) (by decide +kernel) (by decide +kernel) (by decide) (k_0 hst hx hb hml hown hts E GX9 hXS hbl hbA hc0 hs0 hc1 hs1 hL hi H0 lc0 ls0 hI hS0 hl0 kx)
  · exact lv_tableIn (x := nI 1) (off := 145) (tgt := 184) hx hb dL_law_39 (by decide +kernel) (by decide +kernel) (by decide +kernel) (by decide) (k_1 hst hx hb hml hown hts E GX9 hXS hbl hbA hc0 hs0 hc1 hs1 hL hi H0 lc0 ls0 hI hS0 hl0 kx)
  · exact lv_tableIn (x := nI 2) (off := 181) (tgt := 220) hx hb dL_law_39 (by decide +kernel) (by decide +kernel) (by decide +kernel) (by decide) (k_2 hst hx hb hml hown hts E GX9 hXS hbl hbA hc0 hs0 hc1 hs1 hL hi H0 lc0 ls0 hI hS0 hl0 kx)
  · exact lv_tableIn (x := nI 3) (off := 194) (tgt := 233) hx hb dL_law_39 (by decide +kernel) (by decide +kernel) (by decide +kernel) (by decide) (k_3 hst hx hb hml hown hts E GX9 hXS hbl hbA hc0 hs0 hc1 hs1 hL hi H0 lc0 ls0 hI hS0 hl0 kx)
  · exact lv_tableIn (x := nI 4) (off := 238) (tgt := 277) hx hb dL_law_39 (by decide +kernel) (by decide +kernel) (by decide +kernel) (by decide) (k_4 hst hx hb hml hown hts E GX9 hXS hbl hbA hc0 hs0 hc1 hs1 hL hi H0 lc0 ls0 hI hS0 hl0 kx)
  · exact lv_tableIn (x := nI 5) (off := 294) (tgt := 333) hx hb dL_law_39 (by decide +kernel) (by decide +kernel) (by decide +kernel) (by decide) (k_5 hst hx hb hml hown hts E GX9 hXS hbl hbA hc0 hs0 hc1 hs1 hL hi H0 lc0 ls0 hI hS0 hl0 kx)
  · exact lv_tableIn (x := nI 6) (off := 307) (tgt := 346) hx hb dL_law_39 (by decide +kernel) (by decide +kernel) (by decide +kernel) (by decide) (k_6 hst hx hb hml hown hts E GX9 hXS hbl hbA hc0 hs0 hc1 hs1 hL hi H0 lc0 ls0 hI hS0 hl0 kx)
  · exact lv_tableIn (x := nI 7) (off := 403) (tgt := 442) hx hb dL_law_39 (by decide +kernel) (by decide +kernel) (by decide +kernel) (by decide) (k_7 hst hx hb hml hown hts E GX9 hXS hbl hbA hc0 hs0 hc1 hs1 hL hi H0 lc0 ls0 hI hS0 hl0 kx)
  · exact lv_tableIn (x := nI 8) (off := 483) (tgt := 522) hx hb dL_law_39 (by decide +kernel) (by decide +kernel) (by decide +kernel) (by decide) (k_8 hst hx hb hml hown hts E GX9 hXS hbl hbA hc0 hs0 hc1 hs1 hL hi H0 lc0 ls0 hI hS0 hl0 kx)
  · exact lv_tableIn (x := nI 9) (off := 496) (tgt := 535) hx hb dL_law_39 (by decide +kernel) (by decide +kernel) (by decide +kernel) (by decide) (k_9 hst hx hb hml hown hts E GX9 hXS hbl hbA hc0 hs0 hc1 hs1 hL hi H0 lc0 ls0 hI hS0 hl0 kx)
  · exact lv_tableOut (x := nI j) (tgt := 548) hx hb dL_law_39 (Or.inr (by rw [nI_toInt (by omega)]; omega)) (by decide) (W.widen (Nat.le_add_right cells 1) (Nat.le_add_right slots 6) (kx H0 lc0 ls0 hI hS0 hl0))
theorem loopS {p : Program} {l : Launch} {e : Env} {s : State} {m : MethodId} {args : Array Value} {below : List Frame} {meth : Method} {c : Code} {A : Nat → Prop} {QQ : State → Prop} {D : va_G} {cB cI cJ cQ : ClassId} {N bS LS : Nat} {xs : Nat → Int32} (hst : l.stackTraces = false) (hx : p.tables.exec = Jvm.exec) (hb : c.code = cL_law) (hml : c.maxLocals = 7) (hown : s.vm.findClass RL = some m.cls) (hts : ∀ w ∈ wsL_law, w.before args s = true) (E : ctE D cB cI cJ cQ N A s) (GX9 : GX N s) (hXS : va_X bS LS xs s s.heap) (hbl : bS < s.heap.size) (hbA : ¬ A bS) (hL : LS ≤ 320) {q0 q1 q2 : Nat}
    (kend : ∀ (H : Heap) (lc : List Loc) (ls : Array Slot) (cells slots : Nat), cells ≤ 600128 → slots ≤ 7301098 → va_S A s.heap H lc → W p l e room_1 s m args below meth c H lc cells slots QQ (F0 m 554 ls [])) :
    ∀ (r i cells slots : Nat) (H0 : Heap) (lc0 : List Loc) (ls0 : Array Slot), i ≤ 320 → LS < i + 5 * r + 5 → cells + r + 1 ≤ 600128 → slots + 6 * r + 6 ≤ 7301098 → LWI D cB cI cJ cQ A q0 q1 q2 H0 → va_S A s.heap H0 lc0 → lv_has ls0 7 [(0, .ref bS), (1, .ref q0), (2, .ref q1), (3, .ref q2), (4, .int (nI i))] → W p l e room_1 s m args below meth c H0 lc0 cells slots QQ (F0 m 23 ls0 []) := by
  intro r
  induction r with
  | zero =>
    intro i cells slots H0 lc0 ls0 h1 h2 h3 h4 hI hS0 hl0
    exact stepS hst hx hb hml hown hts E GX9 hXS hbl hbA (show cells ≤ 600128 by omega) (show slots ≤ 7301098 by omega) (show cells + 1 ≤ 600128 by omega) (show slots + 6 ≤ 7301098 by omega) hL h1 H0 lc0 ls0 hI hS0 hl0 (fun ls => kend H0 lc0 ls cells slots (by omega) (by omega) hS0) (fun hi => absurd hi (by omega))
  | succ r ih =>
    intro i cells slots H0 lc0 ls0 h1 h2 h3 h4 hI hS0 hl0
    exact stepS hst hx hb hml hown hts E GX9 hXS hbl hbA (show cells ≤ 600128 by omega) (show slots ≤ 7301098 by omega) (show cells + 1 ≤ 600128 by omega) (show slots + 6 ≤ 7301098 by omega) hL h1 H0 lc0 ls0 hI hS0 hl0 (fun ls => kend H0 lc0 ls cells slots (by omega) (by omega) hS0) (fun hi H lc ls hI2 hS2 hl2 => ih (i + 5) (cells + 1) (slots + 6) H lc ls (by omega) (by omega) (by omega) (by omega) hI2 hS2 hl2)
