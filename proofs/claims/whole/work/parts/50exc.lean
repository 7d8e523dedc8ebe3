/-! What the exceptions of FilmBlocks need, and the rows for methods that throw, and for those that catch. -/
def ISE : String := "java/lang/IllegalStateException"
def IAE : String := "java/lang/IllegalArgumentException"
def IOB : String := "java/lang/IndexOutOfBoundsException"
def NMS : List String := ["java/lang/RuntimeException", "java/lang/Exception"]
theorem NMS_fit : ∀ n ∈ NMS, Bundle.fit n = true := by decide +kernel
def DRE : Cond := .declares (Bundle.initS "java/lang/RuntimeException")
def DEX : Cond := .declares (Bundle.initS "java/lang/Exception")
def DTH : Cond := .declares (Bundle.initS Bundle.tN)
theorem wm_D {x : MethodName} {s U : State} (hW : s.WarmedH U.vm) (hZ : va_Nw (.declares x) s) : va_Nw (.declares x) U := va_tabs rfl (rfl : (s.setVm U.vm).vm = U.vm) (by rw [Cond.declares_setVm hW.alike]; exact hZ)
def GX (N : Nat) (U : State) : Prop :=
  (∃ a, vk_R RX6 62 "the tape would have more than 6000 bytes" a U) ∧ (∃ a, vk_R RX6 73 "the tape has no such length" a U) ∧ (∃ a, vk_R RX6 100 "there is no header" a U) ∧ (∃ a, vk_R RX6 129 "a header tells 0 to 4" a U) ∧ (∃ a, vk_R RX6 135 "there is no picture" a U) ∧ (∃ a, vk_R RX6 143 "the picture has no such place" a U) ∧ (∃ a, vk_R RX6 151 "the picture has no such block" a U) ∧ (∃ a, vk_R RX6 169 "a block tells 0 to 3" a U) ∧
  vx_Zq Bundle.tN "UNASSIGNED_STACK" Bundle.steD (fun q => N ≤ q) U U.heap ∧ vx_Zq Bundle.tN "SUPPRESSED_SENTINEL" Bundle.listD (fun q => N ≤ q) U U.heap ∧
  va_Nw (.castable ISE ISE) U ∧ va_Nw (.castable IAE IAE) U ∧ va_Nw (.castable IOB IOB) U ∧ va_Nc IAE ISE U ∧ va_Nc IOB ISE U ∧ va_Nc IAE IOB U ∧ va_Nw DRE U ∧ va_Nw DEX U ∧ va_Nw DTH U
theorem GX.go {N : Nat} {u U : State} (hW : u.WarmedH U.vm) (hq : ∀ q : Nat, q < u.heap.size → q < N → U.heap[q]? = u.heap[q]?) (h : GX N u) : GX N U := by
  obtain ⟨⟨a1, h1⟩, ⟨a2, h2⟩, ⟨a3, h3⟩, ⟨a4, h4⟩, ⟨a5, h5⟩, ⟨a6, h6⟩, ⟨a7, h7⟩, ⟨a8, h8⟩, hU, hN, c1, c2, c3, n1, n2, n3, d1, d2, d3⟩ := h
  have hv := hW.alike
  exact ⟨⟨a1, h1.warm hW⟩, ⟨a2, h2.warm hW⟩, ⟨a3, h3.warm hW⟩, ⟨a4, h4.warm hW⟩, ⟨a5, h5.warm hW⟩, ⟨a6, h6.warm hW⟩, ⟨a7, h7.warm hW⟩, ⟨a8, h8.warm hW⟩, (hU.moved hv).kept (fun a l1 l2 => hq a l1 (Nat.not_le.mp l2)), (hN.moved hv).kept (fun a l1 l2 => hq a l1 (Nat.not_le.mp l2)), c1.warmC hW, c2.warmC hW, c3.warmC hW, n1.moved hv, n2.moved hv, n3.moved hv, wm_D hW d1, wm_D hW d2, wm_D hW d3⟩
theorem GX.call {N : Nat} {U : State} {g : JFrame} {mk : MethodId} {a : Array Value} (h : GX N U) : GX N (U.calling g mk a) := by
  obtain ⟨⟨a1, h1⟩, ⟨a2, h2⟩, ⟨a3, h3⟩, ⟨a4, h4⟩, ⟨a5, h5⟩, ⟨a6, h6⟩, ⟨a7, h7⟩, ⟨a8, h8⟩, hU, hN, c1, c2, c3, n1, n2, n3, d1, d2, d3⟩ := h
  have hv : U.vm.Alike (U.calling g mk a).vm := Vm.Alike.refl U.vm
  have hq : ∀ q : Nat, q < U.heap.size → ¬ N ≤ q → (U.calling g mk a).heap[q]? = U.heap[q]? := fun q _ _ => rfl
  exact ⟨⟨a1, h1.same rfl⟩, ⟨a2, h2.same rfl⟩, ⟨a3, h3.same rfl⟩, ⟨a4, h4.same rfl⟩, ⟨a5, h5.same rfl⟩, ⟨a6, h6.same rfl⟩, ⟨a7, h7.same rfl⟩, ⟨a8, h8.same rfl⟩, (hU.moved hv).kept hq, (hN.moved hv).kept hq, va_Nw.same rfl rfl c1, va_Nw.same rfl rfl c2, va_Nw.same rfl rfl c3, n1.moved hv, n2.moved hv, n3.moved hv, va_Nw.same rfl rfl d1, va_Nw.same rfl rfl d2, va_Nw.same rfl rfl d3⟩
/-- a contract's start, where exceptions may come -/
def ctPX (D : va_G) (cB cI cJ cQ : ClassId) (N sz : Nat) (av : List Value) (ws : va_W) : Array Value → State → Prop := va_Pc av (fun U => ctB D cB cI cJ cQ N sz ws U ∧ GX N U)
/-- never -/
def ctNi (A : Nat → Prop) : Array Value → State → Outcome → State → Prop := va_Qi (fun _ (_ : Unit) => False) (fun _ _ => True) A
def ctNv (A : Nat → Prop) : Array Value → State → Outcome → State → Prop := va_Qv (fun (_ : Unit) => False) (fun _ _ => True) A
/-- E is thrown, the world is as it was -/
def ctXC (D : va_G) (E : String) (ws : va_W) (A : Nat → Prop) : String → State → State → Prop := vx_X (fun _ : Unit => True) (fun E' _ t => E' = E ∧ va_P D vwCl ws t.heap ∧ va_D A ws) A
/-- nothing is thrown -/
def ctX0 : String → State → State → Prop := vx_X (fun _ : Unit => False) (fun _ _ _ => True) (fun _ => False)
section CTX
variable {l : Launch} {D : va_G} {cB cI cJ cQ : ClassId} {N : Nat}
theorem ctx_blind {sz : Nat} {av : List Value} {ws : va_W} : FrameBlind (ctPX D cB cI cJ cQ N sz av ws) := by
  intro a U g mk q
  obtain ⟨q0, ⟨q1, q2, qP, qK, qD, qG⟩, qX⟩ := q
  exact ⟨q0, ⟨q1, q2, qP, va_K.moved (u := U) (U := U.calling g mk a) (Vm.Alike.refl U.vm) qK, qD, qG.call⟩, qX.call⟩
/-- a contract of a method that throws, out of a walk -/
theorem ctx_of {y : MethodName} {ws ws' : List Cond} {rm : Room} {cc : ByteArray} {maxL : Nat} {ret : Option FieldType} {own : String} {av : List Value} {w0 : va_W} {sz : Nat} {Qp : (Nat → Prop) → Array Value → State → Outcome → State → Prop} {XC : (Nat → Prop) → String → State → State → Prop} {mc ms : Nat}
    (hy : plainName y.cls = true) (hyo : y.cls = own) (hw : ws = Cond.code y cc maxL ret :: ws') (hlen : (lg_sl av).length ≤ maxL)
    (body : ∀ (p : Program) (e : Env) (s : State) (m : MethodId) (args : Array Value) (below : List Frame) (meth : Method) (c : Code) (A : Nat → Prop), p.tables.exec = Jvm.exec → c.code = cc → meth.sig.returnType = ret → c.maxLocals = maxL → (∀ x ∈ c.exceptionTable.toList, False) → s.vm.findClass own = some m.cls → (∀ w ∈ ws, w.before args s = true) → meth.locks = false → meth.name = y.name → s.heap.size = sz →
      ctE D cB cI cJ cQ N A s → GX N s → va_P D vwCl w0 s.heap → va_D A w0 → va_S A s.heap s.heap [] → ∀ ls : Array Slot, lv_has ls maxL (lv_args 0 av) → W p l e rm s m args below meth c s.heap [] 0 0 (vx_MQ below (Qp A) (XC A) args s mc ms A) (F0 m 0 ls [])) :
    vx_Met l y ws rm (ctPX D cB cI cJ cQ N sz av w0) (Qp (va_A w0 sz)) (XC (va_A w0 sz)) mc ms (va_A w0 sz) := by
  refine vx_ofW (cc := cc) (maxL := maxL) (ret := ret) hy hw ?_
  intro p e s m args below meth c s₁ B hml htab hv
  obtain ⟨rfl, ⟨hsz, hN, hP, hK, hD0, hG⟩, hX⟩ := hv
  have hx := B.exec
  have hb := B.bytes
  have hr := B.returns
  have hts := atoms_spec (ws := ws) B.pre
  have hown : s.vm.findClass y.cls = some m.cls := findClass_of_methodNamed B.named
  rw [hyo] at hown
  have hlocks := B.notSynchronized
  have hnm : meth.name = y.name := (name_of_methodNamed B.named B.method).1
  subst hsz
  have hD := hD0.self (sz := s.heap.size)
  have hl := lv_entry av (n := maxL) hlen
  rw [lg_entry_eq]
  exact body p e s m _ below meth c _ hx hb hr hml htab hown hts hlocks hnm rfl ⟨hK, hG, fun q h => Or.inr h, va_A_D hD0 hN, hN⟩ hX hP hD va_S.rf _ hl
/-- a contract of a method with handlers, out of a walk -/
theorem cth_of {y : MethodName} {ws ws' : List Cond} {rm : Room} {cc : ByteArray} {maxL : Nat} {ret : Option FieldType} {hh : List (Nat × Nat × Nat × Nat)} {own : String} {av : List Value} {w0 : va_W} {sz : Nat} {Qp : (Nat → Prop) → Array Value → State → Outcome → State → Prop} {XC : (Nat → Prop) → String → State → State → Prop} {mc ms : Nat}
    (hy : plainName y.cls = true) (hyo : y.cls = own) (hw : ws = Cond.codeWith y cc maxL ret hh :: ws') (hlen : (lg_sl av).length ≤ maxL)
    (body : ∀ (p : Program) (e : Env) (s : State) (m : MethodId) (args : Array Value) (below : List Frame) (meth : Method) (c : Code) (A : Nat → Prop), p.tables.exec = Jvm.exec → c.code = cc → meth.sig.returnType = ret → c.maxLocals = maxL → c.exceptionTable.toList = tableOf hh → s.vm.findClass own = some m.cls → (∀ w ∈ ws, w.before args s = true) → meth.locks = false → meth.name = y.name → s.heap.size = sz →
      ctE D cB cI cJ cQ N A s → GX N s → va_P D vwCl w0 s.heap → va_D A w0 → va_S A s.heap s.heap [] → ∀ ls : Array Slot, lv_has ls maxL (lv_args 0 av) → W p l e rm s m args below meth c s.heap [] 0 0 (vx_MQ below (Qp A) (XC A) args s mc ms A) (F0 m 0 ls [])) :
    vx_Met l y ws rm (ctPX D cB cI cJ cQ N sz av w0) (Qp (va_A w0 sz)) (XC (va_A w0 sz)) mc ms (va_A w0 sz) := by
  refine vx_ofWH (cc := cc) (maxL := maxL) (ret := ret) (hh := hh) hy hw ?_
  intro p e s m args below meth c s₁ B hml hv
  obtain ⟨rfl, ⟨hsz, hN, hP, hK, hD0, hG⟩, hX⟩ := hv
  have hx := B.exec
  have hb := B.bytes
  have hr := B.returns
  have hts := atoms_spec (ws := ws) B.pre
  have hown : s.vm.findClass y.cls = some m.cls := findClass_of_methodNamed B.named
  rw [hyo] at hown
  have hlocks := B.notSynchronized
  have hnm : meth.name = y.name := (name_of_methodNamed B.named B.method).1
  have htab : c.exceptionTable.toList = tableOf hh := vx_table (x := y) B (hts _ (by rw [hw]; exact List.mem_cons_self))
  subst hsz
  have hD := hD0.self (sz := s.heap.size)
  have hl := lv_entry av (n := maxL) hlen
  rw [lg_entry_eq]
  exact body p e s m _ below meth c _ hx hb hr hml htab hown hts hlocks hnm rfl ⟨hK, hG, fun q h => Or.inr h, va_A_D hD0 hN, hN⟩ hX hP hD va_S.rf _ hl
variable {p : Program} {e : Env} {R : Room} {s : State} {m : MethodId} {args : Array Value} {below : List Frame} {meth : Method} {c : Code} {H : Heap} {locs : List Loc} {Q : State → Prop} {pc : Nat} {ls : Array Slot} {rest st0 : List Value} {cc : ByteArray} {A : Nat → Prop}
/-- new X(text), thrown -/
theorem ct_throw {cls text own : String} {ik is ic sa : Nat} {ws : va_W} {Ts : List Cond} {Qc : Array Value → State → Outcome → State → Prop} (hst : l.stackTraces = false) (hx : p.tables.exec = Jvm.exec) (hb : c.code = cc) (hown : s.vm.findClass own = some m.cls) (hcls : Bundle.fit cls = true) (hk : (Cond.classLink own ik cls).before args s = true) (hini : (Cond.initialized cls).before args s = true) (hstr : vk_R own is text sa s)
    (hts : ∀ w ∈ Ts, w.before args s = true) (hin : ∀ w ∈ (vx_atS own ic cls NMS).filter goodWord, w ∈ Ts) (hnot : (vx_atS own ic cls NMS).filter (fun w => !goodWord w) = [DRE, DEX, DTH, .castable cls cls]) (hcast : va_Nw (.castable cls cls) s) (hd1 : va_Nw DRE s) (hd2 : va_Nw DEX s) (hd3 : va_Nw DTH s)
    (hgood : (Cond.classLink own ik cls :: Cond.initialized cls :: vx_atS own ic cls NMS).all vx_ot = true) (E : ctE D cB cI cJ cQ N A s) (hU : vx_Zq Bundle.tN "UNASSIGNED_STACK" Bundle.steD (fun q => N ≤ q) s s.heap) (hN : vx_Zq Bundle.tN "SUPPRESSED_SENTINEL" Bundle.listD (fun q => N ≤ q) s s.heap) (hP : va_P D vwCl ws H) (hD : va_D A ws) (hS : va_S A s.heap H locs) (hsize : ls.size = c.maxLocals)
    (htab : ∀ x ∈ c.exceptionTable.toList, False) (hRf : 5 < R.frames) (hRl : (rest.map fun v => v.category).sum + 82 ≤ R.locals) (hRc : 1 ≤ R.cells) (hRs : 6 ≤ R.slots) (hlk : meth.locks = false)
    (d0 : decode cc pc = .ok (.new ik, 3)) (d3 : decode cc (pc + 3) = .ok (.dup, 1)) (d4 : decode cc (pc + 4) = .ok (.ldc is, 2)) (d6 : decode cc (pc + 6) = .ok (.invokespecial ic, 3)) (d9 : decode cc (pc + 9) = .ok (.athrow, 1)) :
    W p l e R s m args below meth c H locs 0 0 (vx_MQ below Qc (ctXC D cls ws A) args s 1 6 A) (F0 m pc ls rest) := by
  have hat : ∀ w ∈ vx_atS own ic cls NMS, w.before args s = true := vx_hat (B := [DRE, DEX, DTH, .castable cls cls]) (fun w h => hts w (hin w h)) (fun w h => by rw [hnot] at h; exact h) (vx_c (va_Nw.use (A := args) rfl hd1) (vx_c (va_Nw.use (A := args) rfl hd2) (vx_c (va_Nw.use (A := args) rfl hd3) (vx_c (va_Nw.use (A := args) rfl hcast) vx_n))))
  exact vx_throwS hx hb hst hown hcls NMS_fit hk hini hstr hat (List.all_eq_true.mp hgood) (hU.narrow E.2.2.2.1) (hN.narrow E.2.2.2.1) hS hsize d0 d3 d4 d6 d9 (fun x hx => (htab x hx).elim) hRf hRl (by omega) (by omega) hlk
    (fun t _ hle hq => ⟨(), trivial, ⟨rfl, hP.kept (fun k q hk => hq q.1 (hP k q hk).lt), hD⟩, ⟨Nat.le_trans hS.1 hle, fun q h1 h2 => (hq q (Nat.lt_of_lt_of_le h1 hS.1)).trans (hS.2.1 q h1 h2)⟩⟩) hS.2.2 (Nat.le_refl _) (Nat.le_refl _)
theorem ctx_pc {ws : va_W} {As : List Value} (E : ctE D cB cI cJ cQ N A s) (X : GX N s) (hS : va_S A s.heap H locs) (hP : va_P D vwCl ws H) (hD : va_D A ws) : ∀ U : State, U.heap = H → s.WarmedH U.vm → ctPX D cB cI cJ cQ N H.size As ws As.toArray U := by
  intro U hU hW
  obtain ⟨h1, h2⟩ := ct_pc E hS hP hD (As := As) U hU hW
  refine ⟨h1, h2, X.go hW (fun q h3 h4 => ?_)⟩
  rw [hU]
  exact hS.2.1 q h3 (fun h => absurd (E.2.2.2.1 q h) (Nat.not_le.mpr h4))
theorem ctx_preS {pre : va_W} {tl : List va_W} {isC isR itC itR : List Nat} {As : List Value} (E : ctE D cB cI cJ cQ N A s) (X : GX N s) (sb : ctS pre tl isC isR itC itR) (hP : va_P D vwCl (wf pre tl) H) (hD : va_D A (wf pre tl)) (hS : va_S A s.heap H locs) : PreS s H (ctPX D cB cI cJ cQ N H.size As (wf (pk pre isC) (pk tl itC))) As :=
  ⟨ctx_blind, ctx_pc E X hS (va_P_app (va_P_perm sb.perm hP)).1 (va_D_app (va_D_perm sb.perm hD)).1⟩
theorem ctx_preV {pre : va_W} {tl : List va_W} {isC isR itC itR : List Nat} {As : List Value} {b q0 ci NF : Nat} {C : String} {T : u_T} {fs : List Value} (E : ctE D cB cI cJ cQ N A s) (X : GX N s) (sb : ctS pre tl isC isR itC itR) (hP : va_P D vwCl (wf pre tl) H) (hD : va_D A (wf pre tl)) (hS : va_S A s.heap H locs) (hc : vwCl[ci]? = some (C, T, NF)) (he : pre[q0]? = some (b, .inr (ci, fs))) : PreV s H C b (ctPX D cB cI cJ cQ N H.size (.ref b :: As) (wf (pk pre isC) (pk tl itC))) As := by
  obtain ⟨-, h2, -⟩ := ct_preV (As := As) E sb hP hD hS hc he
  exact ⟨ctx_blind, h2, ctx_pc E X hS (va_P_app (va_P_perm sb.perm hP)).1 (va_D_app (va_D_perm sb.perm hD)).1⟩
/-- a call that throws: where the exception comes, the world is as it was -/
theorem ctx_calli {cells slots mc ms : Nat} {pre : va_W} {tl : List va_W} {isC isR itC itR : List Nat} {a : Array Value} {EX : String} (E : ctE D cB cI cJ cQ N A s) (sb : ctS pre tl isC isR itC itR) (hP : va_P D vwCl (wf pre tl) H) (hD : va_D A (wf pre tl)) (hS : va_S A s.heap H locs)
    (hr : vx_Run p l e R s m args below meth c H locs cells slots mc ms (F0 m pc ls st0) rest (ctNi (va_A (wf (pk pre isC) (pk tl itC)) H.size) a) (ctXC D EX (wf (pk pre isC) (pk tl itC)) (va_A (wf (pk pre isC) (pk tl itC)) H.size)) (va_A (wf (pk pre isC) (pk tl itC)) H.size))
    (kx : ∀ (ce : Cell) (q9 : Addr) (H1 : Heap) (locs1 : List Loc), va_P D vwCl (wf (pk pre isR ++ pk pre isC) (pk tl itR ++ pk tl itC)) H1 → va_D A (wf (pk pre isR ++ pk pre isC) (pk tl itR ++ pk tl itC)) → va_S A s.heap H1 locs1 → H1[q9]? = some ce → ce.vm = .none → s.vm.findClass EX = some ce.cls → vx_W p l e R s m args below meth c H1 locs1 (cells + mc) (slots + ms) Q (F0 m pc ls rest) q9) : W p l e R s m args below meth c H locs cells slots Q (F0 m pc ls st0) := by
  have hF := ct_freeA (va_D_perm sb.perm hD) hS E.2.2.1
  refine vx_calli hr hS (fun q _ h => hF q h) hF (fun q _ h => hF q h) (fun E9 ce q9 u t H1 locs1 ht hvm hu hB hz hk1 hS1 h1 h2 h3 => ?_) (fun r u t H1 locs1 _ _ h _ => h.elim)
  obtain ⟨rfl, hP1, hD1⟩ := hB
  rw [ht] at hP1
  obtain ⟨hP2, hD2⟩ := ct_bk sb hP hD hS E.2.2.1 hk1 hP1 hD1
  exact kx ce q9 H1 locs1 hP2 hD2 hS1 h1 h2 h3
theorem ctx_callv {cells slots mc ms : Nat} {pre : va_W} {tl : List va_W} {isC isR itC itR : List Nat} {a : Array Value} {EX : String} (E : ctE D cB cI cJ cQ N A s) (sb : ctS pre tl isC isR itC itR) (hP : va_P D vwCl (wf pre tl) H) (hD : va_D A (wf pre tl)) (hS : va_S A s.heap H locs)
    (hr : vx_Run p l e R s m args below meth c H locs cells slots mc ms (F0 m pc ls st0) rest (ctNv (va_A (wf (pk pre isC) (pk tl itC)) H.size) a) (ctXC D EX (wf (pk pre isC) (pk tl itC)) (va_A (wf (pk pre isC) (pk tl itC)) H.size)) (va_A (wf (pk pre isC) (pk tl itC)) H.size))
    (kx : ∀ (ce : Cell) (q9 : Addr) (H1 : Heap) (locs1 : List Loc), va_P D vwCl (wf (pk pre isR ++ pk pre isC) (pk tl itR ++ pk tl itC)) H1 → va_D A (wf (pk pre isR ++ pk pre isC) (pk tl itR ++ pk tl itC)) → va_S A s.heap H1 locs1 → H1[q9]? = some ce → ce.vm = .none → s.vm.findClass EX = some ce.cls → vx_W p l e R s m args below meth c H1 locs1 (cells + mc) (slots + ms) Q (F0 m pc ls rest) q9) : W p l e R s m args below meth c H locs cells slots Q (F0 m pc ls st0) := by
  have hF := ct_freeA (va_D_perm sb.perm hD) hS E.2.2.1
  refine vx_callv hr hS (fun q _ h => hF q h) hF (fun q _ h => hF q h) (fun E9 ce q9 u t H1 locs1 ht hvm hu hB hz hk1 hS1 h1 h2 h3 => ?_) (fun u t H1 locs1 _ _ h _ => h.elim)
  obtain ⟨rfl, hP1, hD1⟩ := hB
  rw [ht] at hP1
  obtain ⟨hP2, hD2⟩ := ct_bk sb hP hD hS E.2.2.1 hk1 hP1 hD1
  exact kx ce q9 H1 locs1 hP2 hD2 hS1 h1 h2 h3
/-- a call of a method with handlers, which throws nothing -/
theorem cth_calli {cells slots mc ms : Nat} {pre p1 : va_W} {tl t1 : List va_W} {isC isR itC itR : List Nat} {a : Array Value} {r : Int32} (E : ctE D cB cI cJ cQ N A s) (sb : ctS pre tl isC isR itC itR) (hP : va_P D vwCl (wf pre tl) H) (hD : va_D A (wf pre tl)) (hS : va_S A s.heap H locs)
    (hr : vx_Run p l e R s m args below meth c H locs cells slots mc ms (F0 m pc ls st0) rest (ctQi D r (wf p1 t1) (va_A (wf (pk pre isC) (pk tl itC)) H.size) a) ctX0 (va_A (wf (pk pre isC) (pk tl itC)) H.size))
    (kk : ∀ (H1 : Heap) (locs1 : List Loc), va_P D vwCl (wf (pk pre isR ++ p1) (pk tl itR ++ t1)) H1 → va_D A (wf (pk pre isR ++ p1) (pk tl itR ++ t1)) → va_S A s.heap H1 locs1 → W p l e R s m args below meth c H1 locs1 (cells + mc) (slots + ms) Q (F0 m (pc + 3) ls (.int r :: rest))) : W p l e R s m args below meth c H locs cells slots Q (F0 m pc ls st0) := by
  have hF := ct_freeA (va_D_perm sb.perm hD) hS E.2.2.1
  refine vx_calli hr hS (fun q _ h => hF q h) hF (fun q _ h => h.elim) (fun E9 ce q9 u t H1 locs1 _ _ h => h.elim) (fun r1 u t H1 locs1 ht hvm hw hB hz1 hk1 hS1 => ?_)
  obtain ⟨hP1, hD1⟩ := hB
  rw [ht] at hP1
  subst hw
  obtain ⟨hP2, hD2⟩ := ct_bk sb hP hD hS E.2.2.1 hk1 hP1 hD1
  exact kk H1 locs1 hP2 hD2 hS1
/-- the end of a method with handlers -/
theorem cth_iret {mc ms : Nat} {ws' : va_W} {v r : Int32} {XC : String → State → State → Prop} (hx : p.tables.exec = Jvm.exec) (hb : c.code = cc) (hr : meth.sig.returnType = some .int) (hlk : meth.locks = false) (hP : va_P D vwCl ws' H) (hD : va_D A ws') (hS : va_S A s.heap H locs) (hv : v = r) (hdg : decode cc pc = .ok (.ireturn, 1)) : W p l e R s m args below meth c H locs mc ms (vx_MQ below (ctQi D r ws' A) XC args s mc ms A) (F0 m pc ls [.int v]) :=
  vx_ret (W.iret hx hb hr (fun t ht hW => ⟨⟨v, (), rfl, hv, by rw [ht]; exact hP, hD⟩, hS.F ht⟩) hS.2.2 hdg hlk)
end CTX
theorem xw_ISE : (vx_atS RX6 64 ISE NMS).filter (fun w => !goodWord w) = [DRE, DEX, DTH, .castable ISE ISE] := by decide +kernel
theorem xw_IAE : (vx_atS RX6 75 IAE NMS).filter (fun w => !goodWord w) = [DRE, DEX, DTH, .castable IAE IAE] := by decide +kernel
theorem xw_IOB : (vx_atS RX6 145 IOB NMS).filter (fun w => !goodWord w) = [DRE, DEX, DTH, .castable IOB IOB] := by decide +kernel
theorem xg_ISE : (Cond.classLink RX6 60 ISE :: Cond.initialized ISE :: vx_atS RX6 64 ISE NMS).all vx_ot = true := by decide +kernel
theorem xg_IAE : (Cond.classLink RX6 71 IAE :: Cond.initialized IAE :: vx_atS RX6 75 IAE NMS).all vx_ot = true := by decide +kernel
theorem xg_IOB : (Cond.classLink RX6 141 IOB :: Cond.initialized IOB :: vx_atS RX6 145 IOB NMS).all vx_ot = true := by decide +kernel
theorem stk0 {l : Launch} (h : l.flags = flags0) : l.stackTraces = false := by
  unfold Launch.stackTraces
  rw [h]
  decide +kernel
theorem ts_ne {x k : Int32} {z : Int} (h : ¬ x = k) (hz : k.toInt = z) : x.toInt ≠ z := fun e => h (Int32.toInt_inj.mp (e.trans hz.symm))
