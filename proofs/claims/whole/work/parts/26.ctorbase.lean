/-! What constructors want beside part 04. -/
theorem rowsW_cg {cI : ClassId} {r r' : Nat → Nat} {M : Nat → Nat → Int32} (h : ∀ i, r' (7 + i) = r (7 + i)) : rowsW cI r M = rowsW cI r' M := by
  unfold rowsW
  exact List.map_congr_left (fun i _ => by rw [h i])
theorem aQ_cg {a : Nat} {c : ClassId} {r r' : Nat → Nat} (h : ∀ i, r' (7 + i) = r (7 + i)) : aQ a c r = aQ a c r' := by
  have e : (fun i => if i < 36 then some (r (7 + i)) else none) = (fun i => if i < 36 then some (r' (7 + i)) else none) := by
    funext i
    rw [h i]
  unfold aQ
  rw [e]
section CTF
variable {p : Program} {l : Launch} {e : Env} {R : Room} {s : State} {m : MethodId} {args : Array Value} {below : List Frame} {meth : Method} {c : Code} {H : Heap} {locs : List Loc} {Q : State → Prop} {cells slots : Nat}
variable {cc : ByteArray} {pc : Nat} {ls : Array Slot} {rest : List Value} {D : va_G} {cB cI cJ cQ : ClassId} {N : Nat} {A : Nat → Prop}
theorem ct_putF {tys : List (ClassId × FieldType)} {ws ws' : va_W} {H0 : Heap} {a : Nat} (hexec : p.tables.exec = Jvm.exec) (hb : c.code = cc) {own ref C : String} {T : u_T} {N ci index : Nat} {Ts : List Cond} (hts : ∀ w ∈ Ts, w.before args s = true) (hin : ∀ w ∈ u_ws C T N, w ∈ Ts) (ty0 : Nat → FieldType) (hty : ∀ k, k < N → parseFieldDescriptor (T k).2.2.1 = some (ty0 k)) (hnm : ∀ a, a < N → ∀ b, b < N → a ≠ b → (T a).2.1 ≠ (T b).2.1) (hown : s.vm.findClass own = some m.cls) (hK : va_K D vwCl tys s) (hP : va_P D vwCl ws H) (hD : va_D A ws) (hS0 : va_S A H0 H locs) (q0 : Nat) {fs : List Value} (he : ws[q0]? = some (a, .inr (ci, fs))) (hc : vwCl[ci]? = some (C, T, N)) (k : Nat) (hk : k < N) (hlink : (Cond.fieldLink own index ref (T k).2.1 (T k).2.2.1).before args s = true) (hsame : ∀ x, s.fieldFound? (T k).1 (T k).2.1 (T k).2.2.1 = some x → s.fieldFound? ref (T k).2.1 (T k).2.2.1 = some x) (hfin : (T k).2.2.2 = true) (hin2 : meth.name = "<init>") (hdecl : (T k).1 = own) {ty : FieldType} {v : Value} (hd : parseFieldDescriptor (T k).2.2.1 = some ty) (hn : narrow ty v = v) (hfit : fits ty v = true) (hl : k < fs.length) (hw : ws.set q0 (a, .inr (ci, fs.set k v)) = ws')
    (hdg : decode cc pc = .ok (.putfield index, 3)) (kk : ∀ (H1 : Heap) (locs1 : List Loc), va_P D vwCl ws' H1 → va_D A ws' → va_S A H0 H1 locs1 → W p l e R s m args below meth c H1 locs1 cells slots Q (F0 m (pc + 3) ls rest)) : W p l e R s m args below meth c H locs cells slots Q (F0 m pc ls (v :: .ref a :: rest)) := by
  subst hw
  exact va_putF hexec hb hts hin ty0 hty hnm hown hK hP hD hS0 q0 he hc k hk hlink hsame hfin hin2 hdecl hd hn hfit hl hdg kk
theorem wf_pushR (pre : va_W) (tl : List va_W) (x : Nat × va_E) (rows : va_W) : ((wf pre tl ++ [x]) ++ rows).Perm (wf (pre ++ [x]) (tl ++ [rows])) := by
  unfold wf
  rw [List.flatten_append, List.append_assoc, List.append_assoc, List.append_assoc]
  refine List.Perm.append_left pre ?_
  show (tl.flatten ++ ([x] ++ rows)).Perm ([x] ++ (tl.flatten ++ (rows ++ [])))
  rw [List.append_nil, ← List.append_assoc, ← List.append_assoc]
  exact List.Perm.append_right rows List.perm_append_comm
/-- new int[36][64] -/
theorem ct_mna {pre : va_W} {tl : List va_W} (hexec : p.tables.exec = Jvm.exec) (hb : c.code = cc) {own : String} {index : Nat} (hown : s.vm.findClass own = some m.cls) (hclink : (Cond.classLink own index "[[I").before args s = true) (harr : (Cond.arrayClass .int).before args s = true) (hover : va_AOA .int s) (E : ctE D cB cI cJ cQ N A s) (hP : va_P D vwCl (wf pre tl) H) (hD : va_D A (wf pre tl)) (hS : va_S A s.heap H locs)
    (hcells : cells + (1 + 36) ≤ R.cells) (hslots : slots + (36 + 36 * 64) ≤ R.slots) (hdg : decode cc pc = .ok (.multianewarray index 2, 4))
    (kk : ∀ (q : Nat) (r : Nat → Nat) (H1 : Heap), va_P D vwCl (wf (pre ++ [aQ q cQ r]) (tl ++ [rowsW cI r (fun _ _ => 0)])) H1 → va_D A (wf (pre ++ [aQ q cQ r]) (tl ++ [rowsW cI r (fun _ _ => 0)])) → va_S A s.heap H1 locs → W p l e R s m args below meth c H1 locs (cells + 1 + 36) (slots + 36 + 36 * 64) Q (F0 m (pc + 4) ls (.ref q :: rest))) : W p l e R s m args below meth c H locs cells slots Q (F0 m pc ls (.int 64 :: .int 36 :: rest)) := by
  have hcy : s.vm.findClass (FieldType.array .int).toString = some cI := (E.1.2 0 (cI, .int) rfl).2
  have hcQ : s.vm.findClass ("[" ++ (FieldType.array .int).toString) = some cQ := (E.1.2 3 (cQ, .array .int) rfl).2
  refine va_mna (X := wf pre tl) (L := []) (f := fun _ => .inl (cI, 64, .inl (fun _ => 0))) (N' := 36) (K' := 64) (z := (64, .inl (fun _ => 0))) hexec hb hown hclink hover harr hcy E.1 (by show va_P D vwCl (wf pre tl ++ []) H; rw [List.append_nil]; exact hP) (by show va_D A (wf pre tl ++ []); rw [List.append_nil]; exact hD) hS E.2.2.1 (by decide) (by decide) rfl rfl (by decide) (by decide) (by decide) rfl rfl hcells hslots (fun _ => rfl) hdg (fun q r cA H1 _ _ hK1 hP1 hD1 hS1 => ?_)
  have h2 : s.vm.findClass ("[" ++ (FieldType.array .int).toString) = some cA := (hK1.2 (TYS cB cI cJ cQ).length (cA, .array .int) (by rw [List.getElem?_append_right (Nat.le_refl _), Nat.sub_self]; rfl)).2
  cases Option.some.inj (hcQ.symm.trans h2)
  obtain ⟨rr, hrr⟩ : ∃ rr : Nat → Nat, ∀ i, rr (7 + i) = r i := ⟨fun k => r (k - 7), fun i => by show r (7 + i - 7) = r i; rw [Nat.add_sub_cancel_left]⟩
  have e1 : (fun i => if i < 36 then some (r i) else none) = (fun i => if i < 36 then some (rr (7 + i)) else none) := by
    funext i
    rw [hrr i]
  have e2 : va_pl ([] ++ (List.range 36).map r) (vr_up (fun _ => .inl (cI, 64, .inl (fun _ => 0))) ((List.range 36).map r) (.inl (cI, (64, .inl (fun _ => 0))))) = rowsW cI rr (fun _ _ => 0) := by
    rw [List.nil_append]
    unfold va_pl rowsW
    rw [List.map_map]
    refine List.map_congr_left (fun i hi => ?_)
    show (r i, vr_up _ _ _ (r i)) = _
    rw [vr_up_in (List.mem_map_of_mem hi), hrr i]
  rw [e1, e2] at hP1 hD1
  exact kk q rr H1 (va_P_perm (wf_pushR _ _ _ _) hP1) (va_D_perm (wf_pushR _ _ _ _) hD1) hS1
end CTF
section CTM
variable {p : Program} {l : Launch} {e : Env} {R : Room} {s : State} {m : MethodId} {args : Array Value} {below : List Frame} {meth : Method} {c : Code} {H : Heap} {locs : List Loc} {Q : State → Prop} {cells slots : Nat}
variable {cc : ByteArray} {pc : Nat} {ls : Array Slot} {rest : List Value} {D : va_G} {cB cI cJ cQ : ClassId} {N : Nat} {A : Nat → Prop}
/-- what the constructor of FilmBlocks leaves: the addresses by root and place -/
def ctQm (D : va_G) (h : Nat) (Wr : (Nat → Nat → Nat) → va_W) (A : Nat → Prop) : Array Value → State → Outcome → State → Prop := va_Qv (fun r : Nat → Nat → Nat => r 0 0 = h) (fun r t => va_P D vwCl (Wr r) t.heap ∧ va_D A (Wr r)) A
theorem ct_mret {h : Nat} {Wr : (Nat → Nat → Nat) → va_W} (r : Nat → Nat → Nat) (hr0 : r 0 0 = h) (hx : p.tables.exec = Jvm.exec) (hb : c.code = cc) (hr : meth.sig.returnType = none) (hlk : meth.locks = false) (hP : va_P D vwCl (Wr r) H) (hD : va_D A (Wr r)) (hS : va_S A s.heap H locs) (hdg : decode cc pc = .ok (.return_, 1)) : W p l e R s m args below meth c H locs cells slots (MQ below (ctQm D h Wr A) args s cells slots A) (F0 m pc ls []) :=
  W.vret hx hb hr (fun t ht hW => ⟨⟨r, rfl, hr0, by rw [ht]; exact hP, hD⟩, hS.F ht⟩) hS.2.2 hdg hlk
end CTM
