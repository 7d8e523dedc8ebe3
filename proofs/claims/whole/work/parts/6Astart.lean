/-! What the law's start gives. -/
theorem eqi_spec {t : Term} {k : Int32} {args : Array Value} {s : State} (h : (Cond.eq t (.int k)).before args s = true) : t.eval args s none [] s = some (.int k) := by
  simp only [Cond.before, Cond.holds, Cond.value, Term.eval] at h
  cases ht : t.eval args s none [] s with
  | none => simp [ht] at h
  | some v =>
    cases v <;> simp [ht] at h
    rw [h]
theorem ext_ref {t : Term} {cl : String} {args : Array Value} {s : State} (h : (Cond.exactly t cl).before args s = true) : ∃ a : Nat, t.eval args s none [] s = some (.ref a) := by
  simp only [Cond.before, Cond.holds, Cond.value] at h
  cases ht : t.eval args s none [] s with
  | none => simp [ht] at h
  | some v =>
    cases hf : s.vm.findClass cl <;> cases v <;> simp [ht, hf] at h <;> exact ⟨_, rfl⟩
theorem aoa_of {args : Array Value} {s : State} (h : (Cond.arrayOver (.array .int)).before args s = true) : va_AOA .int s := by
  unfold va_AOA
  simp only [Cond.before, Cond.holds, Cond.value] at h ⊢
  exact h
theorem len2 {args : Array Value} {first s : State} {o : Option Outcome} {idx : List Nat} {t : Term} {v : Value} (h : (Term.length t).eval args first o idx s = some v) : ∃ (a : Nat) (cell : Cell), t.eval args first o idx s = some (.ref a) ∧ s.arrayAt? a = some cell ∧ cell.slots.size < 2147483648 ∧ v = .int cell.slots.size.toInt32 := by
  obtain ⟨a, cell, h1, h2, h3⟩ := Term.length_spec h
  refine ⟨a, cell, h1, h2, ?_, h3⟩
  by_cases hn : cell.slots.size < 2147483648
  · exact hn
  · simp [Term.eval, h1, h2, hn] at h
theorem stA_of {args : Array Value} {s : State} {C n : String} {L : Nat} {f : Nat → Int32} (hL : L < 1000) (hlay : (Cond.laysStatic C n "[I").before args s = true) (hini : (Cond.initialized C).before args s = true) (harr : (Cond.arrayOf (.static C n "[I") .int).before args s = true) (hlen : (Cond.eq (.length (.static C n "[I")) (.int (Int32.ofNat L))).before args s = true) (hel : ∀ j, j < L → (Cond.eq (.elem (.static C n "[I") (.int (Int32.ofNat j))) (.int (f j))).before args s = true) : stA s.heap.size C n L f s := by
  obtain ⟨a, cell, h1, h2, hlt, h3⟩ := len2 (eqi_spec hlen)
  obtain ⟨hcb, hkn, -, -⟩ := State.arrayAt?_spec h2
  have hal : a < s.heap.size := (Array.getElem?_eq_some_iff.mp hcb).1
  have hsz : cell.slots.size = L := by
    injection h3 with e
    have e2 : (nI L).toInt = (nI cell.slots.size).toInt := congrArg Int32.toInt e
    rw [nI_toInt (by omega), nI_toInt (by omega)] at e2
    omega
  refine ⟨a, va_Zof hlay hini h1 (fun q hq h => absurd h (Nat.not_le.mpr hq)), hal, hal, cell, hcb, (Cond.arrayOf_spec harr h1 hcb).1, hkn, hsz, fun j hj => ?_⟩
  obtain ⟨a', j', cell', g1, g2, g3, -, g5⟩ := Term.elem_spec (eqi_spec (hel j hj))
  cases Option.some.inj (h1.symm.trans g1)
  cases Option.some.inj (h2.symm.trans g3)
  have g2 : some (Value.int (Int32.ofNat j)) = some (Value.int j') := g2
  injection g2 with g2
  injection g2 with g2
  subst g2
  rw [show (Int32.ofNat j).toNatClampNeg = j from nI_clamp (n := j) (by omega)] at g5
  exact g5
def elw (C n : String) (f : Nat → Int32) (j : Nat) : Cond := Cond.eq (.elem (.static C n "[I") (.int (Int32.ofNat j))) (.int (f j))
theorem hel_of {args : Array Value} {s : State} {C n : String} {L : Nat} {f : Nat → Int32} (T : Cond) (k : Nat) (hT : T.before args s = true) (e : ((flatC T).drop k).take L = (List.range L).map (elw C n f)) : ∀ j, j < L → (elw C n f j).before args s = true := fun j hj => flat_of_before T hT _ (List.mem_of_mem_drop (List.mem_of_mem_take (by rw [e]; exact List.mem_map_of_mem (List.mem_range.mpr hj))))
def GV : Cond := Cond.and given_1 narrow_1
theorem nest_in : ∀ w ∈ nestW, w ∈ lw_tbl := by decide +kernel
theorem nest_tab : ∀ w ∈ nestW, w.onTables = true := by decide +kernel
theorem at_ENDING {args : Array Value} {s : State} (ht : ∀ w ∈ lw_tbl, w.before args s = true) (hg : GV.before args s = true) : stA s.heap.size RX0 "ENDING" 5 sENDING s := stA_of (by decide) (ht _ (by decide +kernel)) (ht _ (by decide +kernel)) (flat_of_before _ hg _ (List.mem_of_getElem? (i := 57) (by decide +kernel))) (flat_of_before _ hg _ (List.mem_of_getElem? (i := 58) (by decide +kernel))) (hel_of GV 59 hg (by decide +kernel))
theorem at_ENDING_BITS {args : Array Value} {s : State} (ht : ∀ w ∈ lw_tbl, w.before args s = true) (hg : GV.before args s = true) : stA s.heap.size RX0 "ENDING_BITS" 5 sENDING_BITS s := stA_of (by decide) (ht _ (by decide +kernel)) (ht _ (by decide +kernel)) (flat_of_before _ hg _ (List.mem_of_getElem? (i := 65) (by decide +kernel))) (flat_of_before _ hg _ (List.mem_of_getElem? (i := 66) (by decide +kernel))) (hel_of GV 67 hg (by decide +kernel))
theorem at_PASSED {args : Array Value} {s : State} (ht : ∀ w ∈ lw_tbl, w.before args s = true) (hg : GV.before args s = true) : stA s.heap.size RX0 "PASSED" 32 sPASSED s := stA_of (by decide) (ht _ (by decide +kernel)) (ht _ (by decide +kernel)) (flat_of_before _ hg _ (List.mem_of_getElem? (i := 143) (by decide +kernel))) (flat_of_before _ hg _ (List.mem_of_getElem? (i := 144) (by decide +kernel))) (hel_of GV 145 hg (by decide +kernel))
theorem at_PASSED_BITS {args : Array Value} {s : State} (ht : ∀ w ∈ lw_tbl, w.before args s = true) (hg : GV.before args s = true) : stA s.heap.size RX0 "PASSED_BITS" 32 sPASSED_BITS s := stA_of (by decide) (ht _ (by decide +kernel)) (ht _ (by decide +kernel)) (flat_of_before _ hg _ (List.mem_of_getElem? (i := 178) (by decide +kernel))) (flat_of_before _ hg _ (List.mem_of_getElem? (i := 179) (by decide +kernel))) (hel_of GV 180 hg (by decide +kernel))
theorem at_NUMBER {args : Array Value} {s : State} (ht : ∀ w ∈ lw_tbl, w.before args s = true) (hg : GV.before args s = true) : stA s.heap.size RX0 "NUMBER" 32 sNUMBER s := stA_of (by decide) (ht _ (by decide +kernel)) (ht _ (by decide +kernel)) (flat_of_before _ hg _ (List.mem_of_getElem? (i := 73) (by decide +kernel))) (flat_of_before _ hg _ (List.mem_of_getElem? (i := 74) (by decide +kernel))) (hel_of GV 75 hg (by decide +kernel))
theorem at_NUMBER_BITS {args : Array Value} {s : State} (ht : ∀ w ∈ lw_tbl, w.before args s = true) (hg : GV.before args s = true) : stA s.heap.size RX0 "NUMBER_BITS" 32 sNUMBER_BITS s := stA_of (by decide) (ht _ (by decide +kernel)) (ht _ (by decide +kernel)) (flat_of_before _ hg _ (List.mem_of_getElem? (i := 108) (by decide +kernel))) (flat_of_before _ hg _ (List.mem_of_getElem? (i := 109) (by decide +kernel))) (hel_of GV 110 hg (by decide +kernel))
theorem at_COLUMNS_IN_SQUARE {args : Array Value} {s : State} (ht : ∀ w ∈ lw_tbl, w.before args s = true) (hg : GV.before args s = true) : stA s.heap.size RX1 "COLUMNS_IN_SQUARE" 16 sCOLUMNS_IN_SQUARE s := stA_of (by decide) (ht _ (by decide +kernel)) (ht _ (by decide +kernel)) (flat_of_before _ hg _ (List.mem_of_getElem? (i := 17) (by decide +kernel))) (flat_of_before _ hg _ (List.mem_of_getElem? (i := 18) (by decide +kernel))) (hel_of GV 19 hg (by decide +kernel))
theorem at_ROWS_IN_SQUARE {args : Array Value} {s : State} (ht : ∀ w ∈ lw_tbl, w.before args s = true) (hg : GV.before args s = true) : stA s.heap.size RX1 "ROWS_IN_SQUARE" 16 sROWS_IN_SQUARE s := stA_of (by decide) (ht _ (by decide +kernel)) (ht _ (by decide +kernel)) (flat_of_before _ hg _ (List.mem_of_getElem? (i := 36) (by decide +kernel))) (flat_of_before _ hg _ (List.mem_of_getElem? (i := 37) (by decide +kernel))) (hel_of GV 38 hg (by decide +kernel))
theorem at_WAVES {args : Array Value} {s : State} (ht : ∀ w ∈ lw_tbl, w.before args s = true) (hg : GV.before args s = true) : stA s.heap.size RX2 "WAVES" 9 sWAVES s := stA_of (by decide) (ht _ (by decide +kernel)) (ht _ (by decide +kernel)) (flat_of_before _ hg _ (List.mem_of_getElem? (i := 5) (by decide +kernel))) (flat_of_before _ hg _ (List.mem_of_getElem? (i := 6) (by decide +kernel))) (hel_of GV 7 hg (by decide +kernel))
theorem GB_start {args : Array Value} {s : State} (ht : ∀ w ∈ lw_tbl, w.before args s = true) (hg : GV.before args s = true) : GB s.heap.size s := ⟨fun w hw => va_Nw.of (nest_tab w hw) (ht w (nest_in w hw)), at_ENDING ht hg, at_ENDING_BITS ht hg, at_PASSED ht hg, at_PASSED_BITS ht hg, at_NUMBER ht hg, at_NUMBER_BITS ht hg, at_COLUMNS_IN_SQUARE ht hg, at_ROWS_IN_SQUARE ht hg, at_WAVES ht hg, aoa_of (ht (.arrayOver (.array .int)) (by decide +kernel))⟩
theorem kn_start {args : Array Value} {s : State} (ht : ∀ w ∈ lw_tbl, w.before args s = true) : ∀ k : Nat, ∃ (cC : ClassId) (iS : Nat → Nat), ∀ q : vw_C, vwCl[k]? = some q → u_Kn s q.1 q.2.1 q.2.2 cC iS := by
  intro k
  rcases (show k = 0 ∨ k = 1 ∨ k = 2 ∨ k = 3 ∨ k = 4 ∨ k = 5 ∨ k = 6 ∨ k = 7 ∨ 8 ≤ k by omega) with rfl | rfl | rfl | rfl | rfl | rfl | rfl | rfl | h8
  · obtain ⟨cC, iS, h⟩ := u_known (C := RX0) (T := TX0) (N := 12) (n := 12) ht inX0 (ht _ (by decide +kernel))
    refine ⟨cC, iS, fun q hq => ?_⟩
    obtain rfl := Option.some.inj hq
    exact h
  · obtain ⟨cC, iS, h⟩ := u_known (C := RX1) (T := TX1) (N := 8) (n := 8) ht inX1 (ht _ (by decide +kernel))
    refine ⟨cC, iS, fun q hq => ?_⟩
    obtain rfl := Option.some.inj hq
    exact h
  · obtain ⟨cC, iS, h⟩ := u_known (C := RX2) (T := TX2) (N := 5) (n := 5) ht inX2 (ht _ (by decide +kernel))
    refine ⟨cC, iS, fun q hq => ?_⟩
    obtain rfl := Option.some.inj hq
    exact h
  · obtain ⟨cC, iS, h⟩ := u_known (C := RX3) (T := TX3) (N := 3) (n := 3) ht inX3 (ht _ (by decide +kernel))
    refine ⟨cC, iS, fun q hq => ?_⟩
    obtain rfl := Option.some.inj hq
    exact h
  · obtain ⟨cC, iS, h⟩ := u_known (C := RX4) (T := TX4) (N := 4) (n := 4) ht inX4 (ht _ (by decide +kernel))
    refine ⟨cC, iS, fun q hq => ?_⟩
    obtain rfl := Option.some.inj hq
    exact h
  · obtain ⟨cC, iS, h⟩ := u_known (C := RX5) (T := TX5) (N := 4) (n := 4) ht inX5 (ht _ (by decide +kernel))
    refine ⟨cC, iS, fun q hq => ?_⟩
    obtain rfl := Option.some.inj hq
    exact h
  · obtain ⟨cC, iS, h⟩ := u_known (C := RX6) (T := TX6) (N := 12) (n := 12) ht inX6 (ht _ (by decide +kernel))
    refine ⟨cC, iS, fun q hq => ?_⟩
    obtain rfl := Option.some.inj hq
    exact h
  · obtain ⟨cC, iS, h⟩ := u_known (C := RX7) (T := TX7) (N := 42) (n := 42) ht inX7 (ht _ (by decide +kernel))
    refine ⟨cC, iS, fun q hq => ?_⟩
    obtain rfl := Option.some.inj hq
    exact h
  · refine ⟨default, fun _ => 0, fun q hq => ?_⟩
    rw [List.getElem?_eq_none (show vwCl.length ≤ k from h8)] at hq
    cases hq
theorem arr_start {args : Array Value} {s : State} {ty : FieldType} (h : (Cond.arrayClass ty).before args s = true) : ∃ c : ClassId, ArrOfT s c ty ∧ s.vm.findClass ("[" ++ ty.toString) = some c := by
  obtain ⟨c, k, comp, h1, h2, h3⟩ := Cond.arrayClass_spec h
  exact ⟨c, fun N z => ⟨(fun q h => by cases h), k, h2, comp, h3⟩, h1⟩
theorem over_start {args : Array Value} {s : State} (h : (Cond.arrayOver (.array .int)).before args s = true) : ∃ c : ClassId, ArrOfT s c (.array .int) ∧ s.vm.findClass ("[" ++ (FieldType.array .int).toString) = some c := by
  simp only [Cond.before, Cond.holds, Cond.value] at h
  have h := eq_of_beq h
  obtain ⟨comp, -, h⟩ := Option.bind_eq_some_iff.mp h
  obtain ⟨c, -, h⟩ := Option.bind_eq_some_iff.mp h
  obtain ⟨k, h3, h⟩ := Option.map_eq_some_iff.mp h
  cases hk : k.kind with
  | array cc ty =>
    simp only [hk, Bool.and_eq_true, decide_eq_true_eq] at h
    obtain ⟨rfl, h4⟩ := h
    exact ⟨c, fun N z => ⟨(fun q h => by cases h), k, h3, cc, hk⟩, h4⟩
  | _ => simp [hk] at h
theorem K_start {args : Array Value} {s : State} (ht : ∀ w ∈ lw_tbl, w.before args s = true) : ∃ (D : va_G) (cB cI cJ cQ : ClassId), va_K D vwCl (TYS cB cI cJ cQ) s := by
  obtain ⟨cI, a1, b1⟩ := arr_start (ty := .int) (ht _ (by decide +kernel))
  obtain ⟨cB, a2, b2⟩ := arr_start (ty := .byte) (ht _ (by decide +kernel))
  obtain ⟨cJ, a3, b3⟩ := arr_start (ty := .long) (ht _ (by decide +kernel))
  obtain ⟨cQ, a4, b4⟩ := over_start (ht _ (by decide +kernel))
  refine ⟨(fun k => Classical.choose (kn_start ht k), fun k => Classical.choose (Classical.choose_spec (kn_start ht k))), cB, cI, cJ, cQ, fun k q hq => Classical.choose_spec (Classical.choose_spec (kn_start ht k)) q hq, fun k q hq => ?_⟩
  rcases (show k = 0 ∨ k = 1 ∨ k = 2 ∨ k = 3 ∨ 4 ≤ k by omega) with rfl | rfl | rfl | rfl | h4
  · obtain rfl := Option.some.inj hq
    exact ⟨a1, b1⟩
  · obtain rfl := Option.some.inj hq
    exact ⟨a2, b2⟩
  · obtain rfl := Option.some.inj hq
    exact ⟨a3, b3⟩
  · obtain rfl := Option.some.inj hq
    exact ⟨a4, b4⟩
  · rw [List.getElem?_eq_none (show (TYS cB cI cJ cQ).length ≤ k from h4)] at hq
    cases hq
theorem str_start {args : Array Value} {s : State} {k : Nat} {tx : String} (h1 : (Cond.stringRef RX6 k tx).before args s = true) (h2 : (Cond.exactly (.string RX6 k) "java/lang/String").before args s = true) : ∃ a, vk_R RX6 k tx a s := by
  obtain ⟨a, h⟩ := ext_ref h2
  exact ⟨a, vk_R.of h1 h⟩
theorem GX_start {args : Array Value} {s : State} (ht : ∀ w ∈ lw_tbl, w.before args s = true) (hg : GV.before args s = true) : GX s.heap.size s := by
  have hA : ∀ a : Nat, a < s.heap.size → ¬ (fun q => s.heap.size ≤ q) a := fun a h h2 => absurd h2 (Nat.not_le.mpr h)
  exact ⟨str_start (ht _ (by decide +kernel)) (flat_of_before _ hg _ (List.mem_of_getElem? (i := 242) (by decide +kernel))), str_start (ht _ (by decide +kernel)) (flat_of_before _ hg _ (List.mem_of_getElem? (i := 286) (by decide +kernel))), str_start (ht _ (by decide +kernel)) (flat_of_before _ hg _ (List.mem_of_getElem? (i := 318) (by decide +kernel))), str_start (ht _ (by decide +kernel)) (flat_of_before _ hg _ (List.mem_of_getElem? (i := 342) (by decide +kernel))), str_start (ht _ (by decide +kernel)) (flat_of_before _ hg _ (List.mem_of_getElem? (i := 370) (by decide +kernel))), str_start (ht _ (by decide +kernel)) (flat_of_before _ hg _ (List.mem_of_getElem? (i := 397) (by decide +kernel))), str_start (ht _ (by decide +kernel)) (flat_of_before _ hg _ (List.mem_of_getElem? (i := 435) (by decide +kernel))), str_start (ht _ (by decide +kernel)) (flat_of_before _ hg _ (List.mem_of_getElem? (i := 474) (by decide +kernel))), vx_Zqof (ht _ (by decide +kernel)) (ht _ (by decide +kernel)) (flat_of_before _ hg _ (List.mem_of_getElem? (i := 54) (by decide +kernel))) hA, vx_Zqof (ht _ (by decide +kernel)) (ht _ (by decide +kernel)) (flat_of_before _ hg _ (List.mem_of_getElem? (i := 55) (by decide +kernel))) hA, va_Nw.of rfl (ht _ (by decide +kernel)), va_Nw.of rfl (ht _ (by decide +kernel)), va_Nw.of rfl (ht _ (by decide +kernel)), va_Nc.of (flat_of_before _ hg _ (List.mem_of_getElem? (i := 220) (by decide +kernel))), va_Nc.of (flat_of_before _ hg _ (List.mem_of_getElem? (i := 221) (by decide +kernel))), va_Nc.of (flat_of_before _ hg _ (List.mem_of_getElem? (i := 241) (by decide +kernel))), va_Nw.of rfl (ht _ (by decide +kernel)), va_Nw.of rfl (ht _ (by decide +kernel)), va_Nw.of rfl (ht _ (by decide +kernel))⟩
