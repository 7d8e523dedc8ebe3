/-! The pure side, 10: what a token does (written by wip/pure/gen38.py). -/
theorem fail_ex {f : Nat} (a : Nat) (ha : 0 < a) (ha6 : a ≤ 6) (hf : f ≤ 6) : ∃ g : Nat, g ≤ 6 ∧ g ≠ 0 ∧ (f ≠ 0 → g = f) ∧ f_X4_fail (nI a) (nI f) = some (nI g) ∧ f_X7_fail (nI a) (nI f) = some (nI g) := by
  by_cases c : f = 0
  · subst c
    exact ⟨a, ha6, by omega, fun h => absurd rfl h, X4_fail_0 a, X7_fail_0 a⟩
  · exact ⟨f, hf, c, fun _ => rfl, X4_fail_1 c (by omega), X7_fail_1 c (by omega)⟩
theorem neg1_mul (x : Int32) : -nI 1 * x = -x := by
  rw [Int32.neg_mul]
  congr 1
  exact Int32.one_mul x
theorem one_mul9 (x : Int32) : nI 1 * x = x := Int32.one_mul x
theorem ineg_f {a : Nat} (h0 : 0 < a) (h : a < 2147483648) : (-nI a = nI 0) = False := eq_false (fun e => by
  have h1 : nI a = nI 0 := by
    have := congrArg (fun x : Int32 => -x) e
    simp only [Int32.neg_neg] at this
    rw [this]; rfl
  have := (nI_eq h (by omega)).mp h1
  omega)
theorem add0_9 (x : Int32) : x + nI 0 = x := Int32.add_zero x
theorem sm_p {m a : Nat} (h : a ≤ m) : sm m (nI a) := ⟨a, h, Or.inl rfl⟩
theorem sm_n {m a : Nat} (h : a ≤ m) : sm m (-nI a) := ⟨a, h, Or.inr rfl⟩
/-- what a token behind 4 does: some places are passed over, or a number comes -/
def TE (bc bm q : Nat) (cp mp : Nat → Int32) (cg : Nat → Nat → Int32) (mn : Nat → Int32) (d : Nat) (cp' mp' : Nat → Int32) (cg' : Nat → Nat → Int32) (mn' : Nat → Int32) (d' : Nat) : Prop :=
  ∃ q' : Nat, q < q' ∧ q' ≤ 64 ∧ cp' = upd cp bc (nI q') ∧ mp' bm = nI q' ∧ (∀ j, j ≠ bm → mp' j = mp j) ∧ (d' = d ∨ d' = 0) ∧
    ((cg' = cg ∧ mn' = mn) ∨ ∃ (u : Nat) (v : Int32), u < 64 ∧ sm 612 v ∧ cg' = updM cg bc u v ∧ mn' = upd mn (64 * bm + u) v)
def TR (t sz p f bc bm q d : Nat) (B cp mp mn : Nat → Int32) (cg : Nat → Nat → Int32) : Prop :=
  ∃ (p' f' d' : Nat) (cp' mp' mn' : Nat → Int32) (cg' : Nat → Nat → Int32), p' ≤ 8 * sz ∧ f' ≤ 6 ∧ (f ≠ 0 → p' = p ∧ f' = f) ∧ f_X0_readNumber (nI t) (nI bc) cp cg (nI sz) (nI p) (nI f) B = some (cp', cg', nI p', nI f') ∧ f_X7_take (nI bm) (nI t) (nI sz) (nI p) (nI f) (nI d) B mp mn = some (nI p', nI f', nI d', mp', mn') ∧ d' ≤ d ∧ (f' = 0 → TE bc bm q cp mp cg mn d cp' mp' cg' mn' d' ∧ (d = 0 → d' = 0))
theorem tb_5 : sNUMBER 5 = nI 0 ∧ sNUMBER_BITS 5 = nI 0 ∧ sPASSED 5 = nI 1 ∧ sPASSED_BITS 5 = nI 3 := by decide +kernel
theorem tb_6 : sNUMBER 6 = nI 0 ∧ sNUMBER_BITS 6 = nI 0 ∧ sPASSED 6 = nI 9 ∧ sPASSED_BITS 6 = nI 6 := by decide +kernel
theorem tb_7 : sNUMBER 7 = nI 1 ∧ sNUMBER_BITS 7 = nI 0 ∧ sPASSED 7 = nI 0 ∧ sPASSED_BITS 7 = nI 0 := by decide +kernel
theorem tb_8 : sNUMBER 8 = -nI 1 ∧ sNUMBER_BITS 8 = nI 0 ∧ sPASSED 8 = nI 0 ∧ sPASSED_BITS 8 = nI 0 := by decide +kernel
theorem tb_9 : sNUMBER 9 = nI 2 ∧ sNUMBER_BITS 9 = nI 0 ∧ sPASSED 9 = nI 0 ∧ sPASSED_BITS 9 = nI 0 := by decide +kernel
theorem tb_10 : sNUMBER 10 = -nI 2 ∧ sNUMBER_BITS 10 = nI 0 ∧ sPASSED 10 = nI 0 ∧ sPASSED_BITS 10 = nI 0 := by decide +kernel
theorem tb_11 : sNUMBER 11 = nI 3 ∧ sNUMBER_BITS 11 = nI 0 ∧ sPASSED 11 = nI 0 ∧ sPASSED_BITS 11 = nI 0 := by decide +kernel
theorem tb_12 : sNUMBER 12 = nI 4 ∧ sNUMBER_BITS 12 = nI 0 ∧ sPASSED 12 = nI 0 ∧ sPASSED_BITS 12 = nI 0 := by decide +kernel
theorem tb_13 : sNUMBER 13 = nI 5 ∧ sNUMBER_BITS 13 = nI 0 ∧ sPASSED 13 = nI 0 ∧ sPASSED_BITS 13 = nI 0 := by decide +kernel
theorem tb_14 : sNUMBER 14 = nI 6 ∧ sNUMBER_BITS 14 = nI 0 ∧ sPASSED 14 = nI 0 ∧ sPASSED_BITS 14 = nI 0 := by decide +kernel
theorem tb_15 : sNUMBER 15 = nI 7 ∧ sNUMBER_BITS 15 = nI 1 ∧ sPASSED 15 = nI 0 ∧ sPASSED_BITS 15 = nI 0 := by decide +kernel
theorem tb_16 : sNUMBER 16 = nI 9 ∧ sNUMBER_BITS 16 = nI 2 ∧ sPASSED 16 = nI 0 ∧ sPASSED_BITS 16 = nI 0 := by decide +kernel
theorem tb_17 : sNUMBER 17 = nI 13 ∧ sNUMBER_BITS 17 = nI 3 ∧ sPASSED 17 = nI 0 ∧ sPASSED_BITS 17 = nI 0 := by decide +kernel
theorem tb_18 : sNUMBER 18 = nI 21 ∧ sNUMBER_BITS 18 = nI 4 ∧ sPASSED 18 = nI 0 ∧ sPASSED_BITS 18 = nI 0 := by decide +kernel
theorem tb_19 : sNUMBER 19 = nI 37 ∧ sNUMBER_BITS 19 = nI 6 ∧ sPASSED 19 = nI 0 ∧ sPASSED_BITS 19 = nI 0 := by decide +kernel
theorem tb_20 : sNUMBER 20 = nI 101 ∧ sNUMBER_BITS 20 = nI 9 ∧ sPASSED 20 = nI 0 ∧ sPASSED_BITS 20 = nI 0 := by decide +kernel
theorem tb_21 : sNUMBER 21 = nI 1 ∧ sNUMBER_BITS 21 = nI 0 ∧ sPASSED 21 = nI 1 ∧ sPASSED_BITS 21 = nI 0 := by decide +kernel
theorem tb_22 : sNUMBER 22 = nI 1 ∧ sNUMBER_BITS 22 = nI 0 ∧ sPASSED 22 = nI 2 ∧ sPASSED_BITS 22 = nI 0 := by decide +kernel
theorem tb_23 : sNUMBER 23 = nI 1 ∧ sNUMBER_BITS 23 = nI 0 ∧ sPASSED 23 = nI 3 ∧ sPASSED_BITS 23 = nI 0 := by decide +kernel
theorem tb_24 : sNUMBER 24 = nI 1 ∧ sNUMBER_BITS 24 = nI 0 ∧ sPASSED 24 = nI 4 ∧ sPASSED_BITS 24 = nI 0 := by decide +kernel
theorem tb_25 : sNUMBER 25 = nI 1 ∧ sNUMBER_BITS 25 = nI 0 ∧ sPASSED 25 = nI 5 ∧ sPASSED_BITS 25 = nI 0 := by decide +kernel
theorem tb_26 : sNUMBER 26 = nI 1 ∧ sNUMBER_BITS 26 = nI 0 ∧ sPASSED 26 = nI 6 ∧ sPASSED_BITS 26 = nI 2 := by decide +kernel
theorem tb_27 : sNUMBER 27 = nI 1 ∧ sNUMBER_BITS 27 = nI 0 ∧ sPASSED 27 = nI 10 ∧ sPASSED_BITS 27 = nI 3 := by decide +kernel
theorem tb_28 : sNUMBER 28 = nI 2 ∧ sNUMBER_BITS 28 = nI 1 ∧ sPASSED 28 = nI 1 ∧ sPASSED_BITS 28 = nI 0 := by decide +kernel
theorem tb_29 : sNUMBER 29 = nI 2 ∧ sNUMBER_BITS 29 = nI 1 ∧ sPASSED 29 = nI 2 ∧ sPASSED_BITS 29 = nI 1 := by decide +kernel
theorem tb_30 : sNUMBER 30 = nI 1 ∧ sNUMBER_BITS 30 = nI 0 ∧ sPASSED 30 = nI 0 ∧ sPASSED_BITS 30 = nI 0 := by decide +kernel
theorem tb_31 : sNUMBER 31 = -nI 1 ∧ sNUMBER_BITS 31 = nI 0 ∧ sPASSED 31 = nI 0 ∧ sPASSED_BITS 31 = nI 0 := by decide +kernel
theorem tk_5 {sz p f bc bm q d : Nat} {B cp mp mn : Nat → Int32} {cg : Nat → Nat → Int32} (hs : sz ≤ 6000) (hp : p ≤ 8 * sz) (hf : f ≤ 6) (hbc : bc < 36) (hbm : bm < 36) (hq : q < 64) (h1 : cp bc = nI q) (h2 : mp bm = nI q) : TR 5 sz p f bc bm q d B cp mp mn cg := by
  obtain ⟨ta, tb, tc, td⟩ := tb_5
  obtain ⟨pv, p3, f3, hpv, hp3, hf3, hz3, e43, e73⟩ := bits_ex (N := 3) B hs hp hf (by omega)
  have hpv : pv < 8 := hpv
  have hz : f ≠ 0 → p3 = p ∧ f3 = f := by
    intro h9
    have a3 := hz3 h9
    omega
  by_cases c : q + 1 + pv ≤ 64
  · refine ⟨p3, f3, d, upd cp bc (nI (q + 1 + pv)), upd mp bm (nI (q + (1 + pv))), mn, cg, hp3, hf3, hz, ?_, ?_, by omega, fun _ => ⟨⟨q + 1 + pv, by omega, c, rfl, by rw [pk_us, show q + (1 + pv) = q + 1 + pv by omega], fun j hj => pk_un hj, Or.inl rfl, Or.inl ⟨rfl, rfl⟩⟩, fun h => h⟩⟩
    · unfold f_X0_readNumber f_X0_goTo
      simp (disch := omega) only [lit, pk_mul, nI_add, ni_sub, ni_div, ni_rem, ni_cl, ni_pred, nmod, ↓reduceIte, ile_t, ile_f, ilt_t, ilt_f, ieq_t, ieq_f, if_true_n, if_false_n, gi_n, nm_n, jn_n, bd1_n, bd2_n, bd3_n, bd4_n, bd5_n, bd6_n, ta, tb, tc, td, h1, num0, e43, neg1_mul, one_mul9, add0_9, Int32.neg_neg]
    · unfold f_X7_take f_X7_pass
      simp (disch := omega) only [lit, pk_mul, nI_add, ni_sub, ni_div, ni_rem, ni_cl, ni_pred, nmod, ↓reduceIte, ile_t, ile_f, ilt_t, ilt_f, ieq_t, ieq_f, if_true_n, if_false_n, gi_n, nm_n, jn_n, bd1_n, bd2_n, bd3_n, bd4_n, bd5_n, bd6_n, h2, pk_us, e73, neg1_mul, one_mul9, add0_9, Int32.neg_neg]
  · obtain ⟨g, hg6, hg0, hgf, e4g, e7g⟩ := fail_ex (f := f3) 6 (by omega) (by omega) hf3
    refine ⟨p3, g, d, upd cp bc (nI (q + 1 + pv)), upd mp bm (nI (q + (1 + pv))), mn, cg, hp3, hg6, fun h9 => ⟨(hz h9).1, by have a1 := (hz h9).2; have a2 := hgf (by omega); omega⟩, ?_, ?_, by omega, fun h => absurd h hg0⟩
    · unfold f_X0_readNumber f_X0_goTo
      simp (disch := omega) only [lit, pk_mul, nI_add, ni_sub, ni_div, ni_rem, ni_cl, ni_pred, nmod, ↓reduceIte, ile_t, ile_f, ilt_t, ilt_f, ieq_t, ieq_f, if_true_n, if_false_n, gi_n, nm_n, jn_n, bd1_n, bd2_n, bd3_n, bd4_n, bd5_n, bd6_n, ta, tb, tc, td, h1, num0, e43, neg1_mul, one_mul9, add0_9, Int32.neg_neg, e4g]
    · unfold f_X7_take f_X7_pass
      simp (disch := omega) only [lit, pk_mul, nI_add, ni_sub, ni_div, ni_rem, ni_cl, ni_pred, nmod, ↓reduceIte, ile_t, ile_f, ilt_t, ilt_f, ieq_t, ieq_f, if_true_n, if_false_n, gi_n, nm_n, jn_n, bd1_n, bd2_n, bd3_n, bd4_n, bd5_n, bd6_n, h2, pk_us, e73, neg1_mul, one_mul9, add0_9, Int32.neg_neg, e7g]
theorem tk_6 {sz p f bc bm q d : Nat} {B cp mp mn : Nat → Int32} {cg : Nat → Nat → Int32} (hs : sz ≤ 6000) (hp : p ≤ 8 * sz) (hf : f ≤ 6) (hbc : bc < 36) (hbm : bm < 36) (hq : q < 64) (h1 : cp bc = nI q) (h2 : mp bm = nI q) : TR 6 sz p f bc bm q d B cp mp mn cg := by
  obtain ⟨ta, tb, tc, td⟩ := tb_6
  obtain ⟨pv, p3, f3, hpv, hp3, hf3, hz3, e43, e73⟩ := bits_ex (N := 6) B hs hp hf (by omega)
  have hpv : pv < 64 := hpv
  have hz : f ≠ 0 → p3 = p ∧ f3 = f := by
    intro h9
    have a3 := hz3 h9
    omega
  by_cases c : q + 9 + pv ≤ 64
  · refine ⟨p3, f3, d, upd cp bc (nI (q + 9 + pv)), upd mp bm (nI (q + (9 + pv))), mn, cg, hp3, hf3, hz, ?_, ?_, by omega, fun _ => ⟨⟨q + 9 + pv, by omega, c, rfl, by rw [pk_us, show q + (9 + pv) = q + 9 + pv by omega], fun j hj => pk_un hj, Or.inl rfl, Or.inl ⟨rfl, rfl⟩⟩, fun h => h⟩⟩
    · unfold f_X0_readNumber f_X0_goTo
      simp (disch := omega) only [lit, pk_mul, nI_add, ni_sub, ni_div, ni_rem, ni_cl, ni_pred, nmod, ↓reduceIte, ile_t, ile_f, ilt_t, ilt_f, ieq_t, ieq_f, if_true_n, if_false_n, gi_n, nm_n, jn_n, bd1_n, bd2_n, bd3_n, bd4_n, bd5_n, bd6_n, ta, tb, tc, td, h1, num0, e43, neg1_mul, one_mul9, add0_9, Int32.neg_neg]
    · unfold f_X7_take f_X7_pass
      simp (disch := omega) only [lit, pk_mul, nI_add, ni_sub, ni_div, ni_rem, ni_cl, ni_pred, nmod, ↓reduceIte, ile_t, ile_f, ilt_t, ilt_f, ieq_t, ieq_f, if_true_n, if_false_n, gi_n, nm_n, jn_n, bd1_n, bd2_n, bd3_n, bd4_n, bd5_n, bd6_n, h2, pk_us, e73, neg1_mul, one_mul9, add0_9, Int32.neg_neg]
  · obtain ⟨g, hg6, hg0, hgf, e4g, e7g⟩ := fail_ex (f := f3) 6 (by omega) (by omega) hf3
    refine ⟨p3, g, d, upd cp bc (nI (q + 9 + pv)), upd mp bm (nI (q + (9 + pv))), mn, cg, hp3, hg6, fun h9 => ⟨(hz h9).1, by have a1 := (hz h9).2; have a2 := hgf (by omega); omega⟩, ?_, ?_, by omega, fun h => absurd h hg0⟩
    · unfold f_X0_readNumber f_X0_goTo
      simp (disch := omega) only [lit, pk_mul, nI_add, ni_sub, ni_div, ni_rem, ni_cl, ni_pred, nmod, ↓reduceIte, ile_t, ile_f, ilt_t, ilt_f, ieq_t, ieq_f, if_true_n, if_false_n, gi_n, nm_n, jn_n, bd1_n, bd2_n, bd3_n, bd4_n, bd5_n, bd6_n, ta, tb, tc, td, h1, num0, e43, neg1_mul, one_mul9, add0_9, Int32.neg_neg, e4g]
    · unfold f_X7_take f_X7_pass
      simp (disch := omega) only [lit, pk_mul, nI_add, ni_sub, ni_div, ni_rem, ni_cl, ni_pred, nmod, ↓reduceIte, ile_t, ile_f, ilt_t, ilt_f, ieq_t, ieq_f, if_true_n, if_false_n, gi_n, nm_n, jn_n, bd1_n, bd2_n, bd3_n, bd4_n, bd5_n, bd6_n, h2, pk_us, e73, neg1_mul, one_mul9, add0_9, Int32.neg_neg, e7g]
theorem tk_7 {sz p f bc bm q d : Nat} {B cp mp mn : Nat → Int32} {cg : Nat → Nat → Int32} (hs : sz ≤ 6000) (hp : p ≤ 8 * sz) (hf : f ≤ 6) (hbc : bc < 36) (hbm : bm < 36) (hq : q < 64) (h1 : cp bc = nI q) (h2 : mp bm = nI q) : TR 7 sz p f bc bm q d B cp mp mn cg := by
  obtain ⟨ta, tb, tc, td⟩ := tb_7
  have hz : f ≠ 0 → p = p ∧ f = f := fun _ => ⟨rfl, rfl⟩
  refine ⟨p, f, d, upd cp bc (nI (q + 1)), upd mp bm (nI (q + 1)), upd mn (64 * bm + q) (nI (1)), updM cg bc (q) (nI (1)), hp, hf, hz, ?_, ?_, by omega, fun _ => ⟨⟨(q + 1), by omega, by omega, rfl, ?_, fun j hj => ?_, Or.inl rfl, Or.inr ⟨(q), _, by omega, sm_p (show 1 ≤ 612 by omega), rfl, ?_⟩⟩, fun h => h⟩⟩
  · unfold f_X0_readNumber f_X0_goTo
    simp (disch := omega) only [lit, pk_mul, nI_add, ni_sub, ni_div, ni_rem, ni_cl, ni_pred, nmod, ↓reduceIte, ile_t, ile_f, ilt_t, ilt_f, ieq_t, ieq_f, if_true_n, if_false_n, gi_n, nm_n, jn_n, bd1_n, bd2_n, bd3_n, bd4_n, bd5_n, bd6_n, ta, tb, tc, td, h1, num0, neg1_mul, one_mul9, add0_9, Int32.neg_neg, ineg_f]
  · unfold f_X7_take f_X7_pass f_X7_put f_X7_ends
    simp (disch := omega) only [lit, pk_mul, nI_add, ni_sub, ni_div, ni_rem, ni_cl, ni_pred, nmod, ↓reduceIte, ile_t, ile_f, ilt_t, ilt_f, ieq_t, ieq_f, if_true_n, if_false_n, gi_n, nm_n, jn_n, bd1_n, bd2_n, bd3_n, bd4_n, bd5_n, bd6_n, h2, pk_us, neg1_mul, one_mul9, add0_9, Int32.neg_neg]
  · rw [pk_us]
  · rw [pk_un hj]
  · rfl
theorem tk_8 {sz p f bc bm q d : Nat} {B cp mp mn : Nat → Int32} {cg : Nat → Nat → Int32} (hs : sz ≤ 6000) (hp : p ≤ 8 * sz) (hf : f ≤ 6) (hbc : bc < 36) (hbm : bm < 36) (hq : q < 64) (h1 : cp bc = nI q) (h2 : mp bm = nI q) : TR 8 sz p f bc bm q d B cp mp mn cg := by
  obtain ⟨ta, tb, tc, td⟩ := tb_8
  have hz : f ≠ 0 → p = p ∧ f = f := fun _ => ⟨rfl, rfl⟩
  refine ⟨p, f, d, upd cp bc (nI (q + 1)), upd mp bm (nI (q + 1)), upd mn (64 * bm + q) (-nI (1)), updM cg bc (q) (-nI (1)), hp, hf, hz, ?_, ?_, by omega, fun _ => ⟨⟨(q + 1), by omega, by omega, rfl, ?_, fun j hj => ?_, Or.inl rfl, Or.inr ⟨(q), _, by omega, sm_n (show 1 ≤ 612 by omega), rfl, ?_⟩⟩, fun h => h⟩⟩
  · unfold f_X0_readNumber f_X0_goTo
    simp (disch := omega) only [lit, pk_mul, nI_add, ni_sub, ni_div, ni_rem, ni_cl, ni_pred, nmod, ↓reduceIte, ile_t, ile_f, ilt_t, ilt_f, ieq_t, ieq_f, if_true_n, if_false_n, gi_n, nm_n, jn_n, bd1_n, bd2_n, bd3_n, bd4_n, bd5_n, bd6_n, ta, tb, tc, td, h1, num0, neg1_mul, one_mul9, add0_9, Int32.neg_neg, ineg_f]
  · unfold f_X7_take f_X7_pass f_X7_put f_X7_ends
    simp (disch := omega) only [lit, pk_mul, nI_add, ni_sub, ni_div, ni_rem, ni_cl, ni_pred, nmod, ↓reduceIte, ile_t, ile_f, ilt_t, ilt_f, ieq_t, ieq_f, if_true_n, if_false_n, gi_n, nm_n, jn_n, bd1_n, bd2_n, bd3_n, bd4_n, bd5_n, bd6_n, h2, pk_us, neg1_mul, one_mul9, add0_9, Int32.neg_neg]
  · rw [pk_us]
  · rw [pk_un hj]
  · rfl
theorem tk_9 {sz p f bc bm q d : Nat} {B cp mp mn : Nat → Int32} {cg : Nat → Nat → Int32} (hs : sz ≤ 6000) (hp : p ≤ 8 * sz) (hf : f ≤ 6) (hbc : bc < 36) (hbm : bm < 36) (hq : q < 64) (h1 : cp bc = nI q) (h2 : mp bm = nI q) : TR 9 sz p f bc bm q d B cp mp mn cg := by
  obtain ⟨ta, tb, tc, td⟩ := tb_9
  have hz : f ≠ 0 → p = p ∧ f = f := fun _ => ⟨rfl, rfl⟩
  refine ⟨p, f, d, upd cp bc (nI (q + 1)), upd mp bm (nI (q + 1)), upd mn (64 * bm + q) (nI (2)), updM cg bc (q) (nI (2)), hp, hf, hz, ?_, ?_, by omega, fun _ => ⟨⟨(q + 1), by omega, by omega, rfl, ?_, fun j hj => ?_, Or.inl rfl, Or.inr ⟨(q), _, by omega, sm_p (show 2 ≤ 612 by omega), rfl, ?_⟩⟩, fun h => h⟩⟩
  · unfold f_X0_readNumber f_X0_goTo
    simp (disch := omega) only [lit, pk_mul, nI_add, ni_sub, ni_div, ni_rem, ni_cl, ni_pred, nmod, ↓reduceIte, ile_t, ile_f, ilt_t, ilt_f, ieq_t, ieq_f, if_true_n, if_false_n, gi_n, nm_n, jn_n, bd1_n, bd2_n, bd3_n, bd4_n, bd5_n, bd6_n, ta, tb, tc, td, h1, num0, neg1_mul, one_mul9, add0_9, Int32.neg_neg, ineg_f]
  · unfold f_X7_take f_X7_pass f_X7_put f_X7_ends
    simp (disch := omega) only [lit, pk_mul, nI_add, ni_sub, ni_div, ni_rem, ni_cl, ni_pred, nmod, ↓reduceIte, ile_t, ile_f, ilt_t, ilt_f, ieq_t, ieq_f, if_true_n, if_false_n, gi_n, nm_n, jn_n, bd1_n, bd2_n, bd3_n, bd4_n, bd5_n, bd6_n, h2, pk_us, neg1_mul, one_mul9, add0_9, Int32.neg_neg]
  · rw [pk_us]
  · rw [pk_un hj]
  · rfl
theorem tk_10 {sz p f bc bm q d : Nat} {B cp mp mn : Nat → Int32} {cg : Nat → Nat → Int32} (hs : sz ≤ 6000) (hp : p ≤ 8 * sz) (hf : f ≤ 6) (hbc : bc < 36) (hbm : bm < 36) (hq : q < 64) (h1 : cp bc = nI q) (h2 : mp bm = nI q) : TR 10 sz p f bc bm q d B cp mp mn cg := by
  obtain ⟨ta, tb, tc, td⟩ := tb_10
  have hz : f ≠ 0 → p = p ∧ f = f := fun _ => ⟨rfl, rfl⟩
  refine ⟨p, f, d, upd cp bc (nI (q + 1)), upd mp bm (nI (q + 1)), upd mn (64 * bm + q) (-nI (2)), updM cg bc (q) (-nI (2)), hp, hf, hz, ?_, ?_, by omega, fun _ => ⟨⟨(q + 1), by omega, by omega, rfl, ?_, fun j hj => ?_, Or.inl rfl, Or.inr ⟨(q), _, by omega, sm_n (show 2 ≤ 612 by omega), rfl, ?_⟩⟩, fun h => h⟩⟩
  · unfold f_X0_readNumber f_X0_goTo
    simp (disch := omega) only [lit, pk_mul, nI_add, ni_sub, ni_div, ni_rem, ni_cl, ni_pred, nmod, ↓reduceIte, ile_t, ile_f, ilt_t, ilt_f, ieq_t, ieq_f, if_true_n, if_false_n, gi_n, nm_n, jn_n, bd1_n, bd2_n, bd3_n, bd4_n, bd5_n, bd6_n, ta, tb, tc, td, h1, num0, neg1_mul, one_mul9, add0_9, Int32.neg_neg, ineg_f]
  · unfold f_X7_take f_X7_pass f_X7_put f_X7_ends
    simp (disch := omega) only [lit, pk_mul, nI_add, ni_sub, ni_div, ni_rem, ni_cl, ni_pred, nmod, ↓reduceIte, ile_t, ile_f, ilt_t, ilt_f, ieq_t, ieq_f, if_true_n, if_false_n, gi_n, nm_n, jn_n, bd1_n, bd2_n, bd3_n, bd4_n, bd5_n, bd6_n, h2, pk_us, neg1_mul, one_mul9, add0_9, Int32.neg_neg]
  · rw [pk_us]
  · rw [pk_un hj]
  · rfl
theorem tk_11 {sz p f bc bm q d : Nat} {B cp mp mn : Nat → Int32} {cg : Nat → Nat → Int32} (hs : sz ≤ 6000) (hp : p ≤ 8 * sz) (hf : f ≤ 6) (hbc : bc < 36) (hbm : bm < 36) (hq : q < 64) (h1 : cp bc = nI q) (h2 : mp bm = nI q) : TR 11 sz p f bc bm q d B cp mp mn cg := by
  obtain ⟨ta, tb, tc, td⟩ := tb_11
  obtain ⟨b1, p1, f1, hb1, hp1, hf1, hz1, hy1, e41, e71⟩ := bit_ex B hs hp hf
  have hz : f ≠ 0 → p1 = p ∧ f1 = f := by
    intro h9
    have a1 := hz1 h9
    omega
  by_cases cb : b1 = 1
  · skip
    refine ⟨p1, f1, d, upd cp bc (nI (q + 1)), upd mp bm (nI (q + 1)), upd mn (64 * bm + q) (-nI (3)), updM cg bc (q) (-nI (3)), hp1, hf1, hz, ?_, ?_, by omega, fun _ => ⟨⟨(q + 1), by omega, by omega, rfl, ?_, fun j hj => ?_, Or.inl rfl, Or.inr ⟨(q), _, by omega, sm_n (show 3 ≤ 612 by omega), rfl, ?_⟩⟩, fun h => h⟩⟩
    · unfold f_X0_readNumber f_X0_goTo
      simp (disch := omega) only [lit, pk_mul, nI_add, ni_sub, ni_div, ni_rem, ni_cl, ni_pred, nmod, ↓reduceIte, ile_t, ile_f, ilt_t, ilt_f, ieq_t, ieq_f, if_true_n, if_false_n, gi_n, nm_n, jn_n, bd1_n, bd2_n, bd3_n, bd4_n, bd5_n, bd6_n, ta, tb, tc, td, h1, num0, e41, neg1_mul, one_mul9, add0_9, Int32.neg_neg, ineg_f, cb]
    · unfold f_X7_take f_X7_takeSigned f_X7_pass f_X7_put f_X7_ends
      simp (disch := omega) only [lit, pk_mul, nI_add, ni_sub, ni_div, ni_rem, ni_cl, ni_pred, nmod, ↓reduceIte, ile_t, ile_f, ilt_t, ilt_f, ieq_t, ieq_f, if_true_n, if_false_n, gi_n, nm_n, jn_n, bd1_n, bd2_n, bd3_n, bd4_n, bd5_n, bd6_n, h2, pk_us, e71, neg1_mul, one_mul9, add0_9, Int32.neg_neg, cb]
    · rw [pk_us]
    · rw [pk_un hj]
    · rfl
  · skip
    refine ⟨p1, f1, d, upd cp bc (nI (q + 1)), upd mp bm (nI (q + 1)), upd mn (64 * bm + q) (nI (3)), updM cg bc (q) (nI (3)), hp1, hf1, hz, ?_, ?_, by omega, fun _ => ⟨⟨(q + 1), by omega, by omega, rfl, ?_, fun j hj => ?_, Or.inl rfl, Or.inr ⟨(q), _, by omega, sm_p (show 3 ≤ 612 by omega), rfl, ?_⟩⟩, fun h => h⟩⟩
    · unfold f_X0_readNumber f_X0_goTo
      simp (disch := omega) only [lit, pk_mul, nI_add, ni_sub, ni_div, ni_rem, ni_cl, ni_pred, nmod, ↓reduceIte, ile_t, ile_f, ilt_t, ilt_f, ieq_t, ieq_f, if_true_n, if_false_n, gi_n, nm_n, jn_n, bd1_n, bd2_n, bd3_n, bd4_n, bd5_n, bd6_n, ta, tb, tc, td, h1, num0, e41, neg1_mul, one_mul9, add0_9, Int32.neg_neg, ineg_f, cb]
    · unfold f_X7_take f_X7_takeSigned f_X7_pass f_X7_put f_X7_ends
      simp (disch := omega) only [lit, pk_mul, nI_add, ni_sub, ni_div, ni_rem, ni_cl, ni_pred, nmod, ↓reduceIte, ile_t, ile_f, ilt_t, ilt_f, ieq_t, ieq_f, if_true_n, if_false_n, gi_n, nm_n, jn_n, bd1_n, bd2_n, bd3_n, bd4_n, bd5_n, bd6_n, h2, pk_us, e71, neg1_mul, one_mul9, add0_9, Int32.neg_neg, cb]
    · rw [pk_us]
    · rw [pk_un hj]
    · rfl
theorem tk_12 {sz p f bc bm q d : Nat} {B cp mp mn : Nat → Int32} {cg : Nat → Nat → Int32} (hs : sz ≤ 6000) (hp : p ≤ 8 * sz) (hf : f ≤ 6) (hbc : bc < 36) (hbm : bm < 36) (hq : q < 64) (h1 : cp bc = nI q) (h2 : mp bm = nI q) : TR 12 sz p f bc bm q d B cp mp mn cg := by
  obtain ⟨ta, tb, tc, td⟩ := tb_12
  obtain ⟨b1, p1, f1, hb1, hp1, hf1, hz1, hy1, e41, e71⟩ := bit_ex B hs hp hf
  have hz : f ≠ 0 → p1 = p ∧ f1 = f := by
    intro h9
    have a1 := hz1 h9
    omega
  by_cases cb : b1 = 1
  · skip
    refine ⟨p1, f1, d, upd cp bc (nI (q + 1)), upd mp bm (nI (q + 1)), upd mn (64 * bm + q) (-nI (4)), updM cg bc (q) (-nI (4)), hp1, hf1, hz, ?_, ?_, by omega, fun _ => ⟨⟨(q + 1), by omega, by omega, rfl, ?_, fun j hj => ?_, Or.inl rfl, Or.inr ⟨(q), _, by omega, sm_n (show 4 ≤ 612 by omega), rfl, ?_⟩⟩, fun h => h⟩⟩
    · unfold f_X0_readNumber f_X0_goTo
      simp (disch := omega) only [lit, pk_mul, nI_add, ni_sub, ni_div, ni_rem, ni_cl, ni_pred, nmod, ↓reduceIte, ile_t, ile_f, ilt_t, ilt_f, ieq_t, ieq_f, if_true_n, if_false_n, gi_n, nm_n, jn_n, bd1_n, bd2_n, bd3_n, bd4_n, bd5_n, bd6_n, ta, tb, tc, td, h1, num0, e41, neg1_mul, one_mul9, add0_9, Int32.neg_neg, ineg_f, cb]
    · unfold f_X7_take f_X7_takeSigned f_X7_pass f_X7_put f_X7_ends
      simp (disch := omega) only [lit, pk_mul, nI_add, ni_sub, ni_div, ni_rem, ni_cl, ni_pred, nmod, ↓reduceIte, ile_t, ile_f, ilt_t, ilt_f, ieq_t, ieq_f, if_true_n, if_false_n, gi_n, nm_n, jn_n, bd1_n, bd2_n, bd3_n, bd4_n, bd5_n, bd6_n, h2, pk_us, e71, neg1_mul, one_mul9, add0_9, Int32.neg_neg, cb]
    · rw [pk_us]
    · rw [pk_un hj]
    · rfl
  · skip
    refine ⟨p1, f1, d, upd cp bc (nI (q + 1)), upd mp bm (nI (q + 1)), upd mn (64 * bm + q) (nI (4)), updM cg bc (q) (nI (4)), hp1, hf1, hz, ?_, ?_, by omega, fun _ => ⟨⟨(q + 1), by omega, by omega, rfl, ?_, fun j hj => ?_, Or.inl rfl, Or.inr ⟨(q), _, by omega, sm_p (show 4 ≤ 612 by omega), rfl, ?_⟩⟩, fun h => h⟩⟩
    · unfold f_X0_readNumber f_X0_goTo
      simp (disch := omega) only [lit, pk_mul, nI_add, ni_sub, ni_div, ni_rem, ni_cl, ni_pred, nmod, ↓reduceIte, ile_t, ile_f, ilt_t, ilt_f, ieq_t, ieq_f, if_true_n, if_false_n, gi_n, nm_n, jn_n, bd1_n, bd2_n, bd3_n, bd4_n, bd5_n, bd6_n, ta, tb, tc, td, h1, num0, e41, neg1_mul, one_mul9, add0_9, Int32.neg_neg, ineg_f, cb]
    · unfold f_X7_take f_X7_takeSigned f_X7_pass f_X7_put f_X7_ends
      simp (disch := omega) only [lit, pk_mul, nI_add, ni_sub, ni_div, ni_rem, ni_cl, ni_pred, nmod, ↓reduceIte, ile_t, ile_f, ilt_t, ilt_f, ieq_t, ieq_f, if_true_n, if_false_n, gi_n, nm_n, jn_n, bd1_n, bd2_n, bd3_n, bd4_n, bd5_n, bd6_n, h2, pk_us, e71, neg1_mul, one_mul9, add0_9, Int32.neg_neg, cb]
    · rw [pk_us]
    · rw [pk_un hj]
    · rfl
theorem tk_13 {sz p f bc bm q d : Nat} {B cp mp mn : Nat → Int32} {cg : Nat → Nat → Int32} (hs : sz ≤ 6000) (hp : p ≤ 8 * sz) (hf : f ≤ 6) (hbc : bc < 36) (hbm : bm < 36) (hq : q < 64) (h1 : cp bc = nI q) (h2 : mp bm = nI q) : TR 13 sz p f bc bm q d B cp mp mn cg := by
  obtain ⟨ta, tb, tc, td⟩ := tb_13
  obtain ⟨b1, p1, f1, hb1, hp1, hf1, hz1, hy1, e41, e71⟩ := bit_ex B hs hp hf
  have hz : f ≠ 0 → p1 = p ∧ f1 = f := by
    intro h9
    have a1 := hz1 h9
    omega
  by_cases cb : b1 = 1
  · skip
    refine ⟨p1, f1, d, upd cp bc (nI (q + 1)), upd mp bm (nI (q + 1)), upd mn (64 * bm + q) (-nI (5)), updM cg bc (q) (-nI (5)), hp1, hf1, hz, ?_, ?_, by omega, fun _ => ⟨⟨(q + 1), by omega, by omega, rfl, ?_, fun j hj => ?_, Or.inl rfl, Or.inr ⟨(q), _, by omega, sm_n (show 5 ≤ 612 by omega), rfl, ?_⟩⟩, fun h => h⟩⟩
    · unfold f_X0_readNumber f_X0_goTo
      simp (disch := omega) only [lit, pk_mul, nI_add, ni_sub, ni_div, ni_rem, ni_cl, ni_pred, nmod, ↓reduceIte, ile_t, ile_f, ilt_t, ilt_f, ieq_t, ieq_f, if_true_n, if_false_n, gi_n, nm_n, jn_n, bd1_n, bd2_n, bd3_n, bd4_n, bd5_n, bd6_n, ta, tb, tc, td, h1, num0, e41, neg1_mul, one_mul9, add0_9, Int32.neg_neg, ineg_f, cb]
    · unfold f_X7_take f_X7_takeSigned f_X7_pass f_X7_put f_X7_ends
      simp (disch := omega) only [lit, pk_mul, nI_add, ni_sub, ni_div, ni_rem, ni_cl, ni_pred, nmod, ↓reduceIte, ile_t, ile_f, ilt_t, ilt_f, ieq_t, ieq_f, if_true_n, if_false_n, gi_n, nm_n, jn_n, bd1_n, bd2_n, bd3_n, bd4_n, bd5_n, bd6_n, h2, pk_us, e71, neg1_mul, one_mul9, add0_9, Int32.neg_neg, cb]
    · rw [pk_us]
    · rw [pk_un hj]
    · rfl
  · skip
    refine ⟨p1, f1, d, upd cp bc (nI (q + 1)), upd mp bm (nI (q + 1)), upd mn (64 * bm + q) (nI (5)), updM cg bc (q) (nI (5)), hp1, hf1, hz, ?_, ?_, by omega, fun _ => ⟨⟨(q + 1), by omega, by omega, rfl, ?_, fun j hj => ?_, Or.inl rfl, Or.inr ⟨(q), _, by omega, sm_p (show 5 ≤ 612 by omega), rfl, ?_⟩⟩, fun h => h⟩⟩
    · unfold f_X0_readNumber f_X0_goTo
      simp (disch := omega) only [lit, pk_mul, nI_add, ni_sub, ni_div, ni_rem, ni_cl, ni_pred, nmod, ↓reduceIte, ile_t, ile_f, ilt_t, ilt_f, ieq_t, ieq_f, if_true_n, if_false_n, gi_n, nm_n, jn_n, bd1_n, bd2_n, bd3_n, bd4_n, bd5_n, bd6_n, ta, tb, tc, td, h1, num0, e41, neg1_mul, one_mul9, add0_9, Int32.neg_neg, ineg_f, cb]
    · unfold f_X7_take f_X7_takeSigned f_X7_pass f_X7_put f_X7_ends
      simp (disch := omega) only [lit, pk_mul, nI_add, ni_sub, ni_div, ni_rem, ni_cl, ni_pred, nmod, ↓reduceIte, ile_t, ile_f, ilt_t, ilt_f, ieq_t, ieq_f, if_true_n, if_false_n, gi_n, nm_n, jn_n, bd1_n, bd2_n, bd3_n, bd4_n, bd5_n, bd6_n, h2, pk_us, e71, neg1_mul, one_mul9, add0_9, Int32.neg_neg, cb]
    · rw [pk_us]
    · rw [pk_un hj]
    · rfl
theorem tk_14 {sz p f bc bm q d : Nat} {B cp mp mn : Nat → Int32} {cg : Nat → Nat → Int32} (hs : sz ≤ 6000) (hp : p ≤ 8 * sz) (hf : f ≤ 6) (hbc : bc < 36) (hbm : bm < 36) (hq : q < 64) (h1 : cp bc = nI q) (h2 : mp bm = nI q) : TR 14 sz p f bc bm q d B cp mp mn cg := by
  obtain ⟨ta, tb, tc, td⟩ := tb_14
  obtain ⟨b1, p1, f1, hb1, hp1, hf1, hz1, hy1, e41, e71⟩ := bit_ex B hs hp hf
  have hz : f ≠ 0 → p1 = p ∧ f1 = f := by
    intro h9
    have a1 := hz1 h9
    omega
  by_cases cb : b1 = 1
  · skip
    refine ⟨p1, f1, d, upd cp bc (nI (q + 1)), upd mp bm (nI (q + 1)), upd mn (64 * bm + q) (-nI (6)), updM cg bc (q) (-nI (6)), hp1, hf1, hz, ?_, ?_, by omega, fun _ => ⟨⟨(q + 1), by omega, by omega, rfl, ?_, fun j hj => ?_, Or.inl rfl, Or.inr ⟨(q), _, by omega, sm_n (show 6 ≤ 612 by omega), rfl, ?_⟩⟩, fun h => h⟩⟩
    · unfold f_X0_readNumber f_X0_goTo
      simp (disch := omega) only [lit, pk_mul, nI_add, ni_sub, ni_div, ni_rem, ni_cl, ni_pred, nmod, ↓reduceIte, ile_t, ile_f, ilt_t, ilt_f, ieq_t, ieq_f, if_true_n, if_false_n, gi_n, nm_n, jn_n, bd1_n, bd2_n, bd3_n, bd4_n, bd5_n, bd6_n, ta, tb, tc, td, h1, num0, e41, neg1_mul, one_mul9, add0_9, Int32.neg_neg, ineg_f, cb]
    · unfold f_X7_take f_X7_takeSigned f_X7_pass f_X7_put f_X7_ends
      simp (disch := omega) only [lit, pk_mul, nI_add, ni_sub, ni_div, ni_rem, ni_cl, ni_pred, nmod, ↓reduceIte, ile_t, ile_f, ilt_t, ilt_f, ieq_t, ieq_f, if_true_n, if_false_n, gi_n, nm_n, jn_n, bd1_n, bd2_n, bd3_n, bd4_n, bd5_n, bd6_n, h2, pk_us, e71, neg1_mul, one_mul9, add0_9, Int32.neg_neg, cb]
    · rw [pk_us]
    · rw [pk_un hj]
    · rfl
  · skip
    refine ⟨p1, f1, d, upd cp bc (nI (q + 1)), upd mp bm (nI (q + 1)), upd mn (64 * bm + q) (nI (6)), updM cg bc (q) (nI (6)), hp1, hf1, hz, ?_, ?_, by omega, fun _ => ⟨⟨(q + 1), by omega, by omega, rfl, ?_, fun j hj => ?_, Or.inl rfl, Or.inr ⟨(q), _, by omega, sm_p (show 6 ≤ 612 by omega), rfl, ?_⟩⟩, fun h => h⟩⟩
    · unfold f_X0_readNumber f_X0_goTo
      simp (disch := omega) only [lit, pk_mul, nI_add, ni_sub, ni_div, ni_rem, ni_cl, ni_pred, nmod, ↓reduceIte, ile_t, ile_f, ilt_t, ilt_f, ieq_t, ieq_f, if_true_n, if_false_n, gi_n, nm_n, jn_n, bd1_n, bd2_n, bd3_n, bd4_n, bd5_n, bd6_n, ta, tb, tc, td, h1, num0, e41, neg1_mul, one_mul9, add0_9, Int32.neg_neg, ineg_f, cb]
    · unfold f_X7_take f_X7_takeSigned f_X7_pass f_X7_put f_X7_ends
      simp (disch := omega) only [lit, pk_mul, nI_add, ni_sub, ni_div, ni_rem, ni_cl, ni_pred, nmod, ↓reduceIte, ile_t, ile_f, ilt_t, ilt_f, ieq_t, ieq_f, if_true_n, if_false_n, gi_n, nm_n, jn_n, bd1_n, bd2_n, bd3_n, bd4_n, bd5_n, bd6_n, h2, pk_us, e71, neg1_mul, one_mul9, add0_9, Int32.neg_neg, cb]
    · rw [pk_us]
    · rw [pk_un hj]
    · rfl
theorem tk_15 {sz p f bc bm q d : Nat} {B cp mp mn : Nat → Int32} {cg : Nat → Nat → Int32} (hs : sz ≤ 6000) (hp : p ≤ 8 * sz) (hf : f ≤ 6) (hbc : bc < 36) (hbm : bm < 36) (hq : q < 64) (h1 : cp bc = nI q) (h2 : mp bm = nI q) : TR 15 sz p f bc bm q d B cp mp mn cg := by
  obtain ⟨ta, tb, tc, td⟩ := tb_15
  obtain ⟨b1, p1, f1, hb1, hp1, hf1, hz1, hy1, e41, e71⟩ := bit_ex B hs hp hf
  obtain ⟨nv, p2, f2, hnv, hp2, hf2, hz2, e42, e72⟩ := bits_ex (N := 1) B hs hp1 hf1 (by omega)
  have hnv : nv < 2 := hnv
  have hz : f ≠ 0 → p2 = p ∧ f2 = f := by
    intro h9
    have a1 := hz1 h9
    have a2 := hz2 (by omega)
    omega
  by_cases cb : b1 = 1
  · skip
    refine ⟨p2, f2, d, upd cp bc (nI (q + 1)), upd mp bm (nI (q + 1)), upd mn (64 * bm + q) (-nI (7 + nv)), updM cg bc (q) (-nI (7 + nv)), hp2, hf2, hz, ?_, ?_, by omega, fun _ => ⟨⟨(q + 1), by omega, by omega, rfl, ?_, fun j hj => ?_, Or.inl rfl, Or.inr ⟨(q), _, by omega, sm_n (show 7 + nv ≤ 612 by omega), rfl, ?_⟩⟩, fun h => h⟩⟩
    · unfold f_X0_readNumber f_X0_goTo
      simp (disch := omega) only [lit, pk_mul, nI_add, ni_sub, ni_div, ni_rem, ni_cl, ni_pred, nmod, ↓reduceIte, ile_t, ile_f, ilt_t, ilt_f, ieq_t, ieq_f, if_true_n, if_false_n, gi_n, nm_n, jn_n, bd1_n, bd2_n, bd3_n, bd4_n, bd5_n, bd6_n, ta, tb, tc, td, h1, num0, e41, e42, neg1_mul, one_mul9, add0_9, Int32.neg_neg, ineg_f, cb]
    · unfold f_X7_take f_X7_takeSigned f_X7_pass f_X7_put f_X7_ends
      simp (disch := omega) only [lit, pk_mul, nI_add, ni_sub, ni_div, ni_rem, ni_cl, ni_pred, nmod, ↓reduceIte, ile_t, ile_f, ilt_t, ilt_f, ieq_t, ieq_f, if_true_n, if_false_n, gi_n, nm_n, jn_n, bd1_n, bd2_n, bd3_n, bd4_n, bd5_n, bd6_n, h2, pk_us, e71, e72, neg1_mul, one_mul9, add0_9, Int32.neg_neg, cb]
    · rw [pk_us]
    · rw [pk_un hj]
    · rfl
  · skip
    refine ⟨p2, f2, d, upd cp bc (nI (q + 1)), upd mp bm (nI (q + 1)), upd mn (64 * bm + q) (nI (7 + nv)), updM cg bc (q) (nI (7 + nv)), hp2, hf2, hz, ?_, ?_, by omega, fun _ => ⟨⟨(q + 1), by omega, by omega, rfl, ?_, fun j hj => ?_, Or.inl rfl, Or.inr ⟨(q), _, by omega, sm_p (show 7 + nv ≤ 612 by omega), rfl, ?_⟩⟩, fun h => h⟩⟩
    · unfold f_X0_readNumber f_X0_goTo
      simp (disch := omega) only [lit, pk_mul, nI_add, ni_sub, ni_div, ni_rem, ni_cl, ni_pred, nmod, ↓reduceIte, ile_t, ile_f, ilt_t, ilt_f, ieq_t, ieq_f, if_true_n, if_false_n, gi_n, nm_n, jn_n, bd1_n, bd2_n, bd3_n, bd4_n, bd5_n, bd6_n, ta, tb, tc, td, h1, num0, e41, e42, neg1_mul, one_mul9, add0_9, Int32.neg_neg, ineg_f, cb]
    · unfold f_X7_take f_X7_takeSigned f_X7_pass f_X7_put f_X7_ends
      simp (disch := omega) only [lit, pk_mul, nI_add, ni_sub, ni_div, ni_rem, ni_cl, ni_pred, nmod, ↓reduceIte, ile_t, ile_f, ilt_t, ilt_f, ieq_t, ieq_f, if_true_n, if_false_n, gi_n, nm_n, jn_n, bd1_n, bd2_n, bd3_n, bd4_n, bd5_n, bd6_n, h2, pk_us, e71, e72, neg1_mul, one_mul9, add0_9, Int32.neg_neg, cb]
    · rw [pk_us]
    · rw [pk_un hj]
    · rfl
theorem tk_16 {sz p f bc bm q d : Nat} {B cp mp mn : Nat → Int32} {cg : Nat → Nat → Int32} (hs : sz ≤ 6000) (hp : p ≤ 8 * sz) (hf : f ≤ 6) (hbc : bc < 36) (hbm : bm < 36) (hq : q < 64) (h1 : cp bc = nI q) (h2 : mp bm = nI q) : TR 16 sz p f bc bm q d B cp mp mn cg := by
  obtain ⟨ta, tb, tc, td⟩ := tb_16
  obtain ⟨b1, p1, f1, hb1, hp1, hf1, hz1, hy1, e41, e71⟩ := bit_ex B hs hp hf
  obtain ⟨nv, p2, f2, hnv, hp2, hf2, hz2, e42, e72⟩ := bits_ex (N := 2) B hs hp1 hf1 (by omega)
  have hnv : nv < 4 := hnv
  have hz : f ≠ 0 → p2 = p ∧ f2 = f := by
    intro h9
    have a1 := hz1 h9
    have a2 := hz2 (by omega)
    omega
  by_cases cb : b1 = 1
  · skip
    refine ⟨p2, f2, d, upd cp bc (nI (q + 1)), upd mp bm (nI (q + 1)), upd mn (64 * bm + q) (-nI (9 + nv)), updM cg bc (q) (-nI (9 + nv)), hp2, hf2, hz, ?_, ?_, by omega, fun _ => ⟨⟨(q + 1), by omega, by omega, rfl, ?_, fun j hj => ?_, Or.inl rfl, Or.inr ⟨(q), _, by omega, sm_n (show 9 + nv ≤ 612 by omega), rfl, ?_⟩⟩, fun h => h⟩⟩
    · unfold f_X0_readNumber f_X0_goTo
      simp (disch := omega) only [lit, pk_mul, nI_add, ni_sub, ni_div, ni_rem, ni_cl, ni_pred, nmod, ↓reduceIte, ile_t, ile_f, ilt_t, ilt_f, ieq_t, ieq_f, if_true_n, if_false_n, gi_n, nm_n, jn_n, bd1_n, bd2_n, bd3_n, bd4_n, bd5_n, bd6_n, ta, tb, tc, td, h1, num0, e41, e42, neg1_mul, one_mul9, add0_9, Int32.neg_neg, ineg_f, cb]
    · unfold f_X7_take f_X7_takeSigned f_X7_pass f_X7_put f_X7_ends
      simp (disch := omega) only [lit, pk_mul, nI_add, ni_sub, ni_div, ni_rem, ni_cl, ni_pred, nmod, ↓reduceIte, ile_t, ile_f, ilt_t, ilt_f, ieq_t, ieq_f, if_true_n, if_false_n, gi_n, nm_n, jn_n, bd1_n, bd2_n, bd3_n, bd4_n, bd5_n, bd6_n, h2, pk_us, e71, e72, neg1_mul, one_mul9, add0_9, Int32.neg_neg, cb]
    · rw [pk_us]
    · rw [pk_un hj]
    · rfl
  · skip
    refine ⟨p2, f2, d, upd cp bc (nI (q + 1)), upd mp bm (nI (q + 1)), upd mn (64 * bm + q) (nI (9 + nv)), updM cg bc (q) (nI (9 + nv)), hp2, hf2, hz, ?_, ?_, by omega, fun _ => ⟨⟨(q + 1), by omega, by omega, rfl, ?_, fun j hj => ?_, Or.inl rfl, Or.inr ⟨(q), _, by omega, sm_p (show 9 + nv ≤ 612 by omega), rfl, ?_⟩⟩, fun h => h⟩⟩
    · unfold f_X0_readNumber f_X0_goTo
      simp (disch := omega) only [lit, pk_mul, nI_add, ni_sub, ni_div, ni_rem, ni_cl, ni_pred, nmod, ↓reduceIte, ile_t, ile_f, ilt_t, ilt_f, ieq_t, ieq_f, if_true_n, if_false_n, gi_n, nm_n, jn_n, bd1_n, bd2_n, bd3_n, bd4_n, bd5_n, bd6_n, ta, tb, tc, td, h1, num0, e41, e42, neg1_mul, one_mul9, add0_9, Int32.neg_neg, ineg_f, cb]
    · unfold f_X7_take f_X7_takeSigned f_X7_pass f_X7_put f_X7_ends
      simp (disch := omega) only [lit, pk_mul, nI_add, ni_sub, ni_div, ni_rem, ni_cl, ni_pred, nmod, ↓reduceIte, ile_t, ile_f, ilt_t, ilt_f, ieq_t, ieq_f, if_true_n, if_false_n, gi_n, nm_n, jn_n, bd1_n, bd2_n, bd3_n, bd4_n, bd5_n, bd6_n, h2, pk_us, e71, e72, neg1_mul, one_mul9, add0_9, Int32.neg_neg, cb]
    · rw [pk_us]
    · rw [pk_un hj]
    · rfl
theorem tk_17 {sz p f bc bm q d : Nat} {B cp mp mn : Nat → Int32} {cg : Nat → Nat → Int32} (hs : sz ≤ 6000) (hp : p ≤ 8 * sz) (hf : f ≤ 6) (hbc : bc < 36) (hbm : bm < 36) (hq : q < 64) (h1 : cp bc = nI q) (h2 : mp bm = nI q) : TR 17 sz p f bc bm q d B cp mp mn cg := by
  obtain ⟨ta, tb, tc, td⟩ := tb_17
  obtain ⟨b1, p1, f1, hb1, hp1, hf1, hz1, hy1, e41, e71⟩ := bit_ex B hs hp hf
  obtain ⟨nv, p2, f2, hnv, hp2, hf2, hz2, e42, e72⟩ := bits_ex (N := 3) B hs hp1 hf1 (by omega)
  have hnv : nv < 8 := hnv
  have hz : f ≠ 0 → p2 = p ∧ f2 = f := by
    intro h9
    have a1 := hz1 h9
    have a2 := hz2 (by omega)
    omega
  by_cases cb : b1 = 1
  · skip
    refine ⟨p2, f2, d, upd cp bc (nI (q + 1)), upd mp bm (nI (q + 1)), upd mn (64 * bm + q) (-nI (13 + nv)), updM cg bc (q) (-nI (13 + nv)), hp2, hf2, hz, ?_, ?_, by omega, fun _ => ⟨⟨(q + 1), by omega, by omega, rfl, ?_, fun j hj => ?_, Or.inl rfl, Or.inr ⟨(q), _, by omega, sm_n (show 13 + nv ≤ 612 by omega), rfl, ?_⟩⟩, fun h => h⟩⟩
    · unfold f_X0_readNumber f_X0_goTo
      simp (disch := omega) only [lit, pk_mul, nI_add, ni_sub, ni_div, ni_rem, ni_cl, ni_pred, nmod, ↓reduceIte, ile_t, ile_f, ilt_t, ilt_f, ieq_t, ieq_f, if_true_n, if_false_n, gi_n, nm_n, jn_n, bd1_n, bd2_n, bd3_n, bd4_n, bd5_n, bd6_n, ta, tb, tc, td, h1, num0, e41, e42, neg1_mul, one_mul9, add0_9, Int32.neg_neg, ineg_f, cb]
    · unfold f_X7_take f_X7_takeSigned f_X7_pass f_X7_put f_X7_ends
      simp (disch := omega) only [lit, pk_mul, nI_add, ni_sub, ni_div, ni_rem, ni_cl, ni_pred, nmod, ↓reduceIte, ile_t, ile_f, ilt_t, ilt_f, ieq_t, ieq_f, if_true_n, if_false_n, gi_n, nm_n, jn_n, bd1_n, bd2_n, bd3_n, bd4_n, bd5_n, bd6_n, h2, pk_us, e71, e72, neg1_mul, one_mul9, add0_9, Int32.neg_neg, cb]
    · rw [pk_us]
    · rw [pk_un hj]
    · rfl
  · skip
    refine ⟨p2, f2, d, upd cp bc (nI (q + 1)), upd mp bm (nI (q + 1)), upd mn (64 * bm + q) (nI (13 + nv)), updM cg bc (q) (nI (13 + nv)), hp2, hf2, hz, ?_, ?_, by omega, fun _ => ⟨⟨(q + 1), by omega, by omega, rfl, ?_, fun j hj => ?_, Or.inl rfl, Or.inr ⟨(q), _, by omega, sm_p (show 13 + nv ≤ 612 by omega), rfl, ?_⟩⟩, fun h => h⟩⟩
    · unfold f_X0_readNumber f_X0_goTo
      simp (disch := omega) only [lit, pk_mul, nI_add, ni_sub, ni_div, ni_rem, ni_cl, ni_pred, nmod, ↓reduceIte, ile_t, ile_f, ilt_t, ilt_f, ieq_t, ieq_f, if_true_n, if_false_n, gi_n, nm_n, jn_n, bd1_n, bd2_n, bd3_n, bd4_n, bd5_n, bd6_n, ta, tb, tc, td, h1, num0, e41, e42, neg1_mul, one_mul9, add0_9, Int32.neg_neg, ineg_f, cb]
    · unfold f_X7_take f_X7_takeSigned f_X7_pass f_X7_put f_X7_ends
      simp (disch := omega) only [lit, pk_mul, nI_add, ni_sub, ni_div, ni_rem, ni_cl, ni_pred, nmod, ↓reduceIte, ile_t, ile_f, ilt_t, ilt_f, ieq_t, ieq_f, if_true_n, if_false_n, gi_n, nm_n, jn_n, bd1_n, bd2_n, bd3_n, bd4_n, bd5_n, bd6_n, h2, pk_us, e71, e72, neg1_mul, one_mul9, add0_9, Int32.neg_neg, cb]
    · rw [pk_us]
    · rw [pk_un hj]
    · rfl
theorem tk_18 {sz p f bc bm q d : Nat} {B cp mp mn : Nat → Int32} {cg : Nat → Nat → Int32} (hs : sz ≤ 6000) (hp : p ≤ 8 * sz) (hf : f ≤ 6) (hbc : bc < 36) (hbm : bm < 36) (hq : q < 64) (h1 : cp bc = nI q) (h2 : mp bm = nI q) : TR 18 sz p f bc bm q d B cp mp mn cg := by
  obtain ⟨ta, tb, tc, td⟩ := tb_18
  obtain ⟨b1, p1, f1, hb1, hp1, hf1, hz1, hy1, e41, e71⟩ := bit_ex B hs hp hf
  obtain ⟨nv, p2, f2, hnv, hp2, hf2, hz2, e42, e72⟩ := bits_ex (N := 4) B hs hp1 hf1 (by omega)
  have hnv : nv < 16 := hnv
  have hz : f ≠ 0 → p2 = p ∧ f2 = f := by
    intro h9
    have a1 := hz1 h9
    have a2 := hz2 (by omega)
    omega
  by_cases cb : b1 = 1
  · skip
    refine ⟨p2, f2, d, upd cp bc (nI (q + 1)), upd mp bm (nI (q + 1)), upd mn (64 * bm + q) (-nI (21 + nv)), updM cg bc (q) (-nI (21 + nv)), hp2, hf2, hz, ?_, ?_, by omega, fun _ => ⟨⟨(q + 1), by omega, by omega, rfl, ?_, fun j hj => ?_, Or.inl rfl, Or.inr ⟨(q), _, by omega, sm_n (show 21 + nv ≤ 612 by omega), rfl, ?_⟩⟩, fun h => h⟩⟩
    · unfold f_X0_readNumber f_X0_goTo
      simp (disch := omega) only [lit, pk_mul, nI_add, ni_sub, ni_div, ni_rem, ni_cl, ni_pred, nmod, ↓reduceIte, ile_t, ile_f, ilt_t, ilt_f, ieq_t, ieq_f, if_true_n, if_false_n, gi_n, nm_n, jn_n, bd1_n, bd2_n, bd3_n, bd4_n, bd5_n, bd6_n, ta, tb, tc, td, h1, num0, e41, e42, neg1_mul, one_mul9, add0_9, Int32.neg_neg, ineg_f, cb]
    · unfold f_X7_take f_X7_takeSigned f_X7_pass f_X7_put f_X7_ends
      simp (disch := omega) only [lit, pk_mul, nI_add, ni_sub, ni_div, ni_rem, ni_cl, ni_pred, nmod, ↓reduceIte, ile_t, ile_f, ilt_t, ilt_f, ieq_t, ieq_f, if_true_n, if_false_n, gi_n, nm_n, jn_n, bd1_n, bd2_n, bd3_n, bd4_n, bd5_n, bd6_n, h2, pk_us, e71, e72, neg1_mul, one_mul9, add0_9, Int32.neg_neg, cb]
    · rw [pk_us]
    · rw [pk_un hj]
    · rfl
  · skip
    refine ⟨p2, f2, d, upd cp bc (nI (q + 1)), upd mp bm (nI (q + 1)), upd mn (64 * bm + q) (nI (21 + nv)), updM cg bc (q) (nI (21 + nv)), hp2, hf2, hz, ?_, ?_, by omega, fun _ => ⟨⟨(q + 1), by omega, by omega, rfl, ?_, fun j hj => ?_, Or.inl rfl, Or.inr ⟨(q), _, by omega, sm_p (show 21 + nv ≤ 612 by omega), rfl, ?_⟩⟩, fun h => h⟩⟩
    · unfold f_X0_readNumber f_X0_goTo
      simp (disch := omega) only [lit, pk_mul, nI_add, ni_sub, ni_div, ni_rem, ni_cl, ni_pred, nmod, ↓reduceIte, ile_t, ile_f, ilt_t, ilt_f, ieq_t, ieq_f, if_true_n, if_false_n, gi_n, nm_n, jn_n, bd1_n, bd2_n, bd3_n, bd4_n, bd5_n, bd6_n, ta, tb, tc, td, h1, num0, e41, e42, neg1_mul, one_mul9, add0_9, Int32.neg_neg, ineg_f, cb]
    · unfold f_X7_take f_X7_takeSigned f_X7_pass f_X7_put f_X7_ends
      simp (disch := omega) only [lit, pk_mul, nI_add, ni_sub, ni_div, ni_rem, ni_cl, ni_pred, nmod, ↓reduceIte, ile_t, ile_f, ilt_t, ilt_f, ieq_t, ieq_f, if_true_n, if_false_n, gi_n, nm_n, jn_n, bd1_n, bd2_n, bd3_n, bd4_n, bd5_n, bd6_n, h2, pk_us, e71, e72, neg1_mul, one_mul9, add0_9, Int32.neg_neg, cb]
    · rw [pk_us]
    · rw [pk_un hj]
    · rfl
theorem tk_19 {sz p f bc bm q d : Nat} {B cp mp mn : Nat → Int32} {cg : Nat → Nat → Int32} (hs : sz ≤ 6000) (hp : p ≤ 8 * sz) (hf : f ≤ 6) (hbc : bc < 36) (hbm : bm < 36) (hq : q < 64) (h1 : cp bc = nI q) (h2 : mp bm = nI q) : TR 19 sz p f bc bm q d B cp mp mn cg := by
  obtain ⟨ta, tb, tc, td⟩ := tb_19
  obtain ⟨b1, p1, f1, hb1, hp1, hf1, hz1, hy1, e41, e71⟩ := bit_ex B hs hp hf
  obtain ⟨nv, p2, f2, hnv, hp2, hf2, hz2, e42, e72⟩ := bits_ex (N := 6) B hs hp1 hf1 (by omega)
  have hnv : nv < 64 := hnv
  have hz : f ≠ 0 → p2 = p ∧ f2 = f := by
    intro h9
    have a1 := hz1 h9
    have a2 := hz2 (by omega)
    omega
  by_cases cb : b1 = 1
  · skip
    refine ⟨p2, f2, d, upd cp bc (nI (q + 1)), upd mp bm (nI (q + 1)), upd mn (64 * bm + q) (-nI (37 + nv)), updM cg bc (q) (-nI (37 + nv)), hp2, hf2, hz, ?_, ?_, by omega, fun _ => ⟨⟨(q + 1), by omega, by omega, rfl, ?_, fun j hj => ?_, Or.inl rfl, Or.inr ⟨(q), _, by omega, sm_n (show 37 + nv ≤ 612 by omega), rfl, ?_⟩⟩, fun h => h⟩⟩
    · unfold f_X0_readNumber f_X0_goTo
      simp (disch := omega) only [lit, pk_mul, nI_add, ni_sub, ni_div, ni_rem, ni_cl, ni_pred, nmod, ↓reduceIte, ile_t, ile_f, ilt_t, ilt_f, ieq_t, ieq_f, if_true_n, if_false_n, gi_n, nm_n, jn_n, bd1_n, bd2_n, bd3_n, bd4_n, bd5_n, bd6_n, ta, tb, tc, td, h1, num0, e41, e42, neg1_mul, one_mul9, add0_9, Int32.neg_neg, ineg_f, cb]
    · unfold f_X7_take f_X7_takeSigned f_X7_pass f_X7_put f_X7_ends
      simp (disch := omega) only [lit, pk_mul, nI_add, ni_sub, ni_div, ni_rem, ni_cl, ni_pred, nmod, ↓reduceIte, ile_t, ile_f, ilt_t, ilt_f, ieq_t, ieq_f, if_true_n, if_false_n, gi_n, nm_n, jn_n, bd1_n, bd2_n, bd3_n, bd4_n, bd5_n, bd6_n, h2, pk_us, e71, e72, neg1_mul, one_mul9, add0_9, Int32.neg_neg, cb]
    · rw [pk_us]
    · rw [pk_un hj]
    · rfl
  · skip
    refine ⟨p2, f2, d, upd cp bc (nI (q + 1)), upd mp bm (nI (q + 1)), upd mn (64 * bm + q) (nI (37 + nv)), updM cg bc (q) (nI (37 + nv)), hp2, hf2, hz, ?_, ?_, by omega, fun _ => ⟨⟨(q + 1), by omega, by omega, rfl, ?_, fun j hj => ?_, Or.inl rfl, Or.inr ⟨(q), _, by omega, sm_p (show 37 + nv ≤ 612 by omega), rfl, ?_⟩⟩, fun h => h⟩⟩
    · unfold f_X0_readNumber f_X0_goTo
      simp (disch := omega) only [lit, pk_mul, nI_add, ni_sub, ni_div, ni_rem, ni_cl, ni_pred, nmod, ↓reduceIte, ile_t, ile_f, ilt_t, ilt_f, ieq_t, ieq_f, if_true_n, if_false_n, gi_n, nm_n, jn_n, bd1_n, bd2_n, bd3_n, bd4_n, bd5_n, bd6_n, ta, tb, tc, td, h1, num0, e41, e42, neg1_mul, one_mul9, add0_9, Int32.neg_neg, ineg_f, cb]
    · unfold f_X7_take f_X7_takeSigned f_X7_pass f_X7_put f_X7_ends
      simp (disch := omega) only [lit, pk_mul, nI_add, ni_sub, ni_div, ni_rem, ni_cl, ni_pred, nmod, ↓reduceIte, ile_t, ile_f, ilt_t, ilt_f, ieq_t, ieq_f, if_true_n, if_false_n, gi_n, nm_n, jn_n, bd1_n, bd2_n, bd3_n, bd4_n, bd5_n, bd6_n, h2, pk_us, e71, e72, neg1_mul, one_mul9, add0_9, Int32.neg_neg, cb]
    · rw [pk_us]
    · rw [pk_un hj]
    · rfl
theorem tk_20 {sz p f bc bm q d : Nat} {B cp mp mn : Nat → Int32} {cg : Nat → Nat → Int32} (hs : sz ≤ 6000) (hp : p ≤ 8 * sz) (hf : f ≤ 6) (hbc : bc < 36) (hbm : bm < 36) (hq : q < 64) (h1 : cp bc = nI q) (h2 : mp bm = nI q) : TR 20 sz p f bc bm q d B cp mp mn cg := by
  obtain ⟨ta, tb, tc, td⟩ := tb_20
  obtain ⟨b1, p1, f1, hb1, hp1, hf1, hz1, hy1, e41, e71⟩ := bit_ex B hs hp hf
  obtain ⟨nv, p2, f2, hnv, hp2, hf2, hz2, e42, e72⟩ := bits_ex (N := 9) B hs hp1 hf1 (by omega)
  have hnv : nv < 512 := hnv
  have hz : f ≠ 0 → p2 = p ∧ f2 = f := by
    intro h9
    have a1 := hz1 h9
    have a2 := hz2 (by omega)
    omega
  by_cases cb : b1 = 1
  · skip
    refine ⟨p2, f2, d, upd cp bc (nI (q + 1)), upd mp bm (nI (q + 1)), upd mn (64 * bm + q) (-nI (101 + nv)), updM cg bc (q) (-nI (101 + nv)), hp2, hf2, hz, ?_, ?_, by omega, fun _ => ⟨⟨(q + 1), by omega, by omega, rfl, ?_, fun j hj => ?_, Or.inl rfl, Or.inr ⟨(q), _, by omega, sm_n (show 101 + nv ≤ 612 by omega), rfl, ?_⟩⟩, fun h => h⟩⟩
    · unfold f_X0_readNumber f_X0_goTo
      simp (disch := omega) only [lit, pk_mul, nI_add, ni_sub, ni_div, ni_rem, ni_cl, ni_pred, nmod, ↓reduceIte, ile_t, ile_f, ilt_t, ilt_f, ieq_t, ieq_f, if_true_n, if_false_n, gi_n, nm_n, jn_n, bd1_n, bd2_n, bd3_n, bd4_n, bd5_n, bd6_n, ta, tb, tc, td, h1, num0, e41, e42, neg1_mul, one_mul9, add0_9, Int32.neg_neg, ineg_f, cb]
    · unfold f_X7_take f_X7_takeSigned f_X7_pass f_X7_put f_X7_ends
      simp (disch := omega) only [lit, pk_mul, nI_add, ni_sub, ni_div, ni_rem, ni_cl, ni_pred, nmod, ↓reduceIte, ile_t, ile_f, ilt_t, ilt_f, ieq_t, ieq_f, if_true_n, if_false_n, gi_n, nm_n, jn_n, bd1_n, bd2_n, bd3_n, bd4_n, bd5_n, bd6_n, h2, pk_us, e71, e72, neg1_mul, one_mul9, add0_9, Int32.neg_neg, cb]
    · rw [pk_us]
    · rw [pk_un hj]
    · rfl
  · skip
    refine ⟨p2, f2, d, upd cp bc (nI (q + 1)), upd mp bm (nI (q + 1)), upd mn (64 * bm + q) (nI (101 + nv)), updM cg bc (q) (nI (101 + nv)), hp2, hf2, hz, ?_, ?_, by omega, fun _ => ⟨⟨(q + 1), by omega, by omega, rfl, ?_, fun j hj => ?_, Or.inl rfl, Or.inr ⟨(q), _, by omega, sm_p (show 101 + nv ≤ 612 by omega), rfl, ?_⟩⟩, fun h => h⟩⟩
    · unfold f_X0_readNumber f_X0_goTo
      simp (disch := omega) only [lit, pk_mul, nI_add, ni_sub, ni_div, ni_rem, ni_cl, ni_pred, nmod, ↓reduceIte, ile_t, ile_f, ilt_t, ilt_f, ieq_t, ieq_f, if_true_n, if_false_n, gi_n, nm_n, jn_n, bd1_n, bd2_n, bd3_n, bd4_n, bd5_n, bd6_n, ta, tb, tc, td, h1, num0, e41, e42, neg1_mul, one_mul9, add0_9, Int32.neg_neg, ineg_f, cb]
    · unfold f_X7_take f_X7_takeSigned f_X7_pass f_X7_put f_X7_ends
      simp (disch := omega) only [lit, pk_mul, nI_add, ni_sub, ni_div, ni_rem, ni_cl, ni_pred, nmod, ↓reduceIte, ile_t, ile_f, ilt_t, ilt_f, ieq_t, ieq_f, if_true_n, if_false_n, gi_n, nm_n, jn_n, bd1_n, bd2_n, bd3_n, bd4_n, bd5_n, bd6_n, h2, pk_us, e71, e72, neg1_mul, one_mul9, add0_9, Int32.neg_neg, cb]
    · rw [pk_us]
    · rw [pk_un hj]
    · rfl
theorem tk_21 {sz p f bc bm q d : Nat} {B cp mp mn : Nat → Int32} {cg : Nat → Nat → Int32} (hs : sz ≤ 6000) (hp : p ≤ 8 * sz) (hf : f ≤ 6) (hbc : bc < 36) (hbm : bm < 36) (hq : q < 64) (h1 : cp bc = nI q) (h2 : mp bm = nI q) : TR 21 sz p f bc bm q d B cp mp mn cg := by
  obtain ⟨ta, tb, tc, td⟩ := tb_21
  obtain ⟨b1, p1, f1, hb1, hp1, hf1, hz1, hy1, e41, e71⟩ := bit_ex B hs hp hf
  have hz : f ≠ 0 → p1 = p ∧ f1 = f := by
    intro h9
    have a1 := hz1 h9
    omega
  by_cases cb : b1 = 1
  · skip
    by_cases c : q + 1 < 64
    · skip
      refine ⟨p1, f1, d, upd cp bc (nI (q + 1 + 1)), upd (upd mp bm (nI (q + 1))) bm (nI (q + 1 + 1)), upd mn (64 * bm + (q + 1)) (-nI (1)), updM cg bc (q + 1) (-nI (1)), hp1, hf1, hz, ?_, ?_, by omega, fun _ => ⟨⟨(q + 1 + 1), by omega, by omega, rfl, ?_, fun j hj => ?_, Or.inl rfl, Or.inr ⟨(q + 1), _, by omega, sm_n (show 1 ≤ 612 by omega), rfl, ?_⟩⟩, fun h => h⟩⟩
      · unfold f_X0_readNumber f_X0_goTo
        simp (disch := omega) only [lit, pk_mul, nI_add, ni_sub, ni_div, ni_rem, ni_cl, ni_pred, nmod, ↓reduceIte, ile_t, ile_f, ilt_t, ilt_f, ieq_t, ieq_f, if_true_n, if_false_n, gi_n, nm_n, jn_n, bd1_n, bd2_n, bd3_n, bd4_n, bd5_n, bd6_n, ta, tb, tc, td, h1, num0, e41, neg1_mul, one_mul9, add0_9, Int32.neg_neg, ineg_f, cb]
      · unfold f_X7_take f_X7_takeSigned f_X7_pass f_X7_put f_X7_ends
        simp (disch := omega) only [lit, pk_mul, nI_add, ni_sub, ni_div, ni_rem, ni_cl, ni_pred, nmod, ↓reduceIte, ile_t, ile_f, ilt_t, ilt_f, ieq_t, ieq_f, if_true_n, if_false_n, gi_n, nm_n, jn_n, bd1_n, bd2_n, bd3_n, bd4_n, bd5_n, bd6_n, h2, pk_us, e71, neg1_mul, one_mul9, add0_9, Int32.neg_neg, cb]
      · rw [pk_us, show q + 1 + 1 = (q + 1 + 1) by omega]
      · rw [pk_un hj, pk_un hj]
      · rw [show 64 * bm + (q + 1) = 64 * bm + (q + 1) by omega]
    · obtain ⟨g, hg6, hg0, hgf, e4g, e7g⟩ := fail_ex (f := f1) 6 (by omega) (by omega) hf1
      have e7h : f_X7_fail (nI 6) (nI g) = some (nI g) := X7_fail_1 hg0 (by omega)
      refine ⟨p1, g, d, cp, upd mp bm (nI (q + 1)), mn, cg, hp1, hg6, fun h9 => ⟨(hz h9).1, by have a1 := (hz h9).2; have a2 := hgf (by omega); omega⟩, ?_, ?_, by omega, fun h => absurd h hg0⟩
      · unfold f_X0_readNumber f_X0_goTo
        simp (disch := omega) only [lit, pk_mul, nI_add, ni_sub, ni_div, ni_rem, ni_cl, ni_pred, nmod, ↓reduceIte, ile_t, ile_f, ilt_t, ilt_f, ieq_t, ieq_f, if_true_n, if_false_n, gi_n, nm_n, jn_n, bd1_n, bd2_n, bd3_n, bd4_n, bd5_n, bd6_n, ta, tb, tc, td, h1, num0, e41, neg1_mul, one_mul9, add0_9, Int32.neg_neg, ineg_f, e4g, cb]
      · unfold f_X7_take f_X7_takeSigned f_X7_pass f_X7_put
        by_cases c64 : q + 1 ≤ 64
        · simp (disch := omega) only [lit, pk_mul, nI_add, ni_sub, ni_div, ni_rem, ni_cl, ni_pred, nmod, ↓reduceIte, ile_t, ile_f, ilt_t, ilt_f, ieq_t, ieq_f, if_true_n, if_false_n, gi_n, nm_n, jn_n, bd1_n, bd2_n, bd3_n, bd4_n, bd5_n, bd6_n, h2, pk_us, e71, neg1_mul, one_mul9, add0_9, Int32.neg_neg, e7g, cb]
        · exact absurd c64 (by omega)
  · skip
    by_cases c : q + 1 < 64
    · skip
      refine ⟨p1, f1, d, upd cp bc (nI (q + 1 + 1)), upd (upd mp bm (nI (q + 1))) bm (nI (q + 1 + 1)), upd mn (64 * bm + (q + 1)) (nI (1)), updM cg bc (q + 1) (nI (1)), hp1, hf1, hz, ?_, ?_, by omega, fun _ => ⟨⟨(q + 1 + 1), by omega, by omega, rfl, ?_, fun j hj => ?_, Or.inl rfl, Or.inr ⟨(q + 1), _, by omega, sm_p (show 1 ≤ 612 by omega), rfl, ?_⟩⟩, fun h => h⟩⟩
      · unfold f_X0_readNumber f_X0_goTo
        simp (disch := omega) only [lit, pk_mul, nI_add, ni_sub, ni_div, ni_rem, ni_cl, ni_pred, nmod, ↓reduceIte, ile_t, ile_f, ilt_t, ilt_f, ieq_t, ieq_f, if_true_n, if_false_n, gi_n, nm_n, jn_n, bd1_n, bd2_n, bd3_n, bd4_n, bd5_n, bd6_n, ta, tb, tc, td, h1, num0, e41, neg1_mul, one_mul9, add0_9, Int32.neg_neg, ineg_f, cb]
      · unfold f_X7_take f_X7_takeSigned f_X7_pass f_X7_put f_X7_ends
        simp (disch := omega) only [lit, pk_mul, nI_add, ni_sub, ni_div, ni_rem, ni_cl, ni_pred, nmod, ↓reduceIte, ile_t, ile_f, ilt_t, ilt_f, ieq_t, ieq_f, if_true_n, if_false_n, gi_n, nm_n, jn_n, bd1_n, bd2_n, bd3_n, bd4_n, bd5_n, bd6_n, h2, pk_us, e71, neg1_mul, one_mul9, add0_9, Int32.neg_neg, cb]
      · rw [pk_us, show q + 1 + 1 = (q + 1 + 1) by omega]
      · rw [pk_un hj, pk_un hj]
      · rw [show 64 * bm + (q + 1) = 64 * bm + (q + 1) by omega]
    · obtain ⟨g, hg6, hg0, hgf, e4g, e7g⟩ := fail_ex (f := f1) 6 (by omega) (by omega) hf1
      have e7h : f_X7_fail (nI 6) (nI g) = some (nI g) := X7_fail_1 hg0 (by omega)
      refine ⟨p1, g, d, cp, upd mp bm (nI (q + 1)), mn, cg, hp1, hg6, fun h9 => ⟨(hz h9).1, by have a1 := (hz h9).2; have a2 := hgf (by omega); omega⟩, ?_, ?_, by omega, fun h => absurd h hg0⟩
      · unfold f_X0_readNumber f_X0_goTo
        simp (disch := omega) only [lit, pk_mul, nI_add, ni_sub, ni_div, ni_rem, ni_cl, ni_pred, nmod, ↓reduceIte, ile_t, ile_f, ilt_t, ilt_f, ieq_t, ieq_f, if_true_n, if_false_n, gi_n, nm_n, jn_n, bd1_n, bd2_n, bd3_n, bd4_n, bd5_n, bd6_n, ta, tb, tc, td, h1, num0, e41, neg1_mul, one_mul9, add0_9, Int32.neg_neg, ineg_f, e4g, cb]
      · unfold f_X7_take f_X7_takeSigned f_X7_pass f_X7_put
        by_cases c64 : q + 1 ≤ 64
        · simp (disch := omega) only [lit, pk_mul, nI_add, ni_sub, ni_div, ni_rem, ni_cl, ni_pred, nmod, ↓reduceIte, ile_t, ile_f, ilt_t, ilt_f, ieq_t, ieq_f, if_true_n, if_false_n, gi_n, nm_n, jn_n, bd1_n, bd2_n, bd3_n, bd4_n, bd5_n, bd6_n, h2, pk_us, e71, neg1_mul, one_mul9, add0_9, Int32.neg_neg, e7g, cb]
        · exact absurd c64 (by omega)
theorem tk_22 {sz p f bc bm q d : Nat} {B cp mp mn : Nat → Int32} {cg : Nat → Nat → Int32} (hs : sz ≤ 6000) (hp : p ≤ 8 * sz) (hf : f ≤ 6) (hbc : bc < 36) (hbm : bm < 36) (hq : q < 64) (h1 : cp bc = nI q) (h2 : mp bm = nI q) : TR 22 sz p f bc bm q d B cp mp mn cg := by
  obtain ⟨ta, tb, tc, td⟩ := tb_22
  obtain ⟨b1, p1, f1, hb1, hp1, hf1, hz1, hy1, e41, e71⟩ := bit_ex B hs hp hf
  have hz : f ≠ 0 → p1 = p ∧ f1 = f := by
    intro h9
    have a1 := hz1 h9
    omega
  by_cases cb : b1 = 1
  · skip
    by_cases c : q + 2 < 64
    · skip
      refine ⟨p1, f1, d, upd cp bc (nI (q + 2 + 1)), upd (upd mp bm (nI (q + 2))) bm (nI (q + 2 + 1)), upd mn (64 * bm + (q + 2)) (-nI (1)), updM cg bc (q + 2) (-nI (1)), hp1, hf1, hz, ?_, ?_, by omega, fun _ => ⟨⟨(q + 2 + 1), by omega, by omega, rfl, ?_, fun j hj => ?_, Or.inl rfl, Or.inr ⟨(q + 2), _, by omega, sm_n (show 1 ≤ 612 by omega), rfl, ?_⟩⟩, fun h => h⟩⟩
      · unfold f_X0_readNumber f_X0_goTo
        simp (disch := omega) only [lit, pk_mul, nI_add, ni_sub, ni_div, ni_rem, ni_cl, ni_pred, nmod, ↓reduceIte, ile_t, ile_f, ilt_t, ilt_f, ieq_t, ieq_f, if_true_n, if_false_n, gi_n, nm_n, jn_n, bd1_n, bd2_n, bd3_n, bd4_n, bd5_n, bd6_n, ta, tb, tc, td, h1, num0, e41, neg1_mul, one_mul9, add0_9, Int32.neg_neg, ineg_f, cb]
      · unfold f_X7_take f_X7_takeSigned f_X7_pass f_X7_put f_X7_ends
        simp (disch := omega) only [lit, pk_mul, nI_add, ni_sub, ni_div, ni_rem, ni_cl, ni_pred, nmod, ↓reduceIte, ile_t, ile_f, ilt_t, ilt_f, ieq_t, ieq_f, if_true_n, if_false_n, gi_n, nm_n, jn_n, bd1_n, bd2_n, bd3_n, bd4_n, bd5_n, bd6_n, h2, pk_us, e71, neg1_mul, one_mul9, add0_9, Int32.neg_neg, cb]
      · rw [pk_us, show q + 2 + 1 = (q + 2 + 1) by omega]
      · rw [pk_un hj, pk_un hj]
      · rw [show 64 * bm + (q + 2) = 64 * bm + (q + 2) by omega]
    · obtain ⟨g, hg6, hg0, hgf, e4g, e7g⟩ := fail_ex (f := f1) 6 (by omega) (by omega) hf1
      have e7h : f_X7_fail (nI 6) (nI g) = some (nI g) := X7_fail_1 hg0 (by omega)
      refine ⟨p1, g, d, cp, upd mp bm (nI (q + 2)), mn, cg, hp1, hg6, fun h9 => ⟨(hz h9).1, by have a1 := (hz h9).2; have a2 := hgf (by omega); omega⟩, ?_, ?_, by omega, fun h => absurd h hg0⟩
      · unfold f_X0_readNumber f_X0_goTo
        simp (disch := omega) only [lit, pk_mul, nI_add, ni_sub, ni_div, ni_rem, ni_cl, ni_pred, nmod, ↓reduceIte, ile_t, ile_f, ilt_t, ilt_f, ieq_t, ieq_f, if_true_n, if_false_n, gi_n, nm_n, jn_n, bd1_n, bd2_n, bd3_n, bd4_n, bd5_n, bd6_n, ta, tb, tc, td, h1, num0, e41, neg1_mul, one_mul9, add0_9, Int32.neg_neg, ineg_f, e4g, cb]
      · unfold f_X7_take f_X7_takeSigned f_X7_pass f_X7_put
        by_cases c64 : q + 2 ≤ 64
        · simp (disch := omega) only [lit, pk_mul, nI_add, ni_sub, ni_div, ni_rem, ni_cl, ni_pred, nmod, ↓reduceIte, ile_t, ile_f, ilt_t, ilt_f, ieq_t, ieq_f, if_true_n, if_false_n, gi_n, nm_n, jn_n, bd1_n, bd2_n, bd3_n, bd4_n, bd5_n, bd6_n, h2, pk_us, e71, neg1_mul, one_mul9, add0_9, Int32.neg_neg, e7g, cb]
        · simp (disch := omega) only [lit, pk_mul, nI_add, ni_sub, ni_div, ni_rem, ni_cl, ni_pred, nmod, ↓reduceIte, ile_t, ile_f, ilt_t, ilt_f, ieq_t, ieq_f, if_true_n, if_false_n, gi_n, nm_n, jn_n, bd1_n, bd2_n, bd3_n, bd4_n, bd5_n, bd6_n, h2, pk_us, e71, neg1_mul, one_mul9, add0_9, Int32.neg_neg, e7g, e7h, cb]
  · skip
    by_cases c : q + 2 < 64
    · skip
      refine ⟨p1, f1, d, upd cp bc (nI (q + 2 + 1)), upd (upd mp bm (nI (q + 2))) bm (nI (q + 2 + 1)), upd mn (64 * bm + (q + 2)) (nI (1)), updM cg bc (q + 2) (nI (1)), hp1, hf1, hz, ?_, ?_, by omega, fun _ => ⟨⟨(q + 2 + 1), by omega, by omega, rfl, ?_, fun j hj => ?_, Or.inl rfl, Or.inr ⟨(q + 2), _, by omega, sm_p (show 1 ≤ 612 by omega), rfl, ?_⟩⟩, fun h => h⟩⟩
      · unfold f_X0_readNumber f_X0_goTo
        simp (disch := omega) only [lit, pk_mul, nI_add, ni_sub, ni_div, ni_rem, ni_cl, ni_pred, nmod, ↓reduceIte, ile_t, ile_f, ilt_t, ilt_f, ieq_t, ieq_f, if_true_n, if_false_n, gi_n, nm_n, jn_n, bd1_n, bd2_n, bd3_n, bd4_n, bd5_n, bd6_n, ta, tb, tc, td, h1, num0, e41, neg1_mul, one_mul9, add0_9, Int32.neg_neg, ineg_f, cb]
      · unfold f_X7_take f_X7_takeSigned f_X7_pass f_X7_put f_X7_ends
        simp (disch := omega) only [lit, pk_mul, nI_add, ni_sub, ni_div, ni_rem, ni_cl, ni_pred, nmod, ↓reduceIte, ile_t, ile_f, ilt_t, ilt_f, ieq_t, ieq_f, if_true_n, if_false_n, gi_n, nm_n, jn_n, bd1_n, bd2_n, bd3_n, bd4_n, bd5_n, bd6_n, h2, pk_us, e71, neg1_mul, one_mul9, add0_9, Int32.neg_neg, cb]
      · rw [pk_us, show q + 2 + 1 = (q + 2 + 1) by omega]
      · rw [pk_un hj, pk_un hj]
      · rw [show 64 * bm + (q + 2) = 64 * bm + (q + 2) by omega]
    · obtain ⟨g, hg6, hg0, hgf, e4g, e7g⟩ := fail_ex (f := f1) 6 (by omega) (by omega) hf1
      have e7h : f_X7_fail (nI 6) (nI g) = some (nI g) := X7_fail_1 hg0 (by omega)
      refine ⟨p1, g, d, cp, upd mp bm (nI (q + 2)), mn, cg, hp1, hg6, fun h9 => ⟨(hz h9).1, by have a1 := (hz h9).2; have a2 := hgf (by omega); omega⟩, ?_, ?_, by omega, fun h => absurd h hg0⟩
      · unfold f_X0_readNumber f_X0_goTo
        simp (disch := omega) only [lit, pk_mul, nI_add, ni_sub, ni_div, ni_rem, ni_cl, ni_pred, nmod, ↓reduceIte, ile_t, ile_f, ilt_t, ilt_f, ieq_t, ieq_f, if_true_n, if_false_n, gi_n, nm_n, jn_n, bd1_n, bd2_n, bd3_n, bd4_n, bd5_n, bd6_n, ta, tb, tc, td, h1, num0, e41, neg1_mul, one_mul9, add0_9, Int32.neg_neg, ineg_f, e4g, cb]
      · unfold f_X7_take f_X7_takeSigned f_X7_pass f_X7_put
        by_cases c64 : q + 2 ≤ 64
        · simp (disch := omega) only [lit, pk_mul, nI_add, ni_sub, ni_div, ni_rem, ni_cl, ni_pred, nmod, ↓reduceIte, ile_t, ile_f, ilt_t, ilt_f, ieq_t, ieq_f, if_true_n, if_false_n, gi_n, nm_n, jn_n, bd1_n, bd2_n, bd3_n, bd4_n, bd5_n, bd6_n, h2, pk_us, e71, neg1_mul, one_mul9, add0_9, Int32.neg_neg, e7g, cb]
        · simp (disch := omega) only [lit, pk_mul, nI_add, ni_sub, ni_div, ni_rem, ni_cl, ni_pred, nmod, ↓reduceIte, ile_t, ile_f, ilt_t, ilt_f, ieq_t, ieq_f, if_true_n, if_false_n, gi_n, nm_n, jn_n, bd1_n, bd2_n, bd3_n, bd4_n, bd5_n, bd6_n, h2, pk_us, e71, neg1_mul, one_mul9, add0_9, Int32.neg_neg, e7g, e7h, cb]
theorem tk_23 {sz p f bc bm q d : Nat} {B cp mp mn : Nat → Int32} {cg : Nat → Nat → Int32} (hs : sz ≤ 6000) (hp : p ≤ 8 * sz) (hf : f ≤ 6) (hbc : bc < 36) (hbm : bm < 36) (hq : q < 64) (h1 : cp bc = nI q) (h2 : mp bm = nI q) : TR 23 sz p f bc bm q d B cp mp mn cg := by
  obtain ⟨ta, tb, tc, td⟩ := tb_23
  obtain ⟨b1, p1, f1, hb1, hp1, hf1, hz1, hy1, e41, e71⟩ := bit_ex B hs hp hf
  have hz : f ≠ 0 → p1 = p ∧ f1 = f := by
    intro h9
    have a1 := hz1 h9
    omega
  by_cases cb : b1 = 1
  · skip
    by_cases c : q + 3 < 64
    · skip
      refine ⟨p1, f1, d, upd cp bc (nI (q + 3 + 1)), upd (upd mp bm (nI (q + 3))) bm (nI (q + 3 + 1)), upd mn (64 * bm + (q + 3)) (-nI (1)), updM cg bc (q + 3) (-nI (1)), hp1, hf1, hz, ?_, ?_, by omega, fun _ => ⟨⟨(q + 3 + 1), by omega, by omega, rfl, ?_, fun j hj => ?_, Or.inl rfl, Or.inr ⟨(q + 3), _, by omega, sm_n (show 1 ≤ 612 by omega), rfl, ?_⟩⟩, fun h => h⟩⟩
      · unfold f_X0_readNumber f_X0_goTo
        simp (disch := omega) only [lit, pk_mul, nI_add, ni_sub, ni_div, ni_rem, ni_cl, ni_pred, nmod, ↓reduceIte, ile_t, ile_f, ilt_t, ilt_f, ieq_t, ieq_f, if_true_n, if_false_n, gi_n, nm_n, jn_n, bd1_n, bd2_n, bd3_n, bd4_n, bd5_n, bd6_n, ta, tb, tc, td, h1, num0, e41, neg1_mul, one_mul9, add0_9, Int32.neg_neg, ineg_f, cb]
      · unfold f_X7_take f_X7_takeSigned f_X7_pass f_X7_put f_X7_ends
        simp (disch := omega) only [lit, pk_mul, nI_add, ni_sub, ni_div, ni_rem, ni_cl, ni_pred, nmod, ↓reduceIte, ile_t, ile_f, ilt_t, ilt_f, ieq_t, ieq_f, if_true_n, if_false_n, gi_n, nm_n, jn_n, bd1_n, bd2_n, bd3_n, bd4_n, bd5_n, bd6_n, h2, pk_us, e71, neg1_mul, one_mul9, add0_9, Int32.neg_neg, cb]
      · rw [pk_us, show q + 3 + 1 = (q + 3 + 1) by omega]
      · rw [pk_un hj, pk_un hj]
      · rw [show 64 * bm + (q + 3) = 64 * bm + (q + 3) by omega]
    · obtain ⟨g, hg6, hg0, hgf, e4g, e7g⟩ := fail_ex (f := f1) 6 (by omega) (by omega) hf1
      have e7h : f_X7_fail (nI 6) (nI g) = some (nI g) := X7_fail_1 hg0 (by omega)
      refine ⟨p1, g, d, cp, upd mp bm (nI (q + 3)), mn, cg, hp1, hg6, fun h9 => ⟨(hz h9).1, by have a1 := (hz h9).2; have a2 := hgf (by omega); omega⟩, ?_, ?_, by omega, fun h => absurd h hg0⟩
      · unfold f_X0_readNumber f_X0_goTo
        simp (disch := omega) only [lit, pk_mul, nI_add, ni_sub, ni_div, ni_rem, ni_cl, ni_pred, nmod, ↓reduceIte, ile_t, ile_f, ilt_t, ilt_f, ieq_t, ieq_f, if_true_n, if_false_n, gi_n, nm_n, jn_n, bd1_n, bd2_n, bd3_n, bd4_n, bd5_n, bd6_n, ta, tb, tc, td, h1, num0, e41, neg1_mul, one_mul9, add0_9, Int32.neg_neg, ineg_f, e4g, cb]
      · unfold f_X7_take f_X7_takeSigned f_X7_pass f_X7_put
        by_cases c64 : q + 3 ≤ 64
        · simp (disch := omega) only [lit, pk_mul, nI_add, ni_sub, ni_div, ni_rem, ni_cl, ni_pred, nmod, ↓reduceIte, ile_t, ile_f, ilt_t, ilt_f, ieq_t, ieq_f, if_true_n, if_false_n, gi_n, nm_n, jn_n, bd1_n, bd2_n, bd3_n, bd4_n, bd5_n, bd6_n, h2, pk_us, e71, neg1_mul, one_mul9, add0_9, Int32.neg_neg, e7g, cb]
        · simp (disch := omega) only [lit, pk_mul, nI_add, ni_sub, ni_div, ni_rem, ni_cl, ni_pred, nmod, ↓reduceIte, ile_t, ile_f, ilt_t, ilt_f, ieq_t, ieq_f, if_true_n, if_false_n, gi_n, nm_n, jn_n, bd1_n, bd2_n, bd3_n, bd4_n, bd5_n, bd6_n, h2, pk_us, e71, neg1_mul, one_mul9, add0_9, Int32.neg_neg, e7g, e7h, cb]
  · skip
    by_cases c : q + 3 < 64
    · skip
      refine ⟨p1, f1, d, upd cp bc (nI (q + 3 + 1)), upd (upd mp bm (nI (q + 3))) bm (nI (q + 3 + 1)), upd mn (64 * bm + (q + 3)) (nI (1)), updM cg bc (q + 3) (nI (1)), hp1, hf1, hz, ?_, ?_, by omega, fun _ => ⟨⟨(q + 3 + 1), by omega, by omega, rfl, ?_, fun j hj => ?_, Or.inl rfl, Or.inr ⟨(q + 3), _, by omega, sm_p (show 1 ≤ 612 by omega), rfl, ?_⟩⟩, fun h => h⟩⟩
      · unfold f_X0_readNumber f_X0_goTo
        simp (disch := omega) only [lit, pk_mul, nI_add, ni_sub, ni_div, ni_rem, ni_cl, ni_pred, nmod, ↓reduceIte, ile_t, ile_f, ilt_t, ilt_f, ieq_t, ieq_f, if_true_n, if_false_n, gi_n, nm_n, jn_n, bd1_n, bd2_n, bd3_n, bd4_n, bd5_n, bd6_n, ta, tb, tc, td, h1, num0, e41, neg1_mul, one_mul9, add0_9, Int32.neg_neg, ineg_f, cb]
      · unfold f_X7_take f_X7_takeSigned f_X7_pass f_X7_put f_X7_ends
        simp (disch := omega) only [lit, pk_mul, nI_add, ni_sub, ni_div, ni_rem, ni_cl, ni_pred, nmod, ↓reduceIte, ile_t, ile_f, ilt_t, ilt_f, ieq_t, ieq_f, if_true_n, if_false_n, gi_n, nm_n, jn_n, bd1_n, bd2_n, bd3_n, bd4_n, bd5_n, bd6_n, h2, pk_us, e71, neg1_mul, one_mul9, add0_9, Int32.neg_neg, cb]
      · rw [pk_us, show q + 3 + 1 = (q + 3 + 1) by omega]
      · rw [pk_un hj, pk_un hj]
      · rw [show 64 * bm + (q + 3) = 64 * bm + (q + 3) by omega]
    · obtain ⟨g, hg6, hg0, hgf, e4g, e7g⟩ := fail_ex (f := f1) 6 (by omega) (by omega) hf1
      have e7h : f_X7_fail (nI 6) (nI g) = some (nI g) := X7_fail_1 hg0 (by omega)
      refine ⟨p1, g, d, cp, upd mp bm (nI (q + 3)), mn, cg, hp1, hg6, fun h9 => ⟨(hz h9).1, by have a1 := (hz h9).2; have a2 := hgf (by omega); omega⟩, ?_, ?_, by omega, fun h => absurd h hg0⟩
      · unfold f_X0_readNumber f_X0_goTo
        simp (disch := omega) only [lit, pk_mul, nI_add, ni_sub, ni_div, ni_rem, ni_cl, ni_pred, nmod, ↓reduceIte, ile_t, ile_f, ilt_t, ilt_f, ieq_t, ieq_f, if_true_n, if_false_n, gi_n, nm_n, jn_n, bd1_n, bd2_n, bd3_n, bd4_n, bd5_n, bd6_n, ta, tb, tc, td, h1, num0, e41, neg1_mul, one_mul9, add0_9, Int32.neg_neg, ineg_f, e4g, cb]
      · unfold f_X7_take f_X7_takeSigned f_X7_pass f_X7_put
        by_cases c64 : q + 3 ≤ 64
        · simp (disch := omega) only [lit, pk_mul, nI_add, ni_sub, ni_div, ni_rem, ni_cl, ni_pred, nmod, ↓reduceIte, ile_t, ile_f, ilt_t, ilt_f, ieq_t, ieq_f, if_true_n, if_false_n, gi_n, nm_n, jn_n, bd1_n, bd2_n, bd3_n, bd4_n, bd5_n, bd6_n, h2, pk_us, e71, neg1_mul, one_mul9, add0_9, Int32.neg_neg, e7g, cb]
        · simp (disch := omega) only [lit, pk_mul, nI_add, ni_sub, ni_div, ni_rem, ni_cl, ni_pred, nmod, ↓reduceIte, ile_t, ile_f, ilt_t, ilt_f, ieq_t, ieq_f, if_true_n, if_false_n, gi_n, nm_n, jn_n, bd1_n, bd2_n, bd3_n, bd4_n, bd5_n, bd6_n, h2, pk_us, e71, neg1_mul, one_mul9, add0_9, Int32.neg_neg, e7g, e7h, cb]
theorem tk_24 {sz p f bc bm q d : Nat} {B cp mp mn : Nat → Int32} {cg : Nat → Nat → Int32} (hs : sz ≤ 6000) (hp : p ≤ 8 * sz) (hf : f ≤ 6) (hbc : bc < 36) (hbm : bm < 36) (hq : q < 64) (h1 : cp bc = nI q) (h2 : mp bm = nI q) : TR 24 sz p f bc bm q d B cp mp mn cg := by
  obtain ⟨ta, tb, tc, td⟩ := tb_24
  obtain ⟨b1, p1, f1, hb1, hp1, hf1, hz1, hy1, e41, e71⟩ := bit_ex B hs hp hf
  have hz : f ≠ 0 → p1 = p ∧ f1 = f := by
    intro h9
    have a1 := hz1 h9
    omega
  by_cases cb : b1 = 1
  · skip
    by_cases c : q + 4 < 64
    · skip
      refine ⟨p1, f1, d, upd cp bc (nI (q + 4 + 1)), upd (upd mp bm (nI (q + 4))) bm (nI (q + 4 + 1)), upd mn (64 * bm + (q + 4)) (-nI (1)), updM cg bc (q + 4) (-nI (1)), hp1, hf1, hz, ?_, ?_, by omega, fun _ => ⟨⟨(q + 4 + 1), by omega, by omega, rfl, ?_, fun j hj => ?_, Or.inl rfl, Or.inr ⟨(q + 4), _, by omega, sm_n (show 1 ≤ 612 by omega), rfl, ?_⟩⟩, fun h => h⟩⟩
      · unfold f_X0_readNumber f_X0_goTo
        simp (disch := omega) only [lit, pk_mul, nI_add, ni_sub, ni_div, ni_rem, ni_cl, ni_pred, nmod, ↓reduceIte, ile_t, ile_f, ilt_t, ilt_f, ieq_t, ieq_f, if_true_n, if_false_n, gi_n, nm_n, jn_n, bd1_n, bd2_n, bd3_n, bd4_n, bd5_n, bd6_n, ta, tb, tc, td, h1, num0, e41, neg1_mul, one_mul9, add0_9, Int32.neg_neg, ineg_f, cb]
      · unfold f_X7_take f_X7_takeSigned f_X7_pass f_X7_put f_X7_ends
        simp (disch := omega) only [lit, pk_mul, nI_add, ni_sub, ni_div, ni_rem, ni_cl, ni_pred, nmod, ↓reduceIte, ile_t, ile_f, ilt_t, ilt_f, ieq_t, ieq_f, if_true_n, if_false_n, gi_n, nm_n, jn_n, bd1_n, bd2_n, bd3_n, bd4_n, bd5_n, bd6_n, h2, pk_us, e71, neg1_mul, one_mul9, add0_9, Int32.neg_neg, cb]
      · rw [pk_us, show q + 4 + 1 = (q + 4 + 1) by omega]
      · rw [pk_un hj, pk_un hj]
      · rw [show 64 * bm + (q + 4) = 64 * bm + (q + 4) by omega]
    · obtain ⟨g, hg6, hg0, hgf, e4g, e7g⟩ := fail_ex (f := f1) 6 (by omega) (by omega) hf1
      have e7h : f_X7_fail (nI 6) (nI g) = some (nI g) := X7_fail_1 hg0 (by omega)
      refine ⟨p1, g, d, cp, upd mp bm (nI (q + 4)), mn, cg, hp1, hg6, fun h9 => ⟨(hz h9).1, by have a1 := (hz h9).2; have a2 := hgf (by omega); omega⟩, ?_, ?_, by omega, fun h => absurd h hg0⟩
      · unfold f_X0_readNumber f_X0_goTo
        simp (disch := omega) only [lit, pk_mul, nI_add, ni_sub, ni_div, ni_rem, ni_cl, ni_pred, nmod, ↓reduceIte, ile_t, ile_f, ilt_t, ilt_f, ieq_t, ieq_f, if_true_n, if_false_n, gi_n, nm_n, jn_n, bd1_n, bd2_n, bd3_n, bd4_n, bd5_n, bd6_n, ta, tb, tc, td, h1, num0, e41, neg1_mul, one_mul9, add0_9, Int32.neg_neg, ineg_f, e4g, cb]
      · unfold f_X7_take f_X7_takeSigned f_X7_pass f_X7_put
        by_cases c64 : q + 4 ≤ 64
        · simp (disch := omega) only [lit, pk_mul, nI_add, ni_sub, ni_div, ni_rem, ni_cl, ni_pred, nmod, ↓reduceIte, ile_t, ile_f, ilt_t, ilt_f, ieq_t, ieq_f, if_true_n, if_false_n, gi_n, nm_n, jn_n, bd1_n, bd2_n, bd3_n, bd4_n, bd5_n, bd6_n, h2, pk_us, e71, neg1_mul, one_mul9, add0_9, Int32.neg_neg, e7g, cb]
        · simp (disch := omega) only [lit, pk_mul, nI_add, ni_sub, ni_div, ni_rem, ni_cl, ni_pred, nmod, ↓reduceIte, ile_t, ile_f, ilt_t, ilt_f, ieq_t, ieq_f, if_true_n, if_false_n, gi_n, nm_n, jn_n, bd1_n, bd2_n, bd3_n, bd4_n, bd5_n, bd6_n, h2, pk_us, e71, neg1_mul, one_mul9, add0_9, Int32.neg_neg, e7g, e7h, cb]
  · skip
    by_cases c : q + 4 < 64
    · skip
      refine ⟨p1, f1, d, upd cp bc (nI (q + 4 + 1)), upd (upd mp bm (nI (q + 4))) bm (nI (q + 4 + 1)), upd mn (64 * bm + (q + 4)) (nI (1)), updM cg bc (q + 4) (nI (1)), hp1, hf1, hz, ?_, ?_, by omega, fun _ => ⟨⟨(q + 4 + 1), by omega, by omega, rfl, ?_, fun j hj => ?_, Or.inl rfl, Or.inr ⟨(q + 4), _, by omega, sm_p (show 1 ≤ 612 by omega), rfl, ?_⟩⟩, fun h => h⟩⟩
      · unfold f_X0_readNumber f_X0_goTo
        simp (disch := omega) only [lit, pk_mul, nI_add, ni_sub, ni_div, ni_rem, ni_cl, ni_pred, nmod, ↓reduceIte, ile_t, ile_f, ilt_t, ilt_f, ieq_t, ieq_f, if_true_n, if_false_n, gi_n, nm_n, jn_n, bd1_n, bd2_n, bd3_n, bd4_n, bd5_n, bd6_n, ta, tb, tc, td, h1, num0, e41, neg1_mul, one_mul9, add0_9, Int32.neg_neg, ineg_f, cb]
      · unfold f_X7_take f_X7_takeSigned f_X7_pass f_X7_put f_X7_ends
        simp (disch := omega) only [lit, pk_mul, nI_add, ni_sub, ni_div, ni_rem, ni_cl, ni_pred, nmod, ↓reduceIte, ile_t, ile_f, ilt_t, ilt_f, ieq_t, ieq_f, if_true_n, if_false_n, gi_n, nm_n, jn_n, bd1_n, bd2_n, bd3_n, bd4_n, bd5_n, bd6_n, h2, pk_us, e71, neg1_mul, one_mul9, add0_9, Int32.neg_neg, cb]
      · rw [pk_us, show q + 4 + 1 = (q + 4 + 1) by omega]
      · rw [pk_un hj, pk_un hj]
      · rw [show 64 * bm + (q + 4) = 64 * bm + (q + 4) by omega]
    · obtain ⟨g, hg6, hg0, hgf, e4g, e7g⟩ := fail_ex (f := f1) 6 (by omega) (by omega) hf1
      have e7h : f_X7_fail (nI 6) (nI g) = some (nI g) := X7_fail_1 hg0 (by omega)
      refine ⟨p1, g, d, cp, upd mp bm (nI (q + 4)), mn, cg, hp1, hg6, fun h9 => ⟨(hz h9).1, by have a1 := (hz h9).2; have a2 := hgf (by omega); omega⟩, ?_, ?_, by omega, fun h => absurd h hg0⟩
      · unfold f_X0_readNumber f_X0_goTo
        simp (disch := omega) only [lit, pk_mul, nI_add, ni_sub, ni_div, ni_rem, ni_cl, ni_pred, nmod, ↓reduceIte, ile_t, ile_f, ilt_t, ilt_f, ieq_t, ieq_f, if_true_n, if_false_n, gi_n, nm_n, jn_n, bd1_n, bd2_n, bd3_n, bd4_n, bd5_n, bd6_n, ta, tb, tc, td, h1, num0, e41, neg1_mul, one_mul9, add0_9, Int32.neg_neg, ineg_f, e4g, cb]
      · unfold f_X7_take f_X7_takeSigned f_X7_pass f_X7_put
        by_cases c64 : q + 4 ≤ 64
        · simp (disch := omega) only [lit, pk_mul, nI_add, ni_sub, ni_div, ni_rem, ni_cl, ni_pred, nmod, ↓reduceIte, ile_t, ile_f, ilt_t, ilt_f, ieq_t, ieq_f, if_true_n, if_false_n, gi_n, nm_n, jn_n, bd1_n, bd2_n, bd3_n, bd4_n, bd5_n, bd6_n, h2, pk_us, e71, neg1_mul, one_mul9, add0_9, Int32.neg_neg, e7g, cb]
        · simp (disch := omega) only [lit, pk_mul, nI_add, ni_sub, ni_div, ni_rem, ni_cl, ni_pred, nmod, ↓reduceIte, ile_t, ile_f, ilt_t, ilt_f, ieq_t, ieq_f, if_true_n, if_false_n, gi_n, nm_n, jn_n, bd1_n, bd2_n, bd3_n, bd4_n, bd5_n, bd6_n, h2, pk_us, e71, neg1_mul, one_mul9, add0_9, Int32.neg_neg, e7g, e7h, cb]
theorem tk_25 {sz p f bc bm q d : Nat} {B cp mp mn : Nat → Int32} {cg : Nat → Nat → Int32} (hs : sz ≤ 6000) (hp : p ≤ 8 * sz) (hf : f ≤ 6) (hbc : bc < 36) (hbm : bm < 36) (hq : q < 64) (h1 : cp bc = nI q) (h2 : mp bm = nI q) : TR 25 sz p f bc bm q d B cp mp mn cg := by
  obtain ⟨ta, tb, tc, td⟩ := tb_25
  obtain ⟨b1, p1, f1, hb1, hp1, hf1, hz1, hy1, e41, e71⟩ := bit_ex B hs hp hf
  have hz : f ≠ 0 → p1 = p ∧ f1 = f := by
    intro h9
    have a1 := hz1 h9
    omega
  by_cases cb : b1 = 1
  · skip
    by_cases c : q + 5 < 64
    · skip
      refine ⟨p1, f1, d, upd cp bc (nI (q + 5 + 1)), upd (upd mp bm (nI (q + 5))) bm (nI (q + 5 + 1)), upd mn (64 * bm + (q + 5)) (-nI (1)), updM cg bc (q + 5) (-nI (1)), hp1, hf1, hz, ?_, ?_, by omega, fun _ => ⟨⟨(q + 5 + 1), by omega, by omega, rfl, ?_, fun j hj => ?_, Or.inl rfl, Or.inr ⟨(q + 5), _, by omega, sm_n (show 1 ≤ 612 by omega), rfl, ?_⟩⟩, fun h => h⟩⟩
      · unfold f_X0_readNumber f_X0_goTo
        simp (disch := omega) only [lit, pk_mul, nI_add, ni_sub, ni_div, ni_rem, ni_cl, ni_pred, nmod, ↓reduceIte, ile_t, ile_f, ilt_t, ilt_f, ieq_t, ieq_f, if_true_n, if_false_n, gi_n, nm_n, jn_n, bd1_n, bd2_n, bd3_n, bd4_n, bd5_n, bd6_n, ta, tb, tc, td, h1, num0, e41, neg1_mul, one_mul9, add0_9, Int32.neg_neg, ineg_f, cb]
      · unfold f_X7_take f_X7_takeSigned f_X7_pass f_X7_put f_X7_ends
        simp (disch := omega) only [lit, pk_mul, nI_add, ni_sub, ni_div, ni_rem, ni_cl, ni_pred, nmod, ↓reduceIte, ile_t, ile_f, ilt_t, ilt_f, ieq_t, ieq_f, if_true_n, if_false_n, gi_n, nm_n, jn_n, bd1_n, bd2_n, bd3_n, bd4_n, bd5_n, bd6_n, h2, pk_us, e71, neg1_mul, one_mul9, add0_9, Int32.neg_neg, cb]
      · rw [pk_us, show q + 5 + 1 = (q + 5 + 1) by omega]
      · rw [pk_un hj, pk_un hj]
      · rw [show 64 * bm + (q + 5) = 64 * bm + (q + 5) by omega]
    · obtain ⟨g, hg6, hg0, hgf, e4g, e7g⟩ := fail_ex (f := f1) 6 (by omega) (by omega) hf1
      have e7h : f_X7_fail (nI 6) (nI g) = some (nI g) := X7_fail_1 hg0 (by omega)
      refine ⟨p1, g, d, cp, upd mp bm (nI (q + 5)), mn, cg, hp1, hg6, fun h9 => ⟨(hz h9).1, by have a1 := (hz h9).2; have a2 := hgf (by omega); omega⟩, ?_, ?_, by omega, fun h => absurd h hg0⟩
      · unfold f_X0_readNumber f_X0_goTo
        simp (disch := omega) only [lit, pk_mul, nI_add, ni_sub, ni_div, ni_rem, ni_cl, ni_pred, nmod, ↓reduceIte, ile_t, ile_f, ilt_t, ilt_f, ieq_t, ieq_f, if_true_n, if_false_n, gi_n, nm_n, jn_n, bd1_n, bd2_n, bd3_n, bd4_n, bd5_n, bd6_n, ta, tb, tc, td, h1, num0, e41, neg1_mul, one_mul9, add0_9, Int32.neg_neg, ineg_f, e4g, cb]
      · unfold f_X7_take f_X7_takeSigned f_X7_pass f_X7_put
        by_cases c64 : q + 5 ≤ 64
        · simp (disch := omega) only [lit, pk_mul, nI_add, ni_sub, ni_div, ni_rem, ni_cl, ni_pred, nmod, ↓reduceIte, ile_t, ile_f, ilt_t, ilt_f, ieq_t, ieq_f, if_true_n, if_false_n, gi_n, nm_n, jn_n, bd1_n, bd2_n, bd3_n, bd4_n, bd5_n, bd6_n, h2, pk_us, e71, neg1_mul, one_mul9, add0_9, Int32.neg_neg, e7g, cb]
        · simp (disch := omega) only [lit, pk_mul, nI_add, ni_sub, ni_div, ni_rem, ni_cl, ni_pred, nmod, ↓reduceIte, ile_t, ile_f, ilt_t, ilt_f, ieq_t, ieq_f, if_true_n, if_false_n, gi_n, nm_n, jn_n, bd1_n, bd2_n, bd3_n, bd4_n, bd5_n, bd6_n, h2, pk_us, e71, neg1_mul, one_mul9, add0_9, Int32.neg_neg, e7g, e7h, cb]
  · skip
    by_cases c : q + 5 < 64
    · skip
      refine ⟨p1, f1, d, upd cp bc (nI (q + 5 + 1)), upd (upd mp bm (nI (q + 5))) bm (nI (q + 5 + 1)), upd mn (64 * bm + (q + 5)) (nI (1)), updM cg bc (q + 5) (nI (1)), hp1, hf1, hz, ?_, ?_, by omega, fun _ => ⟨⟨(q + 5 + 1), by omega, by omega, rfl, ?_, fun j hj => ?_, Or.inl rfl, Or.inr ⟨(q + 5), _, by omega, sm_p (show 1 ≤ 612 by omega), rfl, ?_⟩⟩, fun h => h⟩⟩
      · unfold f_X0_readNumber f_X0_goTo
        simp (disch := omega) only [lit, pk_mul, nI_add, ni_sub, ni_div, ni_rem, ni_cl, ni_pred, nmod, ↓reduceIte, ile_t, ile_f, ilt_t, ilt_f, ieq_t, ieq_f, if_true_n, if_false_n, gi_n, nm_n, jn_n, bd1_n, bd2_n, bd3_n, bd4_n, bd5_n, bd6_n, ta, tb, tc, td, h1, num0, e41, neg1_mul, one_mul9, add0_9, Int32.neg_neg, ineg_f, cb]
      · unfold f_X7_take f_X7_takeSigned f_X7_pass f_X7_put f_X7_ends
        simp (disch := omega) only [lit, pk_mul, nI_add, ni_sub, ni_div, ni_rem, ni_cl, ni_pred, nmod, ↓reduceIte, ile_t, ile_f, ilt_t, ilt_f, ieq_t, ieq_f, if_true_n, if_false_n, gi_n, nm_n, jn_n, bd1_n, bd2_n, bd3_n, bd4_n, bd5_n, bd6_n, h2, pk_us, e71, neg1_mul, one_mul9, add0_9, Int32.neg_neg, cb]
      · rw [pk_us, show q + 5 + 1 = (q + 5 + 1) by omega]
      · rw [pk_un hj, pk_un hj]
      · rw [show 64 * bm + (q + 5) = 64 * bm + (q + 5) by omega]
    · obtain ⟨g, hg6, hg0, hgf, e4g, e7g⟩ := fail_ex (f := f1) 6 (by omega) (by omega) hf1
      have e7h : f_X7_fail (nI 6) (nI g) = some (nI g) := X7_fail_1 hg0 (by omega)
      refine ⟨p1, g, d, cp, upd mp bm (nI (q + 5)), mn, cg, hp1, hg6, fun h9 => ⟨(hz h9).1, by have a1 := (hz h9).2; have a2 := hgf (by omega); omega⟩, ?_, ?_, by omega, fun h => absurd h hg0⟩
      · unfold f_X0_readNumber f_X0_goTo
        simp (disch := omega) only [lit, pk_mul, nI_add, ni_sub, ni_div, ni_rem, ni_cl, ni_pred, nmod, ↓reduceIte, ile_t, ile_f, ilt_t, ilt_f, ieq_t, ieq_f, if_true_n, if_false_n, gi_n, nm_n, jn_n, bd1_n, bd2_n, bd3_n, bd4_n, bd5_n, bd6_n, ta, tb, tc, td, h1, num0, e41, neg1_mul, one_mul9, add0_9, Int32.neg_neg, ineg_f, e4g, cb]
      · unfold f_X7_take f_X7_takeSigned f_X7_pass f_X7_put
        by_cases c64 : q + 5 ≤ 64
        · simp (disch := omega) only [lit, pk_mul, nI_add, ni_sub, ni_div, ni_rem, ni_cl, ni_pred, nmod, ↓reduceIte, ile_t, ile_f, ilt_t, ilt_f, ieq_t, ieq_f, if_true_n, if_false_n, gi_n, nm_n, jn_n, bd1_n, bd2_n, bd3_n, bd4_n, bd5_n, bd6_n, h2, pk_us, e71, neg1_mul, one_mul9, add0_9, Int32.neg_neg, e7g, cb]
        · simp (disch := omega) only [lit, pk_mul, nI_add, ni_sub, ni_div, ni_rem, ni_cl, ni_pred, nmod, ↓reduceIte, ile_t, ile_f, ilt_t, ilt_f, ieq_t, ieq_f, if_true_n, if_false_n, gi_n, nm_n, jn_n, bd1_n, bd2_n, bd3_n, bd4_n, bd5_n, bd6_n, h2, pk_us, e71, neg1_mul, one_mul9, add0_9, Int32.neg_neg, e7g, e7h, cb]
theorem tk_26 {sz p f bc bm q d : Nat} {B cp mp mn : Nat → Int32} {cg : Nat → Nat → Int32} (hs : sz ≤ 6000) (hp : p ≤ 8 * sz) (hf : f ≤ 6) (hbc : bc < 36) (hbm : bm < 36) (hq : q < 64) (h1 : cp bc = nI q) (h2 : mp bm = nI q) : TR 26 sz p f bc bm q d B cp mp mn cg := by
  obtain ⟨ta, tb, tc, td⟩ := tb_26
  obtain ⟨b1, p1, f1, hb1, hp1, hf1, hz1, hy1, e41, e71⟩ := bit_ex B hs hp hf
  obtain ⟨pv, p3, f3, hpv, hp3, hf3, hz3, e43, e73⟩ := bits_ex (N := 2) B hs hp1 hf1 (by omega)
  have hpv : pv < 4 := hpv
  have hz : f ≠ 0 → p3 = p ∧ f3 = f := by
    intro h9
    have a1 := hz1 h9
    have a3 := hz3 (by omega)
    omega
  by_cases cb : b1 = 1
  · skip
    by_cases c : q + 6 + pv < 64
    · skip
      refine ⟨p3, f3, d, upd cp bc (nI (q + 6 + pv + 1)), upd (upd mp bm (nI (q + (6 + pv)))) bm (nI (q + (6 + pv) + 1)), upd mn (64 * bm + (q + (6 + pv))) (-nI (1)), updM cg bc (q + 6 + pv) (-nI (1)), hp3, hf3, hz, ?_, ?_, by omega, fun _ => ⟨⟨(q + 6 + pv + 1), by omega, by omega, rfl, ?_, fun j hj => ?_, Or.inl rfl, Or.inr ⟨(q + 6 + pv), _, by omega, sm_n (show 1 ≤ 612 by omega), rfl, ?_⟩⟩, fun h => h⟩⟩
      · unfold f_X0_readNumber f_X0_goTo
        simp (disch := omega) only [lit, pk_mul, nI_add, ni_sub, ni_div, ni_rem, ni_cl, ni_pred, nmod, ↓reduceIte, ile_t, ile_f, ilt_t, ilt_f, ieq_t, ieq_f, if_true_n, if_false_n, gi_n, nm_n, jn_n, bd1_n, bd2_n, bd3_n, bd4_n, bd5_n, bd6_n, ta, tb, tc, td, h1, num0, e41, e43, neg1_mul, one_mul9, add0_9, Int32.neg_neg, ineg_f, cb]
      · unfold f_X7_take f_X7_takeSigned f_X7_pass f_X7_put f_X7_ends
        simp (disch := omega) only [lit, pk_mul, nI_add, ni_sub, ni_div, ni_rem, ni_cl, ni_pred, nmod, ↓reduceIte, ile_t, ile_f, ilt_t, ilt_f, ieq_t, ieq_f, if_true_n, if_false_n, gi_n, nm_n, jn_n, bd1_n, bd2_n, bd3_n, bd4_n, bd5_n, bd6_n, h2, pk_us, e71, e73, neg1_mul, one_mul9, add0_9, Int32.neg_neg, cb]
      · rw [pk_us, show q + (6 + pv) + 1 = (q + 6 + pv + 1) by omega]
      · rw [pk_un hj, pk_un hj]
      · rw [show 64 * bm + (q + (6 + pv)) = 64 * bm + (q + 6 + pv) by omega]
    · obtain ⟨g, hg6, hg0, hgf, e4g, e7g⟩ := fail_ex (f := f3) 6 (by omega) (by omega) hf3
      have e7h : f_X7_fail (nI 6) (nI g) = some (nI g) := X7_fail_1 hg0 (by omega)
      refine ⟨p3, g, d, cp, upd mp bm (nI (q + (6 + pv))), mn, cg, hp3, hg6, fun h9 => ⟨(hz h9).1, by have a1 := (hz h9).2; have a2 := hgf (by omega); omega⟩, ?_, ?_, by omega, fun h => absurd h hg0⟩
      · unfold f_X0_readNumber f_X0_goTo
        simp (disch := omega) only [lit, pk_mul, nI_add, ni_sub, ni_div, ni_rem, ni_cl, ni_pred, nmod, ↓reduceIte, ile_t, ile_f, ilt_t, ilt_f, ieq_t, ieq_f, if_true_n, if_false_n, gi_n, nm_n, jn_n, bd1_n, bd2_n, bd3_n, bd4_n, bd5_n, bd6_n, ta, tb, tc, td, h1, num0, e41, e43, neg1_mul, one_mul9, add0_9, Int32.neg_neg, ineg_f, e4g, cb]
      · unfold f_X7_take f_X7_takeSigned f_X7_pass f_X7_put
        by_cases c64 : q + 6 + pv ≤ 64
        · simp (disch := omega) only [lit, pk_mul, nI_add, ni_sub, ni_div, ni_rem, ni_cl, ni_pred, nmod, ↓reduceIte, ile_t, ile_f, ilt_t, ilt_f, ieq_t, ieq_f, if_true_n, if_false_n, gi_n, nm_n, jn_n, bd1_n, bd2_n, bd3_n, bd4_n, bd5_n, bd6_n, h2, pk_us, e71, e73, neg1_mul, one_mul9, add0_9, Int32.neg_neg, e7g, cb]
        · simp (disch := omega) only [lit, pk_mul, nI_add, ni_sub, ni_div, ni_rem, ni_cl, ni_pred, nmod, ↓reduceIte, ile_t, ile_f, ilt_t, ilt_f, ieq_t, ieq_f, if_true_n, if_false_n, gi_n, nm_n, jn_n, bd1_n, bd2_n, bd3_n, bd4_n, bd5_n, bd6_n, h2, pk_us, e71, e73, neg1_mul, one_mul9, add0_9, Int32.neg_neg, e7g, e7h, cb]
  · skip
    by_cases c : q + 6 + pv < 64
    · skip
      refine ⟨p3, f3, d, upd cp bc (nI (q + 6 + pv + 1)), upd (upd mp bm (nI (q + (6 + pv)))) bm (nI (q + (6 + pv) + 1)), upd mn (64 * bm + (q + (6 + pv))) (nI (1)), updM cg bc (q + 6 + pv) (nI (1)), hp3, hf3, hz, ?_, ?_, by omega, fun _ => ⟨⟨(q + 6 + pv + 1), by omega, by omega, rfl, ?_, fun j hj => ?_, Or.inl rfl, Or.inr ⟨(q + 6 + pv), _, by omega, sm_p (show 1 ≤ 612 by omega), rfl, ?_⟩⟩, fun h => h⟩⟩
      · unfold f_X0_readNumber f_X0_goTo
        simp (disch := omega) only [lit, pk_mul, nI_add, ni_sub, ni_div, ni_rem, ni_cl, ni_pred, nmod, ↓reduceIte, ile_t, ile_f, ilt_t, ilt_f, ieq_t, ieq_f, if_true_n, if_false_n, gi_n, nm_n, jn_n, bd1_n, bd2_n, bd3_n, bd4_n, bd5_n, bd6_n, ta, tb, tc, td, h1, num0, e41, e43, neg1_mul, one_mul9, add0_9, Int32.neg_neg, ineg_f, cb]
      · unfold f_X7_take f_X7_takeSigned f_X7_pass f_X7_put f_X7_ends
        simp (disch := omega) only [lit, pk_mul, nI_add, ni_sub, ni_div, ni_rem, ni_cl, ni_pred, nmod, ↓reduceIte, ile_t, ile_f, ilt_t, ilt_f, ieq_t, ieq_f, if_true_n, if_false_n, gi_n, nm_n, jn_n, bd1_n, bd2_n, bd3_n, bd4_n, bd5_n, bd6_n, h2, pk_us, e71, e73, neg1_mul, one_mul9, add0_9, Int32.neg_neg, cb]
      · rw [pk_us, show q + (6 + pv) + 1 = (q + 6 + pv + 1) by omega]
      · rw [pk_un hj, pk_un hj]
      · rw [show 64 * bm + (q + (6 + pv)) = 64 * bm + (q + 6 + pv) by omega]
    · obtain ⟨g, hg6, hg0, hgf, e4g, e7g⟩ := fail_ex (f := f3) 6 (by omega) (by omega) hf3
      have e7h : f_X7_fail (nI 6) (nI g) = some (nI g) := X7_fail_1 hg0 (by omega)
      refine ⟨p3, g, d, cp, upd mp bm (nI (q + (6 + pv))), mn, cg, hp3, hg6, fun h9 => ⟨(hz h9).1, by have a1 := (hz h9).2; have a2 := hgf (by omega); omega⟩, ?_, ?_, by omega, fun h => absurd h hg0⟩
      · unfold f_X0_readNumber f_X0_goTo
        simp (disch := omega) only [lit, pk_mul, nI_add, ni_sub, ni_div, ni_rem, ni_cl, ni_pred, nmod, ↓reduceIte, ile_t, ile_f, ilt_t, ilt_f, ieq_t, ieq_f, if_true_n, if_false_n, gi_n, nm_n, jn_n, bd1_n, bd2_n, bd3_n, bd4_n, bd5_n, bd6_n, ta, tb, tc, td, h1, num0, e41, e43, neg1_mul, one_mul9, add0_9, Int32.neg_neg, ineg_f, e4g, cb]
      · unfold f_X7_take f_X7_takeSigned f_X7_pass f_X7_put
        by_cases c64 : q + 6 + pv ≤ 64
        · simp (disch := omega) only [lit, pk_mul, nI_add, ni_sub, ni_div, ni_rem, ni_cl, ni_pred, nmod, ↓reduceIte, ile_t, ile_f, ilt_t, ilt_f, ieq_t, ieq_f, if_true_n, if_false_n, gi_n, nm_n, jn_n, bd1_n, bd2_n, bd3_n, bd4_n, bd5_n, bd6_n, h2, pk_us, e71, e73, neg1_mul, one_mul9, add0_9, Int32.neg_neg, e7g, cb]
        · simp (disch := omega) only [lit, pk_mul, nI_add, ni_sub, ni_div, ni_rem, ni_cl, ni_pred, nmod, ↓reduceIte, ile_t, ile_f, ilt_t, ilt_f, ieq_t, ieq_f, if_true_n, if_false_n, gi_n, nm_n, jn_n, bd1_n, bd2_n, bd3_n, bd4_n, bd5_n, bd6_n, h2, pk_us, e71, e73, neg1_mul, one_mul9, add0_9, Int32.neg_neg, e7g, e7h, cb]
theorem tk_27 {sz p f bc bm q d : Nat} {B cp mp mn : Nat → Int32} {cg : Nat → Nat → Int32} (hs : sz ≤ 6000) (hp : p ≤ 8 * sz) (hf : f ≤ 6) (hbc : bc < 36) (hbm : bm < 36) (hq : q < 64) (h1 : cp bc = nI q) (h2 : mp bm = nI q) : TR 27 sz p f bc bm q d B cp mp mn cg := by
  obtain ⟨ta, tb, tc, td⟩ := tb_27
  obtain ⟨b1, p1, f1, hb1, hp1, hf1, hz1, hy1, e41, e71⟩ := bit_ex B hs hp hf
  obtain ⟨pv, p3, f3, hpv, hp3, hf3, hz3, e43, e73⟩ := bits_ex (N := 3) B hs hp1 hf1 (by omega)
  have hpv : pv < 8 := hpv
  have hz : f ≠ 0 → p3 = p ∧ f3 = f := by
    intro h9
    have a1 := hz1 h9
    have a3 := hz3 (by omega)
    omega
  by_cases cb : b1 = 1
  · skip
    by_cases c : q + 10 + pv < 64
    · skip
      refine ⟨p3, f3, d, upd cp bc (nI (q + 10 + pv + 1)), upd (upd mp bm (nI (q + (10 + pv)))) bm (nI (q + (10 + pv) + 1)), upd mn (64 * bm + (q + (10 + pv))) (-nI (1)), updM cg bc (q + 10 + pv) (-nI (1)), hp3, hf3, hz, ?_, ?_, by omega, fun _ => ⟨⟨(q + 10 + pv + 1), by omega, by omega, rfl, ?_, fun j hj => ?_, Or.inl rfl, Or.inr ⟨(q + 10 + pv), _, by omega, sm_n (show 1 ≤ 612 by omega), rfl, ?_⟩⟩, fun h => h⟩⟩
      · unfold f_X0_readNumber f_X0_goTo
        simp (disch := omega) only [lit, pk_mul, nI_add, ni_sub, ni_div, ni_rem, ni_cl, ni_pred, nmod, ↓reduceIte, ile_t, ile_f, ilt_t, ilt_f, ieq_t, ieq_f, if_true_n, if_false_n, gi_n, nm_n, jn_n, bd1_n, bd2_n, bd3_n, bd4_n, bd5_n, bd6_n, ta, tb, tc, td, h1, num0, e41, e43, neg1_mul, one_mul9, add0_9, Int32.neg_neg, ineg_f, cb]
      · unfold f_X7_take f_X7_takeSigned f_X7_pass f_X7_put f_X7_ends
        simp (disch := omega) only [lit, pk_mul, nI_add, ni_sub, ni_div, ni_rem, ni_cl, ni_pred, nmod, ↓reduceIte, ile_t, ile_f, ilt_t, ilt_f, ieq_t, ieq_f, if_true_n, if_false_n, gi_n, nm_n, jn_n, bd1_n, bd2_n, bd3_n, bd4_n, bd5_n, bd6_n, h2, pk_us, e71, e73, neg1_mul, one_mul9, add0_9, Int32.neg_neg, cb]
      · rw [pk_us, show q + (10 + pv) + 1 = (q + 10 + pv + 1) by omega]
      · rw [pk_un hj, pk_un hj]
      · rw [show 64 * bm + (q + (10 + pv)) = 64 * bm + (q + 10 + pv) by omega]
    · obtain ⟨g, hg6, hg0, hgf, e4g, e7g⟩ := fail_ex (f := f3) 6 (by omega) (by omega) hf3
      have e7h : f_X7_fail (nI 6) (nI g) = some (nI g) := X7_fail_1 hg0 (by omega)
      refine ⟨p3, g, d, cp, upd mp bm (nI (q + (10 + pv))), mn, cg, hp3, hg6, fun h9 => ⟨(hz h9).1, by have a1 := (hz h9).2; have a2 := hgf (by omega); omega⟩, ?_, ?_, by omega, fun h => absurd h hg0⟩
      · unfold f_X0_readNumber f_X0_goTo
        simp (disch := omega) only [lit, pk_mul, nI_add, ni_sub, ni_div, ni_rem, ni_cl, ni_pred, nmod, ↓reduceIte, ile_t, ile_f, ilt_t, ilt_f, ieq_t, ieq_f, if_true_n, if_false_n, gi_n, nm_n, jn_n, bd1_n, bd2_n, bd3_n, bd4_n, bd5_n, bd6_n, ta, tb, tc, td, h1, num0, e41, e43, neg1_mul, one_mul9, add0_9, Int32.neg_neg, ineg_f, e4g, cb]
      · unfold f_X7_take f_X7_takeSigned f_X7_pass f_X7_put
        by_cases c64 : q + 10 + pv ≤ 64
        · simp (disch := omega) only [lit, pk_mul, nI_add, ni_sub, ni_div, ni_rem, ni_cl, ni_pred, nmod, ↓reduceIte, ile_t, ile_f, ilt_t, ilt_f, ieq_t, ieq_f, if_true_n, if_false_n, gi_n, nm_n, jn_n, bd1_n, bd2_n, bd3_n, bd4_n, bd5_n, bd6_n, h2, pk_us, e71, e73, neg1_mul, one_mul9, add0_9, Int32.neg_neg, e7g, cb]
        · simp (disch := omega) only [lit, pk_mul, nI_add, ni_sub, ni_div, ni_rem, ni_cl, ni_pred, nmod, ↓reduceIte, ile_t, ile_f, ilt_t, ilt_f, ieq_t, ieq_f, if_true_n, if_false_n, gi_n, nm_n, jn_n, bd1_n, bd2_n, bd3_n, bd4_n, bd5_n, bd6_n, h2, pk_us, e71, e73, neg1_mul, one_mul9, add0_9, Int32.neg_neg, e7g, e7h, cb]
  · skip
    by_cases c : q + 10 + pv < 64
    · skip
      refine ⟨p3, f3, d, upd cp bc (nI (q + 10 + pv + 1)), upd (upd mp bm (nI (q + (10 + pv)))) bm (nI (q + (10 + pv) + 1)), upd mn (64 * bm + (q + (10 + pv))) (nI (1)), updM cg bc (q + 10 + pv) (nI (1)), hp3, hf3, hz, ?_, ?_, by omega, fun _ => ⟨⟨(q + 10 + pv + 1), by omega, by omega, rfl, ?_, fun j hj => ?_, Or.inl rfl, Or.inr ⟨(q + 10 + pv), _, by omega, sm_p (show 1 ≤ 612 by omega), rfl, ?_⟩⟩, fun h => h⟩⟩
      · unfold f_X0_readNumber f_X0_goTo
        simp (disch := omega) only [lit, pk_mul, nI_add, ni_sub, ni_div, ni_rem, ni_cl, ni_pred, nmod, ↓reduceIte, ile_t, ile_f, ilt_t, ilt_f, ieq_t, ieq_f, if_true_n, if_false_n, gi_n, nm_n, jn_n, bd1_n, bd2_n, bd3_n, bd4_n, bd5_n, bd6_n, ta, tb, tc, td, h1, num0, e41, e43, neg1_mul, one_mul9, add0_9, Int32.neg_neg, ineg_f, cb]
      · unfold f_X7_take f_X7_takeSigned f_X7_pass f_X7_put f_X7_ends
        simp (disch := omega) only [lit, pk_mul, nI_add, ni_sub, ni_div, ni_rem, ni_cl, ni_pred, nmod, ↓reduceIte, ile_t, ile_f, ilt_t, ilt_f, ieq_t, ieq_f, if_true_n, if_false_n, gi_n, nm_n, jn_n, bd1_n, bd2_n, bd3_n, bd4_n, bd5_n, bd6_n, h2, pk_us, e71, e73, neg1_mul, one_mul9, add0_9, Int32.neg_neg, cb]
      · rw [pk_us, show q + (10 + pv) + 1 = (q + 10 + pv + 1) by omega]
      · rw [pk_un hj, pk_un hj]
      · rw [show 64 * bm + (q + (10 + pv)) = 64 * bm + (q + 10 + pv) by omega]
    · obtain ⟨g, hg6, hg0, hgf, e4g, e7g⟩ := fail_ex (f := f3) 6 (by omega) (by omega) hf3
      have e7h : f_X7_fail (nI 6) (nI g) = some (nI g) := X7_fail_1 hg0 (by omega)
      refine ⟨p3, g, d, cp, upd mp bm (nI (q + (10 + pv))), mn, cg, hp3, hg6, fun h9 => ⟨(hz h9).1, by have a1 := (hz h9).2; have a2 := hgf (by omega); omega⟩, ?_, ?_, by omega, fun h => absurd h hg0⟩
      · unfold f_X0_readNumber f_X0_goTo
        simp (disch := omega) only [lit, pk_mul, nI_add, ni_sub, ni_div, ni_rem, ni_cl, ni_pred, nmod, ↓reduceIte, ile_t, ile_f, ilt_t, ilt_f, ieq_t, ieq_f, if_true_n, if_false_n, gi_n, nm_n, jn_n, bd1_n, bd2_n, bd3_n, bd4_n, bd5_n, bd6_n, ta, tb, tc, td, h1, num0, e41, e43, neg1_mul, one_mul9, add0_9, Int32.neg_neg, ineg_f, e4g, cb]
      · unfold f_X7_take f_X7_takeSigned f_X7_pass f_X7_put
        by_cases c64 : q + 10 + pv ≤ 64
        · simp (disch := omega) only [lit, pk_mul, nI_add, ni_sub, ni_div, ni_rem, ni_cl, ni_pred, nmod, ↓reduceIte, ile_t, ile_f, ilt_t, ilt_f, ieq_t, ieq_f, if_true_n, if_false_n, gi_n, nm_n, jn_n, bd1_n, bd2_n, bd3_n, bd4_n, bd5_n, bd6_n, h2, pk_us, e71, e73, neg1_mul, one_mul9, add0_9, Int32.neg_neg, e7g, cb]
        · simp (disch := omega) only [lit, pk_mul, nI_add, ni_sub, ni_div, ni_rem, ni_cl, ni_pred, nmod, ↓reduceIte, ile_t, ile_f, ilt_t, ilt_f, ieq_t, ieq_f, if_true_n, if_false_n, gi_n, nm_n, jn_n, bd1_n, bd2_n, bd3_n, bd4_n, bd5_n, bd6_n, h2, pk_us, e71, e73, neg1_mul, one_mul9, add0_9, Int32.neg_neg, e7g, e7h, cb]
theorem tk_28 {sz p f bc bm q d : Nat} {B cp mp mn : Nat → Int32} {cg : Nat → Nat → Int32} (hs : sz ≤ 6000) (hp : p ≤ 8 * sz) (hf : f ≤ 6) (hbc : bc < 36) (hbm : bm < 36) (hq : q < 64) (h1 : cp bc = nI q) (h2 : mp bm = nI q) : TR 28 sz p f bc bm q d B cp mp mn cg := by
  obtain ⟨ta, tb, tc, td⟩ := tb_28
  obtain ⟨b1, p1, f1, hb1, hp1, hf1, hz1, hy1, e41, e71⟩ := bit_ex B hs hp hf
  obtain ⟨nv, p2, f2, hnv, hp2, hf2, hz2, hy2, e42, e72⟩ := bit_ex B hs hp1 hf1
  have hz : f ≠ 0 → p2 = p ∧ f2 = f := by
    intro h9
    have a1 := hz1 h9
    have a2 := hz2 (by omega)
    omega
  by_cases cb : b1 = 1
  · skip
    by_cases c : q + 1 < 64
    · skip
      refine ⟨p2, f2, d, upd cp bc (nI (q + 1 + 1)), upd (upd mp bm (nI (q + 1))) bm (nI (q + 1 + 1)), upd mn (64 * bm + (q + 1)) (-nI (2 + nv)), updM cg bc (q + 1) (-nI (2 + nv)), hp2, hf2, hz, ?_, ?_, by omega, fun _ => ⟨⟨(q + 1 + 1), by omega, by omega, rfl, ?_, fun j hj => ?_, Or.inl rfl, Or.inr ⟨(q + 1), _, by omega, sm_n (show 2 + nv ≤ 612 by omega), rfl, ?_⟩⟩, fun h => h⟩⟩
      · unfold f_X0_readNumber f_X0_goTo
        simp (disch := omega) only [lit, pk_mul, nI_add, ni_sub, ni_div, ni_rem, ni_cl, ni_pred, nmod, ↓reduceIte, ile_t, ile_f, ilt_t, ilt_f, ieq_t, ieq_f, if_true_n, if_false_n, gi_n, nm_n, jn_n, bd1_n, bd2_n, bd3_n, bd4_n, bd5_n, bd6_n, ta, tb, tc, td, h1, num0, e41, num1 e42, neg1_mul, one_mul9, add0_9, Int32.neg_neg, ineg_f, cb]
      · unfold f_X7_take f_X7_takeSigned f_X7_pass f_X7_put f_X7_ends
        simp (disch := omega) only [lit, pk_mul, nI_add, ni_sub, ni_div, ni_rem, ni_cl, ni_pred, nmod, ↓reduceIte, ile_t, ile_f, ilt_t, ilt_f, ieq_t, ieq_f, if_true_n, if_false_n, gi_n, nm_n, jn_n, bd1_n, bd2_n, bd3_n, bd4_n, bd5_n, bd6_n, h2, pk_us, e71, e72, neg1_mul, one_mul9, add0_9, Int32.neg_neg, cb]
      · rw [pk_us, show q + 1 + 1 = (q + 1 + 1) by omega]
      · rw [pk_un hj, pk_un hj]
      · rw [show 64 * bm + (q + 1) = 64 * bm + (q + 1) by omega]
    · obtain ⟨g, hg6, hg0, hgf, e4g, e7g⟩ := fail_ex (f := f2) 6 (by omega) (by omega) hf2
      have e7h : f_X7_fail (nI 6) (nI g) = some (nI g) := X7_fail_1 hg0 (by omega)
      refine ⟨p2, g, d, cp, upd mp bm (nI (q + 1)), mn, cg, hp2, hg6, fun h9 => ⟨(hz h9).1, by have a1 := (hz h9).2; have a2 := hgf (by omega); omega⟩, ?_, ?_, by omega, fun h => absurd h hg0⟩
      · unfold f_X0_readNumber f_X0_goTo
        simp (disch := omega) only [lit, pk_mul, nI_add, ni_sub, ni_div, ni_rem, ni_cl, ni_pred, nmod, ↓reduceIte, ile_t, ile_f, ilt_t, ilt_f, ieq_t, ieq_f, if_true_n, if_false_n, gi_n, nm_n, jn_n, bd1_n, bd2_n, bd3_n, bd4_n, bd5_n, bd6_n, ta, tb, tc, td, h1, num0, e41, num1 e42, neg1_mul, one_mul9, add0_9, Int32.neg_neg, ineg_f, e4g, cb]
      · unfold f_X7_take f_X7_takeSigned f_X7_pass f_X7_put
        by_cases c64 : q + 1 ≤ 64
        · simp (disch := omega) only [lit, pk_mul, nI_add, ni_sub, ni_div, ni_rem, ni_cl, ni_pred, nmod, ↓reduceIte, ile_t, ile_f, ilt_t, ilt_f, ieq_t, ieq_f, if_true_n, if_false_n, gi_n, nm_n, jn_n, bd1_n, bd2_n, bd3_n, bd4_n, bd5_n, bd6_n, h2, pk_us, e71, e72, neg1_mul, one_mul9, add0_9, Int32.neg_neg, e7g, cb]
        · exact absurd c64 (by omega)
  · skip
    by_cases c : q + 1 < 64
    · skip
      refine ⟨p2, f2, d, upd cp bc (nI (q + 1 + 1)), upd (upd mp bm (nI (q + 1))) bm (nI (q + 1 + 1)), upd mn (64 * bm + (q + 1)) (nI (2 + nv)), updM cg bc (q + 1) (nI (2 + nv)), hp2, hf2, hz, ?_, ?_, by omega, fun _ => ⟨⟨(q + 1 + 1), by omega, by omega, rfl, ?_, fun j hj => ?_, Or.inl rfl, Or.inr ⟨(q + 1), _, by omega, sm_p (show 2 + nv ≤ 612 by omega), rfl, ?_⟩⟩, fun h => h⟩⟩
      · unfold f_X0_readNumber f_X0_goTo
        simp (disch := omega) only [lit, pk_mul, nI_add, ni_sub, ni_div, ni_rem, ni_cl, ni_pred, nmod, ↓reduceIte, ile_t, ile_f, ilt_t, ilt_f, ieq_t, ieq_f, if_true_n, if_false_n, gi_n, nm_n, jn_n, bd1_n, bd2_n, bd3_n, bd4_n, bd5_n, bd6_n, ta, tb, tc, td, h1, num0, e41, num1 e42, neg1_mul, one_mul9, add0_9, Int32.neg_neg, ineg_f, cb]
      · unfold f_X7_take f_X7_takeSigned f_X7_pass f_X7_put f_X7_ends
        simp (disch := omega) only [lit, pk_mul, nI_add, ni_sub, ni_div, ni_rem, ni_cl, ni_pred, nmod, ↓reduceIte, ile_t, ile_f, ilt_t, ilt_f, ieq_t, ieq_f, if_true_n, if_false_n, gi_n, nm_n, jn_n, bd1_n, bd2_n, bd3_n, bd4_n, bd5_n, bd6_n, h2, pk_us, e71, e72, neg1_mul, one_mul9, add0_9, Int32.neg_neg, cb]
      · rw [pk_us, show q + 1 + 1 = (q + 1 + 1) by omega]
      · rw [pk_un hj, pk_un hj]
      · rw [show 64 * bm + (q + 1) = 64 * bm + (q + 1) by omega]
    · obtain ⟨g, hg6, hg0, hgf, e4g, e7g⟩ := fail_ex (f := f2) 6 (by omega) (by omega) hf2
      have e7h : f_X7_fail (nI 6) (nI g) = some (nI g) := X7_fail_1 hg0 (by omega)
      refine ⟨p2, g, d, cp, upd mp bm (nI (q + 1)), mn, cg, hp2, hg6, fun h9 => ⟨(hz h9).1, by have a1 := (hz h9).2; have a2 := hgf (by omega); omega⟩, ?_, ?_, by omega, fun h => absurd h hg0⟩
      · unfold f_X0_readNumber f_X0_goTo
        simp (disch := omega) only [lit, pk_mul, nI_add, ni_sub, ni_div, ni_rem, ni_cl, ni_pred, nmod, ↓reduceIte, ile_t, ile_f, ilt_t, ilt_f, ieq_t, ieq_f, if_true_n, if_false_n, gi_n, nm_n, jn_n, bd1_n, bd2_n, bd3_n, bd4_n, bd5_n, bd6_n, ta, tb, tc, td, h1, num0, e41, num1 e42, neg1_mul, one_mul9, add0_9, Int32.neg_neg, ineg_f, e4g, cb]
      · unfold f_X7_take f_X7_takeSigned f_X7_pass f_X7_put
        by_cases c64 : q + 1 ≤ 64
        · simp (disch := omega) only [lit, pk_mul, nI_add, ni_sub, ni_div, ni_rem, ni_cl, ni_pred, nmod, ↓reduceIte, ile_t, ile_f, ilt_t, ilt_f, ieq_t, ieq_f, if_true_n, if_false_n, gi_n, nm_n, jn_n, bd1_n, bd2_n, bd3_n, bd4_n, bd5_n, bd6_n, h2, pk_us, e71, e72, neg1_mul, one_mul9, add0_9, Int32.neg_neg, e7g, cb]
        · exact absurd c64 (by omega)
theorem tk_29 {sz p f bc bm q d : Nat} {B cp mp mn : Nat → Int32} {cg : Nat → Nat → Int32} (hs : sz ≤ 6000) (hp : p ≤ 8 * sz) (hf : f ≤ 6) (hbc : bc < 36) (hbm : bm < 36) (hq : q < 64) (h1 : cp bc = nI q) (h2 : mp bm = nI q) : TR 29 sz p f bc bm q d B cp mp mn cg := by
  obtain ⟨ta, tb, tc, td⟩ := tb_29
  obtain ⟨b1, p1, f1, hb1, hp1, hf1, hz1, hy1, e41, e71⟩ := bit_ex B hs hp hf
  obtain ⟨nv, p2, f2, hnv, hp2, hf2, hz2, hy2, e42, e72⟩ := bit_ex B hs hp1 hf1
  obtain ⟨pv, p3, f3, hpv, hp3, hf3, hz3, hy3, e43, e73⟩ := bit_ex B hs hp2 hf2
  have hz : f ≠ 0 → p3 = p ∧ f3 = f := by
    intro h9
    have a1 := hz1 h9
    have a2 := hz2 (by omega)
    have a3 := hz3 (by omega)
    omega
  by_cases cb : b1 = 1
  · skip
    by_cases c : q + 2 + pv < 64
    · skip
      refine ⟨p3, f3, d, upd cp bc (nI (q + 2 + pv + 1)), upd (upd mp bm (nI (q + (2 + pv)))) bm (nI (q + (2 + pv) + 1)), upd mn (64 * bm + (q + (2 + pv))) (-nI (2 + nv)), updM cg bc (q + 2 + pv) (-nI (2 + nv)), hp3, hf3, hz, ?_, ?_, by omega, fun _ => ⟨⟨(q + 2 + pv + 1), by omega, by omega, rfl, ?_, fun j hj => ?_, Or.inl rfl, Or.inr ⟨(q + 2 + pv), _, by omega, sm_n (show 2 + nv ≤ 612 by omega), rfl, ?_⟩⟩, fun h => h⟩⟩
      · unfold f_X0_readNumber f_X0_goTo
        simp (disch := omega) only [lit, pk_mul, nI_add, ni_sub, ni_div, ni_rem, ni_cl, ni_pred, nmod, ↓reduceIte, ile_t, ile_f, ilt_t, ilt_f, ieq_t, ieq_f, if_true_n, if_false_n, gi_n, nm_n, jn_n, bd1_n, bd2_n, bd3_n, bd4_n, bd5_n, bd6_n, ta, tb, tc, td, h1, num0, e41, num1 e42, num1 e43, neg1_mul, one_mul9, add0_9, Int32.neg_neg, ineg_f, cb]
      · unfold f_X7_take f_X7_takeSigned f_X7_pass f_X7_put f_X7_ends
        simp (disch := omega) only [lit, pk_mul, nI_add, ni_sub, ni_div, ni_rem, ni_cl, ni_pred, nmod, ↓reduceIte, ile_t, ile_f, ilt_t, ilt_f, ieq_t, ieq_f, if_true_n, if_false_n, gi_n, nm_n, jn_n, bd1_n, bd2_n, bd3_n, bd4_n, bd5_n, bd6_n, h2, pk_us, e71, e72, e73, neg1_mul, one_mul9, add0_9, Int32.neg_neg, cb]
      · rw [pk_us, show q + (2 + pv) + 1 = (q + 2 + pv + 1) by omega]
      · rw [pk_un hj, pk_un hj]
      · rw [show 64 * bm + (q + (2 + pv)) = 64 * bm + (q + 2 + pv) by omega]
    · obtain ⟨g, hg6, hg0, hgf, e4g, e7g⟩ := fail_ex (f := f3) 6 (by omega) (by omega) hf3
      have e7h : f_X7_fail (nI 6) (nI g) = some (nI g) := X7_fail_1 hg0 (by omega)
      refine ⟨p3, g, d, cp, upd mp bm (nI (q + (2 + pv))), mn, cg, hp3, hg6, fun h9 => ⟨(hz h9).1, by have a1 := (hz h9).2; have a2 := hgf (by omega); omega⟩, ?_, ?_, by omega, fun h => absurd h hg0⟩
      · unfold f_X0_readNumber f_X0_goTo
        simp (disch := omega) only [lit, pk_mul, nI_add, ni_sub, ni_div, ni_rem, ni_cl, ni_pred, nmod, ↓reduceIte, ile_t, ile_f, ilt_t, ilt_f, ieq_t, ieq_f, if_true_n, if_false_n, gi_n, nm_n, jn_n, bd1_n, bd2_n, bd3_n, bd4_n, bd5_n, bd6_n, ta, tb, tc, td, h1, num0, e41, num1 e42, num1 e43, neg1_mul, one_mul9, add0_9, Int32.neg_neg, ineg_f, e4g, cb]
      · unfold f_X7_take f_X7_takeSigned f_X7_pass f_X7_put
        by_cases c64 : q + 2 + pv ≤ 64
        · simp (disch := omega) only [lit, pk_mul, nI_add, ni_sub, ni_div, ni_rem, ni_cl, ni_pred, nmod, ↓reduceIte, ile_t, ile_f, ilt_t, ilt_f, ieq_t, ieq_f, if_true_n, if_false_n, gi_n, nm_n, jn_n, bd1_n, bd2_n, bd3_n, bd4_n, bd5_n, bd6_n, h2, pk_us, e71, e72, e73, neg1_mul, one_mul9, add0_9, Int32.neg_neg, e7g, cb]
        · simp (disch := omega) only [lit, pk_mul, nI_add, ni_sub, ni_div, ni_rem, ni_cl, ni_pred, nmod, ↓reduceIte, ile_t, ile_f, ilt_t, ilt_f, ieq_t, ieq_f, if_true_n, if_false_n, gi_n, nm_n, jn_n, bd1_n, bd2_n, bd3_n, bd4_n, bd5_n, bd6_n, h2, pk_us, e71, e72, e73, neg1_mul, one_mul9, add0_9, Int32.neg_neg, e7g, e7h, cb]
  · skip
    by_cases c : q + 2 + pv < 64
    · skip
      refine ⟨p3, f3, d, upd cp bc (nI (q + 2 + pv + 1)), upd (upd mp bm (nI (q + (2 + pv)))) bm (nI (q + (2 + pv) + 1)), upd mn (64 * bm + (q + (2 + pv))) (nI (2 + nv)), updM cg bc (q + 2 + pv) (nI (2 + nv)), hp3, hf3, hz, ?_, ?_, by omega, fun _ => ⟨⟨(q + 2 + pv + 1), by omega, by omega, rfl, ?_, fun j hj => ?_, Or.inl rfl, Or.inr ⟨(q + 2 + pv), _, by omega, sm_p (show 2 + nv ≤ 612 by omega), rfl, ?_⟩⟩, fun h => h⟩⟩
      · unfold f_X0_readNumber f_X0_goTo
        simp (disch := omega) only [lit, pk_mul, nI_add, ni_sub, ni_div, ni_rem, ni_cl, ni_pred, nmod, ↓reduceIte, ile_t, ile_f, ilt_t, ilt_f, ieq_t, ieq_f, if_true_n, if_false_n, gi_n, nm_n, jn_n, bd1_n, bd2_n, bd3_n, bd4_n, bd5_n, bd6_n, ta, tb, tc, td, h1, num0, e41, num1 e42, num1 e43, neg1_mul, one_mul9, add0_9, Int32.neg_neg, ineg_f, cb]
      · unfold f_X7_take f_X7_takeSigned f_X7_pass f_X7_put f_X7_ends
        simp (disch := omega) only [lit, pk_mul, nI_add, ni_sub, ni_div, ni_rem, ni_cl, ni_pred, nmod, ↓reduceIte, ile_t, ile_f, ilt_t, ilt_f, ieq_t, ieq_f, if_true_n, if_false_n, gi_n, nm_n, jn_n, bd1_n, bd2_n, bd3_n, bd4_n, bd5_n, bd6_n, h2, pk_us, e71, e72, e73, neg1_mul, one_mul9, add0_9, Int32.neg_neg, cb]
      · rw [pk_us, show q + (2 + pv) + 1 = (q + 2 + pv + 1) by omega]
      · rw [pk_un hj, pk_un hj]
      · rw [show 64 * bm + (q + (2 + pv)) = 64 * bm + (q + 2 + pv) by omega]
    · obtain ⟨g, hg6, hg0, hgf, e4g, e7g⟩ := fail_ex (f := f3) 6 (by omega) (by omega) hf3
      have e7h : f_X7_fail (nI 6) (nI g) = some (nI g) := X7_fail_1 hg0 (by omega)
      refine ⟨p3, g, d, cp, upd mp bm (nI (q + (2 + pv))), mn, cg, hp3, hg6, fun h9 => ⟨(hz h9).1, by have a1 := (hz h9).2; have a2 := hgf (by omega); omega⟩, ?_, ?_, by omega, fun h => absurd h hg0⟩
      · unfold f_X0_readNumber f_X0_goTo
        simp (disch := omega) only [lit, pk_mul, nI_add, ni_sub, ni_div, ni_rem, ni_cl, ni_pred, nmod, ↓reduceIte, ile_t, ile_f, ilt_t, ilt_f, ieq_t, ieq_f, if_true_n, if_false_n, gi_n, nm_n, jn_n, bd1_n, bd2_n, bd3_n, bd4_n, bd5_n, bd6_n, ta, tb, tc, td, h1, num0, e41, num1 e42, num1 e43, neg1_mul, one_mul9, add0_9, Int32.neg_neg, ineg_f, e4g, cb]
      · unfold f_X7_take f_X7_takeSigned f_X7_pass f_X7_put
        by_cases c64 : q + 2 + pv ≤ 64
        · simp (disch := omega) only [lit, pk_mul, nI_add, ni_sub, ni_div, ni_rem, ni_cl, ni_pred, nmod, ↓reduceIte, ile_t, ile_f, ilt_t, ilt_f, ieq_t, ieq_f, if_true_n, if_false_n, gi_n, nm_n, jn_n, bd1_n, bd2_n, bd3_n, bd4_n, bd5_n, bd6_n, h2, pk_us, e71, e72, e73, neg1_mul, one_mul9, add0_9, Int32.neg_neg, e7g, cb]
        · simp (disch := omega) only [lit, pk_mul, nI_add, ni_sub, ni_div, ni_rem, ni_cl, ni_pred, nmod, ↓reduceIte, ile_t, ile_f, ilt_t, ilt_f, ieq_t, ieq_f, if_true_n, if_false_n, gi_n, nm_n, jn_n, bd1_n, bd2_n, bd3_n, bd4_n, bd5_n, bd6_n, h2, pk_us, e71, e72, e73, neg1_mul, one_mul9, add0_9, Int32.neg_neg, e7g, e7h, cb]
theorem tk_30 {sz p f bc bm q d : Nat} {B cp mp mn : Nat → Int32} {cg : Nat → Nat → Int32} (hs : sz ≤ 6000) (hp : p ≤ 8 * sz) (hf : f ≤ 6) (hbc : bc < 36) (hbm : bm < 36) (hq : q < 64) (h1 : cp bc = nI q) (h2 : mp bm = nI q) : TR 30 sz p f bc bm q d B cp mp mn cg := by
  obtain ⟨ta, tb, tc, td⟩ := tb_30
  have hz : f ≠ 0 → p = p ∧ f = f := fun _ => ⟨rfl, rfl⟩
  refine ⟨p, f, 0, upd cp bc (nI 64), upd (upd mp bm (nI (q + 1))) bm (nI 64), upd mn (64 * bm + q) (nI (1)), updM cg bc (q) (nI (1)), hp, hf, hz, ?_, ?_, by omega, fun _ => ⟨⟨64, by omega, by omega, rfl, ?_, fun j hj => ?_, Or.inr rfl, Or.inr ⟨(q), _, by omega, sm_p (show 1 ≤ 612 by omega), rfl, ?_⟩⟩, fun _ => rfl⟩⟩
  · unfold f_X0_readNumber f_X0_goTo
    simp (disch := omega) only [lit, pk_mul, nI_add, ni_sub, ni_div, ni_rem, ni_cl, ni_pred, nmod, ↓reduceIte, ile_t, ile_f, ilt_t, ilt_f, ieq_t, ieq_f, if_true_n, if_false_n, gi_n, nm_n, jn_n, bd1_n, bd2_n, bd3_n, bd4_n, bd5_n, bd6_n, ta, tb, tc, td, h1, num0, neg1_mul, one_mul9, add0_9, Int32.neg_neg, ineg_f]
  · unfold f_X7_take f_X7_pass f_X7_put f_X7_ends
    simp (disch := omega) only [lit, pk_mul, nI_add, ni_sub, ni_div, ni_rem, ni_cl, ni_pred, nmod, ↓reduceIte, ile_t, ile_f, ilt_t, ilt_f, ieq_t, ieq_f, if_true_n, if_false_n, gi_n, nm_n, jn_n, bd1_n, bd2_n, bd3_n, bd4_n, bd5_n, bd6_n, h2, pk_us, neg1_mul, one_mul9, add0_9, Int32.neg_neg]
  · rw [pk_us]
  · rw [pk_un hj, pk_un hj]
  · rfl
theorem tk_31 {sz p f bc bm q d : Nat} {B cp mp mn : Nat → Int32} {cg : Nat → Nat → Int32} (hs : sz ≤ 6000) (hp : p ≤ 8 * sz) (hf : f ≤ 6) (hbc : bc < 36) (hbm : bm < 36) (hq : q < 64) (h1 : cp bc = nI q) (h2 : mp bm = nI q) : TR 31 sz p f bc bm q d B cp mp mn cg := by
  obtain ⟨ta, tb, tc, td⟩ := tb_31
  have hz : f ≠ 0 → p = p ∧ f = f := fun _ => ⟨rfl, rfl⟩
  refine ⟨p, f, 0, upd cp bc (nI 64), upd (upd mp bm (nI (q + 1))) bm (nI 64), upd mn (64 * bm + q) (-nI (1)), updM cg bc (q) (-nI (1)), hp, hf, hz, ?_, ?_, by omega, fun _ => ⟨⟨64, by omega, by omega, rfl, ?_, fun j hj => ?_, Or.inr rfl, Or.inr ⟨(q), _, by omega, sm_n (show 1 ≤ 612 by omega), rfl, ?_⟩⟩, fun _ => rfl⟩⟩
  · unfold f_X0_readNumber f_X0_goTo
    simp (disch := omega) only [lit, pk_mul, nI_add, ni_sub, ni_div, ni_rem, ni_cl, ni_pred, nmod, ↓reduceIte, ile_t, ile_f, ilt_t, ilt_f, ieq_t, ieq_f, if_true_n, if_false_n, gi_n, nm_n, jn_n, bd1_n, bd2_n, bd3_n, bd4_n, bd5_n, bd6_n, ta, tb, tc, td, h1, num0, neg1_mul, one_mul9, add0_9, Int32.neg_neg, ineg_f]
  · unfold f_X7_take f_X7_pass f_X7_put f_X7_ends
    simp (disch := omega) only [lit, pk_mul, nI_add, ni_sub, ni_div, ni_rem, ni_cl, ni_pred, nmod, ↓reduceIte, ile_t, ile_f, ilt_t, ilt_f, ieq_t, ieq_f, if_true_n, if_false_n, gi_n, nm_n, jn_n, bd1_n, bd2_n, bd3_n, bd4_n, bd5_n, bd6_n, h2, pk_us, neg1_mul, one_mul9, add0_9, Int32.neg_neg]
  · rw [pk_us]
  · rw [pk_un hj, pk_un hj]
  · rfl
theorem tok_sim (t : Nat) (ht5 : 5 ≤ t) (ht : t < 32) {sz p f bc bm q d : Nat} {B cp mp mn : Nat → Int32} {cg : Nat → Nat → Int32} (hs : sz ≤ 6000) (hp : p ≤ 8 * sz) (hf : f ≤ 6) (hbc : bc < 36) (hbm : bm < 36) (hq : q < 64) (h1 : cp bc = nI q) (h2 : mp bm = nI q) : TR t sz p f bc bm q d B cp mp mn cg := by
  rcases (show t = 5 ∨ t = 6 ∨ t = 7 ∨ t = 8 ∨ t = 9 ∨ t = 10 ∨ t = 11 ∨ t = 12 ∨ t = 13 ∨ t = 14 ∨ t = 15 ∨ t = 16 ∨ t = 17 ∨ t = 18 ∨ t = 19 ∨ t = 20 ∨ t = 21 ∨ t = 22 ∨ t = 23 ∨ t = 24 ∨ t = 25 ∨ t = 26 ∨ t = 27 ∨ t = 28 ∨ t = 29 ∨ t = 30 ∨ t = 31 by omega) with rfl | rfl | rfl | rfl | rfl | rfl | rfl | rfl | rfl | rfl | rfl | rfl | rfl | rfl | rfl | rfl | rfl | rfl | rfl | rfl | rfl | rfl | rfl | rfl | rfl | rfl | rfl
  · exact tk_5 hs hp hf hbc hbm hq h1 h2
  · exact tk_6 hs hp hf hbc hbm hq h1 h2
  · exact tk_7 hs hp hf hbc hbm hq h1 h2
  · exact tk_8 hs hp hf hbc hbm hq h1 h2
  · exact tk_9 hs hp hf hbc hbm hq h1 h2
  · exact tk_10 hs hp hf hbc hbm hq h1 h2
  · exact tk_11 hs hp hf hbc hbm hq h1 h2
  · exact tk_12 hs hp hf hbc hbm hq h1 h2
  · exact tk_13 hs hp hf hbc hbm hq h1 h2
  · exact tk_14 hs hp hf hbc hbm hq h1 h2
  · exact tk_15 hs hp hf hbc hbm hq h1 h2
  · exact tk_16 hs hp hf hbc hbm hq h1 h2
  · exact tk_17 hs hp hf hbc hbm hq h1 h2
  · exact tk_18 hs hp hf hbc hbm hq h1 h2
  · exact tk_19 hs hp hf hbc hbm hq h1 h2
  · exact tk_20 hs hp hf hbc hbm hq h1 h2
  · exact tk_21 hs hp hf hbc hbm hq h1 h2
  · exact tk_22 hs hp hf hbc hbm hq h1 h2
  · exact tk_23 hs hp hf hbc hbm hq h1 h2
  · exact tk_24 hs hp hf hbc hbm hq h1 h2
  · exact tk_25 hs hp hf hbc hbm hq h1 h2
  · exact tk_26 hs hp hf hbc hbm hq h1 h2
  · exact tk_27 hs hp hf hbc hbm hq h1 h2
  · exact tk_28 hs hp hf hbc hbm hq h1 h2
  · exact tk_29 hs hp hf hbc hbm hq h1 h2
  · exact tk_30 hs hp hf hbc hbm hq h1 h2
  · exact tk_31 hs hp hf hbc hbm hq h1 h2
