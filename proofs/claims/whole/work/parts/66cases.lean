/-! The pure side, 22: each case of the law. -/
theorem add_ex0 (x : Int32) {sz : Nat} (B : Nat → Int32) (h : sz + 4 ≤ 6000) : ∃ B' : Nat → Int32, f_X4_add x (nI sz) B = some (nI (sz + 1 + 1 + 1 + 1), B') ∧ f_X7_addInt x (nI sz) B = some (nI (sz + 1 + 1 + 1 + 1), B') := by
  have q1 : nI 24 + -nI 8 = nI 16 := by decide +kernel
  have q2 : nI 16 + -nI 8 = nI 8 := by decide +kernel
  have q3 : nI 8 + -nI 8 = nI 0 := by decide +kernel
  have q4 : (nI 0 + -nI 8 < nI 0) = True := eq_true (by decide +kernel)
  refine ⟨upd (upd (upd (upd B sz (vp_nar .byte (Int8.toInt32 (Int32.toInt8 (x >>> (nI 24 &&& nI 31)))))) (sz + 1) (vp_nar .byte (Int8.toInt32 (Int32.toInt8 (x >>> (nI 16 &&& nI 31)))))) (sz + 1 + 1) (vp_nar .byte (Int8.toInt32 (Int32.toInt8 (x >>> (nI 8 &&& nI 31)))))) (sz + 1 + 1 + 1) (vp_nar .byte (Int8.toInt32 (Int32.toInt8 (x >>> (nI 0 &&& nI 31))))), ?_, ?_⟩
  · unfold f_X4_add
    rw [show (4000 : Nat) = 3995 + 1 + 1 + 1 + 1 + 1 from rfl, f_X4_add_L3]
    simp (disch := omega) only [lit, nI_add, ni_cl, q1, ↓reduceIte, ile_t, ile_f, ilt_t, ilt_f, ieq_t, ieq_f, if_true_n, if_false_n, gi_n, nm_n]
    rw [f_X4_add_L3]
    simp (disch := omega) only [lit, nI_add, ni_cl, q2, ↓reduceIte, ile_t, ile_f, ilt_t, ilt_f, ieq_t, ieq_f, if_true_n, if_false_n, gi_n, nm_n]
    rw [f_X4_add_L3]
    simp (disch := omega) only [lit, nI_add, ni_cl, q3, ↓reduceIte, ile_t, ile_f, ilt_t, ilt_f, ieq_t, ieq_f, if_true_n, if_false_n, gi_n, nm_n]
    rw [f_X4_add_L3]
    simp (disch := omega) only [lit, nI_add, ni_cl, ↓reduceIte, ile_t, ile_f, ilt_t, ilt_f, ieq_t, ieq_f, if_true_n, if_false_n, gi_n, nm_n]
    rw [f_X4_add_L3]
    simp (disch := omega) only [lit, q4, ↓reduceIte, ile_t, ile_f, ilt_t, ilt_f, ieq_t, ieq_f, if_true_n, if_false_n, bd2_n]
  · unfold f_X7_addInt
    rw [show (4000 : Nat) = 3995 + 1 + 1 + 1 + 1 + 1 from rfl, f_X7_addInt_L3]
    simp (disch := omega) only [lit, nI_add, ni_cl, q1, ↓reduceIte, ile_t, ile_f, ilt_t, ilt_f, ieq_t, ieq_f, if_true_n, if_false_n, gi_n, nm_n]
    rw [f_X7_addInt_L3]
    simp (disch := omega) only [lit, nI_add, ni_cl, q2, ↓reduceIte, ile_t, ile_f, ilt_t, ilt_f, ieq_t, ieq_f, if_true_n, if_false_n, gi_n, nm_n]
    rw [f_X7_addInt_L3]
    simp (disch := omega) only [lit, nI_add, ni_cl, q3, ↓reduceIte, ile_t, ile_f, ilt_t, ilt_f, ieq_t, ieq_f, if_true_n, if_false_n, gi_n, nm_n]
    rw [f_X7_addInt_L3]
    simp (disch := omega) only [lit, nI_add, ni_cl, ↓reduceIte, ile_t, ile_f, ilt_t, ilt_f, ieq_t, ieq_f, if_true_n, if_false_n, gi_n, nm_n]
    rw [f_X7_addInt_L3]
    simp (disch := omega) only [lit, q4, ↓reduceIte, ile_t, ile_f, ilt_t, ilt_f, ieq_t, ieq_f, if_true_n, if_false_n, bd2_n]
theorem add_ex (x : Int32) (sz : Nat) (B : Nat → Int32) (h : sz + 4 ≤ 6000) : ∃ B' : Nat → Int32, f_X4_add x (nI sz) B = some (nI (sz + 4), B') ∧ f_X7_addInt x (nI sz) B = some (nI (sz + 4), B') := by
  exact add_ex0 x B h
theorem rf0 (t : Int32) : f_X7_refused (nI 0) (nI 0) (nI 0) t = some (nI 0, nI 0) := by
  unfold f_X7_refused
  simp (disch := omega) only [lit, pk_mul, nI_add, ni_sub, ni_div, ni_rem, ni_cl, ni_pred, nmod, ↓reduceIte, ile_t, ile_f, ilt_t, ilt_f, ieq_t, ieq_f, if_true_n, if_false_n, gi_n, nm_n, jn_n, bd1_n, bd2_n, bd3_n, bd4_n, bd5_n, bd6_n]
theorem rf1 (x y t : Int32) : f_X7_refused (nI 1) x y t = some (nI 1, nI 1) := by
  unfold f_X7_refused
  simp (disch := omega) only [lit, ↓jn_n, ↓reduceIte, ile_t, ile_f, ilt_t, ilt_f, ieq_t, ieq_f, if_true_n, if_false_n]
theorem rf2 (y t : Int32) : f_X7_refused (nI 0) (nI 1) y t = some (nI 1, nI 2) := by
  unfold f_X7_refused
  simp (disch := omega) only [lit, ↓jn_n, ↓reduceIte, ile_t, ile_f, ilt_t, ilt_f, ieq_t, ieq_f, if_true_n, if_false_n]
theorem rf3 (t : Int32) : f_X7_refused (nI 0) (nI 0) (nI 1) t = some (nI 1, nI 3) := by
  unfold f_X7_refused
  simp (disch := omega) only [lit, ↓jn_n, ↓reduceIte, ile_t, ile_f, ilt_t, ilt_f, ieq_t, ieq_f, if_true_n, if_false_n]
theorem feed_ex (x1 x2 x3 x4 thr : Int32) {sz : Nat} (B : Nat → Int32) (h : sz + 16 ≤ 6000) : ∃ (B' : Nat → Int32) (s' : Nat), s' = sz + 16 ∧ f_X6_feed x1 x2 x3 x4 (nI sz) B = some (nI s', nI s', B') ∧ f_X7_feed x1 x2 x3 x4 thr (nI sz) B = some (nI s', nI 0, nI s', B') := by
  obtain ⟨B1, a1, b1⟩ := add_ex x1 sz B (by omega)
  obtain ⟨B2, a2, b2⟩ := add_ex x2 (sz + 4) B1 (by omega)
  obtain ⟨B3, a3, b3⟩ := add_ex x3 (sz + 4 + 4) B2 (by omega)
  obtain ⟨B4, a4, b4⟩ := add_ex x4 (sz + 4 + 4 + 4) B3 (by omega)
  refine ⟨B4, sz + 4 + 4 + 4 + 4, by omega, ?_, ?_⟩
  · unfold f_X6_feed f_X4_size
    simp (disch := omega) only [lit, nI_add, ↓reduceIte, ile_t, ile_f, ilt_t, ilt_f, ieq_t, ieq_f, if_true_n, if_false_n, bd1_n, bd2_n, a1, a2, a3, a4]
  · unfold f_X7_feed
    simp (disch := omega) only [lit, nI_add, ↓reduceIte, ile_t, ile_f, ilt_t, ilt_f, ieq_t, ieq_f, if_true_n, if_false_n, ↓jn_n, rf0, bd1_n, bd2_n, b1, b2, b3, b4]
theorem feed_no (x1 x2 x3 x4 thr : Int32) {sz : Nat} (B : Nat → Int32) (hs : sz ≤ 6000) (h : ¬ sz + 16 ≤ 6000) : f_X7_feed x1 x2 x3 x4 thr (nI sz) B = some (nI 0, nI 1, nI sz, B) := by
  unfold f_X7_feed
  simp (disch := omega) only [lit, nI_add, ↓reduceIte, ile_t, ile_f, ilt_t, ilt_f, ieq_t, ieq_f, if_true_n, if_false_n, ↓jn_n, rf1, bd2_n]
theorem lcmp_self (v : Int64) : lg_cmp v v = nI 0 := by
  unfold lg_cmp
  have h : ¬ v > v := by
    rw [GT.gt, Int64.lt_iff_toInt_lt]
    omega
  rw [if_neg h, if_pos rfl]
  rfl
theorem ex_C0 {LS i sz : Nat} {xs B : Nat → Int32} {thr : Int32} {a2 : Nat → Int64} (hi : i + 5 ≤ LS) (hL : LS ≤ 320) (h : sz + 16 ≤ 6000) : ∃ (B' : Nat → Int32) (a' : Nat → Int64) (s' : Nat), s' = sz + 16 ∧ f_C0 LS xs (nI i) thr (nI sz) B a2 (nI sz) B = some (nI 0, nI s', B', a', nI s', B') := by
  obtain ⟨B', s', hs', e6, e7⟩ := feed_ex (xs (i + 1)) (xs (i + 2)) (xs (i + 3)) (xs (i + 4)) thr B h
  refine ⟨B', vp_updL a2 0 (nI s').toInt64, s', hs', ?_⟩
  unfold f_C0 f_L_feed f_X7_thrown
  simp (disch := omega) only [lit, pk_mul, nI_add, ni_sub, ni_div, ni_rem, ni_cl, ni_pred, nmod, ↓reduceIte, ile_t, ile_f, ilt_t, ilt_f, ieq_t, ieq_f, if_true_n, if_false_n, gi_n, nm_n, jn_n, bd1_n, bd2_n, bd3_n, bd4_n, bd5_n, bd6_n, e6, e7, pk_uLs, lcmp_self]
theorem ex_C0x {LS i sz : Nat} {xs B : Nat → Int32} {thr : Int32} (hi : i + 5 ≤ LS) (hL : LS ≤ 320) (hs : sz ≤ 6000) (h : ¬ sz + 16 ≤ 6000) : f_C0x LS xs (nI i) thr (nI sz) B (nI sz) = some (nI 1, nI sz, B) := by
  have e7 := feed_no (xs (i + 1)) (xs (i + 2)) (xs (i + 3)) (xs (i + 4)) thr B hs h
  unfold f_C0x f_L_feed_x f_X6_feed_x f_X4_size f_X7_thrown
  simp (disch := omega) only [lit, pk_mul, nI_add, ni_sub, ni_div, ni_rem, ni_cl, ni_pred, nmod, ↓reduceIte, ile_t, ile_f, ilt_t, ilt_f, ieq_t, ieq_f, if_true_n, if_false_n, gi_n, nm_n, jn_n, bd1_n, bd2_n, bd3_n, bd4_n, bd5_n, bd6_n, e7]
theorem ex_C1 {LS i sz k : Nat} {xs : Nat → Int32} {thr : Int32} (hi : i + 5 ≤ LS) (hL : LS ≤ 320) (hs : sz ≤ 6000) (hk : k ≤ sz) (hx : xs (i + 1) = nI k) : f_C1 LS xs (nI i) thr (nI sz) (nI sz) = some (nI 0, nI k, nI k) := by
  unfold f_C1 f_L_end f_X6_end f_X4_size f_X4_cut f_X7_end f_X7_thrown
  simp (disch := omega) only [lit, pk_mul, nI_add, ni_sub, ni_div, ni_rem, ni_cl, ni_pred, nmod, ↓reduceIte, ile_t, ile_f, ilt_t, ilt_f, ieq_t, ieq_f, if_true_n, if_false_n, gi_n, ↓jn_n, bd1_n, bd2_n, hx, rf0]
theorem ex_C1a {LS i : Nat} {xs : Nat → Int32} {thr len : Int32} (hi : i + 5 ≤ LS) (hL : LS ≤ 320) (hx : xs (i + 1) < nI 0) : f_C1a LS xs (nI i) thr len = some (nI 1, len) := by
  have h := eq_true hx
  unfold f_C1a f_L_end_xa f_X6_end_xa f_X7_end f_X7_thrown
  simp (disch := omega) only [lit, pk_mul, nI_add, ni_sub, ni_div, ni_rem, ni_cl, ni_pred, nmod, ↓reduceIte, ile_t, ile_f, ilt_t, ilt_f, ieq_t, ieq_f, if_true_n, if_false_n, gi_n, ↓jn_n, bd1_n, bd2_n, h, rf1]
theorem ex_C1b {LS i : Nat} {xs : Nat → Int32} {thr len : Int32} (hi : i + 5 ≤ LS) (hL : LS ≤ 320) (h1 : ¬ xs (i + 1) < nI 0) (h2 : ¬ xs (i + 1) ≤ len) : f_C1b LS xs (nI i) thr len len = some (nI 1, len) := by
  have q1 := eq_false h1
  have q2 := eq_false h2
  unfold f_C1b f_L_end_xb f_X6_end_xb f_X4_size f_X7_end f_X7_thrown
  simp (disch := omega) only [lit, pk_mul, nI_add, ni_sub, ni_div, ni_rem, ni_cl, ni_pred, nmod, ↓reduceIte, ile_t, ile_f, ilt_t, ilt_f, ieq_t, ieq_f, if_true_n, if_false_n, gi_n, ↓jn_n, bd1_n, bd2_n, q1, q2, rf1]
theorem ex_C5 {LS : Nat} {xs : Nat → Int32} {x4 thr fc : Int32} : f_C5 LS xs x4 fc thr fc = some (nI 0) := by
  unfold f_C5 f_X6_frames f_X7_frames
  simp only [lit, bd1_n, bd2_n, ↓reduceIte]
theorem ex_C8 {LS : Nat} {xs : Nat → Int32} {x4 thr tp : Int32} : f_C8 LS xs x4 thr tp tp = some (nI 0) := by
  unfold f_C8 f_X6_taken f_X4_position f_X7_taken
  simp only [lit, bd1_n, bd2_n, ↓reduceIte]
/-! head -/
theorem ex_C4 {LS i k w h l ta tb : Nat} {xs tk : Nat → Int32} {thr : Int32} {a2 : Nat → Int64} (hi : i + 5 ≤ LS) (hL : LS ≤ 320) (hk : k < 5) (hx : xs (i + 1) = nI k) (h0 : tk 0 = nI ta) (h1 : tk 1 = nI tb) : ∃ a' : Nat → Int64, f_C4 LS xs (nI i) (nI 1) thr (nI 1) (nI w) (nI h) (nI l) tk a2 (nI w) (nI h) (nI l) (nI ta) (nI tb) = some (nI 0, a') := by
  unfold f_C4 f_L_head f_X6_head f_X7_head f_X7_thrown f_X1_columns f_X1_rows f_X1_limit f_X5_tokenCount
  rcases (show k = 0 ∨ k = 1 ∨ k = 2 ∨ k = 3 ∨ k = 4 by omega) with rfl | rfl | rfl | rfl | rfl
  · refine ⟨vp_updL a2 0 (nI w).toInt64, ?_⟩
    simp (disch := omega) only [lit, pk_mul, nI_add, ni_sub, ni_div, ni_rem, ni_cl, ni_pred, nmod, ↓reduceIte, ile_t, ile_f, ilt_t, ilt_f, ieq_t, ieq_f, if_true_n, if_false_n, gi_n, nm_n, ↓jn_n, bd1_n, bd2_n, hx, rf0, pk_uLs, lcmp_self]
  · refine ⟨vp_updL a2 0 (nI h).toInt64, ?_⟩
    simp (disch := omega) only [lit, pk_mul, nI_add, ni_sub, ni_div, ni_rem, ni_cl, ni_pred, nmod, ↓reduceIte, ile_t, ile_f, ilt_t, ilt_f, ieq_t, ieq_f, if_true_n, if_false_n, gi_n, nm_n, ↓jn_n, bd1_n, bd2_n, hx, rf0, pk_uLs, lcmp_self]
  · refine ⟨vp_updL a2 0 (nI l).toInt64, ?_⟩
    simp (disch := omega) only [lit, pk_mul, nI_add, ni_sub, ni_div, ni_rem, ni_cl, ni_pred, nmod, ↓reduceIte, ile_t, ile_f, ilt_t, ilt_f, ieq_t, ieq_f, if_true_n, if_false_n, gi_n, nm_n, ↓jn_n, bd1_n, bd2_n, hx, rf0, pk_uLs, lcmp_self]
  · refine ⟨vp_updL a2 0 (nI ta).toInt64, ?_⟩
    simp (disch := omega) only [lit, pk_mul, nI_add, ni_sub, ni_div, ni_rem, ni_cl, ni_pred, nmod, ↓reduceIte, ile_t, ile_f, ilt_t, ilt_f, ieq_t, ieq_f, if_true_n, if_false_n, gi_n, nm_n, ↓jn_n, bd1_n, bd2_n, hx, rf0, pk_uLs, lcmp_self, Nat.sub_self, h0]
  · refine ⟨vp_updL a2 0 (nI tb).toInt64, ?_⟩
    have e : nI 4 - nI 3 = nI 1 := by decide +kernel
    simp (disch := omega) only [lit, e, ni_cl, nI_add, ↓reduceIte, ile_t, ile_f, ilt_t, ilt_f, ieq_t, ieq_f, if_true_n, if_false_n, gi_n, nm_n, ↓jn_n, bd1_n, bd2_n, hx, rf0, pk_uLs, lcmp_self, h1]
theorem ex_C4a {LS i : Nat} {xs tk : Nat → Int32} {thr mw mh ml : Int32} (hi : i + 5 ≤ LS) (hL : LS ≤ 320) : f_C4a LS xs (nI i) (nI 0) thr (nI 0) mw mh ml tk = some (nI 1) := by
  unfold f_C4a f_L_head_x1 f_X6_head_x1 f_X7_head f_X7_thrown
  by_cases c1 : xs (i + 1) < nI 0
  · have q1 := eq_true c1
    simp (disch := omega) only [lit, pk_mul, nI_add, ni_sub, ni_div, ni_rem, ni_cl, ni_pred, nmod, ↓reduceIte, ile_t, ile_f, ilt_t, ilt_f, ieq_t, ieq_f, if_true_n, if_false_n, gi_n, ↓jn_n, bd1_n, bd2_n, q1, rf1]
  · have q1 := eq_false c1
    by_cases c2 : xs (i + 1) ≤ nI 4
    · have q2 := eq_true c2
      simp (disch := omega) only [lit, pk_mul, nI_add, ni_sub, ni_div, ni_rem, ni_cl, ni_pred, nmod, ↓reduceIte, ile_t, ile_f, ilt_t, ilt_f, ieq_t, ieq_f, if_true_n, if_false_n, gi_n, ↓jn_n, bd1_n, bd2_n, q1, q2, rf1]
    · have q2 := eq_false c2
      simp (disch := omega) only [lit, pk_mul, nI_add, ni_sub, ni_div, ni_rem, ni_cl, ni_pred, nmod, ↓reduceIte, ile_t, ile_f, ilt_t, ilt_f, ieq_t, ieq_f, if_true_n, if_false_n, gi_n, ↓jn_n, bd1_n, bd2_n, q1, q2, rf1]
theorem ne_out {x : Int32} {n k : Nat} (hn : n < 2147483648) (hk : k < n) (h : x < nI 0 ∨ nI n ≤ x) : (x = nI k) = False := eq_false (fun e => by
  subst e
  rcases h with h | h
  · exact nI_nlt (by omega) (by omega) h
  · exact nI_ge (by omega) (by omega) h)
theorem le_out {x : Int32} {n : Nat} (hn0 : 0 < n) (hn : n < 2147483648) (h : nI n ≤ x) : (x < nI 0) = False ∧ (x ≤ nI (n - 1)) = False := by
  rw [Int32.le_iff_toInt_le, nI_toInt (by omega)] at h
  constructor
  · refine eq_false (fun e => ?_)
    rw [Int32.lt_iff_toInt_lt, nI_toInt (by omega)] at e
    omega
  · refine eq_false (fun e => ?_)
    rw [Int32.le_iff_toInt_le, nI_toInt (by omega)] at e
    omega
theorem ex_C4b {LS i : Nat} {xs tk : Nat → Int32} {thr mw mh ml : Int32} (hi : i + 5 ≤ LS) (hL : LS ≤ 320) (hx : xs (i + 1) < nI 0 ∨ nI 5 ≤ xs (i + 1)) : f_C4b LS xs (nI i) (nI 1) thr (nI 1) mw mh ml tk = some (nI 2) := by
  have e0 := ne_out (k := 0) (by omega) (by omega) hx
  have e1 := ne_out (k := 1) (by omega) (by omega) hx
  have e2 := ne_out (k := 2) (by omega) (by omega) hx
  have e3 := ne_out (k := 3) (by omega) (by omega) hx
  have e4 := ne_out (k := 4) (by omega) (by omega) hx
  unfold f_C4b f_L_head_x2 f_X6_head_x2 f_X7_head f_X7_thrown
  rcases hx with c1 | c1
  · have q1 := eq_true c1
    simp (disch := omega) only [lit, pk_mul, nI_add, ni_sub, ni_div, ni_rem, ni_cl, ni_pred, nmod, ↓reduceIte, ile_t, ile_f, ilt_t, ilt_f, ieq_t, ieq_f, if_true_n, if_false_n, gi_n, ↓jn_n, bd1_n, bd2_n, q1, rf2, e0, e1, e2, e3, e4]
  · obtain ⟨q1, q2⟩ := le_out (by omega) (by omega) c1
    have q2 : (xs (i + 1) ≤ nI 4) = False := q2
    simp (disch := omega) only [lit, pk_mul, nI_add, ni_sub, ni_div, ni_rem, ni_cl, ni_pred, nmod, ↓reduceIte, ile_t, ile_f, ilt_t, ilt_f, ieq_t, ieq_f, if_true_n, if_false_n, gi_n, ↓jn_n, bd1_n, bd2_n, q1, q2, rf2, e0, e1, e2, e3, e4]
/-! sample, block: inside or outside -/
theorem in_ex {x y s mw mh : Int32} {W H a b : Nat} (hW : W < 2147483648) (hH : H < 2147483648) (ha : a < W) (hb : b < H) (hx : x = nI a) (hy : y = nI b) (e1 : s * mw = nI W) (e2 : s * mh = nI H) : f_X3_has x y (nI W) (nI H) = some (nI 1) ∧ f_X0_has x y (nI W) (nI H) = some (nI 1) ∧ f_X7_isOutside x y s mw mh = some (nI 0) := by
  subst hx hy
  unfold f_X3_has f_X0_has f_X7_isOutside
  refine ⟨?_, ?_, ?_⟩
  · simp (disch := omega) only [lit, pk_mul, nI_add, ni_sub, ni_div, ni_rem, ni_cl, ni_pred, nmod, ↓reduceIte, ile_t, ile_f, ilt_t, ilt_f, ieq_t, ieq_f, if_true_n, if_false_n, gi_n, nm_n, jn_n, bd1_n, bd2_n, bd3_n, bd4_n, bd5_n, bd6_n]
  · simp (disch := omega) only [lit, pk_mul, nI_add, ni_sub, ni_div, ni_rem, ni_cl, ni_pred, nmod, ↓reduceIte, ile_t, ile_f, ilt_t, ilt_f, ieq_t, ieq_f, if_true_n, if_false_n, gi_n, nm_n, jn_n, bd1_n, bd2_n, bd3_n, bd4_n, bd5_n, bd6_n]
  · simp (disch := omega) only [lit, e1, e2, ↓reduceIte, ile_t, ile_f, ilt_t, ilt_f, ieq_t, ieq_f, if_true_n, if_false_n]
theorem out_ex (x y : Int32) {s mw mh : Int32} {W H : Nat} (hW : W < 2147483648) (hH : H < 2147483648) (e1 : s * mw = nI W) (e2 : s * mh = nI H) : (∃ a b : Nat, a < W ∧ b < H ∧ x = nI a ∧ y = nI b) ∨ (f_X3_has x y (nI W) (nI H) = some (nI 0) ∧ f_X0_has x y (nI W) (nI H) = some (nI 0) ∧ f_X7_isOutside x y s mw mh = some (nI 1)) := by
  rcases pk_ix x hW with h | h | ⟨a, ha, rfl⟩
  · right
    have q : (x < nI 0) = True := eq_true h
    unfold f_X3_has f_X0_has f_X7_isOutside
    simp only [lit, q, e1, e2, ↓reduceIte, and_self]
  · right
    have q : (x < nI 0) = False := eq_false (fun e => by
      rw [Int32.lt_iff_toInt_lt, nI_toInt (by omega)] at e
      rw [Int32.le_iff_toInt_le, nI_toInt (by omega)] at h
      omega)
    have q2 : (nI W ≤ x) = True := eq_true h
    unfold f_X3_has f_X0_has f_X7_isOutside
    simp only [lit, q, q2, e1, e2, ↓reduceIte, and_self]
  · have q1 : (nI a < nI 0) = False := ilt_f (by omega) (by omega)
    have q2 : (nI W ≤ nI a) = False := ile_f ha (by omega)
    rcases pk_ix y hH with h | h | ⟨b, hb, rfl⟩
    · right
      have q : (y < nI 0) = True := eq_true h
      unfold f_X3_has f_X0_has f_X7_isOutside
      simp only [lit, q, q1, q2, e1, e2, ↓reduceIte, and_self]
    · right
      have q : (y < nI 0) = False := eq_false (fun e => by
        rw [Int32.lt_iff_toInt_lt, nI_toInt (by omega)] at e
        rw [Int32.le_iff_toInt_le, nI_toInt (by omega)] at h
        omega)
      have q3 : (nI H ≤ y) = True := eq_true h
      have q4 : (y < nI H) = False := eq_false (fun e => by
        rw [Int32.lt_iff_toInt_lt, nI_toInt (by omega)] at e
        rw [Int32.le_iff_toInt_le, nI_toInt (by omega)] at h
        omega)
      unfold f_X3_has f_X0_has f_X7_isOutside
      simp only [lit, q, q1, q2, q3, q4, e1, e2, ↓reduceIte, and_self]
    · exact Or.inl ⟨a, b, ha, hb, rfl, rfl⟩
theorem outside_ex (x y s mw mh : Int32) : ∃ q : Int32, f_X7_isOutside x y s mw mh = some q := by
  unfold f_X7_isOutside
  split
  · exact ⟨_, rfl⟩
  · split
    · exact ⟨_, rfl⟩
    · split
      · exact ⟨_, rfl⟩
      · split
        · exact ⟨_, rfl⟩
        · exact ⟨_, rfl⟩
theorem ex_C6 {LS i w h a b : Nat} {xs pv gd mpv mgd : Nat → Int32} {thr : Int32} {a2 : Nat → Int64} (hi : i + 5 ≤ LS) (hL : LS ≤ 320) (hw : w < 7) (hh : h < 7) (P1 : PR w h pv mpv) (P2 : PR w h gd mgd) (ha : a < w * 8) (hb : b < h * 8) (hx : xs (i + 1) = nI a) (hy : xs (i + 2) = nI b) : ∃ a' : Nat → Int64, f_C6 LS xs (nI i) (nI 1) thr (nI w) (nI h) (nI 1) mpv mgd a2 (nI (w * 8)) (nI (h * 8)) pv (nI (w * 8)) (nI (h * 8)) gd = some (nI 0, a') := by
  obtain ⟨l1, l2⟩ := pix_lt hw hh ha hb
  obtain ⟨q1, -, q3⟩ := in_ex (x := nI a) (y := nI b) (s := nI 8) (mw := nI w) (mh := nI h) (W := w * 8) (H := h * 8) (by omega) (by omega) ha hb rfl rfl (by rw [pk_mul, Nat.mul_comm]) (by rw [pk_mul, Nat.mul_comm])
  have k1 := at_in hw hh P1 ha hb
  have k2 := at_in hw hh P2 ha hb
  obtain ⟨v1, -, m1, m2⟩ := P1 b a hb ha
  obtain ⟨v2, -, m3, m4⟩ := P2 b a hb ha
  unfold f_C6 f_L_sample f_X6_sample f_X7_sample f_X7_thrown
  by_cases c : xs (i + 3) = nI 0
  · have c9 := eq_true c
    refine ⟨vp_updL a2 0 (nI v1).toInt64, ?_⟩
    simp (disch := omega) only [lit, pk_mul, nI_add, ni_cl, ↓reduceIte, ile_t, ile_f, ilt_t, ilt_f, ieq_t, ieq_f, if_true_n, if_false_n, gi_n, nm_n, ↓jn_n, bd1_n, bd2_n, c9, hx, hy, q1, q3, k1, k2, m1, m2, m3, m4, rf0, pk_uLs, lcmp_self]
  · have c9 := eq_false c
    refine ⟨vp_updL a2 0 (nI v2).toInt64, ?_⟩
    simp (disch := omega) only [lit, pk_mul, nI_add, ni_cl, ↓reduceIte, ile_t, ile_f, ilt_t, ilt_f, ieq_t, ieq_f, if_true_n, if_false_n, gi_n, nm_n, ↓jn_n, bd1_n, bd2_n, c9, hx, hy, q1, q3, k1, k2, m1, m2, m3, m4, rf0, pk_uLs, lcmp_self]
theorem ex_C6a {LS i : Nat} {xs mpv mgd : Nat → Int32} {thr mw mh : Int32} (hi : i + 5 ≤ LS) (hL : LS ≤ 320) : f_C6a LS xs (nI i) (nI 0) thr mw mh (nI 0) mpv mgd = some (nI 1) := by
  obtain ⟨q, e⟩ := outside_ex (xs (i + 1)) (xs (i + 2)) (nI 8) mw mh
  unfold f_C6a f_L_sample_x1 f_X6_sample_x1 f_X7_sample f_X7_thrown
  by_cases c : xs (i + 3) = nI 0
  · have c9 := eq_true c
    simp (disch := omega) only [lit, nI_add, ni_cl, ↓reduceIte, ile_t, ile_f, ilt_t, ilt_f, ieq_t, ieq_f, if_true_n, if_false_n, gi_n, ↓jn_n, bd1_n, bd2_n, c9, e, rf1]
  · have c9 := eq_false c
    simp (disch := omega) only [lit, nI_add, ni_cl, ↓reduceIte, ile_t, ile_f, ilt_t, ilt_f, ieq_t, ieq_f, if_true_n, if_false_n, gi_n, ↓jn_n, bd1_n, bd2_n, c9, e, rf1]
theorem ex_C6b {LS i w h : Nat} {xs mpv mgd : Nat → Int32} {thr : Int32} (hi : i + 5 ≤ LS) (hL : LS ≤ 320) (e3 : f_X3_has (xs (i + 1)) (xs (i + 2)) (nI (w * 8)) (nI (h * 8)) = some (nI 0)) (e7 : f_X7_isOutside (xs (i + 1)) (xs (i + 2)) (nI 8) (nI w) (nI h) = some (nI 1)) : f_C6b LS xs (nI i) (nI 1) thr (nI w) (nI h) (nI 1) mpv mgd (nI (w * 8)) (nI (h * 8)) = some (nI 2) := by
  unfold f_C6b f_L_sample_x2 f_X6_sample_x2 f_X7_sample f_X7_thrown
  by_cases c : xs (i + 3) = nI 0
  · have c9 := eq_true c
    simp (disch := omega) only [lit, nI_add, ni_cl, ↓reduceIte, ile_t, ile_f, ilt_t, ilt_f, ieq_t, ieq_f, if_true_n, if_false_n, gi_n, ↓jn_n, bd1_n, bd2_n, c9, e3, e7, rf2]
  · have c9 := eq_false c
    simp (disch := omega) only [lit, nI_add, ni_cl, ↓reduceIte, ile_t, ile_f, ilt_t, ilt_f, ieq_t, ieq_f, if_true_n, if_false_n, gi_n, ↓jn_n, bd1_n, bd2_n, c9, e3, e7, rf2]
theorem ex_C7 {LS i w h a b k : Nat} {xs cm ca cd mmo mac mdn mfi : Nat → Int32} {cg : Nat → Nat → Int32} {fc fr thr : Int32} {a2 : Nat → Int64} (hi : i + 5 ≤ LS) (hL : LS ≤ 320) (hw : w < 7) (hh : h < 7) (hF : FRM w h fc fr cm ca cd cg mmo mac mdn mfi) (ha : a < w) (hb : b < h) (hx : xs (i + 1) = nI a) (hy : xs (i + 2) = nI b) (hk : k < 4) (hz : xs (i + 3) = nI k) : ∃ a' : Nat → Int64, f_C7 LS xs (nI i) (nI 1) thr (nI w) (nI h) (nI 1) mmo mac mdn mfi a2 fc fr cm ca cd cg = some (nI 0, a') := by
  obtain ⟨rfl, rfl, hF⟩ := hF
  have hle := wh_le hw hh
  have hb9 := idx_lt (h := h) ha hb
  obtain ⟨-, q1, q3⟩ := in_ex (x := nI a) (y := nI b) (s := nI 1) (mw := nI w) (mh := nI h) (W := w) (H := h) (by omega) (by omega) ha hb rfl rfl (by rw [pk_mul, Nat.one_mul]) (by rw [pk_mul, Nat.one_mul])
  obtain ⟨m1, m2, m3, m4⟩ := hF b a hb ha
  unfold f_C7 f_L_block f_X6_block f_X7_block f_X7_thrown f_X0_index f_X0_mode f_X0_across f_X0_down f_X0_number
  rcases (show k = 0 ∨ k = 1 ∨ k = 2 ∨ k = 3 by omega) with rfl | rfl | rfl | rfl
  · refine ⟨vp_updL a2 0 (mmo (6 * b + a)).toInt64, ?_⟩
    simp (disch := omega) only [lit, pk_mul, nI_add, ni_cl, ↓reduceIte, ile_t, ile_f, ilt_t, ilt_f, ieq_t, ieq_f, if_true_n, if_false_n, gi_n, nm_n, ↓jn_n, bd1_n, bd2_n, hx, hy, hz, q1, q3, m1, rf0, pk_uLs, lcmp_self]
  · refine ⟨vp_updL a2 0 (mac (6 * b + a)).toInt64, ?_⟩
    simp (disch := omega) only [lit, pk_mul, nI_add, ni_cl, ↓reduceIte, ile_t, ile_f, ilt_t, ilt_f, ieq_t, ieq_f, if_true_n, if_false_n, gi_n, nm_n, ↓jn_n, bd1_n, bd2_n, hx, hy, hz, q1, q3, m2, rf0, pk_uLs, lcmp_self]
  · refine ⟨vp_updL a2 0 (mdn (6 * b + a)).toInt64, ?_⟩
    simp (disch := omega) only [lit, pk_mul, nI_add, ni_cl, ↓reduceIte, ile_t, ile_f, ilt_t, ilt_f, ieq_t, ieq_f, if_true_n, if_false_n, gi_n, nm_n, ↓jn_n, bd1_n, bd2_n, hx, hy, hz, q1, q3, m3, rf0, pk_uLs, lcmp_self]
  · refine ⟨vp_updL a2 0 (mfi (6 * b + a)).toInt64, ?_⟩
    simp (disch := omega) only [lit, pk_mul, nI_add, ni_cl, ↓reduceIte, ile_t, ile_f, ilt_t, ilt_f, ieq_t, ieq_f, if_true_n, if_false_n, gi_n, nm_n, ↓jn_n, bd1_n, bd2_n, hx, hy, hz, q1, q3, m4, rf0, pk_uLs, lcmp_self]
theorem three_jn {α : Type} (x : Int32) (K : Int32 → Option α) : ∃ q : Int32, jn (fun (k : Int32 → Option α) => (if x < nI 0 then (k (nI 1)) else (if x ≤ nI 3 then (k (nI 0)) else (k (nI 1))))) K = K q := by
  by_cases c1 : x < nI 0
  · exact ⟨nI 1, jn_e (if_pos c1)⟩
  · by_cases c2 : x ≤ nI 3
    · exact ⟨nI 0, jn_e ((if_neg c1).trans (if_pos c2))⟩
    · exact ⟨nI 1, jn_e ((if_neg c1).trans (if_neg c2))⟩
theorem block_no1 (x y z thr mw mh : Int32) (mmo mac mdn mfi : Nat → Int32) : f_X7_block x y z thr mw mh (nI 0) mmo mac mdn mfi = some (nI 0, nI 1) := by
  obtain ⟨q, e⟩ := outside_ex x y (nI 1) mw mh
  unfold f_X7_block
  by_cases c1 : z < nI 0
  · have q1 := eq_true c1
    simp (disch := omega) only [lit, ↓reduceIte, ile_t, ile_f, ilt_t, ilt_f, ieq_t, ieq_f, if_true_n, if_false_n, ↓jn_n, bd1_n, bd2_n, q1, e, rf1]
  · have q1 := eq_false c1
    by_cases c2 : z ≤ nI 3
    · have q2 := eq_true c2
      simp (disch := omega) only [lit, ↓reduceIte, ile_t, ile_f, ilt_t, ilt_f, ieq_t, ieq_f, if_true_n, if_false_n, ↓jn_n, bd1_n, bd2_n, q1, q2, e, rf1]
    · have q2 := eq_false c2
      simp (disch := omega) only [lit, ↓reduceIte, ile_t, ile_f, ilt_t, ilt_f, ieq_t, ieq_f, if_true_n, if_false_n, ↓jn_n, bd1_n, bd2_n, q1, q2, e, rf1]
theorem block_no2 (x y z thr mw mh : Int32) (mmo mac mdn mfi : Nat → Int32) (e : f_X7_isOutside x y (nI 1) mw mh = some (nI 1)) : f_X7_block x y z thr mw mh (nI 1) mmo mac mdn mfi = some (nI 0, nI 2) := by
  unfold f_X7_block
  by_cases c1 : z < nI 0
  · have q1 := eq_true c1
    simp (disch := omega) only [lit, ↓reduceIte, ile_t, ile_f, ilt_t, ilt_f, ieq_t, ieq_f, if_true_n, if_false_n, ↓jn_n, bd1_n, bd2_n, q1, e, rf2]
  · have q1 := eq_false c1
    by_cases c2 : z ≤ nI 3
    · have q2 := eq_true c2
      simp (disch := omega) only [lit, ↓reduceIte, ile_t, ile_f, ilt_t, ilt_f, ieq_t, ieq_f, if_true_n, if_false_n, ↓jn_n, bd1_n, bd2_n, q1, q2, e, rf2]
    · have q2 := eq_false c2
      simp (disch := omega) only [lit, ↓reduceIte, ile_t, ile_f, ilt_t, ilt_f, ieq_t, ieq_f, if_true_n, if_false_n, ↓jn_n, bd1_n, bd2_n, q1, q2, e, rf2]
theorem block_no3 (x y z thr mw mh : Int32) (mmo mac mdn mfi : Nat → Int32) (e : f_X7_isOutside x y (nI 1) mw mh = some (nI 0)) (hz : z < nI 0 ∨ nI 4 ≤ z) : f_X7_block x y z thr mw mh (nI 1) mmo mac mdn mfi = some (nI 0, nI 3) := by
  unfold f_X7_block
  rcases hz with c1 | c1
  · have q1 := eq_true c1
    simp (disch := omega) only [lit, ↓reduceIte, ile_t, ile_f, ilt_t, ilt_f, ieq_t, ieq_f, if_true_n, if_false_n, ↓jn_n, bd1_n, bd2_n, q1, e, rf3]
  · obtain ⟨q1, q2⟩ := le_out (by omega) (by omega) c1
    have q2 : (z ≤ nI 3) = False := q2
    simp (disch := omega) only [lit, ↓reduceIte, ile_t, ile_f, ilt_t, ilt_f, ieq_t, ieq_f, if_true_n, if_false_n, ↓jn_n, bd1_n, bd2_n, q1, q2, e, rf3]
theorem ex_C7a {LS i : Nat} {xs mmo mac mdn mfi : Nat → Int32} {thr mw mh : Int32} (hi : i + 5 ≤ LS) (hL : LS ≤ 320) : f_C7a LS xs (nI i) (nI 0) thr mw mh (nI 0) mmo mac mdn mfi = some (nI 1) := by
  have e := block_no1 (xs (i + 1)) (xs (i + 2)) (xs (i + 3)) thr mw mh mmo mac mdn mfi
  unfold f_C7a f_L_block_x1 f_X6_block_x1 f_X7_thrown
  simp (disch := omega) only [lit, nI_add, ni_cl, ↓reduceIte, ile_t, ile_f, ilt_t, ilt_f, ieq_t, ieq_f, if_true_n, if_false_n, gi_n, bd1_n, bd2_n, e]
theorem ex_C7b {LS i w h : Nat} {xs mmo mac mdn mfi : Nat → Int32} {thr : Int32} (hi : i + 5 ≤ LS) (hL : LS ≤ 320) (e0 : f_X0_has (xs (i + 1)) (xs (i + 2)) (nI w) (nI h) = some (nI 0)) (e7 : f_X7_isOutside (xs (i + 1)) (xs (i + 2)) (nI 1) (nI w) (nI h) = some (nI 1)) : f_C7b LS xs (nI i) (nI 1) thr (nI w) (nI h) (nI 1) mmo mac mdn mfi (nI w) (nI h) = some (nI 2) := by
  have e := block_no2 (xs (i + 1)) (xs (i + 2)) (xs (i + 3)) thr (nI w) (nI h) mmo mac mdn mfi e7
  unfold f_C7b f_L_block_x2 f_X6_block_x2 f_X7_thrown
  simp (disch := omega) only [lit, nI_add, ni_cl, ↓reduceIte, ile_t, ile_f, ilt_t, ilt_f, ieq_t, ieq_f, if_true_n, if_false_n, gi_n, bd1_n, bd2_n, e0, e]
theorem ex_C7c {LS i w h a b : Nat} {xs mmo mac mdn mfi : Nat → Int32} {thr : Int32} (hi : i + 5 ≤ LS) (hL : LS ≤ 320) (hw : w < 7) (hh : h < 7) (ha : a < w) (hb : b < h) (hx : xs (i + 1) = nI a) (hy : xs (i + 2) = nI b) (hz : xs (i + 3) < nI 0 ∨ nI 4 ≤ xs (i + 3)) : f_C7c LS xs (nI i) (nI 1) thr (nI w) (nI h) (nI 1) mmo mac mdn mfi (nI w) (nI h) = some (nI 3) := by
  obtain ⟨-, q1, q3⟩ := in_ex (x := xs (i + 1)) (y := xs (i + 2)) (s := nI 1) (mw := nI w) (mh := nI h) (W := w) (H := h) (by omega) (by omega) ha hb hx hy (by rw [pk_mul, Nat.one_mul]) (by rw [pk_mul, Nat.one_mul])
  have e := block_no3 (xs (i + 1)) (xs (i + 2)) (xs (i + 3)) thr (nI w) (nI h) mmo mac mdn mfi q3 hz
  have e0 := ne_out (k := 0) (by omega) (by omega) hz
  have e1 := ne_out (k := 1) (by omega) (by omega) hz
  have e2 := ne_out (k := 2) (by omega) (by omega) hz
  have e3 := ne_out (k := 3) (by omega) (by omega) hz
  unfold f_C7c f_L_block_x3 f_X6_block_x3 f_X7_thrown f_X0_index
  simp (disch := omega) only [lit, nI_add, ni_cl, ↓reduceIte, ile_t, ile_f, ilt_t, ilt_f, ieq_t, ieq_f, if_true_n, if_false_n, gi_n, nm_n, bd1_n, bd2_n, q1, e, e0, e1, e2, e3]
/-! sum -/
def TS (cs : Nat → Int32) : Nat → Int32
  | 0 => nI 0
  | k + 1 => nI 31 * TS cs k + cs k
theorem total_loop {W H : Nat} {cs : Nat → Int32} (hM : W * H ≤ 2304) : ∀ (r k n : Nat), r + k = W * H → r < n → f_X3_total_L4 (nI W) (nI H) cs n (TS cs k) (nI k) = some (TS cs (W * H))
  | 0, k, n, hi, hn => by
    obtain ⟨n, rfl⟩ : ∃ j, n = j + 1 := ⟨n - 1, by omega⟩
    obtain rfl : k = W * H := by omega
    rw [f_X3_total_L4]; simp (disch := omega) only [lit, pk_mul, nI_add, ni_sub, ni_div, ni_rem, ni_cl, ni_pred, nmod, ↓reduceIte, ile_t, ile_f, ilt_t, ilt_f, ieq_t, ieq_f, if_true_n, if_false_n, gi_n, nm_n, jn_n, bd1_n, bd2_n, bd3_n, bd4_n, bd5_n, bd6_n]
  | r + 1, k, n, hi, hn => by
    obtain ⟨n, rfl⟩ : ∃ j, n = j + 1 := ⟨n - 1, by omega⟩
    have e := total_loop (cs := cs) hM r (k + 1) n (by omega) (by omega)
    rw [f_X3_total_L4]
    simp (disch := omega) only [lit, pk_mul, nI_add, ni_sub, ni_div, ni_rem, ni_cl, ni_pred, nmod, ↓reduceIte, ile_t, ile_f, ilt_t, ilt_f, ieq_t, ieq_f, if_true_n, if_false_n, gi_n, nm_n, jn_n, bd1_n, bd2_n, bd3_n, bd4_n, bd5_n, bd6_n]
    exact e
theorem sum_in {w h y : Nat} {cs ms : Nat → Int32} (hw : w < 7) (hh : h < 7) (hy : y < h * 8) (hP : PR w h cs ms) : ∀ (r x n : Nat), r + x = w * 8 → r < n → f_X7_sum_L29 (nI w) ms (nI y) n (TS cs (y * (w * 8) + x)) (nI x) = some (TS cs (y * (w * 8) + w * 8))
  | 0, x, n, hi, hn => by
    obtain ⟨n, rfl⟩ : ∃ j, n = j + 1 := ⟨n - 1, by omega⟩
    obtain rfl : x = w * 8 := by omega
    rw [f_X7_sum_L29]; simp (disch := omega) only [lit, pk_mul, nI_add, ni_sub, ni_div, ni_rem, ni_cl, ni_pred, nmod, ↓reduceIte, ile_t, ile_f, ilt_t, ilt_f, ieq_t, ieq_f, if_true_n, if_false_n, gi_n, nm_n, jn_n, bd1_n, bd2_n, bd3_n, bd4_n, bd5_n, bd6_n]
  | r + 1, x, n, hi, hn => by
    obtain ⟨n, rfl⟩ : ∃ j, n = j + 1 := ⟨n - 1, by omega⟩
    obtain ⟨v, hv, a, b⟩ := hP y x hy (by omega)
    obtain ⟨l1, l2⟩ := pix_lt hw hh (show x < w * 8 by omega) hy
    have e := sum_in hw hh hy hP r (x + 1) n (by omega) (by omega)
    have e9 : TS cs (y * (w * 8) + (x + 1)) = nI 31 * TS cs (y * (w * 8) + x) + nI v := by
      show nI 31 * TS cs (y * (w * 8) + x) + cs (y * (w * 8) + x) = _
      rw [a]
    rw [e9] at e
    rw [f_X7_sum_L29]
    simp (disch := omega) only [lit, pk_mul, nI_add, ni_sub, ni_div, ni_rem, ni_cl, ni_pred, nmod, ↓reduceIte, ile_t, ile_f, ilt_t, ilt_f, ieq_t, ieq_f, if_true_n, if_false_n, gi_n, nm_n, jn_n, bd1_n, bd2_n, bd3_n, bd4_n, bd5_n, bd6_n, b]
    exact e
theorem sum_out {w h : Nat} {cs ms : Nat → Int32} (hw : w < 7) (hh : h < 7) (hP : PR w h cs ms) : ∀ (r y n : Nat), r + y = h * 8 → r < n → f_X7_sum_L9 (nI w) (nI h) (nI 1) ms n (TS cs (y * (w * 8))) (nI y) = some (TS cs (h * 8 * (w * 8)))
  | 0, y, n, hi, hn => by
    obtain ⟨n, rfl⟩ : ∃ j, n = j + 1 := ⟨n - 1, by omega⟩
    obtain rfl : y = h * 8 := by omega
    rw [f_X7_sum_L9]; simp (disch := omega) only [lit, pk_mul, nI_add, ni_sub, ni_div, ni_rem, ni_cl, ni_pred, nmod, ↓reduceIte, ile_t, ile_f, ilt_t, ilt_f, ieq_t, ieq_f, if_true_n, if_false_n, gi_n, nm_n, jn_n, bd1_n, bd2_n, bd3_n, bd4_n, bd5_n, bd6_n]
  | r + 1, y, n, hi, hn => by
    obtain ⟨n, rfl⟩ : ∃ j, n = j + 1 := ⟨n - 1, by omega⟩
    have e1 := sum_in hw hh (show y < h * 8 by omega) hP (w * 8) 0 4000 (by omega) (by omega)
    rw [Nat.add_zero] at e1
    have e := sum_out hw hh hP r (y + 1) n (by omega) (by omega)
    rw [Nat.add_mul, Nat.one_mul] at e
    rw [f_X7_sum_L9]
    simp (disch := omega) only [lit, pk_mul, nI_add, ni_sub, ni_div, ni_rem, ni_cl, ni_pred, nmod, ↓reduceIte, ile_t, ile_f, ilt_t, ilt_f, ieq_t, ieq_f, if_true_n, if_false_n, gi_n, nm_n, jn_n, bd1_n, bd2_n, bd3_n, bd4_n, bd5_n, bd6_n, e1, e]
theorem ex_C9 {LS : Nat} {xs : Nat → Int32} {x4 thr : Int32} {w h : Nat} {cs ms : Nat → Int32} (hw : w < 7) (hh : h < 7) (hP : PR w h cs ms) : f_C9 LS xs x4 (nI 1) thr (nI w) (nI h) (nI 1) ms (nI (w * 8)) (nI (h * 8)) cs = some (nI 0) := by
  have hM : (w * 8) * (h * 8) ≤ 2304 := Nat.mul_le_mul (show w * 8 ≤ 48 by omega) (show h * 8 ≤ 48 by omega)
  have e1 := total_loop (cs := cs) hM ((w * 8) * (h * 8)) 0 4000 (by omega) (by omega)
  have e2 := sum_out hw hh hP (h * 8) 0 4000 (by omega) (by omega)
  rw [Nat.zero_mul, Nat.mul_comm (h * 8) (w * 8)] at e2
  have e1 : f_X3_total_L4 (nI (w * 8)) (nI (h * 8)) cs 4000 (nI 0) (nI 0) = some (TS cs (w * 8 * (h * 8))) := e1
  have e2 : f_X7_sum_L9 (nI w) (nI h) (nI 1) ms 4000 (nI 0) (nI 0) = some (TS cs (w * 8 * (h * 8))) := e2
  unfold f_C9 f_X6_sum f_X3_total f_X7_sum
  simp (disch := omega) only [lit, ↓reduceIte, ile_t, ile_f, ilt_t, ilt_f, ieq_t, ieq_f, if_true_n, if_false_n, bd1_n, bd2_n, e1, e2]
theorem ex_C9z {LS : Nat} {xs : Nat → Int32} {x4 thr mw mh pw ph : Int32} {cs ms : Nat → Int32} : f_C9 LS xs x4 (nI 0) thr mw mh (nI 0) ms pw ph cs = some (nI 0) := by
  have e2 : f_X7_sum_L9 mw mh (nI 0) ms 4000 (nI 0) (nI 0) = some (nI 0) := by
    rw [show (4000 : Nat) = 3999 + 1 from rfl, f_X7_sum_L9]
    simp only [lit]
    by_cases c : nI 8 * mh ≤ nI 0
    · rw [if_pos c]
    · rw [if_neg c]
      exact if_pos trivial
  unfold f_C9 f_X6_sum f_X7_sum
  simp (disch := omega) only [lit, ↓reduceIte, ile_t, ile_f, ilt_t, ilt_f, ieq_t, ieq_f, if_true_n, if_false_n, bd1_n, bd2_n, e2]
