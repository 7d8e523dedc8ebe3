/-! The pure side, 14: all guesses. -/
def KG (cm : Nat → Int32) (cg cg' : Nat → Nat → Int32) (mn mn' : Nat → Int32) : Prop := (∀ b u, u ≠ 0 → cg' b u = cg b u) ∧ (∀ j, j % 64 ≠ 0 → mn' j = mn j) ∧ ∀ b, cm b = nI 0 → cg' b 0 = cg b 0
theorem kg_refl {cm : Nat → Int32} {cg : Nat → Nat → Int32} {mn : Nat → Int32} : KG cm cg cg mn mn := ⟨fun _ _ _ => rfl, fun _ _ => rfl, fun _ _ => rfl⟩
theorem kg_trans {cm : Nat → Int32} {c1 c2 c3 : Nat → Nat → Int32} {m1 m2 m3 : Nat → Int32} (h : KG cm c1 c2 m1 m2) (k : KG cm c2 c3 m2 m3) : KG cm c1 c3 m1 m3 :=
  ⟨fun b u hu => (k.1 b u hu).trans (h.1 b u hu), fun j hj => (k.2.1 j hj).trans (h.2.1 j hj), fun b hb => (k.2.2 b hb).trans (h.2.2 b hb)⟩
theorem gi_skip {w h i : Nat} {cl ml : Nat → Int32} {cg : Nat → Nat → Int32} {mn : Nat → Int32} (hG : GI w h i cl ml cg mn) : GI w h (i + 1) cl ml cg mn :=
  ⟨fun y x hy hx => by
    obtain ⟨a, b, c⟩ := hG.1 y x hy hx
    exact ⟨a, sm_mono b (by omega), fun h9 => c (by omega)⟩, fun u h1 h2 h3 => by
    obtain ⟨a, b⟩ := hG.2 u h1 h2 h3
    exact ⟨a, sm_mono b (by omega)⟩⟩
theorem gi_step {w h x y u : Nat} {cl ml : Nat → Int32} {cg : Nat → Nat → Int32} {mn : Nat → Int32} {g : Int32} (hw : w < 7) (hh : h < 7) (hx : x < w) (hy : y < h) (hu : u < 5) (hu0 : u ≠ 0) (hG : GI w h (y * w + x) cl ml cg mn) (hg : sm (612 * (y * w + x + 1)) g) : GI w h (y * w + x + 1) (upd cl (kd u) (mn (64 * (6 * y + x)) + g)) (upd ml (kr u) (mn (64 * (6 * y + x)) + g)) (updM cg (y * w + x) 0 (mn (64 * (6 * y + x)) + g)) (upd mn (64 * (6 * y + x)) (mn (64 * (6 * y + x)) + g)) := by
  have hle := wh_le hw hh
  have hb := idx_lt (h := h) hx hy
  obtain ⟨q1, q2, q3, q4, q5, q6⟩ := kr_c u hu hu0
  obtain ⟨a0, b0, c0⟩ := hG.1 y x hy hx
  have hv := c0 (Nat.le_refl _)
  rw [a0] at hv
  have hs : sm (612 * (y * w + x + 1 + 1)) (mn (64 * (6 * y + x)) + g) := sm_mono (sm_add hv hg (by omega)) (by omega)
  refine ⟨fun y2 x2 hy2 hx2 => ?_, fun v h1 h2 h3 => ?_⟩
  · by_cases c : y2 * w + x2 = y * w + x
    · obtain ⟨rfl, rfl⟩ := idx_inj hx2 hx c
      rw [updM_s, pk_us]
      exact ⟨rfl, hs, fun h9 => absurd h9 (by omega)⟩
    · have c2 : 6 * y2 + x2 ≠ 6 * y + x := by
        intro e
        have e1 : y2 = y := by omega
        have e2 : x2 = x := by omega
        subst e1; subst e2
        exact c rfl
      obtain ⟨a, b, d⟩ := hG.1 y2 x2 hy2 hx2
      rw [updM_n c, pk_un (by omega)]
      exact ⟨a, sm_mono b (by omega), fun h9 => d (by omega)⟩
  · obtain ⟨a, b⟩ := hG.2 v h1 h2 h3
    by_cases c : v = kd u
    · subst c
      rw [q5, pk_us, pk_us]
      exact ⟨rfl, hs⟩
    · have c2 : kr v ≠ kr u := by
        intro e
        rw [← q5] at e
        exact c (kr_j (kd u) q4 v h1 ⟨⟨q2, q3⟩, ⟨h2, h3⟩, e⟩)
      rw [pk_un c, pk_un c2]
      exact ⟨a, sm_mono b (by omega)⟩
theorem gcol {w h y : Nat} {cm mm : Nat → Int32} (hw : w < 7) (hh : h < 7) (hy : y < h) (hM : MO2 w h cm mm) : ∀ (r x n m : Nat) (cl ml : Nat → Int32) (cg : Nat → Nat → Int32) (mn : Nat → Int32), r + x = w → r < n → r < m → GI w h (y * w + x) cl ml cg mn →
    ∃ (cl' ml' : Nat → Int32) (cg' : Nat → Nat → Int32) (mn' : Nat → Int32), f_X0_addGuesses_L32 (nI w) cm (nI y) n cl cg (nI x) = some (cl', cg') ∧ f_X7_guess_L32 (nI w) mm (nI y) m mn ml (nI x) = some (mn', ml') ∧ GI w h (y * w + w) cl' ml' cg' mn' ∧ KG cm cg cg' mn mn'
  | 0, x, n, m, cl, ml, cg, mn, hi, hn, hm, hG => by
    obtain ⟨n, rfl⟩ : ∃ j, n = j + 1 := ⟨n - 1, by omega⟩
    obtain ⟨m, rfl⟩ : ∃ j, m = j + 1 := ⟨m - 1, by omega⟩
    obtain rfl : x = w := by omega
    refine ⟨cl, ml, cg, mn, ?_, ?_, hG, kg_refl⟩
    · rw [f_X0_addGuesses_L32]; simp (disch := omega) only [lit, pk_mul, nI_add, ni_sub, ni_div, ni_rem, ni_cl, ni_pred, nmod, ↓reduceIte, ile_t, ile_f, ilt_t, ilt_f, ieq_t, ieq_f, if_true_n, if_false_n, gi_n, nm_n, jn_n, bd1_n, bd2_n, bd3_n, bd4_n, bd5_n, bd6_n]
    · rw [f_X7_guess_L32]; simp (disch := omega) only [lit, pk_mul, nI_add, ni_sub, ni_div, ni_rem, ni_cl, ni_pred, nmod, ↓reduceIte, ile_t, ile_f, ilt_t, ilt_f, ieq_t, ieq_f, if_true_n, if_false_n, gi_n, nm_n, jn_n, bd1_n, bd2_n, bd3_n, bd4_n, bd5_n, bd6_n]
  | r + 1, x, n, m, cl, ml, cg, mn, hi, hn, hm, hG => by
    obtain ⟨n, rfl⟩ : ∃ j, n = j + 1 := ⟨n - 1, by omega⟩
    obtain ⟨m, rfl⟩ : ∃ j, m = j + 1 := ⟨m - 1, by omega⟩
    have hx : x < w := by omega
    have hle := wh_le hw hh
    have hb := idx_lt (h := h) hx hy
    have hv : (6 : Int32) * nI y + nI x = nI (6 * y + x) := by simp (disch := omega) only [lit, pk_mul, nI_add, ni_sub, ni_div, ni_rem, ni_cl, ni_pred, nmod, ↓reduceIte, ile_t, ile_f, ilt_t, ilt_f, ieq_t, ieq_f, if_true_n, if_false_n, gi_n, nm_n, jn_n, bd1_n, bd2_n, bd3_n, bd4_n, bd5_n, bd6_n]
    obtain ⟨u, hu, e1, e2⟩ := hM y x hy hx
    have k7 := X7_kind u hu
    rw [← e2] at k7
    by_cases cu : u = 0
    · subst cu
      have k0 : (krI 0 < nI 0) = True := eq_true kr_0
      obtain ⟨cl', ml', cg', mn', u1, u2, u3, u4⟩ := gcol hw hh hy hM r (x + 1) n m cl ml cg mn (by omega) (by omega) (by omega) (gi_skip hG)
      refine ⟨cl', ml', cg', mn', ?_, ?_, u3, u4⟩
      · rw [f_X0_addGuesses_L32]
        unfold f_X0_index f_X0_isCoded
        simp (disch := omega) only [lit, pk_mul, nI_add, ni_sub, ni_div, ni_rem, ni_cl, ni_pred, nmod, ↓reduceIte, ile_t, ile_f, ilt_t, ilt_f, ieq_t, ieq_f, if_true_n, if_false_n, gi_n, ↓nm_n, ↓jn_n, bd1_n, bd2_n, bd3_n, bd4_n, bd5_n, bd6_n, e1, u1]
      · rw [f_X7_guess_L32]
        simp only [hv]
        simp (disch := omega) only [lit, pk_mul, nI_add, ni_sub, ni_div, ni_rem, ni_cl, ni_pred, nmod, ↓reduceIte, ile_t, ile_f, ilt_t, ilt_f, ieq_t, ieq_f, if_true_n, if_false_n, gi_n, ↓nm_n, ↓jn_n, bd1_n, bd2_n, bd3_n, bd4_n, bd5_n, bd6_n, ↓bd1_e k7, k0, u2]
    · obtain ⟨q1, q2, q3, q4, q5, q6⟩ := kr_c u hu cu
      obtain ⟨g, s1, s2, s3⟩ := guess_ex hw hh hx hy (by omega) hM hu cu e1 hG
      rw [q6] at k7
      obtain ⟨cl', ml', cg', mn', u1, u2, u3, u4⟩ := gcol hw hh hy hM r (x + 1) n m _ _ _ _ (by omega) (by omega) (by omega) (gi_step hw hh hx hy hu cu hG s1)
      have hk := X0_kind (show y * w + x < 36 by omega) hu e1
      have a0 := (hG.1 y x hy hx).1
      refine ⟨cl', ml', cg', mn', ?_, ?_, u3, kg_trans ⟨fun b v hv9 => ?_, fun j hj => ?_, fun b hb9 => ?_⟩ u4⟩
      · rw [f_X0_addGuesses_L32]
        unfold f_X0_index f_X0_isCoded
        simp (disch := omega) only [lit, pk_mul, nI_add, ni_sub, ni_div, ni_rem, ni_cl, ni_pred, nmod, ↓reduceIte, ile_t, ile_f, ilt_t, ilt_f, ieq_t, ieq_f, if_true_n, if_false_n, gi_n, ↓nm_n, ↓jn_n, bd1_n, bd2_n, bd3_n, bd4_n, bd5_n, bd6_n, e1, s2, hk, updM_s, a0, u1]
      · rw [f_X7_guess_L32]
        simp only [hv]
        simp (disch := omega) only [gi_n, ni_cl, ↓nm_n, ↓bd1_e k7, ↓s3]
        simp (disch := omega) only [lit, pk_mul, nI_add, ni_sub, ni_div, ni_rem, ni_cl, ni_pred, nmod, ↓reduceIte, ile_t, ile_f, ilt_t, ilt_f, ieq_t, ieq_f, if_true_n, if_false_n, gi_n, ↓nm_n, ↓jn_n, bd1_n, bd2_n, bd3_n, bd4_n, bd5_n, bd6_n, pk_us, u2]
      · by_cases c : b = y * w + x
        · subst c; rw [updM_k hv9]
        · rw [updM_n c]
      · rw [pk_un (by omega)]
      · have c : b ≠ y * w + x := fun e => by
          rw [e, e1] at hb9
          exact cu ((nI_eq (by omega) (by omega)).mp hb9)
        rw [updM_n c]
theorem grow {w h : Nat} {cm mm : Nat → Int32} (hw : w < 7) (hh : h < 7) (hM : MO2 w h cm mm) : ∀ (r y n m : Nat) (cl ml : Nat → Int32) (cg : Nat → Nat → Int32) (mn : Nat → Int32), r + y = h → r < n → r < m → GI w h (y * w) cl ml cg mn →
    ∃ (cl' ml' : Nat → Int32) (cg' : Nat → Nat → Int32) (mn' : Nat → Int32), f_X0_addGuesses_L22 (nI w) (nI h) cm n cl cg (nI y) = some (cl', cg') ∧ f_X7_guess_L22 (nI w) (nI h) mm m mn ml (nI y) = some (mn', ml') ∧ GI w h (h * w) cl' ml' cg' mn' ∧ KG cm cg cg' mn mn'
  | 0, y, n, m, cl, ml, cg, mn, hi, hn, hm, hG => by
    obtain ⟨n, rfl⟩ : ∃ j, n = j + 1 := ⟨n - 1, by omega⟩
    obtain ⟨m, rfl⟩ : ∃ j, m = j + 1 := ⟨m - 1, by omega⟩
    obtain rfl : y = h := by omega
    refine ⟨cl, ml, cg, mn, ?_, ?_, hG, kg_refl⟩
    · rw [f_X0_addGuesses_L22]; simp (disch := omega) only [lit, pk_mul, nI_add, ni_sub, ni_div, ni_rem, ni_cl, ni_pred, nmod, ↓reduceIte, ile_t, ile_f, ilt_t, ilt_f, ieq_t, ieq_f, if_true_n, if_false_n, gi_n, nm_n, jn_n, bd1_n, bd2_n, bd3_n, bd4_n, bd5_n, bd6_n]
    · rw [f_X7_guess_L22]; simp (disch := omega) only [lit, pk_mul, nI_add, ni_sub, ni_div, ni_rem, ni_cl, ni_pred, nmod, ↓reduceIte, ile_t, ile_f, ilt_t, ilt_f, ieq_t, ieq_f, if_true_n, if_false_n, gi_n, nm_n, jn_n, bd1_n, bd2_n, bd3_n, bd4_n, bd5_n, bd6_n]
  | r + 1, y, n, m, cl, ml, cg, mn, hi, hn, hm, hG => by
    obtain ⟨n, rfl⟩ : ∃ j, n = j + 1 := ⟨n - 1, by omega⟩
    obtain ⟨m, rfl⟩ : ∃ j, m = j + 1 := ⟨m - 1, by omega⟩
    obtain ⟨cl1, ml1, cg1, mn1, u1, u2, u3, u4⟩ := gcol hw hh (show y < h by omega) hM w 0 4000 4000 cl ml cg mn (by omega) (by omega) (by omega) hG
    have e9 : y * w + w = (y + 1) * w := by rw [Nat.add_mul, Nat.one_mul]
    rw [e9] at u3
    obtain ⟨cl2, ml2, cg2, mn2, t1, t2, t3, t4⟩ := grow hw hh hM r (y + 1) n m cl1 ml1 cg1 mn1 (by omega) (by omega) (by omega) u3
    refine ⟨cl2, ml2, cg2, mn2, ?_, ?_, t3, kg_trans u4 t4⟩
    · rw [f_X0_addGuesses_L22]
      simp (disch := omega) only [lit, pk_mul, nI_add, ni_sub, ni_div, ni_rem, ni_cl, ni_pred, nmod, ↓reduceIte, ile_t, ile_f, ilt_t, ilt_f, ieq_t, ieq_f, if_true_n, if_false_n, gi_n, nm_n, jn_n, bd1_n, bd2_n, bd3_n, bd4_n, bd5_n, bd6_n, u1, t1]
    · rw [f_X7_guess_L22]
      simp (disch := omega) only [lit, pk_mul, nI_add, ni_sub, ni_div, ni_rem, ni_cl, ni_pred, nmod, ↓reduceIte, ile_t, ile_f, ilt_t, ilt_f, ieq_t, ieq_f, if_true_n, if_false_n, gi_n, nm_n, jn_n, bd1_n, bd2_n, bd3_n, bd4_n, bd5_n, bd6_n, u2, t2]
theorem clz : ∀ (r i n : Nat) (x : Nat → Int32), r + i = 5 → r < n → ∃ x' : Nat → Int32, f_X0_addGuesses_L2 n x (nI i) = some x' ∧ (∀ j, j < i → x' j = x j) ∧ (∀ j, i ≤ j → j < 5 → x' j = nI 0)
  | 0, i, n, x, hi, hn => by
    obtain ⟨n, rfl⟩ : ∃ j, n = j + 1 := ⟨n - 1, by omega⟩
    refine ⟨x, ?_, fun _ _ => rfl, fun j h1 h2 => absurd h2 (by omega)⟩
    rw [f_X0_addGuesses_L2]; simp (disch := omega) only [lit, pk_mul, nI_add, ni_sub, ni_div, ni_rem, ni_cl, ni_pred, nmod, ↓reduceIte, ile_t, ile_f, ilt_t, ilt_f, ieq_t, ieq_f, if_true_n, if_false_n, gi_n, nm_n, jn_n, bd1_n, bd2_n, bd3_n, bd4_n, bd5_n, bd6_n]
  | r + 1, i, n, x, hi, hn => by
    obtain ⟨n, rfl⟩ : ∃ j, n = j + 1 := ⟨n - 1, by omega⟩
    obtain ⟨x', e, h1, h2⟩ := clz r (i + 1) n (upd x i (nI 0)) (by omega) (by omega)
    refine ⟨x', ?_, fun j hj => by rw [h1 j (by omega), pk_un (by omega)], fun j hj hj2 => ?_⟩
    · rw [f_X0_addGuesses_L2]
      simp (disch := omega) only [lit, pk_mul, nI_add, ni_sub, ni_div, ni_rem, ni_cl, ni_pred, nmod, ↓reduceIte, ile_t, ile_f, ilt_t, ilt_f, ieq_t, ieq_f, if_true_n, if_false_n, gi_n, nm_n, jn_n, bd1_n, bd2_n, bd3_n, bd4_n, bd5_n, bd6_n, e]
    · by_cases c : j = i
      · subst c
        rw [h1 j (by omega), pk_us]
      · exact h2 j (by omega) hj2
theorem mlz : ∀ (r i n : Nat) (x : Nat → Int32), r + i = 3 → r < n → ∃ x' : Nat → Int32, f_X7_guess_L2 n x (nI i) = some x' ∧ (∀ j, j < i → x' j = x j) ∧ (∀ j, i ≤ j → j < 3 → x' j = nI 0)
  | 0, i, n, x, hi, hn => by
    obtain ⟨n, rfl⟩ : ∃ j, n = j + 1 := ⟨n - 1, by omega⟩
    refine ⟨x, ?_, fun _ _ => rfl, fun j h1 h2 => absurd h2 (by omega)⟩
    rw [f_X7_guess_L2]; simp (disch := omega) only [lit, pk_mul, nI_add, ni_sub, ni_div, ni_rem, ni_cl, ni_pred, nmod, ↓reduceIte, ile_t, ile_f, ilt_t, ilt_f, ieq_t, ieq_f, if_true_n, if_false_n, gi_n, nm_n, jn_n, bd1_n, bd2_n, bd3_n, bd4_n, bd5_n, bd6_n]
  | r + 1, i, n, x, hi, hn => by
    obtain ⟨n, rfl⟩ : ∃ j, n = j + 1 := ⟨n - 1, by omega⟩
    obtain ⟨x', e, h1, h2⟩ := mlz r (i + 1) n (upd x i (nI 0)) (by omega) (by omega)
    refine ⟨x', ?_, fun j hj => by rw [h1 j (by omega), pk_un (by omega)], fun j hj hj2 => ?_⟩
    · rw [f_X7_guess_L2]
      simp (disch := omega) only [lit, pk_mul, nI_add, ni_sub, ni_div, ni_rem, ni_cl, ni_pred, nmod, ↓reduceIte, ile_t, ile_f, ilt_t, ilt_f, ieq_t, ieq_f, if_true_n, if_false_n, gi_n, nm_n, jn_n, bd1_n, bd2_n, bd3_n, bd4_n, bd5_n, bd6_n, e]
    · by_cases c : j = i
      · subst c
        rw [h1 j (by omega), pk_us]
      · exact h2 j (by omega) hj2
/-- numbers are alike, place 0 with its guess; a block that is not coded has none -/
def NU (w h : Nat) (cm : Nat → Int32) (cg : Nat → Nat → Int32) (mn : Nat → Int32) : Prop := ∀ y x, y < h → x < w → (∀ u, u < 64 → cg (y * w + x) u = mn (64 * (6 * y + x) + u) ∧ sm 23000 (cg (y * w + x) u)) ∧ (cm (y * w + x) = nI 0 → ∀ u, u < 64 → cg (y * w + x) u = nI 0)
theorem guesses_ex {w h : Nat} {cm mm cp mp cl ml : Nat → Int32} {cg : Nat → Nat → Int32} {mn : Nat → Int32} (hw : w < 7) (hh : h < 7) (hM : MO w h cm mm) (hK : TK w h cm cp cg mp mn) :
    ∃ (cl' ml' : Nat → Int32) (cg' : Nat → Nat → Int32) (mn' : Nat → Int32), f_X0_addGuesses (nI w) (nI h) cm cl cg = some (cl', cg') ∧ f_X7_guess (nI w) (nI h) mm mn ml = some (mn', ml') ∧ NU w h cm cg' mn' := by
  have hle := wh_le hw hh
  obtain ⟨cl1, e1, -, k1⟩ := clz 5 0 4000 cl (by omega) (by omega)
  obtain ⟨ml1, e2, -, k2⟩ := mlz 3 0 4000 ml (by omega) (by omega)
  have hT : ∀ y x, y < h → x < w → (∀ u, u < 64 → cg (y * w + x) u = mn (64 * (6 * y + x) + u) ∧ sm 612 (cg (y * w + x) u)) ∧ (cm (y * w + x) = nI 0 → ∀ u, u < 64 → cg (y * w + x) u = nI 0) := by
    intro y x hy hx
    obtain ⟨k, hk, rfl, rfl⟩ := ord_of hw hh hx hy
    obtain ⟨a1, a2, a3⟩ := hK k hk
    exact ⟨a3, fun h9 => (a2 h9).2⟩
  have hG : GI w h (0 * w) cl1 ml1 cg mn := by
    rw [Nat.zero_mul]
    refine ⟨fun y x hy hx => ?_, fun u h1 h2 h3 => ?_⟩
    · obtain ⟨a, b⟩ := (hT y x hy hx).1 0 (by omega)
      exact ⟨a, sm_mono b (by omega), fun _ => b⟩
    · rw [k1 u (by omega) h1, k2 (kr u) (by omega) (kr_c u h1 h2).1]
      exact ⟨rfl, sm_0⟩
  obtain ⟨cl2, ml2, cg2, mn2, t1, t2, t3, t4, t5, t6⟩ := grow hw hh (mo2_of hw hh hM) h 0 4000 4000 cl1 ml1 cg mn (by omega) (by omega) (by omega) hG
  refine ⟨cl2, ml2, cg2, mn2, ?_, ?_, fun y x hy hx => ⟨fun u hu => ?_, fun h9 u hu => ?_⟩⟩
  · unfold f_X0_addGuesses
    simp (disch := omega) only [lit, pk_mul, nI_add, ni_sub, ni_div, ni_rem, ni_cl, ni_pred, nmod, ↓reduceIte, ile_t, ile_f, ilt_t, ilt_f, ieq_t, ieq_f, if_true_n, if_false_n, gi_n, nm_n, jn_n, bd1_n, bd2_n, bd3_n, bd4_n, bd5_n, bd6_n, e1, t1]
  · unfold f_X7_guess
    simp (disch := omega) only [lit, pk_mul, nI_add, ni_sub, ni_div, ni_rem, ni_cl, ni_pred, nmod, ↓reduceIte, ile_t, ile_f, ilt_t, ilt_f, ieq_t, ieq_f, if_true_n, if_false_n, gi_n, nm_n, jn_n, bd1_n, bd2_n, bd3_n, bd4_n, bd5_n, bd6_n, e2, t2]
  · by_cases c : u = 0
    · subst c
      obtain ⟨a, b, d⟩ := t3.1 y x hy hx
      rw [Nat.mul_comm h w] at b
      exact ⟨a, sm_mono b (by omega)⟩
    · rw [t4 _ _ c, t5 _ (by omega)]
      obtain ⟨a, b⟩ := (hT y x hy hx).1 u hu
      exact ⟨a, sm_mono b (by omega)⟩
  · by_cases c : u = 0
    · subst c
      rw [t6 _ h9]
      exact (hT y x hy hx).2 h9 0 hu
    · rw [t4 _ _ c]
      exact (hT y x hy hx).2 h9 u hu
