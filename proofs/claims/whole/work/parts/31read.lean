/-! The pure side, 3: runs, moves, tokens out of a tree. -/
theorem four (n : Nat) (h : n ≤ 4000) : (4000 : Nat) = (4000 - n) + n := by omega
theorem num0 {sz p f : Nat} (B : Nat → Int32) : f_X4_number (nI 0) (nI sz) (nI p) (nI f) B = some (nI 0, nI p, nI f) := by
  unfold f_X4_number
  rw [show (4000 : Nat) = 3999 + 1 from rfl, f_X4_number_L4]
  simp (disch := omega) only [lit, pk_mul, nI_add, ni_sub, ni_div, ni_rem, ni_cl, ni_pred, nmod, ↓reduceIte, ile_t, ile_f, ilt_t, ilt_f, ieq_t, ieq_f, if_true_n, if_false_n, gi_n, nm_n, jn_n, bd1_n, bd2_n, bd3_n, bd4_n, bd5_n, bd6_n]
theorem num1 {sz p f b p' f' : Nat} {B : Nat → Int32} (e : f_X4_bit (nI sz) (nI p) (nI f) B = some (nI b, nI p', nI f')) : f_X4_number (nI 1) (nI sz) (nI p) (nI f) B = some (nI b, nI p', nI f') := by
  unfold f_X4_number
  rw [show (4000 : Nat) = 3998 + 1 + 1 from rfl, f_X4_number_L4]
  simp (disch := omega) only [lit, pk_mul, nI_add, ni_sub, ni_div, ni_rem, ni_cl, ni_pred, nmod, ↓reduceIte, ile_t, ile_f, ilt_t, ilt_f, ieq_t, ieq_f, if_true_n, if_false_n, gi_n, nm_n, jn_n, bd1_n, bd2_n, bd3_n, bd4_n, bd5_n, bd6_n, e]
  rw [f_X4_number_L4]
  simp (disch := omega) only [lit, pk_mul, nI_add, ni_sub, ni_div, ni_rem, ni_cl, ni_pred, nmod, ↓reduceIte, ile_t, ile_f, ilt_t, ilt_f, ieq_t, ieq_f, if_true_n, if_false_n, gi_n, nm_n, jn_n, bd1_n, bd2_n, bd3_n, bd4_n, bd5_n, bd6_n]
  rw [show 2 * 0 + b = b by omega]
theorem run_ex {sz p f : Nat} (B : Nat → Int32) (hs : sz ≤ 6000) (hp : p ≤ 8 * sz) (hf : f ≤ 6) : ∃ v p' f' : Nat, 1 ≤ v ∧ v ≤ 39 ∧ p' ≤ 8 * sz ∧ f' ≤ 6 ∧ (f ≠ 0 → v = 1 ∧ p' = p ∧ f' = f) ∧ f_X0_readRun (nI sz) (nI p) (nI f) B = some (nI v, nI p', nI f') ∧ f_X7_readRun (nI sz) (nI p) (nI f) B = some (nI v, nI p', nI f') := by
  unfold f_X0_readRun f_X7_readRun
  obtain ⟨b1, p1, f1, hb1, hp1, hf1, hz1, hy1, e41, e71⟩ := bit_ex B hs hp hf
  by_cases c1 : b1 = 0
  · refine ⟨1, p1, f1, by omega, by omega, hp1, hf1, fun h => ⟨rfl, (hz1 h).2⟩, ?_, ?_⟩
    · simp (disch := omega) only [lit, pk_mul, nI_add, ni_sub, ni_div, ni_rem, ni_cl, ni_pred, nmod, ↓reduceIte, ile_t, ile_f, ilt_t, ilt_f, ieq_t, ieq_f, if_true_n, if_false_n, gi_n, nm_n, jn_n, bd1_n, bd2_n, bd3_n, bd4_n, bd5_n, bd6_n, e41]
    · simp (disch := omega) only [lit, pk_mul, nI_add, ni_sub, ni_div, ni_rem, ni_cl, ni_pred, nmod, ↓reduceIte, ile_t, ile_f, ilt_t, ilt_f, ieq_t, ieq_f, if_true_n, if_false_n, gi_n, nm_n, jn_n, bd1_n, bd2_n, bd3_n, bd4_n, bd5_n, bd6_n, e71]
  obtain ⟨b2, p2, f2, hb2, hp2, hf2, hz2, hy2, e42, e72⟩ := bit_ex B hs hp1 hf1
  have hz : f ≠ 0 → False := fun h => c1 (hz1 h).1
  by_cases c2 : b2 = 0
  · obtain ⟨b3, p3, f3, hb3, hp3, hf3, hz3, hy3, e43, e73⟩ := bit_ex B hs hp2 hf2
    refine ⟨2 + b3, p3, f3, by omega, by omega, hp3, hf3, fun h => (hz h).elim, ?_, ?_⟩
    · simp (disch := omega) only [lit, pk_mul, nI_add, ni_sub, ni_div, ni_rem, ni_cl, ni_pred, nmod, ↓reduceIte, ile_t, ile_f, ilt_t, ilt_f, ieq_t, ieq_f, if_true_n, if_false_n, gi_n, nm_n, jn_n, bd1_n, bd2_n, bd3_n, bd4_n, bd5_n, bd6_n, e41, e42, num1 e43]
    · simp (disch := omega) only [lit, pk_mul, nI_add, ni_sub, ni_div, ni_rem, ni_cl, ni_pred, nmod, ↓reduceIte, ile_t, ile_f, ilt_t, ilt_f, ieq_t, ieq_f, if_true_n, if_false_n, gi_n, nm_n, jn_n, bd1_n, bd2_n, bd3_n, bd4_n, bd5_n, bd6_n, e71, e72, e73]
  obtain ⟨b3, p3, f3, hb3, hp3, hf3, hz3, hy3, e43, e73⟩ := bit_ex B hs hp2 hf2
  by_cases c3 : b3 = 0
  · obtain ⟨v, p4, f4, hv, hp4, hf4, hz4, e44, e74⟩ := bits_ex (N := 2) B hs hp3 hf3 (by omega)
    refine ⟨4 + v, p4, f4, by omega, by omega, hp4, hf4, fun h => (hz h).elim, ?_, ?_⟩
    · simp (disch := omega) only [lit, pk_mul, nI_add, ni_sub, ni_div, ni_rem, ni_cl, ni_pred, nmod, ↓reduceIte, ile_t, ile_f, ilt_t, ilt_f, ieq_t, ieq_f, if_true_n, if_false_n, gi_n, nm_n, jn_n, bd1_n, bd2_n, bd3_n, bd4_n, bd5_n, bd6_n, e41, e42, e43, e44]
    · simp (disch := omega) only [lit, pk_mul, nI_add, ni_sub, ni_div, ni_rem, ni_cl, ni_pred, nmod, ↓reduceIte, ile_t, ile_f, ilt_t, ilt_f, ieq_t, ieq_f, if_true_n, if_false_n, gi_n, nm_n, jn_n, bd1_n, bd2_n, bd3_n, bd4_n, bd5_n, bd6_n, e71, e72, e73, e74]
  obtain ⟨v, p4, f4, hv, hp4, hf4, hz4, e44, e74⟩ := bits_ex (N := 5) B hs hp3 hf3 (by omega)
  refine ⟨8 + v, p4, f4, by omega, by omega, hp4, hf4, fun h => (hz h).elim, ?_, ?_⟩
  · simp (disch := omega) only [lit, pk_mul, nI_add, ni_sub, ni_div, ni_rem, ni_cl, ni_pred, nmod, ↓reduceIte, ile_t, ile_f, ilt_t, ilt_f, ieq_t, ieq_f, if_true_n, if_false_n, gi_n, nm_n, jn_n, bd1_n, bd2_n, bd3_n, bd4_n, bd5_n, bd6_n, e41, e42, e43, e44]
  · simp (disch := omega) only [lit, pk_mul, nI_add, ni_sub, ni_div, ni_rem, ni_cl, ni_pred, nmod, ↓reduceIte, ile_t, ile_f, ilt_t, ilt_f, ieq_t, ieq_f, if_true_n, if_false_n, gi_n, nm_n, jn_n, bd1_n, bd2_n, bd3_n, bd4_n, bd5_n, bd6_n, e71, e72, e73, e74]
/-- a small number, of either sign -/
def sm (m : Nat) (x : Int32) : Prop := ∃ k : Nat, k ≤ m ∧ (x = nI k ∨ x = -nI k)
theorem move_ex {sz p f : Nat} (B : Nat → Int32) (hs : sz ≤ 6000) (hp : p ≤ 8 * sz) (hf : f ≤ 6) : ∃ (v : Int32) (p' f' : Nat), sm 31 v ∧ p' ≤ 8 * sz ∧ f' ≤ 6 ∧ (f ≠ 0 → p' = p ∧ f' = f) ∧ f_X0_readMove (nI sz) (nI p) (nI f) B = some (v, nI p', nI f') ∧ f_X7_readFar (nI sz) (nI p) (nI f) B = some (v, nI p', nI f') := by
  unfold f_X0_readMove f_X7_readFar
  obtain ⟨v, p1, f1, hv, hp1, hf1, hz1, e41, e71⟩ := bits_ex (N := 5) B hs hp hf (by omega)
  obtain ⟨b, p2, f2, hb, hp2, hf2, hz2, hy2, e42, e72⟩ := bit_ex B hs hp1 hf1
  have hz : f ≠ 0 → p2 = p ∧ f2 = f := by
    intro h
    obtain ⟨a1, a2, a3⟩ := hz1 h
    obtain ⟨a4, a5, a6⟩ := hz2 (by omega)
    omega
  by_cases c : b = 1
  · refine ⟨-nI v, p2, f2, ⟨v, by omega, Or.inr rfl⟩, hp2, hf2, hz, ?_, ?_⟩
    · simp (disch := omega) only [lit, pk_mul, nI_add, ni_sub, ni_div, ni_rem, ni_cl, ni_pred, nmod, ↓reduceIte, ile_t, ile_f, ilt_t, ilt_f, ieq_t, ieq_f, if_true_n, if_false_n, gi_n, nm_n, jn_n, bd1_n, bd2_n, bd3_n, bd4_n, bd5_n, bd6_n, e41, e42]
    · simp (disch := omega) only [lit, pk_mul, nI_add, ni_sub, ni_div, ni_rem, ni_cl, ni_pred, nmod, ↓reduceIte, ile_t, ile_f, ilt_t, ilt_f, ieq_t, ieq_f, if_true_n, if_false_n, gi_n, nm_n, jn_n, bd1_n, bd2_n, bd3_n, bd4_n, bd5_n, bd6_n, e71, e72]
  · refine ⟨nI v, p2, f2, ⟨v, by omega, Or.inl rfl⟩, hp2, hf2, hz, ?_, ?_⟩
    · simp (disch := omega) only [lit, pk_mul, nI_add, ni_sub, ni_div, ni_rem, ni_cl, ni_pred, nmod, ↓reduceIte, ile_t, ile_f, ilt_t, ilt_f, ieq_t, ieq_f, if_true_n, if_false_n, gi_n, nm_n, jn_n, bd1_n, bd2_n, bd3_n, bd4_n, bd5_n, bd6_n, e41, e42]
    · simp (disch := omega) only [lit, pk_mul, nI_add, ni_sub, ni_div, ni_rem, ni_cl, ni_pred, nmod, ↓reduceIte, ile_t, ile_f, ilt_t, ilt_f, ieq_t, ieq_f, if_true_n, if_false_n, gi_n, nm_n, jn_n, bd1_n, bd2_n, bd3_n, bd4_n, bd5_n, bd6_n, e71, e72]
/-- x is a token, or a node from lo on below hi, all of whose branches are valid, at most d nodes deep -/
def trV (br : Nat → Int32) (lo hi : Nat) : Nat → Int32 → Prop
  | 0, x => ∃ t : Nat, t < 32 ∧ x = -nI 1 - nI t
  | d + 1, x => (∃ t : Nat, t < 32 ∧ x = -nI 1 - nI t) ∨ ∃ i : Nat, lo ≤ i ∧ i < hi ∧ x = nI i ∧ trV br lo hi d (br (2 * i)) ∧ trV br lo hi d (br (2 * i + 1))
/-- how the reference names what the class names x -/
def shf (off : Nat) (x y : Int32) : Prop := (∃ t : Nat, t < 32 ∧ x = -nI 1 - nI t ∧ y = x) ∨ (∃ i : Nat, i < 44 ∧ x = nI i ∧ y = nI (off + i))
def trR (off hi : Nat) (br sd : Nat → Int32) : Prop := ∀ k : Nat, k < 2 * hi → shf off (br k) (sd (2 * off + k))
theorem tok_ne : ∀ t : Nat, t < 32 → -nI 1 - nI t ≠ nI 99 ∧ -nI 1 - nI t < nI 0 := by decide +kernel
theorem tok_not_nI {t i : Nat} (ht : t < 32) (hi : i < 1000) : -nI 1 - nI t ≠ nI i := by
  intro e
  have h := (tok_ne t ht).2
  rw [e] at h
  exact nI_pos (n := i) (by omega) h
theorem readTok_loop (sz off hi : Nat) (B br sd : Nat → Int32) (hs : sz ≤ 6000) (hhi : hi ≤ 44) (hoff : off ≤ 400) (hR : trR off hi br sd) : ∀ (d v3 : Nat) (x y : Int32) (p f n m : Nat), v3 + d = 12 → d < n → d < m → trV br 0 hi d x → shf off x y → p ≤ 8 * sz → f ≤ 6 → ∃ t p' f' : Nat, t < 32 ∧ p' ≤ 8 * sz ∧ f' ≤ 6 ∧ (f ≠ 0 → p' = p ∧ f' = f) ∧ f_X5_readToken_L7 br (nI sz) B n (nI p) (nI f) x (nI v3) = some (nI p', nI f', -nI 1 - nI t) ∧ f_X7_readToken_L7 (nI sz) B sd m (nI p) (nI f) y = some (nI p', nI f', -nI 1 - nI t)
  | 0, v3, x, y, p, f, n, m, hv, hn, hm, hV, hxy, hp, hf => by
    obtain ⟨n, rfl⟩ : ∃ j, n = j + 1 := ⟨n - 1, by omega⟩
    obtain ⟨m, rfl⟩ : ∃ j, m = j + 1 := ⟨m - 1, by omega⟩
    obtain ⟨t, ht, rfl⟩ := hV
    have e : y = -nI 1 - nI t := by
      rcases hxy with ⟨_, _, _, e⟩ | ⟨i, hi, e, _⟩
      · exact e
      · exact absurd e (tok_not_nI ht (by omega))
    subst e
    refine ⟨t, p, f, ht, hp, hf, fun _ => ⟨rfl, rfl⟩, ?_, ?_⟩
    · rw [f_X5_readToken_L7]; simp (disch := omega) only [lit, pk_mul, nI_add, ni_sub, ni_div, ni_rem, ni_cl, ni_pred, nmod, ↓reduceIte, ile_t, ile_f, ilt_t, ilt_f, ieq_t, ieq_f, if_true_n, if_false_n, gi_n, nm_n, jn_n, bd1_n, bd2_n, bd3_n, bd4_n, bd5_n, bd6_n]
    · rw [f_X7_readToken_L7, lit, if_pos (tok_ne t ht).2]
  | d + 1, v3, x, y, p, f, n, m, hv, hn, hm, hV, hxy, hp, hf => by
    obtain ⟨n, rfl⟩ : ∃ j, n = j + 1 := ⟨n - 1, by omega⟩
    obtain ⟨m, rfl⟩ : ∃ j, m = j + 1 := ⟨m - 1, by omega⟩
    rcases hV with ⟨t, ht, rfl⟩ | ⟨i, -, hi1, rfl, hV0, hV1⟩
    · have e : y = -nI 1 - nI t := by
        rcases hxy with ⟨_, _, _, e⟩ | ⟨i, hi, e, _⟩
        · exact e
        · exact absurd e (tok_not_nI ht (by omega))
      subst e
      refine ⟨t, p, f, ht, hp, hf, fun _ => ⟨rfl, rfl⟩, ?_, ?_⟩
      · rw [f_X5_readToken_L7]
        simp (disch := omega) only [lit, pk_mul, nI_add, ni_sub, ni_div, ni_rem, ni_cl, ni_pred, nmod, ↓reduceIte, ile_t, ile_f, ilt_t, ilt_f, ieq_t, ieq_f, if_true_n, if_false_n, gi_n, nm_n, jn_n, bd1_n, bd2_n, bd3_n, bd4_n, bd5_n, bd6_n]
        rw [if_pos (tok_ne t ht).2]
      · rw [f_X7_readToken_L7, lit, if_pos (tok_ne t ht).2]
    · have e : y = nI (off + i) := by
        rcases hxy with ⟨t, ht, e, _⟩ | ⟨j, hj, e, e2⟩
        · exact absurd e.symm (tok_not_nI ht (by omega))
        · rw [e2, (nI_eq (by omega) (by omega)).mp e]
      subst e
      obtain ⟨b, p1, f1, hb, hp1, hf1, hz1, hy1, e4, e7⟩ := bit_ex B hs hp hf
      have hV' : trV br 0 hi d (br (2 * i + b)) := by
        rcases (show b = 0 ∨ b = 1 by omega) with rfl | rfl
        · exact hV0
        · exact hV1
      obtain ⟨t, p2, f2, ht, hp2, hf2, hz2, e42, e72⟩ := readTok_loop sz off hi B br sd hs hhi hoff hR d (v3 + 1) _ _ p1 f1 n m (by omega) (by omega) (by omega) hV' (hR (2 * i + b) (by omega)) hp1 hf1
      refine ⟨t, p2, f2, ht, hp2, hf2, fun h => ?_, ?_, ?_⟩
      · obtain ⟨a1, a2, a3⟩ := hz1 h
        obtain ⟨a5, a6⟩ := hz2 (by omega)
        omega
      · rw [f_X5_readToken_L7]
        simp (disch := omega) only [lit, pk_mul, nI_add, ni_sub, ni_div, ni_rem, ni_cl, ni_pred, nmod, ↓reduceIte, ile_t, ile_f, ilt_t, ilt_f, ieq_t, ieq_f, if_true_n, if_false_n, gi_n, nm_n, jn_n, bd1_n, bd2_n, bd3_n, bd4_n, bd5_n, bd6_n, e4, e42]
      · rw [f_X7_readToken_L7]
        simp (disch := omega) only [lit, pk_mul, nI_add, ni_sub, ni_div, ni_rem, ni_cl, ni_pred, nmod, ↓reduceIte, ile_t, ile_f, ilt_t, ilt_f, ieq_t, ieq_f, if_true_n, if_false_n, gi_n, nm_n, jn_n, bd1_n, bd2_n, bd3_n, bd4_n, bd5_n, bd6_n, e7]
        rw [show 2 * (off + i) + b = 2 * off + (2 * i + b) by omega, e72]
/-- a tree of the header: the class's, the reference's number w -/
def trT (w hi : Nat) (br sd rt : Nat → Int32) (root : Int32) : Prop := hi ≤ 44 ∧ trV br 0 hi 12 root ∧ trR (128 * w) hi br sd ∧ shf (128 * w) root (rt w)
theorem readTok_ex {sz w hi p f : Nat} {br sd rt : Nat → Int32} {root : Int32} (B : Nat → Int32) (hs : sz ≤ 6000) (hw : w < 2) (hT : trT w hi br sd rt root) (hp : p ≤ 8 * sz) (hf : f ≤ 6) : ∃ t p' f' : Nat, t < 32 ∧ p' ≤ 8 * sz ∧ f' ≤ 6 ∧ (f ≠ 0 → p' = p ∧ f' = f) ∧ f_X5_readToken root br (nI sz) (nI p) (nI f) B = some (nI t, nI p', nI f') ∧ f_X7_readToken (nI w) (nI sz) (nI p) (nI f) B sd rt = some (nI t, nI p', nI f') := by
  obtain ⟨h1, h2, h3, h4⟩ := hT
  obtain ⟨t, p', f', ht, hp', hf', hz, e4, e7⟩ := readTok_loop sz (128 * w) hi B br sd hs h1 (by omega) h3 12 0 root (rt w) p f 4000 4000 (by omega) (by omega) (by omega) h2 h4 hp hf
  refine ⟨t, p', f', ht, hp', hf', hz, ?_, ?_⟩
  · unfold f_X5_readToken
    simp (disch := omega) only [lit, pk_mul, nI_add, ni_sub, ni_div, ni_rem, ni_cl, ni_pred, nmod, ↓reduceIte, ile_t, ile_f, ilt_t, ilt_f, ieq_t, ieq_f, if_true_n, if_false_n, gi_n, nm_n, jn_n, bd1_n, bd2_n, bd3_n, bd4_n, bd5_n, bd6_n, e4, (neg1_tok t ht).1]
  · unfold f_X7_readToken
    simp (disch := omega) only [lit, pk_mul, nI_add, ni_sub, ni_div, ni_rem, ni_cl, ni_pred, nmod, ↓reduceIte, ile_t, ile_f, ilt_t, ilt_f, ieq_t, ieq_f, if_true_n, if_false_n, gi_n, nm_n, jn_n, bd1_n, bd2_n, bd3_n, bd4_n, bd5_n, bd6_n, e7, (neg1_tok t ht).1]
