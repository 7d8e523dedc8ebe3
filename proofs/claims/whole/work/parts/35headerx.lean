/-! The pure side, 7: a header is read by both alike. -/
/-- the header in force, of the class and of the reference -/
def HDR (w h : Nat) (cols rows lim : Int32) (hs hst : Nat → Int32) (t1 r1 : Int32) (b1 : Nat → Int32) (t2 r2 : Int32) (b2 ho : Nat → Int32) (mw mh ml many : Int32) (ms mst sd rt tk mo : Nat → Int32) : Prop :=
  (1 ≤ w ∧ w < 7 ∧ 1 ≤ h ∧ h < 7) ∧ (cols = nI w ∧ rows = nI h ∧ mw = nI w ∧ mh = nI h ∧ many = nI (w * h)) ∧ (∃ l, l < 32 ∧ lim = nI l ∧ ml = nI l) ∧ sameN 8 1024 hs ms ∧ sameN 16 256 hst mst ∧ (∃ hi, trT 0 hi b1 sd rt r1) ∧ (∃ hi, trT 1 hi b2 sd rt r2) ∧ (∃ t, t ≤ 32 ∧ t1 = nI t ∧ tk 0 = nI t) ∧ (∃ t, t ≤ 32 ∧ t2 = nI t ∧ tk 1 = nI t) ∧ orOk w h ho mo
theorem trT_keep {w hi : Nat} {br sd rt sd' rt' : Nat → Int32} {root : Int32} (hw : w < 2) (h : trT w hi br sd rt root) (h1 : ∀ j, j < 512 → sd' j = sd j) (h2 : ∀ i, i < 2 → rt' i = rt i) : trT w hi br sd' rt' root := by
  obtain ⟨a1, a2, a3, a4⟩ := h
  refine ⟨a1, a2, fun k hk => ?_, by rw [h2 w hw]; exact a4⟩
  rw [h1 _ (by omega)]
  exact a3 k hk
theorem HDR_keep {w h : Nat} {cols rows lim : Int32} {hs hst : Nat → Int32} {t1 r1 : Int32} {b1 : Nat → Int32} {t2 r2 : Int32} {b2 ho : Nat → Int32} {mw mh ml many : Int32} {ms mst sd rt tk mo sd' rt' tk' : Nat → Int32} (h0 : HDR w h cols rows lim hs hst t1 r1 b1 t2 r2 b2 ho mw mh ml many ms mst sd rt tk mo) (h1 : ∀ j, j < 512 → sd' j = sd j) (h2 : ∀ i, i < 2 → rt' i = rt i) (h3 : ∀ i, i < 2 → tk' i = tk i) : HDR w h cols rows lim hs hst t1 r1 b1 t2 r2 b2 ho mw mh ml many ms mst sd' rt' tk' mo := by
  obtain ⟨a1, a2, a3, a4, a5, ⟨i6, a6⟩, ⟨i7, a7⟩, a8, a9, a10⟩ := h0
  exact ⟨a1, a2, a3, a4, a5, ⟨i6, trT_keep (by omega) a6 h1 h2⟩, ⟨i7, trT_keep (by omega) a7 h1 h2⟩, by rw [h3 0 (by omega)]; exact a8, by rw [h3 1 (by omega)]; exact a9, a10⟩
theorem copy_trees {n : Nat} {sd rt tk : Nat → Int32} (hn : 2 < n) : ∃ sd' rt' tk' : Nat → Int32, f_X7_readHeader_L193 n sd rt tk (nI 0) = some (sd', rt', tk') ∧ (∀ t, t < 2 → ∀ k, k < 256 → sd' (256 * t + k) = cv (sd (512 + 256 * t + k))) ∧ (∀ t, t < 2 → rt' t = (if rt (t + 2) < nI 0 then rt (t + 2) else rt (t + 2) - nI 256)) ∧ (∀ t, t < 2 → tk' t = tk (t + 2)) := by
  obtain ⟨n, rfl⟩ : ∃ j, n = j + 1 + 1 + 1 := ⟨n - 3, by omega⟩
  obtain ⟨sd1, e1, h1, k1⟩ := copyT (t := 0) (by omega) 256 0 4000 sd (by omega) (by omega)
  obtain ⟨sd2, e2, h2, k2⟩ := copyT (t := 1) (by omega) 256 0 4000 sd1 (by omega) (by omega)
  have hr : ∀ (x : Int32) (r : Option ((Nat → Int32) × (Nat → Int32) × (Nat → Int32))) (K : Int32 → Option ((Nat → Int32) × (Nat → Int32) × (Nat → Int32))), K (if x < nI 0 then x else x - nI 256) = r → (if x < nI 0 then K x else K (x - nI 256)) = r := by
    intro x r K h
    by_cases c : x < nI 0
    · rw [if_pos c] at h ⊢; exact h
    · rw [if_neg c] at h ⊢; exact h
  obtain ⟨v0, ev0⟩ : ∃ v, v = (if rt 2 < nI 0 then rt 2 else rt 2 - nI 256) := ⟨_, rfl⟩
  obtain ⟨v1, ev1⟩ : ∃ v, v = (if rt 3 < nI 0 then rt 3 else rt 3 - nI 256) := ⟨_, rfl⟩
  refine ⟨sd2, upd (upd rt 0 v0) 1 v1, upd (upd tk 0 (tk 2)) 1 (tk 3), ?_, ?_, ?_, ?_⟩
  · have p2 : upd rt 0 v0 3 = rt 3 := pk_un (by omega)
    have p3 : upd tk 0 (tk 2) 3 = tk 3 := pk_un (by omega)
    rw [f_X7_readHeader_L193]
    by_cases c0 : rt 2 < nI 0
    · rw [if_pos c0] at ev0
      subst ev0
      simp (disch := omega) only [lit, pk_mul, nI_add, ni_sub, ni_div, ni_rem, ni_cl, ni_pred, nmod, ↓reduceIte, ile_t, ile_f, ilt_t, ilt_f, ieq_t, ieq_f, if_true_n, if_false_n, gi_n, nm_n, jn_n, bd1_n, bd2_n, bd3_n, bd4_n, bd5_n, bd6_n, e1, if_pos c0]
      rw [f_X7_readHeader_L193]
      by_cases c1 : rt 3 < nI 0
      · rw [if_pos c1] at ev1
        subst ev1
        simp (disch := omega) only [lit, pk_mul, nI_add, ni_sub, ni_div, ni_rem, ni_cl, ni_pred, nmod, ↓reduceIte, ile_t, ile_f, ilt_t, ilt_f, ieq_t, ieq_f, if_true_n, if_false_n, gi_n, nm_n, jn_n, bd1_n, bd2_n, bd3_n, bd4_n, bd5_n, bd6_n, e2, p2, p3, if_pos c1]
        rw [f_X7_readHeader_L193]
        simp (disch := omega) only [lit, pk_mul, nI_add, ni_sub, ni_div, ni_rem, ni_cl, ni_pred, nmod, ↓reduceIte, ile_t, ile_f, ilt_t, ilt_f, ieq_t, ieq_f, if_true_n, if_false_n, gi_n, nm_n, jn_n, bd1_n, bd2_n, bd3_n, bd4_n, bd5_n, bd6_n]
      · rw [if_neg c1] at ev1
        subst ev1
        simp (disch := omega) only [lit, pk_mul, nI_add, ni_sub, ni_div, ni_rem, ni_cl, ni_pred, nmod, ↓reduceIte, ile_t, ile_f, ilt_t, ilt_f, ieq_t, ieq_f, if_true_n, if_false_n, gi_n, nm_n, jn_n, bd1_n, bd2_n, bd3_n, bd4_n, bd5_n, bd6_n, e2, p2, p3, if_neg c1]
        rw [f_X7_readHeader_L193]
        simp (disch := omega) only [lit, pk_mul, nI_add, ni_sub, ni_div, ni_rem, ni_cl, ni_pred, nmod, ↓reduceIte, ile_t, ile_f, ilt_t, ilt_f, ieq_t, ieq_f, if_true_n, if_false_n, gi_n, nm_n, jn_n, bd1_n, bd2_n, bd3_n, bd4_n, bd5_n, bd6_n]
    · rw [if_neg c0] at ev0
      subst ev0
      simp (disch := omega) only [lit, pk_mul, nI_add, ni_sub, ni_div, ni_rem, ni_cl, ni_pred, nmod, ↓reduceIte, ile_t, ile_f, ilt_t, ilt_f, ieq_t, ieq_f, if_true_n, if_false_n, gi_n, nm_n, jn_n, bd1_n, bd2_n, bd3_n, bd4_n, bd5_n, bd6_n, e1, if_neg c0]
      rw [f_X7_readHeader_L193]
      by_cases c1 : rt 3 < nI 0
      · rw [if_pos c1] at ev1
        subst ev1
        simp (disch := omega) only [lit, pk_mul, nI_add, ni_sub, ni_div, ni_rem, ni_cl, ni_pred, nmod, ↓reduceIte, ile_t, ile_f, ilt_t, ilt_f, ieq_t, ieq_f, if_true_n, if_false_n, gi_n, nm_n, jn_n, bd1_n, bd2_n, bd3_n, bd4_n, bd5_n, bd6_n, e2, p2, p3, if_pos c1]
        rw [f_X7_readHeader_L193]
        simp (disch := omega) only [lit, pk_mul, nI_add, ni_sub, ni_div, ni_rem, ni_cl, ni_pred, nmod, ↓reduceIte, ile_t, ile_f, ilt_t, ilt_f, ieq_t, ieq_f, if_true_n, if_false_n, gi_n, nm_n, jn_n, bd1_n, bd2_n, bd3_n, bd4_n, bd5_n, bd6_n]
      · rw [if_neg c1] at ev1
        subst ev1
        simp (disch := omega) only [lit, pk_mul, nI_add, ni_sub, ni_div, ni_rem, ni_cl, ni_pred, nmod, ↓reduceIte, ile_t, ile_f, ilt_t, ilt_f, ieq_t, ieq_f, if_true_n, if_false_n, gi_n, nm_n, jn_n, bd1_n, bd2_n, bd3_n, bd4_n, bd5_n, bd6_n, e2, p2, p3, if_neg c1]
        rw [f_X7_readHeader_L193]
        simp (disch := omega) only [lit, pk_mul, nI_add, ni_sub, ni_div, ni_rem, ni_cl, ni_pred, nmod, ↓reduceIte, ile_t, ile_f, ilt_t, ilt_f, ieq_t, ieq_f, if_true_n, if_false_n, gi_n, nm_n, jn_n, bd1_n, bd2_n, bd3_n, bd4_n, bd5_n, bd6_n]
  · intro t ht k hk
    rcases (show t = 0 ∨ t = 1 by omega) with rfl | rfl
    · rw [k2 _ (by omega), h1 k (by omega) hk]
    · rw [h2 k (by omega) hk, k1 _ (by omega)]
  · intro t ht
    rcases (show t = 0 ∨ t = 1 by omega) with rfl | rfl
    · rw [pk_un (by omega), pk_us, ev0]
    · rw [pk_us, ev1]
  · intro t ht
    rcases (show t = 0 ∨ t = 1 by omega) with rfl | rfl
    · rw [pk_un (by omega), pk_us]
    · rw [pk_us]
theorem cv_root {t : Nat} {x y : Int32} (ht : t < 2) (h : shf (128 * (t + 2)) x y) : shf (128 * t) x (if y < nI 0 then y else y - nI 256) := by
  have h9 := cv_shf ht h
  unfold cv at h9
  rcases h with ⟨u, hu, rfl, rfl⟩ | ⟨i, hi, rfl, rfl⟩
  · rw [if_pos (tok_ne u hu).2] at h9 ⊢
    exact h9
  · have c1 : ¬ nI (128 * (t + 2) + i) < nI 0 := nI_nlt (by omega) (by omega)
    have c2 : ¬ nI (128 * (t + 2) + i) = nI 99 := fun e => by
      have := (nI_eq (by omega) (by omega)).mp e
      omega
    rw [if_neg c1, if_neg c2] at h9
    rw [if_neg c1]
    exact h9
theorem header_ex {sz : Nat} {B : Nat → Int32} (hsz : sz ≤ 6000) (hc hr hl : Int32) (hs hst : Nat → Int32) (n1 t1 r1 : Int32) (b1 : Nat → Int32) (n2 t2 r2 : Int32) (b2 ho : Nat → Int32) (thr at0 fa0 hasH mw mh ml hasP fr tkn many : Int32) (ms mst ns nst sd rt tk pa mo mc mli : Nat → Int32) (hcl : mcl mc mli) :
    ∃ (p' f' : Nat) (c' r' l' : Int32) (hs' hst' : Nat → Int32) (n1' t1' r1' : Int32) (b1' : Nat → Int32) (n2' t2' r2' : Int32) (b2' ho' : Nat → Int32) (hasH' mw' mh' ml' hasP' fr' many' : Int32) (ms' mst' ns' nst' sd' rt' tk' pa' mo' : Nat → Int32),
      p' ≤ 8 * sz ∧ f' ≤ 6 ∧
      f_X1_read hc hr hl hs hst n1 t1 r1 b1 n2 t2 r2 b2 ho (nI sz) (nI 0) (nI 0) B = some (c', r', l', hs', hst', n1', t1', r1', b1', n2', t2', r2', b2', ho', nI p', nI f') ∧
      f_X7_header thr (nI sz) at0 fa0 hasH mw mh ml hasP fr tkn many B ms mst ns nst sd rt tk pa mo mc mli = some (nI f', nI 0, nI 0, nI p', nI f', hasH', mw', mh', ml', hasP', fr', nI p', many', ms', mst', ns', nst', sd', rt', tk', pa', mo') ∧
      (f' ≠ 0 → hasH' = hasH ∧ mw' = mw ∧ mh' = mh ∧ ml' = ml ∧ hasP' = hasP ∧ fr' = fr ∧ many' = many ∧ ms' = ms ∧ mst' = mst ∧ mo' = mo ∧ (∀ j, j < 512 → sd' j = sd j) ∧ (∀ i, i < 2 → rt' i = rt i) ∧ (∀ i, i < 2 → tk' i = tk i)) ∧
      (f' = 0 → hasH' = nI 1 ∧ hasP' = nI 0 ∧ fr' = nI 0 ∧ ∃ w h, HDR w h c' r' l' hs' hst' t1' r1' b1' t2' r2' b2' ho' mw' mh' ml' many' ms' mst' sd' rt' tk' mo') := by
  obtain ⟨y1, p1, f1, hy1, hp1, hf1, hz1, e41, e71⟩ := bits_ex (sz := sz) (p := 0) (f := 0) (N := 3) B hsz (by omega) (by omega) (by omega)
  obtain ⟨y2, p2, f2, hy2, hp2, hf2, hz2, e42, e72⟩ := bits_ex (N := 3) B hsz hp1 hf1 (by omega)
  have hy1 : y1 < 8 := hy1
  have hy2 : y2 < 8 := hy2
  obtain ⟨f3, hf3, hf30, c41, c71⟩ : ∃ f3 : Nat, f3 ≤ 6 ∧ (f3 = 0 → y1 < 6 ∧ y2 < 6 ∧ f2 = 0) ∧
      (∀ (α : Type) (K : Int32 → Option α), (if nI 6 < nI (y1 + 1) then bd1 (f_X4_fail (nI 2) (nI f2)) K else if nI (y2 + 1) ≤ nI 6 then K (nI f2) else bd1 (f_X4_fail (nI 2) (nI f2)) K) = K (nI f3)) ∧
      (∀ (α : Type) (K : Int32 → Option α), (if nI 6 < nI (y1 + 1) then bd1 (f_X7_fail (nI 2) (nI f2)) K else if nI (y2 + 1) ≤ nI 6 then K (nI f2) else bd1 (f_X7_fail (nI 2) (nI f2)) K) = K (nI f3)) := by
    by_cases c1 : 6 < y1 + 1
    · by_cases c0 : f2 = 0
      · subst c0
        refine ⟨2, by omega, by omega, fun α K => ?_, fun α K => ?_⟩
        · simp (disch := omega) only [lit, pk_mul, nI_add, ni_sub, ni_div, ni_rem, ni_cl, ni_pred, nmod, ↓reduceIte, ile_t, ile_f, ilt_t, ilt_f, ieq_t, ieq_f, if_true_n, if_false_n, gi_n, nm_n, jn_n, bd1_n, bd2_n, bd3_n, bd4_n, bd5_n, bd6_n, X4_fail_0]
        · simp (disch := omega) only [lit, pk_mul, nI_add, ni_sub, ni_div, ni_rem, ni_cl, ni_pred, nmod, ↓reduceIte, ile_t, ile_f, ilt_t, ilt_f, ieq_t, ieq_f, if_true_n, if_false_n, gi_n, nm_n, jn_n, bd1_n, bd2_n, bd3_n, bd4_n, bd5_n, bd6_n, X7_fail_0]
      · refine ⟨f2, hf2, by omega, fun α K => ?_, fun α K => ?_⟩
        · simp (disch := omega) only [lit, pk_mul, nI_add, ni_sub, ni_div, ni_rem, ni_cl, ni_pred, nmod, ↓reduceIte, ile_t, ile_f, ilt_t, ilt_f, ieq_t, ieq_f, if_true_n, if_false_n, gi_n, nm_n, jn_n, bd1_n, bd2_n, bd3_n, bd4_n, bd5_n, bd6_n, X4_fail_1]
        · simp (disch := omega) only [lit, pk_mul, nI_add, ni_sub, ni_div, ni_rem, ni_cl, ni_pred, nmod, ↓reduceIte, ile_t, ile_f, ilt_t, ilt_f, ieq_t, ieq_f, if_true_n, if_false_n, gi_n, nm_n, jn_n, bd1_n, bd2_n, bd3_n, bd4_n, bd5_n, bd6_n, X7_fail_1]
    · by_cases c2 : y2 + 1 ≤ 6
      · refine ⟨f2, hf2, by omega, fun α K => ?_, fun α K => ?_⟩
        · simp (disch := omega) only [lit, pk_mul, nI_add, ni_sub, ni_div, ni_rem, ni_cl, ni_pred, nmod, ↓reduceIte, ile_t, ile_f, ilt_t, ilt_f, ieq_t, ieq_f, if_true_n, if_false_n, gi_n, nm_n, jn_n, bd1_n, bd2_n, bd3_n, bd4_n, bd5_n, bd6_n]
        · simp (disch := omega) only [lit, pk_mul, nI_add, ni_sub, ni_div, ni_rem, ni_cl, ni_pred, nmod, ↓reduceIte, ile_t, ile_f, ilt_t, ilt_f, ieq_t, ieq_f, if_true_n, if_false_n, gi_n, nm_n, jn_n, bd1_n, bd2_n, bd3_n, bd4_n, bd5_n, bd6_n]
      · by_cases c0 : f2 = 0
        · subst c0
          refine ⟨2, by omega, by omega, fun α K => ?_, fun α K => ?_⟩
          · simp (disch := omega) only [lit, pk_mul, nI_add, ni_sub, ni_div, ni_rem, ni_cl, ni_pred, nmod, ↓reduceIte, ile_t, ile_f, ilt_t, ilt_f, ieq_t, ieq_f, if_true_n, if_false_n, gi_n, nm_n, jn_n, bd1_n, bd2_n, bd3_n, bd4_n, bd5_n, bd6_n, X4_fail_0]
          · simp (disch := omega) only [lit, pk_mul, nI_add, ni_sub, ni_div, ni_rem, ni_cl, ni_pred, nmod, ↓reduceIte, ile_t, ile_f, ilt_t, ilt_f, ieq_t, ieq_f, if_true_n, if_false_n, gi_n, nm_n, jn_n, bd1_n, bd2_n, bd3_n, bd4_n, bd5_n, bd6_n, X7_fail_0]
        · refine ⟨f2, hf2, by omega, fun α K => ?_, fun α K => ?_⟩
          · simp (disch := omega) only [lit, pk_mul, nI_add, ni_sub, ni_div, ni_rem, ni_cl, ni_pred, nmod, ↓reduceIte, ile_t, ile_f, ilt_t, ilt_f, ieq_t, ieq_f, if_true_n, if_false_n, gi_n, nm_n, jn_n, bd1_n, bd2_n, bd3_n, bd4_n, bd5_n, bd6_n, X4_fail_1]
          · simp (disch := omega) only [lit, pk_mul, nI_add, ni_sub, ni_div, ni_rem, ni_cl, ni_pred, nmod, ↓reduceIte, ile_t, ile_f, ilt_t, ilt_f, ieq_t, ieq_f, if_true_n, if_false_n, gi_n, nm_n, jn_n, bd1_n, bd2_n, bd3_n, bd4_n, bd5_n, bd6_n, X7_fail_1]
  obtain ⟨l, p4, f4, hl4, hp4, hf4, hz4, e44, e74⟩ := bits_ex (N := 5) B hsz hp2 hf3 (by omega)
  have hl4 : l < 32 := hl4
  obtain ⟨p5, f5, xs, ys, hp5, hf5, hz5, hsc, e45, e75⟩ := scales_loop (B := B) hsz 8 0 p4 f4 4000 4000 hs ns (by omega) (by omega) (by omega) hp4 hf4 (fun k hk => absurd hk (by omega))
  obtain ⟨p6, f6, xt, yt, hp6, hf6, hz6, hst6, e46, e76⟩ := steps_loop (B := B) hsz 16 0 p5 f5 4000 4000 hst nst (by omega) (by omega) (by omega) hp5 hf5 (fun k hk => absurd hk (by omega))
  obtain ⟨m1', u1', p7, f7, z1', q1', sd7, rt7, tk7, pa7, hp7, hf7, hz7, e47, e77, k71, k72, k73, g7⟩ := tree_ex (nc := n1) (tc := t1) (rt0 := r1) (br := b1) (sd := sd) (rt := rt) (tk := tk) (pa := pa) (B := B) (w := 2) (by omega) (by omega) hsz hp6 hf6
  obtain ⟨m2', u2', p8, f8, z2', q2', sd8, rt8, tk8, pa8, hp8, hf8, hz8, e48, e78, k81, k82, k83, g8⟩ := tree_ex (nc := n2) (tc := t2) (rt0 := r2) (br := b2) (sd := sd7) (rt := rt7) (tk := tk7) (pa := pa7) (B := B) (w := 3) (by omega) (by omega) hsz hp7 hf7
  by_cases c : f8 = 0
  · subst c
    have hf70 : f7 = 0 := by
      rcases Nat.eq_zero_or_pos f7 with h | h
      · exact h
      · exact absurd (hz8 (by omega)).2 (by omega)
    have hf60 : f6 = 0 := by
      rcases Nat.eq_zero_or_pos f6 with h | h
      · exact h
      · exact absurd (hz7 (by omega)).2 (by omega)
    have hf50 : f5 = 0 := by
      rcases Nat.eq_zero_or_pos f5 with h | h
      · exact h
      · exact absurd (hz6 (by omega)).2 (by omega)
    have hf40 : f4 = 0 := by
      rcases Nat.eq_zero_or_pos f4 with h | h
      · exact h
      · exact absurd (hz5 (by omega)).2 (by omega)
    have hf30' : f3 = 0 := by
      rcases Nat.eq_zero_or_pos f3 with h | h
      · exact h
      · exact absurd (hz4 (by omega)).2.2 (by omega)
    obtain ⟨hy1', hy2', hf20⟩ := hf30 hf30'
    subst hf30' hf20 hf70 hf60 hf50 hf40
    clear c41 c71
    obtain ⟨v1, v2, v3, v4, v5, v6, v7, v8, v9⟩ := g7 rfl
    obtain ⟨w1, w2, w3, w4, w5, w6, w7, w8, w9⟩ := g8 rfl
    obtain ⟨ho', mo', hord, eo4, eo7⟩ := ord_ex (w := y1 + 1) (h := y2 + 1) (ho := ho) (mo := mo) (m0 := many) (by omega) (by omega) hcl
    obtain ⟨cs, ecs, -, hcs⟩ := copy8 (a := ys) 8 0 4000 ms (by omega) (by omega)
    obtain ⟨ct, ect, -, hct⟩ := copy16 (a := yt) 16 0 4000 mst (by omega) (by omega)
    obtain ⟨sd9, rt9, tk9, e9, s91, s92, s93⟩ := copy_trees (n := 4000) (sd := sd8) (rt := rt8) (tk := tk8) (by omega)
    refine ⟨p8, 0, nI (y1 + 1), nI (y2 + 1), nI l, xs, xt, nI m1', nI u1', z1', q1', nI m2', nI u2', z2', q2', ho', nI 1, nI (y1 + 1), nI (y2 + 1), nI l, nI 0, nI 0, nI ((y1 + 1) * (y2 + 1)), cs, ct, ys, yt, sd9, rt9, tk9, pa8, mo', hp8, by omega, ?_, ?_, fun h => absurd rfl h, fun _ => ⟨rfl, rfl, rfl, y1 + 1, y2 + 1, ?_⟩⟩
    · unfold f_X1_read
      simp (disch := omega) only [lit, pk_mul, nI_add, ni_sub, ni_div, ni_rem, ni_cl, ni_pred, nmod, ↓reduceIte, ile_t, ile_f, ilt_t, ilt_f, ieq_t, ieq_f, if_true_n, if_false_n, gi_n, nm_n, jn_n, bd1_n, bd2_n, bd3_n, bd4_n, bd5_n, bd6_n, e41, e42, e44, e45, e46, e47, e48, X4_sound_0, eo4]
    · unfold f_X7_header f_X7_readHeader
      simp (disch := omega) only [lit, pk_mul, nI_add, ni_sub, ni_div, ni_rem, ni_cl, ni_pred, nmod, ↓reduceIte, ile_t, ile_f, ilt_t, ilt_f, ieq_t, ieq_f, if_true_n, if_false_n, gi_n, nm_n, jn_n, bd1_n, bd2_n, bd3_n, bd4_n, bd5_n, bd6_n, bd7_n, bd8_n, bd9_n, bd10_n, bd11_n, bd12_n, bd13_n, bd14_n, bd15_n, bd16_n, bd17_n, bd18_n, bd19_n, bd20_n, bd21_n, e71, e72, e74, e75, e76, e77, e78, ecs, ect, e9, eo7]
    · refine ⟨by omega, ⟨rfl, rfl, rfl, rfl, rfl⟩, ⟨l, hl4, rfl, rfl⟩, ?_, ?_, ⟨m1', ?_⟩, ⟨m2', ?_⟩, ⟨u1', v2, rfl, ?_⟩, ⟨u2', w2, rfl, ?_⟩, hord⟩
      · intro k hk
        obtain ⟨v, h1, h2, h3⟩ := hsc k hk
        exact ⟨v, h1, h2, by rw [hcs k (by omega) hk, h3]⟩
      · intro k hk
        obtain ⟨v, h1, h2, h3⟩ := hst6 k hk
        exact ⟨v, h1, h2, by rw [hct k (by omega) hk, h3]⟩
      · refine ⟨v1, v3, fun k hk => ?_, ?_⟩
        · have h9 := v4 k hk
          rw [← w7 _ (by omega)] at h9
          have h10 := s91 0 (by omega) k (by omega)
          have h11 := cv_shf (t := 0) (by omega) h9
          rw [show 2 * (128 * 2) + k = 512 + 256 * 0 + k by omega, ← h10] at h11
          exact h11
        · rw [s92 0 (by omega), w8 _ (by omega)]
          exact cv_root (t := 0) (by omega) v5
      · refine ⟨w1, w3, fun k hk => ?_, ?_⟩
        · have h9 := w4 k hk
          have h10 := s91 1 (by omega) k (by omega)
          have h11 := cv_shf (t := 1) (by omega) h9
          rw [show 2 * (128 * 3) + k = 512 + 256 * 1 + k by omega, ← h10] at h11
          exact h11
        · rw [s92 1 (by omega)]
          exact cv_root (t := 1) (by omega) w5
      · rw [s93 0 (by omega), w9 _ (by omega), v6]
      · rw [s93 1 (by omega), w6]
  · refine ⟨p8, f8, nI (y1 + 1), nI (y2 + 1), nI l, xs, xt, nI m1', nI u1', z1', q1', nI m2', nI u2', z2', q2', ho, hasH, mw, mh, ml, hasP, fr, many, ms, mst, ys, yt, sd8, rt8, tk8, pa8, mo, hp8, hf8, ?_, ?_, fun _ => ⟨rfl, rfl, rfl, rfl, rfl, rfl, rfl, rfl, rfl, rfl, ?_, ?_, ?_⟩, fun h => absurd h c⟩
    · unfold f_X1_read
      simp (disch := omega) only [lit, pk_mul, nI_add, ni_sub, ni_div, ni_rem, ni_cl, ni_pred, nmod, ↓reduceIte, ile_t, ile_f, ilt_t, ilt_f, ieq_t, ieq_f, if_true_n, if_false_n, gi_n, nm_n, jn_n, bd1_n, bd2_n, bd3_n, bd4_n, bd5_n, bd6_n, e41, e42, c41, e44, e45, e46, e47, e48, X4_sound_1]
    · unfold f_X7_header f_X7_readHeader
      simp (disch := omega) only [lit, pk_mul, nI_add, ni_sub, ni_div, ni_rem, ni_cl, ni_pred, nmod, ↓reduceIte, ile_t, ile_f, ilt_t, ilt_f, ieq_t, ieq_f, if_true_n, if_false_n, gi_n, nm_n, jn_n, bd1_n, bd2_n, bd3_n, bd4_n, bd5_n, bd6_n, bd7_n, bd8_n, bd9_n, bd10_n, bd11_n, bd12_n, bd13_n, bd14_n, bd15_n, bd16_n, bd17_n, bd18_n, bd19_n, bd20_n, bd21_n, e71, e72, c71, e74, e75, e76, e77, e78]
    · intro j hj
      rw [k81 j hj, k71 j hj]
    · intro i hi
      rw [k82 i hi, k72 i hi]
    · intro i hi
      rw [k83 i hi, k73 i hi]
