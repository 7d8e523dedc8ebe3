/-! The pure side, 5: a tree wholly; scales and steps; the order. -/
theorem tree_ex {sz p f w : Nat} {nc tc rt0 : Int32} {br sd rt tk pa B : Nat → Int32} (hw : w < 4) (hw2 : 2 ≤ w) (hs : sz ≤ 6000) (hp : p ≤ 8 * sz) (hf : f ≤ 6) : ∃ (m' t' p' f' : Nat) (y : Int32) (br' sd' rt' tk' pa' : Nat → Int32), p' ≤ 8 * sz ∧ f' ≤ 6 ∧ (f ≠ 0 → p' = p ∧ f' = f) ∧ f_X5_read nc tc rt0 br (nI sz) (nI p) (nI f) B = some (nI m', nI t', y, br', nI p', nI f') ∧ f_X7_readTree (nI w) (nI sz) (nI p) (nI f) B sd rt tk pa = some (nI p', nI f', sd', rt', tk', pa') ∧
    (∀ j, j < 512 → sd' j = sd j) ∧ (∀ i, i < 2 → rt' i = rt i) ∧ (∀ i, i < 2 → tk' i = tk i) ∧
    (f' = 0 → m' ≤ 44 ∧ t' ≤ 32 ∧ trV br' 0 m' 12 y ∧ trR (128 * w) m' br' sd' ∧ shf (128 * w) y (rt' w) ∧ tk' w = nI t' ∧ (∀ j, j < 256 * w → sd' j = sd j) ∧ (∀ i, i ≠ w → rt' i = rt i) ∧ (∀ i, i ≠ w → tk' i = tk i)) := by
  unfold f_X5_read f_X7_readTree
  by_cases c : f = 0
  · subst c
    obtain ⟨y, m', t', p', f', br', hp', hf', hm', e4, hG, hB⟩ := tree_sim w sz B hw hw2 hs 12 0 0 0 0 p 0 br sd rt (upd tk w (nI 0)) pa rfl (by omega) (by omega) (by omega) hp pk_us (fun i hi => absurd hi (by omega)) (Or.inl rfl)
    by_cases c2 : f' = 0
    · subst c2
      obtain ⟨y', sd', rt', tk', pa', g1, g2, g3, g4, g5, g6, g7, g8, g9, g10, g11, g12, g13, g14, g15, g16, g17, g18⟩ := hG rfl
      have hsl : sl w 0 0 sd = 5000 := rfl
      refine ⟨m', t', p', 0, y, br', sd', rt', tk', pa', hp', by omega, fun h => absurd rfl h, ?_, ?_, ?_, ?_, ?_, ?_⟩
      · simp (disch := omega) only [lit, pk_mul, nI_add, ni_sub, ni_div, ni_rem, ni_cl, ni_pred, nmod, ↓reduceIte, ile_t, ile_f, ilt_t, ilt_f, ieq_t, ieq_f, if_true_n, if_false_n, gi_n, nm_n, jn_n, bd1_n, bd2_n, bd3_n, bd4_n, bd5_n, bd6_n, e4]
      · have h9 := g18 (4000 - (m' - 0 + (t' - 0)))
        rw [show m' - 0 + (t' - 0) + (4000 - (m' - 0 + (t' - 0))) = 4000 by omega, show 4000 - (m' - 0 + (t' - 0)) = (3999 - (m' - 0 + (t' - 0))) + 1 by omega, TT_zero] at h9
        unfold LT at h9
        simp (disch := omega) only [lit, pk_mul, nI_add, ni_sub, ni_div, ni_rem, ni_cl, ni_pred, nmod, ↓reduceIte, ile_t, ile_f, ilt_t, ilt_f, ieq_t, ieq_f, if_true_n, if_false_n, gi_n, nm_n, jn_n, bd1_n, bd2_n, bd3_n, bd4_n, bd5_n, bd6_n, h9]
      · intro j hj
        exact g16 j (by omega) (by omega)
      · intro i hi
        exact g14 i (by omega)
      · intro i hi
        rw [g11 i (by omega), pk_un (by omega)]
      · intro _
        refine ⟨hm', g4, g5, ?_, ?_, g10, ?_, g14, ?_⟩
        · intro k hk
          rw [show 2 * (128 * w) + k = 256 * w + k by omega]
          exact g9 k (by omega) hk
        · rw [g13 rfl]; exact g7
        · intro j hj
          exact g16 j (by omega) (by omega)
        · intro i hi
          rw [g11 i hi, pk_un hi]
    · obtain ⟨sd', rt', tk', pa', g1, g2, g3, g4⟩ := hB c2
      refine ⟨m', t', p', f', y, br', sd', rt', tk', pa', hp', hf', fun h => absurd rfl h, ?_, ?_, g1, g2, ?_, fun h => absurd h c2⟩
      · simp (disch := omega) only [lit, pk_mul, nI_add, ni_sub, ni_div, ni_rem, ni_cl, ni_pred, nmod, ↓reduceIte, ile_t, ile_f, ilt_t, ilt_f, ieq_t, ieq_f, if_true_n, if_false_n, gi_n, nm_n, jn_n, bd1_n, bd2_n, bd3_n, bd4_n, bd5_n, bd6_n, e4]
      · have h9 := g4 4000 (by omega)
        unfold LT at h9
        simp (disch := omega) only [lit, pk_mul, nI_add, ni_sub, ni_div, ni_rem, ni_cl, ni_pred, nmod, ↓reduceIte, ile_t, ile_f, ilt_t, ilt_f, ieq_t, ieq_f, if_true_n, if_false_n, gi_n, nm_n, jn_n, bd1_n, bd2_n, bd3_n, bd4_n, bd5_n, bd6_n, h9]
      · intro i hi
        rw [g3 i hi, pk_un (by omega)]
  · obtain ⟨b, p1, f1, hb, hp1, hf1, hz1, hy1, e4, e7⟩ := bit_ex B hs hp hf
    obtain ⟨rfl, rfl, rfl⟩ := hz1 c
    refine ⟨0, 0, p1, f1, nI 0, br, sd2 (128 * w + 0) sd, upd rt w (nI (128 * w + 0)), upd tk w (nI 0), upd pa 0 (nI (128 * w + 0)), hp1, hf1, fun _ => ⟨rfl, rfl⟩, ?_, ?_, ?_, ?_, ?_, fun h => absurd h c⟩
    · have h9 := branch_fault (B := B) (br := br) (t := 0) (m := 0) 13 0 hs hp1 hf1 c (by omega) (by omega)
      simp (disch := omega) only [lit, pk_mul, nI_add, ni_sub, ni_div, ni_rem, ni_cl, ni_pred, nmod, ↓reduceIte, ile_t, ile_f, ilt_t, ilt_f, ieq_t, ieq_f, if_true_n, if_false_n, gi_n, nm_n, jn_n, bd1_n, bd2_n, bd3_n, bd4_n, bd5_n, bd6_n, h9]
    · have h9 : LT w sz B 4000 p1 f1 sd rt (upd tk w (nI 0)) pa 0 0 1 = some (nI p1, nI f1, sd2 (128 * w + 0) sd, upd rt w (nI (128 * w + 0)), upd tk w (nI 0), upd pa 0 (nI (128 * w + 0))) := by
        rw [show (4000 : Nat) = 3998 + 1 + 1 from rfl, iter_node (q := 0) hw (by omega) (by omega) hf1 (Or.inl rfl) e7 (g := f1) (by omega)]
        exact TT_end c hf1 (show 0 + 1 ≤ 46 by omega) (show 128 * w ≤ 400 by omega) (by omega) (paOk_up (fun i hi => absurd hi (by omega)))
      unfold LT at h9
      simp (disch := omega) only [lit, pk_mul, nI_add, ni_sub, ni_div, ni_rem, ni_cl, ni_pred, nmod, ↓reduceIte, ile_t, ile_f, ilt_t, ilt_f, ieq_t, ieq_f, if_true_n, if_false_n, gi_n, nm_n, jn_n, bd1_n, bd2_n, bd3_n, bd4_n, bd5_n, bd6_n, h9]
    · intro j hj
      exact sd2_ne (by omega) (by omega)
    · intro i hi
      exact pk_un (by omega)
    · intro i hi
      exact pk_un (by omega)
/-- the same numbers below n, each below b -/
def sameN (n b : Nat) (x y : Nat → Int32) : Prop := ∀ k, k < n → ∃ v : Nat, v < b ∧ x k = nI v ∧ y k = nI v
theorem sameN_up {n b v : Nat} {x y : Nat → Int32} (h : sameN n b x y) (hv : v < b) : sameN (n + 1) b (upd x n (nI v)) (upd y n (nI v)) := by
  intro k hk
  by_cases c : k = n
  · subst c
    exact ⟨v, hv, pk_us, pk_us⟩
  · obtain ⟨u, h1, h2, h3⟩ := h k (by omega)
    exact ⟨u, h1, by rw [pk_un c, h2], by rw [pk_un c, h3]⟩
theorem scales_loop {sz : Nat} {B : Nat → Int32} (hs : sz ≤ 6000) : ∀ (r i p f n m : Nat) (x y : Nat → Int32), r + i = 8 → r < n → r < m → p ≤ 8 * sz → f ≤ 6 → sameN i 1024 x y → ∃ (p' f' : Nat) (x' y' : Nat → Int32), p' ≤ 8 * sz ∧ f' ≤ 6 ∧ (f ≠ 0 → p' = p ∧ f' = f) ∧ sameN 8 1024 x' y' ∧ f_X1_read_L56 (nI sz) B n x (nI p) (nI f) (nI i) = some (x', nI p', nI f') ∧ f_X7_readHeader_L42 (nI sz) B m (nI p) (nI f) y (nI i) = some (nI p', nI f', y')
  | 0, i, p, f, n, m, x, y, hi, hn, hm, hp, hf, h => by
    obtain ⟨n, rfl⟩ : ∃ j, n = j + 1 := ⟨n - 1, by omega⟩
    obtain ⟨m, rfl⟩ : ∃ j, m = j + 1 := ⟨m - 1, by omega⟩
    obtain rfl : i = 8 := by omega
    refine ⟨p, f, x, y, hp, hf, fun _ => ⟨rfl, rfl⟩, h, ?_, ?_⟩
    · rw [f_X1_read_L56]; simp (disch := omega) only [lit, pk_mul, nI_add, ni_sub, ni_div, ni_rem, ni_cl, ni_pred, nmod, ↓reduceIte, ile_t, ile_f, ilt_t, ilt_f, ieq_t, ieq_f, if_true_n, if_false_n, gi_n, nm_n, jn_n, bd1_n, bd2_n, bd3_n, bd4_n, bd5_n, bd6_n]
    · rw [f_X7_readHeader_L42]; simp (disch := omega) only [lit, pk_mul, nI_add, ni_sub, ni_div, ni_rem, ni_cl, ni_pred, nmod, ↓reduceIte, ile_t, ile_f, ilt_t, ilt_f, ieq_t, ieq_f, if_true_n, if_false_n, gi_n, nm_n, jn_n, bd1_n, bd2_n, bd3_n, bd4_n, bd5_n, bd6_n]
  | r + 1, i, p, f, n, m, x, y, hi, hn, hm, hp, hf, h => by
    obtain ⟨n, rfl⟩ : ∃ j, n = j + 1 := ⟨n - 1, by omega⟩
    obtain ⟨m, rfl⟩ : ∃ j, m = j + 1 := ⟨m - 1, by omega⟩
    obtain ⟨v, p1, f1, hv, hp1, hf1, hz1, e4, e7⟩ := bits_ex (N := 10) B hs hp hf (by omega)
    obtain ⟨p2, f2, x2, y2, hp2, hf2, hz2, h2, e42, e72⟩ := scales_loop (B := B) hs r (i + 1) p1 f1 n m (upd x i (nI v)) (upd y i (nI v)) (by omega) (by omega) (by omega) hp1 hf1 (sameN_up h hv)
    refine ⟨p2, f2, x2, y2, hp2, hf2, fun h9 => ?_, h2, ?_, ?_⟩
    · obtain ⟨a1, a2, a3⟩ := hz1 h9
      obtain ⟨a4, a5⟩ := hz2 (by omega)
      omega
    · rw [f_X1_read_L56]
      simp (disch := omega) only [lit, pk_mul, nI_add, ni_sub, ni_div, ni_rem, ni_cl, ni_pred, nmod, ↓reduceIte, ile_t, ile_f, ilt_t, ilt_f, ieq_t, ieq_f, if_true_n, if_false_n, gi_n, nm_n, jn_n, bd1_n, bd2_n, bd3_n, bd4_n, bd5_n, bd6_n, e4, e42]
    · rw [f_X7_readHeader_L42]
      simp (disch := omega) only [lit, pk_mul, nI_add, ni_sub, ni_div, ni_rem, ni_cl, ni_pred, nmod, ↓reduceIte, ile_t, ile_f, ilt_t, ilt_f, ieq_t, ieq_f, if_true_n, if_false_n, gi_n, nm_n, jn_n, bd1_n, bd2_n, bd3_n, bd4_n, bd5_n, bd6_n, e7, e72]
theorem steps_loop {sz : Nat} {B : Nat → Int32} (hs : sz ≤ 6000) : ∀ (r i p f n m : Nat) (x y : Nat → Int32), r + i = 16 → r < n → r < m → p ≤ 8 * sz → f ≤ 6 → sameN i 256 x y → ∃ (p' f' : Nat) (x' y' : Nat → Int32), p' ≤ 8 * sz ∧ f' ≤ 6 ∧ (f ≠ 0 → p' = p ∧ f' = f) ∧ sameN 16 256 x' y' ∧ f_X1_read_L82 (nI sz) B n x (nI p) (nI f) (nI i) = some (x', nI p', nI f') ∧ f_X7_readHeader_L71 (nI sz) B m (nI p) (nI f) y (nI i) = some (nI p', nI f', y')
  | 0, i, p, f, n, m, x, y, hi, hn, hm, hp, hf, h => by
    obtain ⟨n, rfl⟩ : ∃ j, n = j + 1 := ⟨n - 1, by omega⟩
    obtain ⟨m, rfl⟩ : ∃ j, m = j + 1 := ⟨m - 1, by omega⟩
    obtain rfl : i = 16 := by omega
    refine ⟨p, f, x, y, hp, hf, fun _ => ⟨rfl, rfl⟩, h, ?_, ?_⟩
    · rw [f_X1_read_L82]; simp (disch := omega) only [lit, pk_mul, nI_add, ni_sub, ni_div, ni_rem, ni_cl, ni_pred, nmod, ↓reduceIte, ile_t, ile_f, ilt_t, ilt_f, ieq_t, ieq_f, if_true_n, if_false_n, gi_n, nm_n, jn_n, bd1_n, bd2_n, bd3_n, bd4_n, bd5_n, bd6_n]
    · rw [f_X7_readHeader_L71]; simp (disch := omega) only [lit, pk_mul, nI_add, ni_sub, ni_div, ni_rem, ni_cl, ni_pred, nmod, ↓reduceIte, ile_t, ile_f, ilt_t, ilt_f, ieq_t, ieq_f, if_true_n, if_false_n, gi_n, nm_n, jn_n, bd1_n, bd2_n, bd3_n, bd4_n, bd5_n, bd6_n]
  | r + 1, i, p, f, n, m, x, y, hi, hn, hm, hp, hf, h => by
    obtain ⟨n, rfl⟩ : ∃ j, n = j + 1 := ⟨n - 1, by omega⟩
    obtain ⟨m, rfl⟩ : ∃ j, m = j + 1 := ⟨m - 1, by omega⟩
    obtain ⟨v, p1, f1, hv, hp1, hf1, hz1, e4, e7⟩ := bits_ex (N := 8) B hs hp hf (by omega)
    obtain ⟨p2, f2, x2, y2, hp2, hf2, hz2, h2, e42, e72⟩ := steps_loop (B := B) hs r (i + 1) p1 f1 n m (upd x i (nI v)) (upd y i (nI v)) (by omega) (by omega) (by omega) hp1 hf1 (sameN_up h hv)
    refine ⟨p2, f2, x2, y2, hp2, hf2, fun h9 => ?_, h2, ?_, ?_⟩
    · obtain ⟨a1, a2, a3⟩ := hz1 h9
      obtain ⟨a4, a5⟩ := hz2 (by omega)
      omega
    · rw [f_X1_read_L82]
      simp (disch := omega) only [lit, pk_mul, nI_add, ni_sub, ni_div, ni_rem, ni_cl, ni_pred, nmod, ↓reduceIte, ile_t, ile_f, ilt_t, ilt_f, ieq_t, ieq_f, if_true_n, if_false_n, gi_n, nm_n, jn_n, bd1_n, bd2_n, bd3_n, bd4_n, bd5_n, bd6_n, e4, e42]
    · rw [f_X7_readHeader_L71]
      simp (disch := omega) only [lit, pk_mul, nI_add, ni_sub, ni_div, ni_rem, ni_cl, ni_pred, nmod, ↓reduceIte, ile_t, ile_f, ilt_t, ilt_f, ieq_t, ieq_f, if_true_n, if_false_n, gi_n, nm_n, jn_n, bd1_n, bd2_n, bd3_n, bd4_n, bd5_n, bd6_n, e7, e72]
/-! the reference takes over what was read -/
theorem copy8 {a : Nat → Int32} : ∀ (r i n : Nat) (x : Nat → Int32), r + i = 8 → r < n → ∃ x' : Nat → Int32, f_X7_readHeader_L133 a n x (nI i) = some x' ∧ (∀ k, k < i → x' k = x k) ∧ (∀ k, i ≤ k → k < 8 → x' k = a k)
  | 0, i, n, x, hi, hn => by
    obtain ⟨n, rfl⟩ : ∃ j, n = j + 1 := ⟨n - 1, by omega⟩
    obtain rfl : i = 8 := by omega
    refine ⟨x, ?_, fun _ _ => rfl, fun k h1 h2 => absurd h2 (by omega)⟩
    rw [f_X7_readHeader_L133]; simp (disch := omega) only [lit, pk_mul, nI_add, ni_sub, ni_div, ni_rem, ni_cl, ni_pred, nmod, ↓reduceIte, ile_t, ile_f, ilt_t, ilt_f, ieq_t, ieq_f, if_true_n, if_false_n, gi_n, nm_n, jn_n, bd1_n, bd2_n, bd3_n, bd4_n, bd5_n, bd6_n]
  | r + 1, i, n, x, hi, hn => by
    obtain ⟨n, rfl⟩ : ∃ j, n = j + 1 := ⟨n - 1, by omega⟩
    obtain ⟨x', e, h1, h2⟩ := copy8 (a := a) r (i + 1) n (upd x i (a i)) (by omega) (by omega)
    refine ⟨x', ?_, fun k hk => ?_, fun k hk hk2 => ?_⟩
    · rw [f_X7_readHeader_L133]
      simp (disch := omega) only [lit, pk_mul, nI_add, ni_sub, ni_div, ni_rem, ni_cl, ni_pred, nmod, ↓reduceIte, ile_t, ile_f, ilt_t, ilt_f, ieq_t, ieq_f, if_true_n, if_false_n, gi_n, nm_n, jn_n, bd1_n, bd2_n, bd3_n, bd4_n, bd5_n, bd6_n, e]
    · rw [h1 k (by omega), pk_un (by omega)]
    · by_cases c : k = i
      · subst c; rw [h1 k (by omega), pk_us]
      · exact h2 k (by omega) hk2
theorem copy16 {a : Nat → Int32} : ∀ (r i n : Nat) (x : Nat → Int32), r + i = 16 → r < n → ∃ x' : Nat → Int32, f_X7_readHeader_L163 a n x (nI i) = some x' ∧ (∀ k, k < i → x' k = x k) ∧ (∀ k, i ≤ k → k < 16 → x' k = a k)
  | 0, i, n, x, hi, hn => by
    obtain ⟨n, rfl⟩ : ∃ j, n = j + 1 := ⟨n - 1, by omega⟩
    obtain rfl : i = 16 := by omega
    refine ⟨x, ?_, fun _ _ => rfl, fun k h1 h2 => absurd h2 (by omega)⟩
    rw [f_X7_readHeader_L163]; simp (disch := omega) only [lit, pk_mul, nI_add, ni_sub, ni_div, ni_rem, ni_cl, ni_pred, nmod, ↓reduceIte, ile_t, ile_f, ilt_t, ilt_f, ieq_t, ieq_f, if_true_n, if_false_n, gi_n, nm_n, jn_n, bd1_n, bd2_n, bd3_n, bd4_n, bd5_n, bd6_n]
  | r + 1, i, n, x, hi, hn => by
    obtain ⟨n, rfl⟩ : ∃ j, n = j + 1 := ⟨n - 1, by omega⟩
    obtain ⟨x', e, h1, h2⟩ := copy16 (a := a) r (i + 1) n (upd x i (a i)) (by omega) (by omega)
    refine ⟨x', ?_, fun k hk => ?_, fun k hk hk2 => ?_⟩
    · rw [f_X7_readHeader_L163]
      simp (disch := omega) only [lit, pk_mul, nI_add, ni_sub, ni_div, ni_rem, ni_cl, ni_pred, nmod, ↓reduceIte, ile_t, ile_f, ilt_t, ilt_f, ieq_t, ieq_f, if_true_n, if_false_n, gi_n, nm_n, jn_n, bd1_n, bd2_n, bd3_n, bd4_n, bd5_n, bd6_n, e]
    · rw [h1 k (by omega), pk_un (by omega)]
    · by_cases c : k = i
      · subst c; rw [h1 k (by omega), pk_us]
      · exact h2 k (by omega) hk2
def cv (v : Int32) : Int32 := if v < nI 0 then v else if v = nI 99 then v else v - nI 256
theorem cv_shf {t : Nat} {x y : Int32} (ht : t < 2) (h : shf (128 * (t + 2)) x y) : shf (128 * t) x (cv y) := by
  unfold cv
  rcases h with ⟨u, hu, rfl, rfl⟩ | ⟨i, hi, rfl, rfl⟩
  · rw [if_pos (tok_ne u hu).2]
    exact Or.inl ⟨u, hu, rfl, rfl⟩
  · refine Or.inr ⟨i, hi, rfl, ?_⟩
    rw [show 128 * (t + 2) + i = 128 * t + i + 256 by omega]
    simp (disch := omega) only [lit, pk_mul, nI_add, ni_sub, ni_div, ni_rem, ni_cl, ni_pred, nmod, ↓reduceIte, ile_t, ile_f, ilt_t, ilt_f, ieq_t, ieq_f, if_true_n, if_false_n, gi_n, nm_n, jn_n, bd1_n, bd2_n, bd3_n, bd4_n, bd5_n, bd6_n, Nat.add_sub_cancel]
theorem copyT {t : Nat} (ht : t < 2) : ∀ (r i n : Nat) (sd : Nat → Int32), r + i = 256 → r < n → ∃ sd' : Nat → Int32, f_X7_readHeader_L202 (nI t) n sd (nI i) = some sd' ∧ (∀ k, i ≤ k → k < 256 → sd' (256 * t + k) = cv (sd (512 + 256 * t + k))) ∧ (∀ j, (j < 256 * t + i ∨ 256 * t + 256 ≤ j) → sd' j = sd j)
  | 0, i, n, sd, hi, hn => by
    obtain ⟨n, rfl⟩ : ∃ j, n = j + 1 := ⟨n - 1, by omega⟩
    obtain rfl : i = 256 := by omega
    refine ⟨sd, ?_, fun k h1 h2 => absurd h2 (by omega), fun _ _ => rfl⟩
    rw [f_X7_readHeader_L202]; simp (disch := omega) only [lit, pk_mul, nI_add, ni_sub, ni_div, ni_rem, ni_cl, ni_pred, nmod, ↓reduceIte, ile_t, ile_f, ilt_t, ilt_f, ieq_t, ieq_f, if_true_n, if_false_n, gi_n, nm_n, jn_n, bd1_n, bd2_n, bd3_n, bd4_n, bd5_n, bd6_n]
  | r + 1, i, n, sd, hi, hn => by
    obtain ⟨n, rfl⟩ : ∃ j, n = j + 1 := ⟨n - 1, by omega⟩
    obtain ⟨sd', e, h1, h2⟩ := copyT ht r (i + 1) n (upd sd (256 * t + i) (cv (sd (512 + 256 * t + i)))) (by omega) (by omega)
    refine ⟨sd', ?_, fun k hk hk2 => ?_, fun j hj => ?_⟩
    · rw [f_X7_readHeader_L202]
      unfold cv at e
      by_cases c1 : sd (512 + 256 * t + i) < nI 0
      · rw [if_pos c1] at e
        simp (disch := omega) only [lit, pk_mul, nI_add, ni_sub, ni_div, ni_rem, ni_cl, ni_pred, nmod, ↓reduceIte, ile_t, ile_f, ilt_t, ilt_f, ieq_t, ieq_f, if_true_n, if_false_n, gi_n, nm_n, jn_n, bd1_n, bd2_n, bd3_n, bd4_n, bd5_n, bd6_n, if_pos c1, e]
      · rw [if_neg c1] at e
        by_cases c2 : sd (512 + 256 * t + i) = nI 99
        · rw [if_pos c2] at e
          simp (disch := omega) only [lit, pk_mul, nI_add, ni_sub, ni_div, ni_rem, ni_cl, ni_pred, nmod, ↓reduceIte, ile_t, ile_f, ilt_t, ilt_f, ieq_t, ieq_f, if_true_n, if_false_n, gi_n, nm_n, jn_n, bd1_n, bd2_n, bd3_n, bd4_n, bd5_n, bd6_n, if_neg c1, if_pos c2, e]
        · rw [if_neg c2] at e
          simp (disch := omega) only [lit, pk_mul, nI_add, ni_sub, ni_div, ni_rem, ni_cl, ni_pred, nmod, ↓reduceIte, ile_t, ile_f, ilt_t, ilt_f, ieq_t, ieq_f, if_true_n, if_false_n, gi_n, nm_n, jn_n, bd1_n, bd2_n, bd3_n, bd4_n, bd5_n, bd6_n, if_neg c1, if_neg c2, e]
    · by_cases c : k = i
      · subst c
        rw [h2 _ (by omega), pk_us]
      · rw [h1 k (by omega) hk2, pk_un (by omega)]
    · rw [h2 j (by omega), pk_un (by omega)]
