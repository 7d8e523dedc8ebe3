/-! The pure side, 8: flags and modes. -/
/-- block k is flagged alike -/
def FL (w h : Nat) (cm mm : Nat → Int32) (k : Nat) : Prop := (cm (kc w h k) = nI 2 ∧ mm (km w h k) = nI 99) ∨ (cm (kc w h k) = nI 0 ∧ mm (km w h k) = nI 0)
theorem ordered_n {w h i : Nat} {ho mo : Nat → Int32} (ho1 : orOk w h ho mo) (hi : i < w * h) (hle : w * h ≤ 36) : f_X1_ordered (nI i) ho = some (nI (kc w h i)) := by
  unfold f_X1_ordered
  rw [gi_n (by omega) (by omega), ni_cl (by omega), (ho1 i hi).1]
theorem wh_le {w h : Nat} (hw : w < 7) (hh : h < 7) : w * h ≤ 36 := Nat.mul_le_mul (show w ≤ 6 by omega) (show h ≤ 6 by omega)
theorem cflags_fault {w h sz p f : Nat} {B ho mo : Nat → Int32} (hw : w < 7) (hh : h < 7) (hO : orOk w h ho mo) (hs : sz ≤ 6000) (hp : p ≤ 8 * sz) (hf : f ≤ 6) (hf0 : f ≠ 0) : ∀ (r i n l g : Nat) (cm : Nat → Int32), r + i = w * h → r < n → l ≤ 39 → g ≤ 1 → ∃ cm' : Nat → Int32, f_X0_readFlags_L24 (nI sz) B ho (nI (w * h)) n cm (nI p) (nI f) (nI g) (nI l) (nI i) = some (cm', nI p, nI f)
  | 0, i, n, l, g, cm, hi, hn, hl, hg => by
    have hle := wh_le hw hh
    obtain ⟨n, rfl⟩ : ∃ j, n = j + 1 := ⟨n - 1, by omega⟩
    refine ⟨cm, ?_⟩
    rw [f_X0_readFlags_L24]
    simp (disch := omega) only [lit, pk_mul, nI_add, ni_sub, ni_div, ni_rem, ni_cl, ni_pred, nmod, ↓reduceIte, ile_t, ile_f, ilt_t, ilt_f, ieq_t, ieq_f, if_true_n, if_false_n, gi_n, nm_n, jn_n, bd1_n, bd2_n, bd3_n, bd4_n, bd5_n, bd6_n]
  | r + 1, i, n, l, g, cm, hi, hn, hl, hg => by
    have hle := wh_le hw hh
    obtain ⟨n, rfl⟩ : ∃ j, n = j + 1 := ⟨n - 1, by omega⟩
    obtain ⟨-, -, hk, -⟩ := ord_in hw hh (show i < w * h by omega)
    by_cases c : l = 0
    · subst c
      obtain ⟨v, p1, f1, hv1, hv39, hp1, hf1, hz1, e4, e7⟩ := run_ex B hs hp hf
      obtain ⟨rfl, rfl, rfl⟩ := hz1 hf0
      by_cases c2 : 1 - g = 0
      · obtain ⟨cm', e⟩ := cflags_fault (B := B) hw hh hO hs hp hf hf0 r (i + 1) n 0 (1 - g) (upd cm (kc w h i) (nI 0)) (by omega) (by omega) (by omega) (by omega)
        refine ⟨cm', ?_⟩
        rw [f_X0_readFlags_L24]
        simp (disch := omega) only [lit, pk_mul, nI_add, ni_sub, ni_div, ni_rem, ni_cl, ni_pred, nmod, ↓reduceIte, ile_t, ile_f, ilt_t, ilt_f, ieq_t, ieq_f, if_true_n, if_false_n, gi_n, nm_n, jn_n, bd1_n, bd2_n, bd3_n, bd4_n, bd5_n, bd6_n, e4, X4_fail_1, ordered_n hO, Nat.sub_self, e]
      · obtain ⟨cm', e⟩ := cflags_fault (B := B) hw hh hO hs hp hf hf0 r (i + 1) n 0 (1 - g) cm (by omega) (by omega) (by omega) (by omega)
        refine ⟨cm', ?_⟩
        rw [f_X0_readFlags_L24]
        simp (disch := omega) only [lit, pk_mul, nI_add, ni_sub, ni_div, ni_rem, ni_cl, ni_pred, nmod, ↓reduceIte, ile_t, ile_f, ilt_t, ilt_f, ieq_t, ieq_f, if_true_n, if_false_n, gi_n, nm_n, jn_n, bd1_n, bd2_n, bd3_n, bd4_n, bd5_n, bd6_n, e4, X4_fail_1, ordered_n hO, Nat.sub_self, e]
    · by_cases c2 : g = 0
      · obtain ⟨cm', e⟩ := cflags_fault (B := B) hw hh hO hs hp hf hf0 r (i + 1) n (l - 1) g (upd cm (kc w h i) (nI 0)) (by omega) (by omega) (by omega) (by omega)
        refine ⟨cm', ?_⟩
        rw [f_X0_readFlags_L24]
        simp (disch := omega) only [lit, pk_mul, nI_add, ni_sub, ni_div, ni_rem, ni_cl, ni_pred, nmod, ↓reduceIte, ile_t, ile_f, ilt_t, ilt_f, ieq_t, ieq_f, if_true_n, if_false_n, gi_n, nm_n, jn_n, bd1_n, bd2_n, bd3_n, bd4_n, bd5_n, bd6_n, ordered_n hO, e]
      · obtain ⟨cm', e⟩ := cflags_fault (B := B) hw hh hO hs hp hf hf0 r (i + 1) n (l - 1) g cm (by omega) (by omega) (by omega) (by omega)
        refine ⟨cm', ?_⟩
        rw [f_X0_readFlags_L24]
        simp (disch := omega) only [lit, pk_mul, nI_add, ni_sub, ni_div, ni_rem, ni_cl, ni_pred, nmod, ↓reduceIte, ile_t, ile_f, ilt_t, ilt_f, ieq_t, ieq_f, if_true_n, if_false_n, gi_n, nm_n, jn_n, bd1_n, bd2_n, bd3_n, bd4_n, bd5_n, bd6_n, ordered_n hO, e]
/-- the class goes through a run -/
theorem crun {w h sz p : Nat} {B ho mo : Nat → Int32} (hw : w < 7) (hh : h < 7) (hO : orOk w h ho mo) : ∀ (l i g : Nat) (cm : Nat → Int32), l + i ≤ w * h → l ≤ 39 → g ≤ 1 → ∃ cm' : Nat → Int32, (∀ n, f_X0_readFlags_L24 (nI sz) B ho (nI (w * h)) (n + l) cm (nI p) (nI 0) (nI g) (nI l) (nI i) = f_X0_readFlags_L24 (nI sz) B ho (nI (w * h)) n cm' (nI p) (nI 0) (nI g) (nI 0) (nI (i + l))) ∧ (∀ j, j < w * h → (j < i ∨ i + l ≤ j) → cm' (kc w h j) = cm (kc w h j)) ∧ (∀ j, i ≤ j → j < i + l → cm' (kc w h j) = (if g = 0 then nI 0 else cm (kc w h j)))
  | 0, i, g, cm, hi, hl, hg => ⟨cm, fun _ => rfl, fun _ _ _ => rfl, fun j h1 h2 => absurd h2 (by omega)⟩
  | l + 1, i, g, cm, hi, hl, hg => by
    have hle := wh_le hw hh
    obtain ⟨-, -, hk, -⟩ := ord_in hw hh (show i < w * h by omega)
    by_cases c2 : g = 0
    · obtain ⟨cm', e, h1, h2⟩ := crun (sz := sz) (p := p) (B := B) hw hh hO l (i + 1) g (upd cm (kc w h i) (nI 0)) (by omega) (by omega) hg
      refine ⟨cm', fun n => ?_, fun j hj1 hj2 => ?_, fun j hj1 hj2 => ?_⟩
      · rw [← Nat.add_assoc, f_X0_readFlags_L24, show i + (l + 1) = i + 1 + l by omega, ← e n]
        simp (disch := omega) only [lit, pk_mul, nI_add, ni_sub, ni_div, ni_rem, ni_cl, ni_pred, nmod, ↓reduceIte, ile_t, ile_f, ilt_t, ilt_f, ieq_t, ieq_f, if_true_n, if_false_n, gi_n, nm_n, jn_n, bd1_n, bd2_n, bd3_n, bd4_n, bd5_n, bd6_n, ordered_n hO, Nat.add_sub_cancel]
      · rw [h1 j hj1 (by omega), pk_un (fun e9 => by have := ord_kc hw hh hj1 (by omega) e9; omega)]
      · rw [if_pos c2]
        by_cases c3 : j = i
        · subst c3
          rw [h1 j (by omega) (by omega), pk_us]
        · have := h2 j (by omega) (by omega)
          rw [if_pos c2] at this
          exact this
    · obtain ⟨cm', e, h1, h2⟩ := crun (sz := sz) (p := p) (B := B) hw hh hO l (i + 1) g cm (by omega) (by omega) hg
      refine ⟨cm', fun n => ?_, fun j hj1 hj2 => ?_, fun j hj1 hj2 => ?_⟩
      · rw [← Nat.add_assoc, f_X0_readFlags_L24, show i + (l + 1) = i + 1 + l by omega, ← e n]
        simp (disch := omega) only [lit, pk_mul, nI_add, ni_sub, ni_div, ni_rem, ni_cl, ni_pred, nmod, ↓reduceIte, ile_t, ile_f, ilt_t, ilt_f, ieq_t, ieq_f, if_true_n, if_false_n, gi_n, nm_n, jn_n, bd1_n, bd2_n, bd3_n, bd4_n, bd5_n, bd6_n, ordered_n hO, Nat.add_sub_cancel]
      · exact h1 j hj1 (by omega)
      · rw [if_neg c2]
        by_cases c3 : j = i
        · subst c3
          exact h1 j (by omega) (by omega)
        · have := h2 j (by omega) (by omega)
          rw [if_neg c2] at this
          exact this
/-- the reference goes through a run -/
theorem mrun {w h : Nat} {ho mo : Nat → Int32} (hw : w < 7) (hh : h < 7) (hO : orOk w h ho mo) : ∀ (r k i v g n : Nat) (mm : Nat → Int32), r + k = v → i + v ≤ w * h → v ≤ 39 → g ≤ 1 → r < n → ∃ mm' : Nat → Int32, f_X7_readFlags_L45 mo (nI g) (nI i) (nI v) (nI 0) n mm (nI k) = some mm' ∧ (∀ j, j < w * h → (j < i + k ∨ i + v ≤ j) → mm' (km w h j) = mm (km w h j)) ∧ (∀ j, i + k ≤ j → j < i + v → mm' (km w h j) = (if g = 1 then nI 99 else nI 0))
  | 0, k, i, v, g, n, mm, hr, hi, hv, hg, hn => by
    obtain ⟨n, rfl⟩ : ∃ j, n = j + 1 := ⟨n - 1, by omega⟩
    refine ⟨mm, ?_, fun _ _ _ => rfl, fun j h1 h2 => absurd h2 (by omega)⟩
    rw [f_X7_readFlags_L45]
    simp (disch := omega) only [lit, pk_mul, nI_add, ni_sub, ni_div, ni_rem, ni_cl, ni_pred, nmod, ↓reduceIte, ile_t, ile_f, ilt_t, ilt_f, ieq_t, ieq_f, if_true_n, if_false_n, gi_n, nm_n, jn_n, bd1_n, bd2_n, bd3_n, bd4_n, bd5_n, bd6_n]
  | r + 1, k, i, v, g, n, mm, hr, hi, hv, hg, hn => by
    have hle := wh_le hw hh
    obtain ⟨n, rfl⟩ : ∃ j, n = j + 1 := ⟨n - 1, by omega⟩
    obtain ⟨-, -, -, hk⟩ := ord_in hw hh (show i + k < w * h by omega)
    have ho9 := (hO (i + k) (by omega)).2
    obtain ⟨mm', e, h1, h2⟩ := mrun hw hh hO r (k + 1) i v g n (upd mm (km w h (i + k)) (if g = 1 then nI 99 else nI 0)) (by omega) hi hv hg (by omega)
    refine ⟨mm', ?_, fun j hj1 hj2 => ?_, fun j hj1 hj2 => ?_⟩
    · rw [f_X7_readFlags_L45]
      by_cases c : g = 1
      · rw [if_pos c] at e
        simp (disch := omega) only [lit, pk_mul, nI_add, ni_sub, ni_div, ni_rem, ni_cl, ni_pred, nmod, ↓reduceIte, ile_t, ile_f, ilt_t, ilt_f, ieq_t, ieq_f, if_true_n, if_false_n, gi_n, nm_n, jn_n, bd1_n, bd2_n, bd3_n, bd4_n, bd5_n, bd6_n, ho9, e]
      · rw [if_neg c] at e
        simp (disch := omega) only [lit, pk_mul, nI_add, ni_sub, ni_div, ni_rem, ni_cl, ni_pred, nmod, ↓reduceIte, ile_t, ile_f, ilt_t, ilt_f, ieq_t, ieq_f, if_true_n, if_false_n, gi_n, nm_n, jn_n, bd1_n, bd2_n, bd3_n, bd4_n, bd5_n, bd6_n, ho9, e]
    · rw [h1 j hj1 (by omega), pk_un (fun e9 => by have := ord_km hw hh hj1 (by omega) e9; omega)]
    · by_cases c3 : j = i + k
      · subst c3
        rw [h1 _ (by omega) (by omega), pk_us]
      · exact h2 j (by omega) hj2
theorem mrun_fault {mo : Nat → Int32} {g i v f n : Nat} {mm : Nat → Int32} (hf0 : f ≠ 0) (hf : f ≤ 6) (hv0 : 0 < v) (hv : v ≤ 39) : f_X7_readFlags_L45 mo (nI g) (nI i) (nI v) (nI f) (n + 1) mm (nI 0) = some mm := by
  rw [f_X7_readFlags_L45]
  simp (disch := omega) only [lit, pk_mul, nI_add, ni_sub, ni_div, ni_rem, ni_cl, ni_pred, nmod, ↓reduceIte, ile_t, ile_f, ilt_t, ilt_f, ieq_t, ieq_f, if_true_n, if_false_n, gi_n, nm_n, jn_n, bd1_n, bd2_n, bd3_n, bd4_n, bd5_n, bd6_n]
theorem flags_loop {w h sz : Nat} {B ho mo : Nat → Int32} (hw : w < 7) (hh : h < 7) (hO : orOk w h ho mo) (hs : sz ≤ 6000) : ∀ (r i g p n m : Nat) (cm mm : Nat → Int32), r + i = w * h → g ≤ 1 → p ≤ 8 * sz → r < n → r < m → (∀ j, j < i → FL w h cm mm j) → (∀ j, i ≤ j → j < w * h → cm (kc w h j) = nI 2) →
    ∃ (p' f' : Nat) (cm' mm' : Nat → Int32), p' ≤ 8 * sz ∧ f' ≤ 6 ∧ f_X0_readFlags_L24 (nI sz) B ho (nI (w * h)) n cm (nI p) (nI 0) (nI g) (nI 0) (nI i) = some (cm', nI p', nI f') ∧ f_X7_readFlags_L7 (nI sz) (nI (w * h)) B mo m (nI p) (nI 0) mm (nI (1 - g)) (nI i) = some (nI p', nI f', mm') ∧ (f' = 0 → ∀ j, j < w * h → FL w h cm' mm' j)
  | r, i, g, p, n, m, cm, mm, hi, hg, hp, hn, hm, hA, hB => by
    have hle := wh_le hw hh
    obtain ⟨n, rfl⟩ : ∃ j, n = j + 1 := ⟨n - 1, by omega⟩
    obtain ⟨m, rfl⟩ : ∃ j, m = j + 1 := ⟨m - 1, by omega⟩
    by_cases c : i = w * h
    · refine ⟨p, 0, cm, mm, hp, by omega, ?_, ?_, fun _ j hj => hA j (by omega)⟩
      · rw [f_X0_readFlags_L24]; simp (disch := omega) only [lit, pk_mul, nI_add, ni_sub, ni_div, ni_rem, ni_cl, ni_pred, nmod, ↓reduceIte, ile_t, ile_f, ilt_t, ilt_f, ieq_t, ieq_f, if_true_n, if_false_n, gi_n, nm_n, jn_n, bd1_n, bd2_n, bd3_n, bd4_n, bd5_n, bd6_n]
      · rw [f_X7_readFlags_L7]; simp (disch := omega) only [lit, pk_mul, nI_add, ni_sub, ni_div, ni_rem, ni_cl, ni_pred, nmod, ↓reduceIte, ile_t, ile_f, ilt_t, ilt_f, ieq_t, ieq_f, if_true_n, if_false_n, gi_n, nm_n, jn_n, bd1_n, bd2_n, bd3_n, bd4_n, bd5_n, bd6_n]
    obtain ⟨v, p1, f1, hv1, hv39, hp1, hf1, hz1, e4, e7⟩ := run_ex B hs hp (show 0 ≤ 6 by omega)
    have hg2 : nI 1 - nI g = nI (1 - g) := ni_sub hg
    by_cases c1 : f1 = 0 ∧ v ≤ w * h - i
    · obtain ⟨rfl, hvl⟩ := c1
      obtain ⟨cm1, k1, k2, k3⟩ := crun (sz := sz) (p := p1) (B := B) hw hh hO v i (1 - g) cm (by omega) hv39 (by omega)
      obtain ⟨mm1, q1, q2, q3⟩ := mrun hw hh hO v 0 i v (1 - g) 4000 mm (by omega) (by omega) hv39 (by omega) (by omega)
      have hA1 : ∀ j, j < i + v → FL w h cm1 mm1 j := by
        intro j hj
        by_cases c2 : j < i
        · have h9 := hA j c2
          unfold FL at h9 ⊢
          rw [k2 j (by omega) (by omega), q2 j (by omega) (by omega)]
          exact h9
        · have h1 := k3 j (by omega) hj
          have h2 := q3 j (by omega) hj
          rw [hB j (by omega) (by omega)] at h1
          rcases (show g = 0 ∨ g = 1 by omega) with rfl | rfl
          · rw [if_neg (by omega)] at h1
            rw [if_pos (by omega)] at h2
            exact Or.inl ⟨h1, h2⟩
          · rw [if_pos (by omega)] at h1
            rw [if_neg (by omega)] at h2
            exact Or.inr ⟨h1, h2⟩
      obtain ⟨p2, f2, cm2, mm2, hp2, hf2, u1, u2, u3⟩ := flags_loop hw hh hO hs (r - v) (i + v) (1 - g) p1 (n + 1 - v) m cm1 mm1 (by omega) (by omega) hp1 (by omega) (by omega) hA1 (fun j h1 h2 => by rw [k2 j h2 (by omega)]; exact hB j (by omega) h2)
      refine ⟨p2, f2, cm2, mm2, hp2, hf2, ?_, ?_, u3⟩
      · have h9 := k1 (n + 1 - v)
        rw [show n + 1 - v + v = n + 1 by omega] at h9
        rw [← u1, ← h9, f_X0_readFlags_L24, f_X0_readFlags_L24]
        simp (disch := omega) only [lit, pk_mul, nI_add, ni_sub, ni_div, ni_rem, ni_cl, ni_pred, nmod, ↓reduceIte, ile_t, ile_f, ilt_t, ilt_f, ieq_t, ieq_f, if_true_n, if_false_n, gi_n, nm_n, jn_n, bd1_n, bd2_n, bd3_n, bd4_n, bd5_n, bd6_n, e4]
      · rw [f_X7_readFlags_L7]
        simp (disch := omega) only [lit, pk_mul, nI_add, ni_sub, ni_div, ni_rem, ni_cl, ni_pred, nmod, ↓reduceIte, ile_t, ile_f, ilt_t, ilt_f, ieq_t, ieq_f, if_true_n, if_false_n, gi_n, nm_n, jn_n, bd1_n, bd2_n, bd3_n, bd4_n, bd5_n, bd6_n, e7, q1, u2]
    · obtain ⟨f2, hf2, hf20, c4, c7⟩ : ∃ f2 : Nat, f2 ≤ 6 ∧ f2 ≠ 0 ∧
          (∀ (α : Type) (K : Int32 → Option α), (if nI v ≤ nI (w * h - i) then K (nI f1) else bd1 (f_X4_fail (nI 5) (nI f1)) K) = K (nI f2)) ∧
          (∀ (α : Type) (K : Int32 → Option α), (if nI (i + v) ≤ nI (w * h) then K (nI f1) else bd1 (f_X7_fail (nI 5) (nI f1)) K) = K (nI f2)) := by
        by_cases c0 : f1 = 0
        · subst c0
          refine ⟨5, by omega, by omega, fun α K => ?_, fun α K => ?_⟩
          · simp (disch := omega) only [lit, pk_mul, nI_add, ni_sub, ni_div, ni_rem, ni_cl, ni_pred, nmod, ↓reduceIte, ile_t, ile_f, ilt_t, ilt_f, ieq_t, ieq_f, if_true_n, if_false_n, gi_n, nm_n, jn_n, bd1_n, bd2_n, bd3_n, bd4_n, bd5_n, bd6_n, X4_fail_0]
          · simp (disch := omega) only [lit, pk_mul, nI_add, ni_sub, ni_div, ni_rem, ni_cl, ni_pred, nmod, ↓reduceIte, ile_t, ile_f, ilt_t, ilt_f, ieq_t, ieq_f, if_true_n, if_false_n, gi_n, nm_n, jn_n, bd1_n, bd2_n, bd3_n, bd4_n, bd5_n, bd6_n, X7_fail_0]
        · refine ⟨f1, hf1, c0, fun α K => ?_, fun α K => ?_⟩
          · by_cases c3 : v ≤ w * h - i
            · simp (disch := omega) only [lit, pk_mul, nI_add, ni_sub, ni_div, ni_rem, ni_cl, ni_pred, nmod, ↓reduceIte, ile_t, ile_f, ilt_t, ilt_f, ieq_t, ieq_f, if_true_n, if_false_n, gi_n, nm_n, jn_n, bd1_n, bd2_n, bd3_n, bd4_n, bd5_n, bd6_n]
            · simp (disch := omega) only [lit, pk_mul, nI_add, ni_sub, ni_div, ni_rem, ni_cl, ni_pred, nmod, ↓reduceIte, ile_t, ile_f, ilt_t, ilt_f, ieq_t, ieq_f, if_true_n, if_false_n, gi_n, nm_n, jn_n, bd1_n, bd2_n, bd3_n, bd4_n, bd5_n, bd6_n, X4_fail_1]
          · by_cases c3 : v ≤ w * h - i
            · simp (disch := omega) only [lit, pk_mul, nI_add, ni_sub, ni_div, ni_rem, ni_cl, ni_pred, nmod, ↓reduceIte, ile_t, ile_f, ilt_t, ilt_f, ieq_t, ieq_f, if_true_n, if_false_n, gi_n, nm_n, jn_n, bd1_n, bd2_n, bd3_n, bd4_n, bd5_n, bd6_n]
            · simp (disch := omega) only [lit, pk_mul, nI_add, ni_sub, ni_div, ni_rem, ni_cl, ni_pred, nmod, ↓reduceIte, ile_t, ile_f, ilt_t, ilt_f, ieq_t, ieq_f, if_true_n, if_false_n, gi_n, nm_n, jn_n, bd1_n, bd2_n, bd3_n, bd4_n, bd5_n, bd6_n, X7_fail_1]
      obtain ⟨cm', e⟩ := cflags_fault (B := B) hw hh hO hs hp1 hf2 hf20 r i (n + 1) v (1 - g) cm hi (by omega) hv39 (by omega)
      refine ⟨p1, f2, cm', mm, hp1, hf2, ?_, ?_, fun h => absurd h hf20⟩
      · rw [f_X0_readFlags_L24] at e ⊢
        rw [← e]
        have hi9 : i < w * h := by omega
        have hv9 : v ≠ 0 := by omega
        by_cases c3 : v ≤ w * h - i
        · have := c4 Nat (fun x => some x.toNatClampNeg)
          rw [if_pos (nI_le c3 (by omega))] at this
          have h9 := Option.some.inj this
          rw [ni_cl (by omega), ni_cl (by omega)] at h9
          subst h9
          simp (disch := omega) only [lit, pk_mul, nI_add, ni_sub, ni_div, ni_rem, ni_cl, ni_pred, nmod, ↓reduceIte, ile_t, ile_f, ilt_t, ilt_f, ieq_t, ieq_f, if_true_n, if_false_n, gi_n, nm_n, jn_n, bd1_n, bd2_n, bd3_n, bd4_n, bd5_n, bd6_n, e4]
        · have h9 : f_X4_fail (nI 5) (nI f1) = some (nI f2) := by
            have := c4 Int32 some
            rw [if_neg (nI_ge (by omega) (by omega))] at this
            cases hq : f_X4_fail (nI 5) (nI f1) with
            | none => rw [hq] at this; cases this
            | some a => rw [hq] at this; exact this
          simp (disch := omega) only [lit, pk_mul, nI_add, ni_sub, ni_div, ni_rem, ni_cl, ni_pred, nmod, ↓reduceIte, ile_t, ile_f, ilt_t, ilt_f, ieq_t, ieq_f, if_true_n, if_false_n, gi_n, nm_n, jn_n, bd1_n, bd2_n, bd3_n, bd4_n, bd5_n, bd6_n, e4, h9]
      · rw [f_X7_readFlags_L7]
        have hend : f_X7_readFlags_L7 (nI sz) (nI (w * h)) B mo m (nI p1) (nI f2) mm (nI (1 - (1 - g))) (nI (i + v)) = some (nI p1, nI f2, mm) := by
          obtain ⟨m, rfl⟩ : ∃ j, m = j + 1 := ⟨m - 1, by omega⟩
          rw [f_X7_readFlags_L7]
          by_cases c3 : w * h ≤ i + v
          · simp (disch := omega) only [lit, pk_mul, nI_add, ni_sub, ni_div, ni_rem, ni_cl, ni_pred, nmod, ↓reduceIte, ile_t, ile_f, ilt_t, ilt_f, ieq_t, ieq_f, if_true_n, if_false_n, gi_n, nm_n, jn_n, bd1_n, bd2_n, bd3_n, bd4_n, bd5_n, bd6_n]
          · simp (disch := omega) only [lit, pk_mul, nI_add, ni_sub, ni_div, ni_rem, ni_cl, ni_pred, nmod, ↓reduceIte, ile_t, ile_f, ilt_t, ilt_f, ieq_t, ieq_f, if_true_n, if_false_n, gi_n, nm_n, jn_n, bd1_n, bd2_n, bd3_n, bd4_n, bd5_n, bd6_n]
        have hrun : f_X7_readFlags_L45 mo (nI (1 - g)) (nI i) (nI v) (nI f2) 4000 mm (nI 0) = some mm := mrun_fault (n := 3999) hf20 hf2 (by omega) hv39
        by_cases c3 : v ≤ w * h - i
        · have := c7 Nat (fun x => some x.toNatClampNeg)
          rw [if_pos (nI_le (by omega) (by omega))] at this
          have h9 := Option.some.inj this
          rw [ni_cl (by omega), ni_cl (by omega)] at h9
          subst h9
          simp (disch := omega) only [lit, pk_mul, nI_add, ni_sub, ni_div, ni_rem, ni_cl, ni_pred, nmod, ↓reduceIte, ile_t, ile_f, ilt_t, ilt_f, ieq_t, ieq_f, if_true_n, if_false_n, gi_n, nm_n, jn_n, bd1_n, bd2_n, bd3_n, bd4_n, bd5_n, bd6_n, e7, hrun, hend]
        · have h9 : f_X7_fail (nI 5) (nI f1) = some (nI f2) := by
            have := c7 Int32 some
            rw [if_neg (nI_ge (by omega) (by omega))] at this
            cases hq : f_X7_fail (nI 5) (nI f1) with
            | none => rw [hq] at this; cases this
            | some a => rw [hq] at this; exact this
          simp (disch := omega) only [lit, pk_mul, nI_add, ni_sub, ni_div, ni_rem, ni_cl, ni_pred, nmod, ↓reduceIte, ile_t, ile_f, ilt_t, ilt_f, ieq_t, ieq_f, if_true_n, if_false_n, gi_n, nm_n, jn_n, bd1_n, bd2_n, bd3_n, bd4_n, bd5_n, bd6_n, e7, h9, hrun, hend]
  termination_by r => r
/-- block k has its mode and its move alike -/
def MD (w h : Nat) (cm ca cd mm ma md : Nat → Int32) (k : Nat) : Prop := ∃ u : Nat, u ≤ 4 ∧ cm (kc w h k) = nI u ∧ mm (km w h k) = nI u ∧ ca (kc w h k) = ma (km w h k) ∧ cd (kc w h k) = md (km w h k) ∧ sm 31 (ca (kc w h k)) ∧ sm 31 (cd (kc w h k)) ∧ (u ≠ 3 → ca (kc w h k) = nI 0 ∧ cd (kc w h k) = nI 0)
theorem flags_ex {w h sz p f : Nat} {B ho mo cm mm : Nat → Int32} (hw : w < 7) (hh : h < 7) (hO : orOk w h ho mo) (hs : sz ≤ 6000) (hp : p ≤ 8 * sz) (hf : f ≤ 6) (hB : ∀ j, j < w * h → cm (kc w h j) = nI 2) :
    ∃ (p' f' : Nat) (cm' mm' : Nat → Int32), p' ≤ 8 * sz ∧ f' ≤ 6 ∧ (f ≠ 0 → p' = p ∧ f' = f) ∧ f_X0_readFlags (nI w) (nI h) cm (nI sz) (nI p) (nI f) B ho = some (cm', nI p', nI f') ∧ f_X7_readFlags (nI sz) (nI p) (nI f) (nI (w * h)) B mo mm = some (nI p', nI f', mm') ∧ (f' = 0 → ∀ j, j < w * h → FL w h cm' mm' j) := by
  have hle := wh_le hw hh
  unfold f_X0_readFlags f_X7_readFlags
  obtain ⟨b, p1, f1, hb, hp1, hf1, hz1, hy1, e4, e7⟩ := bit_ex B hs hp hf
  by_cases c : f1 = 0
  · subst c
    have hf0 : f = 0 := by
      rcases Nat.eq_zero_or_pos f with h | h
      · exact h
      · exact absurd (hz1 (by omega)).2.2 (by omega)
    obtain ⟨p2, f2, cm2, mm2, hp2, hf2, u1, u2, u3⟩ := flags_loop (B := B) hw hh hO hs (w * h) 0 (1 - b) p1 4000 4000 cm mm (by omega) (by omega) hp1 (by omega) (by omega) (fun j hj => absurd hj (by omega)) (fun j _ hj => hB j hj)
    rw [show 1 - (1 - b) = b by omega] at u2
    refine ⟨p2, f2, cm2, mm2, hp2, hf2, fun h => absurd hf0 h, ?_, ?_, u3⟩
    · simp (disch := omega) only [lit, pk_mul, nI_add, ni_sub, ni_div, ni_rem, ni_cl, ni_pred, nmod, ↓reduceIte, ile_t, ile_f, ilt_t, ilt_f, ieq_t, ieq_f, if_true_n, if_false_n, gi_n, nm_n, jn_n, bd1_n, bd2_n, bd3_n, bd4_n, bd5_n, bd6_n, e4, u1]
    · simp (disch := omega) only [lit, pk_mul, nI_add, ni_sub, ni_div, ni_rem, ni_cl, ni_pred, nmod, ↓reduceIte, ile_t, ile_f, ilt_t, ilt_f, ieq_t, ieq_f, if_true_n, if_false_n, gi_n, nm_n, jn_n, bd1_n, bd2_n, bd3_n, bd4_n, bd5_n, bd6_n, e7, u2]
  · obtain ⟨cm', e⟩ := cflags_fault (B := B) hw hh hO hs hp1 hf1 c (w * h) 0 4000 0 (1 - b) cm (by omega) (by omega) (by omega) (by omega)
    refine ⟨p1, f1, cm', mm, hp1, hf1, fun h => (hz1 h).2, ?_, ?_, fun h => absurd h c⟩
    · simp (disch := omega) only [lit, pk_mul, nI_add, ni_sub, ni_div, ni_rem, ni_cl, ni_pred, nmod, ↓reduceIte, ile_t, ile_f, ilt_t, ilt_f, ieq_t, ieq_f, if_true_n, if_false_n, gi_n, nm_n, jn_n, bd1_n, bd2_n, bd3_n, bd4_n, bd5_n, bd6_n, e4, e]
    · have hend : f_X7_readFlags_L7 (nI sz) (nI (w * h)) B mo 4000 (nI p1) (nI f1) mm (nI b) (nI 0) = some (nI p1, nI f1, mm) := by
        rw [show (4000 : Nat) = 3999 + 1 from rfl, f_X7_readFlags_L7]
        by_cases c3 : w * h ≤ 0
        · simp (disch := omega) only [lit, pk_mul, nI_add, ni_sub, ni_div, ni_rem, ni_cl, ni_pred, nmod, ↓reduceIte, ile_t, ile_f, ilt_t, ilt_f, ieq_t, ieq_f, if_true_n, if_false_n, gi_n, nm_n, jn_n, bd1_n, bd2_n, bd3_n, bd4_n, bd5_n, bd6_n]
        · simp (disch := omega) only [lit, pk_mul, nI_add, ni_sub, ni_div, ni_rem, ni_cl, ni_pred, nmod, ↓reduceIte, ile_t, ile_f, ilt_t, ilt_f, ieq_t, ieq_f, if_true_n, if_false_n, gi_n, nm_n, jn_n, bd1_n, bd2_n, bd3_n, bd4_n, bd5_n, bd6_n]
      simp (disch := omega) only [lit, pk_mul, nI_add, ni_sub, ni_div, ni_rem, ni_cl, ni_pred, nmod, ↓reduceIte, ile_t, ile_f, ilt_t, ilt_f, ieq_t, ieq_f, if_true_n, if_false_n, gi_n, nm_n, jn_n, bd1_n, bd2_n, bd3_n, bd4_n, bd5_n, bd6_n, e7, hend]
theorem cmodes_fault {w h sz p f : Nat} {B ho mo : Nat → Int32} (hw : w < 7) (hh : h < 7) (hO : orOk w h ho mo) (hs : sz ≤ 6000) (hp : p ≤ 8 * sz) (hf : f ≤ 6) (hf0 : f ≠ 0) : ∀ (r i n : Nat) (cm ca cd : Nat → Int32) (x y : Int32), r + i = w * h → r < n → ∃ cm' ca' cd' : Nat → Int32, f_X0_readModes_L8 (nI w) (nI h) (nI sz) B ho n cm ca cd (nI p) (nI f) x y (nI i) = some (cm', ca', cd', nI p, nI f)
  | 0, i, n, cm, ca, cd, x, y, hi, hn => by
    have hle := wh_le hw hh
    obtain ⟨n, rfl⟩ : ∃ j, n = j + 1 := ⟨n - 1, by omega⟩
    refine ⟨cm, ca, cd, ?_⟩
    rw [f_X0_readModes_L8]
    simp (disch := omega) only [lit, pk_mul, nI_add, ni_sub, ni_div, ni_rem, ni_cl, ni_pred, nmod, ↓reduceIte, ile_t, ile_f, ilt_t, ilt_f, ieq_t, ieq_f, if_true_n, if_false_n, gi_n, nm_n, jn_n, bd1_n, bd2_n, bd3_n, bd4_n, bd5_n, bd6_n]
  | r + 1, i, n, cm, ca, cd, x, y, hi, hn => by
    have hle := wh_le hw hh
    obtain ⟨n, rfl⟩ : ∃ j, n = j + 1 := ⟨n - 1, by omega⟩
    obtain ⟨-, -, hk, -⟩ := ord_in hw hh (show i < w * h by omega)
    obtain ⟨b, p1, f1, hb, hp1, hf1, hz1, hy1, e4, e7⟩ := bit_ex B hs hp hf
    obtain ⟨rfl, rfl, rfl⟩ := hz1 hf0
    by_cases c : cm (kc w h i) = nI 0
    · obtain ⟨cm', ca', cd', e⟩ := cmodes_fault (B := B) hw hh hO hs hp hf hf0 r (i + 1) n cm ca cd x y (by omega) (by omega)
      refine ⟨cm', ca', cd', ?_⟩
      rw [f_X0_readModes_L8]
      unfold f_X0_isCoded
      simp (disch := omega) only [lit, pk_mul, nI_add, ni_sub, ni_div, ni_rem, ni_cl, ni_pred, nmod, ↓reduceIte, ile_t, ile_f, ilt_t, ilt_f, ieq_t, ieq_f, if_true_n, if_false_n, gi_n, nm_n, jn_n, bd1_n, bd2_n, bd3_n, bd4_n, bd5_n, bd6_n, ordered_n hO, c, e]
    · obtain ⟨cm', ca', cd', e⟩ := cmodes_fault (B := B) hw hh hO hs hp hf hf0 r (i + 1) n (upd cm (kc w h i) (nI 1)) ca cd x y (by omega) (by omega)
      refine ⟨cm', ca', cd', ?_⟩
      rw [f_X0_readModes_L8]
      unfold f_X0_isCoded
      simp (disch := omega) only [lit, pk_mul, nI_add, ni_sub, ni_div, ni_rem, ni_cl, ni_pred, nmod, ↓reduceIte, ile_t, ile_f, ilt_t, ilt_f, ieq_t, ieq_f, if_true_n, if_false_n, gi_n, nm_n, jn_n, bd1_n, bd2_n, bd3_n, bd4_n, bd5_n, bd6_n, ordered_n hO, c, e4, e]
theorem mmodes_fault {w h sz p f : Nat} {B ho mo : Nat → Int32} (hw : w < 7) (hh : h < 7) (hO : orOk w h ho mo) (hs : sz ≤ 6000) (hp : p ≤ 8 * sz) (hf : f ≤ 6) (hf0 : f ≠ 0) : ∀ (r i n : Nat) (mm ma md : Nat → Int32) (x y : Int32), r + i = w * h → r < n → ∃ mm' ma' md' : Nat → Int32, f_X7_readModes_L6 (nI sz) (nI (w * h)) B mo n (nI p) (nI f) mm ma md x y (nI i) = some (nI p, nI f, mm', ma', md')
  | 0, i, n, cm, ca, cd, x, y, hi, hn => by
    have hle := wh_le hw hh
    obtain ⟨n, rfl⟩ : ∃ j, n = j + 1 := ⟨n - 1, by omega⟩
    refine ⟨cm, ca, cd, ?_⟩
    rw [f_X7_readModes_L6]
    simp (disch := omega) only [lit, pk_mul, nI_add, ni_sub, ni_div, ni_rem, ni_cl, ni_pred, nmod, ↓reduceIte, ile_t, ile_f, ilt_t, ilt_f, ieq_t, ieq_f, if_true_n, if_false_n, gi_n, nm_n, jn_n, bd1_n, bd2_n, bd3_n, bd4_n, bd5_n, bd6_n]
  | r + 1, i, n, cm, ca, cd, x, y, hi, hn => by
    have hle := wh_le hw hh
    obtain ⟨n, rfl⟩ : ∃ j, n = j + 1 := ⟨n - 1, by omega⟩
    obtain ⟨-, -, -, hk⟩ := ord_in hw hh (show i < w * h by omega)
    have ho9 := (hO i (by omega)).2
    obtain ⟨b, p1, f1, hb, hp1, hf1, hz1, hy1, e4, e7⟩ := bit_ex B hs hp hf
    obtain ⟨rfl, rfl, rfl⟩ := hz1 hf0
    by_cases c : cm (km w h i) = nI 99
    · obtain ⟨cm', ca', cd', e⟩ := mmodes_fault (B := B) hw hh hO hs hp hf hf0 r (i + 1) n (upd cm (km w h i) (nI 1)) (upd ca (km w h i) (nI 0)) (upd cd (km w h i) (nI 0)) x y (by omega) (by omega)
      refine ⟨cm', ca', cd', ?_⟩
      rw [f_X7_readModes_L6]
      simp (disch := omega) only [lit, pk_mul, nI_add, ni_sub, ni_div, ni_rem, ni_cl, ni_pred, nmod, ↓reduceIte, ile_t, ile_f, ilt_t, ilt_f, ieq_t, ieq_f, if_true_n, if_false_n, gi_n, ↓nm_n, ↓jn_n, bd1_n, bd2_n, bd3_n, bd4_n, bd5_n, bd6_n, ho9, c, ↓bd3_e e7, pk_us, e]
    · obtain ⟨cm', ca', cd', e⟩ := mmodes_fault (B := B) hw hh hO hs hp hf hf0 r (i + 1) n cm ca cd x y (by omega) (by omega)
      refine ⟨cm', ca', cd', ?_⟩
      rw [f_X7_readModes_L6]
      simp (disch := omega) only [lit, pk_mul, nI_add, ni_sub, ni_div, ni_rem, ni_cl, ni_pred, nmod, ↓reduceIte, ile_t, ile_f, ilt_t, ilt_f, ieq_t, ieq_f, if_true_n, if_false_n, gi_n, ↓nm_n, ↓jn_n, bd1_n, bd2_n, bd3_n, bd4_n, bd5_n, bd6_n, ho9, c, e]
