/-! The pure side, 20: a frame's beginning and end. -/
theorem fill64 {v : Int32} : ∀ (r i n : Nat) (s : Nat → Int32), r + i = 64 → r < n → ∃ s' : Nat → Int32, f_J7_fill_53178_L5 v n s (nI i) = some s' ∧ (∀ x, x < i → s' x = s x) ∧ (∀ x, i ≤ x → x < 64 → s' x = v)
  | 0, i, n, s, hi, hn => by
    obtain ⟨n, rfl⟩ : ∃ j, n = j + 1 := ⟨n - 1, by omega⟩
    refine ⟨s, ?_, fun _ _ => rfl, fun x h1 h2 => absurd h2 (by omega)⟩
    rw [f_J7_fill_53178_L5]; simp (disch := omega) only [lit, pk_mul, nI_add, ni_sub, ni_div, ni_rem, ni_cl, ni_pred, nmod, ↓reduceIte, ile_t, ile_f, ilt_t, ilt_f, ieq_t, ieq_f, if_true_n, if_false_n, gi_n, nm_n, jn_n, bd1_n, bd2_n, bd3_n, bd4_n, bd5_n, bd6_n]
  | r + 1, i, n, s, hi, hn => by
    obtain ⟨n, rfl⟩ : ∃ j, n = j + 1 := ⟨n - 1, by omega⟩
    obtain ⟨s', e, h1, h2⟩ := fill64 (v := v) r (i + 1) n (upd s i v) (by omega) (by omega)
    refine ⟨s', ?_, fun x hx => by rw [h1 x (by omega), pk_un (by omega)], fun x hx hx2 => ?_⟩
    · rw [f_J7_fill_53178_L5]
      simp (disch := omega) only [lit, pk_mul, nI_add, ni_sub, ni_div, ni_rem, ni_cl, ni_pred, nmod, ↓reduceIte, ile_t, ile_f, ilt_t, ilt_f, ieq_t, ieq_f, if_true_n, if_false_n, gi_n, nm_n, jn_n, bd1_n, bd2_n, bd3_n, bd4_n, bd5_n, bd6_n, e]
    · by_cases c : x = i
      · subst c
        rw [h1 x (by omega), pk_us]
      · exact h2 x (by omega) hx2
theorem updR_s {M : Nat → Nat → Int32} {b : Nat} {g : Nat → Int32} : updR M b g b = g := by
  unfold updR
  rw [if_pos rfl]
theorem updR_n {M : Nat → Nat → Int32} {b c : Nat} {g : Nat → Int32} (h : c ≠ b) : updR M b g c = M c := by
  unfold updR
  rw [if_neg h]
theorem clear_loop {w h : Nat} (hw : w < 7) (hh : h < 7) : ∀ (r i n : Nat) (cm ca cd : Nat → Int32) (cg : Nat → Nat → Int32), r + i = w * h → r < n → (∀ b, b < i → cm b = nI 2 ∧ ca b = nI 0 ∧ cd b = nI 0 ∧ ∀ u, u < 64 → cg b u = nI 0) →
    ∃ (cm' ca' cd' : Nat → Int32) (cg' : Nat → Nat → Int32), f_X0_clear_L2 (nI w) (nI h) n cm ca cd cg (nI i) = some (cm', ca', cd', cg') ∧ (∀ b, b < w * h → cm' b = nI 2 ∧ ca' b = nI 0 ∧ cd' b = nI 0 ∧ ∀ u, u < 64 → cg' b u = nI 0)
  | 0, i, n, cm, ca, cd, cg, hi, hn, h0 => by
    have hle := wh_le hw hh
    obtain ⟨n, rfl⟩ : ∃ j, n = j + 1 := ⟨n - 1, by omega⟩
    refine ⟨cm, ca, cd, cg, ?_, fun b hb => h0 b (by omega)⟩
    rw [f_X0_clear_L2]; simp (disch := omega) only [lit, pk_mul, nI_add, ni_sub, ni_div, ni_rem, ni_cl, ni_pred, nmod, ↓reduceIte, ile_t, ile_f, ilt_t, ilt_f, ieq_t, ieq_f, if_true_n, if_false_n, gi_n, nm_n, jn_n, bd1_n, bd2_n, bd3_n, bd4_n, bd5_n, bd6_n]
  | r + 1, i, n, cm, ca, cd, cg, hi, hn, h0 => by
    have hle := wh_le hw hh
    obtain ⟨n, rfl⟩ : ∃ j, n = j + 1 := ⟨n - 1, by omega⟩
    obtain ⟨g, e1, -, g1⟩ := fill64 (v := nI 0) 64 0 4000 (cg i) (by omega) (by omega)
    obtain ⟨cm', ca', cd', cg', e, k⟩ := clear_loop hw hh r (i + 1) n (upd cm i (nI 2)) (upd ca i (nI 0)) (upd cd i (nI 0)) (updR cg i g) (by omega) (by omega) (fun b hb => by
      by_cases c : b = i
      · subst c
        rw [pk_us, pk_us, pk_us, updR_s]
        exact ⟨rfl, rfl, rfl, fun u hu => g1 u (by omega) hu⟩
      · rw [pk_un c, pk_un c, pk_un c, updR_n c]
        exact h0 b (by omega))
    refine ⟨cm', ca', cd', cg', ?_, k⟩
    rw [f_X0_clear_L2]
    unfold f_J7_fill_53178
    simp (disch := omega) only [lit, pk_mul, nI_add, ni_sub, ni_div, ni_rem, ni_cl, ni_pred, nmod, ↓reduceIte, ile_t, ile_f, ilt_t, ilt_f, ieq_t, ieq_f, if_true_n, if_false_n, gi_n, nm_n, jn_n, bd1_n, bd2_n, bd3_n, bd4_n, bd5_n, bd6_n, e1, e]
theorem clear_ex {w h : Nat} (hw : w < 7) (hh : h < 7) (cm ca cd : Nat → Int32) (cg : Nat → Nat → Int32) : ∃ (cm' ca' cd' : Nat → Int32) (cg' : Nat → Nat → Int32), f_X0_clear (nI w) (nI h) cm ca cd cg = some (cm', ca', cd', cg') ∧ (∀ b, b < w * h → cm' b = nI 2 ∧ ca' b = nI 0 ∧ cd' b = nI 0 ∧ ∀ u, u < 64 → cg' b u = nI 0) := by
  have hle := wh_le hw hh
  obtain ⟨cm', ca', cd', cg', e, k⟩ := clear_loop hw hh (w * h) 0 4000 cm ca cd cg (by omega) (by omega) (fun b hb => absurd hb (by omega))
  refine ⟨cm', ca', cd', cg', ?_, k⟩
  unfold f_X0_clear
  simp (disch := omega) only [lit, pk_mul, nI_add, ni_sub, ni_div, ni_rem, ni_cl, ni_pred, nmod, ↓reduceIte, ile_t, ile_f, ilt_t, ilt_f, ieq_t, ieq_f, if_true_n, if_false_n, gi_n, nm_n, jn_n, bd1_n, bd2_n, bd3_n, bd4_n, bd5_n, bd6_n, e]
theorem mclear {t : Nat} (ht : t < 2) : ∀ (r i n : Nat) (mm ma md : Nat → Int32), r + i = 36 → r < n → (∀ b, b < i → mm b = (if t = 0 then nI 2 else nI 0) ∧ ma b = nI 0 ∧ md b = nI 0) →
    ∃ mm' ma' md' : Nat → Int32, f_X7_readFrame_L53 (nI t) n mm ma md (nI i) = some (mm', ma', md') ∧ (∀ b, b < 36 → mm' b = (if t = 0 then nI 2 else nI 0) ∧ ma' b = nI 0 ∧ md' b = nI 0)
  | 0, i, n, mm, ma, md, hi, hn, h0 => by
    obtain ⟨n, rfl⟩ : ∃ j, n = j + 1 := ⟨n - 1, by omega⟩
    refine ⟨mm, ma, md, ?_, fun b hb => h0 b (by omega)⟩
    rw [f_X7_readFrame_L53]; simp (disch := omega) only [lit, pk_mul, nI_add, ni_sub, ni_div, ni_rem, ni_cl, ni_pred, nmod, ↓reduceIte, ile_t, ile_f, ilt_t, ilt_f, ieq_t, ieq_f, if_true_n, if_false_n, gi_n, nm_n, jn_n, bd1_n, bd2_n, bd3_n, bd4_n, bd5_n, bd6_n]
  | r + 1, i, n, mm, ma, md, hi, hn, h0 => by
    obtain ⟨n, rfl⟩ : ∃ j, n = j + 1 := ⟨n - 1, by omega⟩
    obtain ⟨mm', ma', md', e, k⟩ := mclear ht r (i + 1) n (upd mm i (if t = 0 then nI 2 else nI 0)) (upd ma i (nI 0)) (upd md i (nI 0)) (by omega) (by omega) (fun b hb => by
      by_cases c : b = i
      · subst c
        rw [pk_us, pk_us, pk_us]
        exact ⟨rfl, rfl, rfl⟩
      · rw [pk_un c, pk_un c, pk_un c]
        exact h0 b (by omega))
    refine ⟨mm', ma', md', ?_, k⟩
    rw [f_X7_readFrame_L53]
    by_cases c : t = 0
    · rw [if_pos c] at e
      simp (disch := omega) only [lit, pk_mul, nI_add, ni_sub, ni_div, ni_rem, ni_cl, ni_pred, nmod, ↓reduceIte, ile_t, ile_f, ilt_t, ilt_f, ieq_t, ieq_f, if_true_n, if_false_n, gi_n, ↓nm_n, ↓jn_n, bd1_n, bd2_n, bd3_n, bd4_n, bd5_n, bd6_n, e]
    · rw [if_neg c] at e
      simp (disch := omega) only [lit, pk_mul, nI_add, ni_sub, ni_div, ni_rem, ni_cl, ni_pred, nmod, ↓reduceIte, ile_t, ile_f, ilt_t, ilt_f, ieq_t, ieq_f, if_true_n, if_false_n, gi_n, ↓nm_n, ↓jn_n, bd1_n, bd2_n, bd3_n, bd4_n, bd5_n, bd6_n, e]
theorem mtake {t k : Nat} {made : Nat → Int32} (ht : t < 2) (hk : k < 2) : ∀ (r i n : Nat) (pv gd : Nat → Int32), r + i = 2304 → r < n → ∃ pv' gd' : Nat → Int32, f_X7_readFrame_L138 (nI t) (nI k) made n pv gd (nI i) = some (pv', gd') ∧ (∀ j, j < i → pv' j = pv j ∧ gd' j = gd j) ∧ (∀ j, i ≤ j → j < 2304 → pv' j = made j ∧ gd' j = (if t = 0 ∨ k ≠ 0 then made j else gd j))
  | 0, i, n, pv, gd, hi, hn => by
    obtain ⟨n, rfl⟩ : ∃ j, n = j + 1 := ⟨n - 1, by omega⟩
    refine ⟨pv, gd, ?_, fun _ _ => ⟨rfl, rfl⟩, fun j h1 h2 => absurd h2 (by omega)⟩
    rw [f_X7_readFrame_L138]; simp (disch := omega) only [lit, pk_mul, nI_add, ni_sub, ni_div, ni_rem, ni_cl, ni_pred, nmod, ↓reduceIte, ile_t, ile_f, ilt_t, ilt_f, ieq_t, ieq_f, if_true_n, if_false_n, gi_n, nm_n, jn_n, bd1_n, bd2_n, bd3_n, bd4_n, bd5_n, bd6_n]
  | r + 1, i, n, pv, gd, hi, hn => by
    obtain ⟨n, rfl⟩ : ∃ j, n = j + 1 := ⟨n - 1, by omega⟩
    obtain ⟨pv', gd', e, h1, h2⟩ := mtake (made := made) ht hk r (i + 1) n (upd pv i (made i)) (upd gd i (if t = 0 ∨ k ≠ 0 then made i else gd i)) (by omega) (by omega)
    refine ⟨pv', gd', ?_, fun j hj => ?_, fun j hj hj2 => ?_⟩
    · rw [f_X7_readFrame_L138]
      by_cases c : t = 0
      · rw [if_pos (Or.inl c)] at e
        simp (disch := omega) only [lit, pk_mul, nI_add, ni_sub, ni_div, ni_rem, ni_cl, ni_pred, nmod, ↓reduceIte, ile_t, ile_f, ilt_t, ilt_f, ieq_t, ieq_f, if_true_n, if_false_n, gi_n, ↓nm_n, ↓jn_n, bd1_n, bd2_n, bd3_n, bd4_n, bd5_n, bd6_n, e]
      · by_cases d : k = 0
        · rw [if_neg (by omega)] at e
          simp (disch := omega) only [lit, pk_mul, nI_add, ni_sub, ni_div, ni_rem, ni_cl, ni_pred, nmod, ↓reduceIte, ile_t, ile_f, ilt_t, ilt_f, ieq_t, ieq_f, if_true_n, if_false_n, gi_n, ↓nm_n, ↓jn_n, bd1_n, bd2_n, bd3_n, bd4_n, bd5_n, bd6_n, e]
        · rw [if_pos (Or.inr d)] at e
          simp (disch := omega) only [lit, pk_mul, nI_add, ni_sub, ni_div, ni_rem, ni_cl, ni_pred, nmod, ↓reduceIte, ile_t, ile_f, ilt_t, ilt_f, ieq_t, ieq_f, if_true_n, if_false_n, gi_n, ↓nm_n, ↓jn_n, bd1_n, bd2_n, bd3_n, bd4_n, bd5_n, bd6_n, e]
    · rw [(h1 j (by omega)).1, (h1 j (by omega)).2, pk_un (by omega), pk_un (by omega)]
      exact ⟨rfl, rfl⟩
    · by_cases c : j = i
      · subst c
        rw [(h1 j (by omega)).1, (h1 j (by omega)).2, pk_us, pk_us]
        exact ⟨rfl, rfl⟩
      · obtain ⟨q1, q2⟩ := h2 j (by omega) hj2
        rw [pk_un c] at q2
        exact ⟨q1, q2⟩
theorem mkeep {mm ma md mn : Nat → Int32} : ∀ (r i n : Nat) (a b c d : Nat → Int32), r + i = 36 → r < n → (∀ j, j < i → a j = mm j ∧ b j = ma j ∧ c j = md j ∧ d j = (if mm j ≤ nI 0 then nI 0 else mn (64 * j))) →
    ∃ a' b' c' d' : Nat → Int32, f_X7_readFrame_L201 mm ma md mn n a b c d (nI i) = some (a', b', c', d') ∧ (∀ j, j < 36 → a' j = mm j ∧ b' j = ma j ∧ c' j = md j ∧ d' j = (if mm j ≤ nI 0 then nI 0 else mn (64 * j)))
  | 0, i, n, a, b, c, d, hi, hn, h0 => by
    obtain ⟨n, rfl⟩ : ∃ j, n = j + 1 := ⟨n - 1, by omega⟩
    refine ⟨a, b, c, d, ?_, fun j hj => h0 j (by omega)⟩
    rw [f_X7_readFrame_L201]; simp (disch := omega) only [lit, pk_mul, nI_add, ni_sub, ni_div, ni_rem, ni_cl, ni_pred, nmod, ↓reduceIte, ile_t, ile_f, ilt_t, ilt_f, ieq_t, ieq_f, if_true_n, if_false_n, gi_n, nm_n, jn_n, bd1_n, bd2_n, bd3_n, bd4_n, bd5_n, bd6_n]
  | r + 1, i, n, a, b, c, d, hi, hn, h0 => by
    obtain ⟨n, rfl⟩ : ∃ j, n = j + 1 := ⟨n - 1, by omega⟩
    obtain ⟨a', b', c', d', e, k⟩ := mkeep (mm := mm) (ma := ma) (md := md) (mn := mn) r (i + 1) n (upd a i (mm i)) (upd b i (ma i)) (upd c i (md i)) (upd d i (if mm i ≤ nI 0 then nI 0 else mn (64 * i))) (by omega) (by omega) (fun j hj => by
      by_cases c9 : j = i
      · subst c9
        rw [pk_us, pk_us, pk_us, pk_us]
        exact ⟨rfl, rfl, rfl, rfl⟩
      · rw [pk_un c9, pk_un c9, pk_un c9, pk_un c9]
        exact h0 j (by omega))
    refine ⟨a', b', c', d', ?_, k⟩
    rw [f_X7_readFrame_L201]
    by_cases c9 : mm i ≤ nI 0
    · rw [if_pos c9] at e
      simp (disch := omega) only [lit, pk_mul, nI_add, ni_sub, ni_div, ni_rem, ni_cl, ni_pred, nmod, ↓reduceIte, ile_t, ile_f, ilt_t, ilt_f, ieq_t, ieq_f, if_true_n, if_false_n, gi_n, ↓nm_n, ↓jn_n, bd1_n, bd2_n, bd3_n, bd4_n, bd5_n, bd6_n, eq_true c9, e]
    · rw [if_neg c9] at e
      simp (disch := omega) only [lit, pk_mul, nI_add, ni_sub, ni_div, ni_rem, ni_cl, ni_pred, nmod, ↓reduceIte, ile_t, ile_f, ilt_t, ilt_f, ieq_t, ieq_f, if_true_n, if_false_n, gi_n, ↓nm_n, ↓jn_n, bd1_n, bd2_n, bd3_n, bd4_n, bd5_n, bd6_n, eq_false c9, e]
/-- a frame between others wants a picture -/
theorem first_ex {t k f : Nat} (ht : t < 2) (hk : k < 2) (hf : f ≤ 6) : ∃ g : Nat, g ≤ 6 ∧ (f ≠ 0 → g = f) ∧ (t ≠ 0 → k = 0 → g ≠ 0) ∧ (g = 0 → f = 0) ∧
    (∀ (α : Type) (K : Int32 → Option α), jn (fun (k32 : Int32 → Option α) => (if nI t = nI 0 then (k32 (nI f)) else (if nI k = nI 0 then (bd1 (f_X4_fail (nI 4) (nI f)) fun x => k32 x) else (k32 (nI f))))) K = K (nI g)) ∧
    (∀ (α : Type) (K : Int32 → Option α), jn (fun (k32 : Int32 → Option α) => (if nI t = nI 0 then (k32 (nI f)) else (if nI k = nI 0 then (bd1 (f_X7_fail (nI 4) (nI f)) fun x => k32 x) else (k32 (nI f))))) K = K (nI g)) := by
  by_cases c : t = 0
  · subst c
    exact ⟨f, hf, fun _ => rfl, fun h => absurd rfl h, fun h => h, fun α K => jn_e (if_pos rfl), fun α K => jn_e (if_pos rfl)⟩
  · have hne : ¬ nI t = nI 0 := fun e => c ((nI_eq (by omega) (by omega)).mp e)
    by_cases d : k = 0
    · subst d
      obtain ⟨g, g1, g2, g3, e4, e7⟩ := fail_ex (f := f) 4 (by omega) (by omega) hf
      refine ⟨g, g1, g3, fun _ _ => g2, fun h => absurd h g2, fun α K => jn_e ((if_neg hne).trans ((if_pos rfl).trans ?_)), fun α K => jn_e ((if_neg hne).trans ((if_pos rfl).trans ?_))⟩
      · rw [e4, bd1_n]
      · rw [e7, bd1_n]
    · have hne2 : ¬ nI k = nI 0 := fun e => d ((nI_eq (by omega) (by omega)).mp e)
      exact ⟨f, hf, fun _ => rfl, fun _ h => absurd h d, fun h => h, fun α K => jn_e ((if_neg hne).trans (if_neg hne2)), fun α K => jn_e ((if_neg hne).trans (if_neg hne2))⟩
/-- the modes of a frame, whichever it is -/
theorem mstage {w h sz p f t : Nat} {B ho mo cm ca cd mm ma md : Nat → Int32} (hw : w < 7) (hh : h < 7) (ht : t < 2) (hO : orOk w h ho mo) (hs : sz ≤ 6000) (hp : p ≤ 8 * sz) (hf : f ≤ 6) (hC : ∀ b, b < w * h → cm b = nI 2 ∧ ca b = nI 0 ∧ cd b = nI 0) (hR : ∀ b, b < 36 → mm b = (if t = 0 then nI 2 else nI 0) ∧ ma b = nI 0 ∧ md b = nI 0) :
    ∃ (p' f' : Nat) (cm' ca' cd' mm' ma' md' : Nat → Int32), p' ≤ 8 * sz ∧ f' ≤ 6 ∧ (f ≠ 0 → p' = p ∧ f' = f) ∧ (f' = 0 → (∀ j, j < w * h → MD w h cm' ca' cd' mm' ma' md' j) ∧ (t = 0 → ∀ j, j < w * h → cm' (kc w h j) = nI 2)) ∧
    (∀ (α : Type) (K : (Nat → Int32) → (Nat → Int32) → (Nat → Int32) → Int32 → Int32 → Option α), jn (fun (k57 : (Nat → Int32) → (Nat → Int32) → (Nat → Int32) → Int32 → Int32 → Option α) => (if nI t = nI 0 then (k57 cm ca cd (nI p) (nI f)) else (bd3 (f_X0_readFlags (nI w) (nI h) cm (nI sz) (nI p) (nI f) B ho) fun a1 a2 a3 => bd5 (f_X0_readModes (nI w) (nI h) a1 ca cd (nI sz) a2 a3 B ho) fun b1 b2 b3 b4 b5 => k57 b1 b2 b3 b4 b5))) K = K cm' ca' cd' (nI p') (nI f')) ∧
    (∀ (α : Type) (K : Int32 → Int32 → (Nat → Int32) → (Nat → Int32) → (Nat → Int32) → Option α), jn (fun (k78 : Int32 → Int32 → (Nat → Int32) → (Nat → Int32) → (Nat → Int32) → Option α) => (if nI t = nI 0 then (k78 (nI p) (nI f) mm ma md) else (bd3 (f_X7_readFlags (nI sz) (nI p) (nI f) (nI (w * h)) B mo mm) fun a1 a2 a3 => bd5 (f_X7_readModes (nI sz) a1 a2 (nI (w * h)) B mo a3 ma md) fun b1 b2 b3 b4 b5 => k78 b1 b2 b3 b4 b5))) K = K (nI p') (nI f') mm' ma' md') := by
  have hle := wh_le hw hh
  by_cases c : t = 0
  · subst c
    refine ⟨p, f, cm, ca, cd, mm, ma, md, hp, hf, fun _ => ⟨rfl, rfl⟩, fun _ => ⟨fun j hj => ?_, fun _ j hj => ?_⟩, fun α K => ?_, fun α K => ?_⟩
    · obtain ⟨-, -, o3, o4⟩ := ord_in hw hh hj
      obtain ⟨a1, a2, a3⟩ := hC _ o3
      obtain ⟨b1, b2, b3⟩ := hR _ o4
      rw [if_pos rfl] at b1
      exact ⟨2, by omega, a1, b1, by rw [a2, b2], by rw [a3, b3], by rw [a2]; exact sm_0, by rw [a3]; exact sm_0, fun _ => ⟨a2, a3⟩⟩
    · obtain ⟨-, -, o3, o4⟩ := ord_in hw hh hj
      exact (hC _ o3).1
    · exact jn_e (if_pos rfl)
    · exact jn_e (if_pos rfl)
  · have hne : ¬ nI t = nI 0 := fun e => c ((nI_eq (by omega) (by omega)).mp e)
    obtain ⟨p1, f1, cm1, mm1, q1, q2, q3, q4, q5, q6⟩ := flags_ex (cm := cm) (mm := mm) (B := B) hw hh hO hs hp hf (fun j hj => (hC _ (ord_in hw hh hj).2.2.1).1)
    obtain ⟨p2, f2, cm2, ca2, cd2, mm2, ma2, md2, r1, r2, r3, r4, r5, r6⟩ := modes_ex (cm := cm1) (mm := mm1) (ca := ca) (cd := cd) (ma := ma) (md := md) (B := B) hw hh hO hs q1 q2 (fun h9 => ⟨fun j hj => absurd hj (by omega), fun j _ hj => by
      obtain ⟨-, -, o3, o4⟩ := ord_in hw hh hj
      obtain ⟨a1, a2, a3⟩ := hC _ o3
      obtain ⟨b1, b2, b3⟩ := hR _ o4
      exact ⟨q6 h9 j hj, a2, a3, b2, b3⟩⟩)
    refine ⟨p2, f2, cm2, ca2, cd2, mm2, ma2, md2, r1, r2, fun h9 => ?_, fun h9 => ⟨r6 h9, fun h8 => absurd h8 c⟩, fun α K => ?_, fun α K => ?_⟩
    · obtain ⟨e1, e2⟩ := q3 h9
      obtain ⟨e3, e4⟩ := r3 (by omega)
      exact ⟨by omega, by omega⟩
    · refine jn_e ((if_neg hne).trans ?_)
      rw [q4, bd3_n, r4, bd5_n]
    · refine jn_e ((if_neg hne).trans ?_)
      rw [q5, bd3_n, r5, bd5_n]
