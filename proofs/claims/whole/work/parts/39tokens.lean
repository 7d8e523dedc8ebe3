/-! The pure side, 11: all tokens of a frame. -/
theorem eb_c : ∀ t, t < 5 → ∃ a b : Nat, sENDING t = nI a ∧ sENDING_BITS t = nI b ∧ a ≤ 14 ∧ b ≤ 8 ∧ ((t < 2 ∧ a = t ∧ b = 0) ∨ (t = 2 ∧ a = 2 ∧ b = 2) ∨ (t = 3 ∧ a = 6 ∧ b = 3) ∨ (t = 4 ∧ a = 14 ∧ b = 8)) := by
  intro t ht
  rcases (show t = 0 ∨ t = 1 ∨ t = 2 ∨ t = 3 ∨ t = 4 by omega) with rfl | rfl | rfl | rfl | rfl
  · exact ⟨0, 0, rfl, rfl, by omega, by omega, Or.inl ⟨by omega, rfl, rfl⟩⟩
  · exact ⟨1, 0, rfl, rfl, by omega, by omega, Or.inl ⟨by omega, rfl, rfl⟩⟩
  · exact ⟨2, 2, rfl, rfl, by omega, by omega, Or.inr (Or.inl ⟨rfl, rfl, rfl⟩)⟩
  · exact ⟨6, 3, rfl, rfl, by omega, by omega, Or.inr (Or.inr (Or.inl ⟨rfl, rfl, rfl⟩))⟩
  · exact ⟨14, 8, rfl, rfl, by omega, by omega, Or.inr (Or.inr (Or.inr ⟨rfl, rfl, rfl⟩))⟩
/-- how a block goes on -/
def GE (bc bm q : Nat) (cp mp : Nat → Int32) (cg : Nat → Nat → Int32) (mn : Nat → Int32) (cp' mp' : Nat → Int32) (cg' : Nat → Nat → Int32) (mn' : Nat → Int32) : Prop :=
  ∃ q' : Nat, q < q' ∧ q' ≤ 64 ∧ cp' = upd cp bc (nI q') ∧ mp' bm = nI q' ∧ (∀ j, j ≠ bm → mp' j = mp j) ∧
    ((cg' = cg ∧ mn' = mn) ∨ ∃ (u : Nat) (v : Int32), u < 64 ∧ sm 612 v ∧ cg' = updM cg bc u v ∧ mn' = upd mn (64 * bm + u) v)
theorem go0 {sz p f bc bm q wt hi : Nat} {B br sd rt cp mp mn : Nat → Int32} {cg : Nat → Nat → Int32} {root : Int32} (hs : sz ≤ 6000) (hp : p ≤ 8 * sz) (hf : f ≤ 6) (hbc : bc < 36) (hbm : bm < 36) (hq : q < 64) (h1 : cp bc = nI q) (h2 : mp bm = nI q) (hwt : wt < 2) (hT : trT wt hi br sd rt root) :
    ∃ (t p1 f1 p' f' d' : Nat) (cp' mp' mn' : Nat → Int32) (cg' : Nat → Nat → Int32), p' ≤ 8 * sz ∧ f' ≤ 6 ∧ d' ≤ 300 ∧ (f ≠ 0 → p' = p ∧ f' = f) ∧ f_X0_goOn (nI bc) (nI 0) cp cg (nI sz) (nI p) (nI f) B root br = some (nI d', cp', cg', nI p', nI f') ∧
      f_X7_readToken (nI wt) (nI sz) (nI p) (nI f) B sd rt = some (nI t, nI p1, nI f1) ∧ f_X7_take (nI bm) (nI t) (nI sz) (nI p1) (nI f1) (nI 0) B mp mn = some (nI p', nI f', nI d', mp', mn') ∧
      (f' = 0 → GE bc bm q cp mp cg mn cp' mp' cg' mn') := by
  obtain ⟨t, p1, f1, ht, hp1, hf1, hz1, e4, e7⟩ := readTok_ex B hs hwt hT hp hf
  by_cases c : t < 5
  · obtain ⟨a, b, ea, eb, ha, hb, hab⟩ := eb_c t c
    obtain ⟨v, p2, f2, hv, hp2, hf2, hz2, e42, e72⟩ := bits_ex (N := b) B hs hp1 hf1 (by omega)
    have hv9 : v < 256 := Nat.lt_of_lt_of_le hv (Nat.pow_le_pow_right (by omega) hb)
    rcases hab with ⟨h5, rfl, rfl⟩ | ⟨rfl, rfl, rfl⟩ | ⟨rfl, rfl, rfl⟩ | ⟨rfl, rfl, rfl⟩
    · refine ⟨a, p1, f1, p1, f1, a, upd cp bc (nI 64), upd mp bm (nI 64), mn, cg, hp1, hf1, by omega, hz1, ?_, e7, ?_, fun _ => ⟨64, hq, by omega, rfl, pk_us, fun j hj => pk_un hj, Or.inl ⟨rfl, rfl⟩⟩⟩
      · unfold f_X0_goOn
        simp (disch := omega) only [lit, pk_mul, nI_add, ni_sub, ni_div, ni_rem, ni_cl, ni_pred, nmod, ↓reduceIte, ile_t, ile_f, ilt_t, ilt_f, ieq_t, ieq_f, if_true_n, if_false_n, gi_n, nm_n, jn_n, bd1_n, bd2_n, bd3_n, bd4_n, bd5_n, bd6_n, e4, ea, eb, num0, Nat.add_zero]
      · unfold f_X7_take f_X7_ends
        simp (disch := omega) only [lit, pk_mul, nI_add, ni_sub, ni_div, ni_rem, ni_cl, ni_pred, nmod, ↓reduceIte, ile_t, ile_f, ilt_t, ilt_f, ieq_t, ieq_f, if_true_n, if_false_n, gi_n, nm_n, jn_n, bd1_n, bd2_n, bd3_n, bd4_n, bd5_n, bd6_n]
    · refine ⟨2, p1, f1, p2, f2, 2 + v, upd cp bc (nI 64), upd mp bm (nI 64), mn, cg, hp2, hf2, by omega, fun h9 => ?_, ?_, e7, ?_, fun _ => ⟨64, hq, by omega, rfl, pk_us, fun j hj => pk_un hj, Or.inl ⟨rfl, rfl⟩⟩⟩
      · have a1 := hz1 h9
        have a2 := hz2 (by omega)
        omega
      · unfold f_X0_goOn
        simp (disch := omega) only [lit, pk_mul, nI_add, ni_sub, ni_div, ni_rem, ni_cl, ni_pred, nmod, ↓reduceIte, ile_t, ile_f, ilt_t, ilt_f, ieq_t, ieq_f, if_true_n, if_false_n, gi_n, nm_n, jn_n, bd1_n, bd2_n, bd3_n, bd4_n, bd5_n, bd6_n, e4, ea, eb, e42]
      · unfold f_X7_take f_X7_ends
        simp (disch := omega) only [lit, pk_mul, nI_add, ni_sub, ni_div, ni_rem, ni_cl, ni_pred, nmod, ↓reduceIte, ile_t, ile_f, ilt_t, ilt_f, ieq_t, ieq_f, if_true_n, if_false_n, gi_n, nm_n, jn_n, bd1_n, bd2_n, bd3_n, bd4_n, bd5_n, bd6_n, e72]
    · refine ⟨3, p1, f1, p2, f2, 6 + v, upd cp bc (nI 64), upd mp bm (nI 64), mn, cg, hp2, hf2, by omega, fun h9 => ?_, ?_, e7, ?_, fun _ => ⟨64, hq, by omega, rfl, pk_us, fun j hj => pk_un hj, Or.inl ⟨rfl, rfl⟩⟩⟩
      · have a1 := hz1 h9
        have a2 := hz2 (by omega)
        omega
      · unfold f_X0_goOn
        simp (disch := omega) only [lit, pk_mul, nI_add, ni_sub, ni_div, ni_rem, ni_cl, ni_pred, nmod, ↓reduceIte, ile_t, ile_f, ilt_t, ilt_f, ieq_t, ieq_f, if_true_n, if_false_n, gi_n, nm_n, jn_n, bd1_n, bd2_n, bd3_n, bd4_n, bd5_n, bd6_n, e4, ea, eb, e42]
      · unfold f_X7_take f_X7_ends
        simp (disch := omega) only [lit, pk_mul, nI_add, ni_sub, ni_div, ni_rem, ni_cl, ni_pred, nmod, ↓reduceIte, ile_t, ile_f, ilt_t, ilt_f, ieq_t, ieq_f, if_true_n, if_false_n, gi_n, nm_n, jn_n, bd1_n, bd2_n, bd3_n, bd4_n, bd5_n, bd6_n, e72]
    · refine ⟨4, p1, f1, p2, f2, 14 + v, upd cp bc (nI 64), upd mp bm (nI 64), mn, cg, hp2, hf2, by omega, fun h9 => ?_, ?_, e7, ?_, fun _ => ⟨64, hq, by omega, rfl, pk_us, fun j hj => pk_un hj, Or.inl ⟨rfl, rfl⟩⟩⟩
      · have a1 := hz1 h9
        have a2 := hz2 (by omega)
        omega
      · unfold f_X0_goOn
        simp (disch := omega) only [lit, pk_mul, nI_add, ni_sub, ni_div, ni_rem, ni_cl, ni_pred, nmod, ↓reduceIte, ile_t, ile_f, ilt_t, ilt_f, ieq_t, ieq_f, if_true_n, if_false_n, gi_n, nm_n, jn_n, bd1_n, bd2_n, bd3_n, bd4_n, bd5_n, bd6_n, e4, ea, eb, e42]
      · unfold f_X7_take f_X7_ends
        simp (disch := omega) only [lit, pk_mul, nI_add, ni_sub, ni_div, ni_rem, ni_cl, ni_pred, nmod, ↓reduceIte, ile_t, ile_f, ilt_t, ilt_f, ieq_t, ieq_f, if_true_n, if_false_n, gi_n, nm_n, jn_n, bd1_n, bd2_n, bd3_n, bd4_n, bd5_n, bd6_n, e72]
  · obtain ⟨p2, f2, d2, cp2, mp2, mn2, cg2, hp2, hf2, hz2, k4, k7, hd2, hE⟩ := tok_sim (d := 0) (cg := cg) (mn := mn) t (by omega) ht hs hp1 hf1 hbc hbm hq h1 h2
    obtain rfl : d2 = 0 := by omega
    refine ⟨t, p1, f1, p2, f2, 0, cp2, mp2, mn2, cg2, hp2, hf2, by omega, fun h9 => ?_, ?_, e7, k7, fun h9 => ?_⟩
    · have a1 := hz1 h9
      have a2 := hz2 (by omega)
      omega
    · unfold f_X0_goOn
      simp (disch := omega) only [lit, pk_mul, nI_add, ni_sub, ni_div, ni_rem, ni_cl, ni_pred, nmod, ↓reduceIte, ile_t, ile_f, ilt_t, ilt_f, ieq_t, ieq_f, if_true_n, if_false_n, gi_n, nm_n, jn_n, bd1_n, bd2_n, bd3_n, bd4_n, bd5_n, bd6_n, e4, k4]
    · obtain ⟨⟨q', a1, a2, a3, a4, a5, -, a7⟩, -⟩ := hE h9
      exact ⟨q', a1, a2, a3, a4, a5, a7⟩
theorem goD {sz p f bc d : Nat} {B br cp : Nat → Int32} {cg : Nat → Nat → Int32} {root : Int32} (hbc : bc < 36) (hd0 : 0 < d) (hd : d ≤ 300) : f_X0_goOn (nI bc) (nI d) cp cg (nI sz) (nI p) (nI f) B root br = some (nI (d - 1), upd cp bc (nI 64), cg, nI p, nI f) := by
  unfold f_X0_goOn
  simp (disch := omega) only [lit, pk_mul, nI_add, ni_sub, ni_div, ni_rem, ni_cl, ni_pred, nmod, ↓reduceIte, ile_t, ile_f, ilt_t, ilt_f, ieq_t, ieq_f, if_true_n, if_false_n, gi_n, nm_n, jn_n, bd1_n, bd2_n, bd3_n, bd4_n, bd5_n, bd6_n]
theorem L126_eq {a0 : Int32} {a1 : Nat → Int32} {a2 : Int32} {a3 a4 : Nat → Int32} {a5 a6 : Int32} : ∀ (n : Nat) (b0 : Int32) (b1 : Nat → Int32) (b2 : Nat → Nat → Int32) (b3 b4 b5 : Int32), f_X0_readTokens_L80_126 a0 a1 a2 a3 a4 a5 a6 n b0 b1 b2 b3 b4 b5 = f_X0_readTokens_L80 a0 a1 a2 a3 a4 a5 a6 n b0 b1 b2 b3 b4 b5
  | 0, b0, b1, b2, b3, b4, b5 => rfl
  | n + 1, b0, b1, b2, b3, b4, b5 => by
    have ih := L126_eq (a0 := a0) (a1 := a1) (a2 := a2) (a3 := a3) (a4 := a4) (a5 := a5) (a6 := a6) n
    rw [f_X0_readTokens_L80_126, f_X0_readTokens_L80]
    simp only [ih]
/-- behind a fault the class only counts on -/
theorem cin_fault {w h sz p f hi pl wt : Nat} {B ho mo br sd rt : Nat → Int32} {root : Int32} (hw : w < 7) (hh : h < 7) (hO : orOk w h ho mo) (hs : sz ≤ 6000) (hp : p ≤ 8 * sz) (hf : f ≤ 6) (hf0 : f ≠ 0) (hpl : pl < 64) (hwt : wt < 2) (hT : trT wt hi br sd rt root) : ∀ (r i n d : Nat) (cp : Nat → Int32) (cg : Nat → Nat → Int32), r + i = w * h → r < n → d ≤ 300 → ∃ (d' : Nat) (cp' : Nat → Int32) (cg' : Nat → Nat → Int32), f_X0_readTokens_L80 (nI sz) B root br ho (nI (w * h)) (nI pl) n (nI d) cp cg (nI p) (nI f) (nI i) = some (nI d', cp', cg', nI p, nI f)
  | 0, i, n, d, cp, cg, hi, hn, hd => by
    have hle := wh_le hw hh
    obtain ⟨n, rfl⟩ : ∃ j, n = j + 1 := ⟨n - 1, by omega⟩
    refine ⟨d, cp, cg, ?_⟩
    rw [f_X0_readTokens_L80]
    simp (disch := omega) only [lit, pk_mul, nI_add, ni_sub, ni_div, ni_rem, ni_cl, ni_pred, nmod, ↓reduceIte, ile_t, ile_f, ilt_t, ilt_f, ieq_t, ieq_f, if_true_n, if_false_n, gi_n, nm_n, jn_n, bd1_n, bd2_n, bd3_n, bd4_n, bd5_n, bd6_n]
  | r + 1, i, n, d, cp, cg, hi, hn, hd => by
    have hle := wh_le hw hh
    obtain ⟨n, rfl⟩ : ∃ j, n = j + 1 := ⟨n - 1, by omega⟩
    obtain ⟨-, -, hkc, -⟩ := ord_in hw hh (show i < w * h by omega)
    by_cases c : cp (kc w h i) = nI pl
    · by_cases c0 : d = 0
      · subst c0
        obtain ⟨t, p1, f1, p2, f2, d2, cp2, mp2, mn2, cg2, hp2, hf2, hd2, hz2, k4, -, -, -⟩ := go0 (bm := 0) (mp := fun _ => nI pl) (mn := fun _ => nI 0) (B := B) (cg := cg) hs hp hf (show kc w h i < 36 by omega) (by omega) hpl c rfl hwt hT
        obtain ⟨rfl, rfl⟩ := hz2 hf0
        obtain ⟨d', cp', cg', e⟩ := cin_fault (B := B) hw hh hO hs hp hf hf0 hpl hwt hT r (i + 1) n d2 cp2 cg2 (by omega) (by omega) hd2
        refine ⟨d', cp', cg', ?_⟩
        rw [f_X0_readTokens_L80]
        simp (disch := omega) only [lit, pk_mul, nI_add, ni_sub, ni_div, ni_rem, ni_cl, ni_pred, nmod, ↓reduceIte, ile_t, ile_f, ilt_t, ilt_f, ieq_t, ieq_f, if_true_n, if_false_n, gi_n, nm_n, jn_n, bd1_n, bd2_n, bd3_n, bd4_n, bd5_n, bd6_n, ordered_n hO, c, k4, e]
      · obtain ⟨d', cp', cg', e⟩ := cin_fault (B := B) hw hh hO hs hp hf hf0 hpl hwt hT r (i + 1) n (d - 1) (upd cp (kc w h i) (nI 64)) cg (by omega) (by omega) (by omega)
        refine ⟨d', cp', cg', ?_⟩
        rw [f_X0_readTokens_L80]
        simp (disch := omega) only [lit, pk_mul, nI_add, ni_sub, ni_div, ni_rem, ni_cl, ni_pred, nmod, ↓reduceIte, ile_t, ile_f, ilt_t, ilt_f, ieq_t, ieq_f, if_true_n, if_false_n, gi_n, nm_n, jn_n, bd1_n, bd2_n, bd3_n, bd4_n, bd5_n, bd6_n, ordered_n hO, c, goD, e]
    · obtain ⟨d', cp', cg', e⟩ := cin_fault (B := B) hw hh hO hs hp hf hf0 hpl hwt hT r (i + 1) n d cp cg (by omega) (by omega) hd
      refine ⟨d', cp', cg', ?_⟩
      rw [f_X0_readTokens_L80]
      simp (disch := omega) only [lit, pk_mul, nI_add, ni_sub, ni_div, ni_rem, ni_cl, ni_pred, nmod, ↓reduceIte, ile_t, ile_f, ilt_t, ilt_f, ieq_t, ieq_f, if_true_n, if_false_n, gi_n, nm_n, jn_n, bd1_n, bd2_n, bd3_n, bd4_n, bd5_n, bd6_n, ordered_n hO, c, e]
/-- .. and the reference -/
theorem min_fault {w h sz p f hi pl wt : Nat} {B ho mo mm br sd rt : Nat → Int32} {root : Int32} (hw : w < 7) (hh : h < 7) (hO : orOk w h ho mo) (hs : sz ≤ 6000) (hp : p ≤ 8 * sz) (hf : f ≤ 6) (hf0 : f ≠ 0) (hpl : pl < 64) (hwt : wt < 2) (hwp : (pl = 0 ∧ wt = 0) ∨ (pl ≠ 0 ∧ wt = 1)) (hT : trT wt hi br sd rt root) : ∀ (r i n d : Nat) (mp mn : Nat → Int32), r + i = w * h → r < n → d ≤ 300 → ∃ (d' : Nat) (mp' mn' : Nat → Int32), d' ≤ 300 ∧ f_X7_readTokens_L58 (nI sz) (nI (w * h)) B sd rt mo mm (nI pl) n (nI p) (nI f) (nI d) mp mn (nI i) = some (nI p, nI f, nI d', mp', mn')
  | 0, i, n, d, mp, mn, hi, hn, hd => by
    have hle := wh_le hw hh
    obtain ⟨n, rfl⟩ : ∃ j, n = j + 1 := ⟨n - 1, by omega⟩
    refine ⟨d, mp, mn, hd, ?_⟩
    rw [f_X7_readTokens_L58]
    simp (disch := omega) only [lit, pk_mul, nI_add, ni_sub, ni_div, ni_rem, ni_cl, ni_pred, nmod, ↓reduceIte, ile_t, ile_f, ilt_t, ilt_f, ieq_t, ieq_f, if_true_n, if_false_n, gi_n, nm_n, jn_n, bd1_n, bd2_n, bd3_n, bd4_n, bd5_n, bd6_n]
  | r + 1, i, n, d, mp, mn, hi, hn, hd => by
    have hle := wh_le hw hh
    obtain ⟨n, rfl⟩ : ∃ j, n = j + 1 := ⟨n - 1, by omega⟩
    have hi9 : i < w * h := by omega
    obtain ⟨-, -, -, hkm⟩ := ord_in hw hh hi9
    have ho9 := (hO i hi9).2
    by_cases c1 : mm (km w h i) ≤ nI 0
    · obtain ⟨d', mp', mn', hd', e⟩ := min_fault (B := B) (mm := mm) hw hh hO hs hp hf hf0 hpl hwt hwp hT r (i + 1) n d mp mn (by omega) (by omega) hd
      refine ⟨d', mp', mn', hd', ?_⟩
      rw [f_X7_readTokens_L58]
      simp (disch := omega) only [lit, pk_mul, nI_add, ni_sub, ni_div, ni_rem, ni_cl, ni_pred, nmod, ↓reduceIte, ile_t, ile_f, ilt_t, ilt_f, ieq_t, ieq_f, if_true_n, if_false_n, gi_n, ↓nm_n, ↓jn_n, bd1_n, bd2_n, bd3_n, bd4_n, bd5_n, bd6_n, ho9, c1, e]
    by_cases c : mp (km w h i) = nI pl
    · by_cases c0 : d = 0
      · subst c0
        obtain ⟨t, p1, f1, p2, f2, d2, cp2, mp2, mn2, cg2, hp2, hf2, hd2, hz2, -, k7, k8, -⟩ := go0 (bc := 0) (cp := fun _ => nI pl) (cg := fun _ _ => nI 0) (B := B) (mn := mn) hs hp hf (by omega) hkm hpl rfl c hwt hT
        obtain ⟨rfl, rfl⟩ := hz2 hf0
        obtain ⟨d', mp', mn', hd', e⟩ := min_fault (B := B) (mm := mm) hw hh hO hs hp hf hf0 hpl hwt hwp hT r (i + 1) n d2 mp2 mn2 (by omega) (by omega) hd2
        refine ⟨d', mp', mn', hd', ?_⟩
        rw [f_X7_readTokens_L58]
        rcases hwp with ⟨rfl, rfl⟩ | ⟨hpl0, rfl⟩
        · simp (disch := omega) only [lit, pk_mul, nI_add, ni_sub, ni_div, ni_rem, ni_cl, ni_pred, nmod, ↓reduceIte, ile_t, ile_f, ilt_t, ilt_f, ieq_t, ieq_f, if_true_n, if_false_n, gi_n, ↓nm_n, ↓jn_n, bd1_n, bd2_n, bd3_n, bd4_n, bd5_n, bd6_n, ho9, c1, c, ↓bd3_e k7, ↓bd5_e k8, e]
        · simp (disch := omega) only [lit, pk_mul, nI_add, ni_sub, ni_div, ni_rem, ni_cl, ni_pred, nmod, ↓reduceIte, ile_t, ile_f, ilt_t, ilt_f, ieq_t, ieq_f, if_true_n, if_false_n, gi_n, ↓nm_n, ↓jn_n, bd1_n, bd2_n, bd3_n, bd4_n, bd5_n, bd6_n, ho9, c1, c, ↓bd3_e k7, ↓bd5_e k8, e]
      · obtain ⟨d', mp', mn', hd', e⟩ := min_fault (B := B) (mm := mm) hw hh hO hs hp hf hf0 hpl hwt hwp hT r (i + 1) n (d - 1) (upd mp (km w h i) (nI 64)) mn (by omega) (by omega) (by omega)
        refine ⟨d', mp', mn', hd', ?_⟩
        rw [f_X7_readTokens_L58]
        simp (disch := omega) only [lit, pk_mul, nI_add, ni_sub, ni_div, ni_rem, ni_cl, ni_pred, nmod, ↓reduceIte, ile_t, ile_f, ilt_t, ilt_f, ieq_t, ieq_f, if_true_n, if_false_n, gi_n, ↓nm_n, ↓jn_n, bd1_n, bd2_n, bd3_n, bd4_n, bd5_n, bd6_n, ho9, c1, c, e]
    · obtain ⟨d', mp', mn', hd', e⟩ := min_fault (B := B) (mm := mm) hw hh hO hs hp hf hf0 hpl hwt hwp hT r (i + 1) n d mp mn (by omega) (by omega) hd
      refine ⟨d', mp', mn', hd', ?_⟩
      rw [f_X7_readTokens_L58]
      simp (disch := omega) only [lit, pk_mul, nI_add, ni_sub, ni_div, ni_rem, ni_cl, ni_pred, nmod, ↓reduceIte, ile_t, ile_f, ilt_t, ilt_f, ieq_t, ieq_f, if_true_n, if_false_n, gi_n, ↓nm_n, ↓jn_n, bd1_n, bd2_n, bd3_n, bd4_n, bd5_n, bd6_n, ho9, c1, c, e]
