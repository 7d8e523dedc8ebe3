/-! The pure side, 12: the tokens of a frame are read by both alike. -/
theorem updM_s {M : Nat → Nat → Int32} {b k : Nat} {x : Int32} : updM M b k x b k = x := by
  unfold updM updR
  rw [if_pos rfl, pk_us]
theorem updM_k {M : Nat → Nat → Int32} {b k j : Nat} {x : Int32} (h : j ≠ k) : updM M b k x b j = M b j := by
  unfold updM updR
  rw [if_pos rfl, pk_un h]
theorem updM_n {M : Nat → Nat → Int32} {b k c j : Nat} {x : Int32} (h : c ≠ b) : updM M b k x c j = M c j := by
  unfold updM updR
  rw [if_neg h]
/-- the modes are alike (as far as tokens ask) -/
def MO (w h : Nat) (cm mm : Nat → Int32) : Prop := ∀ k, k < w * h → ∃ u : Nat, u ≤ 4 ∧ cm (kc w h k) = nI u ∧ mm (km w h k) = nI u
/-- places and numbers are alike -/
def TK (w h : Nat) (cm cp : Nat → Int32) (cg : Nat → Nat → Int32) (mp mn : Nat → Int32) : Prop := ∀ k, k < w * h → (cm (kc w h k) ≠ nI 0 → ∃ q : Nat, q ≤ 64 ∧ cp (kc w h k) = nI q ∧ mp (km w h k) = nI q) ∧ (cm (kc w h k) = nI 0 → cp (kc w h k) = nI 64 ∧ ∀ u, u < 64 → cg (kc w h k) u = nI 0) ∧ ∀ u, u < 64 → cg (kc w h k) u = mn (64 * km w h k + u) ∧ sm 612 (cg (kc w h k) u)
theorem tk_step {w h i q : Nat} {cm cp : Nat → Int32} {cg : Nat → Nat → Int32} {mp mn cp' mp' mn' : Nat → Int32} {cg' : Nat → Nat → Int32} (hw : w < 7) (hh : h < 7) (hi : i < w * h) (h0 : TK w h cm cp cg mp mn) (hc : cm (kc w h i) ≠ nI 0) (hG : GE (kc w h i) (km w h i) q cp mp cg mn cp' mp' cg' mn') : TK w h cm cp' cg' mp' mn' := by
  obtain ⟨q', g1, g2, g3, g4, g5, g6⟩ := hG
  intro k hk
  obtain ⟨a1, a2, a3⟩ := h0 k hk
  by_cases c : k = i
  · subst c
    refine ⟨fun _ => ⟨q', g2, by rw [g3, pk_us], g4⟩, fun h9 => absurd h9 hc, fun u hu => ?_⟩
    rcases g6 with ⟨rfl, rfl⟩ | ⟨u9, v, hu9, hv, rfl, rfl⟩
    · exact a3 u hu
    · by_cases c2 : u = u9
      · subst c2
        rw [updM_s, pk_us]
        exact ⟨rfl, hv⟩
      · rw [updM_k c2, pk_un (by omega)]
        exact a3 u hu
  · have n1 : kc w h k ≠ kc w h i := fun e => c (ord_kc hw hh hk hi e)
    have n2 : km w h k ≠ km w h i := fun e => c (ord_km hw hh hk hi e)
    rw [g3, pk_un n1, g5 _ n2]
    rcases g6 with ⟨rfl, rfl⟩ | ⟨u9, v, hu9, hv, rfl, rfl⟩
    · exact ⟨a1, a2, a3⟩
    · refine ⟨a1, fun h9 => ⟨(a2 h9).1, fun u hu => ?_⟩, fun u hu => ?_⟩
      · rw [updM_n n1]
        exact (a2 h9).2 u hu
      · rw [updM_n n1, pk_un (by omega)]
        exact a3 u hu
theorem tokin {w h sz hi pl wt : Nat} {B ho mo cm mm br sd rt : Nat → Int32} {root : Int32} (hw : w < 7) (hh : h < 7) (hO : orOk w h ho mo) (hs : sz ≤ 6000) (hM : MO w h cm mm) (hpl : pl < 64) (hwt : wt < 2) (hwp : (pl = 0 ∧ wt = 0) ∨ (pl ≠ 0 ∧ wt = 1)) (hT : trT wt hi br sd rt root) : ∀ (r i n m d p : Nat) (cp : Nat → Int32) (cg : Nat → Nat → Int32) (mp mn : Nat → Int32), r + i = w * h → p ≤ 8 * sz → r < n → r < m → d ≤ 300 → TK w h cm cp cg mp mn →
    ∃ (p' f' d' e' : Nat) (cp' : Nat → Int32) (cg' : Nat → Nat → Int32) (mp' mn' : Nat → Int32), p' ≤ 8 * sz ∧ f' ≤ 6 ∧ e' ≤ 300 ∧ f_X0_readTokens_L80 (nI sz) B root br ho (nI (w * h)) (nI pl) n (nI d) cp cg (nI p) (nI 0) (nI i) = some (nI d', cp', cg', nI p', nI f') ∧ f_X7_readTokens_L58 (nI sz) (nI (w * h)) B sd rt mo mm (nI pl) m (nI p) (nI 0) (nI d) mp mn (nI i) = some (nI p', nI f', nI e', mp', mn') ∧ (f' = 0 → d' = e' ∧ TK w h cm cp' cg' mp' mn')
  | 0, i, n, m, d, p, cp, cg, mp, mn, hi, hp, hn, hm, hd, hK => by
    have hle := wh_le hw hh
    obtain ⟨n, rfl⟩ : ∃ j, n = j + 1 := ⟨n - 1, by omega⟩
    obtain ⟨m, rfl⟩ : ∃ j, m = j + 1 := ⟨m - 1, by omega⟩
    refine ⟨p, 0, d, d, cp, cg, mp, mn, hp, by omega, hd, ?_, ?_, fun _ => ⟨rfl, hK⟩⟩
    · rw [f_X0_readTokens_L80]; simp (disch := omega) only [lit, pk_mul, nI_add, ni_sub, ni_div, ni_rem, ni_cl, ni_pred, nmod, ↓reduceIte, ile_t, ile_f, ilt_t, ilt_f, ieq_t, ieq_f, if_true_n, if_false_n, gi_n, nm_n, jn_n, bd1_n, bd2_n, bd3_n, bd4_n, bd5_n, bd6_n]
    · rw [f_X7_readTokens_L58]; simp (disch := omega) only [lit, pk_mul, nI_add, ni_sub, ni_div, ni_rem, ni_cl, ni_pred, nmod, ↓reduceIte, ile_t, ile_f, ilt_t, ilt_f, ieq_t, ieq_f, if_true_n, if_false_n, gi_n, nm_n, jn_n, bd1_n, bd2_n, bd3_n, bd4_n, bd5_n, bd6_n]
  | r + 1, i, n, m, d, p, cp, cg, mp, mn, hi, hp, hn, hm, hd, hK => by
    have hle := wh_le hw hh
    obtain ⟨n, rfl⟩ : ∃ j, n = j + 1 := ⟨n - 1, by omega⟩
    obtain ⟨m, rfl⟩ : ∃ j, m = j + 1 := ⟨m - 1, by omega⟩
    have hi9 : i < w * h := by omega
    obtain ⟨-, -, hkc, hkm⟩ := ord_in hw hh hi9
    have ho9 := (hO i hi9).2
    obtain ⟨u, hu, m1, m2⟩ := hM i hi9
    obtain ⟨a1, a2, a3⟩ := hK i hi9
    by_cases cu : u = 0
    · subst cu
      have c4 : cp (kc w h i) = nI 64 := (a2 m1).1
      obtain ⟨p', f', d', e', cp', cg', mp', mn', x1, x2, x3, x4, x5, x6⟩ := tokin (B := B) hw hh hO hs hM hpl hwt hwp hT r (i + 1) n m d p cp cg mp mn (by omega) hp (by omega) (by omega) hd hK
      refine ⟨p', f', d', e', cp', cg', mp', mn', x1, x2, x3, ?_, ?_, x6⟩
      · rw [f_X0_readTokens_L80]
        simp (disch := omega) only [lit, pk_mul, nI_add, ni_sub, ni_div, ni_rem, ni_cl, ni_pred, nmod, ↓reduceIte, ile_t, ile_f, ilt_t, ilt_f, ieq_t, ieq_f, if_true_n, if_false_n, gi_n, ↓nm_n, ↓jn_n, bd1_n, bd2_n, bd3_n, bd4_n, bd5_n, bd6_n, ordered_n hO, c4, x4]
      · rw [f_X7_readTokens_L58]
        simp (disch := omega) only [lit, pk_mul, nI_add, ni_sub, ni_div, ni_rem, ni_cl, ni_pred, nmod, ↓reduceIte, ile_t, ile_f, ilt_t, ilt_f, ieq_t, ieq_f, if_true_n, if_false_n, gi_n, ↓nm_n, ↓jn_n, bd1_n, bd2_n, bd3_n, bd4_n, bd5_n, bd6_n, ho9, m2, x5]
    have hcod : cm (kc w h i) ≠ nI 0 := fun e => cu ((nI_eq (by omega) (by omega)).mp (m1.symm.trans e))
    obtain ⟨q, hq, q1, q2⟩ := a1 hcod
    by_cases cq : q = pl
    · subst cq
      by_cases c0 : d = 0
      · subst c0
        obtain ⟨t, p1, f1, p2, f2, d2, cp2, mp2, mn2, cg2, hp2, hf2, hd2, hz2, k4, k7, k8, hG⟩ := go0 (B := B) (mn := mn) (cg := cg) hs hp (show 0 ≤ 6 by omega) (show kc w h i < 36 by omega) hkm hpl q1 q2 hwt hT
        by_cases cf : f2 = 0
        · subst cf
          obtain ⟨p', f', d', e', cp', cg', mp', mn', x1, x2, x3, x4, x5, x6⟩ := tokin (B := B) hw hh hO hs hM hpl hwt hwp hT r (i + 1) n m d2 p2 cp2 cg2 mp2 mn2 (by omega) hp2 (by omega) (by omega) hd2 (tk_step hw hh hi9 hK hcod (hG rfl))
          refine ⟨p', f', d', e', cp', cg', mp', mn', x1, x2, x3, ?_, ?_, x6⟩
          · rw [f_X0_readTokens_L80]
            simp (disch := omega) only [lit, pk_mul, nI_add, ni_sub, ni_div, ni_rem, ni_cl, ni_pred, nmod, ↓reduceIte, ile_t, ile_f, ilt_t, ilt_f, ieq_t, ieq_f, if_true_n, if_false_n, gi_n, ↓nm_n, ↓jn_n, bd1_n, bd2_n, bd3_n, bd4_n, bd5_n, bd6_n, ordered_n hO, q1, ↓bd5_e k4, x4]
          · rw [f_X7_readTokens_L58]
            rcases hwp with ⟨hq0, rfl⟩ | ⟨hpl0, rfl⟩
            · subst hq0
              simp (disch := omega) only [lit, pk_mul, nI_add, ni_sub, ni_div, ni_rem, ni_cl, ni_pred, nmod, ↓reduceIte, ile_t, ile_f, ilt_t, ilt_f, ieq_t, ieq_f, if_true_n, if_false_n, gi_n, ↓nm_n, ↓jn_n, bd1_n, bd2_n, bd3_n, bd4_n, bd5_n, bd6_n, ho9, m2, q2, ↓bd3_e k7, ↓bd5_e k8, x5]
            · simp (disch := omega) only [lit, pk_mul, nI_add, ni_sub, ni_div, ni_rem, ni_cl, ni_pred, nmod, ↓reduceIte, ile_t, ile_f, ilt_t, ilt_f, ieq_t, ieq_f, if_true_n, if_false_n, gi_n, ↓nm_n, ↓jn_n, bd1_n, bd2_n, bd3_n, bd4_n, bd5_n, bd6_n, ho9, m2, q2, ↓bd3_e k7, ↓bd5_e k8, x5]
        · obtain ⟨d', cp', cg', x4⟩ := cin_fault (B := B) hw hh hO hs hp2 hf2 cf hpl hwt hT r (i + 1) n d2 cp2 cg2 (by omega) (by omega) hd2
          obtain ⟨e', mp', mn', he', x5⟩ := min_fault (B := B) (mm := mm) hw hh hO hs hp2 hf2 cf hpl hwt hwp hT r (i + 1) m d2 mp2 mn2 (by omega) (by omega) hd2
          refine ⟨p2, f2, d', e', cp', cg', mp', mn', hp2, hf2, he', ?_, ?_, fun h9 => absurd h9 cf⟩
          · rw [f_X0_readTokens_L80]
            simp (disch := omega) only [lit, pk_mul, nI_add, ni_sub, ni_div, ni_rem, ni_cl, ni_pred, nmod, ↓reduceIte, ile_t, ile_f, ilt_t, ilt_f, ieq_t, ieq_f, if_true_n, if_false_n, gi_n, ↓nm_n, ↓jn_n, bd1_n, bd2_n, bd3_n, bd4_n, bd5_n, bd6_n, ordered_n hO, q1, ↓bd5_e k4, x4]
          · rw [f_X7_readTokens_L58]
            rcases hwp with ⟨hq0, rfl⟩ | ⟨hpl0, rfl⟩
            · subst hq0
              simp (disch := omega) only [lit, pk_mul, nI_add, ni_sub, ni_div, ni_rem, ni_cl, ni_pred, nmod, ↓reduceIte, ile_t, ile_f, ilt_t, ilt_f, ieq_t, ieq_f, if_true_n, if_false_n, gi_n, ↓nm_n, ↓jn_n, bd1_n, bd2_n, bd3_n, bd4_n, bd5_n, bd6_n, ho9, m2, q2, ↓bd3_e k7, ↓bd5_e k8, x5]
            · simp (disch := omega) only [lit, pk_mul, nI_add, ni_sub, ni_div, ni_rem, ni_cl, ni_pred, nmod, ↓reduceIte, ile_t, ile_f, ilt_t, ilt_f, ieq_t, ieq_f, if_true_n, if_false_n, gi_n, ↓nm_n, ↓jn_n, bd1_n, bd2_n, bd3_n, bd4_n, bd5_n, bd6_n, ho9, m2, q2, ↓bd3_e k7, ↓bd5_e k8, x5]
      · obtain ⟨p', f', d', e', cp', cg', mp', mn', x1, x2, x3, x4, x5, x6⟩ := tokin (B := B) hw hh hO hs hM hpl hwt hwp hT r (i + 1) n m (d - 1) p (upd cp (kc w h i) (nI 64)) cg (upd mp (km w h i) (nI 64)) mn (by omega) hp (by omega) (by omega) (by omega) (tk_step (q := q) hw hh hi9 hK hcod ⟨64, by omega, by omega, rfl, pk_us, fun j hj => pk_un hj, Or.inl ⟨rfl, rfl⟩⟩)
        refine ⟨p', f', d', e', cp', cg', mp', mn', x1, x2, x3, ?_, ?_, x6⟩
        · rw [f_X0_readTokens_L80]
          simp (disch := omega) only [lit, pk_mul, nI_add, ni_sub, ni_div, ni_rem, ni_cl, ni_pred, nmod, ↓reduceIte, ile_t, ile_f, ilt_t, ilt_f, ieq_t, ieq_f, if_true_n, if_false_n, gi_n, ↓nm_n, ↓jn_n, bd1_n, bd2_n, bd3_n, bd4_n, bd5_n, bd6_n, ordered_n hO, q1, goD, x4]
        · rw [f_X7_readTokens_L58]
          simp (disch := omega) only [lit, pk_mul, nI_add, ni_sub, ni_div, ni_rem, ni_cl, ni_pred, nmod, ↓reduceIte, ile_t, ile_f, ilt_t, ilt_f, ieq_t, ieq_f, if_true_n, if_false_n, gi_n, ↓nm_n, ↓jn_n, bd1_n, bd2_n, bd3_n, bd4_n, bd5_n, bd6_n, ho9, m2, q2, x5]
    · obtain ⟨p', f', d', e', cp', cg', mp', mn', x1, x2, x3, x4, x5, x6⟩ := tokin (B := B) hw hh hO hs hM hpl hwt hwp hT r (i + 1) n m d p cp cg mp mn (by omega) hp (by omega) (by omega) hd hK
      refine ⟨p', f', d', e', cp', cg', mp', mn', x1, x2, x3, ?_, ?_, x6⟩
      · rw [f_X0_readTokens_L80]
        simp (disch := omega) only [lit, pk_mul, nI_add, ni_sub, ni_div, ni_rem, ni_cl, ni_pred, nmod, ↓reduceIte, ile_t, ile_f, ilt_t, ilt_f, ieq_t, ieq_f, if_true_n, if_false_n, gi_n, ↓nm_n, ↓jn_n, bd1_n, bd2_n, bd3_n, bd4_n, bd5_n, bd6_n, ordered_n hO, q1, x4]
      · rw [f_X7_readTokens_L58]
        simp (disch := omega) only [lit, pk_mul, nI_add, ni_sub, ni_div, ni_rem, ni_cl, ni_pred, nmod, ↓reduceIte, ile_t, ile_f, ilt_t, ilt_f, ieq_t, ieq_f, if_true_n, if_false_n, gi_n, ↓nm_n, ↓jn_n, bd1_n, bd2_n, bd3_n, bd4_n, bd5_n, bd6_n, ho9, m2, q2, x5]
theorem mout_fault {w h sz p f hi1 hi2 : Nat} {B ho mo mm b1 b2 sd rt : Nat → Int32} {r1 r2 : Int32} (hw : w < 7) (hh : h < 7) (hO : orOk w h ho mo) (hs : sz ≤ 6000) (hp : p ≤ 8 * sz) (hf : f ≤ 6) (hf0 : f ≠ 0) (hT1 : trT 0 hi1 b1 sd rt r1) (hT2 : trT 1 hi2 b2 sd rt r2) : ∀ (r pl n d : Nat) (mp mn : Nat → Int32), r + pl = 64 → r < n → d ≤ 300 → ∃ (d' : Nat) (mp' mn' : Nat → Int32), f_X7_readTokens_L50 (nI sz) (nI (w * h)) B sd rt mo mm n (nI p) (nI f) (nI d) mp mn (nI pl) = some (nI p, nI f, nI d', mp', mn')
  | 0, pl, n, d, mp, mn, hi, hn, hd => by
    obtain ⟨n, rfl⟩ : ∃ j, n = j + 1 := ⟨n - 1, by omega⟩
    refine ⟨d, mp, mn, ?_⟩
    rw [f_X7_readTokens_L50]
    simp (disch := omega) only [lit, pk_mul, nI_add, ni_sub, ni_div, ni_rem, ni_cl, ni_pred, nmod, ↓reduceIte, ile_t, ile_f, ilt_t, ilt_f, ieq_t, ieq_f, if_true_n, if_false_n, gi_n, nm_n, jn_n, bd1_n, bd2_n, bd3_n, bd4_n, bd5_n, bd6_n]
  | r + 1, pl, n, d, mp, mn, hi, hn, hd => by
    have hle := wh_le hw hh
    obtain ⟨n, rfl⟩ : ∃ j, n = j + 1 := ⟨n - 1, by omega⟩
    obtain ⟨d1, mp1, mn1, hd1, e1⟩ : ∃ (d' : Nat) (mp' mn' : Nat → Int32), d' ≤ 300 ∧ f_X7_readTokens_L58 (nI sz) (nI (w * h)) B sd rt mo mm (nI pl) 4000 (nI p) (nI f) (nI d) mp mn (nI 0) = some (nI p, nI f, nI d', mp', mn') := by
      by_cases c : pl = 0
      · exact min_fault (B := B) (mm := mm) hw hh hO hs hp hf hf0 (by omega) (by omega) (Or.inl ⟨c, rfl⟩) hT1 (w * h) 0 4000 d mp mn (by omega) (by omega) hd
      · exact min_fault (B := B) (mm := mm) hw hh hO hs hp hf hf0 (by omega) (by omega) (Or.inr ⟨c, rfl⟩) hT2 (w * h) 0 4000 d mp mn (by omega) (by omega) hd
    obtain ⟨d2, mp2, mn2, e2⟩ := mout_fault (B := B) (mm := mm) hw hh hO hs hp hf hf0 hT1 hT2 r (pl + 1) n d1 mp1 mn1 (by omega) (by omega) hd1
    refine ⟨d2, mp2, mn2, ?_⟩
    rw [f_X7_readTokens_L50]
    simp (disch := omega) only [lit, pk_mul, nI_add, ni_sub, ni_div, ni_rem, ni_cl, ni_pred, nmod, ↓reduceIte, ile_t, ile_f, ilt_t, ilt_f, ieq_t, ieq_f, if_true_n, if_false_n, gi_n, nm_n, jn_n, bd1_n, bd2_n, bd3_n, bd4_n, bd5_n, bd6_n, e1, e2]
theorem tokout {w h sz hi1 hi2 : Nat} {B ho mo cm mm b1 b2 sd rt : Nat → Int32} {r1 r2 : Int32} (hw : w < 7) (hh : h < 7) (hO : orOk w h ho mo) (hs : sz ≤ 6000) (hM : MO w h cm mm) (hT1 : trT 0 hi1 b1 sd rt r1) (hT2 : trT 1 hi2 b2 sd rt r2) : ∀ (r pl n m d p : Nat) (cp : Nat → Int32) (cg : Nat → Nat → Int32) (mp mn : Nat → Int32), r + pl = 64 → p ≤ 8 * sz → r < n → r < m → d ≤ 300 → TK w h cm cp cg mp mn →
    ∃ (p' f' : Nat) (ce me : Int32) (cp' : Nat → Int32) (cg' : Nat → Nat → Int32) (mp' mn' : Nat → Int32), p' ≤ 8 * sz ∧ f' ≤ 6 ∧ f_X0_readTokens_L55 (nI sz) B r1 b1 r2 b2 ho (nI (w * h)) n (nI d) cp cg (nI p) (nI 0) (nI pl) = some (ce, cp', cg', nI p', nI f') ∧ f_X7_readTokens_L50 (nI sz) (nI (w * h)) B sd rt mo mm m (nI p) (nI 0) (nI d) mp mn (nI pl) = some (nI p', nI f', me, mp', mn') ∧ (f' = 0 → TK w h cm cp' cg' mp' mn')
  | 0, pl, n, m, d, p, cp, cg, mp, mn, hi, hp, hn, hm, hd, hK => by
    obtain ⟨n, rfl⟩ : ∃ j, n = j + 1 := ⟨n - 1, by omega⟩
    obtain ⟨m, rfl⟩ : ∃ j, m = j + 1 := ⟨m - 1, by omega⟩
    refine ⟨p, 0, nI d, nI d, cp, cg, mp, mn, hp, by omega, ?_, ?_, fun _ => hK⟩
    · rw [f_X0_readTokens_L55]; simp (disch := omega) only [lit, pk_mul, nI_add, ni_sub, ni_div, ni_rem, ni_cl, ni_pred, nmod, ↓reduceIte, ile_t, ile_f, ilt_t, ilt_f, ieq_t, ieq_f, if_true_n, if_false_n, gi_n, nm_n, jn_n, bd1_n, bd2_n, bd3_n, bd4_n, bd5_n, bd6_n]
    · rw [f_X7_readTokens_L50]; simp (disch := omega) only [lit, pk_mul, nI_add, ni_sub, ni_div, ni_rem, ni_cl, ni_pred, nmod, ↓reduceIte, ile_t, ile_f, ilt_t, ilt_f, ieq_t, ieq_f, if_true_n, if_false_n, gi_n, nm_n, jn_n, bd1_n, bd2_n, bd3_n, bd4_n, bd5_n, bd6_n]
  | r + 1, pl, n, m, d, p, cp, cg, mp, mn, hi, hp, hn, hm, hd, hK => by
    have hle := wh_le hw hh
    obtain ⟨n, rfl⟩ : ∃ j, n = j + 1 := ⟨n - 1, by omega⟩
    obtain ⟨m, rfl⟩ : ∃ j, m = j + 1 := ⟨m - 1, by omega⟩
    obtain ⟨p1, f1, d1, e1, cp1, cg1, mp1, mn1, hp1, hf1, he1, k4, k7, k9⟩ : ∃ (p' f' d' e' : Nat) (cp' : Nat → Int32) (cg' : Nat → Nat → Int32) (mp' mn' : Nat → Int32), p' ≤ 8 * sz ∧ f' ≤ 6 ∧ e' ≤ 300 ∧ (if pl = 0 then f_X0_readTokens_L80 (nI sz) B r1 b1 ho (nI (w * h)) (nI pl) 4000 (nI d) cp cg (nI p) (nI 0) (nI 0) else f_X0_readTokens_L80_126 (nI sz) B r2 b2 ho (nI (w * h)) (nI pl) 4000 (nI d) cp cg (nI p) (nI 0) (nI 0)) = some (nI d', cp', cg', nI p', nI f') ∧ f_X7_readTokens_L58 (nI sz) (nI (w * h)) B sd rt mo mm (nI pl) 4000 (nI p) (nI 0) (nI d) mp mn (nI 0) = some (nI p', nI f', nI e', mp', mn') ∧ (f' = 0 → d' = e' ∧ TK w h cm cp' cg' mp' mn') := by
      by_cases c : pl = 0
      · rw [if_pos c]
        exact tokin (B := B) hw hh hO hs hM (by omega) (by omega) (Or.inl ⟨c, rfl⟩) hT1 (w * h) 0 4000 4000 d p cp cg mp mn (by omega) hp (by omega) (by omega) hd hK
      · rw [if_neg c, L126_eq]
        exact tokin (B := B) hw hh hO hs hM (by omega) (by omega) (Or.inr ⟨c, rfl⟩) hT2 (w * h) 0 4000 4000 d p cp cg mp mn (by omega) hp (by omega) (by omega) hd hK
    by_cases cf : f1 = 0
    · subst cf
      obtain ⟨rfl, hK1⟩ := k9 rfl
      obtain ⟨p2, f2, ce, me, cp2, cg2, mp2, mn2, hp2, hf2, x4, x7, x9⟩ := tokout (B := B) hw hh hO hs hM hT1 hT2 r (pl + 1) n m d1 p1 cp1 cg1 mp1 mn1 (by omega) hp1 (by omega) (by omega) he1 hK1
      refine ⟨p2, f2, ce, me, cp2, cg2, mp2, mn2, hp2, hf2, ?_, ?_, x9⟩
      · rw [f_X0_readTokens_L55]
        by_cases c : pl = 0
        · rw [if_pos c] at k4
          subst c
          simp (disch := omega) only [lit, pk_mul, nI_add, ni_sub, ni_div, ni_rem, ni_cl, ni_pred, nmod, ↓reduceIte, ile_t, ile_f, ilt_t, ilt_f, ieq_t, ieq_f, if_true_n, if_false_n, gi_n, nm_n, jn_n, bd1_n, bd2_n, bd3_n, bd4_n, bd5_n, bd6_n, X4_sound_0, k4, x4]
        · rw [if_neg c] at k4
          simp (disch := omega) only [lit, pk_mul, nI_add, ni_sub, ni_div, ni_rem, ni_cl, ni_pred, nmod, ↓reduceIte, ile_t, ile_f, ilt_t, ilt_f, ieq_t, ieq_f, if_true_n, if_false_n, gi_n, nm_n, jn_n, bd1_n, bd2_n, bd3_n, bd4_n, bd5_n, bd6_n, X4_sound_0, k4, x4]
      · rw [f_X7_readTokens_L50]
        simp (disch := omega) only [lit, pk_mul, nI_add, ni_sub, ni_div, ni_rem, ni_cl, ni_pred, nmod, ↓reduceIte, ile_t, ile_f, ilt_t, ilt_f, ieq_t, ieq_f, if_true_n, if_false_n, gi_n, nm_n, jn_n, bd1_n, bd2_n, bd3_n, bd4_n, bd5_n, bd6_n, k7, x7]
    · obtain ⟨e2, mp2, mn2, x7⟩ := mout_fault (B := B) (mm := mm) hw hh hO hs hp1 hf1 cf hT1 hT2 r (pl + 1) m e1 mp1 mn1 (by omega) (by omega) he1
      have x4 : f_X0_readTokens_L55 (nI sz) B r1 b1 r2 b2 ho (nI (w * h)) n (nI d1) cp1 cg1 (nI p1) (nI f1) (nI (pl + 1)) = some (nI d1, cp1, cg1, nI p1, nI f1) := by
        obtain ⟨n, rfl⟩ : ∃ j, n = j + 1 := ⟨n - 1, by omega⟩
        rw [f_X0_readTokens_L55]
        by_cases c9 : 64 ≤ pl + 1
        · simp (disch := omega) only [lit, pk_mul, nI_add, ni_sub, ni_div, ni_rem, ni_cl, ni_pred, nmod, ↓reduceIte, ile_t, ile_f, ilt_t, ilt_f, ieq_t, ieq_f, if_true_n, if_false_n, gi_n, nm_n, jn_n, bd1_n, bd2_n, bd3_n, bd4_n, bd5_n, bd6_n]
        · simp (disch := omega) only [lit, pk_mul, nI_add, ni_sub, ni_div, ni_rem, ni_cl, ni_pred, nmod, ↓reduceIte, ile_t, ile_f, ilt_t, ilt_f, ieq_t, ieq_f, if_true_n, if_false_n, gi_n, nm_n, jn_n, bd1_n, bd2_n, bd3_n, bd4_n, bd5_n, bd6_n, X4_sound_1]
      refine ⟨p1, f1, nI d1, nI e2, cp1, cg1, mp2, mn2, hp1, hf1, ?_, ?_, fun h9 => absurd h9 cf⟩
      · rw [f_X0_readTokens_L55]
        by_cases c : pl = 0
        · rw [if_pos c] at k4
          subst c
          simp (disch := omega) only [lit, pk_mul, nI_add, ni_sub, ni_div, ni_rem, ni_cl, ni_pred, nmod, ↓reduceIte, ile_t, ile_f, ilt_t, ilt_f, ieq_t, ieq_f, if_true_n, if_false_n, gi_n, nm_n, jn_n, bd1_n, bd2_n, bd3_n, bd4_n, bd5_n, bd6_n, X4_sound_0, k4, x4]
        · rw [if_neg c] at k4
          simp (disch := omega) only [lit, pk_mul, nI_add, ni_sub, ni_div, ni_rem, ni_cl, ni_pred, nmod, ↓reduceIte, ile_t, ile_f, ilt_t, ilt_f, ieq_t, ieq_f, if_true_n, if_false_n, gi_n, nm_n, jn_n, bd1_n, bd2_n, bd3_n, bd4_n, bd5_n, bd6_n, X4_sound_0, k4, x4]
      · rw [f_X7_readTokens_L50]
        simp (disch := omega) only [lit, pk_mul, nI_add, ni_sub, ni_div, ni_rem, ni_cl, ni_pred, nmod, ↓reduceIte, ile_t, ile_f, ilt_t, ilt_f, ieq_t, ieq_f, if_true_n, if_false_n, gi_n, nm_n, jn_n, bd1_n, bd2_n, bd3_n, bd4_n, bd5_n, bd6_n, k7, x7]
/-! the arrays are laid out first -/
theorem cplaces {w h : Nat} {cm : Nat → Int32} (hw : w < 7) (hh : h < 7) : ∀ (r i n : Nat) (cp : Nat → Int32), r + i = w * h → r < n → ∃ cp' : Nat → Int32, f_X0_readTokens_L13 cm (nI (w * h)) n cp (nI i) = some cp' ∧ (∀ j, j < i → cp' j = cp j) ∧ (∀ j, i ≤ j → j < w * h → cp' j = (if cm j = nI 0 then nI 64 else nI 0))
  | 0, i, n, cp, hi, hn => by
    have hle := wh_le hw hh
    obtain ⟨n, rfl⟩ : ∃ j, n = j + 1 := ⟨n - 1, by omega⟩
    refine ⟨cp, ?_, fun _ _ => rfl, fun j h1 h2 => absurd h2 (by omega)⟩
    rw [f_X0_readTokens_L13]; simp (disch := omega) only [lit, pk_mul, nI_add, ni_sub, ni_div, ni_rem, ni_cl, ni_pred, nmod, ↓reduceIte, ile_t, ile_f, ilt_t, ilt_f, ieq_t, ieq_f, if_true_n, if_false_n, gi_n, nm_n, jn_n, bd1_n, bd2_n, bd3_n, bd4_n, bd5_n, bd6_n]
  | r + 1, i, n, cp, hi, hn => by
    have hle := wh_le hw hh
    obtain ⟨n, rfl⟩ : ∃ j, n = j + 1 := ⟨n - 1, by omega⟩
    obtain ⟨cp', e, h1, h2⟩ := cplaces (cm := cm) hw hh r (i + 1) n (upd cp i (if cm i = nI 0 then nI 64 else nI 0)) (by omega) (by omega)
    refine ⟨cp', ?_, fun j hj => by rw [h1 j (by omega), pk_un (by omega)], fun j hj hj2 => ?_⟩
    · rw [f_X0_readTokens_L13]
      unfold f_X0_isCoded
      by_cases c : cm i = nI 0
      · rw [if_pos c] at e
        simp (disch := omega) only [lit, pk_mul, nI_add, ni_sub, ni_div, ni_rem, ni_cl, ni_pred, nmod, ↓reduceIte, ile_t, ile_f, ilt_t, ilt_f, ieq_t, ieq_f, if_true_n, if_false_n, gi_n, nm_n, jn_n, bd1_n, bd2_n, bd3_n, bd4_n, bd5_n, bd6_n, c, e]
      · rw [if_neg c] at e
        simp (disch := omega) only [lit, pk_mul, nI_add, ni_sub, ni_div, ni_rem, ni_cl, ni_pred, nmod, ↓reduceIte, ile_t, ile_f, ilt_t, ilt_f, ieq_t, ieq_f, if_true_n, if_false_n, gi_n, nm_n, jn_n, bd1_n, bd2_n, bd3_n, bd4_n, bd5_n, bd6_n, c, e]
    · by_cases c : j = i
      · subst c
        rw [h1 j (by omega), pk_us]
      · exact h2 j (by omega) hj2
theorem mzero : ∀ (r i n : Nat) (x : Nat → Int32), r + i = 2304 → r < n → ∃ x' : Nat → Int32, f_X7_readTokens_L2 n x (nI i) = some x' ∧ (∀ j, j < i → x' j = x j) ∧ (∀ j, i ≤ j → j < 2304 → x' j = nI 0)
  | 0, i, n, x, hi, hn => by
    obtain ⟨n, rfl⟩ : ∃ j, n = j + 1 := ⟨n - 1, by omega⟩
    refine ⟨x, ?_, fun _ _ => rfl, fun j h1 h2 => absurd h2 (by omega)⟩
    rw [f_X7_readTokens_L2]; simp (disch := omega) only [lit, pk_mul, nI_add, ni_sub, ni_div, ni_rem, ni_cl, ni_pred, nmod, ↓reduceIte, ile_t, ile_f, ilt_t, ilt_f, ieq_t, ieq_f, if_true_n, if_false_n, gi_n, nm_n, jn_n, bd1_n, bd2_n, bd3_n, bd4_n, bd5_n, bd6_n]
  | r + 1, i, n, x, hi, hn => by
    obtain ⟨n, rfl⟩ : ∃ j, n = j + 1 := ⟨n - 1, by omega⟩
    obtain ⟨x', e, h1, h2⟩ := mzero r (i + 1) n (upd x i (nI 0)) (by omega) (by omega)
    refine ⟨x', ?_, fun j hj => by rw [h1 j (by omega), pk_un (by omega)], fun j hj hj2 => ?_⟩
    · rw [f_X7_readTokens_L2]
      simp (disch := omega) only [lit, pk_mul, nI_add, ni_sub, ni_div, ni_rem, ni_cl, ni_pred, nmod, ↓reduceIte, ile_t, ile_f, ilt_t, ilt_f, ieq_t, ieq_f, if_true_n, if_false_n, gi_n, nm_n, jn_n, bd1_n, bd2_n, bd3_n, bd4_n, bd5_n, bd6_n, e]
    · by_cases c : j = i
      · subst c
        rw [h1 j (by omega), pk_us]
      · exact h2 j (by omega) hj2
theorem mzero36 : ∀ (r i n : Nat) (x : Nat → Int32), r + i = 36 → r < n → ∃ x' : Nat → Int32, f_X7_readTokens_L24 n x (nI i) = some x' ∧ (∀ j, j < i → x' j = x j) ∧ (∀ j, i ≤ j → j < 36 → x' j = nI 0)
  | 0, i, n, x, hi, hn => by
    obtain ⟨n, rfl⟩ : ∃ j, n = j + 1 := ⟨n - 1, by omega⟩
    refine ⟨x, ?_, fun _ _ => rfl, fun j h1 h2 => absurd h2 (by omega)⟩
    rw [f_X7_readTokens_L24]; simp (disch := omega) only [lit, pk_mul, nI_add, ni_sub, ni_div, ni_rem, ni_cl, ni_pred, nmod, ↓reduceIte, ile_t, ile_f, ilt_t, ilt_f, ieq_t, ieq_f, if_true_n, if_false_n, gi_n, nm_n, jn_n, bd1_n, bd2_n, bd3_n, bd4_n, bd5_n, bd6_n]
  | r + 1, i, n, x, hi, hn => by
    obtain ⟨n, rfl⟩ : ∃ j, n = j + 1 := ⟨n - 1, by omega⟩
    obtain ⟨x', e, h1, h2⟩ := mzero36 r (i + 1) n (upd x i (nI 0)) (by omega) (by omega)
    refine ⟨x', ?_, fun j hj => by rw [h1 j (by omega), pk_un (by omega)], fun j hj hj2 => ?_⟩
    · rw [f_X7_readTokens_L24]
      simp (disch := omega) only [lit, pk_mul, nI_add, ni_sub, ni_div, ni_rem, ni_cl, ni_pred, nmod, ↓reduceIte, ile_t, ile_f, ilt_t, ilt_f, ieq_t, ieq_f, if_true_n, if_false_n, gi_n, nm_n, jn_n, bd1_n, bd2_n, bd3_n, bd4_n, bd5_n, bd6_n, e]
    · by_cases c : j = i
      · subst c
        rw [h1 j (by omega), pk_us]
      · exact h2 j (by omega) hj2
theorem tokens_ex {w h sz p hi1 hi2 : Nat} {B ho mo cm mm b1 b2 sd rt cp mp mn : Nat → Int32} {cg : Nat → Nat → Int32} {r1 r2 c0 m0 : Int32} (hw : w < 7) (hh : h < 7) (hO : orOk w h ho mo) (hs : sz ≤ 6000) (hM : MO w h cm mm) (hT1 : trT 0 hi1 b1 sd rt r1) (hT2 : trT 1 hi2 b2 sd rt r2) (hp : p ≤ 8 * sz) (hg : ∀ b, b < w * h → ∀ u, u < 64 → cg b u = nI 0) :
    ∃ (p' f' : Nat) (ce me : Int32) (cp' : Nat → Int32) (cg' : Nat → Nat → Int32) (mp' mn' : Nat → Int32), p' ≤ 8 * sz ∧ f' ≤ 6 ∧ f_X0_readTokens (nI w) (nI h) c0 cm cp cg (nI sz) (nI p) (nI 0) B r1 b1 r2 b2 ho = some (ce, cp', cg', nI p', nI f') ∧ f_X7_readTokens (nI sz) (nI p) (nI 0) (nI (w * h)) m0 B sd rt mo mm mp mn = some (nI p', nI f', me, mp', mn') ∧ (f' = 0 → TK w h cm cp' cg' mp' mn') := by
  have hle := wh_le hw hh
  obtain ⟨cp1, e1, -, k1⟩ := cplaces (cm := cm) hw hh (w * h) 0 4000 cp (by omega) (by omega)
  obtain ⟨mn1, e2, -, k2⟩ := mzero 2304 0 4000 mn (by omega) (by omega)
  obtain ⟨mp1, e3, -, k3⟩ := mzero36 36 0 4000 mp (by omega) (by omega)
  have hK : TK w h cm cp1 cg mp1 mn1 := by
    intro k hk
    obtain ⟨-, -, hkc, hkm⟩ := ord_in hw hh hk
    refine ⟨fun hc => ⟨0, by omega, ?_, ?_⟩, fun hc => ⟨?_, fun u hu => hg _ hkc u hu⟩, fun u hu => ⟨?_, ?_⟩⟩
    · rw [k1 _ (by omega) hkc, if_neg hc]
    · exact k3 _ (by omega) hkm
    · rw [k1 _ (by omega) hkc, if_pos hc]
    · rw [hg _ hkc u hu, k2 _ (by omega) (by omega)]
    · rw [hg _ hkc u hu]; exact sm_0
  obtain ⟨p', f', ce, me, cp', cg', mp', mn', x1, x2, x3, x4, x5⟩ := tokout (B := B) hw hh hO hs hM hT1 hT2 64 0 4000 4000 0 p cp1 cg mp1 mn1 (by omega) hp (by omega) (by omega) (by omega) hK
  refine ⟨p', f', ce, me, cp', cg', mp', mn', x1, x2, ?_, ?_, x5⟩
  · unfold f_X0_readTokens
    simp (disch := omega) only [lit, pk_mul, nI_add, ni_sub, ni_div, ni_rem, ni_cl, ni_pred, nmod, ↓reduceIte, ile_t, ile_f, ilt_t, ilt_f, ieq_t, ieq_f, if_true_n, if_false_n, gi_n, nm_n, jn_n, bd1_n, bd2_n, bd3_n, bd4_n, bd5_n, bd6_n, e1, x3]
  · unfold f_X7_readTokens
    simp (disch := omega) only [lit, pk_mul, nI_add, ni_sub, ni_div, ni_rem, ni_cl, ni_pred, nmod, ↓reduceIte, ile_t, ile_f, ilt_t, ilt_f, ieq_t, ieq_f, if_true_n, if_false_n, gi_n, nm_n, jn_n, bd1_n, bd2_n, bd3_n, bd4_n, bd5_n, bd6_n, e2, e3, x4]
theorem mtokens_fault {w h sz p f hi1 hi2 : Nat} {B ho mo mm b1 b2 sd rt mp mn : Nat → Int32} {r1 r2 m0 : Int32} (hw : w < 7) (hh : h < 7) (hO : orOk w h ho mo) (hs : sz ≤ 6000) (hT1 : trT 0 hi1 b1 sd rt r1) (hT2 : trT 1 hi2 b2 sd rt r2) (hp : p ≤ 8 * sz) (hf : f ≤ 6) (hf0 : f ≠ 0) :
    ∃ (me : Int32) (mp' mn' : Nat → Int32), f_X7_readTokens (nI sz) (nI p) (nI f) (nI (w * h)) m0 B sd rt mo mm mp mn = some (nI p, nI f, me, mp', mn') := by
  obtain ⟨mn1, e2, -, -⟩ := mzero 2304 0 4000 mn (by omega) (by omega)
  obtain ⟨mp1, e3, -, -⟩ := mzero36 36 0 4000 mp (by omega) (by omega)
  obtain ⟨d2, mp2, mn2, e4⟩ := mout_fault (B := B) (mm := mm) hw hh hO hs hp hf hf0 hT1 hT2 64 0 4000 0 mp1 mn1 (by omega) (by omega) (by omega)
  refine ⟨nI d2, mp2, mn2, ?_⟩
  unfold f_X7_readTokens
  simp (disch := omega) only [lit, pk_mul, nI_add, ni_sub, ni_div, ni_rem, ni_cl, ni_pred, nmod, ↓reduceIte, ile_t, ile_f, ilt_t, ilt_f, ieq_t, ieq_f, if_true_n, if_false_n, gi_n, nm_n, jn_n, bd1_n, bd2_n, bd3_n, bd4_n, bd5_n, bd6_n, e2, e3, e4]
