/-! The pure side, 9: modes are read by both alike. -/
def INV (w h i : Nat) (cm ca cd mm ma md : Nat → Int32) : Prop := (∀ j, j < i → MD w h cm ca cd mm ma md j) ∧ (∀ j, i ≤ j → j < w * h → FL w h cm mm j ∧ ca (kc w h j) = nI 0 ∧ cd (kc w h j) = nI 0 ∧ ma (km w h j) = nI 0 ∧ md (km w h j) = nI 0)
theorem inv_step {w h i : Nat} {cm ca cd mm ma md cm2 ca2 cd2 mm2 ma2 md2 : Nat → Int32} (h0 : INV w h i cm ca cd mm ma md) (hi : i < w * h) (hc : ∀ j, j < w * h → j ≠ i → cm2 (kc w h j) = cm (kc w h j) ∧ ca2 (kc w h j) = ca (kc w h j) ∧ cd2 (kc w h j) = cd (kc w h j) ∧ mm2 (km w h j) = mm (km w h j) ∧ ma2 (km w h j) = ma (km w h j) ∧ md2 (km w h j) = md (km w h j)) (hM : MD w h cm2 ca2 cd2 mm2 ma2 md2 i) : INV w h (i + 1) cm2 ca2 cd2 mm2 ma2 md2 := by
  refine ⟨fun j hj => ?_, fun j hj hj2 => ?_⟩
  · by_cases c : j = i
    · subst c; exact hM
    · obtain ⟨a1, a2, a3, a4, a5, a6⟩ := hc j (by omega) c
      have h1 := h0.1 j (by omega)
      unfold MD at h1 ⊢
      rw [a1, a2, a3, a4, a5, a6]
      exact h1
  · obtain ⟨a1, a2, a3, a4, a5, a6⟩ := hc j hj2 (by omega)
    have h1 := h0.2 j (by omega) hj2
    unfold FL at h1 ⊢
    rw [a1, a2, a3, a4, a5, a6]
    exact h1
theorem sm_0 {m : Nat} : sm m (nI 0) := ⟨0, by omega, Or.inl rfl⟩
theorem modes_loop {w h sz : Nat} {B ho mo : Nat → Int32} (hw : w < 7) (hh : h < 7) (hO : orOk w h ho mo) (hs : sz ≤ 6000) : ∀ (r i p f n m : Nat) (cm ca cd mm ma md : Nat → Int32) (x y : Int32), r + i = w * h → p ≤ 8 * sz → f ≤ 6 → r < n → r < m → sm 31 x → sm 31 y → INV w h i cm ca cd mm ma md →
    ∃ (p' f' : Nat) (cm' ca' cd' mm' ma' md' : Nat → Int32), p' ≤ 8 * sz ∧ f' ≤ 6 ∧ (f ≠ 0 → p' = p ∧ f' = f) ∧ f_X0_readModes_L8 (nI w) (nI h) (nI sz) B ho n cm ca cd (nI p) (nI f) x y (nI i) = some (cm', ca', cd', nI p', nI f') ∧ f_X7_readModes_L6 (nI sz) (nI (w * h)) B mo m (nI p) (nI f) mm ma md x y (nI i) = some (nI p', nI f', mm', ma', md') ∧ (∀ j, j < w * h → MD w h cm' ca' cd' mm' ma' md' j)
  | 0, i, p, f, n, m, cm, ca, cd, mm, ma, md, x, y, hi, hp, hf, hn, hm, hx, hy, hI => by
    have hle := wh_le hw hh
    obtain ⟨n, rfl⟩ : ∃ j, n = j + 1 := ⟨n - 1, by omega⟩
    obtain ⟨m, rfl⟩ : ∃ j, m = j + 1 := ⟨m - 1, by omega⟩
    refine ⟨p, f, cm, ca, cd, mm, ma, md, hp, hf, fun _ => ⟨rfl, rfl⟩, ?_, ?_, fun j hj => hI.1 j (by omega)⟩
    · rw [f_X0_readModes_L8]; simp (disch := omega) only [lit, pk_mul, nI_add, ni_sub, ni_div, ni_rem, ni_cl, ni_pred, nmod, ↓reduceIte, ile_t, ile_f, ilt_t, ilt_f, ieq_t, ieq_f, if_true_n, if_false_n, gi_n, nm_n, jn_n, bd1_n, bd2_n, bd3_n, bd4_n, bd5_n, bd6_n]
    · rw [f_X7_readModes_L6]; simp (disch := omega) only [lit, pk_mul, nI_add, ni_sub, ni_div, ni_rem, ni_cl, ni_pred, nmod, ↓reduceIte, ile_t, ile_f, ilt_t, ilt_f, ieq_t, ieq_f, if_true_n, if_false_n, gi_n, nm_n, jn_n, bd1_n, bd2_n, bd3_n, bd4_n, bd5_n, bd6_n]
  | r + 1, i, p, f, n, m, cm, ca, cd, mm, ma, md, x, y, hi, hp, hf, hn, hm, hx, hy, hI => by
    have hle := wh_le hw hh
    obtain ⟨n, rfl⟩ : ∃ j, n = j + 1 := ⟨n - 1, by omega⟩
    obtain ⟨m, rfl⟩ : ∃ j, m = j + 1 := ⟨m - 1, by omega⟩
    have hi9 : i < w * h := by omega
    obtain ⟨-, -, hkc, hkm⟩ := ord_in hw hh hi9
    have ho9 := (hO i hi9).2
    have hne : ∀ j, j < w * h → j ≠ i → kc w h j ≠ kc w h i ∧ km w h j ≠ km w h i := fun j hj hne => ⟨fun e => hne (ord_kc hw hh hj hi9 e), fun e => hne (ord_km hw hh hj hi9 e)⟩
    obtain ⟨hF, z1, z2, z3, z4⟩ := hI.2 i (Nat.le_refl i) hi9
    rcases hF with ⟨q1, q2⟩ | ⟨q1, q2⟩
    · obtain ⟨b1, p1, f1, hb1, hp1, hf1, hz1, hy1, e41, e71⟩ := bit_ex B hs hp hf
      by_cases c1 : b1 = 0
      · subst c1
        obtain ⟨p9, f9, cm9, ca9, cd9, mm9, ma9, md9, hp9, hf9, hz9, u1, u2, u3⟩ := modes_loop (B := B) hw hh hO hs r (i + 1) p1 f1 n m (upd cm (kc w h i) (nI 1)) ca cd (upd mm (km w h i) (nI 1)) (upd ma (km w h i) (nI 0)) (upd md (km w h i) (nI 0)) x y (by omega) hp1 hf1 (by omega) (by omega) hx hy
          (inv_step hI hi9 (fun j hj hj2 => ⟨pk_un (hne j hj hj2).1, rfl, rfl, pk_un (hne j hj hj2).2, pk_un (hne j hj hj2).2, pk_un (hne j hj hj2).2⟩) ⟨1, by omega, pk_us, pk_us, by rw [pk_us, z1], by rw [pk_us, z2], by rw [z1]; exact sm_0, by rw [z2]; exact sm_0, fun _ => ⟨z1, z2⟩⟩)
        refine ⟨p9, f9, cm9, ca9, cd9, mm9, ma9, md9, hp9, hf9, fun h9 => ?_, ?_, ?_, u3⟩
        · obtain ⟨a1, a2, a3⟩ := hz1 h9
          obtain ⟨a4, a5⟩ := hz9 (by omega)
          omega
        · rw [f_X0_readModes_L8]
          unfold f_X0_isCoded
          simp (disch := omega) only [lit, pk_mul, nI_add, ni_sub, ni_div, ni_rem, ni_cl, ni_pred, nmod, ↓reduceIte, ile_t, ile_f, ilt_t, ilt_f, ieq_t, ieq_f, if_true_n, if_false_n, gi_n, ↓nm_n, ↓jn_n, bd1_n, bd2_n, bd3_n, bd4_n, bd5_n, bd6_n, ordered_n hO, q1, ↓bd3_e e41, u1]
        · rw [f_X7_readModes_L6]
          simp (disch := omega) only [lit, pk_mul, nI_add, ni_sub, ni_div, ni_rem, ni_cl, ni_pred, nmod, ↓reduceIte, ile_t, ile_f, ilt_t, ilt_f, ieq_t, ieq_f, if_true_n, if_false_n, gi_n, ↓nm_n, ↓jn_n, bd1_n, bd2_n, bd3_n, bd4_n, bd5_n, bd6_n, ho9, q2, ↓bd3_e e71, pk_us, u2]
      obtain rfl : b1 = 1 := by omega
      obtain ⟨b2, p2, f2, hb2, hp2, hf2, hz2, hy2, e42, e72⟩ := bit_ex B hs hp1 hf1
      have hf0 : f ≠ 0 → False := fun h9 => absurd (hz1 h9).1 (by omega)
      by_cases c2 : b2 = 0
      · subst c2
        obtain ⟨p9, f9, cm9, ca9, cd9, mm9, ma9, md9, hp9, hf9, hz9, u1, u2, u3⟩ := modes_loop (B := B) hw hh hO hs r (i + 1) p2 f2 n m (upd cm (kc w h i) (nI 2)) ca cd (upd mm (km w h i) (nI 2)) (upd ma (km w h i) (nI 0)) (upd md (km w h i) (nI 0)) x y (by omega) hp2 hf2 (by omega) (by omega) hx hy
          (inv_step hI hi9 (fun j hj hj2 => ⟨pk_un (hne j hj hj2).1, rfl, rfl, pk_un (hne j hj hj2).2, pk_un (hne j hj hj2).2, pk_un (hne j hj hj2).2⟩) ⟨2, by omega, pk_us, pk_us, by rw [pk_us, z1], by rw [pk_us, z2], by rw [z1]; exact sm_0, by rw [z2]; exact sm_0, fun _ => ⟨z1, z2⟩⟩)
        refine ⟨p9, f9, cm9, ca9, cd9, mm9, ma9, md9, hp9, hf9, fun h9 => (hf0 h9).elim, ?_, ?_, u3⟩
        · rw [f_X0_readModes_L8]
          unfold f_X0_isCoded
          simp (disch := omega) only [lit, pk_mul, nI_add, ni_sub, ni_div, ni_rem, ni_cl, ni_pred, nmod, ↓reduceIte, ile_t, ile_f, ilt_t, ilt_f, ieq_t, ieq_f, if_true_n, if_false_n, gi_n, ↓nm_n, ↓jn_n, bd1_n, bd2_n, bd3_n, bd4_n, bd5_n, bd6_n, ordered_n hO, q1, ↓bd3_e e41, ↓bd3_e e42, u1]
        · rw [f_X7_readModes_L6]
          simp (disch := omega) only [lit, pk_mul, nI_add, ni_sub, ni_div, ni_rem, ni_cl, ni_pred, nmod, ↓reduceIte, ile_t, ile_f, ilt_t, ilt_f, ieq_t, ieq_f, if_true_n, if_false_n, gi_n, ↓nm_n, ↓jn_n, bd1_n, bd2_n, bd3_n, bd4_n, bd5_n, bd6_n, ho9, q2, ↓bd3_e e71, ↓bd3_e e72, pk_us, u2]
      obtain rfl : b2 = 1 := by omega
      obtain ⟨b3, p3, f3, hb3, hp3, hf3, hz3, hy3, e43, e73⟩ := bit_ex B hs hp2 hf2
      by_cases c3 : b3 = 0
      · subst c3
        obtain ⟨x1, p4, f4, hx1, hp4, hf4, hz4, e44, e74⟩ := move_ex B hs hp3 hf3
        obtain ⟨x2, p5, f5, hx2, hp5, hf5, hz5, e45, e75⟩ := move_ex B hs hp4 hf4
        obtain ⟨p9, f9, cm9, ca9, cd9, mm9, ma9, md9, hp9, hf9, hz9, u1, u2, u3⟩ := modes_loop (B := B) hw hh hO hs r (i + 1) p5 f5 n m (upd cm (kc w h i) (nI 3)) (upd ca (kc w h i) x1) (upd cd (kc w h i) x2) (upd mm (km w h i) (nI 3)) (upd ma (km w h i) x1) (upd md (km w h i) x2) x1 x2 (by omega) hp5 hf5 (by omega) (by omega) hx1 hx2
          (inv_step hI hi9 (fun j hj hj2 => ⟨pk_un (hne j hj hj2).1, pk_un (hne j hj hj2).1, pk_un (hne j hj hj2).1, pk_un (hne j hj hj2).2, pk_un (hne j hj hj2).2, pk_un (hne j hj hj2).2⟩) ⟨3, by omega, pk_us, pk_us, by rw [pk_us, pk_us], by rw [pk_us, pk_us], by rw [pk_us]; exact hx1, by rw [pk_us]; exact hx2, fun h9 => absurd rfl h9⟩)
        refine ⟨p9, f9, cm9, ca9, cd9, mm9, ma9, md9, hp9, hf9, fun h9 => (hf0 h9).elim, ?_, ?_, u3⟩
        · rw [f_X0_readModes_L8]
          unfold f_X0_isCoded f_X0_setMoved
          simp (disch := omega) only [lit, pk_mul, nI_add, ni_sub, ni_div, ni_rem, ni_cl, ni_pred, nmod, ↓reduceIte, ile_t, ile_f, ilt_t, ilt_f, ieq_t, ieq_f, if_true_n, if_false_n, gi_n, ↓nm_n, ↓jn_n, bd1_n, bd2_n, bd3_n, bd4_n, bd5_n, bd6_n, ordered_n hO, q1, ↓bd3_e e41, ↓bd3_e e42, ↓bd3_e e43, ↓bd3_e e44, ↓bd3_e e45, u1]
        · rw [f_X7_readModes_L6]
          simp (disch := omega) only [lit, pk_mul, nI_add, ni_sub, ni_div, ni_rem, ni_cl, ni_pred, nmod, ↓reduceIte, ile_t, ile_f, ilt_t, ilt_f, ieq_t, ieq_f, if_true_n, if_false_n, gi_n, ↓nm_n, ↓jn_n, bd1_n, bd2_n, bd3_n, bd4_n, bd5_n, bd6_n, ho9, q2, ↓bd3_e e71, ↓bd3_e e72, ↓bd3_e e73, ↓bd3_e e74, ↓bd3_e e75, pk_us, u2]
      obtain rfl : b3 = 1 := by omega
      obtain ⟨b4, p4, f4, hb4, hp4, hf4, hz4, hy4, e44, e74⟩ := bit_ex B hs hp3 hf3
      by_cases c4 : b4 = 0
      · subst c4
        obtain ⟨p9, f9, cm9, ca9, cd9, mm9, ma9, md9, hp9, hf9, hz9, u1, u2, u3⟩ := modes_loop (B := B) hw hh hO hs r (i + 1) p4 f4 n m (upd cm (kc w h i) (nI 3)) (upd ca (kc w h i) x) (upd cd (kc w h i) y) (upd mm (km w h i) (nI 3)) (upd ma (km w h i) x) (upd md (km w h i) y) x y (by omega) hp4 hf4 (by omega) (by omega) hx hy
          (inv_step hI hi9 (fun j hj hj2 => ⟨pk_un (hne j hj hj2).1, pk_un (hne j hj hj2).1, pk_un (hne j hj hj2).1, pk_un (hne j hj hj2).2, pk_un (hne j hj hj2).2, pk_un (hne j hj hj2).2⟩) ⟨3, by omega, pk_us, pk_us, by rw [pk_us, pk_us], by rw [pk_us, pk_us], by rw [pk_us]; exact hx, by rw [pk_us]; exact hy, fun h9 => absurd rfl h9⟩)
        refine ⟨p9, f9, cm9, ca9, cd9, mm9, ma9, md9, hp9, hf9, fun h9 => (hf0 h9).elim, ?_, ?_, u3⟩
        · rw [f_X0_readModes_L8]
          unfold f_X0_isCoded f_X0_setMoved
          simp (disch := omega) only [lit, pk_mul, nI_add, ni_sub, ni_div, ni_rem, ni_cl, ni_pred, nmod, ↓reduceIte, ile_t, ile_f, ilt_t, ilt_f, ieq_t, ieq_f, if_true_n, if_false_n, gi_n, ↓nm_n, ↓jn_n, bd1_n, bd2_n, bd3_n, bd4_n, bd5_n, bd6_n, ordered_n hO, q1, ↓bd3_e e41, ↓bd3_e e42, ↓bd3_e e43, ↓bd3_e e44, u1]
        · rw [f_X7_readModes_L6]
          simp (disch := omega) only [lit, pk_mul, nI_add, ni_sub, ni_div, ni_rem, ni_cl, ni_pred, nmod, ↓reduceIte, ile_t, ile_f, ilt_t, ilt_f, ieq_t, ieq_f, if_true_n, if_false_n, gi_n, ↓nm_n, ↓jn_n, bd1_n, bd2_n, bd3_n, bd4_n, bd5_n, bd6_n, ho9, q2, ↓bd3_e e71, ↓bd3_e e72, ↓bd3_e e73, ↓bd3_e e74, pk_us, u2]
      · obtain rfl : b4 = 1 := by omega
        obtain ⟨p9, f9, cm9, ca9, cd9, mm9, ma9, md9, hp9, hf9, hz9, u1, u2, u3⟩ := modes_loop (B := B) hw hh hO hs r (i + 1) p4 f4 n m (upd cm (kc w h i) (nI 4)) ca cd (upd mm (km w h i) (nI 4)) (upd ma (km w h i) (nI 0)) (upd md (km w h i) (nI 0)) x y (by omega) hp4 hf4 (by omega) (by omega) hx hy
          (inv_step hI hi9 (fun j hj hj2 => ⟨pk_un (hne j hj hj2).1, rfl, rfl, pk_un (hne j hj hj2).2, pk_un (hne j hj hj2).2, pk_un (hne j hj hj2).2⟩) ⟨4, by omega, pk_us, pk_us, by rw [pk_us, z1], by rw [pk_us, z2], by rw [z1]; exact sm_0, by rw [z2]; exact sm_0, fun _ => ⟨z1, z2⟩⟩)
        refine ⟨p9, f9, cm9, ca9, cd9, mm9, ma9, md9, hp9, hf9, fun h9 => (hf0 h9).elim, ?_, ?_, u3⟩
        · rw [f_X0_readModes_L8]
          unfold f_X0_isCoded
          simp (disch := omega) only [lit, pk_mul, nI_add, ni_sub, ni_div, ni_rem, ni_cl, ni_pred, nmod, ↓reduceIte, ile_t, ile_f, ilt_t, ilt_f, ieq_t, ieq_f, if_true_n, if_false_n, gi_n, ↓nm_n, ↓jn_n, bd1_n, bd2_n, bd3_n, bd4_n, bd5_n, bd6_n, ordered_n hO, q1, ↓bd3_e e41, ↓bd3_e e42, ↓bd3_e e43, ↓bd3_e e44, u1]
        · rw [f_X7_readModes_L6]
          simp (disch := omega) only [lit, pk_mul, nI_add, ni_sub, ni_div, ni_rem, ni_cl, ni_pred, nmod, ↓reduceIte, ile_t, ile_f, ilt_t, ilt_f, ieq_t, ieq_f, if_true_n, if_false_n, gi_n, ↓nm_n, ↓jn_n, bd1_n, bd2_n, bd3_n, bd4_n, bd5_n, bd6_n, ho9, q2, ↓bd3_e e71, ↓bd3_e e72, ↓bd3_e e73, ↓bd3_e e74, pk_us, u2]
    · obtain ⟨p9, f9, cm9, ca9, cd9, mm9, ma9, md9, hp9, hf9, hz9, u1, u2, u3⟩ := modes_loop (B := B) hw hh hO hs r (i + 1) p f n m cm ca cd mm ma md x y (by omega) hp hf (by omega) (by omega) hx hy
        (inv_step hI hi9 (fun j hj hj2 => ⟨rfl, rfl, rfl, rfl, rfl, rfl⟩) ⟨0, by omega, q1, q2, by rw [z1, z3], by rw [z2, z4], by rw [z1]; exact sm_0, by rw [z2]; exact sm_0, fun _ => ⟨z1, z2⟩⟩)
      refine ⟨p9, f9, cm9, ca9, cd9, mm9, ma9, md9, hp9, hf9, hz9, ?_, ?_, u3⟩
      · rw [f_X0_readModes_L8]
        unfold f_X0_isCoded
        simp (disch := omega) only [lit, pk_mul, nI_add, ni_sub, ni_div, ni_rem, ni_cl, ni_pred, nmod, ↓reduceIte, ile_t, ile_f, ilt_t, ilt_f, ieq_t, ieq_f, if_true_n, if_false_n, gi_n, ↓nm_n, ↓jn_n, bd1_n, bd2_n, bd3_n, bd4_n, bd5_n, bd6_n, ordered_n hO, q1, u1]
      · rw [f_X7_readModes_L6]
        simp (disch := omega) only [lit, pk_mul, nI_add, ni_sub, ni_div, ni_rem, ni_cl, ni_pred, nmod, ↓reduceIte, ile_t, ile_f, ilt_t, ilt_f, ieq_t, ieq_f, if_true_n, if_false_n, gi_n, ↓nm_n, ↓jn_n, bd1_n, bd2_n, bd3_n, bd4_n, bd5_n, bd6_n, ho9, q2, u2]
/-- the modes of a frame that is between -/
theorem modes_ex {w h sz p f : Nat} {B ho mo cm ca cd mm ma md : Nat → Int32} (hw : w < 7) (hh : h < 7) (hO : orOk w h ho mo) (hs : sz ≤ 6000) (hp : p ≤ 8 * sz) (hf : f ≤ 6) (hI : f = 0 → INV w h 0 cm ca cd mm ma md) :
    ∃ (p' f' : Nat) (cm' ca' cd' mm' ma' md' : Nat → Int32), p' ≤ 8 * sz ∧ f' ≤ 6 ∧ (f ≠ 0 → p' = p ∧ f' = f) ∧ f_X0_readModes (nI w) (nI h) cm ca cd (nI sz) (nI p) (nI f) B ho = some (cm', ca', cd', nI p', nI f') ∧ f_X7_readModes (nI sz) (nI p) (nI f) (nI (w * h)) B mo mm ma md = some (nI p', nI f', mm', ma', md') ∧ (f' = 0 → ∀ j, j < w * h → MD w h cm' ca' cd' mm' ma' md' j) := by
  have hle := wh_le hw hh
  unfold f_X0_readModes f_X7_readModes
  by_cases c : f = 0
  · subst c
    obtain ⟨p9, f9, cm9, ca9, cd9, mm9, ma9, md9, hp9, hf9, hz9, u1, u2, u3⟩ := modes_loop (B := B) hw hh hO hs (w * h) 0 p 0 4000 4000 cm ca cd mm ma md (nI 0) (nI 0) (by omega) hp hf (by omega) (by omega) sm_0 sm_0 (hI rfl)
    refine ⟨p9, f9, cm9, ca9, cd9, mm9, ma9, md9, hp9, hf9, hz9, ?_, ?_, fun _ => u3⟩
    · simp (disch := omega) only [lit, pk_mul, nI_add, ni_sub, ni_div, ni_rem, ni_cl, ni_pred, nmod, ↓reduceIte, ile_t, ile_f, ilt_t, ilt_f, ieq_t, ieq_f, if_true_n, if_false_n, gi_n, nm_n, jn_n, bd1_n, bd2_n, bd3_n, bd4_n, bd5_n, bd6_n, u1]
    · simp (disch := omega) only [lit, pk_mul, nI_add, ni_sub, ni_div, ni_rem, ni_cl, ni_pred, nmod, ↓reduceIte, ile_t, ile_f, ilt_t, ilt_f, ieq_t, ieq_f, if_true_n, if_false_n, gi_n, nm_n, jn_n, bd1_n, bd2_n, bd3_n, bd4_n, bd5_n, bd6_n, u2]
  · obtain ⟨cm9, ca9, cd9, u1⟩ := cmodes_fault (B := B) hw hh hO hs hp hf c (w * h) 0 4000 cm ca cd (nI 0) (nI 0) (by omega) (by omega)
    obtain ⟨mm9, ma9, md9, u2⟩ := mmodes_fault (B := B) hw hh hO hs hp hf c (w * h) 0 4000 mm ma md (nI 0) (nI 0) (by omega) (by omega)
    refine ⟨p, f, cm9, ca9, cd9, mm9, ma9, md9, hp, hf, fun _ => ⟨rfl, rfl⟩, ?_, ?_, fun h9 => absurd h9 c⟩
    · simp (disch := omega) only [lit, pk_mul, nI_add, ni_sub, ni_div, ni_rem, ni_cl, ni_pred, nmod, ↓reduceIte, ile_t, ile_f, ilt_t, ilt_f, ieq_t, ieq_f, if_true_n, if_false_n, gi_n, nm_n, jn_n, bd1_n, bd2_n, bd3_n, bd4_n, bd5_n, bd6_n, u1]
    · simp (disch := omega) only [lit, pk_mul, nI_add, ni_sub, ni_div, ni_rem, ni_cl, ni_pred, nmod, ↓reduceIte, ile_t, ile_f, ilt_t, ilt_f, ieq_t, ieq_f, if_true_n, if_false_n, gi_n, nm_n, jn_n, bd1_n, bd2_n, bd3_n, bd4_n, bd5_n, bd6_n, u2]
