/-! The pure side, 21: a frame wholly. -/
theorem gz_n {α : Type} {t : Nat} {k : Option α} (ht : t < 2) : gz (nI t) k = k := by
  unfold gz
  rw [if_pos]
  rcases (show t = 0 ∨ t = 1 by omega) with rfl | rfl
  · exact Or.inl rfl
  · exact Or.inr rfl
theorem tf_jn {α : Type} {t : Nat} (ht : t < 2) (K : Int32 → Option α) : jn (fun (k : Int32 → Option α) => (if nI t = nI 1 then (k (nI 1)) else (k (nI 0)))) K = K (nI t) := by
  rcases (show t = 0 ∨ t = 1 by omega) with rfl | rfl
  · exact jn_e (if_neg (fun e => absurd ((nI_eq (by omega) (by omega)).mp e) (by omega)))
  · exact jn_e (if_pos rfl)
/-- what the latest frame tells of its blocks -/
def FRM (w h : Nat) (fc fr : Int32) (cm ca cd : Nat → Int32) (cg : Nat → Nat → Int32) (mmo mac mdn mfi : Nat → Int32) : Prop := fc = nI w ∧ fr = nI h ∧ ∀ y x, y < h → x < w → cm (y * w + x) = mmo (6 * y + x) ∧ ca (y * w + x) = mac (6 * y + x) ∧ cd (y * w + x) = mdn (6 * y + x) ∧ cg (y * w + x) 0 = mfi (6 * y + x)
theorem md_mo {w h : Nat} {cm ca cd mm ma md : Nat → Int32} (hD : ∀ j, j < w * h → MD w h cm ca cd mm ma md j) : MO w h cm mm := by
  intro k hk
  obtain ⟨u, hu, a, b, -⟩ := hD k hk
  exact ⟨u, hu, a, b⟩
theorem PR_eq {w h : Nat} {cs ms ms' : Nat → Int32} (hw : w < 7) (hh : h < 7) (hP : PR w h cs ms) (he : ∀ j, j < 2304 → ms' j = ms j) : PR w h cs ms' := by
  intro y x hy hx
  obtain ⟨v, hv, a, b⟩ := hP y x hy hx
  exact ⟨v, hv, a, by rw [he _ (pix_lt hw hh hx hy).2, b]⟩
theorem copy_ex {w h : Nat} {ps ms ms' : Nat → Int32} (hw : w < 7) (hh : h < 7) (hP : PR w h ps ms) (he : ∀ j, j < 2304 → ms' j = ms j) (gw gh : Int32) (gd : Nat → Int32) : ∃ gd' : Nat → Int32, f_X3_copyFrom gw gh gd (nI (w * 8)) (nI (h * 8)) ps = some (nI (w * 8), nI (h * 8), gd') ∧ PR w h gd' ms' := by
  refine ⟨va_cpy ps gd 0 0 2304, ?_, fun y x hy hx => ?_⟩
  · unfold f_X3_copyFrom
    rfl
  · obtain ⟨v, hv, a, b⟩ := hP y x hy hx
    obtain ⟨l1, l2⟩ := pix_lt hw hh hx hy
    refine ⟨v, hv, ?_, by rw [he _ l2, b]⟩
    rw [pk_cpy_in (Nat.zero_le _) (by omega), Nat.zero_add, Nat.sub_zero, a]
theorem frame_ex {sz w h hp : Nat} {B : Nat → Int32} (hsz : sz ≤ 6000) (hp2 : hp < 2) {cols rows lim : Int32} {hs hst : Nat → Int32} {t1 r1 : Int32} {b1 : Nat → Int32} {t2 r2 : Int32} {b2 ho : Nat → Int32} {mw mh ml many : Int32} {ms mst sd rt tk mo : Nat → Int32}
    (H : HDR w h cols rows lim hs hst t1 r1 b1 t2 r2 b2 ho mw mh ml many ms mst sd rt tk mo) {pw3 ph3 pw4 ph4 : Int32} {pv gd mpv mgd : Nat → Int32} (hPIC : hp ≠ 0 → PIC w h pw3 ph3 pv pw4 ph4 gd mpv mgd)
    (fc fr fs fte fbt fkp : Int32) (cm ca cd cp cla : Nat → Int32) (cg : Nat → Nat → Int32) (sq hy : Nat → Int32) (su : Nat → Int64) (pw5 ph5 : Int32) (ps5 : Nat → Int32) (thr at0 fa0 frm tkn due : Int32) (made mmo mac mdn mfi mm ma md mpl mn mla : Nat → Int32) (msq mR : Nat → Int64) (mad : Nat → Int32) :
    ∃ (p' f' : Nat) (s' te' bt' kp' : Int32) (cm' ca' cd' cp' cla' : Nat → Int32) (cg' : Nat → Nat → Int32) (hp' frm' due' : Int32) (mpv' mgd' made' mmo' mac' mdn' mfi' mm' ma' md' mpl' mn' mla' : Nat → Int32) (msq' mR' : Nat → Int64) (mad' : Nat → Int32),
      p' ≤ 8 * sz ∧ f' ≤ 6 ∧
      f_X0_read (nI hp) fc fr fs fte fbt fkp cm ca cd cp cla cg (nI sz) (nI 0) (nI 0) B cols rows r1 b1 r2 b2 ho = some (nI w, nI h, s', te', bt', kp', cm', ca', cd', cp', cla', cg', nI p', nI f') ∧
      f_X7_frame thr (nI sz) at0 fa0 (nI 1) mw mh ml (nI hp) frm tkn many due B ms mst sd rt mpv mgd made mo mmo mac mdn mfi mm ma md mpl mn mla msq mR mad MWV = some (nI f', nI 0, nI 0, nI p', nI f', hp', frm', nI p', due', mpv', mgd', made', mmo', mac', mdn', mfi', mm', ma', md', mpl', mn', mla', msq', mR', mad') ∧
      (f' ≠ 0 → hp' = nI hp ∧ frm' = frm ∧ mpv' = mpv ∧ mgd' = mgd ∧ mmo' = mmo ∧ mac' = mac ∧ mdn' = mdn ∧ mfi' = mfi) ∧
      (f' = 0 → hp' = nI 1 ∧ frm' = frm + nI 1 ∧ FRM w h (nI w) (nI h) cm' ca' cd' cg' mmo' mac' mdn' mfi' ∧ ∃ (sq' hy' : Nat → Int32) (su' : Nat → Int64) (ps' : Nat → Int32) (g : Nat),
        f_X2_paint SPOTS WAVEST sq hy su (nI w) (nI h) s' cm' ca' cd' cg' cols rows lim hs hst pw3 ph3 pv pw4 ph4 gd pw5 ph5 ps5 = some (sq', hy', su', nI (w * 8), nI (h * 8), ps') ∧
        g < 2 ∧ f_X0_makesGolden bt' kp' = some (nI g) ∧ (g = 0 → PIC w h (nI (w * 8)) (nI (h * 8)) ps' pw4 ph4 gd mpv' mgd') ∧
        (g = 1 → ∀ gw gh gd9, ∃ gd', f_X3_copyFrom gw gh gd9 (nI (w * 8)) (nI (h * 8)) ps' = some (nI (w * 8), nI (h * 8), gd') ∧ PIC w h (nI (w * 8)) (nI (h * 8)) ps' (nI (w * 8)) (nI (h * 8)) gd' mpv' mgd')) := by
  obtain ⟨⟨w0, hw, h0, hh⟩, ⟨rfl, rfl, rfl, rfl, rfl⟩, ⟨l, hl, rfl, rfl⟩, S1, S2, ⟨hi1, T1⟩, ⟨hi2, T2⟩, -, -, hO⟩ := H
  have hle := wh_le hw hh
  obtain ⟨cm0, ca0, cd0, cg0, ec0, kc0⟩ := clear_ex hw hh cm ca cd cg
  obtain ⟨t, p1, f1, ht, hp1, hf1, -, hy1, e41, e71⟩ := bit_ex (sz := sz) (p := 0) (f := 0) B hsz (by omega) (by omega)
  obtain ⟨g1, hg1, hgz, hgt, hg0, J41, J71⟩ := first_ex (t := t) (k := hp) (f := f1) ht hp2 hf1
  obtain ⟨s, p2, f2, hs2, hp22, hf2, hz2, e42, e72⟩ := bits_ex (N := 3) B hsz hp1 hg1 (by omega)
  have hs2 : s < 8 := hs2
  obtain ⟨k, p3, f3, hk, hp3, hf3, hz3, hy3, e43, e73⟩ := bit_ex B hsz hp22 hf2
  obtain ⟨mm0, ma0, md0, em0, km0⟩ := mclear ht 36 0 4000 mm ma md (by omega) (by omega) (fun b hb => absurd hb (by omega))
  obtain ⟨p4, f4, cm4, ca4, cd4, mm4, ma4, md4, hp4, hf4, hz4, hM4, J42, J72⟩ := mstage (B := B) hw hh ht hO hsz hp3 hf3 (fun b hb => ⟨(kc0 b hb).1, (kc0 b hb).2.1, (kc0 b hb).2.2.1⟩) km0
  have HH : ∀ {κ : Type} (K : Int32 → Option κ), jn (fun (k9 : Int32 → Option κ) => (if nI 1 = nI 0 then (k9 (nI 1)) else (k9 (nI 0)))) K = K (nI 0) := fun K => jn_e (if_neg (fun e => absurd ((nI_eq (by omega) (by omega)).mp e) (by omega)))
  have hrf : f_X7_refused (nI 0) (nI 0) (nI 0) thr = some (nI 0, nI 0) := by
    unfold f_X7_refused
    simp (disch := omega) only [lit, pk_mul, nI_add, ni_sub, ni_div, ni_rem, ni_cl, ni_pred, nmod, ↓reduceIte, ile_t, ile_f, ilt_t, ilt_f, ieq_t, ieq_f, if_true_n, if_false_n, gi_n, nm_n, jn_n, bd1_n, bd2_n, bd3_n, bd4_n, bd5_n, bd6_n]
  have hfirst : f4 = 0 → t ≠ 0 → hp ≠ 0 := by
    intro h4 h9 h8
    have a1 := hgt h9 h8
    by_cases c3 : f3 = 0
    · by_cases c2 : f2 = 0
      · exact absurd (hz2 a1).2.2 (by omega)
      · exact absurd (hz3 c2).2.2 (by omega)
    · exact absurd (hz4 c3).2 (by omega)
  have J70 : ∀ {κ : Type} (body : (Int32 → (Nat → Int32) → (Nat → Nat → Int32) → Int32 → Int32 → Option κ) → Option κ) (K : Int32 → (Nat → Int32) → (Nat → Nat → Int32) → Int32 → Int32 → Option κ), jn body K = body K := fun _ _ => jn_n
  by_cases c4 : f4 = 0
  · subst c4
    obtain ⟨hD, hall⟩ := hM4 rfl
    obtain ⟨p5, f5, te5, me5, cp5, cg5, mp5, mn5, hp5, hf5, e45, e75, hTK⟩ := tokens_ex (cp := cp) (mp := mpl) (mn := mn) (c0 := fte) (m0 := due) (B := B) hw hh hO hsz (md_mo hD) T1 T2 hp4 (fun b hb => (kc0 b hb).2.2.2)
    by_cases c5 : f5 = 0
    · subst c5
      obtain ⟨cl6, ml6, cg6, mn6, e46, e76, hNU⟩ := guesses_ex (cl := cla) (ml := mla) hw hh (md_mo hD) (hTK rfl)
      have hpc : ∀ j, j < w * h → cm4 (kc w h j) ≠ nI 2 → PIC w h pw3 ph3 pv pw4 ph4 gd mpv mgd := fun j hj h9 => hPIC (hfirst rfl (fun h8 => h9 (hall h8 j hj)))
      obtain ⟨sq7, hy7, su7, ns7, made7, msq7, mR7, mad7, e47, e77, hP7⟩ := paint_ex (st := hst) (sc := hs) (mst := mst) (msc := ms) (pw3 := pw3) (ph3 := ph3) (pw4 := pw4) (ph4 := ph4) (pv := pv) (gd := gd) (mpv := mpv) (mgd := mgd) hw hh hs2 hO S2 S1 hD hNU hpc sq hy su ps5 made msq mR mad
      obtain ⟨ns8, made8, hP8, e48, e78⟩ := smooth_ex hw hh h0 hl (mo2_of hw hh (md_mo hD)) hP7
      obtain ⟨mpv9, mgd9, e79, -, k9⟩ := mtake (made := made8) ht hk 2304 0 4000 mpv mgd (by omega) (by omega)
      obtain ⟨mo9, mc9, mdn9, mf9, e7a, ka⟩ := mkeep (mm := mm4) (ma := ma4) (md := md4) (mn := mn6) 36 0 4000 mmo mac mdn mfi (by omega) (by omega) (fun j hj => absurd hj (by omega))
      have hP9 : PR w h ns8 mpv9 := PR_eq hw hh hP8 (fun j hj => (k9 j (by omega) hj).1)
      refine ⟨p5, 0, nI s, te5, nI t, nI k, cm4, ca4, cd4, cp5, cl6, cg6, nI 1, frm + nI 1, me5, mpv9, mgd9, made8, mo9, mc9, mdn9, mf9, mm4, ma4, md4, mp5, mn6, ml6, msq7, mR7, mad7, hp5, by omega, ?_, ?_, fun h9 => absurd rfl h9, fun _ => ⟨rfl, rfl, ⟨rfl, rfl, fun y x hy9 hx9 => ?_⟩, sq7, hy7, su7, ns8, if t = 0 ∨ k ≠ 0 then 1 else 0, ?_, ?_, ?_, fun hg => ?_, fun hg => ?_⟩⟩
      · unfold f_X0_read f_X1_columns f_X1_rows
        simp only [litn]
        simp (disch := omega) only [bd1_n, ↓bd4_e ec0, ↓bd3_e e41, ↓tf_jn ht, ↓gz_n, ↓J41, ↓bd3_e e42, ↓bd3_e e43, ↓tf_jn hk, ↓J42, X4_sound_0, ↓J70, ↓reduceIte, ile_t, ile_f, ilt_t, ilt_f, ieq_t, ieq_f, if_true_n, if_false_n, ↓bd5_e e45, ↓bd2_e e46]
      · unfold f_X7_frame f_X7_readFrame
        simp only [litn]
        simp (disch := omega) only [↓HH, ↓bd2_e hrf, ↓bd3_e e71, ↓tf_jn ht, ↓J71, ↓bd3_e e72, ↓bd3_e e73, ↓tf_jn hk, ↓bd3_e em0, ↓J72, ↓bd5_e e75, ↓reduceIte, ile_t, ile_f, ilt_t, ilt_f, ieq_t, ieq_f, if_true_n, if_false_n, ↓bd2_e e76, ↓bd4_e e77, ↓bd1_e e78, ↓bd2_e e79, ↓bd4_e e7a, nm_n, bd21_n]
      · obtain ⟨j, hj, rfl, rfl⟩ := ord_of hw hh hx9 hy9
        obtain ⟨u, hu, d1, d2, d3, d4, d5, d6, d7⟩ := hD j hj
        obtain ⟨-, -, o3, o4⟩ := ord_in hw hh hj
        obtain ⟨q1, q2, q3, q4⟩ := ka (km w h j) o4
        obtain ⟨hN1, hN2⟩ := hNU _ _ hy9 hx9
        show cm4 (kc w h j) = mo9 (km w h j) ∧ ca4 (kc w h j) = mc9 (km w h j) ∧ cd4 (kc w h j) = mdn9 (km w h j) ∧ cg6 (kc w h j) 0 = mf9 (km w h j)
        refine ⟨by rw [q1, d1, d2], by rw [q2, d3], by rw [q3, d4], ?_⟩
        rw [q4, d2]
        by_cases cu : u = 0
        · subst cu
          rw [if_pos (nI_le (Nat.le_refl _) (by omega))]
          exact hN2 d1 0 (by omega)
        · rw [if_neg (nI_ge (by omega) (by omega))]
          exact (hN1 0 (by omega)).1
      · unfold f_X2_paint f_X1_columns f_X1_rows f_X1_limit f_X3_setSize
        simp only [lit]
        by_cases cl0 : l = 0
        · subst cl0
          rw [if_pos rfl] at e48
          obtain rfl := Option.some.inj e48
          simp (disch := omega) only [pk_mul, bd1_n, bd2_n, nm_n, ↓bd4_e e47, ↓reduceIte, ile_t, ile_f, ilt_t, ilt_f, ieq_t, ieq_f, if_true_n, if_false_n]
        · have hl9 : ¬ nI l = nI 0 := fun e => cl0 ((nI_eq (by omega) (by omega)).mp e)
          rw [if_neg hl9] at e48
          simp (disch := omega) only [pk_mul, bd1_n, bd2_n, nm_n, ↓bd4_e e47, ↓reduceIte, ile_t, ile_f, ilt_t, ilt_f, ieq_t, ieq_f, if_true_n, if_false_n, ↓bd1_e e48]
      · split <;> omega
      · unfold f_X0_makesGolden
        simp only [lit]
        by_cases ct : t = 0
        · rw [if_pos (Or.inl ct)]
          simp (disch := omega) only [↓reduceIte, ile_t, ile_f, ilt_t, ilt_f, ieq_t, ieq_f, if_true_n, if_false_n]
        · by_cases ck : k = 0
          · rw [if_neg (by omega)]
            simp (disch := omega) only [↓reduceIte, ile_t, ile_f, ilt_t, ilt_f, ieq_t, ieq_f, if_true_n, if_false_n]
          · rw [if_pos (Or.inr ck)]
            simp (disch := omega) only [↓reduceIte, ile_t, ile_f, ilt_t, ilt_f, ieq_t, ieq_f, if_true_n, if_false_n]
      · have hc9 : ¬ (t = 0 ∨ k ≠ 0) := fun h9 => by rw [if_pos h9] at hg; exact absurd hg (by omega)
        obtain ⟨q1, q2, q3, q4, P1, P2⟩ := hPIC (hfirst rfl (fun h8 => hc9 (Or.inl h8)))
        refine ⟨rfl, rfl, q3, q4, hP9, PR_eq hw hh P2 (fun j hj => ?_)⟩
        rw [(k9 j (by omega) hj).2, if_neg hc9]
      · have hc9 : t = 0 ∨ k ≠ 0 := by
          by_cases h9 : t = 0 ∨ k ≠ 0
          · exact h9
          · rw [if_neg h9] at hg; exact absurd hg (by omega)
        intro gw gh gd9
        obtain ⟨gd', q1, q2⟩ := copy_ex (ms' := mgd9) hw hh hP8 (fun j hj => by rw [(k9 j (by omega) hj).2, if_pos hc9]) gw gh gd9
        exact ⟨gd', q1, rfl, rfl, rfl, rfl, hP9, q2⟩
    · refine ⟨p5, f5, nI s, te5, nI t, nI k, cm4, ca4, cd4, cp5, cla, cg5, nI hp, frm, me5, mpv, mgd, made, mmo, mac, mdn, mfi, mm4, ma4, md4, mp5, mn5, mla, msq, mR, mad, hp5, hf5, ?_, ?_, fun _ => ⟨rfl, rfl, rfl, rfl, rfl, rfl, rfl, rfl⟩, fun h9 => absurd h9 c5⟩
      · unfold f_X0_read f_X1_columns f_X1_rows
        simp only [litn]
        simp (disch := omega) only [bd1_n, ↓bd4_e ec0, ↓bd3_e e41, ↓tf_jn ht, ↓gz_n, ↓J41, ↓bd3_e e42, ↓bd3_e e43, ↓tf_jn hk, ↓J42, X4_sound_0, X4_sound_1, ↓J70, ↓reduceIte, ile_t, ile_f, ilt_t, ilt_f, ieq_t, ieq_f, if_true_n, if_false_n, ↓bd5_e e45]
      · unfold f_X7_frame f_X7_readFrame
        simp only [litn]
        simp (disch := omega) only [↓HH, ↓bd2_e hrf, ↓bd3_e e71, ↓tf_jn ht, ↓J71, ↓bd3_e e72, ↓bd3_e e73, ↓tf_jn hk, ↓bd3_e em0, ↓J72, ↓bd5_e e75, ↓reduceIte, ile_t, ile_f, ilt_t, ilt_f, ieq_t, ieq_f, if_true_n, if_false_n, bd21_n]
  · obtain ⟨me5, mp5, mn5, e75⟩ := mtokens_fault (mm := mm4) (mp := mpl) (mn := mn) (m0 := due) (B := B) hw hh hO hsz T1 T2 hp4 hf4 c4
    refine ⟨p4, f4, nI s, fte, nI t, nI k, cm4, ca4, cd4, cp, cla, cg0, nI hp, frm, me5, mpv, mgd, made, mmo, mac, mdn, mfi, mm4, ma4, md4, mp5, mn5, mla, msq, mR, mad, hp4, hf4, ?_, ?_, fun _ => ⟨rfl, rfl, rfl, rfl, rfl, rfl, rfl, rfl⟩, fun h9 => absurd h9 c4⟩
    · unfold f_X0_read f_X1_columns f_X1_rows
      simp only [litn]
      simp (disch := omega) only [bd1_n, ↓bd4_e ec0, ↓bd3_e e41, ↓tf_jn ht, ↓gz_n, ↓J41, ↓bd3_e e42, ↓bd3_e e43, ↓tf_jn hk, ↓J42, X4_sound_1, ↓J70, ↓reduceIte, ile_t, ile_f, ilt_t, ilt_f, ieq_t, ieq_f, if_true_n, if_false_n]
    · unfold f_X7_frame f_X7_readFrame
      simp only [litn]
      simp (disch := omega) only [↓HH, ↓bd2_e hrf, ↓bd3_e e71, ↓tf_jn ht, ↓J71, ↓bd3_e e72, ↓bd3_e e73, ↓tf_jn hk, ↓bd3_e em0, ↓J72, ↓bd5_e e75, ↓reduceIte, ile_t, ile_f, ilt_t, ilt_f, ieq_t, ieq_f, if_true_n, if_false_n, bd21_n]
