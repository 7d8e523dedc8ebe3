/-! The pure side, 23: the law's cases of header and frame. -/
theorem ex_C2 {sz : Nat} {B : Nat → Int32} (hsz : sz ≤ 6000) (LS : Nat) (xs : Nat → Int32) (x4 oH oP oF tp tf : Int32) (hc hr hl : Int32) (hs hst : Nat → Int32) (n1 t1 r1 : Int32) (b1 : Nat → Int32) (n2 t2 r2 : Int32) (b2 ho : Nat → Int32) (thr at0 fa0 hasH mw mh ml hasP fr tkn many : Int32) (ms mst ns nst sd rt tk pa mo mc mli : Nat → Int32) (hcl : mcl mc mli) :
    (∃ (p' : Nat) (c' r' l' : Int32) (hs' hst' : Nat → Int32) (n1' t1' r1' : Int32) (b1' : Nat → Int32) (n2' t2' r2' : Int32) (b2' ho' : Nat → Int32) (mw' mh' ml' many' : Int32) (ms' mst' ns' nst' sd' rt' tk' pa' mo' : Nat → Int32),
      f_C2t LS xs x4 oH oP oF thr (nI sz) at0 fa0 hasH mw mh ml hasP fr tkn many B ms mst ns nst sd rt tk pa mo mc mli (nI sz) tp tf B hc hr hl hs hst n1 t1 r1 b1 n2 t2 r2 b2 ho = some (nI 1, nI 0, nI 0, nI 0, nI 0, nI p', nI 0, nI 1, mw', mh', ml', nI 0, nI 0, nI p', many', ms', mst', ns', nst', sd', rt', tk', pa', mo', nI 0, nI p', nI 0, c', r', l', hs', hst', n1', t1', r1', b1', n2', t2', r2', b2', ho') ∧
      ∃ w h, HDR w h c' r' l' hs' hst' t1' r1' b1' t2' r2' b2' ho' mw' mh' ml' many' ms' mst' sd' rt' tk' mo') ∨
    (∃ (p' f' : Nat) (c' r' l' : Int32) (hs' hst' : Nat → Int32) (n1' t1' r1' : Int32) (b1' : Nat → Int32) (n2' t2' r2' : Int32) (b2' ho' ns' nst' sd' rt' tk' pa' : Nat → Int32),
      f_C2f LS xs x4 thr (nI sz) at0 fa0 hasH mw mh ml hasP fr tkn many B ms mst ns nst sd rt tk pa mo mc mli (nI sz) tp tf B hc hr hl hs hst n1 t1 r1 b1 n2 t2 r2 b2 ho = some (nI 0, nI 0, nI p', nI f', hasH, mw, mh, ml, hasP, fr, nI p', many, ms, mst, ns', nst', sd', rt', tk', pa', mo, nI 0, nI p', nI f', c', r', l', hs', hst', n1', t1', r1', b1', n2', t2', r2', b2', ho') ∧
      (∀ j, j < 512 → sd' j = sd j) ∧ (∀ i, i < 2 → rt' i = rt i) ∧ (∀ i, i < 2 → tk' i = tk i)) := by
  obtain ⟨p', f', c', r', l', hs', hst', n1', t1', r1', b1', n2', t2', r2', b2', ho', hasH', mw', mh', ml', hasP', fr', many', ms', mst', ns', nst', sd', rt', tk', pa', mo', hp', hf', e4, e7, k1, k2⟩ := header_ex (B := B) hsz hc hr hl hs hst n1 t1 r1 b1 n2 t2 r2 b2 ho thr at0 fa0 hasH mw mh ml hasP fr tkn many ms mst ns nst sd rt tk pa mo mc mli hcl
  by_cases c : f' = 0
  · subst c
    obtain ⟨rfl, rfl, rfl, w, h, hH⟩ := k2 rfl
    refine Or.inl ⟨p', c', r', l', hs', hst', n1', t1', r1', b1', n2', t2', r2', b2', ho', mw', mh', ml', many', ms', mst', ns', nst', sd', rt', tk', pa', mo', ?_, w, h, hH⟩
    unfold f_C2t f_X6_header_t f_X4_rewind f_X4_cut f_X4_fault f_X6_takeHeader
    simp only [litn]
    simp (disch := omega) only [bd2_n, ↓bd16_e e4, ↓bd22_e e7, bd1_n, bd3_n, X4_sound_0, ↓reduceIte, ile_t, ile_f, ilt_t, ilt_f, ieq_t, ieq_f, if_true_n, if_false_n, bd21_n]
  · obtain ⟨rfl, rfl, rfl, rfl, rfl, rfl, rfl, rfl, rfl, rfl, g1, g2, g3⟩ := k1 c
    refine Or.inr ⟨p', f', c', r', l', hs', hst', n1', t1', r1', b1', n2', t2', r2', b2', ho', ns', nst', sd', rt', tk', pa', ?_, g1, g2, g3⟩
    unfold f_C2f f_X6_header_f f_X4_rewind f_X4_cut f_X4_fault
    simp only [litn]
    simp (disch := omega) only [bd2_n, ↓bd16_e e4, ↓bd22_e e7, bd1_n, X4_sound_1, ↓reduceIte, ile_t, ile_f, ilt_t, ilt_f, ieq_t, ieq_f, if_true_n, if_false_n, bd18_n]
theorem ex_C3 {sz w h b : Nat} {B : Nat → Int32} (hsz : sz ≤ 6000) (hb2 : b < 2) (LS : Nat) (xs : Nat → Int32) (x4 tp tf oF : Int32) (a2 : Nat → Int64) {cols rows lim : Int32} {hs hst : Nat → Int32} {t1 r1 : Int32} {b1 : Nat → Int32} {t2 r2 : Int32} {b2 ho : Nat → Int32} {mw mh ml many : Int32} {ms mst sd rt tk mo : Nat → Int32}
    (H : HDR w h cols rows lim hs hst t1 r1 b1 t2 r2 b2 ho mw mh ml many ms mst sd rt tk mo) {pw3 ph3 pw4 ph4 : Int32} {pv gd mpv mgd : Nat → Int32} (hPIC : b = 1 → PIC w h pw3 ph3 pv pw4 ph4 gd mpv mgd)
    (fc fr fs fte fbt fkp : Int32) (cm ca cd cp cla : Nat → Int32) (cg : Nat → Nat → Int32) (sq hy : Nat → Int32) (su : Nat → Int64) (pw5 ph5 : Int32) (ps5 : Nat → Int32) (thr at0 fa0 tkn due : Int32) (made mmo mac mdn mfi mm ma md mpl mn mla : Nat → Int32) (msq mR : Nat → Int64) (mad : Nat → Int32) :
    (∃ (p' f' : Nat) (s' te' bt' kp' fc' fr' : Int32) (cm' ca' cd' cp' cla' : Nat → Int32) (cg' : Nat → Nat → Int32) (due' : Int32) (made' mm' ma' md' mpl' mn' mla' : Nat → Int32) (msq' mR' : Nat → Int64) (mad' : Nat → Int32) (a2' : Nat → Int64),
      f_C3f LS xs x4 (nI 1) (nI b) thr (nI sz) at0 fa0 (nI 1) mw mh ml (nI b) oF tkn many due B ms mst sd rt mpv mgd made mo mmo mac mdn mfi mm ma md mpl mn mla msq mR mad MWV a2 (nI sz) tp tf B cols rows r1 b1 r2 b2 ho fc fr fs fte fbt fkp cm ca cd cp cla cg
        = some (nI 0, nI 0, nI p', nI f', nI b, oF, nI p', due', mpv, mgd, made', mmo, mac, mdn, mfi, mm', ma', md', mpl', mn', mla', msq', mR', mad', a2', nI 0, nI p', nI f', fc', fr', s', te', bt', kp', cm', ca', cd', cp', cla', cg')) ∨
    (∃ (p' : Nat) (s' te' bt' kp' fc' fr' : Int32) (cm' ca' cd' cp' cla' : Nat → Int32) (cg' : Nat → Nat → Int32) (due' : Int32) (mpv' mgd' made' mmo' mac' mdn' mfi' mm' ma' md' mpl' mn' mla' : Nat → Int32) (msq' mR' : Nat → Int64) (mad' : Nat → Int32) (a2' : Nat → Int64) (sq' hy' : Nat → Int32) (su' : Nat → Int64) (ps' : Nat → Int32) (pw' ph' gw' gh' : Int32) (gd' : Nat → Int32),
      f_C3g LS xs x4 (nI 1) (nI b) oF thr (nI sz) at0 fa0 (nI 1) mw mh ml (nI b) oF tkn many due B ms mst sd rt mpv mgd made mo mmo mac mdn mfi mm ma md mpl mn mla msq mR mad MWV a2 (nI sz) tp tf B SPOTS WAVEST sq hy su cols rows lim hs hst r1 b1 r2 b2 ho fc fr fs fte fbt fkp cm ca cd cp cla cg pw3 ph3 pv pw5 ph5 ps5 pw4 ph4 gd
        = some (nI 1, oF + nI 1, nI 0, nI 0, nI p', nI 0, nI 1, oF + nI 1, nI p', due', mpv', mgd', made', mmo', mac', mdn', mfi', mm', ma', md', mpl', mn', mla', msq', mR', mad', a2', nI 0, nI p', nI 0, sq', hy', su', fc', fr', s', te', bt', kp', cm', ca', cd', cp', cla', cg', pw', ph', ps', gw', gh', gd') ∧
      FRM w h fc' fr' cm' ca' cd' cg' mmo' mac' mdn' mfi' ∧ PIC w h pw' ph' ps' gw' gh' gd' mpv' mgd') ∨
    (∃ (p' : Nat) (s' te' bt' kp' fc' fr' : Int32) (cm' ca' cd' cp' cla' : Nat → Int32) (cg' : Nat → Nat → Int32) (due' : Int32) (mpv' mgd' made' mmo' mac' mdn' mfi' mm' ma' md' mpl' mn' mla' : Nat → Int32) (msq' mR' : Nat → Int64) (mad' : Nat → Int32) (a2' : Nat → Int64) (sq' hy' : Nat → Int32) (su' : Nat → Int64) (ps' : Nat → Int32) (pw' ph' : Int32),
      f_C3n LS xs x4 (nI 1) (nI b) oF thr (nI sz) at0 fa0 (nI 1) mw mh ml (nI b) oF tkn many due B ms mst sd rt mpv mgd made mo mmo mac mdn mfi mm ma md mpl mn mla msq mR mad MWV a2 (nI sz) tp tf B SPOTS WAVEST sq hy su cols rows lim hs hst r1 b1 r2 b2 ho fc fr fs fte fbt fkp cm ca cd cp cla cg pw3 ph3 pv pw5 ph5 ps5 pw4 ph4 gd
        = some (nI 1, oF + nI 1, nI 0, nI 0, nI p', nI 0, nI 1, oF + nI 1, nI p', due', mpv', mgd', made', mmo', mac', mdn', mfi', mm', ma', md', mpl', mn', mla', msq', mR', mad', a2', nI 0, nI p', nI 0, sq', hy', su', fc', fr', s', te', bt', kp', cm', ca', cd', cp', cla', cg', pw', ph', ps') ∧
      FRM w h fc' fr' cm' ca' cd' cg' mmo' mac' mdn' mfi' ∧ PIC w h pw' ph' ps' pw4 ph4 gd mpv' mgd') := by
  obtain ⟨p', f', s', te', bt', kp', cm', ca', cd', cp', cla', cg', hp', frm', due', mpv', mgd', made', mmo', mac', mdn', mfi', mm', ma', md', mpl', mn', mla', msq', mR', mad', hp9, hf9, e4, e7, k1, k2⟩ := frame_ex (hp := b) (B := B) hsz hb2 H (fun h9 => hPIC (by omega)) fc fr fs fte fbt fkp cm ca cd cp cla cg sq hy su pw5 ph5 ps5 thr at0 fa0 oF tkn due made mmo mac mdn mfi mm ma md mpl mn mla msq mR mad
  by_cases c : f' = 0
  · subst c
    right
    obtain ⟨rfl, rfl, hF, sq', hy', su', ps', g, e5, hg2, e6, g0, g1⟩ := k2 rfl
    by_cases cg9 : g = 0
    · subst cg9
      right
      refine ⟨p', s', te', bt', kp', nI w, nI h, cm', ca', cd', cp', cla', cg', due', mpv', mgd', made', mmo', mac', mdn', mfi', mm', ma', md', mpl', mn', mla', msq', mR', mad', vp_updL a2 0 (nI 0).toInt64, sq', hy', su', ps', nI (w * 8), nI (h * 8), ?_, hF, g0 rfl⟩
      unfold f_C3n f_L_frame_n f_X6_frame_n f_X6_takeFrame_n f_X4_rewind f_X4_cut f_X4_fault f_X7_thrown
      simp only [litn]
      simp (disch := omega) only [bd2_n, ↓bd14_e e4, ↓bd25_e e7, ↓bd6_e e5, ↓bd1_e e6, bd1_n, X4_sound_0, ↓reduceIte, ile_t, ile_f, ilt_t, ilt_f, ieq_t, ieq_f, if_true_n, if_false_n, nm_n, gi_n, ni_cl, bd8_n, bd24_n, bd25_n, pk_uLs, lcmp_self]
    · obtain rfl : g = 1 := by omega
      left
      obtain ⟨gd', e8, hP8⟩ := g1 rfl pw4 ph4 gd
      refine ⟨p', s', te', bt', kp', nI w, nI h, cm', ca', cd', cp', cla', cg', due', mpv', mgd', made', mmo', mac', mdn', mfi', mm', ma', md', mpl', mn', mla', msq', mR', mad', vp_updL a2 0 (nI 0).toInt64, sq', hy', su', ps', nI (w * 8), nI (h * 8), nI (w * 8), nI (h * 8), gd', ?_, hF, hP8⟩
      unfold f_C3g f_L_frame_g f_X6_frame_g f_X6_takeFrame_g f_X4_rewind f_X4_cut f_X4_fault f_X7_thrown
      simp only [litn]
      simp (disch := omega) only [bd2_n, ↓bd14_e e4, ↓bd25_e e7, ↓bd6_e e5, ↓bd1_e e6, ↓bd3_e e8, bd1_n, X4_sound_0, ↓reduceIte, ile_t, ile_f, ilt_t, ilt_f, ieq_t, ieq_f, if_true_n, if_false_n, nm_n, gi_n, ni_cl, bd11_n, bd27_n, bd28_n, pk_uLs, lcmp_self]
  · left
    obtain ⟨rfl, rfl, rfl, rfl, rfl, rfl, rfl, rfl⟩ := k1 c
    refine ⟨p', f', s', te', bt', kp', nI w, nI h, cm', ca', cd', cp', cla', cg', due', made', mm', ma', md', mpl', mn', mla', msq', mR', mad', vp_updL a2 0 (nI f').toInt64, ?_⟩
    unfold f_C3f f_L_frame_f f_X6_frame_f f_X4_rewind f_X4_cut f_X4_fault f_X7_thrown
    simp only [litn]
    simp (disch := omega) only [bd2_n, ↓bd14_e e4, ↓bd25_e e7, bd1_n, X4_sound_1, ↓reduceIte, ile_t, ile_f, ilt_t, ilt_f, ieq_t, ieq_f, if_true_n, if_false_n, nm_n, gi_n, ni_cl, bd16_n, bd17_n, pk_uLs, lcmp_self]
theorem ex_C3x (LS : Nat) (xs : Nat → Int32) (x4 : Int32) (len thr at0 fa0 mw mh ml hp frm tkn many due : Int32) (B ms mst sd rt mpv mgd made mo mmo mac mdn mfi mm ma md mpl mn mla : Nat → Int32) (msq mR : Nat → Int64) (mad mwv : Nat → Int32) :
    f_C3x LS xs x4 (nI 0) thr len at0 fa0 (nI 0) mw mh ml hp frm tkn many due B ms mst sd rt mpv mgd made mo mmo mac mdn mfi mm ma md mpl mn mla msq mR mad mwv = some (nI 1, len, at0, fa0, hp, frm, tkn, due, mpv, mgd, made, mmo, mac, mdn, mfi, mm, ma, md, mpl, mn, mla, msq, mR, mad) := by
  have JJ : ∀ {κ : Type} (K : Int32 → Option κ), jn (fun (k9 : Int32 → Option κ) => (if nI 0 = nI 0 then (k9 (nI 1)) else (k9 (nI 0)))) K = K (nI 1) := fun K => jn_e (if_pos rfl)
  have r := rf1 (nI 0) (nI 0) thr
  unfold f_C3x f_L_frame_x f_X6_frame_x f_X7_frame f_X7_thrown
  simp only [litn]
  simp (disch := omega) only [↓reduceIte, ile_t, ile_f, ilt_t, ilt_f, ieq_t, ieq_f, if_true_n, if_false_n, bd1_n, ↓JJ, ↓bd2_e r, bd25_n]
  have JK : ∀ {κ : Type} (K : Int32 → Option κ), jn (fun (k9 : Int32 → Option κ) => k9 (nI 1)) K = K (nI 1) := fun K => rfl
  simp (disch := omega) only [↓reduceIte, ile_t, ile_f, ilt_t, ilt_f, ieq_t, ieq_f, if_true_n, if_false_n, bd1_n, ↓JK, ↓bd2_e r, bd25_n]
