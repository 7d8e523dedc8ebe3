/-! The pure side, 18: all blocks are painted. -/
/-- the two pictures that are painted from, where there are any -/
def PIC (w h : Nat) (pw3 ph3 : Int32) (pv : Nat → Int32) (pw4 ph4 : Int32) (gd mpv mgd : Nat → Int32) : Prop := pw3 = nI (w * 8) ∧ ph3 = nI (h * 8) ∧ pw4 = nI (w * 8) ∧ ph4 = nI (h * 8) ∧ PR w h pv mpv ∧ PR w h gd mgd
theorem div8_lt {w x : Nat} (hx : x < w * 8) : x / 8 < w := by omega
theorem pcol {w h r s : Nat} {pw3 ph3 pw4 ph4 : Int32} {cm ca cd pv gd mpv mgd st sc : Nat → Int32} {cg : Nat → Nat → Int32} (hw : w < 7) (hh : h < 7) (hr : r < h) (hs : s < 8) (hM : ∀ y x, y < h → x < w → ∃ u : Nat, u < 5 ∧ cm (y * w + x) = nI u ∧ (u ≠ 2 → PIC w h pw3 ph3 pv pw4 ph4 gd mpv mgd)) : ∀ (k c n : Nat) (sq hy : Nat → Int32) (su : Nat → Int64) (ns : Nat → Int32), k + c = w → k < n →
    (∀ y x, y < h * 8 → x < w * 8 → (y / 8 < r ∨ (y / 8 = r ∧ x / 8 < c)) → ns (y * (w * 8) + x) = PV w h cm ca cd cg st sc s pv gd y x) →
    ∃ (sq' hy' : Nat → Int32) (su' : Nat → Int64) (ns' : Nat → Int32), f_X2_paint_L28 SPOTS WAVEST (nI w) (nI s) cm ca cd (nI w) sc st pw3 ph3 pv pw4 ph4 gd cg (nI (w * 8)) (nI r) n sq hy su ns (nI c) = some (sq', hy', su', ns') ∧
      (∀ y x, y < h * 8 → x < w * 8 → y / 8 < r + 1 → ns' (y * (w * 8) + x) = PV w h cm ca cd cg st sc s pv gd y x)
  | 0, c, n, sq, hy, su, ns, hi, hn, h0 => by
    obtain ⟨n, rfl⟩ : ∃ j, n = j + 1 := ⟨n - 1, by omega⟩
    obtain rfl : c = w := by omega
    refine ⟨sq, hy, su, ns, ?_, fun y x hy hx hq => h0 y x hy hx ?_⟩
    · rw [f_X2_paint_L28]
      unfold f_X1_columns
      simp (disch := omega) only [lit, pk_mul, nI_add, ni_sub, ni_div, ni_rem, ni_cl, ni_pred, nmod, ↓reduceIte, ile_t, ile_f, ilt_t, ilt_f, ieq_t, ieq_f, if_true_n, if_false_n, gi_n, nm_n, jn_n, bd1_n, bd2_n, bd3_n, bd4_n, bd5_n, bd6_n]
    · have := div8_lt hx
      omega
  | k + 1, c, n, sq, hy, su, ns, hi, hn, h0 => by
    obtain ⟨n, rfl⟩ : ∃ j, n = j + 1 := ⟨n - 1, by omega⟩
    have hc : c < w := by omega
    have hle := wh_le hw hh
    have hb := idx_lt (h := h) hc hr
    obtain ⟨u, hu, e1, hP⟩ := hM r c hr hc
    obtain ⟨sq1, hy1, su1, a1, a2⟩ := added_ex (st := st) (sc := sc) (cg := cg) (show r * w + c < 36 by omega) hs sq hy su
    by_cases c4 : u = 4
    · subst c4
      obtain ⟨rfl, rfl, rfl, rfl, P1, P2⟩ := hP (by omega)
      obtain ⟨ns1, b1, b2, b3⟩ := pblk (sq := sq1) (pw := nI (w * 8)) (ph := nI (h * 8)) (ps := gd) hw hh hc hr (show r * w + c < 36 by omega) hu e1 (rfl : ca (r * w + c) = _) (rfl : cd (r * w + c) = _) (fun _ => ⟨rfl, rfl, mgd, P2⟩) 64 0 4000 ns (by omega) (by omega)
      obtain ⟨sq', hy', su', ns', e, g⟩ := pcol (st := st) (sc := sc) (cg := cg) (ca := ca) (cd := cd) hw hh hr hs hM k (c + 1) n sq1 hy1 su1 ns1 (by omega) (by omega) (fun y x hy9 hx hq => by
        by_cases cc : x / 8 = c ∧ y / 8 = r
        · obtain ⟨q1, q2⟩ := cc
          have q3 := a2 (y % 8) (x % 8) (by omega) (by omega)
          rw [b3 y x hx q1 q2 (by omega), q3]
          unfold PV
          rw [q1, q2, e1, nI_clamp (by omega), if_pos rfl]
        · rw [b2 y x hx (by omega)]
          exact h0 y x hy9 hx (by omega))
      refine ⟨sq', hy', su', ns', ?_, g⟩
      rw [f_X2_paint_L28]
      unfold f_X1_columns f_X0_index f_X0_mode f_X2_paintBlock f_X0_index
      simp (disch := omega) only [lit, pk_mul, nI_add, ni_sub, ni_div, ni_rem, ni_cl, ni_pred, nmod, ↓reduceIte, ile_t, ile_f, ilt_t, ilt_f, ieq_t, ieq_f, if_true_n, if_false_n, gi_n, ↓nm_n, ↓jn_n, bd1_n, bd2_n, bd3_n, bd4_n, bd5_n, bd6_n, e1, a1, b1, e]
    · obtain ⟨ns1, b1, b2, b3⟩ := pblk (sq := sq1) (pw := pw3) (ph := ph3) (ps := pv) hw hh hc hr (show r * w + c < 36 by omega) hu e1 (rfl : ca (r * w + c) = _) (rfl : cd (r * w + c) = _) (fun h9 => ⟨(hP h9).1, (hP h9).2.1, mpv, (hP h9).2.2.2.2.1⟩) 64 0 4000 ns (by omega) (by omega)
      obtain ⟨sq', hy', su', ns', e, g⟩ := pcol (st := st) (sc := sc) (cg := cg) (ca := ca) (cd := cd) hw hh hr hs hM k (c + 1) n sq1 hy1 su1 ns1 (by omega) (by omega) (fun y x hy9 hx hq => by
        by_cases cc : x / 8 = c ∧ y / 8 = r
        · obtain ⟨q1, q2⟩ := cc
          have q3 := a2 (y % 8) (x % 8) (by omega) (by omega)
          rw [b3 y x hx q1 q2 (by omega), q3]
          unfold PV
          rw [q1, q2, e1, nI_clamp (by omega), if_neg c4]
        · rw [b2 y x hx (by omega)]
          exact h0 y x hy9 hx (by omega))
      refine ⟨sq', hy', su', ns', ?_, g⟩
      rw [f_X2_paint_L28]
      unfold f_X1_columns f_X0_index f_X0_mode f_X2_paintBlock f_X0_index
      simp (disch := omega) only [lit, pk_mul, nI_add, ni_sub, ni_div, ni_rem, ni_cl, ni_pred, nmod, ↓reduceIte, ile_t, ile_f, ilt_t, ilt_f, ieq_t, ieq_f, if_true_n, if_false_n, gi_n, ↓nm_n, ↓jn_n, bd1_n, bd2_n, bd3_n, bd4_n, bd5_n, bd6_n, e1, a1, b1, e]
theorem prow {w h s : Nat} {pw3 ph3 pw4 ph4 : Int32} {cm ca cd pv gd mpv mgd st sc : Nat → Int32} {cg : Nat → Nat → Int32} (hw : w < 7) (hh : h < 7) (hs : s < 8) (hM : ∀ y x, y < h → x < w → ∃ u : Nat, u < 5 ∧ cm (y * w + x) = nI u ∧ (u ≠ 2 → PIC w h pw3 ph3 pv pw4 ph4 gd mpv mgd)) : ∀ (k r n : Nat) (sq hy : Nat → Int32) (su : Nat → Int64) (ns : Nat → Int32), k + r = h → k < n →
    (∀ y x, y < h * 8 → x < w * 8 → y / 8 < r → ns (y * (w * 8) + x) = PV w h cm ca cd cg st sc s pv gd y x) →
    ∃ (sq' hy' : Nat → Int32) (su' : Nat → Int64) (ns' : Nat → Int32), f_X2_paint_L16 SPOTS WAVEST (nI w) (nI s) cm ca cd (nI w) (nI h) sc st pw3 ph3 pv pw4 ph4 gd cg (nI (w * 8)) n sq hy su ns (nI r) = some (sq', hy', su', ns') ∧
      (∀ y x, y < h * 8 → x < w * 8 → ns' (y * (w * 8) + x) = PV w h cm ca cd cg st sc s pv gd y x)
  | 0, r, n, sq, hy, su, ns, hi, hn, h0 => by
    obtain ⟨n, rfl⟩ : ∃ j, n = j + 1 := ⟨n - 1, by omega⟩
    obtain rfl : r = h := by omega
    refine ⟨sq, hy, su, ns, ?_, fun y x hy hx => h0 y x hy hx (div8_lt hy)⟩
    rw [f_X2_paint_L16]
    unfold f_X1_rows
    simp (disch := omega) only [lit, pk_mul, nI_add, ni_sub, ni_div, ni_rem, ni_cl, ni_pred, nmod, ↓reduceIte, ile_t, ile_f, ilt_t, ilt_f, ieq_t, ieq_f, if_true_n, if_false_n, gi_n, nm_n, jn_n, bd1_n, bd2_n, bd3_n, bd4_n, bd5_n, bd6_n]
  | k + 1, r, n, sq, hy, su, ns, hi, hn, h0 => by
    obtain ⟨n, rfl⟩ : ∃ j, n = j + 1 := ⟨n - 1, by omega⟩
    obtain ⟨sq1, hy1, su1, ns1, e1, g1⟩ := pcol (st := st) (sc := sc) (cg := cg) (ca := ca) (cd := cd) hw hh (show r < h by omega) hs hM w 0 4000 sq hy su ns (by omega) (by omega) (fun y x hy9 hx hq => h0 y x hy9 hx (by omega))
    obtain ⟨sq', hy', su', ns', e, g⟩ := prow (st := st) (sc := sc) (cg := cg) (ca := ca) (cd := cd) hw hh hs hM k (r + 1) n sq1 hy1 su1 ns1 (by omega) (by omega) g1
    refine ⟨sq', hy', su', ns', ?_, g⟩
    rw [f_X2_paint_L16]
    unfold f_X1_rows
    simp (disch := omega) only [lit, pk_mul, nI_add, ni_sub, ni_div, ni_rem, ni_cl, ni_pred, nmod, ↓reduceIte, ile_t, ile_f, ilt_t, ilt_f, ieq_t, ieq_f, if_true_n, if_false_n, gi_n, nm_n, jn_n, bd1_n, bd2_n, bd3_n, bd4_n, bd5_n, bd6_n, e1, e]
/-! the reference -/
theorem mblk {w h c r u b : Nat} {v z : Int32} {pv gd mpv mgd mm ma md ad : Nat → Int32} (hw : w < 7) (hh : h < 7) (hc : c < w) (hr : r < h) (hb : b = 6 * r + c) (hu : u < 5) (e1 : mm b = nI u) (e2 : ma b = v) (e3 : md b = z) (h3 : u ≠ 3 → v = nI 0 ∧ z = nI 0) (hP : u ≠ 2 → PR w h pv mpv ∧ PR w h gd mgd) : ∀ (k i n : Nat) (ns : Nat → Int32), k + i = 64 → k < n →
    ∃ ns' : Nat → Int32, f_X7_paint_L62 (nI w) (nI h) mpv mgd mm ma md (nI b) ad n ns (nI i) = some ns' ∧
      (∀ y x, x < 48 → (x / 8 ≠ c ∨ y / 8 ≠ r ∨ y % 8 * 8 + x % 8 < i) → ns' (48 * y + x) = ns (48 * y + x)) ∧
      (∀ y x, x < 48 → x / 8 = c → y / 8 = r → i ≤ y % 8 * 8 + x % 8 → ns' (48 * y + x) = cl (nI 0) (nI 255) (UC w h u v z (if u = 4 then gd else pv) x y + ad (y % 8 * 8 + x % 8)))
  | 0, i, n, ns, hi, hn => by
    obtain ⟨n, rfl⟩ : ∃ j, n = j + 1 := ⟨n - 1, by omega⟩
    refine ⟨ns, ?_, fun _ _ _ _ => rfl, fun y x h1 h2 h3 h4 => absurd h4 (by omega)⟩
    rw [f_X7_paint_L62]; simp (disch := omega) only [lit, pk_mul, nI_add, ni_sub, ni_div, ni_rem, ni_cl, ni_pred, nmod, ↓reduceIte, ile_t, ile_f, ilt_t, ilt_f, ieq_t, ieq_f, if_true_n, if_false_n, gi_n, nm_n, jn_n, bd1_n, bd2_n, bd3_n, bd4_n, bd5_n, bd6_n]
  | k + 1, i, n, ns, hi, hn => by
    obtain ⟨n, rfl⟩ : ∃ j, n = j + 1 := ⟨n - 1, by omega⟩
    have hX : 8 * c + i % 8 < w * 8 := by omega
    have hY : 8 * r + i / 8 < h * 8 := by omega
    obtain ⟨l1, l2⟩ := pix_lt hw hh hX hY
    have m1 : b % 6 = c := by omega
    have m2 : b / 6 = r := by omega
    have m3 : b - r * 6 = c := by omega
    have hb36 : b < 36 := by omega
    have B := base_ex hw hh (by omega) (by omega) hX hY hb36 hu e1 e2 e3 h3 hP
    obtain ⟨ns', e, h1, h2⟩ := mblk (ad := ad) hw hh hc hr hb hu e1 e2 e3 h3 hP k (i + 1) n (upd ns (48 * (8 * r + i / 8) + (8 * c + i % 8)) (cl (nI 0) (nI 255) (UC w h u v z (if u = 4 then gd else pv) (8 * c + i % 8) (8 * r + i / 8) + ad i))) (by omega) (by omega)
    have k1 := within_cl (x := UC w h u v z (if u = 4 then gd else pv) (8 * c + i % 8) (8 * r + i / 8) + ad i) (nI_le0 (show 0 ≤ 255 by omega) (by omega))
    refine ⟨ns', ?_, fun y x hx hq => ?_, fun y x hx hq1 hq2 hq3 => ?_⟩
    · rw [f_X7_paint_L62]
      simp (disch := omega) only [lit, pk_mul, nI_add, ni_div, ni_sub, nmod, ni_cl, ↓reduceIte, ile_t, ile_f, ilt_t, ilt_f, ieq_t, ieq_f, if_true_n, if_false_n, gi_n, ↓nm_n, bd1_n, m1, m2, m3, B, k1]
      exact e
    · rw [h1 y x hx (by omega), pk_un (by omega)]
    · by_cases cc : y % 8 * 8 + x % 8 = i
      · have ex : x = 8 * c + i % 8 := by omega
        have ey : y = 8 * r + i / 8 := by omega
        rw [h1 y x hx (by omega), cc, ex, ey, pk_us]
      · exact h2 y x hx hq1 hq2 (by omega)
theorem AD_congr {z z' : Nat → Int32} {y c : Nat} (h : ∀ j, j < 64 → z j = z' j) (hc : c < 8) : AD z y c = AD z' y c := by
  unfold AD
  rw [SS_congr 8 (fun k hk => ?_)]
  rw [SR_congr (fun j hj => h _ (by omega))]
theorem FC_congr {st sc mst msc : Nat → Int32} {s q : Nat} (h1 : sameN 16 256 st mst) (h2 : sameN 8 1024 sc msc) (hs : s < 8) (hq : q < 64) : FC st sc s q = FC mst msc s q := by
  obtain ⟨a, ha, a1, a2⟩ := h1 (q / 4) (by omega)
  obtain ⟨b, hb, b1, b2⟩ := h2 s hs
  unfold FC
  rw [a1, a2, b1, b2]
theorem mord {w h s : Nat} {cm ca cd pv gd mpv mgd mm ma md mo st sc mst msc mn ho : Nat → Int32} {cg : Nat → Nat → Int32} (hw : w < 7) (hh : h < 7) (hs : s < 8) (hO : orOk w h ho mo) (h1 : sameN 16 256 st mst) (h2 : sameN 8 1024 sc msc) (hD : ∀ j, j < w * h → MD w h cm ca cd mm ma md j) (hN : NU w h cm cg mn) (hP : ∀ j, j < w * h → cm (kc w h j) ≠ nI 2 → PR w h pv mpv ∧ PR w h gd mgd) : ∀ (k j n : Nat) (ns : Nat → Int32) (sq R : Nat → Int64) (ad : Nat → Int32), k + j = w * h → k < n →
    (∀ i, i < w * h → ∀ y x, x / 8 = oc w h i → y / 8 = orw w h i → ns (48 * y + x) = (if i < j ∧ cm (kc w h i) ≠ nI 0 then PV w h cm ca cd cg st sc s pv gd y x else mpv (48 * y + x))) →
    ∃ (ns' : Nat → Int32) (sq' R' : Nat → Int64) (ad' : Nat → Int32), f_X7_paint_L29 (nI s) (nI w) (nI h) (nI (w * h)) msc mst mpv mgd mo mm ma md mn MWV n ns sq R ad (nI j) = some (ns', sq', R', ad') ∧
      (∀ i, i < w * h → ∀ y x, x / 8 = oc w h i → y / 8 = orw w h i → ns' (48 * y + x) = (if cm (kc w h i) ≠ nI 0 then PV w h cm ca cd cg st sc s pv gd y x else mpv (48 * y + x)))
  | 0, j, n, ns, sq, R, ad, hi, hn, h0 => by
    have hle := wh_le hw hh
    obtain ⟨n, rfl⟩ : ∃ j, n = j + 1 := ⟨n - 1, by omega⟩
    refine ⟨ns, sq, R, ad, ?_, fun i hi9 y x hx hy => ?_⟩
    · rw [f_X7_paint_L29]; simp (disch := omega) only [lit, pk_mul, nI_add, ni_sub, ni_div, ni_rem, ni_cl, ni_pred, nmod, ↓reduceIte, ile_t, ile_f, ilt_t, ilt_f, ieq_t, ieq_f, if_true_n, if_false_n, gi_n, nm_n, jn_n, bd1_n, bd2_n, bd3_n, bd4_n, bd5_n, bd6_n]
    · rw [h0 i hi9 y x hx hy]
      by_cases c : cm (kc w h i) ≠ nI 0
      · rw [if_pos c, if_pos ⟨by omega, c⟩]
      · rw [if_neg c, if_neg (fun h9 => c h9.2)]
  | k + 1, j, n, ns, sq, R, ad, hi, hn, h0 => by
    have hle := wh_le hw hh
    obtain ⟨n, rfl⟩ : ∃ j, n = j + 1 := ⟨n - 1, by omega⟩
    have hj : j < w * h := by omega
    obtain ⟨o1, o2, o3, o4⟩ := ord_in hw hh hj
    obtain ⟨u, hu, d1, d2, d3, d4, d5, d6, d7⟩ := hD j hj
    have hmo : mo j = nI (km w h j) := (hO j hj).2
    have hkm : km w h j < 36 := by unfold km; omega
    by_cases cu : u = 0
    · subst cu
      obtain ⟨ns', sq', R', ad', e, g⟩ := mord (ca := ca) (cd := cd) hw hh hs hO h1 h2 hD hN hP k (j + 1) n ns sq R ad (by omega) (by omega) (fun i hi9 y x hx hy => by
        rw [h0 i hi9 y x hx hy]
        by_cases c : i < j ∧ cm (kc w h i) ≠ nI 0
        · rw [if_pos c, if_pos ⟨by omega, c.2⟩]
        · rw [if_neg c, if_neg]
          rintro ⟨h8, h9⟩
          by_cases c9 : i = j
          · subst c9; exact h9 d1
          · exact c ⟨by omega, h9⟩)
      refine ⟨ns', sq', R', ad', ?_, g⟩
      rw [f_X7_paint_L29]
      simp (disch := omega) only [lit, pk_mul, nI_add, ni_sub, ni_div, ni_rem, ni_cl, ni_pred, nmod, ↓reduceIte, ile_t, ile_f, ilt_t, ilt_f, ieq_t, ieq_f, if_true_n, if_false_n, gi_n, ↓nm_n, ↓jn_n, bd1_n, bd2_n, bd3_n, bd4_n, bd5_n, bd6_n, hmo, d2, e]
    · have hNj := hN (orw w h j) (oc w h j) o2 o1
      obtain ⟨hN1, hN2⟩ := hNj
      have ekm : km w h j = 6 * orw w h j + oc w h j := rfl
      have ekc : kc w h j = orw w h j * w + oc w h j := rfl
      obtain ⟨sq1, R1, ad1, a1, a2⟩ := madd_ex (st := mst) (sc := msc) (mn := mn) hkm hs (fun q hq => by
        rw [ekm, ← (hN1 q hq).1]
        exact (hN1 q hq).2) sq R ad
      obtain ⟨ns1, b1, b2, b3⟩ := mblk (ad := ad1) (pv := pv) (gd := gd) (mpv := mpv) (mgd := mgd) hw hh o1 o2 ekm (show u < 5 by omega) d2 d3.symm d4.symm d7 (fun h9 => hP j hj (fun h8 => h9 (by
        rw [d1] at h8
        exact (nI_eq (by omega) (by omega)).mp h8))) 64 0 4000 ns (by omega) (by omega)
      obtain ⟨ns', sq', R', ad', e, g⟩ := mord (ca := ca) (cd := cd) hw hh hs hO h1 h2 hD hN hP k (j + 1) n ns1 sq1 R1 ad1 (by omega) (by omega) (fun i hi9 y x hx hy => by
        obtain ⟨i1, i2, i3, i4⟩ := ord_in hw hh hi9
        have hx48 : x < 48 := by omega
        by_cases c9 : i = j
        · subst c9
          have hc0 : cm (kc w h i) ≠ nI 0 := fun h9 => cu (by
            rw [d1] at h9
            exact (nI_eq (by omega) (by omega)).mp h9)
          rw [if_pos ⟨by omega, hc0⟩, b3 y x hx48 hx hy (by omega)]
          have q3 := a2 (y % 8) (x % 8) (by omega) (by omega)
          rw [show y % 8 * 8 + x % 8 = 8 * (y % 8) + x % 8 by omega, q3]
          unfold PV
          rw [hx, hy, ← ekc, d1, nI_clamp (by omega)]
          rw [AD_congr (z' := fun j => ZQ (cg (kc w h i)) (FC st sc s) (ZI j)) (fun j9 hj9 => ?_) (by omega)]
          · have hz := (zi_c j9 hj9).1
            show ZQ _ _ (ZI j9) = ZQ _ _ (ZI j9)
            unfold ZQ
            rw [FC_congr h1 h2 hs hz, ekc, (hN1 _ hz).1, ekm]
        · rw [b2 y x hx48 (by
            by_cases c1 : x / 8 = oc w h j
            · by_cases c2 : y / 8 = orw w h j
              · exact absurd (ord_inj hw hh hi9 hj (by omega) (by omega)) c9
              · exact Or.inr (Or.inl c2)
            · exact Or.inl c1)]
          rw [h0 i hi9 y x hx hy]
          by_cases c : i < j ∧ cm (kc w h i) ≠ nI 0
          · rw [if_pos c, if_pos ⟨by omega, c.2⟩]
          · rw [if_neg c, if_neg]
            rintro ⟨h8, h9⟩
            exact c ⟨by omega, h9⟩)
      refine ⟨ns', sq', R', ad', ?_, g⟩
      rw [f_X7_paint_L29]
      simp (disch := omega) only [lit, pk_mul, nI_add, ni_sub, ni_div, ni_rem, ni_cl, ni_pred, nmod, ↓reduceIte, ile_t, ile_f, ilt_t, ilt_f, ieq_t, ieq_f, if_true_n, if_false_n, gi_n, ↓nm_n, ↓jn_n, bd1_n, bd2_n, bd3_n, bd4_n, bd5_n, bd6_n, hmo, d2, a1, b1, e]
theorem mcopy {pv : Nat → Int32} : ∀ (r i n : Nat) (x : Nat → Int32), r + i = 2304 → r < n → ∃ x' : Nat → Int32, f_X7_paint_L2 pv n x (nI i) = some x' ∧ (∀ j, j < i → x' j = x j) ∧ (∀ j, i ≤ j → j < 2304 → x' j = pv j)
  | 0, i, n, x, hi, hn => by
    obtain ⟨n, rfl⟩ : ∃ j, n = j + 1 := ⟨n - 1, by omega⟩
    refine ⟨x, ?_, fun _ _ => rfl, fun j h1 h2 => absurd h2 (by omega)⟩
    rw [f_X7_paint_L2]; simp (disch := omega) only [lit, pk_mul, nI_add, ni_sub, ni_div, ni_rem, ni_cl, ni_pred, nmod, ↓reduceIte, ile_t, ile_f, ilt_t, ilt_f, ieq_t, ieq_f, if_true_n, if_false_n, gi_n, nm_n, jn_n, bd1_n, bd2_n, bd3_n, bd4_n, bd5_n, bd6_n]
  | r + 1, i, n, x, hi, hn => by
    obtain ⟨n, rfl⟩ : ∃ j, n = j + 1 := ⟨n - 1, by omega⟩
    obtain ⟨x', e, h1, h2⟩ := mcopy (pv := pv) r (i + 1) n (upd x i (pv i)) (by omega) (by omega)
    refine ⟨x', ?_, fun j hj => by rw [h1 j (by omega), pk_un (by omega)], fun j hj hj2 => ?_⟩
    · rw [f_X7_paint_L2]
      simp (disch := omega) only [lit, pk_mul, nI_add, ni_sub, ni_div, ni_rem, ni_cl, ni_pred, nmod, ↓reduceIte, ile_t, ile_f, ilt_t, ilt_f, ieq_t, ieq_f, if_true_n, if_false_n, gi_n, nm_n, jn_n, bd1_n, bd2_n, bd3_n, bd4_n, bd5_n, bd6_n, e]
    · by_cases c : j = i
      · subst c
        rw [h1 j (by omega), pk_us]
      · exact h2 j (by omega) hj2
/-- all is painted alike, before edges are smoothed -/
theorem paint_ex {w h s : Nat} {pw3 ph3 pw4 ph4 : Int32} {cm ca cd pv gd mpv mgd mm ma md mo st sc mst msc mn ho : Nat → Int32} {cg : Nat → Nat → Int32} (hw : w < 7) (hh : h < 7) (hs : s < 8) (hO : orOk w h ho mo) (h1 : sameN 16 256 st mst) (h2 : sameN 8 1024 sc msc) (hD : ∀ j, j < w * h → MD w h cm ca cd mm ma md j) (hN : NU w h cm cg mn) (hP : ∀ j, j < w * h → cm (kc w h j) ≠ nI 2 → PIC w h pw3 ph3 pv pw4 ph4 gd mpv mgd) (sq hy : Nat → Int32) (su : Nat → Int64) (ns made : Nat → Int32) (msq mR : Nat → Int64) (mad : Nat → Int32) :
    ∃ (sq' hy' : Nat → Int32) (su' : Nat → Int64) (ns' made' : Nat → Int32) (msq' mR' : Nat → Int64) (mad' : Nat → Int32), f_X2_paint_L16 SPOTS WAVEST (nI w) (nI s) cm ca cd (nI w) (nI h) sc st pw3 ph3 pv pw4 ph4 gd cg (nI (w * 8)) 4000 sq hy su ns (nI 0) = some (sq', hy', su', ns') ∧
      f_X7_paint (nI s) (nI w) (nI h) (nI (w * h)) msc mst mpv mgd made mo mm ma md mn msq mR mad MWV = some (made', msq', mR', mad') ∧ PR w h ns' made' := by
  have hle := wh_le hw hh
  obtain ⟨sq', hy', su', ns', e1, g1⟩ := prow (pw3 := pw3) (ph3 := ph3) (pw4 := pw4) (ph4 := ph4) (cm := cm) (ca := ca) (cd := cd) (pv := pv) (gd := gd) (mpv := mpv) (mgd := mgd) (st := st) (sc := sc) (cg := cg) hw hh hs (fun y x hy hx => by
    obtain ⟨j, hj, rfl, rfl⟩ := ord_of hw hh hx hy
    obtain ⟨u, hu, d1, -⟩ := hD j hj
    exact ⟨u, by omega, d1, fun h9 => hP j hj (fun h8 => h9 (by
      rw [d1] at h8
      exact (nI_eq (by omega) (by omega)).mp h8))⟩) h 0 4000 sq hy su ns (by omega) (by omega) (fun y x hy hx hq => absurd hq (by omega))
  obtain ⟨m1, e2, -, g2⟩ := mcopy (pv := mpv) 2304 0 4000 made (by omega) (by omega)
  obtain ⟨made', msq', mR', mad', e3, g3⟩ := mord (ca := ca) (cd := cd) (gd := gd) (pv := pv) (mgd := mgd) (mpv := mpv) hw hh hs hO h1 h2 hD hN (fun j hj h9 => ⟨(hP j hj h9).2.2.2.2.1, (hP j hj h9).2.2.2.2.2⟩) (w * h) 0 4000 m1 msq mR mad (by omega) (by omega) (fun i hi y x hx hy => by
    obtain ⟨i1, i2, -, -⟩ := ord_in hw hh hi
    rw [if_neg (fun h9 => absurd h9.1 (by omega)), g2 _ (by omega) (by omega)])
  refine ⟨sq', hy', su', ns', made', msq', mR', mad', e1, ?_, fun y x hy hx => ?_⟩
  · unfold f_X7_paint
    simp (disch := omega) only [lit, pk_mul, nI_add, ni_sub, ni_div, ni_rem, ni_cl, ni_pred, nmod, ↓reduceIte, ile_t, ile_f, ilt_t, ilt_f, ieq_t, ieq_f, if_true_n, if_false_n, gi_n, nm_n, jn_n, bd1_n, bd2_n, bd3_n, bd4_n, bd5_n, bd6_n, e2, e3]
  · obtain ⟨i, hi, i1, i2⟩ := ord_of hw hh (div8_lt hx) (div8_lt hy)
    rw [g1 y x hy hx, g3 i hi y x i1.symm i2.symm]
    have hkc : kc w h i = y / 8 * w + x / 8 := by
      unfold kc
      rw [i1, i2]
    obtain ⟨u, hu, d1, d2, d3, d4, d5, d6, d7⟩ := hD i hi
    by_cases c : u = 0
    · subst c
      obtain ⟨z1, z2⟩ := d7 (by omega)
      obtain ⟨-, -, -, -, P1, P2⟩ := hP i hi (by rw [d1]; exact fun h9 => absurd ((nI_eq (by omega) (by omega)).mp h9) (by omega))
      obtain ⟨v, hv, p1, p2⟩ := P1 y x hy hx
      rw [if_neg (fun h9 => h9 d1)]
      refine ⟨v, hv, ?_, p2⟩
      rw [hkc] at d1 z1 z2
      have hN2 := (hN (y / 8) (x / 8) (div8_lt hy) (div8_lt hx)).2 d1
      unfold PV
      rw [d1, z1, z2, nI_clamp (by omega), if_neg (by omega), AD_0 hN2 (by omega)]
      unfold UC
      rw [if_neg (by omega), moved_id hw hh P1 hx hy, p1]
      show cl (nI 0) (nI 255) (nI v + nI 0) = nI v
      rw [add0_9, cl_byte_in hv]
    · have hc0 : cm (kc w h i) ≠ nI 0 := fun h9 => c (by
        rw [d1] at h9
        exact (nI_eq (by omega) (by omega)).mp h9)
      rw [if_pos hc0]
      obtain ⟨v, hv, e⟩ := cl_byte (UC w h (cm (y / 8 * w + x / 8)).toNatClampNeg (ca (y / 8 * w + x / 8)) (cd (y / 8 * w + x / 8)) (if (cm (y / 8 * w + x / 8)).toNatClampNeg = 4 then gd else pv) x y + AD (fun j => ZQ (cg (y / 8 * w + x / 8)) (FC st sc s) (ZI j)) (y % 8) (x % 8))
      exact ⟨v, hv, e, e⟩
