/-! The pure side, 19: edges are smoothed alike. -/
def SZ (r : Int32) : Int32 := if nI 0 ≤ r then r else -r
def SFT (r lim : Int32) : Int32 := if lim ≤ SZ r then (if nI 2 * lim ≤ SZ r then nI 0 else if nI 0 ≤ r then nI 2 * lim - SZ r else SZ r - nI 2 * lim) else r
theorem soft_c (r lim : Int32) : f_X3_softened r lim = some (SFT r lim) := by
  unfold f_X3_softened SFT
  have e : (if nI 0 ≤ r then r else nI 0 - r) = SZ r := by
    unfold SZ
    rw [show nI 0 - r = -r from Int32.zero_sub r]
  simp only [litn, nm_n, e]
  by_cases a : lim ≤ SZ r
  · rw [if_pos a, if_pos a]
    by_cases b : nI 2 * lim ≤ SZ r
    · rw [if_pos b, if_pos b]
    · rw [if_neg b, if_neg b]
      by_cases c : nI 0 ≤ r
      · rw [if_pos c, if_pos c]
      · rw [if_neg c, if_neg c]
  · rw [if_neg a, if_neg a]
theorem soft_m {α : Type} (r lim : Int32) (K : Int32 → Option α) : jn (fun (k22 : Int32 → Option α) => (if nI 0 ≤ r then k22 r else k22 (-r))) (fun k0 => jn (fun (k28 : Int32 → Option α) => (if lim ≤ k0 then (if nI 2 * lim ≤ k0 then k28 (nI 0) else (if nI 0 ≤ r then k28 (nI 2 * lim - k0) else k28 (k0 - nI 2 * lim))) else k28 r)) K) = K (SFT r lim) := by
  have h : ∀ s : Int32, s = SZ r → jn (fun (k28 : Int32 → Option α) => (if lim ≤ s then (if nI 2 * lim ≤ s then k28 (nI 0) else (if nI 0 ≤ r then k28 (nI 2 * lim - s) else k28 (s - nI 2 * lim))) else k28 r)) K = K (SFT r lim) := by
    rintro s rfl
    refine jn_e ?_
    show (if lim ≤ SZ r then (if nI 2 * lim ≤ SZ r then K (nI 0) else if nI 0 ≤ r then K (nI 2 * lim - SZ r) else K (SZ r - nI 2 * lim)) else K r) = K (SFT r lim)
    unfold SFT
    by_cases a : lim ≤ SZ r
    · rw [if_pos a, if_pos a]
      by_cases b : nI 2 * lim ≤ SZ r
      · rw [if_pos b, if_pos b]
      · rw [if_neg b, if_neg b]
        by_cases c : nI 0 ≤ r
        · rw [if_pos c, if_pos c]
        · rw [if_neg c, if_neg c]
    · rw [if_neg a, if_neg a]
  by_cases c : nI 0 ≤ r
  · exact jn_e ((if_pos c).trans (h r (by unfold SZ; rw [if_pos c])))
  · exact jn_e ((if_neg c).trans (h (-r) (by unfold SZ; rw [if_neg c])))
theorem line_ex {C S lim x1 al nx : Int32} {p2 p1 p0 pp q2 q1 q0 qp i n a b c d : Nat} {cs ms : Nat → Int32} (hC : C = nI p0) (hC2 : nI p0 - nI 2 * S = nI p2) (hC1 : nI p0 - S = nI p1) (hCp : nI p0 + S = nI pp) (hR : x1 + nI i * nx = nI q0) (hR2 : nI q0 - nI 2 * al = nI q2) (hR1 : nI q0 - al = nI q1) (hRp : nI q0 + al = nI qp) (hi : i < 8)
    (l2 : p2 < 2304) (l1 : p1 < 2304) (l0 : p0 < 2304) (lp : pp < 2304) (m2 : q2 < 2304) (m1 : q1 < 2304) (m0 : q0 < 2304) (mp : qp < 2304) (hq : q0 ≠ q1)
    (ea : cs p2 = nI a) (ea' : ms q2 = nI a) (eb : cs p1 = nI b) (eb' : ms q1 = nI b) (ec : cs p0 = nI c) (ec' : ms q0 = nI c) (ed : cs pp = nI d) (ed' : ms qp = nI d) :
    ∃ v k : Nat, v < 256 ∧ k < 256 ∧ f_X3_smoothLine C S lim cs = some (upd (upd cs p1 (nI v)) p0 (nI k)) ∧ f_X7_smooth_L3 x1 al nx lim (n + 1) ms (nI i) = f_X7_smooth_L3 x1 al nx lim n (upd (upd ms q1 (nI v)) q0 (nI k)) (nI (i + 1)) := by
  obtain ⟨r, hr⟩ : ∃ r : Int32, r = ((nI a - nI (3 * b) + nI (3 * c) - nI d + nI 4) >>> (nI 3 &&& nI 31)) := ⟨_, rfl⟩
  obtain ⟨v, hv, ev⟩ := cl_byte (nI b + SFT r lim)
  obtain ⟨k, hk, ek⟩ := cl_byte (nI c - SFT r lim)
  have k1 := bring_cl (x := nI b + SFT r lim) (nI_le0 (show 0 ≤ 255 by omega) (by omega))
  have k2 := bring_cl (x := nI c - SFT r lim) (nI_le0 (show 0 ≤ 255 by omega) (by omega))
  have k3 := within_cl (x := nI b + SFT r lim) (nI_le0 (show 0 ≤ 255 by omega) (by omega))
  have k4 := within_cl (x := nI c - SFT r lim) (nI_le0 (show 0 ≤ 255 by omega) (by omega))
  rw [ev] at k1 k3
  rw [ek] at k2 k4
  have hu : upd ms q1 (nI v) q0 = nI c := by rw [pk_un hq, ec']
  refine ⟨v, k, hv, hk, ?_, ?_⟩
  · subst hC
    unfold f_X3_smoothLine
    simp (disch := omega) only [lit, gi_n, ↓nm_n, bd1_n, hC2, hC1, hCp, ni_cl, ea, eb, ec, ed, pk_mul, ← hr, soft_c, k1, k2]
  · rw [f_X7_smooth_L3]
    have SM := fun K : Int32 → Option (Nat → Int32) => soft_m r lim K
    simp (disch := omega) only [litn, ilt_f, ile_f, if_false_n, gi_n, nm_n, hR, hR2, hR1, hRp, ni_cl, ea', eb', ec', ed', pk_mul, ← hr]
    simp only [↓SM]
    simp (disch := omega) only [lit, gi_n, ni_cl, ↓nm_n, bd1_n, k3, hu, k4, nI_add]
theorem up_loop {w h x y : Nat} {lim : Int32} (hw : w < 7) (hh : h < 7) (hx2 : 2 ≤ x) (hx : x + 1 < w * 8) (hy : y + 7 < h * 8) : ∀ (r i n m : Nat) (cs ms : Nat → Int32), r + i = 8 → r < n → r < m → PR w h cs ms → ∃ cs' ms' : Nat → Int32, f_X3_smoothUpright_L3 (nI x) (nI y) lim (nI (w * 8)) n cs (nI i) = some cs' ∧ f_X7_smooth_L3 (nI (48 * y + x)) (nI 1) (nI 48) lim m ms (nI i) = some ms' ∧ PR w h cs' ms'
  | 0, i, n, m, cs, ms, hi, hn, hm, hP => by
    obtain ⟨n, rfl⟩ : ∃ j, n = j + 1 := ⟨n - 1, by omega⟩
    obtain ⟨m, rfl⟩ : ∃ j, m = j + 1 := ⟨m - 1, by omega⟩
    refine ⟨cs, ms, ?_, ?_, hP⟩
    · rw [f_X3_smoothUpright_L3]; simp (disch := omega) only [lit, pk_mul, nI_add, ni_sub, ni_div, ni_rem, ni_cl, ni_pred, nmod, ↓reduceIte, ile_t, ile_f, ilt_t, ilt_f, ieq_t, ieq_f, if_true_n, if_false_n, gi_n, nm_n, jn_n, bd1_n, bd2_n, bd3_n, bd4_n, bd5_n, bd6_n]
    · rw [f_X7_smooth_L3]; simp (disch := omega) only [lit, pk_mul, nI_add, ni_sub, ni_div, ni_rem, ni_cl, ni_pred, nmod, ↓reduceIte, ile_t, ile_f, ilt_t, ilt_f, ieq_t, ieq_f, if_true_n, if_false_n, gi_n, nm_n, jn_n, bd1_n, bd2_n, bd3_n, bd4_n, bd5_n, bd6_n]
  | r + 1, i, n, m, cs, ms, hi, hn, hm, hP => by
    obtain ⟨n, rfl⟩ : ∃ j, n = j + 1 := ⟨n - 1, by omega⟩
    obtain ⟨m, rfl⟩ : ∃ j, m = j + 1 := ⟨m - 1, by omega⟩
    have hY : y + i < h * 8 := by omega
    obtain ⟨t1, t2⟩ := pix_lt hw hh hx hY
    obtain ⟨a, ha, a1, a2⟩ := hP (y + i) (x - 2) hY (by omega)
    obtain ⟨b, hb, b1, b2⟩ := hP (y + i) (x - 1) hY (by omega)
    obtain ⟨c, hc, c1, c2⟩ := hP (y + i) x hY (by omega)
    obtain ⟨d, hd, d1, d2⟩ := hP (y + i) (x + 1) hY (by omega)
    obtain ⟨v, k, hv, hk, e1, e2⟩ := line_ex (C := nI ((y + i) * (w * 8) + x)) (S := nI 1) (lim := lim) (x1 := nI (48 * y + x)) (al := nI 1) (nx := nI 48) (i := i) (n := m) (cs := cs) (ms := ms) (p2 := (y + i) * (w * 8) + (x - 2)) (p1 := (y + i) * (w * 8) + (x - 1)) (p0 := (y + i) * (w * 8) + x) (pp := (y + i) * (w * 8) + (x + 1)) (q2 := 48 * (y + i) + (x - 2)) (q1 := 48 * (y + i) + (x - 1)) (q0 := 48 * (y + i) + x) (qp := 48 * (y + i) + (x + 1)) rfl
      (by rw [pk_mul, ni_sub (by omega)]; congr 1; omega) (by rw [ni_sub (by omega)]; congr 1; omega) (by rw [nI_add]; congr 1) (by rw [pk_mul, nI_add]; congr 1; omega) (by rw [pk_mul, ni_sub (by omega)]; congr 1; omega) (by rw [ni_sub (by omega)]; congr 1; omega) (by rw [nI_add]; congr 1) (by omega)
      (by omega) (by omega) (by omega) (by omega) (by omega) (by omega) (by omega) (by omega) (by omega) a1 a2 b1 b2 c1 c2 d1 d2
    obtain ⟨cs', ms', f1, f2, g⟩ := up_loop (lim := lim) hw hh hx2 hx hy r (i + 1) n m _ _ (by omega) (by omega) (by omega) (PR_up (y := y + i) (x := x) hw (PR_up (y := y + i) (x := x - 1) hw hP (by omega) hv) (by omega) hk)
    refine ⟨cs', ms', ?_, ?_, g⟩
    · rw [f_X3_smoothUpright_L3]
      simp (disch := omega) only [lit, pk_mul, nI_add, ni_sub, ni_div, ni_rem, ni_cl, ni_pred, nmod, ↓reduceIte, ile_t, ile_f, ilt_t, ilt_f, ieq_t, ieq_f, if_true_n, if_false_n, gi_n, nm_n, jn_n, bd1_n, bd2_n, bd3_n, bd4_n, bd5_n, bd6_n, e1, f1]
    · rw [e2, f2]
theorem lev_loop {w h x y : Nat} {lim : Int32} (hw : w < 7) (hh : h < 7) (hy2 : 2 ≤ y) (hy : y + 1 < h * 8) (hx : x + 7 < w * 8) : ∀ (r i n m : Nat) (cs ms : Nat → Int32), r + i = 8 → r < n → r < m → PR w h cs ms → ∃ cs' ms' : Nat → Int32, f_X3_smoothLevel_L3 (nI x) (nI y) lim (nI (w * 8)) n cs (nI i) = some cs' ∧ f_X7_smooth_L3 (nI (48 * y + x)) (nI 48) (nI 1) lim m ms (nI i) = some ms' ∧ PR w h cs' ms'
  | 0, i, n, m, cs, ms, hi, hn, hm, hP => by
    obtain ⟨n, rfl⟩ : ∃ j, n = j + 1 := ⟨n - 1, by omega⟩
    obtain ⟨m, rfl⟩ : ∃ j, m = j + 1 := ⟨m - 1, by omega⟩
    refine ⟨cs, ms, ?_, ?_, hP⟩
    · rw [f_X3_smoothLevel_L3]; simp (disch := omega) only [lit, pk_mul, nI_add, ni_sub, ni_div, ni_rem, ni_cl, ni_pred, nmod, ↓reduceIte, ile_t, ile_f, ilt_t, ilt_f, ieq_t, ieq_f, if_true_n, if_false_n, gi_n, nm_n, jn_n, bd1_n, bd2_n, bd3_n, bd4_n, bd5_n, bd6_n]
    · rw [f_X7_smooth_L3]; simp (disch := omega) only [lit, pk_mul, nI_add, ni_sub, ni_div, ni_rem, ni_cl, ni_pred, nmod, ↓reduceIte, ile_t, ile_f, ilt_t, ilt_f, ieq_t, ieq_f, if_true_n, if_false_n, gi_n, nm_n, jn_n, bd1_n, bd2_n, bd3_n, bd4_n, bd5_n, bd6_n]
  | r + 1, i, n, m, cs, ms, hi, hn, hm, hP => by
    obtain ⟨n, rfl⟩ : ∃ j, n = j + 1 := ⟨n - 1, by omega⟩
    obtain ⟨m, rfl⟩ : ∃ j, m = j + 1 := ⟨m - 1, by omega⟩
    have hX : x + i < w * 8 := by omega
    obtain ⟨t1, t2⟩ := pix_lt hw hh hX hy
    obtain ⟨a, ha, a1, a2⟩ := hP (y - 2) (x + i) (by omega) hX
    obtain ⟨b, hb, b1, b2⟩ := hP (y - 1) (x + i) (by omega) hX
    obtain ⟨c, hc, c1, c2⟩ := hP y (x + i) (by omega) hX
    obtain ⟨d, hd, d1, d2⟩ := hP (y + 1) (x + i) hy hX
    have z1 : (y + 1) * (w * 8) = y * (w * 8) + w * 8 := by rw [Nat.add_mul, Nat.one_mul]
    have z2 : (y - 1) * (w * 8) + w * 8 = y * (w * 8) := by
      obtain ⟨q, rfl⟩ : ∃ q, y = q + 1 := ⟨y - 1, by omega⟩
      rw [Nat.add_sub_cancel, Nat.add_mul, Nat.one_mul]
    have z3 : (y - 2) * (w * 8) + 2 * (w * 8) = y * (w * 8) := by
      obtain ⟨q, rfl⟩ : ∃ q, y = q + 2 := ⟨y - 2, by omega⟩
      rw [Nat.add_sub_cancel, Nat.add_mul]
    obtain ⟨v, k, hv, hk, e1, e2⟩ := line_ex (C := nI (y * (w * 8) + x + i)) (S := nI (w * 8)) (lim := lim) (x1 := nI (48 * y + x)) (al := nI 48) (nx := nI 1) (i := i) (n := m) (cs := cs) (ms := ms) (p2 := (y - 2) * (w * 8) + (x + i)) (p1 := (y - 1) * (w * 8) + (x + i)) (p0 := y * (w * 8) + (x + i)) (pp := (y + 1) * (w * 8) + (x + i)) (q2 := 48 * (y - 2) + (x + i)) (q1 := 48 * (y - 1) + (x + i)) (q0 := 48 * y + (x + i)) (qp := 48 * (y + 1) + (x + i)) (by congr 1; omega)
      (by rw [pk_mul, ni_sub (by omega)]; congr 1; omega) (by rw [ni_sub (by omega)]; congr 1; omega) (by rw [nI_add]; congr 1; omega) (by rw [pk_mul, nI_add]; congr 1; omega) (by rw [pk_mul, ni_sub (by omega)]; congr 1; omega) (by rw [ni_sub (by omega)]; congr 1; omega) (by rw [nI_add]; congr 1; omega) (by omega)
      (by omega) (by omega) (by omega) (by omega) (by omega) (by omega) (by omega) (by omega) (by omega) a1 a2 b1 b2 c1 c2 d1 d2
    obtain ⟨cs', ms', f1, f2, g⟩ := lev_loop (lim := lim) hw hh hy2 hy hx r (i + 1) n m _ _ (by omega) (by omega) (by omega) (PR_up (y := y) (x := x + i) hw (PR_up (y := y - 1) (x := x + i) hw hP (by omega) hv) (by omega) hk)
    refine ⟨cs', ms', ?_, ?_, g⟩
    · rw [f_X3_smoothLevel_L3]
      simp (disch := omega) only [lit, pk_mul, nI_add, ni_sub, ni_div, ni_rem, ni_cl, ni_pred, nmod, ↓reduceIte, ile_t, ile_f, ilt_t, ilt_f, ieq_t, ieq_f, if_true_n, if_false_n, gi_n, nm_n, jn_n, bd1_n, bd2_n, bd3_n, bd4_n, bd5_n, bd6_n, e1, f1]
    · rw [e2, f2]
theorem up_ex {w h x y : Nat} {lim : Int32} {cs ms : Nat → Int32} (hw : w < 7) (hh : h < 7) (hx2 : 2 ≤ x) (hx : x + 1 < w * 8) (hy : y + 7 < h * 8) (hP : PR w h cs ms) : ∃ cs' ms' : Nat → Int32, f_X3_smoothUpright (nI x) (nI y) lim (nI (w * 8)) cs = some cs' ∧ f_X7_smooth (nI (48 * y + x)) (nI 1) (nI 48) lim ms = some ms' ∧ PR w h cs' ms' := by
  obtain ⟨cs', ms', e1, e2, g⟩ := up_loop (lim := lim) hw hh hx2 hx hy 8 0 4000 4000 cs ms (by omega) (by omega) (by omega) hP
  refine ⟨cs', ms', ?_, ?_, g⟩
  · unfold f_X3_smoothUpright
    simp (disch := omega) only [lit, pk_mul, nI_add, ni_sub, ni_div, ni_rem, ni_cl, ni_pred, nmod, ↓reduceIte, ile_t, ile_f, ilt_t, ilt_f, ieq_t, ieq_f, if_true_n, if_false_n, gi_n, nm_n, jn_n, bd1_n, bd2_n, bd3_n, bd4_n, bd5_n, bd6_n, e1]
  · unfold f_X7_smooth
    simp (disch := omega) only [lit, pk_mul, nI_add, ni_sub, ni_div, ni_rem, ni_cl, ni_pred, nmod, ↓reduceIte, ile_t, ile_f, ilt_t, ilt_f, ieq_t, ieq_f, if_true_n, if_false_n, gi_n, nm_n, jn_n, bd1_n, bd2_n, bd3_n, bd4_n, bd5_n, bd6_n, e2]
theorem lev_ex {w h x y : Nat} {lim : Int32} {cs ms : Nat → Int32} (hw : w < 7) (hh : h < 7) (hy2 : 2 ≤ y) (hy : y + 1 < h * 8) (hx : x + 7 < w * 8) (hP : PR w h cs ms) : ∃ cs' ms' : Nat → Int32, f_X3_smoothLevel (nI x) (nI y) lim (nI (w * 8)) cs = some cs' ∧ f_X7_smooth (nI (48 * y + x)) (nI 48) (nI 1) lim ms = some ms' ∧ PR w h cs' ms' := by
  obtain ⟨cs', ms', e1, e2, g⟩ := lev_loop (lim := lim) hw hh hy2 hy hx 8 0 4000 4000 cs ms (by omega) (by omega) (by omega) hP
  refine ⟨cs', ms', ?_, ?_, g⟩
  · unfold f_X3_smoothLevel
    simp (disch := omega) only [lit, pk_mul, nI_add, ni_sub, ni_div, ni_rem, ni_cl, ni_pred, nmod, ↓reduceIte, ile_t, ile_f, ilt_t, ilt_f, ieq_t, ieq_f, if_true_n, if_false_n, gi_n, nm_n, jn_n, bd1_n, bd2_n, bd3_n, bd4_n, bd5_n, bd6_n, e1]
  · unfold f_X7_smooth
    simp (disch := omega) only [lit, pk_mul, nI_add, ni_sub, ni_div, ni_rem, ni_cl, ni_pred, nmod, ↓reduceIte, ile_t, ile_f, ilt_t, ilt_f, ieq_t, ieq_f, if_true_n, if_false_n, gi_n, nm_n, jn_n, bd1_n, bd2_n, bd3_n, bd4_n, bd5_n, bd6_n, e2]
/-- a block's edges -/
theorem sblk {w h c r u : Nat} {lim : Int32} {cm mm : Nat → Int32} (hw : w < 7) (hh : h < 7) (hc : c < w) (hr : r < h) (hM : MO2 w h cm mm) (hu : u < 5) (hu1 : u ≠ 0) {cs ms : Nat → Int32} (hP : PR w h cs ms) : ∃ cs' ms' : Nat → Int32, PR w h cs' ms' ∧ f_X3_smoothBlock (nI c) (nI r) lim (nI (w * 8)) cs (nI w) (nI h) cm = some cs' ∧
    ∀ (α : Type) (K : (Nat → Int32) → Option α),
    jn (fun (k32 : (Nat → Int32) → Option α) => (if nI u ≤ nI 0 then
  (k32 ms)
  else
  (jn (fun (k43 : (Nat → Int32) → Option α) => (if nI c ≤ nI 0 then
  (k43 ms)
  else
  (bd1 (f_X7_smooth (nI (384 * r + 8 * c)) (nI 1) (nI 48) lim ms) fun m_made_92 =>
  k43 m_made_92))) fun m_made_44 =>
  jn (fun (k48 : (Nat → Int32) → Option α) => (if nI r ≤ nI 0 then
  (k48 m_made_44)
  else
  (bd1 (f_X7_smooth (nI (384 * r + 8 * c)) (nI 48) (nI 1) lim m_made_44) fun m_made_84 =>
  k48 m_made_84))) fun m_made_49 =>
  jn (fun (k53 : (Nat → Int32) → Option α) => (if nI w ≤ nI (c + 1) then
  (k53 m_made_49)
  else
  (gi (nI (6 * r + c + 1)) 36 <|
  (if (mm (nI (6 * r + c + 1)).toNatClampNeg) = nI 0 then
  (bd1 (f_X7_smooth (nI (384 * r + 8 * c + 8)) (nI 1) (nI 48) lim m_made_49) fun m_made_76 =>
  k53 m_made_76)
  else
  (k53 m_made_49))))) fun m_made_54 =>
  (if nI h ≤ nI (r + 1) then
  (k32 m_made_54)
  else
  (gi (nI (6 * r + c + 6)) 36 <|
  (if (mm (nI (6 * r + c + 6)).toNatClampNeg) = nI 0 then
  (bd1 (f_X7_smooth (nI (384 * r + 8 * c + 384)) (nI 48) (nI 1) lim m_made_54) fun m_made_64 =>
  k32 m_made_64)
  else
  (k32 m_made_54))))))) K = K ms' := by
  have hle := wh_le hw hh
  have hb := idx_lt (h := h) hc hr
  obtain ⟨cs1, ms1, P1, a1, a2⟩ : ∃ cs1 ms1 : Nat → Int32, PR w h cs1 ms1 ∧ (∀ (β : Type) (K : (Nat → Int32) → Option β), jn (fun (k : (Nat → Int32) → Option β) => (if nI c ≤ nI 0 then (k cs) else (bd1 (f_X3_smoothUpright (nI (c * 8)) (nI (r * 8)) lim (nI (w * 8)) cs) fun x => k x))) K = K cs1) ∧ (∀ (β : Type) (K : (Nat → Int32) → Option β), jn (fun (k : (Nat → Int32) → Option β) => (if nI c ≤ nI 0 then (k ms) else (bd1 (f_X7_smooth (nI (384 * r + 8 * c)) (nI 1) (nI 48) lim ms) fun x => k x))) K = K ms1) := by
    by_cases c0 : c = 0
    · subst c0
      have z : nI 0 ≤ nI 0 := nI_le (Nat.le_refl _) (by omega)
      exact ⟨cs, ms, hP, fun β K => jn_e (if_pos z), fun β K => jn_e (if_pos z)⟩
    · have z : ¬ nI c ≤ nI 0 := nI_ge (by omega) (by omega)
      obtain ⟨cs1, ms1, e1, e2, g⟩ := up_ex (lim := lim) (x := c * 8) (y := r * 8) hw hh (by omega) (by omega) (by omega) hP
      rw [show 48 * (r * 8) + c * 8 = 384 * r + 8 * c by omega] at e2
      exact ⟨cs1, ms1, g, fun β K => jn_e ((if_neg z).trans (by rw [e1, bd1_n])), fun β K => jn_e ((if_neg z).trans (by rw [e2, bd1_n]))⟩
  obtain ⟨cs2, ms2, P2, b1, b2⟩ : ∃ cs2 ms2 : Nat → Int32, PR w h cs2 ms2 ∧ (∀ (β : Type) (K : (Nat → Int32) → Option β), jn (fun (k : (Nat → Int32) → Option β) => (if nI r ≤ nI 0 then (k cs1) else (bd1 (f_X3_smoothLevel (nI (c * 8)) (nI (r * 8)) lim (nI (w * 8)) cs1) fun x => k x))) K = K cs2) ∧ (∀ (β : Type) (K : (Nat → Int32) → Option β), jn (fun (k : (Nat → Int32) → Option β) => (if nI r ≤ nI 0 then (k ms1) else (bd1 (f_X7_smooth (nI (384 * r + 8 * c)) (nI 48) (nI 1) lim ms1) fun x => k x))) K = K ms2) := by
    by_cases c0 : r = 0
    · subst c0
      have z : nI 0 ≤ nI 0 := nI_le (Nat.le_refl _) (by omega)
      exact ⟨cs1, ms1, P1, fun β K => jn_e (if_pos z), fun β K => jn_e (if_pos z)⟩
    · have z : ¬ nI r ≤ nI 0 := nI_ge (by omega) (by omega)
      obtain ⟨cs2, ms2, e1, e2, g⟩ := lev_ex (lim := lim) (x := c * 8) (y := r * 8) hw hh (by omega) (by omega) (by omega) P1
      rw [show 48 * (r * 8) + c * 8 = 384 * r + 8 * c by omega] at e2
      exact ⟨cs2, ms2, g, fun β K => jn_e ((if_neg z).trans (by rw [e1, bd1_n])), fun β K => jn_e ((if_neg z).trans (by rw [e2, bd1_n]))⟩
  obtain ⟨cs3, ms3, q3, P3, d0, d1, d2⟩ : ∃ (cs3 ms3 : Nat → Int32) (q3 : Nat), PR w h cs3 ms3 ∧ f_X3_isThereNotCoded (nI (c + 1)) (nI r) (nI w) (nI h) cm = some (nI q3) ∧ (∀ (β : Type) (K : (Nat → Int32) → Option β), jn (fun (k : (Nat → Int32) → Option β) => (if nI q3 = nI 0 then (k cs2) else (bd1 (f_X3_smoothUpright (nI (c * 8 + 8)) (nI (r * 8)) lim (nI (w * 8)) cs2) fun x => k x))) K = K cs3) ∧ (∀ (β : Type) (K : (Nat → Int32) → Option β), jn (fun (k : (Nat → Int32) → Option β) => (if nI w ≤ nI (c + 1) then (k ms2) else (gi (nI (6 * r + c + 1)) 36 <| (if mm (nI (6 * r + c + 1)).toNatClampNeg = nI 0 then (bd1 (f_X7_smooth (nI (384 * r + 8 * c + 8)) (nI 1) (nI 48) lim ms2) fun x => k x) else (k ms2))))) K = K ms3) := by
    unfold f_X3_isThereNotCoded f_X0_has f_X0_index f_X0_isCoded
    by_cases c0 : c + 1 < w
    · have hb2 := idx_lt (h := h) c0 hr
      obtain ⟨v, hv, v1, v2⟩ := hM r (c + 1) hr c0
      rw [show 6 * r + (c + 1) = 6 * r + c + 1 by omega] at v2
      have z : ¬ nI w ≤ nI (c + 1) := nI_ge c0 (by omega)
      have hcl9 : (nI (6 * r + c + 1)).toNatClampNeg = 6 * r + c + 1 := nI_clamp (by omega)
      by_cases cv : v = 0
      · subst cv
        obtain ⟨cs3, ms3, e1, e2, g⟩ := up_ex (lim := lim) (x := c * 8 + 8) (y := r * 8) hw hh (by omega) (by omega) (by omega) P2
        rw [show 48 * (r * 8) + (c * 8 + 8) = 384 * r + 8 * c + 8 by omega] at e2
        have z1 : ¬ nI 1 = nI 0 := fun e => absurd ((nI_eq (by omega) (by omega)).mp e) (by omega)
        refine ⟨cs3, ms3, 1, g, by simp (disch := omega) only [lit, pk_mul, nI_add, ni_sub, ni_div, ni_rem, ni_cl, ni_pred, nmod, ↓reduceIte, ile_t, ile_f, ilt_t, ilt_f, ieq_t, ieq_f, if_true_n, if_false_n, gi_n, nm_n, jn_n, bd1_n, bd2_n, bd3_n, bd4_n, bd5_n, bd6_n, v1], fun β K => jn_e ((if_neg z1).trans (by rw [e1, bd1_n])), fun β K => jn_e ((if_neg z).trans ?_)⟩
        rw [gi_n (by omega) (by omega), hcl9, v2, if_pos rfl, e2, bd1_n]
      · have z2 : ¬ nI v = nI 0 := fun e => cv ((nI_eq (by omega) (by omega)).mp e)
        refine ⟨cs2, ms2, 0, P2, by simp (disch := omega) only [lit, pk_mul, nI_add, ni_sub, ni_div, ni_rem, ni_cl, ni_pred, nmod, ↓reduceIte, ile_t, ile_f, ilt_t, ilt_f, ieq_t, ieq_f, if_true_n, if_false_n, gi_n, nm_n, jn_n, bd1_n, bd2_n, bd3_n, bd4_n, bd5_n, bd6_n, v1], fun β K => jn_e (if_pos rfl), fun β K => jn_e ((if_neg z).trans ?_)⟩
        rw [gi_n (by omega) (by omega), hcl9, v2, if_neg z2]
    · have z : nI w ≤ nI (c + 1) := nI_le (by omega) (by omega)
      exact ⟨cs2, ms2, 0, P2, by simp (disch := omega) only [lit, pk_mul, nI_add, ni_sub, ni_div, ni_rem, ni_cl, ni_pred, nmod, ↓reduceIte, ile_t, ile_f, ilt_t, ilt_f, ieq_t, ieq_f, if_true_n, if_false_n, gi_n, nm_n, jn_n, bd1_n, bd2_n, bd3_n, bd4_n, bd5_n, bd6_n], fun β K => jn_e (if_pos rfl), fun β K => jn_e (if_pos z)⟩
  obtain ⟨cs4, ms4, q4, P4, f0, f1, f2⟩ : ∃ (cs4 ms4 : Nat → Int32) (q4 : Nat), PR w h cs4 ms4 ∧ f_X3_isThereNotCoded (nI c) (nI (r + 1)) (nI w) (nI h) cm = some (nI q4) ∧ (if nI q4 = nI 0 then some cs3 else (bd1 (f_X3_smoothLevel (nI (c * 8)) (nI (r * 8 + 8)) lim (nI (w * 8)) cs3) fun x => some x)) = some cs4 ∧ (∀ (β : Type) (K : (Nat → Int32) → Option β), (if nI h ≤ nI (r + 1) then (K ms3) else (gi (nI (6 * r + c + 6)) 36 <| (if mm (nI (6 * r + c + 6)).toNatClampNeg = nI 0 then (bd1 (f_X7_smooth (nI (384 * r + 8 * c + 384)) (nI 48) (nI 1) lim ms3) fun x => K x) else (K ms3)))) = K ms4) := by
    unfold f_X3_isThereNotCoded f_X0_has f_X0_index f_X0_isCoded
    by_cases c0 : r + 1 < h
    · have hb2 := idx_lt (h := h) hc c0
      obtain ⟨v, hv, v1, v2⟩ := hM (r + 1) c c0 hc
      rw [show 6 * (r + 1) + c = 6 * r + c + 6 by omega] at v2
      have z : ¬ nI h ≤ nI (r + 1) := nI_ge c0 (by omega)
      have hcl9 : (nI (6 * r + c + 6)).toNatClampNeg = 6 * r + c + 6 := nI_clamp (by omega)
      by_cases cv : v = 0
      · subst cv
        obtain ⟨cs4, ms4, e1, e2, g⟩ := lev_ex (lim := lim) (x := c * 8) (y := r * 8 + 8) hw hh (by omega) (by omega) (by omega) P3
        rw [show 48 * (r * 8 + 8) + c * 8 = 384 * r + 8 * c + 384 by omega] at e2
        have z1 : ¬ nI 1 = nI 0 := fun e => absurd ((nI_eq (by omega) (by omega)).mp e) (by omega)
        refine ⟨cs4, ms4, 1, g, by simp (disch := omega) only [lit, pk_mul, nI_add, ni_sub, ni_div, ni_rem, ni_cl, ni_pred, nmod, ↓reduceIte, ile_t, ile_f, ilt_t, ilt_f, ieq_t, ieq_f, if_true_n, if_false_n, gi_n, nm_n, jn_n, bd1_n, bd2_n, bd3_n, bd4_n, bd5_n, bd6_n, v1], by rw [if_neg z1, e1, bd1_n], fun β K => (if_neg z).trans ?_⟩
        rw [gi_n (by omega) (by omega), hcl9, v2, if_pos rfl, e2, bd1_n]
      · have z2 : ¬ nI v = nI 0 := fun e => cv ((nI_eq (by omega) (by omega)).mp e)
        refine ⟨cs3, ms3, 0, P3, by simp (disch := omega) only [lit, pk_mul, nI_add, ni_sub, ni_div, ni_rem, ni_cl, ni_pred, nmod, ↓reduceIte, ile_t, ile_f, ilt_t, ilt_f, ieq_t, ieq_f, if_true_n, if_false_n, gi_n, nm_n, jn_n, bd1_n, bd2_n, bd3_n, bd4_n, bd5_n, bd6_n, v1], if_pos rfl, fun β K => (if_neg z).trans ?_⟩
        rw [gi_n (by omega) (by omega), hcl9, v2, if_neg z2]
    · have z : nI h ≤ nI (r + 1) := nI_le (by omega) (by omega)
      exact ⟨cs3, ms3, 0, P3, by simp (disch := omega) only [lit, pk_mul, nI_add, ni_sub, ni_div, ni_rem, ni_cl, ni_pred, nmod, ↓reduceIte, ile_t, ile_f, ilt_t, ilt_f, ieq_t, ieq_f, if_true_n, if_false_n, gi_n, nm_n, jn_n, bd1_n, bd2_n, bd3_n, bd4_n, bd5_n, bd6_n], if_pos rfl, fun β K => if_pos z⟩
  refine ⟨cs4, ms4, P4, ?_, fun α K => jn_e ((if_neg (nI_ge (show 0 < u by omega) (by omega))).trans ?_)⟩
  · unfold f_X3_smoothBlock
    simp only [litn, pk_mul, nI_add, nm_n]
    rw [a1, b1, d0, bd1_n, d1, f0, bd1_n, f1]
  · rw [a2, b2, d2, f2]
theorem scol {w h r : Nat} {lim : Int32} {cm mm : Nat → Int32} (hw : w < 7) (hh : h < 7) (hr : r < h) (hM : MO2 w h cm mm) : ∀ (k c n m : Nat) (cs ms : Nat → Int32), k + c = w → k < n → k < m → PR w h cs ms → ∃ cs' ms' : Nat → Int32, f_X3_smooth_L13 lim (nI (w * 8)) (nI w) (nI h) cm (nI r) n cs (nI c) = some cs' ∧ f_X7_smoothAll_L19 (nI w) (nI h) lim mm (nI r) m ms (nI c) = some ms' ∧ PR w h cs' ms'
  | 0, c, n, m, cs, ms, hi, hn, hm, hP => by
    obtain ⟨n, rfl⟩ : ∃ j, n = j + 1 := ⟨n - 1, by omega⟩
    obtain ⟨m, rfl⟩ : ∃ j, m = j + 1 := ⟨m - 1, by omega⟩
    refine ⟨cs, ms, ?_, ?_, hP⟩
    · rw [f_X3_smooth_L13]
      unfold f_X0_columns
      simp (disch := omega) only [lit, pk_mul, nI_add, ni_sub, ni_div, ni_rem, ni_cl, ni_pred, nmod, ↓reduceIte, ile_t, ile_f, ilt_t, ilt_f, ieq_t, ieq_f, if_true_n, if_false_n, gi_n, nm_n, jn_n, bd1_n, bd2_n, bd3_n, bd4_n, bd5_n, bd6_n]
    · rw [f_X7_smoothAll_L19]; simp (disch := omega) only [lit, pk_mul, nI_add, ni_sub, ni_div, ni_rem, ni_cl, ni_pred, nmod, ↓reduceIte, ile_t, ile_f, ilt_t, ilt_f, ieq_t, ieq_f, if_true_n, if_false_n, gi_n, nm_n, jn_n, bd1_n, bd2_n, bd3_n, bd4_n, bd5_n, bd6_n]
  | k + 1, c, n, m, cs, ms, hi, hn, hm, hP => by
    obtain ⟨n, rfl⟩ : ∃ j, n = j + 1 := ⟨n - 1, by omega⟩
    obtain ⟨m, rfl⟩ : ∃ j, m = j + 1 := ⟨m - 1, by omega⟩
    have hc : c < w := by omega
    have hle := wh_le hw hh
    have hb := idx_lt (h := h) hc hr
    obtain ⟨u, hu, e1, e2⟩ := hM r c hr hc
    by_cases cu : u = 0
    · subst cu
      obtain ⟨cs', ms', f1, f2, g⟩ := scol (lim := lim) hw hh hr hM k (c + 1) n m cs ms (by omega) (by omega) (by omega) hP
      refine ⟨cs', ms', ?_, ?_, g⟩
      · rw [f_X3_smooth_L13]
        unfold f_X0_columns f_X0_index f_X0_isCoded
        simp (disch := omega) only [lit, pk_mul, nI_add, ni_sub, ni_div, ni_rem, ni_cl, ni_pred, nmod, ↓reduceIte, ile_t, ile_f, ilt_t, ilt_f, ieq_t, ieq_f, if_true_n, if_false_n, gi_n, ↓nm_n, ↓jn_n, bd1_n, bd2_n, bd3_n, bd4_n, bd5_n, bd6_n, e1, f1]
      · rw [f_X7_smoothAll_L19]
        simp (disch := omega) only [lit, pk_mul, nI_add, ni_sub, ni_div, ni_rem, ni_cl, ni_pred, nmod, ↓reduceIte, ile_t, ile_f, ilt_t, ilt_f, ieq_t, ieq_f, if_true_n, if_false_n, gi_n, ↓nm_n, ↓jn_n, bd1_n, bd2_n, bd3_n, bd4_n, bd5_n, bd6_n, e2, f2]
    · obtain ⟨cs1, ms1, P1, s1, s2⟩ := sblk (lim := lim) hw hh hc hr hM hu cu hP
      obtain ⟨cs', ms', f1, f2, g⟩ := scol (lim := lim) hw hh hr hM k (c + 1) n m cs1 ms1 (by omega) (by omega) (by omega) P1
      refine ⟨cs', ms', ?_, ?_, g⟩
      · rw [f_X3_smooth_L13]
        unfold f_X0_columns f_X0_index f_X0_isCoded
        simp (disch := omega) only [lit, pk_mul, nI_add, ni_sub, ni_div, ni_rem, ni_cl, ni_pred, nmod, ↓reduceIte, ile_t, ile_f, ilt_t, ilt_f, ieq_t, ieq_f, if_true_n, if_false_n, gi_n, ↓nm_n, ↓jn_n, bd1_n, bd2_n, bd3_n, bd4_n, bd5_n, bd6_n, e1, s1, f1]
      · rw [f_X7_smoothAll_L19]
        simp (disch := omega) only [litn, pk_mul, nI_add, ↓reduceIte, ile_f, if_false_n, ↓nm_n]
        rw [gi_n (show 6 * r + c < 36 by omega) (by omega), nI_clamp (n := 6 * r + c) (by omega), e2, s2]
        simp (disch := omega) only [lit, pk_mul, nI_add, ni_sub, ni_div, ni_rem, ni_cl, ni_pred, nmod, ↓nm_n, f2]
theorem srow {w h l : Nat} {cm mm : Nat → Int32} (hw : w < 7) (hh : h < 7) (hl : l < 32) (hl0 : l ≠ 0) (hM : MO2 w h cm mm) : ∀ (k r n m : Nat) (cs ms : Nat → Int32), k + r = h → k < n → k < m → PR w h cs ms → ∃ cs' ms' : Nat → Int32, f_X3_smooth_L2 (nI l) (nI (w * 8)) (nI w) (nI h) cm n cs (nI r) = some cs' ∧ f_X7_smoothAll_L2 (nI w) (nI h) (nI l) mm m ms (nI r) = some ms' ∧ PR w h cs' ms'
  | 0, r, n, m, cs, ms, hi, hn, hm, hP => by
    obtain ⟨n, rfl⟩ : ∃ j, n = j + 1 := ⟨n - 1, by omega⟩
    obtain ⟨m, rfl⟩ : ∃ j, m = j + 1 := ⟨m - 1, by omega⟩
    refine ⟨cs, ms, ?_, ?_, hP⟩
    · rw [f_X3_smooth_L2]
      unfold f_X0_rows
      simp (disch := omega) only [lit, pk_mul, nI_add, ni_sub, ni_div, ni_rem, ni_cl, ni_pred, nmod, ↓reduceIte, ile_t, ile_f, ilt_t, ilt_f, ieq_t, ieq_f, if_true_n, if_false_n, gi_n, nm_n, jn_n, bd1_n, bd2_n, bd3_n, bd4_n, bd5_n, bd6_n]
    · rw [f_X7_smoothAll_L2]; simp (disch := omega) only [lit, pk_mul, nI_add, ni_sub, ni_div, ni_rem, ni_cl, ni_pred, nmod, ↓reduceIte, ile_t, ile_f, ilt_t, ilt_f, ieq_t, ieq_f, if_true_n, if_false_n, gi_n, nm_n, jn_n, bd1_n, bd2_n, bd3_n, bd4_n, bd5_n, bd6_n]
  | k + 1, r, n, m, cs, ms, hi, hn, hm, hP => by
    obtain ⟨n, rfl⟩ : ∃ j, n = j + 1 := ⟨n - 1, by omega⟩
    obtain ⟨m, rfl⟩ : ∃ j, m = j + 1 := ⟨m - 1, by omega⟩
    obtain ⟨cs1, ms1, e1, e2, P1⟩ := scol (lim := nI l) hw hh (show r < h by omega) hM w 0 4000 4000 cs ms (by omega) (by omega) (by omega) hP
    obtain ⟨cs', ms', f1, f2, g⟩ := srow hw hh hl hl0 hM k (r + 1) n m cs1 ms1 (by omega) (by omega) (by omega) P1
    refine ⟨cs', ms', ?_, ?_, g⟩
    · rw [f_X3_smooth_L2]
      unfold f_X0_rows
      simp (disch := omega) only [lit, pk_mul, nI_add, ni_sub, ni_div, ni_rem, ni_cl, ni_pred, nmod, ↓reduceIte, ile_t, ile_f, ilt_t, ilt_f, ieq_t, ieq_f, if_true_n, if_false_n, gi_n, nm_n, jn_n, bd1_n, bd2_n, bd3_n, bd4_n, bd5_n, bd6_n, e1, f1]
    · rw [f_X7_smoothAll_L2]
      simp (disch := omega) only [lit, pk_mul, nI_add, ni_sub, ni_div, ni_rem, ni_cl, ni_pred, nmod, ↓reduceIte, ile_t, ile_f, ilt_t, ilt_f, ieq_t, ieq_f, if_true_n, if_false_n, gi_n, nm_n, jn_n, bd1_n, bd2_n, bd3_n, bd4_n, bd5_n, bd6_n, e2, f2]
theorem smooth_ex {w h l : Nat} {cm mm cs ms : Nat → Int32} (hw : w < 7) (hh : h < 7) (hh0 : 0 < h) (hl : l < 32) (hM : MO2 w h cm mm) (hP : PR w h cs ms) : ∃ cs' ms' : Nat → Int32, PR w h cs' ms' ∧ (if nI l = nI 0 then some cs else f_X3_smooth (nI l) (nI (w * 8)) cs (nI w) (nI h) cm) = some cs' ∧ f_X7_smoothAll (nI w) (nI h) (nI l) ms mm = some ms' := by
  by_cases c : l = 0
  · subst c
    refine ⟨cs, ms, hP, by rw [if_pos rfl], ?_⟩
    unfold f_X7_smoothAll
    rw [show (4000 : Nat) = 3999 + 1 from rfl, f_X7_smoothAll_L2]
    simp (disch := omega) only [lit, pk_mul, nI_add, ni_sub, ni_div, ni_rem, ni_cl, ni_pred, nmod, ↓reduceIte, ile_t, ile_f, ilt_t, ilt_f, ieq_t, ieq_f, if_true_n, if_false_n, gi_n, nm_n, jn_n, bd1_n, bd2_n, bd3_n, bd4_n, bd5_n, bd6_n]
  · obtain ⟨cs', ms', f1, f2, g⟩ := srow hw hh hl c hM h 0 4000 4000 cs ms (by omega) (by omega) (by omega) hP
    refine ⟨cs', ms', g, ?_, ?_⟩
    · rw [if_neg (fun e => c ((nI_eq (by omega) (by omega)).mp e))]
      unfold f_X3_smooth
      simp (disch := omega) only [lit, pk_mul, nI_add, ni_sub, ni_div, ni_rem, ni_cl, ni_pred, nmod, ↓reduceIte, ile_t, ile_f, ilt_t, ilt_f, ieq_t, ieq_f, if_true_n, if_false_n, gi_n, nm_n, jn_n, bd1_n, bd2_n, bd3_n, bd4_n, bd5_n, bd6_n, f1]
    · unfold f_X7_smoothAll
      simp (disch := omega) only [lit, pk_mul, nI_add, ni_sub, ni_div, ni_rem, ni_cl, ni_pred, nmod, ↓reduceIte, ile_t, ile_f, ilt_t, ilt_f, ieq_t, ieq_f, if_true_n, if_false_n, gi_n, nm_n, jn_n, bd1_n, bd2_n, bd3_n, bd4_n, bd5_n, bd6_n, f2]
