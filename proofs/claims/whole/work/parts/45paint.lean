/-! The pure side, 17: painting. -/
/-- a picture, of the class and of the reference -/
def PR (w h : Nat) (cs ms : Nat → Int32) : Prop := ∀ y x, y < h * 8 → x < w * 8 → ∃ v : Nat, v < 256 ∧ cs (y * (w * 8) + x) = nI v ∧ ms (48 * y + x) = nI v
theorem pix_lt {w h x y : Nat} (hw : w < 7) (hh : h < 7) (hx : x < w * 8) (hy : y < h * 8) : y * (w * 8) + x < 2304 ∧ 48 * y + x < 2304 := by
  have h1 : (y + 1) * (w * 8) ≤ 48 * 48 := Nat.mul_le_mul (by omega) (by omega)
  rw [Nat.add_mul, Nat.one_mul] at h1
  exact ⟨by omega, by omega⟩
theorem pix_ne {W a b x y : Nat} (hx : x < W) (ha : a < W) (h : ¬ (x = a ∧ y = b)) : y * W + x ≠ b * W + a := fun e => h (idx_inj hx ha e)
theorem PR_up {w h x y v : Nat} {cs ms : Nat → Int32} (hw : w < 7) (hP : PR w h cs ms) (hx : x < w * 8) (hv : v < 256) : PR w h (upd cs (y * (w * 8) + x) (nI v)) (upd ms (48 * y + x) (nI v)) := by
  intro b a hb ha
  by_cases c : a = x ∧ b = y
  · obtain ⟨rfl, rfl⟩ := c
    exact ⟨v, hv, pk_us, pk_us⟩
  · rw [pk_un (pix_ne ha hx c), pk_un (by omega)]
    exact hP b a hb ha
theorem cl_in {j n : Nat} (h : j < n) (hn : n < 2147483648) : cl (nI 0) (nI (n - 1)) (nI j) = nI j := by
  unfold cl
  rw [if_neg (nI_nlt (by omega) (by omega)), if_neg (nI_nlt (by omega) (by omega))]
theorem cl_byte (x : Int32) : ∃ v : Nat, v < 256 ∧ cl (nI 0) (nI 255) x = nI v := cl_ix (n := 256) x (by omega) (by omega)
theorem cl_byte_in {v : Nat} (h : v < 256) : cl (nI 0) (nI 255) (nI v) = nI v := cl_in (n := 256) h (by omega)
theorem at_ex {w h : Nat} {cs ms : Nat → Int32} (hw : w < 7) (hh : h < 7) (hw0 : 0 < w) (hh0 : 0 < h) (hP : PR w h cs ms) (X Y : Int32) : ∃ v : Nat, v < 256 ∧ f_X3_at X Y (nI (w * 8)) (nI (h * 8)) cs = some (nI v) ∧ f_X7_before X Y (nI w) (nI h) ms = some (nI v) := by
  obtain ⟨b, hb, eb⟩ := cl_ix Y (n := h * 8) (by omega) (by omega)
  obtain ⟨a, ha, ea⟩ := cl_ix X (n := w * 8) (by omega) (by omega)
  obtain ⟨v, hv, e1, e2⟩ := hP b a hb ha
  obtain ⟨l1, l2⟩ := pix_lt hw hh ha hb
  have k1 : f_X6_bring Y (nI 0) (nI (h * 8 - 1)) = some (nI b) := by rw [bring_cl (nI_le0 (by omega) (by omega)), eb]
  have k2 : f_X6_bring X (nI 0) (nI (w * 8 - 1)) = some (nI a) := by rw [bring_cl (nI_le0 (by omega) (by omega)), ea]
  have k3 : f_X7_within Y (nI 0) (nI (8 * h - 1)) = some (nI b) := by rw [within_cl (nI_le0 (by omega) (by omega)), Nat.mul_comm 8 h, eb]
  have k4 : f_X7_within X (nI 0) (nI (8 * w - 1)) = some (nI a) := by rw [within_cl (nI_le0 (by omega) (by omega)), Nat.mul_comm 8 w, ea]
  refine ⟨v, hv, ?_, ?_⟩
  · unfold f_X3_at
    simp (disch := omega) only [lit, pk_mul, nI_add, ni_sub, ni_div, ni_rem, ni_cl, ni_pred, nmod, ↓reduceIte, ile_t, ile_f, ilt_t, ilt_f, ieq_t, ieq_f, if_true_n, if_false_n, gi_n, nm_n, jn_n, bd1_n, bd2_n, bd3_n, bd4_n, bd5_n, bd6_n, k1, k2, e1]
  · unfold f_X7_before
    simp (disch := omega) only [lit, pk_mul, nI_add, ni_sub, ni_div, ni_rem, ni_cl, ni_pred, nmod, ↓reduceIte, ile_t, ile_f, ilt_t, ilt_f, ieq_t, ieq_f, if_true_n, if_false_n, gi_n, nm_n, jn_n, bd1_n, bd2_n, bd3_n, bd4_n, bd5_n, bd6_n, k3, k4, e2]
theorem at_in {w h x y : Nat} {cs ms : Nat → Int32} (hw : w < 7) (hh : h < 7) (hP : PR w h cs ms) (hx : x < w * 8) (hy : y < h * 8) : f_X3_at (nI x) (nI y) (nI (w * 8)) (nI (h * 8)) cs = some (cs (y * (w * 8) + x)) := by
  obtain ⟨l1, l2⟩ := pix_lt hw hh hx hy
  have k1 : f_X6_bring (nI y) (nI 0) (nI (h * 8 - 1)) = some (nI y) := by rw [bring_cl (nI_le0 (by omega) (by omega)), cl_in hy (by omega)]
  have k2 : f_X6_bring (nI x) (nI 0) (nI (w * 8 - 1)) = some (nI x) := by rw [bring_cl (nI_le0 (by omega) (by omega)), cl_in hx (by omega)]
  unfold f_X3_at
  simp (disch := omega) only [lit, pk_mul, nI_add, ni_sub, ni_div, ni_rem, ni_cl, ni_pred, nmod, ↓reduceIte, ile_t, ile_f, ilt_t, ilt_f, ieq_t, ieq_f, if_true_n, if_false_n, gi_n, nm_n, jn_n, bd1_n, bd2_n, bd3_n, bd4_n, bd5_n, bd6_n, k1, k2]
theorem sh00 : nI 0 >>> (nI 1 &&& nI 31) = nI 0 ∧ (nI 1) >>> (nI 1 &&& nI 31) = nI 0 := by decide +kernel
/-- not moved: the sample itself -/
theorem moved_id {w h x y : Nat} {cs ms : Nat → Int32} (hw : w < 7) (hh : h < 7) (hP : PR w h cs ms) (hx : x < w * 8) (hy : y < h * 8) : f_X2_moved (nI x) (nI y) (nI 0) (nI 0) (nI (w * 8)) (nI (h * 8)) cs = some (cs (y * (w * 8) + x)) := by
  have k := at_in hw hh hP hx hy
  obtain ⟨v, hv, e1, e2⟩ := hP y x hy hx
  unfold f_X2_moved
  simp (disch := omega) only [lit, pk_mul, nI_add, ni_sub, ni_div, ni_rem, ni_cl, ni_pred, nmod, Nat.zero_add, sh00.1, sh00.2, add0_9, Nat.add_zero, gi_n, nm_n, jn_n, bd1_n, bd2_n, bd3_n, bd4_n, bd5_n, bd6_n, k, e1]
  rw [show (v + v) / 2 = v by omega]
/-- what is under the sample (x, y) -/
def UC (w h u : Nat) (v z : Int32) (ps : Nat → Int32) (x y : Nat) : Int32 := if u = 2 then nI 128 else (f_X2_moved (nI x) (nI y) v z (nI (w * 8)) (nI (h * 8)) ps).getD 0
theorem moved_ex {w h : Nat} {cs ms : Nat → Int32} (hw : w < 7) (hh : h < 7) (hw0 : 0 < w) (hh0 : 0 < h) (hP : PR w h cs ms) (x y : Nat) (v z : Int32) : ∃ k : Nat, k < 256 ∧ f_X2_moved (nI x) (nI y) v z (nI (w * 8)) (nI (h * 8)) cs = some (nI k) ∧ bd1 (f_X7_before (nI x + (v >>> (nI 1 &&& nI 31))) (nI y + (z >>> (nI 1 &&& nI 31))) (nI w) (nI h) ms) (fun a => bd1 (f_X7_before (nI x + ((v + nI 1) >>> (nI 1 &&& nI 31))) (nI y + ((z + nI 1) >>> (nI 1 &&& nI 31))) (nI w) (nI h) ms) (fun b => some ((a + b) / nI 2))) = some (nI k) := by
  obtain ⟨a, ha, a1, a2⟩ := at_ex hw hh hw0 hh0 hP (nI x + (v >>> (nI 1 &&& nI 31))) (nI y + (z >>> (nI 1 &&& nI 31)))
  obtain ⟨b, hb, b1, b2⟩ := at_ex hw hh hw0 hh0 hP (nI x + ((v + nI 1) >>> (nI 1 &&& nI 31))) (nI y + ((z + nI 1) >>> (nI 1 &&& nI 31)))
  refine ⟨(a + b) / 2, by omega, ?_, ?_⟩
  · unfold f_X2_moved
    simp only [lit]
    rw [a1, bd1_n, b1, bd1_n, nI_add, ni_div (by omega) (by omega) (by omega)]
  · rw [a2, bd1_n, b2, bd1_n, nI_add, ni_div (by omega) (by omega) (by omega)]
theorem base_ex {w h u b x y : Nat} {v z : Int32} {pv gd mpv mgd mm ma md : Nat → Int32} (hw : w < 7) (hh : h < 7) (hw0 : 0 < w) (hh0 : 0 < h) (hx : x < w * 8) (hy : y < h * 8) (hb : b < 36) (hu : u < 5) (e1 : mm b = nI u) (e2 : ma b = v) (e3 : md b = z) (h3 : u ≠ 3 → v = nI 0 ∧ z = nI 0) (hP : u ≠ 2 → PR w h pv mpv ∧ PR w h gd mgd) :
    f_X7_base (nI b) (nI x) (nI y) (nI w) (nI h) mpv mgd mm ma md = some (UC w h u v z (if u = 4 then gd else pv) x y) := by
  obtain ⟨l1, l2⟩ := pix_lt hw hh hx hy
  unfold f_X7_base UC
  by_cases c2 : u = 2
  · subst c2
    rw [if_pos rfl]
    simp (disch := omega) only [lit, pk_mul, nI_add, ni_sub, ni_div, ni_rem, ni_cl, ni_pred, nmod, ↓reduceIte, ile_t, ile_f, ilt_t, ilt_f, ieq_t, ieq_f, if_true_n, if_false_n, gi_n, e1]
  · rw [if_neg c2]
    obtain ⟨P1, P2⟩ := hP c2
    by_cases c4 : u = 4
    · subst c4
      obtain ⟨rfl, rfl⟩ := h3 (by omega)
      rw [if_pos rfl, moved_id hw hh P2 hx hy]
      obtain ⟨k, hk, g1, g2⟩ := P2 y x hy hx
      simp (disch := omega) only [lit, pk_mul, nI_add, ni_sub, ni_div, ni_rem, ni_cl, ni_pred, nmod, ↓reduceIte, ile_t, ile_f, ilt_t, ilt_f, ieq_t, ieq_f, if_true_n, if_false_n, gi_n, e1, g2]
      rw [g1]
      rfl
    · rw [if_neg c4]
      obtain ⟨k, hk, g1, g2⟩ := moved_ex hw hh hw0 hh0 P1 x y v z
      rw [g1]
      simp (disch := omega) only [lit, ni_cl, ↓reduceIte, ile_t, ile_f, ilt_t, ilt_f, ieq_t, ieq_f, if_true_n, if_false_n, gi_n, nm_n, e1, e2, e3]
      exact g2
theorem SS_0 (x : Nat) : ∀ n : Nat, SS (fun _ => 0) x n = 16384
  | 0 => rfl
  | n + 1 => by
    show SS (fun _ => 0) x n + (WAVEST (x * 8 + n)).toInt64 * 0 = 16384
    rw [SS_0 x n, Int64.mul_zero, Int64.add_zero]
theorem sh16 : SH 16384 = 0 := by decide +kernel
theorem zq0 (f : Int32) : cl (-nI 32768) (nI 32767) (nI 0 * f) = nI 0 := by
  have : nI 0 * f = nI 0 := Int32.zero_mul
  rw [this]
  decide +kernel
theorem AD_0 {g F : Nat → Int32} (hg : ∀ q, q < 64 → g q = nI 0) {y c : Nat} (hc : c < 8) : AD (fun j => ZQ g F (ZI j)) y c = nI 0 := by
  have k1 : ∀ k, k < 8 → (SR (fun j => ZQ g F (ZI j)) k c).toInt64 = 0 := by
    intro k hk
    unfold SR
    rw [SS_congr (H := fun _ => 0) 8 (fun j hj => ?_), SS_0, sh16]
    · rfl
    · show (ZQ g F (ZI (k * 8 + j))).toInt64 = 0
      unfold ZQ
      rw [hg _ (zi_c _ (by omega)).1, zq0]
      rfl
  unfold AD
  rw [SS_congr (H := fun _ => 0) 8 k1, SS_0, sh16]
  rfl
/-- the painted sample -/
def PV (w h : Nat) (cm ca cd : Nat → Int32) (cg : Nat → Nat → Int32) (st sc : Nat → Int32) (s : Nat) (pv gd : Nat → Int32) (y x : Nat) : Int32 :=
  cl (nI 0) (nI 255) (UC w h (cm (y / 8 * w + x / 8)).toNatClampNeg (ca (y / 8 * w + x / 8)) (cd (y / 8 * w + x / 8)) (if (cm (y / 8 * w + x / 8)).toNatClampNeg = 4 then gd else pv) x y + AD (fun j => ZQ (cg (y / 8 * w + x / 8)) (FC st sc s) (ZI j)) (y % 8) (x % 8))
theorem pblk {w h c r u b : Nat} {pw ph v z : Int32} {cm ca cd ps sq : Nat → Int32} (hw : w < 7) (hh : h < 7) (hc : c < w) (hr : r < h) (hb : b < 36) (hu : u < 5) (e1 : cm b = nI u) (e2 : ca b = v) (e3 : cd b = z) (hP : u ≠ 2 → pw = nI (w * 8) ∧ ph = nI (h * 8) ∧ ∃ ms, PR w h ps ms) : ∀ (k i n : Nat) (ns : Nat → Int32), k + i = 64 → k < n →
    ∃ ns' : Nat → Int32, f_X2_paintBlock_L11 (nI c) (nI r) sq cm ca cd pw ph ps (nI (w * 8)) (nI b) n ns (nI i) = some ns' ∧
      (∀ y x, x < w * 8 → (x / 8 ≠ c ∨ y / 8 ≠ r ∨ y % 8 * 8 + x % 8 < i) → ns' (y * (w * 8) + x) = ns (y * (w * 8) + x)) ∧
      (∀ y x, x < w * 8 → x / 8 = c → y / 8 = r → i ≤ y % 8 * 8 + x % 8 → ns' (y * (w * 8) + x) = cl (nI 0) (nI 255) (UC w h u v z ps x y + sq (y % 8 * 8 + x % 8)))
  | 0, i, n, ns, hi, hn => by
    obtain ⟨n, rfl⟩ : ∃ j, n = j + 1 := ⟨n - 1, by omega⟩
    refine ⟨ns, ?_, fun _ _ _ _ => rfl, fun y x h1 h2 h3 h4 => absurd h4 (by omega)⟩
    rw [f_X2_paintBlock_L11]; simp (disch := omega) only [lit, pk_mul, nI_add, ni_sub, ni_div, ni_rem, ni_cl, ni_pred, nmod, ↓reduceIte, ile_t, ile_f, ilt_t, ilt_f, ieq_t, ieq_f, if_true_n, if_false_n, gi_n, nm_n, jn_n, bd1_n, bd2_n, bd3_n, bd4_n, bd5_n, bd6_n]
  | k + 1, i, n, ns, hi, hn => by
    obtain ⟨n, rfl⟩ : ∃ j, n = j + 1 := ⟨n - 1, by omega⟩
    have hX : c * 8 + i % 8 < w * 8 := by omega
    have hY : r * 8 + i / 8 < h * 8 := by omega
    obtain ⟨l1, l2⟩ := pix_lt hw hh hX hY
    obtain ⟨ns', e, h1, h2⟩ := pblk (sq := sq) hw hh hc hr hb hu e1 e2 e3 hP k (i + 1) n (upd ns ((r * 8 + i / 8) * (w * 8) + (c * 8 + i % 8)) (cl (nI 0) (nI 255) (UC w h u v z ps (c * 8 + i % 8) (r * 8 + i / 8) + sq i))) (by omega) (by omega)
    have hput : f_X3_put (nI (c * 8 + i % 8)) (nI (r * 8 + i / 8)) (UC w h u v z ps (c * 8 + i % 8) (r * 8 + i / 8) + sq i) (nI (w * 8)) ns = some (upd ns ((r * 8 + i / 8) * (w * 8) + (c * 8 + i % 8)) (cl (nI 0) (nI 255) (UC w h u v z ps (c * 8 + i % 8) (r * 8 + i / 8) + sq i))) := by
      unfold f_X3_put
      have k1 := bring_cl (x := UC w h u v z ps (c * 8 + i % 8) (r * 8 + i / 8) + sq i) (nI_le0 (show 0 ≤ 255 by omega) (by omega))
      simp (disch := omega) only [lit, pk_mul, nI_add, ni_sub, ni_div, ni_rem, ni_cl, ni_pred, nmod, ↓reduceIte, ile_t, ile_f, ilt_t, ilt_f, ieq_t, ieq_f, if_true_n, if_false_n, gi_n, nm_n, jn_n, bd1_n, bd2_n, bd3_n, bd4_n, bd5_n, bd6_n, k1]
    refine ⟨ns', ?_, fun y x hx hq => ?_, fun y x hx hq1 hq2 hq3 => ?_⟩
    · rw [f_X2_paintBlock_L11]
      unfold f_X0_mode f_X0_across f_X0_down
      by_cases cu : u = 2
      · subst cu
        have hU : UC w h 2 v z ps (c * 8 + i % 8) (r * 8 + i / 8) = nI 128 := if_pos rfl
        rw [hU] at hput
        simp (disch := omega) only [lit, pk_mul, nI_add, ni_div, ni_sub, nmod, ni_cl, ↓reduceIte, ile_t, ile_f, ilt_t, ilt_f, ieq_t, ieq_f, if_true_n, if_false_n, gi_n, ↓nm_n, ↓jn_n, bd1_n, bd2_n, bd3_n, bd4_n, bd5_n, bd6_n, e1, hput]
        rw [hU] at e
        exact e
      · obtain ⟨rfl, rfl, ms, hPR⟩ := hP cu
        obtain ⟨q, hq, g1, g2⟩ := moved_ex hw hh (by omega) (by omega) hPR (c * 8 + i % 8) (r * 8 + i / 8) v z
        have hU : UC w h u v z ps (c * 8 + i % 8) (r * 8 + i / 8) = nI q := by
          unfold UC
          rw [if_neg cu, g1]
          rfl
        rw [hU] at hput
        simp (disch := omega) only [lit, pk_mul, nI_add, ni_div, ni_sub, nmod, ni_cl, ↓reduceIte, ile_t, ile_f, ilt_t, ilt_f, ieq_t, ieq_f, if_true_n, if_false_n, gi_n, ↓nm_n, ↓jn_n, bd1_n, bd2_n, bd3_n, bd4_n, bd5_n, bd6_n, e1, e2, e3, g1, hput]
        rw [hU] at e
        exact e
    · rw [h1 y x hx (by omega), pk_un (pix_ne hx hX (by omega))]
    · by_cases cc : y % 8 * 8 + x % 8 = i
      · have ex : x = c * 8 + i % 8 := by omega
        have ey : y = r * 8 + i / 8 := by omega
        rw [h1 y x hx (by omega), cc, ex, ey, pk_us]
      · exact h2 y x hx hq1 hq2 (by omega)
