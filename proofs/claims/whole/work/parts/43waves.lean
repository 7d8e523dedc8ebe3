/-! The pure side, 15: steps, places, and the sums of waves. -/
theorem litn (n : Nat) : (OfNat.ofNat n : Int32) = nI n := Eq.trans (Eq.refl _) (Eq.refl _)
theorem jn_e {κ β : Type} {body : κ → Option β} {k : κ} {r : Option β} (h : body k = r) : jn body k = r := jn_n.trans h
def cl (lo hi x : Int32) : Int32 := if x < lo then lo else if hi < x then hi else x
theorem bring_cl {lo hi x : Int32} (h : lo.toInt ≤ hi.toInt) : f_X6_bring x lo hi = some (cl lo hi x) := by
  unfold f_X6_bring cl
  simp only [Int32.lt_iff_toInt_lt]
  apply congrArg
  by_cases a : x.toInt < hi.toInt
  · simp only [if_pos a]
    by_cases b : lo.toInt < x.toInt
    · rw [if_pos b, if_neg (by omega), if_neg (by omega)]
    · rw [if_neg b]
      by_cases c : x.toInt < lo.toInt
      · rw [if_pos c]
      · rw [if_neg c, if_neg (by omega)]
        exact Int32.toInt_inj.mp (by omega)
  · simp only [if_neg a]
    by_cases b : lo.toInt < hi.toInt
    · rw [if_pos b, if_neg (by omega)]
      by_cases c : hi.toInt < x.toInt
      · rw [if_pos c]
      · rw [if_neg c]
        exact Int32.toInt_inj.mp (by omega)
    · rw [if_neg b]
      by_cases c : x.toInt < lo.toInt
      · rw [if_pos c]
      · rw [if_neg c]
        by_cases d : hi.toInt < x.toInt
        · rw [if_pos d]
          exact Int32.toInt_inj.mp (by omega)
        · rw [if_neg d]
          exact Int32.toInt_inj.mp (by omega)
theorem within_cl {lo hi x : Int32} (h : lo.toInt ≤ hi.toInt) : f_X7_within x lo hi = some (cl lo hi x) := by
  unfold f_X7_within cl
  simp only [Int32.lt_iff_toInt_lt, Int32.le_iff_toInt_le]
  by_cases a : lo.toInt ≤ x.toInt
  · rw [if_pos a, if_neg (show ¬ x.toInt < lo.toInt by omega)]
    by_cases b : x.toInt ≤ hi.toInt
    · rw [if_pos b, if_neg (show ¬ hi.toInt < x.toInt by omega)]
    · rw [if_neg b, if_pos (show hi.toInt < x.toInt by omega)]
  · rw [if_neg a, if_pos (show x.toInt < lo.toInt by omega)]
theorem cl_ix {n : Nat} (x : Int32) (hn : 0 < n) (hn2 : n < 2147483648) : ∃ a : Nat, a < n ∧ cl (nI 0) (nI (n - 1)) x = nI a := by
  unfold cl
  rcases pk_ix x hn2 with h | h | ⟨j, hj, rfl⟩
  · exact ⟨0, hn, by rw [if_pos (show x < nI 0 from h)]⟩
  · refine ⟨n - 1, by omega, ?_⟩
    have h2 : nI (n - 1) < x := by
      rw [Int32.lt_iff_toInt_lt, nI_toInt (by omega)]
      rw [Int32.le_iff_toInt_le, nI_toInt (by omega)] at h
      omega
    have h1 : ¬ x < nI 0 := by
      rw [Int32.lt_iff_toInt_lt, nI_toInt (by omega)]
      rw [Int32.lt_iff_toInt_lt, nI_toInt (by omega)] at h2
      omega
    rw [if_neg h1, if_pos h2]
  · refine ⟨j, hj, ?_⟩
    rw [if_neg (nI_nlt (by omega) (by omega)), if_neg (nI_nlt (by omega) (by omega))]
theorem nI_le0 {a b : Nat} (h : a ≤ b) (hb : b < 2147483648) : (nI a).toInt ≤ (nI b).toInt := by
  rw [nI_toInt (by omega), nI_toInt (by omega)]; omega
theorem cl_bd {lo hi x : Int32} (h : lo.toInt ≤ hi.toInt) : lo.toInt ≤ (cl lo hi x).toInt ∧ (cl lo hi x).toInt ≤ hi.toInt := by
  unfold cl
  by_cases a : x < lo
  · rw [if_pos a]; omega
  · rw [if_neg a]
    rw [Int32.lt_iff_toInt_lt] at a
    by_cases b : hi < x
    · rw [if_pos b]; omega
    · rw [if_neg b]
      rw [Int32.lt_iff_toInt_lt] at b
      omega
theorem c32768 : (-nI 32768).toInt = -32768 := by decide +kernel
theorem c32767 : (nI 32767).toInt = 32767 := by decide +kernel
/-- a number times its step, in ints and in longs -/
theorem cl_long {α : Type} {a f : Int32} (ha : sm 23000 a) (hf : 2 ≤ f.toInt ∧ f.toInt ≤ 4096) (K : Int64 → Option α) :
    jn (fun (k : Int64 → Option α) => (if nI 0 ≤ lg_cmp (Int32.toInt64 a * Int32.toInt64 f) (-32768) then (if lg_cmp (Int32.toInt64 a * Int32.toInt64 f) 32767 ≤ nI 0 then k (Int32.toInt64 a * Int32.toInt64 f) else k 32767) else k (-32768))) K = K (Int32.toInt64 (cl (-nI 32768) (nI 32767) (a * f))) := by
  refine jn_e ?_
  show (if nI 0 ≤ lg_cmp (Int32.toInt64 a * Int32.toInt64 f) (-32768) then (if lg_cmp (Int32.toInt64 a * Int32.toInt64 f) 32767 ≤ nI 0 then K (Int32.toInt64 a * Int32.toInt64 f) else K 32767) else K (-32768)) = _
  rw [smi (by omega)] at ha
  have hb : (a.toInt * f.toInt).natAbs ≤ 23000 * 4096 := by
    rw [Int.natAbs_mul]
    exact Nat.mul_le_mul (by omega) (by omega)
  obtain ⟨P, hP⟩ : ∃ P, P = a.toInt * f.toInt := ⟨_, rfl⟩
  rw [← hP] at hb
  have e32 : (a * f).toInt = P := by
    rw [Int32.toInt_mul, ← hP, Int.bmod_eq_of_le (by omega) (by omega)]
  obtain ⟨v, hv⟩ : ∃ v, v = Int32.toInt64 a * Int32.toInt64 f := ⟨_, rfl⟩
  have e64 : v.toInt = P := by
    rw [hv, Int64.toInt_mul, Int32.toInt_toInt64, Int32.toInt_toInt64, ← hP, Int.bmod_eq_of_le (by omega) (by omega)]
  rw [← hv]
  have k1 : (-32768 : Int64).toInt = -32768 := by decide +kernel
  have k2 : (32767 : Int64).toInt = 32767 := by decide +kernel
  have z1 : (nI 0 : Int32) = 0 := rfl
  unfold lg_cmp cl
  simp only [GT.gt, Int64.lt_iff_toInt_lt, Int32.lt_iff_toInt_lt, e32, e64, k1, k2, c32768, c32767]
  by_cases h1 : P < -32768
  · have q1 : ¬ (-32768 : Int) < P := by omega
    have q2 : ¬ v = (-32768 : Int64) := fun e => by
      rw [e, k1] at e64
      omega
    have q3 : ¬ nI 0 ≤ (-1 : Int32) := by decide
    rw [if_neg q1, if_neg q2, if_neg q3, if_pos h1]
    rfl
  · have q3 : nI 0 ≤ (if (-32768 : Int) < P then (1 : Int32) else if v = (-32768 : Int64) then 0 else -1) := by
      by_cases c : (-32768 : Int) < P
      · rw [if_pos c]; decide
      · have : v = (-32768 : Int64) := Int64.toInt_inj.mp (by rw [e64, k1]; omega)
        rw [if_neg c, if_pos this]; decide
    rw [if_pos q3, if_neg h1]
    by_cases h2 : 32767 < P
    · have q4 : ¬ (1 : Int32) ≤ nI 0 := by decide
      rw [if_pos h2, if_neg q4, if_pos h2]
      rfl
    · have q5 : (if (32767 : Int) < P then (1 : Int32) else if v = (32767 : Int64) then 0 else -1) ≤ nI 0 := by
        rw [if_neg h2]
        by_cases c : v = (32767 : Int64)
        · rw [if_pos c]; decide
        · rw [if_neg c]; decide
      rw [if_pos q5, if_neg h2]
      apply congrArg
      apply Int64.toInt_inj.mp
      rw [e64, Int32.toInt_toInt64, e32]
/-- places in the square -/
def ZZ (k : Nat) : Nat := [0, 1, 8, 16, 9, 2, 3, 10, 17, 24, 32, 25, 18, 11, 4, 5, 12, 19, 26, 33, 40, 48, 41, 34, 27, 20, 13, 6, 7, 14, 21, 28, 35, 42, 49, 56, 57, 50, 43, 36, 29, 22, 15, 23, 30, 37, 44, 51, 58, 59, 52, 45, 38, 31, 39, 46, 53, 60, 61, 54, 47, 55, 62, 63].getD k 0
def ZI (j : Nat) : Nat := ((List.range 64).find? (fun k => ZZ k == j)).getD 0
set_option maxRecDepth 100000 in
theorem spots_c : ∀ k, k < 64 → SPOTS k = nI (ZZ k) ∧ ZZ k < 64 := by decide +kernel
theorem zi_c : ∀ j, j < 64 → ZI j < 64 ∧ ZZ (ZI j) = j := by decide +kernel
theorem zz_i : ∀ k, k < 64 → ZI (ZZ k) = k := by decide +kernel
theorem zz_ne {p q : Nat} (hp : p < 64) (hq : q < 64) (h : p ≠ q) : ZZ p ≠ ZZ q := fun e => h (by rw [← zz_i p hp, ← zz_i q hq, e])
def DG (s : Nat) : Nat := [0, 1, 3, 6, 10, 15, 21, 28, 36, 43, 49, 54, 58, 61, 63, 64].getD s 0
/-- how many places come before step k of diagonal s -/
def PC (s k : Nat) : Nat := DG s + (min (max k (s - 7)) 8 - (s - 7))
def zc (s k : Nat) : Nat := if s % 2 = 1 then s - k else k
theorem pc_c : ∀ s, s < 15 → ∀ k, k < s + 1 → ((zc s k < 8 ∧ s - zc s k < 8) → PC s k < 64 ∧ ZZ (PC s k) = 8 * (s - zc s k) + zc s k ∧ PC s (k + 1) = PC s k + 1) ∧ ((8 ≤ zc s k ∨ 8 ≤ s - zc s k) → PC s (k + 1) = PC s k) ∧ zc s k ≤ s := by decide +kernel
theorem pc_e : ∀ s, s < 15 → PC s (s + 1) = PC (s + 1) 0 := by decide +kernel
theorem pc_l : ∀ s, s < 16 → ∀ k, k < s + 2 → PC s k < 65 := by decide +kernel
theorem pc_0 : PC 0 0 = 0 := rfl
theorem pc_15 : PC 15 0 = 64 := rfl
/-- the waves, as the painter's table has them; the reference's own -/
def MWV : Nat → Int32 := tbl [0, 16069, 15137, 13623, 11585, 9102, 6270, 3196]
set_option maxRecDepth 100000 in
theorem wave_c : ∀ x, x < 8 → ∀ u, u < 8 → f_X7_wave (nI x) (nI u) MWV = some (WAVEST (x * 8 + u)) := by decide +kernel
set_option maxRecDepth 100000 in
theorem wave_b : ∀ k, k < 64 → -16384 ≤ (WAVEST k).toInt ∧ (WAVEST k).toInt ≤ 16384 := by decide +kernel
/-- the number at place q, times its step -/
def ZQ (g F : Nat → Int32) (q : Nat) : Int32 := cl (-nI 32768) (nI 32767) (g q * F q)
def FC (st sc : Nat → Int32) (s q : Nat) : Int32 := cl (nI 2) (nI 4096) (st (q / 4) * sc s / nI 100)
theorem fc_b {st sc : Nat → Int32} {s q : Nat} : 2 ≤ (FC st sc s q).toInt ∧ (FC st sc s q).toInt ≤ 4096 := by
  have h := cl_bd (x := st (q / 4) * sc s / nI 100) (nI_le0 (show 2 ≤ 4096 by omega) (by omega))
  rw [nI_toInt (by omega), nI_toInt (by omega)] at h
  unfold FC
  omega
theorem csq {b s : Nat} {st sc : Nat → Int32} {cg : Nat → Nat → Int32} (hb : b < 36) (hs : s < 8) : ∀ (r p n : Nat) (sq : Nat → Int32), r + p = 64 → r < n → (∀ q, q < p → sq (ZZ q) = ZQ (cg b) (FC st sc s) q) → ∃ sq' : Nat → Int32, f_X2_makeAdded_L3 (nI b) SPOTS (nI s) sc st cg n sq (nI p) = some sq' ∧ (∀ q, q < 64 → sq' (ZZ q) = ZQ (cg b) (FC st sc s) q)
  | 0, p, n, sq, hi, hn, h => by
    obtain ⟨n, rfl⟩ : ∃ j, n = j + 1 := ⟨n - 1, by omega⟩
    obtain rfl : p = 64 := by omega
    refine ⟨sq, ?_, h⟩
    rw [f_X2_makeAdded_L3]; simp (disch := omega) only [lit, pk_mul, nI_add, ni_sub, ni_div, ni_rem, ni_cl, ni_pred, nmod, ↓reduceIte, ile_t, ile_f, ilt_t, ilt_f, ieq_t, ieq_f, if_true_n, if_false_n, gi_n, nm_n, jn_n, bd1_n, bd2_n, bd3_n, bd4_n, bd5_n, bd6_n]
  | r + 1, p, n, sq, hi, hn, h => by
    obtain ⟨n, rfl⟩ : ∃ j, n = j + 1 := ⟨n - 1, by omega⟩
    have hp : p < 64 := by omega
    obtain ⟨s1, s2⟩ := spots_c p hp
    obtain ⟨sq', e, h1⟩ := csq (st := st) (sc := sc) (cg := cg) hb hs r (p + 1) n (upd sq (ZZ p) (ZQ (cg b) (FC st sc s) p)) (by omega) (by omega) (fun q hq => by
      by_cases c : q = p
      · subst c; rw [pk_us]
      · rw [pk_un (zz_ne (by omega) hp c)]
        exact h q (by omega))
    refine ⟨sq', ?_, h1⟩
    have b1 : f_X6_bring (st (p / 4) * sc s / nI 100) (nI 2) (nI 4096) = some (FC st sc s p) := bring_cl (nI_le0 (by omega) (by omega))
    have b2 : f_X6_bring (cg b p * FC st sc s p) (-nI 32768) (nI 32767) = some (ZQ (cg b) (FC st sc s) p) := bring_cl (by rw [c32768, c32767]; omega)
    rw [f_X2_makeAdded_L3]
    unfold f_X0_number f_X0_scale f_X1_factor
    simp (disch := omega) only [lit, pk_mul, nI_add, ni_sub, ni_div, ni_rem, ni_cl, ni_pred, nmod, ↓reduceIte, ile_t, ile_f, ilt_t, ilt_f, ieq_t, ieq_f, if_true_n, if_false_n, gi_n, nm_n, jn_n, bd1_n, bd2_n, bd3_n, bd4_n, bd5_n, bd6_n, b1, b2, s1, e]
theorem msq_in {b s d : Nat} {st sc mn : Nat → Int32} (hb : b < 36) (hs : s < 8) (hd : d < 15) (hg : ∀ q, q < 64 → sm 23000 (mn (64 * b + q))) : ∀ (r k n : Nat) (sq : Nat → Int64), r + k = d + 1 → r < n → (∀ q, q < PC d k → sq (ZZ q) = (ZQ (fun q => mn (64 * b + q)) (FC st sc s) q).toInt64) →
    ∃ sq' : Nat → Int64, f_X7_add_L15 (nI b) (nI s) sc st mn (nI d) n sq (nI (PC d k)) (nI k) = some (sq', nI (PC (d + 1) 0)) ∧ (∀ q, q < PC (d + 1) 0 → sq' (ZZ q) = (ZQ (fun q => mn (64 * b + q)) (FC st sc s) q).toInt64)
  | 0, k, n, sq, hi, hn, h => by
    obtain ⟨n, rfl⟩ : ∃ j, n = j + 1 := ⟨n - 1, by omega⟩
    obtain rfl : k = d + 1 := by omega
    rw [pc_e d hd] at h
    refine ⟨sq, ?_, h⟩
    rw [f_X7_add_L15, pc_e d hd]; simp (disch := omega) only [lit, pk_mul, nI_add, ni_sub, ni_div, ni_rem, ni_cl, ni_pred, nmod, ↓reduceIte, ile_t, ile_f, ilt_t, ilt_f, ieq_t, ieq_f, if_true_n, if_false_n, gi_n, nm_n, jn_n, bd1_n, bd2_n, bd3_n, bd4_n, bd5_n, bd6_n]
  | r + 1, k, n, sq, hi, hn, h => by
    obtain ⟨n, rfl⟩ : ∃ j, n = j + 1 := ⟨n - 1, by omega⟩
    obtain ⟨c1, c2, c3⟩ := pc_c d hd k (by omega)
    have HK : ∀ (K : Int32 → Option ((Nat → Int64) × Int32)), jn (fun (k9 : Int32 → Option ((Nat → Int64) × Int32)) => (if nI (d % 2) = nI 1 then k9 (nI (d - k)) else k9 (nI k))) K = K (nI (zc d k)) := by
      intro K
      refine jn_e ?_
      show (if nI (d % 2) = nI 1 then K (nI (d - k)) else K (nI k)) = _
      unfold zc
      by_cases c : d % 2 = 1
      · rw [if_pos c, c, if_pos rfl]
      · rw [if_neg c, show d % 2 = 0 by omega, if_neg (fun e => absurd ((nI_eq (by omega) (by omega)).mp e) (by omega))]
    have J34 : ∀ (body : ((Nat → Int64) → Int32 → Option ((Nat → Int64) × Int32)) → Option ((Nat → Int64) × Int32)) (K : (Nat → Int64) → Int32 → Option ((Nat → Int64) × Int32)), jn body K = body K := fun _ _ => jn_n
    have hk : k ≤ d := by omega
    by_cases ca : zc d k < 8 ∧ d - zc d k < 8
    · obtain ⟨d1, d2, d3⟩ := c1 ca
      have d4 : PC d k / 4 < 16 := by omega
      obtain ⟨sq', e, h1⟩ := msq_in (st := st) (sc := sc) hb hs hd hg r (k + 1) n (vp_updL sq (ZZ (PC d k)) (ZQ (fun q => mn (64 * b + q)) (FC st sc s) (PC d k)).toInt64) (by omega) (by omega) (fun q hq => by
        by_cases c : q = PC d k
        · subst c; rw [pk_uLs]
        · rw [pk_uLn (zz_ne (by omega) d1 c)]
          exact h q (by omega))
      refine ⟨sq', ?_, h1⟩
      rw [d3, d2] at e
      have b1 : f_X7_within (st (PC d k / 4) * sc s / nI 100) (nI 2) (nI 4096) = some (FC st sc s (PC d k)) := within_cl (nI_le0 (by omega) (by omega))
      have b2 := fun K : Int64 → Option ((Nat → Int64) × Int32) => cl_long (hg (PC d k) d1) (fc_b (st := st) (sc := sc) (s := s) (q := PC d k)) K
      rw [f_X7_add_L15]
      simp (disch := omega) only [litn, ni_div, ni_rem, pk_mul, nmod, ni_sub, ilt_f, if_false_n]
      simp (disch := omega) only [lit, pk_mul, nI_add, ni_sub, ni_div, ni_rem, ni_cl, ni_pred, nmod, ↓reduceIte, ile_t, ile_f, ilt_t, ilt_f, ieq_t, ieq_f, if_true_n, if_false_n, gi_n, ↓HK, nm_n, ↓J34, bd1_n, b1, ↓b2]
      exact e
    · obtain ⟨sq', e, h1⟩ := msq_in (st := st) (sc := sc) hb hs hd hg r (k + 1) n sq (by omega) (by omega) (fun q hq => h q (by rw [c2 (by omega)] at hq; exact hq))
      rw [c2 (by omega)] at e
      refine ⟨sq', ?_, h1⟩
      rw [f_X7_add_L15]
      simp (disch := omega) only [litn, ni_div, ni_rem, pk_mul, nmod, ni_sub, ilt_f, if_false_n]
      by_cases cb : zc d k < 8
      · simp (disch := omega) only [lit, pk_mul, nI_add, ni_sub, ni_div, ni_rem, ni_cl, ni_pred, nmod, ↓reduceIte, ile_t, ile_f, ilt_t, ilt_f, ieq_t, ieq_f, if_true_n, if_false_n, gi_n, ↓HK, nm_n, ↓J34, bd1_n]
        exact e
      · simp (disch := omega) only [lit, pk_mul, nI_add, ni_sub, ni_div, ni_rem, ni_cl, ni_pred, nmod, ↓reduceIte, ile_t, ile_f, ilt_t, ilt_f, ieq_t, ieq_f, if_true_n, if_false_n, gi_n, ↓HK, nm_n, ↓J34, bd1_n]
        exact e
theorem msq_out {b s : Nat} {st sc mn : Nat → Int32} (hb : b < 36) (hs : s < 8) (hg : ∀ q, q < 64 → sm 23000 (mn (64 * b + q))) : ∀ (r d n : Nat) (sq : Nat → Int64), r + d = 15 → r < n → (∀ q, q < PC d 0 → sq (ZZ q) = (ZQ (fun q => mn (64 * b + q)) (FC st sc s) q).toInt64) →
    ∃ sq' : Nat → Int64, f_X7_add_L5 (nI b) (nI s) sc st mn n sq (nI (PC d 0)) (nI d) = some sq' ∧ (∀ q, q < 64 → sq' (ZZ q) = (ZQ (fun q => mn (64 * b + q)) (FC st sc s) q).toInt64)
  | 0, d, n, sq, hi, hn, h => by
    obtain ⟨n, rfl⟩ : ∃ j, n = j + 1 := ⟨n - 1, by omega⟩
    obtain rfl : d = 15 := by omega
    refine ⟨sq, ?_, h⟩
    rw [f_X7_add_L5]; simp (disch := omega) only [lit, pk_mul, nI_add, ni_sub, ni_div, ni_rem, ni_cl, ni_pred, nmod, ↓reduceIte, ile_t, ile_f, ilt_t, ilt_f, ieq_t, ieq_f, if_true_n, if_false_n, gi_n, nm_n, jn_n, bd1_n, bd2_n, bd3_n, bd4_n, bd5_n, bd6_n]
  | r + 1, d, n, sq, hi, hn, h => by
    obtain ⟨n, rfl⟩ : ∃ j, n = j + 1 := ⟨n - 1, by omega⟩
    obtain ⟨sq1, e1, h1⟩ := msq_in (st := st) (sc := sc) hb hs (show d < 15 by omega) hg (d + 1) 0 4000 sq (by omega) (by omega) h
    obtain ⟨sq2, e2, h2⟩ := msq_out (st := st) (sc := sc) hb hs hg r (d + 1) n sq1 (by omega) (by omega) h1
    refine ⟨sq2, ?_, h2⟩
    rw [f_X7_add_L5]
    simp (disch := omega) only [lit, pk_mul, nI_add, ni_sub, ni_div, ni_rem, ni_cl, ni_pred, nmod, ↓reduceIte, ile_t, ile_f, ilt_t, ilt_f, ieq_t, ieq_f, if_true_n, if_false_n, gi_n, nm_n, jn_n, bd1_n, bd2_n, bd3_n, bd4_n, bd5_n, bd6_n, e1, e2]
