/-! The pure side, 16: the sums of waves. -/
def SH (v : Int64) : Int64 := v >>> (Int32.toInt64 (nI 15) &&& (63 : Int64))
theorem sh_toInt (v : Int64) : (SH v).toInt = v.toInt / 32768 := by
  have e : ((Int32.toInt64 (nI 15) &&& (63 : Int64)).toBitVec.smod 64).toNat = 15 := by decide +kernel
  show (v.toBitVec.sshiftRight ((Int32.toInt64 (nI 15) &&& (63 : Int64)).toBitVec.smod 64).toNat).toInt = _
  rw [e, BitVec.toInt_sshiftRight, Int.shiftRight_eq_div_pow]
  rfl
theorem sh_fit {v : Int64} (h : v.toInt.natAbs ≤ 8589934592) : (SH v).toInt32.toInt64 = SH v ∧ (SH v).toInt32.toInt = v.toInt / 32768 := by
  have e := sh_toInt v
  have e2 : (SH v).toInt32.toInt = v.toInt / 32768 := by
    rw [Int64.toInt_toInt32, e, Int.bmod_eq_of_le (by omega) (by omega)]
  refine ⟨Int64.toInt_inj.mp ?_, e2⟩
  rw [Int32.toInt_toInt64, e2, e]
/-- the sum over the first k waves, for sample x -/
def SS (G : Nat → Int64) (x : Nat) : Nat → Int64
  | 0 => 16384
  | k + 1 => SS G x k + (WAVEST (x * 8 + k)).toInt64 * G k
theorem SS_congr {G H : Nat → Int64} {x : Nat} : ∀ (n : Nat), (∀ k, k < n → G k = H k) → SS G x n = SS H x n
  | 0, _ => rfl
  | n + 1, h => by
    show SS G x n + _ = SS H x n + _
    rw [SS_congr n (fun k hk => h k (by omega)), h n (by omega)]
theorem SS_bd {G : Nat → Int64} {x : Nat} (hx : x < 8) (hG : ∀ k, k < 8 → (G k).toInt.natAbs ≤ 32768) : ∀ (n : Nat), n ≤ 8 → (SS G x n).toInt.natAbs ≤ 16384 + n * 536870912
  | 0, _ => by
    have : (SS G x 0).toInt = 16384 := by
      show (16384 : Int64).toInt = 16384
      decide +kernel
    omega
  | n + 1, h => by
    have h1 := SS_bd hx hG n (by omega)
    obtain ⟨w1, w2⟩ := wave_b (x * 8 + n) (by omega)
    have h2 := hG n (by omega)
    have h3 : ((WAVEST (x * 8 + n)).toInt * (G n).toInt).natAbs ≤ 16384 * 32768 := by
      rw [Int.natAbs_mul]
      exact Nat.mul_le_mul (by omega) h2
    obtain ⟨P, hP⟩ : ∃ P, P = (WAVEST (x * 8 + n)).toInt * (G n).toInt := ⟨_, rfl⟩
    rw [← hP] at h3
    have e : (SS G x (n + 1)).toInt = (SS G x n).toInt + P := by
      show (SS G x n + (WAVEST (x * 8 + n)).toInt64 * G n).toInt = _
      rw [Int64.toInt_add, Int64.toInt_mul, Int32.toInt_toInt64, ← hP, Int.bmod_eq_of_le (n := P) (by omega) (by omega), Int.bmod_eq_of_le (by omega) (by omega)]
    omega
theorem fill8 {v : Int64} : ∀ (r i n : Nat) (s : Nat → Int64), r + i = 8 → r < n → ∃ s' : Nat → Int64, f_J7_fill_d0a16_L6 v n s (nI i) = some s' ∧ (∀ x, x < i → s' x = s x) ∧ (∀ x, i ≤ x → x < 8 → s' x = v)
  | 0, i, n, s, hi, hn => by
    obtain ⟨n, rfl⟩ : ∃ j, n = j + 1 := ⟨n - 1, by omega⟩
    refine ⟨s, ?_, fun _ _ => rfl, fun x h1 h2 => absurd h2 (by omega)⟩
    rw [f_J7_fill_d0a16_L6]; simp (disch := omega) only [lit, pk_mul, nI_add, ni_sub, ni_div, ni_rem, ni_cl, ni_pred, nmod, ↓reduceIte, ile_t, ile_f, ilt_t, ilt_f, ieq_t, ieq_f, if_true_n, if_false_n, gi_n, nm_n, jn_n, bd1_n, bd2_n, bd3_n, bd4_n, bd5_n, bd6_n]
  | r + 1, i, n, s, hi, hn => by
    obtain ⟨n, rfl⟩ : ∃ j, n = j + 1 := ⟨n - 1, by omega⟩
    obtain ⟨s', e, h1, h2⟩ := fill8 (v := v) r (i + 1) n (vp_updL s i v) (by omega) (by omega)
    refine ⟨s', ?_, fun x hx => by rw [h1 x (by omega), pk_uLn (by omega)], fun x hx hx2 => ?_⟩
    · rw [f_J7_fill_d0a16_L6]
      simp (disch := omega) only [lit, pk_mul, nI_add, ni_sub, ni_div, ni_rem, ni_cl, ni_pred, nmod, ↓reduceIte, ile_t, ile_f, ilt_t, ilt_f, ieq_t, ieq_f, if_true_n, if_false_n, gi_n, nm_n, jn_n, bd1_n, bd2_n, bd3_n, bd4_n, bd5_n, bd6_n, e]
    · by_cases c : x = i
      · subst c
        rw [h1 x (by omega), pk_uLs]
      · exact h2 x (by omega) hx2
theorem sr_in {u : Nat} {v : Int64} (hu : u < 8) : ∀ (r i n : Nat) (s : Nat → Int64), r + i = 8 → r < n → ∃ s' : Nat → Int64, f_X2_sumRow_L36 WAVEST (nI u) v n s (nI i) = some s' ∧ (∀ x, x < i → s' x = s x) ∧ (∀ x, i ≤ x → x < 8 → s' x = s x + (WAVEST (x * 8 + u)).toInt64 * v)
  | 0, i, n, s, hi, hn => by
    obtain ⟨n, rfl⟩ : ∃ j, n = j + 1 := ⟨n - 1, by omega⟩
    refine ⟨s, ?_, fun _ _ => rfl, fun x h1 h2 => absurd h2 (by omega)⟩
    rw [f_X2_sumRow_L36]; simp (disch := omega) only [lit, pk_mul, nI_add, ni_sub, ni_div, ni_rem, ni_cl, ni_pred, nmod, ↓reduceIte, ile_t, ile_f, ilt_t, ilt_f, ieq_t, ieq_f, if_true_n, if_false_n, gi_n, nm_n, jn_n, bd1_n, bd2_n, bd3_n, bd4_n, bd5_n, bd6_n]
  | r + 1, i, n, s, hi, hn => by
    obtain ⟨n, rfl⟩ : ∃ j, n = j + 1 := ⟨n - 1, by omega⟩
    obtain ⟨s', e, h1, h2⟩ := sr_in (v := v) hu r (i + 1) n (vp_updL s i (s i + (WAVEST (i * 8 + u)).toInt64 * v)) (by omega) (by omega)
    refine ⟨s', ?_, fun x hx => by rw [h1 x (by omega), pk_uLn (by omega)], fun x hx hx2 => ?_⟩
    · rw [f_X2_sumRow_L36]
      simp (disch := omega) only [lit, pk_mul, nI_add, ni_sub, ni_div, ni_rem, ni_cl, ni_pred, nmod, ↓reduceIte, ile_t, ile_f, ilt_t, ilt_f, ieq_t, ieq_f, if_true_n, if_false_n, gi_n, nm_n, jn_n, bd1_n, bd2_n, bd3_n, bd4_n, bd5_n, bd6_n, e]
    · by_cases c : x = i
      · subst c
        rw [h1 x (by omega), pk_uLs]
      · rw [h2 x (by omega) hx2, pk_uLn c]
theorem lcmp0 (v : Int64) : (lg_cmp v 0 = nI 0) = (v = 0) := by
  apply propext
  unfold lg_cmp
  constructor
  · intro h
    by_cases c : v > 0
    · rw [if_pos c] at h; exact absurd h (by decide)
    · rw [if_neg c] at h
      by_cases d : v = 0
      · exact d
      · rw [if_neg d] at h; exact absurd h (by decide)
  · rintro rfl
    decide
theorem sr_out {a1 : Nat → Int32} {q : Nat} (hq : q < 8) : ∀ (r u n : Nat) (s : Nat → Int64), r + u = 8 → r < n → (∀ x, x < 8 → s x = SS (fun k => (a1 (q * 8 + k)).toInt64) x u) → ∃ s' : Nat → Int64, f_X2_sumRow_L12 (nI (q * 8)) WAVEST a1 n s (nI u) = some s' ∧ (∀ x, x < 8 → s' x = SS (fun k => (a1 (q * 8 + k)).toInt64) x 8)
  | 0, u, n, s, hi, hn, h => by
    obtain ⟨n, rfl⟩ : ∃ j, n = j + 1 := ⟨n - 1, by omega⟩
    obtain rfl : u = 8 := by omega
    refine ⟨s, ?_, h⟩
    rw [f_X2_sumRow_L12]; simp (disch := omega) only [lit, pk_mul, nI_add, ni_sub, ni_div, ni_rem, ni_cl, ni_pred, nmod, ↓reduceIte, ile_t, ile_f, ilt_t, ilt_f, ieq_t, ieq_f, if_true_n, if_false_n, gi_n, nm_n, jn_n, bd1_n, bd2_n, bd3_n, bd4_n, bd5_n, bd6_n]
  | r + 1, u, n, s, hi, hn, h => by
    obtain ⟨n, rfl⟩ : ∃ j, n = j + 1 := ⟨n - 1, by omega⟩
    by_cases c : (a1 (q * 8 + u)).toInt64 = 0
    · obtain ⟨s', e, h1⟩ := sr_out (a1 := a1) hq r (u + 1) n s (by omega) (by omega) (fun x hx => by
        rw [h x hx]
        show _ = SS (fun k => (a1 (q * 8 + k)).toInt64) x u + (WAVEST (x * 8 + u)).toInt64 * (a1 (q * 8 + u)).toInt64
        rw [c, Int64.mul_zero, Int64.add_zero])
      refine ⟨s', ?_, h1⟩
      rw [f_X2_sumRow_L12]
      simp (disch := omega) only [lit, pk_mul, nI_add, ni_sub, ni_div, ni_rem, ni_cl, ni_pred, nmod, ↓reduceIte, ile_t, ile_f, ilt_t, ilt_f, ieq_t, ieq_f, if_true_n, if_false_n, gi_n, ↓nm_n, ↓jn_n, lcmp0, c, e]
    · obtain ⟨s1, e1, -, h2⟩ := sr_in (v := (a1 (q * 8 + u)).toInt64) (show u < 8 by omega) 8 0 4000 s (by omega) (by omega)
      obtain ⟨s', e, h1⟩ := sr_out (a1 := a1) hq r (u + 1) n s1 (by omega) (by omega) (fun x hx => by
        rw [h2 x (by omega) hx, h x hx]
        rfl)
      refine ⟨s', ?_, h1⟩
      rw [f_X2_sumRow_L12]
      simp (disch := omega) only [lit, pk_mul, nI_add, ni_sub, ni_div, ni_rem, ni_cl, ni_pred, nmod, ↓reduceIte, ile_t, ile_f, ilt_t, ilt_f, ieq_t, ieq_f, if_true_n, if_false_n, gi_n, ↓nm_n, ↓jn_n, lcmp0, eq_false c, e1, bd1_n, e]
/-- the half-way value and the last: row q, sample x -/
def SR (a : Nat → Int32) (q x : Nat) : Int32 := (SH (SS (fun k => (a (q * 8 + k)).toInt64) x 8)).toInt32
theorem sw_in {q : Nat} {s : Nat → Int64} (hq : q < 8) : ∀ (r i n : Nat) (a : Nat → Int32), r + i = 8 → r < n → ∃ a' : Nat → Int32, f_X2_sumWaves_L20 (nI q) s n a (nI i) = some a' ∧ (∀ x p, p < 8 → (p ≠ q ∨ x < i) → a' (x * 8 + p) = a (x * 8 + p)) ∧ (∀ x, i ≤ x → x < 8 → a' (x * 8 + q) = (SH (s x)).toInt32)
  | 0, i, n, a, hi, hn => by
    obtain ⟨n, rfl⟩ : ∃ j, n = j + 1 := ⟨n - 1, by omega⟩
    refine ⟨a, ?_, fun _ _ _ _ => rfl, fun x h1 h2 => absurd h2 (by omega)⟩
    rw [f_X2_sumWaves_L20]; simp (disch := omega) only [lit, pk_mul, nI_add, ni_sub, ni_div, ni_rem, ni_cl, ni_pred, nmod, ↓reduceIte, ile_t, ile_f, ilt_t, ilt_f, ieq_t, ieq_f, if_true_n, if_false_n, gi_n, nm_n, jn_n, bd1_n, bd2_n, bd3_n, bd4_n, bd5_n, bd6_n]
  | r + 1, i, n, a, hi, hn => by
    obtain ⟨n, rfl⟩ : ∃ j, n = j + 1 := ⟨n - 1, by omega⟩
    obtain ⟨a', e, h1, h2⟩ := sw_in (s := s) hq r (i + 1) n (upd a (i * 8 + q) (SH (s i)).toInt32) (by omega) (by omega)
    refine ⟨a', ?_, fun x p hp hx => by rw [h1 x p hp (by omega), pk_un (by omega)], fun x hx hx2 => ?_⟩
    · rw [f_X2_sumWaves_L20]
      unfold SH at e
      simp (disch := omega) only [lit, pk_mul, nI_add, ni_sub, ni_div, ni_rem, ni_cl, ni_pred, nmod, ↓reduceIte, ile_t, ile_f, ilt_t, ilt_f, ieq_t, ieq_f, if_true_n, if_false_n, gi_n, nm_n, jn_n, bd1_n, bd2_n, bd3_n, bd4_n, bd5_n, bd6_n, e]
    · by_cases c : x = i
      · subst c
        rw [h1 x q hq (by omega), pk_us]
      · exact h2 x (by omega) hx2
theorem sw_out {a1 : Nat → Int32} : ∀ (r q n : Nat) (s : Nat → Int64) (a : Nat → Int32), r + q = 8 → r < n → ∃ (s' : Nat → Int64) (a' : Nat → Int32), f_X2_sumWaves_L2 WAVEST a1 n s a (nI q) = some (s', a') ∧ (∀ x p, p < q → a' (x * 8 + p) = a (x * 8 + p)) ∧ (∀ x p, q ≤ p → p < 8 → x < 8 → a' (x * 8 + p) = SR a1 p x)
  | 0, q, n, s, a, hi, hn => by
    obtain ⟨n, rfl⟩ : ∃ j, n = j + 1 := ⟨n - 1, by omega⟩
    refine ⟨s, a, ?_, fun _ _ _ => rfl, fun x p h1 h2 => absurd h2 (by omega)⟩
    rw [f_X2_sumWaves_L2]; simp (disch := omega) only [lit, pk_mul, nI_add, ni_sub, ni_div, ni_rem, ni_cl, ni_pred, nmod, ↓reduceIte, ile_t, ile_f, ilt_t, ilt_f, ieq_t, ieq_f, if_true_n, if_false_n, gi_n, nm_n, jn_n, bd1_n, bd2_n, bd3_n, bd4_n, bd5_n, bd6_n]
  | r + 1, q, n, s, a, hi, hn => by
    obtain ⟨n, rfl⟩ : ∃ j, n = j + 1 := ⟨n - 1, by omega⟩
    obtain ⟨s0, e0, -, h0⟩ := fill8 (v := 16384) 8 0 4000 s (by omega) (by omega)
    obtain ⟨s1, e1, h1⟩ := sr_out (a1 := a1) (show q < 8 by omega) 8 0 4000 s0 (by omega) (by omega) (fun x hx => by rw [h0 x (by omega) hx]; rfl)
    obtain ⟨b, e2, k1, k2⟩ := sw_in (s := s1) (show q < 8 by omega) 8 0 4000 a (by omega) (by omega)
    obtain ⟨s', a', e3, g1, g2⟩ := sw_out (a1 := a1) r (q + 1) n s1 b (by omega) (by omega)
    refine ⟨s', a', ?_, fun x p hp => ?_, fun x p hp hp2 hx => ?_⟩
    · rw [f_X2_sumWaves_L2]
      unfold f_X2_sumRow f_J7_fill_d0a16
      simp (disch := omega) only [lit, pk_mul, nI_add, ni_sub, ni_div, ni_rem, ni_cl, ni_pred, nmod, ↓reduceIte, ile_t, ile_f, ilt_t, ilt_f, ieq_t, ieq_f, if_true_n, if_false_n, gi_n, nm_n, jn_n, bd1_n, bd2_n, bd3_n, bd4_n, bd5_n, bd6_n, e0, e1, e2, e3]
    · rw [g1 x p (by omega), k1 x p (by omega) (by omega)]
    · by_cases c : p = q
      · subst c
        rw [g1 x p (by omega), k2 x (by omega) hx, h1 x hx]
        rfl
      · exact g2 x p (by omega) hp2 hx
/-- what is added at (column c, row y), of the square z -/
def AD (z : Nat → Int32) (y c : Nat) : Int32 := (SH (SS (fun k => (SR z k c).toInt64) y 8)).toInt32
theorem SR_congr {a b : Nat → Int32} {q x : Nat} (h : ∀ k, k < 8 → a (q * 8 + k) = b (q * 8 + k)) : SR a q x = SR b q x := by
  unfold SR
  rw [SS_congr 8 (fun k hk => by rw [h k hk])]
theorem added_ex {b s : Nat} {st sc : Nat → Int32} {cg : Nat → Nat → Int32} (hb : b < 36) (hs : s < 8) (sq hw : Nat → Int32) (su : Nat → Int64) : ∃ (sq' hw' : Nat → Int32) (su' : Nat → Int64), f_X2_makeAdded (nI b) SPOTS WAVEST sq hw su (nI s) cg sc st = some (sq', hw', su') ∧ ∀ y c, y < 8 → c < 8 → sq' (y * 8 + c) = AD (fun j => ZQ (cg b) (FC st sc s) (ZI j)) y c := by
  obtain ⟨sq1, e1, h1⟩ := csq (st := st) (sc := sc) (cg := cg) hb hs 64 0 4000 sq (by omega) (by omega) (fun q hq => absurd hq (by omega))
  obtain ⟨s2, h2, e2, -, g2⟩ := sw_out (a1 := sq1) 8 0 4000 su hw (by omega) (by omega)
  obtain ⟨s3, h3, e3, -, g3⟩ := sw_out (a1 := h2) 8 0 4000 s2 sq1 (by omega) (by omega)
  refine ⟨h3, h2, s3, ?_, fun y c hy hc => ?_⟩
  · unfold f_X2_makeAdded f_X2_sumWaves
    simp (disch := omega) only [lit, pk_mul, nI_add, ni_sub, ni_div, ni_rem, ni_cl, ni_pred, nmod, ↓reduceIte, ile_t, ile_f, ilt_t, ilt_f, ieq_t, ieq_f, if_true_n, if_false_n, gi_n, nm_n, jn_n, bd1_n, bd2_n, bd3_n, bd4_n, bd5_n, bd6_n, e1, e2, e3]
  · rw [g3 y c (by omega) hc hy]
    unfold SR AD
    rw [SS_congr 8 (fun k hk => ?_)]
    show (h2 (c * 8 + k)).toInt64 = _
    rw [g2 c k (by omega) hk hc, SR_congr (fun j hj => ?_)]
    have hz := zi_c (k * 8 + j) (by omega)
    have h9 := h1 (ZI (k * 8 + j)) hz.1
    rw [hz.2] at h9
    exact h9
/-! the reference's sums -/
theorem ms_in1 {G : Nat → Int64} {q x : Nat} (hq : q < 8) (hx : x < 8) : ∀ (r u n : Nat), r + u = 8 → r < n → f_X7_add_L196 MWV G (nI q) (nI x) n (SS (fun k => G (8 * q + k)) x u) (nI u) = some (SS (fun k => G (8 * q + k)) x 8)
  | 0, u, n, hi, hn => by
    obtain ⟨n, rfl⟩ : ∃ j, n = j + 1 := ⟨n - 1, by omega⟩
    obtain rfl : u = 8 := by omega
    rw [f_X7_add_L196]; simp (disch := omega) only [lit, pk_mul, nI_add, ni_sub, ni_div, ni_rem, ni_cl, ni_pred, nmod, ↓reduceIte, ile_t, ile_f, ilt_t, ilt_f, ieq_t, ieq_f, if_true_n, if_false_n, gi_n, nm_n, jn_n, bd1_n, bd2_n, bd3_n, bd4_n, bd5_n, bd6_n]
  | r + 1, u, n, hi, hn => by
    obtain ⟨n, rfl⟩ : ∃ j, n = j + 1 := ⟨n - 1, by omega⟩
    have e := ms_in1 (G := G) hq hx r (u + 1) n (by omega) (by omega)
    have w := wave_c x hx u (by omega)
    rw [f_X7_add_L196]
    simp (disch := omega) only [lit, pk_mul, nI_add, ni_sub, ni_div, ni_rem, ni_cl, ni_pred, nmod, ↓reduceIte, ile_t, ile_f, ilt_t, ilt_f, ieq_t, ieq_f, if_true_n, if_false_n, gi_n, nm_n, jn_n, bd1_n, bd2_n, bd3_n, bd4_n, bd5_n, bd6_n, w]
    exact e
theorem ms_row {G : Nat → Int64} {q : Nat} (hq : q < 8) : ∀ (r x n : Nat) (R : Nat → Int64), r + x = 8 → r < n → ∃ R' : Nat → Int64, f_X7_add_L181 MWV G (nI q) n R (nI x) = some R' ∧ (∀ p y, y < 8 → (p ≠ q ∨ y < x) → R' (8 * p + y) = R (8 * p + y)) ∧ (∀ y, x ≤ y → y < 8 → R' (8 * q + y) = SH (SS (fun k => G (8 * q + k)) y 8))
  | 0, x, n, R, hi, hn => by
    obtain ⟨n, rfl⟩ : ∃ j, n = j + 1 := ⟨n - 1, by omega⟩
    refine ⟨R, ?_, fun _ _ _ _ => rfl, fun y h1 h2 => absurd h2 (by omega)⟩
    rw [f_X7_add_L181]; simp (disch := omega) only [lit, pk_mul, nI_add, ni_sub, ni_div, ni_rem, ni_cl, ni_pred, nmod, ↓reduceIte, ile_t, ile_f, ilt_t, ilt_f, ieq_t, ieq_f, if_true_n, if_false_n, gi_n, nm_n, jn_n, bd1_n, bd2_n, bd3_n, bd4_n, bd5_n, bd6_n]
  | r + 1, x, n, R, hi, hn => by
    obtain ⟨n, rfl⟩ : ∃ j, n = j + 1 := ⟨n - 1, by omega⟩
    have e0 := ms_in1 (G := G) hq (show x < 8 by omega) 8 0 4000 (by omega) (by omega)
    have e0 : f_X7_add_L196 MWV G (nI q) (nI x) 4000 16384 (nI 0) = some (SS (fun k => G (8 * q + k)) x 8) := e0
    obtain ⟨R', e, h1, h2⟩ := ms_row (G := G) hq r (x + 1) n (vp_updL R (8 * q + x) (SH (SS (fun k => G (8 * q + k)) x 8))) (by omega) (by omega)
    refine ⟨R', ?_, fun p y hy h => by rw [h1 p y hy (by omega), pk_uLn (by omega)], fun y hy hy2 => ?_⟩
    · rw [f_X7_add_L181]
      unfold SH at e
      simp (disch := omega) only [lit, pk_mul, nI_add, ni_sub, ni_div, ni_rem, ni_cl, ni_pred, nmod, ↓reduceIte, ile_t, ile_f, ilt_t, ilt_f, ieq_t, ieq_f, if_true_n, if_false_n, gi_n, nm_n, jn_n, bd1_n, bd2_n, bd3_n, bd4_n, bd5_n, bd6_n, e0, e]
    · by_cases c : y = x
      · subst c
        rw [h1 q y hy2 (by omega), pk_uLs]
      · exact h2 y (by omega) hy2
theorem ms_rows {G : Nat → Int64} : ∀ (r q n : Nat) (R : Nat → Int64), r + q = 8 → r < n → ∃ R' : Nat → Int64, f_X7_add_L171 MWV G n R (nI q) = some R' ∧ (∀ p y, y < 8 → p < q → R' (8 * p + y) = R (8 * p + y)) ∧ (∀ p y, q ≤ p → p < 8 → y < 8 → R' (8 * p + y) = SH (SS (fun k => G (8 * p + k)) y 8))
  | 0, q, n, R, hi, hn => by
    obtain ⟨n, rfl⟩ : ∃ j, n = j + 1 := ⟨n - 1, by omega⟩
    refine ⟨R, ?_, fun _ _ _ _ => rfl, fun p y h1 h2 => absurd h2 (by omega)⟩
    rw [f_X7_add_L171]; simp (disch := omega) only [lit, pk_mul, nI_add, ni_sub, ni_div, ni_rem, ni_cl, ni_pred, nmod, ↓reduceIte, ile_t, ile_f, ilt_t, ilt_f, ieq_t, ieq_f, if_true_n, if_false_n, gi_n, nm_n, jn_n, bd1_n, bd2_n, bd3_n, bd4_n, bd5_n, bd6_n]
  | r + 1, q, n, R, hi, hn => by
    obtain ⟨n, rfl⟩ : ∃ j, n = j + 1 := ⟨n - 1, by omega⟩
    obtain ⟨R1, e1, k1, k2⟩ := ms_row (G := G) (show q < 8 by omega) 8 0 4000 R (by omega) (by omega)
    obtain ⟨R', e, h1, h2⟩ := ms_rows (G := G) r (q + 1) n R1 (by omega) (by omega)
    refine ⟨R', ?_, fun p y hy h => by rw [h1 p y hy (by omega), k1 p y hy (by omega)], fun p y hp hp2 hy => ?_⟩
    · rw [f_X7_add_L171]
      simp (disch := omega) only [lit, pk_mul, nI_add, ni_sub, ni_div, ni_rem, ni_cl, ni_pred, nmod, ↓reduceIte, ile_t, ile_f, ilt_t, ilt_f, ieq_t, ieq_f, if_true_n, if_false_n, gi_n, nm_n, jn_n, bd1_n, bd2_n, bd3_n, bd4_n, bd5_n, bd6_n, e1, e]
    · by_cases c : p = q
      · subst c
        rw [h1 p y hy (by omega), k2 y (by omega) hy]
      · exact h2 p y (by omega) hp2 hy
theorem ms_in2 {G : Nat → Int64} {c x : Nat} (hc : c < 8) (hx : x < 8) : ∀ (r u n : Nat), r + u = 8 → r < n → f_X7_add_L295 MWV G (nI c) (nI x) n (SS (fun k => G (8 * k + c)) x u) (nI u) = some (SS (fun k => G (8 * k + c)) x 8)
  | 0, u, n, hi, hn => by
    obtain ⟨n, rfl⟩ : ∃ j, n = j + 1 := ⟨n - 1, by omega⟩
    obtain rfl : u = 8 := by omega
    rw [f_X7_add_L295]; simp (disch := omega) only [lit, pk_mul, nI_add, ni_sub, ni_div, ni_rem, ni_cl, ni_pred, nmod, ↓reduceIte, ile_t, ile_f, ilt_t, ilt_f, ieq_t, ieq_f, if_true_n, if_false_n, gi_n, nm_n, jn_n, bd1_n, bd2_n, bd3_n, bd4_n, bd5_n, bd6_n]
  | r + 1, u, n, hi, hn => by
    obtain ⟨n, rfl⟩ : ∃ j, n = j + 1 := ⟨n - 1, by omega⟩
    have e := ms_in2 (G := G) hc hx r (u + 1) n (by omega) (by omega)
    have w := wave_c x hx u (by omega)
    rw [f_X7_add_L295]
    simp (disch := omega) only [lit, pk_mul, nI_add, ni_sub, ni_div, ni_rem, ni_cl, ni_pred, nmod, ↓reduceIte, ile_t, ile_f, ilt_t, ilt_f, ieq_t, ieq_f, if_true_n, if_false_n, gi_n, nm_n, jn_n, bd1_n, bd2_n, bd3_n, bd4_n, bd5_n, bd6_n, w]
    exact e
theorem ms_col {G : Nat → Int64} {c : Nat} (hc : c < 8) : ∀ (r x n : Nat) (R : Nat → Int32), r + x = 8 → r < n → ∃ R' : Nat → Int32, f_X7_add_L280 MWV G (nI c) n R (nI x) = some R' ∧ (∀ y p, p < 8 → (p ≠ c ∨ y < x) → R' (8 * y + p) = R (8 * y + p)) ∧ (∀ y, x ≤ y → y < 8 → R' (8 * y + c) = (SH (SS (fun k => G (8 * k + c)) y 8)).toInt32)
  | 0, x, n, R, hi, hn => by
    obtain ⟨n, rfl⟩ : ∃ j, n = j + 1 := ⟨n - 1, by omega⟩
    refine ⟨R, ?_, fun _ _ _ _ => rfl, fun y h1 h2 => absurd h2 (by omega)⟩
    rw [f_X7_add_L280]; simp (disch := omega) only [lit, pk_mul, nI_add, ni_sub, ni_div, ni_rem, ni_cl, ni_pred, nmod, ↓reduceIte, ile_t, ile_f, ilt_t, ilt_f, ieq_t, ieq_f, if_true_n, if_false_n, gi_n, nm_n, jn_n, bd1_n, bd2_n, bd3_n, bd4_n, bd5_n, bd6_n]
  | r + 1, x, n, R, hi, hn => by
    obtain ⟨n, rfl⟩ : ∃ j, n = j + 1 := ⟨n - 1, by omega⟩
    have e0 := ms_in2 (G := G) hc (show x < 8 by omega) 8 0 4000 (by omega) (by omega)
    have e0 : f_X7_add_L295 MWV G (nI c) (nI x) 4000 16384 (nI 0) = some (SS (fun k => G (8 * k + c)) x 8) := e0
    obtain ⟨R', e, h1, h2⟩ := ms_col (G := G) hc r (x + 1) n (upd R (8 * x + c) (SH (SS (fun k => G (8 * k + c)) x 8)).toInt32) (by omega) (by omega)
    refine ⟨R', ?_, fun y p hp h => by rw [h1 y p hp (by omega), pk_un (by omega)], fun y hy hy2 => ?_⟩
    · rw [f_X7_add_L280]
      unfold SH at e
      simp (disch := omega) only [lit, pk_mul, nI_add, ni_sub, ni_div, ni_rem, ni_cl, ni_pred, nmod, ↓reduceIte, ile_t, ile_f, ilt_t, ilt_f, ieq_t, ieq_f, if_true_n, if_false_n, gi_n, nm_n, jn_n, bd1_n, bd2_n, bd3_n, bd4_n, bd5_n, bd6_n, e0, e]
    · by_cases d : y = x
      · subst d
        rw [h1 y c hc (by omega), pk_us]
      · exact h2 y (by omega) hy2
theorem ms_cols {G : Nat → Int64} : ∀ (r c n : Nat) (R : Nat → Int32), r + c = 8 → r < n → ∃ R' : Nat → Int32, f_X7_add_L270 MWV G n R (nI c) = some R' ∧ (∀ y p, p < c → R' (8 * y + p) = R (8 * y + p)) ∧ (∀ y p, c ≤ p → p < 8 → y < 8 → R' (8 * y + p) = (SH (SS (fun k => G (8 * k + p)) y 8)).toInt32)
  | 0, c, n, R, hi, hn => by
    obtain ⟨n, rfl⟩ : ∃ j, n = j + 1 := ⟨n - 1, by omega⟩
    refine ⟨R, ?_, fun _ _ _ => rfl, fun y p h1 h2 => absurd h2 (by omega)⟩
    rw [f_X7_add_L270]; simp (disch := omega) only [lit, pk_mul, nI_add, ni_sub, ni_div, ni_rem, ni_cl, ni_pred, nmod, ↓reduceIte, ile_t, ile_f, ilt_t, ilt_f, ieq_t, ieq_f, if_true_n, if_false_n, gi_n, nm_n, jn_n, bd1_n, bd2_n, bd3_n, bd4_n, bd5_n, bd6_n]
  | r + 1, c, n, R, hi, hn => by
    obtain ⟨n, rfl⟩ : ∃ j, n = j + 1 := ⟨n - 1, by omega⟩
    obtain ⟨R1, e1, k1, k2⟩ := ms_col (G := G) (show c < 8 by omega) 8 0 4000 R (by omega) (by omega)
    obtain ⟨R', e, h1, h2⟩ := ms_cols (G := G) r (c + 1) n R1 (by omega) (by omega)
    refine ⟨R', ?_, fun y p hp => by rw [h1 y p (by omega), k1 y p (by omega) (by omega)], fun y p hp hp2 hy => ?_⟩
    · rw [f_X7_add_L270]
      simp (disch := omega) only [lit, pk_mul, nI_add, ni_sub, ni_div, ni_rem, ni_cl, ni_pred, nmod, ↓reduceIte, ile_t, ile_f, ilt_t, ilt_f, ieq_t, ieq_f, if_true_n, if_false_n, gi_n, nm_n, jn_n, bd1_n, bd2_n, bd3_n, bd4_n, bd5_n, bd6_n, e1, e]
    · by_cases d : p = c
      · subst d
        rw [h1 y p (by omega), k2 y (by omega) hy]
      · exact h2 y p (by omega) hp2 hy
theorem zq_b {g F : Nat → Int32} {q : Nat} : (ZQ g F q).toInt64.toInt.natAbs ≤ 32768 := by
  have h := cl_bd (x := g q * F q) (show (-nI 32768).toInt ≤ (nI 32767).toInt by rw [c32768, c32767]; omega)
  rw [c32768, c32767] at h
  rw [Int32.toInt_toInt64]
  unfold ZQ
  omega
theorem madd_ex {b s : Nat} {st sc mn : Nat → Int32} (hb : b < 36) (hs : s < 8) (hg : ∀ q, q < 64 → sm 23000 (mn (64 * b + q))) (sq R : Nat → Int64) (ad : Nat → Int32) : ∃ (sq' R' : Nat → Int64) (ad' : Nat → Int32), f_X7_add (nI b) (nI s) sc st mn sq R ad MWV = some (sq', R', ad') ∧ ∀ y c, y < 8 → c < 8 → ad' (8 * y + c) = AD (fun j => ZQ (fun q => mn (64 * b + q)) (FC st sc s) (ZI j)) y c := by
  obtain ⟨sq1, e1, h1⟩ := msq_out (st := st) (sc := sc) hb hs hg 15 0 4000 sq (by omega) (by omega) (fun q hq => absurd hq (by rw [pc_0]; omega))
  have e1 : f_X7_add_L5 (nI b) (nI s) sc st mn 4000 sq (nI 0) (nI 0) = some sq1 := e1
  obtain ⟨R1, e2, -, h2⟩ := ms_rows (G := sq1) 8 0 4000 R (by omega) (by omega)
  obtain ⟨a1, e3, -, h3⟩ := ms_cols (G := R1) 8 0 4000 ad (by omega) (by omega)
  have hz : ∀ j, j < 64 → sq1 j = (ZQ (fun q => mn (64 * b + q)) (FC st sc s) (ZI j)).toInt64 := by
    intro j hj
    have hz := zi_c j hj
    have h9 := h1 (ZI j) hz.1
    rw [hz.2] at h9
    exact h9
  refine ⟨sq1, R1, a1, ?_, fun y c hy hc => ?_⟩
  · unfold f_X7_add
    simp (disch := omega) only [lit, pk_mul, nI_add, ni_sub, ni_div, ni_rem, ni_cl, ni_pred, nmod, ↓reduceIte, ile_t, ile_f, ilt_t, ilt_f, ieq_t, ieq_f, if_true_n, if_false_n, gi_n, nm_n, jn_n, bd1_n, bd2_n, bd3_n, bd4_n, bd5_n, bd6_n, e1, e2, e3]
  · rw [h3 y c (by omega) hc hy]
    unfold AD
    rw [SS_congr 8 (fun k hk => ?_)]
    rw [h2 k c (by omega) hk hc]
    have e9 : SS (fun j => sq1 (8 * k + j)) c 8 = SS (fun j => (ZQ (fun q => mn (64 * b + q)) (FC st sc s) (ZI (k * 8 + j))).toInt64) c 8 := SS_congr 8 (fun j hj => by
      show sq1 (8 * k + j) = _
      rw [hz _ (by omega), Nat.mul_comm 8 k])
    rw [e9]
    unfold SR
    refine (sh_fit ?_).1.symm
    have := SS_bd (G := fun j => (ZQ (fun q => mn (64 * b + q)) (FC st sc s) (ZI (k * 8 + j))).toInt64) hc (fun j hj => zq_b) 8 (by omega)
    omega
