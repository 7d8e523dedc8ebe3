/-! The pure side, 13: guesses. -/
theorem smi {m : Nat} {x : Int32} (hm : m < 1073741824) : sm m x ↔ -(m : Int) ≤ x.toInt ∧ x.toInt ≤ (m : Int) := by
  constructor
  · rintro ⟨k, hk, rfl | rfl⟩
    · rw [nI_toInt (by omega)]; omega
    · rw [Int32.toInt_neg, nI_toInt (by omega), Int.bmod_eq_of_le (by omega) (by omega)]; omega
  · rintro ⟨h1, h2⟩
    refine ⟨x.toInt.natAbs, by omega, ?_⟩
    by_cases c : 0 ≤ x.toInt
    · refine Or.inl (Int32.toInt_inj.mp ?_)
      rw [nI_toInt (by omega)]; omega
    · refine Or.inr (Int32.toInt_inj.mp ?_)
      rw [Int32.toInt_neg, nI_toInt (by omega), Int.bmod_eq_of_le (by omega) (by omega)]; omega
theorem sm_mono {a b : Nat} {x : Int32} (h : sm a x) (hb : a ≤ b) : sm b x := by
  obtain ⟨k, hk, e⟩ := h
  exact ⟨k, by omega, e⟩
theorem sm_add {a b : Nat} {x y : Int32} (hx : sm a x) (hy : sm b y) (h : a + b < 1073741824) : sm (a + b) (x + y) := by
  rw [smi (by omega)] at hx hy ⊢
  rw [Int32.toInt_add, Int.bmod_eq_of_le (by omega) (by omega)]
  omega
theorem sm_half {a : Nat} {x y : Int32} (hx : sm a x) (hy : sm a y) (h : a < 500000000) : sm a ((x + y) / nI 2) := by
  rw [smi (by omega)] at hx hy ⊢
  rw [Int32.toInt_div, Int32.toInt_add, Int.bmod_eq_of_le (n := x.toInt + y.toInt) (by omega) (by omega), nI_toInt (by omega)]
  have h9 : ((x.toInt + y.toInt).tdiv ((2 : Nat) : Int)).natAbs = (x.toInt + y.toInt).natAbs / 2 := Int.natAbs_tdiv _ _
  have h1 : (x.toInt + y.toInt).tdiv ((2 : Nat) : Int) ≤ a := by omega
  have h2 : -(a : Int) ≤ (x.toInt + y.toInt).tdiv ((2 : Nat) : Int) := by omega
  rw [Int.bmod_eq_of_le (by omega) (by omega)]
  omega
/-- the kinds -/
def kd (u : Nat) : Nat := if u = 3 then 1 else u
def kr (u : Nat) : Nat := if u = 2 then 0 else if u = 4 then 1 else 2
def krI (u : Nat) : Int32 := if u = 0 then -nI 1 else nI (kr u)
theorem kr_c : ∀ u, u < 5 → u ≠ 0 → kr u < 3 ∧ kd u ≠ 0 ∧ kd u ≠ 3 ∧ kd u < 5 ∧ kr (kd u) = kr u ∧ krI u = nI (kr u) := by decide +kernel
theorem kr_0 : krI 0 < nI 0 := by decide +kernel
theorem kr_e : ∀ u, u < 5 → u ≠ 0 → ∀ v, v < 5 → (krI v = nI (kr u) ↔ kd v = kd u) := by decide +kernel
theorem kr_j : ∀ u, u < 5 → ∀ v, v < 5 → (u ≠ 0 ∧ u ≠ 3) ∧ (v ≠ 0 ∧ v ≠ 3) ∧ kr v = kr u → v = u := by decide +kernel
theorem kd_lt : ∀ u, u < 5 → kd u < 5 := by decide +kernel
theorem X0_kind {b u : Nat} {cm : Nat → Int32} (hb : b < 36) (hu : u < 5) (e : cm b = nI u) : f_X0_kind (nI b) cm = some (nI (kd u)) := by
  unfold f_X0_kind kd
  by_cases c : u = 3
  · rw [if_pos c]
    simp (disch := omega) only [lit, pk_mul, nI_add, ni_sub, ni_div, ni_rem, ni_cl, ni_pred, nmod, ↓reduceIte, ile_t, ile_f, ilt_t, ilt_f, ieq_t, ieq_f, if_true_n, if_false_n, gi_n, nm_n, jn_n, bd1_n, bd2_n, bd3_n, bd4_n, bd5_n, bd6_n, e]
  · rw [if_neg c]
    simp (disch := omega) only [lit, pk_mul, nI_add, ni_sub, ni_div, ni_rem, ni_cl, ni_pred, nmod, ↓reduceIte, ile_t, ile_f, ilt_t, ilt_f, ieq_t, ieq_f, if_true_n, if_false_n, gi_n, nm_n, jn_n, bd1_n, bd2_n, bd3_n, bd4_n, bd5_n, bd6_n, e]
theorem X7_kind : ∀ u, u < 5 → f_X7_kindOf (nI u) = some (krI u) := by decide +kernel
theorem idx_inj {w x y a b : Nat} (hx : x < w) (ha : a < w) (e : y * w + x = b * w + a) : x = a ∧ y = b := by
  have e1 : x = a := by
    have := congrArg (· % w) e
    simp only [Nat.mul_add_mod_self_right, Nat.mod_eq_of_lt hx, Nat.mod_eq_of_lt ha] at this
    exact this
  refine ⟨e1, ?_⟩
  rw [e1] at e
  exact Nat.eq_of_mul_eq_mul_right (by omega) (Nat.add_right_cancel e)
theorem idx_lt {w h x y : Nat} (hx : x < w) (hy : y < h) : y * w + x < w * h := by
  have : (y + 1) * w ≤ h * w := Nat.mul_le_mul_right w hy
  rw [Nat.add_mul, Nat.one_mul] at this
  rw [Nat.mul_comm w h]
  omega
/-- the modes are alike, by column and row -/
def MO2 (w h : Nat) (cm mm : Nat → Int32) : Prop := ∀ y x, y < h → x < w → ∃ u : Nat, u < 5 ∧ cm (y * w + x) = nI u ∧ mm (6 * y + x) = nI u
theorem mo2_of {w h : Nat} {cm mm : Nat → Int32} (hw : w < 7) (hh : h < 7) (hM : MO w h cm mm) : MO2 w h cm mm := by
  intro y x hy hx
  obtain ⟨k, hk, rfl, rfl⟩ := ord_of hw hh hx hy
  obtain ⟨u, hu, e1, e2⟩ := hM k hk
  exact ⟨u, by omega, e1, e2⟩
/-- before block i of the raster -/
def GI (w h i : Nat) (cl ml : Nat → Int32) (cg : Nat → Nat → Int32) (mn : Nat → Int32) : Prop :=
  (∀ y x, y < h → x < w → cg (y * w + x) 0 = mn (64 * (6 * y + x)) ∧ sm (612 * (i + 1)) (cg (y * w + x) 0) ∧ (i ≤ y * w + x → sm 612 (cg (y * w + x) 0))) ∧
  (∀ u, u < 5 → u ≠ 0 → u ≠ 3 → cl u = ml (kr u) ∧ sm (612 * (i + 1)) (cl u))
theorem guess_ex {w h x y u i : Nat} {cm mm cl ml : Nat → Int32} {cg : Nat → Nat → Int32} {mn : Nat → Int32} (hw : w < 7) (hh : h < 7) (hx : x < w) (hy : y < h) (hi : i < 36) (hM : MO2 w h cm mm) (hu : u < 5) (hu0 : u ≠ 0) (e1 : cm (y * w + x) = nI u) (hG : GI w h i cl ml cg mn) :
    ∃ g : Int32, sm (612 * (i + 1)) g ∧ f_X0_guess (nI x) (nI y) (nI w) cm cl cg = some g ∧ ∀ {α : Type} (K : Int32 → Option α),
  (jn (fun (k65 : Int32 → Option α) => (if nI x ≤ (0 : Int32) then
  (k65 (0 : Int32))
  else
  (gi (nI (6 * y + x) - (1 : Int32)) 36 <|
  bd1 (f_X7_kindOf (mm (nI (6 * y + x) - (1 : Int32)).toNatClampNeg)) fun y_133 =>
  (if y_133 = nI (kr u) then
  (k65 (1 : Int32))
  else
  (k65 (0 : Int32)))))) fun k0_66 =>
  jn (fun (k71 : Int32 → Option α) => (if nI y ≤ (0 : Int32) then
  (k71 (0 : Int32))
  else
  (gi (nI (6 * y + x) - (6 : Int32)) 36 <|
  bd1 (f_X7_kindOf (mm (nI (6 * y + x) - (6 : Int32)).toNatClampNeg)) fun y_122 =>
  (if y_122 = nI (kr u) then
  (k71 (1 : Int32))
  else
  (k71 (0 : Int32)))))) fun k0_72 =>
  jn (fun (k77 : Int32 → Option α) => (if k0_66 = (0 : Int32) then
  ((if k0_66 = (0 : Int32) then
  ((if k0_72 = (0 : Int32) then
  (gi (nI (kr u)) 3 <|
  k77 (ml (nI (kr u)).toNatClampNeg))
  else
  (gi ((64 : Int32) * (nI (6 * y + x) - (6 : Int32))) 2304 <|
  k77 (mn ((64 : Int32) * (nI (6 * y + x) - (6 : Int32))).toNatClampNeg))))
  else
  (gi ((64 : Int32) * (nI (6 * y + x) - (1 : Int32))) 2304 <|
  k77 (mn ((64 : Int32) * (nI (6 * y + x) - (1 : Int32))).toNatClampNeg))))
  else
  ((if k0_72 = (0 : Int32) then
  ((if k0_66 = (0 : Int32) then
  ((if k0_72 = (0 : Int32) then
  (gi (nI (kr u)) 3 <|
  k77 (ml (nI (kr u)).toNatClampNeg))
  else
  (gi ((64 : Int32) * (nI (6 * y + x) - (6 : Int32))) 2304 <|
  k77 (mn ((64 : Int32) * (nI (6 * y + x) - (6 : Int32))).toNatClampNeg))))
  else
  (gi ((64 : Int32) * (nI (6 * y + x) - (1 : Int32))) 2304 <|
  k77 (mn ((64 : Int32) * (nI (6 * y + x) - (1 : Int32))).toNatClampNeg))))
  else
  (gi ((64 : Int32) * (nI (6 * y + x) - (1 : Int32))) 2304 <|
  gi ((64 : Int32) * (nI (6 * y + x) - (6 : Int32))) 2304 <|
  k77 (((mn ((64 : Int32) * (nI (6 * y + x) - (1 : Int32))).toNatClampNeg) + (mn ((64 : Int32) * (nI (6 * y + x) - (6 : Int32))).toNatClampNeg)) / (2 : Int32))))))) K) = K g := by
  have hle := wh_le hw hh
  have hb := idx_lt (h := h) hx hy
  obtain ⟨hG1, hG2⟩ := hG
  obtain ⟨q1, q2, q3, q4, q5, q6⟩ := kr_c u hu hu0
  have hk := X0_kind (show y * w + x < 36 by omega) hu e1
  obtain ⟨l1, l2⟩ := hG2 (kd u) q4 q2 q3
  rw [q5] at l1
  have hyw : y ≠ 0 → w ≤ y * w := fun h => Nat.le_mul_of_pos_left w (by omega)
  have hyw2 : y ≠ 0 → (y - 1) * w = y * w - w := fun h => by rw [Nat.sub_mul, Nat.one_mul]
  -- to the left
  have HL : x ≠ 0 → ∃ v : Nat, v < 5 ∧ nI (y * w + x) - nI 1 = nI (y * w + (x - 1)) ∧ y * w + (x - 1) < 36 ∧ f_X0_kind (nI (y * w + (x - 1))) cm = some (nI (kd v)) ∧ nI (6 * y + x) - nI 1 = nI (6 * y + (x - 1)) ∧ f_X7_kindOf (mm (6 * y + (x - 1))) = some (krI v) ∧ cg (y * w + (x - 1)) 0 = mn (64 * (6 * y + (x - 1))) ∧ sm (612 * (i + 1)) (cg (y * w + (x - 1)) 0) := by
    intro h0
    obtain ⟨v, hv, a1, a2⟩ := hM y (x - 1) hy (by omega)
    obtain ⟨g1, g2, g3⟩ := hG1 y (x - 1) hy (by omega)
    refine ⟨v, hv, ?_, by omega, X0_kind (by omega) hv a1, ?_, by rw [a2]; exact X7_kind v hv, g1, g2⟩
    · rw [ni_sub (by omega)]; congr 1; omega
    · rw [ni_sub (by omega)]; congr 1; omega
  have HA : y ≠ 0 → ∃ v : Nat, v < 5 ∧ nI (y * w + x) - nI w = nI ((y - 1) * w + x) ∧ (y - 1) * w + x < 36 ∧ f_X0_kind (nI ((y - 1) * w + x)) cm = some (nI (kd v)) ∧ nI (6 * y + x) - nI 6 = nI (6 * (y - 1) + x) ∧ f_X7_kindOf (mm (6 * (y - 1) + x)) = some (krI v) ∧ cg ((y - 1) * w + x) 0 = mn (64 * (6 * (y - 1) + x)) ∧ sm (612 * (i + 1)) (cg ((y - 1) * w + x) 0) := by
    intro h0
    have z1 := hyw h0
    have z2 := hyw2 h0
    obtain ⟨v, hv, a1, a2⟩ := hM (y - 1) x (by omega) hx
    obtain ⟨g1, g2, g3⟩ := hG1 (y - 1) x (by omega) hx
    refine ⟨v, hv, ?_, by omega, X0_kind (by omega) hv a1, ?_, by rw [a2]; exact X7_kind v hv, g1, g2⟩
    · rw [ni_sub (by omega)]; congr 1; omega
    · rw [ni_sub (by omega)]; congr 1; omega
  unfold f_X0_guess f_X0_index
  by_cases cx : x = 0
  · by_cases cy : y = 0
    · refine ⟨cl (kd u), l2, ?_, fun K => ?_⟩
      · simp (disch := omega) only [lit, pk_mul, nI_add, ni_cl, ↓reduceIte, ile_t, ile_f, ilt_t, ilt_f, ieq_t, ieq_f, if_true_n, if_false_n, gi_n, nm_n, jn_n, bd1_n, bd2_n, bd3_n, bd4_n, bd5_n, bd6_n, hk]
      · simp (disch := omega) only [lit, pk_mul, nI_add, ni_cl, ↓reduceIte, ile_t, ile_f, ilt_t, ilt_f, ieq_t, ieq_f, if_true_n, if_false_n, gi_n, nm_n, jn_n, bd1_n, bd2_n, bd3_n, bd4_n, bd5_n, bd6_n, l1]
    · obtain ⟨v, hv, s1, s2, s3, s4, s5, s6, s7⟩ := HA cy
      by_cases cv : kd v = kd u
      · have r1 := (kr_e u hu hu0 v hv).mpr cv
        refine ⟨_, s7, ?_, fun K => ?_⟩
        · simp (disch := omega) only [lit, pk_mul, nI_add, ni_cl, ↓reduceIte, ile_t, ile_f, ilt_t, ilt_f, ieq_t, ieq_f, if_true_n, if_false_n, gi_n, nm_n, jn_n, bd1_n, bd2_n, bd3_n, bd4_n, bd5_n, bd6_n, hk, s1, s3, cv]
        · simp (disch := omega) only [lit, pk_mul, nI_add, ni_cl, ↓reduceIte, ile_t, ile_f, ilt_t, ilt_f, ieq_t, ieq_f, if_true_n, if_false_n, gi_n, nm_n, jn_n, bd1_n, bd2_n, bd3_n, bd4_n, bd5_n, bd6_n, s4, s5, r1, s6]
      · have r1 : (krI v = nI (kr u)) = False := eq_false (fun e => cv ((kr_e u hu hu0 v hv).mp e))
        have r2 : kd v < 5 := kd_lt v hv
        refine ⟨cl (kd u), l2, ?_, fun K => ?_⟩
        · simp (disch := omega) only [lit, pk_mul, nI_add, ni_cl, ↓reduceIte, ile_t, ile_f, ilt_t, ilt_f, ieq_t, ieq_f, if_true_n, if_false_n, gi_n, nm_n, jn_n, bd1_n, bd2_n, bd3_n, bd4_n, bd5_n, bd6_n, hk, s1, s3]
        · simp (disch := omega) only [lit, pk_mul, nI_add, ni_cl, ↓reduceIte, ile_t, ile_f, ilt_t, ilt_f, ieq_t, ieq_f, if_true_n, if_false_n, gi_n, nm_n, jn_n, bd1_n, bd2_n, bd3_n, bd4_n, bd5_n, bd6_n, s4, s5, r1, l1]
  · obtain ⟨v, hv, s1, s2, s3, s4, s5, s6, s7⟩ := HL cx
    by_cases cv : kd v = kd u
    · have r1 := (kr_e u hu hu0 v hv).mpr cv
      by_cases cy : y = 0
      · refine ⟨_, s7, ?_, fun K => ?_⟩
        · simp (disch := omega) only [lit, pk_mul, nI_add, ni_cl, ↓reduceIte, ile_t, ile_f, ilt_t, ilt_f, ieq_t, ieq_f, if_true_n, if_false_n, gi_n, nm_n, jn_n, bd1_n, bd2_n, bd3_n, bd4_n, bd5_n, bd6_n, hk, s1, s3, cv]
        · simp (disch := omega) only [lit, pk_mul, nI_add, ni_cl, ↓reduceIte, ile_t, ile_f, ilt_t, ilt_f, ieq_t, ieq_f, if_true_n, if_false_n, gi_n, nm_n, jn_n, bd1_n, bd2_n, bd3_n, bd4_n, bd5_n, bd6_n, s4, s5, r1, s6]
      · obtain ⟨v2, hv2, t1, t2, t3, t4, t5, t6, t7⟩ := HA cy
        by_cases cv2 : kd v2 = kd u
        · have r2 := (kr_e u hu hu0 v2 hv2).mpr cv2
          refine ⟨_, sm_half s7 t7 (by omega), ?_, fun K => ?_⟩
          · simp (disch := omega) only [lit, pk_mul, nI_add, ni_cl, ↓reduceIte, ile_t, ile_f, ilt_t, ilt_f, ieq_t, ieq_f, if_true_n, if_false_n, gi_n, nm_n, jn_n, bd1_n, bd2_n, bd3_n, bd4_n, bd5_n, bd6_n, hk, s1, s3, cv, t1, t3, cv2]
          · simp (disch := omega) only [lit, pk_mul, nI_add, ni_cl, ↓reduceIte, ile_t, ile_f, ilt_t, ilt_f, ieq_t, ieq_f, if_true_n, if_false_n, gi_n, nm_n, jn_n, bd1_n, bd2_n, bd3_n, bd4_n, bd5_n, bd6_n, s4, s5, r1, s6, t4, t5, r2, t6]
        · have r2 : (krI v2 = nI (kr u)) = False := eq_false (fun e => cv2 ((kr_e u hu hu0 v2 hv2).mp e))
          have r3 : kd v2 < 5 := kd_lt v2 hv2
          refine ⟨_, s7, ?_, fun K => ?_⟩
          · simp (disch := omega) only [lit, pk_mul, nI_add, ni_cl, ↓reduceIte, ile_t, ile_f, ilt_t, ilt_f, ieq_t, ieq_f, if_true_n, if_false_n, gi_n, nm_n, jn_n, bd1_n, bd2_n, bd3_n, bd4_n, bd5_n, bd6_n, hk, s1, s3, cv, t1, t3]
          · simp (disch := omega) only [lit, pk_mul, nI_add, ni_cl, ↓reduceIte, ile_t, ile_f, ilt_t, ilt_f, ieq_t, ieq_f, if_true_n, if_false_n, gi_n, nm_n, jn_n, bd1_n, bd2_n, bd3_n, bd4_n, bd5_n, bd6_n, s4, s5, r1, s6, t4, t5, r2]
    · have r1 : (krI v = nI (kr u)) = False := eq_false (fun e => cv ((kr_e u hu hu0 v hv).mp e))
      have r2 : kd v < 5 := kd_lt v hv
      by_cases cy : y = 0
      · refine ⟨cl (kd u), l2, ?_, fun K => ?_⟩
        · simp (disch := omega) only [lit, pk_mul, nI_add, ni_cl, ↓reduceIte, ile_t, ile_f, ilt_t, ilt_f, ieq_t, ieq_f, if_true_n, if_false_n, gi_n, nm_n, jn_n, bd1_n, bd2_n, bd3_n, bd4_n, bd5_n, bd6_n, hk, s1, s3]
        · simp (disch := omega) only [lit, pk_mul, nI_add, ni_cl, ↓reduceIte, ile_t, ile_f, ilt_t, ilt_f, ieq_t, ieq_f, if_true_n, if_false_n, gi_n, nm_n, jn_n, bd1_n, bd2_n, bd3_n, bd4_n, bd5_n, bd6_n, s4, s5, r1, l1]
      · obtain ⟨v2, hv2, t1, t2, t3, t4, t5, t6, t7⟩ := HA cy
        by_cases cv2 : kd v2 = kd u
        · have r3 := (kr_e u hu hu0 v2 hv2).mpr cv2
          refine ⟨_, t7, ?_, fun K => ?_⟩
          · simp (disch := omega) only [lit, pk_mul, nI_add, ni_cl, ↓reduceIte, ile_t, ile_f, ilt_t, ilt_f, ieq_t, ieq_f, if_true_n, if_false_n, gi_n, nm_n, jn_n, bd1_n, bd2_n, bd3_n, bd4_n, bd5_n, bd6_n, hk, s1, s3, t1, t3, cv2]
          · simp (disch := omega) only [lit, pk_mul, nI_add, ni_cl, ↓reduceIte, ile_t, ile_f, ilt_t, ilt_f, ieq_t, ieq_f, if_true_n, if_false_n, gi_n, nm_n, jn_n, bd1_n, bd2_n, bd3_n, bd4_n, bd5_n, bd6_n, s4, s5, r1, t4, t5, r3, t6]
        · have r3 : (krI v2 = nI (kr u)) = False := eq_false (fun e => cv2 ((kr_e u hu hu0 v2 hv2).mp e))
          have r4 : kd v2 < 5 := kd_lt v2 hv2
          refine ⟨cl (kd u), l2, ?_, fun K => ?_⟩
          · simp (disch := omega) only [lit, pk_mul, nI_add, ni_cl, ↓reduceIte, ile_t, ile_f, ilt_t, ilt_f, ieq_t, ieq_f, if_true_n, if_false_n, gi_n, nm_n, jn_n, bd1_n, bd2_n, bd3_n, bd4_n, bd5_n, bd6_n, hk, s1, s3, t1, t3]
          · simp (disch := omega) only [lit, pk_mul, nI_add, ni_cl, ↓reduceIte, ile_t, ile_f, ilt_t, ilt_f, ieq_t, ieq_f, if_true_n, if_false_n, gi_n, nm_n, jn_n, bd1_n, bd2_n, bd3_n, bd4_n, bd5_n, bd6_n, s4, s5, r1, t4, t5, r3, l1]
