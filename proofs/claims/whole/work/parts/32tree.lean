/-! The pure side, 4: a tree is read: the class by recursion, the reference by a stack of its own. -/
theorem trV_mono {br br' : Nat → Int32} {lo hi lo' hi' : Nat} (h1 : lo' ≤ lo) (h2 : hi ≤ hi') (ha : ∀ j, 2 * lo ≤ j → j < 2 * hi → br' j = br j) : ∀ (d : Nat) (x : Int32), trV br lo hi d x → trV br' lo' hi' d x
  | 0, _, h => h
  | d + 1, x, h => by
    rcases h with h | ⟨i, a, b, e, c, d9⟩
    · exact Or.inl h
    · refine Or.inr ⟨i, by omega, by omega, e, ?_, ?_⟩
      · rw [ha _ (by omega) (by omega)]; exact trV_mono h1 h2 ha d _ c
      · rw [ha _ (by omega) (by omega)]; exact trV_mono h1 h2 ha d _ d9
theorem trV_tok {br : Nat → Int32} {lo hi t : Nat} (h : t < 32) : ∀ d : Nat, trV br lo hi d (-nI 1 - nI t)
  | 0 => ⟨t, h, rfl⟩
  | _ + 1 => Or.inl ⟨t, h, rfl⟩
def paOk (m off : Nat) (pa : Nat → Int32) (e : Nat) : Prop := ∀ i, i < e → ∃ q : Nat, q < m ∧ pa i = nI (off + q)
theorem pop_ex {sd pa : Nat → Int32} {m off : Nat} (hm : m ≤ 46) (ho : off ≤ 400) : ∀ (e n k : Nat), e ≤ 13 → e < n → e < k → paOk m off pa e → ∃ e' : Nat, e' ≤ e ∧ f_X7_readTree_L207 sd pa n (nI e) = some (nI e') ∧ f_X7_readTree_L207 sd pa k (nI e) = some (nI e')
  | 0, n, k, he, hn, hk, hpa => by
    obtain ⟨n, rfl⟩ : ∃ j, n = j + 1 := ⟨n - 1, by omega⟩
    obtain ⟨k, rfl⟩ : ∃ j, k = j + 1 := ⟨k - 1, by omega⟩
    refine ⟨0, by omega, ?_, ?_⟩
    · rw [f_X7_readTree_L207]; simp (disch := omega) only [lit, pk_mul, nI_add, ni_sub, ni_div, ni_rem, ni_cl, ni_pred, nmod, ↓reduceIte, ile_t, ile_f, ilt_t, ilt_f, ieq_t, ieq_f, if_true_n, if_false_n, gi_n, nm_n, jn_n, bd1_n, bd2_n, bd3_n, bd4_n, bd5_n, bd6_n]
    · rw [f_X7_readTree_L207]; simp (disch := omega) only [lit, pk_mul, nI_add, ni_sub, ni_div, ni_rem, ni_cl, ni_pred, nmod, ↓reduceIte, ile_t, ile_f, ilt_t, ilt_f, ieq_t, ieq_f, if_true_n, if_false_n, gi_n, nm_n, jn_n, bd1_n, bd2_n, bd3_n, bd4_n, bd5_n, bd6_n]
  | e + 1, n, k, he, hn, hk, hpa => by
    obtain ⟨n, rfl⟩ : ∃ j, n = j + 1 := ⟨n - 1, by omega⟩
    obtain ⟨k, rfl⟩ : ∃ j, k = j + 1 := ⟨k - 1, by omega⟩
    obtain ⟨q, hq, eq⟩ := hpa e (by omega)
    have e9 : e + 1 - 1 = e := rfl
    by_cases c : sd (2 * (off + q) + 1) = nI 99
    · refine ⟨e + 1, by omega, ?_, ?_⟩
      · rw [f_X7_readTree_L207]
        simp (disch := omega) only [lit, pk_mul, nI_add, ni_sub, ni_div, ni_rem, ni_cl, ni_pred, nmod, ↓reduceIte, ile_t, ile_f, ilt_t, ilt_f, ieq_t, ieq_f, if_true_n, if_false_n, gi_n, nm_n, jn_n, bd1_n, bd2_n, bd3_n, bd4_n, bd5_n, bd6_n, e9, eq, if_pos c]
      · rw [f_X7_readTree_L207]
        simp (disch := omega) only [lit, pk_mul, nI_add, ni_sub, ni_div, ni_rem, ni_cl, ni_pred, nmod, ↓reduceIte, ile_t, ile_f, ilt_t, ilt_f, ieq_t, ieq_f, if_true_n, if_false_n, gi_n, nm_n, jn_n, bd1_n, bd2_n, bd3_n, bd4_n, bd5_n, bd6_n, e9, eq, if_pos c]
    · obtain ⟨e', h1, h2, h3⟩ := pop_ex (sd := sd) hm ho e n k (by omega) (by omega) (by omega) (fun i hi => hpa i (by omega))
      refine ⟨e', by omega, ?_, ?_⟩
      · rw [f_X7_readTree_L207]
        simp (disch := omega) only [lit, pk_mul, nI_add, ni_sub, ni_div, ni_rem, ni_cl, ni_pred, nmod, ↓reduceIte, ile_t, ile_f, ilt_t, ilt_f, ieq_t, ieq_f, if_true_n, if_false_n, gi_n, nm_n, jn_n, bd1_n, bd2_n, bd3_n, bd4_n, bd5_n, bd6_n, e9, eq, if_neg c, h2]
      · rw [f_X7_readTree_L207]
        simp (disch := omega) only [lit, pk_mul, nI_add, ni_sub, ni_div, ni_rem, ni_cl, ni_pred, nmod, ↓reduceIte, ile_t, ile_f, ilt_t, ilt_f, ieq_t, ieq_f, if_true_n, if_false_n, gi_n, nm_n, jn_n, bd1_n, bd2_n, bd3_n, bd4_n, bd5_n, bd6_n, e9, eq, if_neg c, h3]
theorem pop_none {sd pa : Nat → Int32} {e q : Nat} (he : e ≤ 13) (hq : q < 500) (hpa : pa e = nI q) (c : sd (2 * q + 1) = nI 99) : f_X7_readTree_L207 sd pa 4000 (nI (e + 1)) = some (nI (e + 1)) := by
  have e9 : e + 1 - 1 = e := rfl
  rw [show (4000 : Nat) = 3999 + 1 from rfl, f_X7_readTree_L207]
  simp (disch := omega) only [lit, pk_mul, nI_add, ni_sub, ni_div, ni_rem, ni_cl, ni_pred, nmod, ↓reduceIte, ile_t, ile_f, ilt_t, ilt_f, ieq_t, ieq_f, if_true_n, if_false_n, gi_n, nm_n, jn_n, bd1_n, bd2_n, bd3_n, bd4_n, bd5_n, bd6_n, e9, hpa, if_pos c]
theorem pop_step {sd pa : Nat → Int32} {m off e q : Nat} (hm : m ≤ 46) (ho : off ≤ 400) (he : e ≤ 12) (hpo : paOk m off pa e) (hq : q < 500) (hpa : pa e = nI q) (c : ¬ sd (2 * q + 1) = nI 99) : f_X7_readTree_L207 sd pa 4000 (nI (e + 1)) = f_X7_readTree_L207 sd pa 4000 (nI e) := by
  have e9 : e + 1 - 1 = e := rfl
  obtain ⟨e', h1, h2, h3⟩ := pop_ex (sd := sd) hm ho e 3999 4000 (by omega) (by omega) (by omega) hpo
  rw [h3, show (4000 : Nat) = 3999 + 1 from rfl, f_X7_readTree_L207]
  simp (disch := omega) only [lit, pk_mul, nI_add, ni_sub, ni_div, ni_rem, ni_cl, ni_pred, nmod, ↓reduceIte, ile_t, ile_f, ilt_t, ilt_f, ieq_t, ieq_f, if_true_n, if_false_n, gi_n, nm_n, jn_n, bd1_n, bd2_n, bd3_n, bd4_n, bd5_n, bd6_n, e9, hpa, if_neg c, h2]
/-- the reference's loop -/
def LT (w sz : Nat) (B : Nat → Int32) (n p f : Nat) (sd rt tk pa : Nat → Int32) (m e more : Nat) : Option (Int32 × Int32 × (Nat → Int32) × (Nat → Int32) × (Nat → Int32) × (Nat → Int32)) := f_X7_readTree_L21 (nI w) (nI sz) B (nI (256 * w)) n (nI p) (nI f) sd rt tk pa (nI m) (nI e) (nI more)
/-- .. behind a subtree that stands at depth e -/
def TT (w sz : Nat) (B : Nat → Int32) (n p f : Nat) (sd rt tk pa : Nat → Int32) (m e : Nat) : Option (Int32 × Int32 × (Nat → Int32) × (Nat → Int32) × (Nat → Int32) × (Nat → Int32)) :=
  bd1 (f_X7_readTree_L207 sd pa 4000 (nI e)) fun v => if v ≤ nI 0 then f_X7_readTree_L21 (nI w) (nI sz) B (nI (256 * w)) n (nI p) (nI f) sd rt tk pa (nI m) v (nI 0) else if nI f = nI 0 then f_X7_readTree_L21 (nI w) (nI sz) B (nI (256 * w)) n (nI p) (nI f) sd rt tk pa (nI m) v (nI 1) else f_X7_readTree_L21 (nI w) (nI sz) B (nI (256 * w)) n (nI p) (nI f) sd rt tk pa (nI m) v (nI 0)
theorem LT_end {w sz n p f m e : Nat} {B sd rt tk pa : Nat → Int32} : LT w sz B (n + 1) p f sd rt tk pa m e 0 = some (nI p, nI f, sd, rt, tk, pa) := by
  unfold LT
  rw [f_X7_readTree_L21]
  simp (disch := omega) only [lit, pk_mul, nI_add, ni_sub, ni_div, ni_rem, ni_cl, ni_pred, nmod, ↓reduceIte, ile_t, ile_f, ilt_t, ilt_f, ieq_t, ieq_f, if_true_n, if_false_n, gi_n, nm_n, jn_n, bd1_n, bd2_n, bd3_n, bd4_n, bd5_n, bd6_n]
theorem TT_go {w sz n p m e : Nat} {B sd rt tk pa : Nat → Int32} (he : e < 1000) (h : f_X7_readTree_L207 sd pa 4000 (nI (e + 1)) = some (nI (e + 1))) : TT w sz B n p 0 sd rt tk pa m (e + 1) = LT w sz B n p 0 sd rt tk pa m (e + 1) 1 := by
  unfold TT LT
  rw [h, bd1_n, if_neg (nI_ge (Nat.succ_pos e) (by omega)), if_pos rfl]
theorem TT_end {w sz n p f m m' off e : Nat} {B sd rt tk pa : Nat → Int32} (hf : f ≠ 0) (hf6 : f ≤ 6) (hm : m' ≤ 46) (ho : off ≤ 400) (he : e ≤ 13) (hpo : paOk m' off pa e) : TT w sz B (n + 1) p f sd rt tk pa m e = some (nI p, nI f, sd, rt, tk, pa) := by
  obtain ⟨e', h1, h2, h3⟩ := pop_ex (sd := sd) hm ho e 4000 4000 (by omega) (by omega) (by omega) hpo
  have hL : ∀ v : Int32, f_X7_readTree_L21 (nI w) (nI sz) B (nI (256 * w)) (n + 1) (nI p) (nI f) sd rt tk pa (nI m) v (nI 0) = some (nI p, nI f, sd, rt, tk, pa) := by
    intro v
    rw [f_X7_readTree_L21]
    simp (disch := omega) only [lit, pk_mul, nI_add, ni_sub, ni_div, ni_rem, ni_cl, ni_pred, nmod, ↓reduceIte, ile_t, ile_f, ilt_t, ilt_f, ieq_t, ieq_f, if_true_n, if_false_n, gi_n, nm_n, jn_n, bd1_n, bd2_n, bd3_n, bd4_n, bd5_n, bd6_n]
  unfold TT
  by_cases c : e' = 0
  · subst c
    simp (disch := omega) only [lit, pk_mul, nI_add, ni_sub, ni_div, ni_rem, ni_cl, ni_pred, nmod, ↓reduceIte, ile_t, ile_f, ilt_t, ilt_f, ieq_t, ieq_f, if_true_n, if_false_n, gi_n, nm_n, jn_n, bd1_n, bd2_n, bd3_n, bd4_n, bd5_n, bd6_n, h2, hL]
  · simp (disch := omega) only [lit, pk_mul, nI_add, ni_sub, ni_div, ni_rem, ni_cl, ni_pred, nmod, ↓reduceIte, ile_t, ile_f, ilt_t, ilt_f, ieq_t, ieq_f, if_true_n, if_false_n, gi_n, nm_n, jn_n, bd1_n, bd2_n, bd3_n, bd4_n, bd5_n, bd6_n, h2, hL]
theorem TT_zero {w sz n p m : Nat} {B sd rt tk pa : Nat → Int32} : TT w sz B (n + 1) p 0 sd rt tk pa m 0 = some (nI p, nI 0, sd, rt, tk, pa) := by
  have hL : ∀ v : Int32, f_X7_readTree_L21 (nI w) (nI sz) B (nI (256 * w)) (n + 1) (nI p) (nI 0) sd rt tk pa (nI m) v (nI 0) = some (nI p, nI 0, sd, rt, tk, pa) := by
    intro v
    rw [f_X7_readTree_L21]
    simp (disch := omega) only [lit, pk_mul, nI_add, ni_sub, ni_div, ni_rem, ni_cl, ni_pred, nmod, ↓reduceIte, ile_t, ile_f, ilt_t, ilt_f, ieq_t, ieq_f, if_true_n, if_false_n, gi_n, nm_n, jn_n, bd1_n, bd2_n, bd3_n, bd4_n, bd5_n, bd6_n]
  unfold TT
  have h2 : f_X7_readTree_L207 sd pa 4000 (nI 0) = some (nI 0) := by
    rw [show (4000 : Nat) = 3999 + 1 from rfl, f_X7_readTree_L207]; simp (disch := omega) only [lit, pk_mul, nI_add, ni_sub, ni_div, ni_rem, ni_cl, ni_pred, nmod, ↓reduceIte, ile_t, ile_f, ilt_t, ilt_f, ieq_t, ieq_f, if_true_n, if_false_n, gi_n, nm_n, jn_n, bd1_n, bd2_n, bd3_n, bd4_n, bd5_n, bd6_n]
  simp (disch := omega) only [lit, pk_mul, nI_add, ni_sub, ni_div, ni_rem, ni_cl, ni_pred, nmod, ↓reduceIte, ile_t, ile_f, ilt_t, ilt_f, ieq_t, ieq_f, if_true_n, if_false_n, gi_n, nm_n, jn_n, bd1_n, bd2_n, bd3_n, bd4_n, bd5_n, bd6_n, h2, hL]
theorem TT_pop {w sz n p f m e : Nat} {B sd rt tk pa : Nat → Int32} (h : f_X7_readTree_L207 sd pa 4000 (nI (e + 1)) = f_X7_readTree_L207 sd pa 4000 (nI e)) : TT w sz B n p f sd rt tk pa m (e + 1) = TT w sz B n p f sd rt tk pa m e := by
  unfold TT
  rw [h]
def fillS (e q : Nat) (sd : Nat → Int32) (v : Int32) : Nat → Int32 := if e = 0 then sd else if sd (2 * q) = nI 99 then upd sd (2 * q) v else upd sd (2 * q + 1) v
def fillR (e w : Nat) (rt : Nat → Int32) (v : Int32) : Nat → Int32 := if e = 0 then upd rt w v else rt
theorem bd1_cg {A0 B : Type} {x : Option A0} {f g : A0 → Option B} (h : ∀ a, f a = g a) : bd1 x f = bd1 x g := by
  rw [show f = g from funext h]
theorem ite2_cg {B : Type} {c d : Prop} {i1 i2 : Decidable c} {j1 j2 : Decidable d} {x y z : B} : @ite B c i1 x (@ite B d j1 y z) = @ite B c i2 x (@ite B d j2 y z) := by
  by_cases q1 : c
  · rw [if_pos q1, if_pos q1]
  · rw [if_neg q1, if_neg q1]
    by_cases q2 : d
    · rw [if_pos q2, if_pos q2]
    · rw [if_neg q2, if_neg q2]
theorem iter_leaf {w sz n p p1 p2 f2 t m e q v : Nat} {B sd rt tk pa : Nat → Int32} (hw : w < 4) (he : e ≤ 12) (ht : t ≤ 32) (hv : v < 32) (htk : tk w = nI t) (hpa : e = 0 ∨ (pa (e - 1) = nI q ∧ q < 500)) (e1 : f_X7_bit (nI sz) (nI p) (nI 0) B = some (nI 1, nI p1, nI 0)) (e2 : f_X7_bits (nI 5) (nI sz) (nI p1) (nI (if t = 32 then 3 else 0)) B = some (nI v, nI p2, nI f2)) : LT w sz B (n + 1) p 0 sd rt tk pa m e 1 = TT w sz B n p2 f2 (fillS e q sd (-nI 1 - nI v)) (fillR e w rt (-nI 1 - nI v)) (upd tk w (nI (t + 1))) pa m e := by
  have hneg := (tok_ne v hv).2
  unfold LT TT fillS fillR
  rw [f_X7_readTree_L21]
  have e3 : ∀ F : Nat, F = (if t = 32 then 3 else 0) → f_X7_bits (nI 5) (nI sz) (nI p1) (nI F) B = some (nI v, nI p2, nI f2) := fun F hF => by rw [hF]; exact e2
  have e4 := e3 0
  have e5 := e3 3
  by_cases c : e = 0
  · subst c
    by_cases c2 : t = 32
    · have e5 := e5 (by rw [if_pos c2])
      simp (disch := omega) only [lit, pk_mul, nI_add, ni_sub, ni_div, ni_rem, ni_cl, ni_pred, nmod, ↓reduceIte, ile_t, ile_f, ilt_t, ilt_f, ieq_t, ieq_f, if_true_n, if_false_n, gi_n, nm_n, jn_n, bd1_n, bd2_n, bd3_n, bd4_n, bd5_n, bd6_n, e1, htk, X7_fail_0, X7_fail_1, if_pos hneg, e5] <;> exact bd1_cg (fun _ => ite2_cg) <;> rfl
    · have e4 := e4 (by rw [if_neg c2])
      simp (disch := omega) only [lit, pk_mul, nI_add, ni_sub, ni_div, ni_rem, ni_cl, ni_pred, nmod, ↓reduceIte, ile_t, ile_f, ilt_t, ilt_f, ieq_t, ieq_f, if_true_n, if_false_n, gi_n, nm_n, jn_n, bd1_n, bd2_n, bd3_n, bd4_n, bd5_n, bd6_n, e1, htk, X7_fail_0, X7_fail_1, if_pos hneg, e4] <;> exact bd1_cg (fun _ => ite2_cg) <;> rfl
  · obtain ⟨hq, hq5⟩ := hpa.resolve_left c
    by_cases c3 : sd (2 * q) = nI 99
    · by_cases c2 : t = 32
      · have e5 := e5 (by rw [if_pos c2])
        simp (disch := omega) only [lit, pk_mul, nI_add, ni_sub, ni_div, ni_rem, ni_cl, ni_pred, nmod, ↓reduceIte, ile_t, ile_f, ilt_t, ilt_f, ieq_t, ieq_f, if_true_n, if_false_n, gi_n, nm_n, jn_n, bd1_n, bd2_n, bd3_n, bd4_n, bd5_n, bd6_n, e1, htk, X7_fail_0, X7_fail_1, if_pos hneg, e5, hq, if_pos c3, if_neg c] <;> exact bd1_cg (fun _ => ite2_cg) <;> rfl
      · have e4 := e4 (by rw [if_neg c2])
        simp (disch := omega) only [lit, pk_mul, nI_add, ni_sub, ni_div, ni_rem, ni_cl, ni_pred, nmod, ↓reduceIte, ile_t, ile_f, ilt_t, ilt_f, ieq_t, ieq_f, if_true_n, if_false_n, gi_n, nm_n, jn_n, bd1_n, bd2_n, bd3_n, bd4_n, bd5_n, bd6_n, e1, htk, X7_fail_0, X7_fail_1, if_pos hneg, e4, hq, if_pos c3, if_neg c] <;> exact bd1_cg (fun _ => ite2_cg) <;> rfl
    · by_cases c2 : t = 32
      · have e5 := e5 (by rw [if_pos c2])
        simp (disch := omega) only [lit, pk_mul, nI_add, ni_sub, ni_div, ni_rem, ni_cl, ni_pred, nmod, ↓reduceIte, ile_t, ile_f, ilt_t, ilt_f, ieq_t, ieq_f, if_true_n, if_false_n, gi_n, nm_n, jn_n, bd1_n, bd2_n, bd3_n, bd4_n, bd5_n, bd6_n, e1, htk, X7_fail_0, X7_fail_1, if_pos hneg, e5, hq, if_neg c3, if_neg c] <;> exact bd1_cg (fun _ => ite2_cg) <;> rfl
      · have e4 := e4 (by rw [if_neg c2])
        simp (disch := omega) only [lit, pk_mul, nI_add, ni_sub, ni_div, ni_rem, ni_cl, ni_pred, nmod, ↓reduceIte, ile_t, ile_f, ilt_t, ilt_f, ieq_t, ieq_f, if_true_n, if_false_n, gi_n, nm_n, jn_n, bd1_n, bd2_n, bd3_n, bd4_n, bd5_n, bd6_n, e1, htk, X7_fail_0, X7_fail_1, if_pos hneg, e4, hq, if_neg c3, if_neg c] <;> exact bd1_cg (fun _ => ite2_cg) <;> rfl
def sd2 (q : Nat) (sd : Nat → Int32) : Nat → Int32 := upd (upd sd (2 * q) (nI 99)) (2 * q + 1) (nI 99)
theorem iter_node {w sz n p f p1 f1 g m e q : Nat} {B sd rt tk pa : Nat → Int32} (hw : w < 4) (he : e ≤ 12) (hm : m ≤ 44) (hf1 : f1 ≤ 6) (hpa : e = 0 ∨ (pa (e - 1) = nI q ∧ q < 500)) (e1 : f_X7_bit (nI sz) (nI p) (nI f) B = some (nI 0, nI p1, nI f1)) (hg : (e = 12 ∧ f1 = 0 ∧ g = 3) ∨ ((e ≠ 12 ∨ f1 ≠ 0) ∧ g = f1)) : LT w sz B (n + 1) p f sd rt tk pa m e 1 = TT w sz B n p1 g (fillS e q (sd2 (128 * w + m) sd) (nI (128 * w + m))) (fillR e w rt (nI (128 * w + m))) tk (upd pa e (nI (128 * w + m))) (m + 1) (e + 1) := by
  have h9 : 256 * w / 2 = 128 * w := by omega
  unfold LT TT fillS fillR sd2
  rw [f_X7_readTree_L21]
  by_cases c : e = 0
  · subst c
    obtain rfl : g = f1 := by omega
    simp (disch := omega) only [lit, pk_mul, nI_add, ni_sub, ni_div, ni_rem, ni_cl, ni_pred, nmod, ↓reduceIte, ile_t, ile_f, ilt_t, ilt_f, ieq_t, ieq_f, if_true_n, if_false_n, gi_n, nm_n, jn_n, bd1_n, bd2_n, bd3_n, bd4_n, bd5_n, bd6_n, e1, h9, eq_self] <;> exact bd1_cg (fun _ => ite2_cg) <;> rfl
  · obtain ⟨hq, hq5⟩ := hpa.resolve_left c
    rcases hg with ⟨c2, c4, rfl⟩ | ⟨c2, rfl⟩
    · subst c4
      by_cases c3 : upd (upd sd (2 * (128 * w + m)) (nI 99)) (2 * (128 * w + m) + 1) (nI 99) (2 * q) = nI 99
      · simp (disch := omega) only [lit, pk_mul, nI_add, ni_sub, ni_div, ni_rem, ni_cl, ni_pred, nmod, ↓reduceIte, ile_t, ile_f, ilt_t, ilt_f, ieq_t, ieq_f, if_true_n, if_false_n, gi_n, nm_n, jn_n, bd1_n, bd2_n, bd3_n, bd4_n, bd5_n, bd6_n, e1, h9, X7_fail_0, X7_fail_1, hq, if_pos c3, if_neg c] <;> exact bd1_cg (fun _ => ite2_cg) <;> rfl
      · simp (disch := omega) only [lit, pk_mul, nI_add, ni_sub, ni_div, ni_rem, ni_cl, ni_pred, nmod, ↓reduceIte, ile_t, ile_f, ilt_t, ilt_f, ieq_t, ieq_f, if_true_n, if_false_n, gi_n, nm_n, jn_n, bd1_n, bd2_n, bd3_n, bd4_n, bd5_n, bd6_n, e1, h9, X7_fail_0, X7_fail_1, hq, if_neg c3, if_neg c] <;> exact bd1_cg (fun _ => ite2_cg) <;> rfl
    · by_cases c5 : e = 12
      · have c6 : g ≠ 0 := by omega
        by_cases c3 : upd (upd sd (2 * (128 * w + m)) (nI 99)) (2 * (128 * w + m) + 1) (nI 99) (2 * q) = nI 99
        · simp (disch := omega) only [lit, pk_mul, nI_add, ni_sub, ni_div, ni_rem, ni_cl, ni_pred, nmod, ↓reduceIte, ile_t, ile_f, ilt_t, ilt_f, ieq_t, ieq_f, if_true_n, if_false_n, gi_n, nm_n, jn_n, bd1_n, bd2_n, bd3_n, bd4_n, bd5_n, bd6_n, e1, h9, X7_fail_0, X7_fail_1, hq, if_pos c3, if_neg c] <;> exact bd1_cg (fun _ => ite2_cg) <;> rfl
        · simp (disch := omega) only [lit, pk_mul, nI_add, ni_sub, ni_div, ni_rem, ni_cl, ni_pred, nmod, ↓reduceIte, ile_t, ile_f, ilt_t, ilt_f, ieq_t, ieq_f, if_true_n, if_false_n, gi_n, nm_n, jn_n, bd1_n, bd2_n, bd3_n, bd4_n, bd5_n, bd6_n, e1, h9, X7_fail_0, X7_fail_1, hq, if_neg c3, if_neg c] <;> exact bd1_cg (fun _ => ite2_cg) <;> rfl
      · by_cases c3 : upd (upd sd (2 * (128 * w + m)) (nI 99)) (2 * (128 * w + m) + 1) (nI 99) (2 * q) = nI 99
        · simp (disch := omega) only [lit, pk_mul, nI_add, ni_sub, ni_div, ni_rem, ni_cl, ni_pred, nmod, ↓reduceIte, ile_t, ile_f, ilt_t, ilt_f, ieq_t, ieq_f, if_true_n, if_false_n, gi_n, nm_n, jn_n, bd1_n, bd2_n, bd3_n, bd4_n, bd5_n, bd6_n, e1, h9, X7_fail_0, X7_fail_1, hq, if_pos c3, if_neg c] <;> exact bd1_cg (fun _ => ite2_cg) <;> rfl
        · simp (disch := omega) only [lit, pk_mul, nI_add, ni_sub, ni_div, ni_rem, ni_cl, ni_pred, nmod, ↓reduceIte, ile_t, ile_f, ilt_t, ilt_f, ieq_t, ieq_f, if_true_n, if_false_n, gi_n, nm_n, jn_n, bd1_n, bd2_n, bd3_n, bd4_n, bd5_n, bd6_n, e1, h9, X7_fail_0, X7_fail_1, hq, if_neg c3, if_neg c] <;> exact bd1_cg (fun _ => ite2_cg) <;> rfl
/-! the class's side -/
theorem leaf_n {sz p p2 f2 t v : Nat} {B : Nat → Int32} (ht : t ≤ 32) (e2 : f_X4_number (nI 5) (nI sz) (nI p) (nI (if t = 32 then 3 else 0)) B = some (nI v, nI p2, nI f2)) : f_X5_readLeaf (nI t) (nI sz) (nI p) (nI 0) B = some (-nI 1 - nI v, nI (t + 1), nI p2, nI f2) := by
  unfold f_X5_readLeaf
  by_cases c2 : t = 32
  · rw [if_pos c2] at e2
    simp (disch := omega) only [lit, pk_mul, nI_add, ni_sub, ni_div, ni_rem, ni_cl, ni_pred, nmod, ↓reduceIte, ile_t, ile_f, ilt_t, ilt_f, ieq_t, ieq_f, if_true_n, if_false_n, gi_n, nm_n, jn_n, bd1_n, bd2_n, bd3_n, bd4_n, bd5_n, bd6_n, X4_fail_0, X4_fail_1, e2]
  · rw [if_neg c2] at e2
    simp (disch := omega) only [lit, pk_mul, nI_add, ni_sub, ni_div, ni_rem, ni_cl, ni_pred, nmod, ↓reduceIte, ile_t, ile_f, ilt_t, ilt_f, ieq_t, ieq_f, if_true_n, if_false_n, gi_n, nm_n, jn_n, bd1_n, bd2_n, bd3_n, bd4_n, bd5_n, bd6_n, e2]
theorem branch_leaf {k d m sz p p1 p2 f2 t v : Nat} {B br : Nat → Int32} (ht : t ≤ 32) (e1 : f_X4_bit (nI sz) (nI p) (nI 0) B = some (nI 1, nI p1, nI 0)) (e2 : f_X4_number (nI 5) (nI sz) (nI p1) (nI (if t = 32 then 3 else 0)) B = some (nI v, nI p2, nI f2)) : f_X5_readBranch (k + 1) (nI d) (nI m) (nI t) br (nI sz) (nI p) (nI 0) B = some (-nI 1 - nI v, nI m, nI (t + 1), br, nI p2, nI f2) := by
  rw [f_X5_readBranch]
  simp (disch := omega) only [lit, pk_mul, nI_add, ni_sub, ni_div, ni_rem, ni_cl, ni_pred, nmod, ↓reduceIte, ile_t, ile_f, ilt_t, ilt_f, ieq_t, ieq_f, if_true_n, if_false_n, gi_n, nm_n, jn_n, bd1_n, bd2_n, bd3_n, bd4_n, bd5_n, bd6_n, e1, leaf_n ht e2]
theorem branch_bad {k d m sz p f p1 f1 g t : Nat} {B br : Nat → Int32} (hd : d ≤ 12) (hm : d ≠ 12 → m < 44) (hf1 : f1 ≤ 6) (e1 : f_X4_bit (nI sz) (nI p) (nI f) B = some (nI 0, nI p1, nI f1)) (hg : (d = 12 ∧ f1 = 0 ∧ g = 3) ∨ (f1 ≠ 0 ∧ g = f1)) : f_X5_readBranch (k + 1) (nI d) (nI m) (nI t) br (nI sz) (nI p) (nI f) B = some (nI 0, nI m, nI t, br, nI p1, nI g) := by
  rw [f_X5_readBranch]
  rcases hg with ⟨c, c2, rfl⟩ | ⟨c2, rfl⟩
  · subst c2
    simp (disch := omega) only [lit, pk_mul, nI_add, ni_sub, ni_div, ni_rem, ni_cl, ni_pred, nmod, ↓reduceIte, ile_t, ile_f, ilt_t, ilt_f, ieq_t, ieq_f, if_true_n, if_false_n, gi_n, nm_n, jn_n, bd1_n, bd2_n, bd3_n, bd4_n, bd5_n, bd6_n, e1, X4_fail_0, X4_fail_1, X4_sound_0, X4_sound_1]
  · by_cases c : d = 12
    · simp (disch := omega) only [lit, pk_mul, nI_add, ni_sub, ni_div, ni_rem, ni_cl, ni_pred, nmod, ↓reduceIte, ile_t, ile_f, ilt_t, ilt_f, ieq_t, ieq_f, if_true_n, if_false_n, gi_n, nm_n, jn_n, bd1_n, bd2_n, bd3_n, bd4_n, bd5_n, bd6_n, e1, X4_fail_0, X4_fail_1, X4_sound_0, X4_sound_1]
    · have hm := hm c
      simp (disch := omega) only [lit, pk_mul, nI_add, ni_sub, ni_div, ni_rem, ni_cl, ni_pred, nmod, ↓reduceIte, ile_t, ile_f, ilt_t, ilt_f, ieq_t, ieq_f, if_true_n, if_false_n, gi_n, nm_n, jn_n, bd1_n, bd2_n, bd3_n, bd4_n, bd5_n, bd6_n, e1, X4_fail_0, X4_fail_1, X4_sound_0, X4_sound_1]
theorem branch_node {k d m sz p p1 t m2 t2 p2 m3 t3 p3 f3 : Nat} {B br br2 br3 : Nat → Int32} {y2 y3 : Int32} (hd : d < 12) (hm : m < 44) (e1 : f_X4_bit (nI sz) (nI p) (nI 0) B = some (nI 0, nI p1, nI 0)) (f2 : Nat) (e2 : f_X5_readBranch k (nI (d + 1)) (nI (m + 1)) (nI t) br (nI sz) (nI p1) (nI 0) B = some (y2, nI m2, nI t2, br2, nI p2, nI f2)) (e3 : f_X5_readBranch k (nI (d + 1)) (nI m2) (nI t2) (upd br2 (2 * m) y2) (nI sz) (nI p2) (nI f2) B = some (y3, nI m3, nI t3, br3, nI p3, nI f3)) : f_X5_readBranch (k + 1) (nI d) (nI m) (nI t) br (nI sz) (nI p) (nI 0) B = some (nI m, nI m3, nI t3, upd br3 (2 * m + 1) y3, nI p3, nI f3) := by
  rw [f_X5_readBranch]
  simp (disch := omega) only [lit, pk_mul, nI_add, ni_sub, ni_div, ni_rem, ni_cl, ni_pred, nmod, ↓reduceIte, ile_t, ile_f, ilt_t, ilt_f, ieq_t, ieq_f, if_true_n, if_false_n, gi_n, nm_n, jn_n, bd1_n, bd2_n, bd3_n, bd4_n, bd5_n, bd6_n, e1, X4_sound_0, X4_sound_1, e2, e3]
theorem branch_fault {B br : Nat → Int32} {sz p f t m : Nat} (k d : Nat) (hs : sz ≤ 6000) (hp : p ≤ 8 * sz) (hf : f ≤ 6) (hf0 : f ≠ 0) (hd : d ≤ 12) (hm : m ≤ 44) : f_X5_readBranch (k + 1) (nI d) (nI m) (nI t) br (nI sz) (nI p) (nI f) B = some (nI 0, nI m, nI t, br, nI p, nI f) := by
  obtain ⟨b, p1, f1, hb, hp1, hf1, hz1, hy1, e4, e7⟩ := bit_ex B hs hp hf
  obtain ⟨rfl, rfl, rfl⟩ := hz1 hf0
  rw [f_X5_readBranch]
  by_cases c : d = 12
  · subst c
    simp (disch := omega) only [lit, pk_mul, nI_add, ni_sub, ni_div, ni_rem, ni_cl, ni_pred, nmod, ↓reduceIte, ile_t, ile_f, ilt_t, ilt_f, ieq_t, ieq_f, if_true_n, if_false_n, gi_n, nm_n, jn_n, bd1_n, bd2_n, bd3_n, bd4_n, bd5_n, bd6_n, e4, X4_fail_0, X4_fail_1, X4_sound_0, X4_sound_1]
  · by_cases c2 : m = 44
    · simp (disch := omega) only [lit, pk_mul, nI_add, ni_sub, ni_div, ni_rem, ni_cl, ni_pred, nmod, ↓reduceIte, ile_t, ile_f, ilt_t, ilt_f, ieq_t, ieq_f, if_true_n, if_false_n, gi_n, nm_n, jn_n, bd1_n, bd2_n, bd3_n, bd4_n, bd5_n, bd6_n, e4, X4_fail_0, X4_fail_1, X4_sound_0, X4_sound_1]
    · simp (disch := omega) only [lit, pk_mul, nI_add, ni_sub, ni_div, ni_rem, ni_cl, ni_pred, nmod, ↓reduceIte, ile_t, ile_f, ilt_t, ilt_f, ieq_t, ieq_f, if_true_n, if_false_n, gi_n, nm_n, jn_n, bd1_n, bd2_n, bd3_n, bd4_n, bd5_n, bd6_n, e4, X4_fail_0, X4_fail_1, X4_sound_0, X4_sound_1]
/-- the place that a subtree at depth d fills -/
def sl (w d q : Nat) (sd : Nat → Int32) : Nat := if d = 0 then 5000 else if sd (2 * (128 * w + q)) = nI 99 then 2 * (128 * w + q) else 2 * (128 * w + q) + 1
theorem fillS_ne {w d q j : Nat} {sd : Nat → Int32} {v : Int32} (h : j ≠ sl w d q sd) : fillS d (128 * w + q) sd v j = sd j := by
  unfold sl at h
  unfold fillS
  by_cases c : d = 0
  · rw [if_pos c]
  · rw [if_neg c] at h ⊢
    by_cases c2 : sd (2 * (128 * w + q)) = nI 99
    · rw [if_pos c2] at h ⊢; exact pk_un h
    · rw [if_neg c2] at h ⊢; exact pk_un h
theorem fillS_at {w d q : Nat} {sd : Nat → Int32} {v : Int32} (h : d ≠ 0) : fillS d (128 * w + q) sd v (sl w d q sd) = v := by
  unfold sl fillS
  rw [if_neg h, if_neg h]
  by_cases c2 : sd (2 * (128 * w + q)) = nI 99
  · rw [if_pos c2, if_pos c2]; exact pk_us
  · rw [if_neg c2, if_neg c2]; exact pk_us
theorem sd2_ne {q j : Nat} {sd : Nat → Int32} (h1 : j ≠ 2 * q) (h2 : j ≠ 2 * q + 1) : sd2 q sd j = sd j := by
  unfold sd2
  rw [pk_un h2, pk_un h1]
theorem sd2_0 {q : Nat} {sd : Nat → Int32} : sd2 q sd (2 * q) = nI 99 := by
  unfold sd2
  rw [pk_un (by omega), pk_us]
theorem sd2_1 {q : Nat} {sd : Nat → Int32} : sd2 q sd (2 * q + 1) = nI 99 := by
  unfold sd2
  rw [pk_us]
theorem sl_sd2 {w d q m : Nat} {sd : Nat → Int32} (h : d = 0 ∨ q < m) : sl w d q (sd2 (128 * w + m) sd) = sl w d q sd := by
  unfold sl
  by_cases c : d = 0
  · rw [if_pos c, if_pos c]
  · have hq := h.resolve_left c
    rw [sd2_ne (by omega) (by omega)]
theorem sl_lt {w d q m : Nat} {sd : Nat → Int32} (h : d = 0 ∨ q < m) (hm : m ≤ 44) (hw : w < 4) : sl w d q sd = 5000 ∨ (256 * w ≤ sl w d q sd ∧ sl w d q sd < 256 * w + 2 * m) := by
  unfold sl
  by_cases c : d = 0
  · rw [if_pos c]; exact Or.inl rfl
  · have hq := h.resolve_left c
    rw [if_neg c]
    by_cases c2 : sd (2 * (128 * w + q)) = nI 99
    · rw [if_pos c2]; omega
    · rw [if_neg c2]; omega
theorem sl_left {w d q : Nat} {sd : Nat → Int32} (h : sd (2 * (128 * w + q)) = nI 99) : sl w (d + 1) q sd = 2 * (128 * w + q) := by
  unfold sl
  rw [if_neg (by omega), if_pos h]
theorem sl_right {w d q : Nat} {sd : Nat → Int32} (h : ¬ sd (2 * (128 * w + q)) = nI 99) : sl w (d + 1) q sd = 2 * (128 * w + q) + 1 := by
  unfold sl
  rw [if_neg (by omega), if_neg h]
theorem fillR_ne {d w i : Nat} {rt : Nat → Int32} {v : Int32} (h : i ≠ w) : fillR d w rt v i = rt i := by
  unfold fillR
  by_cases c : d = 0
  · rw [if_pos c, pk_un h]
  · rw [if_neg c]
theorem fillR_0 {w : Nat} {rt : Nat → Int32} {v : Int32} : fillR 0 w rt v w = v := by
  unfold fillR
  rw [if_pos rfl, pk_us]
theorem fillR_s {d w : Nat} {rt : Nat → Int32} {v : Int32} : fillR (d + 1) w rt v = rt := by
  unfold fillR
  rw [if_neg (by omega)]
/-- how a subtree ends without a fault -/
def trGood (w sz k d e m t p q : Nat) (B br sd rt tk pa : Nat → Int32) (y : Int32) (m' t' p' : Nat) (br' : Nat → Int32) : Prop :=
  ∃ (y' : Int32) (sd' rt' tk' pa' : Nat → Int32), m ≤ m' ∧ t < t' ∧ m' + 1 ≤ t' + e ∧ t' ≤ 32 ∧ trV br' m m' k y ∧ (∀ j, j < 2 * m → br' j = br j) ∧ shf (128 * w) y y' ∧ y' ≠ nI 99 ∧
    (∀ j, 2 * m ≤ j → j < 2 * m' → shf (128 * w) (br' j) (sd' (256 * w + j))) ∧ tk' w = nI t' ∧ (∀ i, i ≠ w → tk' i = tk i) ∧ (∀ i, i < d → pa' i = pa i) ∧
    (d = 0 → rt' w = y') ∧ (∀ i, i ≠ w → rt' i = rt i) ∧ (d ≠ 0 → sd' (sl w d q sd) = y') ∧ (∀ j, (j < 256 * w + 2 * m ∨ 256 * w + 2 * m' ≤ j) → j ≠ sl w d q sd → sd' j = sd j) ∧ (d ≠ 0 → rt' = rt) ∧
    ∀ n, LT w sz B ((m' - m) + (t' - t) + n) p 0 sd rt tk pa m d 1 = TT w sz B n p' 0 sd' rt' tk' pa' m' d
/-- .. with one -/
def trBad (w sz d m t p : Nat) (B sd rt tk pa : Nat → Int32) (p' f' : Nat) : Prop :=
  ∃ (sd' rt' tk' pa' : Nat → Int32), (∀ j, j < 512 → sd' j = sd j) ∧ (∀ i, i < 2 → rt' i = rt i) ∧ (∀ i, i < 2 → tk' i = tk i) ∧ ∀ N, 80 ≤ N + m + t → LT w sz B N p 0 sd rt tk pa m d 1 = some (nI p', nI f', sd', rt', tk', pa')
theorem paOk_up {m off : Nat} {pa : Nat → Int32} {d : Nat} (h : paOk m off pa d) : paOk (m + 1) off (upd pa d (nI (off + m))) (d + 1) := by
  intro i hi
  by_cases c : i = d
  · subst c
    exact ⟨m, by omega, pk_us⟩
  · obtain ⟨q, h1, h2⟩ := h i (by omega)
    exact ⟨q, by omega, by rw [pk_un c, h2]⟩
theorem tree_sim (w sz : Nat) (B : Nat → Int32) (hw : w < 4) (hw2 : 2 ≤ w) (hs : sz ≤ 6000) : ∀ (k d e m t p q : Nat) (br sd rt tk pa : Nat → Int32), k + d = 12 → e ≤ d → m ≤ t + e → t ≤ 32 → p ≤ 8 * sz → tk w = nI t → paOk m (128 * w) pa d → (d = 0 ∨ (q < m ∧ pa (d - 1) = nI (128 * w + q))) →
    ∃ (y : Int32) (m' t' p' f' : Nat) (br' : Nat → Int32), p' ≤ 8 * sz ∧ f' ≤ 6 ∧ m' ≤ 44 ∧ f_X5_readBranch (k + 2) (nI d) (nI m) (nI t) br (nI sz) (nI p) (nI 0) B = some (y, nI m', nI t', br', nI p', nI f') ∧
      (f' = 0 → trGood w sz k d e m t p q B br sd rt tk pa y m' t' p' br') ∧ (f' ≠ 0 → trBad w sz d m t p B sd rt tk pa p' f')
  | k, d, e, m, t, p, q, br, sd, rt, tk, pa, hk, he, hm, ht, hp, htk, hpo, hq => by
    have hm44 : m ≤ 44 := by omega
    have hq1 : d = 0 ∨ q < m := hq.imp id And.left
    have hq2 : d = 0 ∨ (pa (d - 1) = nI (128 * w + q) ∧ 128 * w + q < 500) := by
      rcases hq with h | ⟨h1, h2⟩
      · exact Or.inl h
      · exact Or.inr ⟨h2, by omega⟩
    obtain ⟨b, p1, f1, hb, hp1, hf1, hz1, hy1, e4, e7⟩ := bit_ex B hs hp (show 0 ≤ 6 by omega)
    rcases (show b = 0 ∨ b = 1 by omega) with rfl | rfl
    · by_cases c : f1 = 0 ∧ d < 12
      · obtain ⟨rfl, hd⟩ := c
        obtain ⟨k, rfl⟩ : ∃ j, k = j + 1 := ⟨k - 1, by omega⟩
        have hm43 : m < 44 := by omega
        obtain ⟨sd1, hsd1⟩ : ∃ x, x = fillS d (128 * w + q) (sd2 (128 * w + m) sd) (nI (128 * w + m)) := ⟨_, rfl⟩
        obtain ⟨rt1, hrt1⟩ : ∃ x, x = fillR d w rt (nI (128 * w + m)) := ⟨_, rfl⟩
        obtain ⟨pa1, hpa1⟩ : ∃ x, x = upd pa d (nI (128 * w + m)) := ⟨_, rfl⟩
        have hit : ∀ n, LT w sz B (n + 1) p 0 sd rt tk pa m d 1 = TT w sz B n p1 0 sd1 rt1 tk pa1 (m + 1) (d + 1) := by
          intro n
          rw [hsd1, hrt1, hpa1]
          exact iter_node hw (by omega) hm44 (by omega) hq2 e7 (Or.inr ⟨Or.inl (by omega), rfl⟩)
        have hsl := sl_lt (w := w) (sd := sd) hq1 hm44 hw
        have hslE : sl w d q (sd2 (128 * w + m) sd) = sl w d q sd := sl_sd2 hq1
        have s0 : sd1 (2 * (128 * w + m)) = nI 99 := by
          rw [hsd1, fillS_ne (by rw [hslE]; omega), sd2_0]
        have s1 : sd1 (2 * (128 * w + m) + 1) = nI 99 := by
          rw [hsd1, fillS_ne (by rw [hslE]; omega), sd2_1]
        have sN : ∀ j, (j < 256 * w + 2 * m ∨ 256 * w + 2 * (m + 1) ≤ j) → j ≠ sl w d q sd → sd1 j = sd j := by
          intro j hj h9
          rw [hsd1, fillS_ne (by rw [hslE]; exact h9), sd2_ne (by omega) (by omega)]
        have sA : d ≠ 0 → sd1 (sl w d q sd) = nI (128 * w + m) := by
          intro h
          rw [hsd1, ← hslE]
          exact fillS_at h
        have hpo1 : paOk (m + 1) (128 * w) pa1 (d + 1) := by rw [hpa1]; exact paOk_up hpo
        have hpd1 : pa1 d = nI (128 * w + m) := by rw [hpa1, pk_us]
        have hgo1 : ∀ n, LT w sz B (n + 1) p 0 sd rt tk pa m d 1 = LT w sz B n p1 0 sd1 rt1 tk pa1 (m + 1) (d + 1) 1 := by
          intro n
          rw [hit n]
          exact TT_go (by omega) (pop_none (by omega) (by omega) hpd1 s1)
        obtain ⟨y2, m2, t2, p2, f2, br2, hp2, hf2, hm2, e42, hG2, hB2⟩ := tree_sim w sz B hw hw2 hs k (d + 1) (e + 1) (m + 1) t p1 m br sd1 rt1 tk pa1 (by omega) (by omega) (by omega) ht hp1 htk hpo1 (Or.inr ⟨by omega, by rw [Nat.add_sub_cancel]; exact hpd1⟩)
        by_cases c2 : f2 = 0
        · subst c2
          obtain ⟨y2', sdL, rtL, tkL, paL, g1, g2, g3, g4, g5, g6, g7, g8, g9, g10, g11, g12, g13, g14, g15, g16, g17, g18⟩ := hG2 rfl
          have hslL : sl w (d + 1) m sd1 = 2 * (128 * w + m) := sl_left s0
          rw [hslL] at g15 g16
          have hL0 : sdL (2 * (128 * w + m)) = y2' := g15 (by omega)
          have hL1 : sdL (2 * (128 * w + m) + 1) = nI 99 := by rw [g16 _ (by omega) (by omega), s1]
          have hLN : ∀ j, (j < 256 * w + 2 * m ∨ 256 * w + 2 * m2 ≤ j) → j ≠ sl w d q sd → sdL j = sd j := by
            intro j hj h9
            rw [g16 j (by omega) (by omega), sN j (by omega) h9]
          have hpoL : paOk m2 (128 * w) paL (d + 1) := by
            intro i hi
            obtain ⟨r, h1, h2⟩ := hpo1 i hi
            exact ⟨r, by omega, by rw [g12 i hi, h2]⟩
          have hpdL : paL d = nI (128 * w + m) := by rw [g12 d (by omega), hpd1]
          have hgo2 : ∀ n, LT w sz B (1 + ((m2 - (m + 1)) + (t2 - t)) + n) p 0 sd rt tk pa m d 1 = LT w sz B n p2 0 sdL rtL tkL paL m2 (d + 1) 1 := by
            intro n
            rw [show 1 + ((m2 - (m + 1)) + (t2 - t)) + n = ((m2 - (m + 1)) + (t2 - t) + n) + 1 by omega, hgo1, g18]
            exact TT_go (by omega) (pop_none (by omega) (by omega) hpdL hL1)
          obtain ⟨y3, m3, t3, p3, f3, br3, hp3, hf3, hm3, e43, hG3, hB3⟩ := tree_sim w sz B hw hw2 hs k (d + 1) e m2 t2 p2 m (upd br2 (2 * m) y2) sdL rtL tkL paL (by omega) (by omega) (by omega) g4 hp2 g10 hpoL (Or.inr ⟨by omega, by rw [Nat.add_sub_cancel]; exact hpdL⟩)
          refine ⟨nI m, m3, t3, p3, f3, upd br3 (2 * m + 1) y3, hp3, hf3, hm3, branch_node hd hm43 e4 0 e42 e43, ?_, ?_⟩
          · intro h0
            subst h0
            obtain ⟨y3', sdR, rtR, tkR, paR, q1, q2, q3, q4, q5, q6, q7, q8, q9, q10, q11, q12, q13, q14, q15, q16, q17, q18⟩ := hG3 rfl
            have hslR : sl w (d + 1) m sdL = 2 * (128 * w + m) + 1 := sl_right (by rw [hL0]; exact g8)
            rw [hslR] at q15 q16
            have hR1 : sdR (2 * (128 * w + m) + 1) = y3' := q15 (by omega)
            have hR0 : sdR (2 * (128 * w + m)) = y2' := by rw [q16 _ (by omega) (by omega), hL0]
            have hRN : ∀ j, (j < 256 * w + 2 * m ∨ 256 * w + 2 * m3 ≤ j) → j ≠ sl w d q sd → sdR j = sd j := by
              intro j hj h9
              rw [q16 j (by omega) (by omega), hLN j (by omega) h9]
            have hbr : ∀ j, j < 2 * m2 → j ≠ 2 * m → j ≠ 2 * m + 1 → upd br3 (2 * m + 1) y3 j = br2 j := by
              intro j hj h1 h2
              rw [pk_un h2, q6 j hj, pk_un h1]
            have hbr0 : upd br3 (2 * m + 1) y3 (2 * m) = y2 := by
              rw [pk_un (by omega), q6 _ (by omega), pk_us]
            have hbr1 : upd br3 (2 * m + 1) y3 (2 * m + 1) = y3 := pk_us
            have hpoR : paOk m3 (128 * w) paR d := by
              intro i hi
              obtain ⟨r, h1, h2⟩ := hpoL i (by omega)
              exact ⟨r, by omega, by rw [q12 i (by omega), h2]⟩
            have hpdR : paR d = nI (128 * w + m) := by rw [q12 d (by omega), hpdL]
            refine ⟨nI (128 * w + m), sdR, rtR, tkR, paR, by omega, by omega, q3, q4, ?_, ?_, Or.inr ⟨m, by omega, rfl, rfl⟩, ?_, ?_, q10, ?_, ?_, ?_, ?_, ?_, hRN, ?_, ?_⟩
            · refine Or.inr ⟨m, by omega, by omega, rfl, ?_, ?_⟩
              · rw [hbr0]
                exact trV_mono (by omega) (by omega) (fun j h1 h2 => hbr j h2 (by omega) (by omega)) k y2 g5
              · rw [hbr1]
                exact trV_mono (by omega) (by omega) (fun j h1 h2 => by rw [pk_un (by omega)]) k y3 q5
            · intro j hj
              rw [hbr j (by omega) (by omega) (by omega), g6 j (by omega)]
            · intro h9
              have := (nI_eq (by omega) (by omega)).mp h9
              omega
            · intro j h1 h2
              by_cases j0 : j = 2 * m
              · subst j0
                rw [hbr0, show 256 * w + 2 * m = 2 * (128 * w + m) by omega, hR0]
                exact g7
              by_cases j1 : j = 2 * m + 1
              · subst j1
                rw [hbr1, show 256 * w + (2 * m + 1) = 2 * (128 * w + m) + 1 by omega, hR1]
                exact q7
              by_cases j2 : j < 2 * m2
              · rw [hbr j j2 j0 j1, q16 _ (by omega) (by omega)]
                exact g9 j (by omega) j2
              · rw [pk_un j1]
                exact q9 j (by omega) h2
            · intro i hi
              rw [q11 i hi, g11 i hi]
            · intro i hi
              rw [q12 i (by omega), g12 i (by omega), hpa1, pk_un (by omega)]
            · intro h
              subst h
              rw [q17 (by omega), g17 (by omega), hrt1, fillR_0]
            · intro i hi
              rw [q14 i hi, g14 i hi, hrt1, fillR_ne hi]
            · intro h
              have h1 := hsl.resolve_left (by unfold sl; rw [if_neg h]; split <;> omega)
              rw [q16 _ (by omega) (by omega), g16 _ (by omega) (by omega), sA h]
            · intro h
              obtain ⟨d', rfl⟩ : ∃ j, d = j + 1 := ⟨d - 1, by omega⟩
              rw [q17 (by omega), g17 (by omega), hrt1, fillR_s]
            · intro n
              rw [show m3 - m + (t3 - t) + n = 1 + ((m2 - (m + 1)) + (t2 - t)) + ((m3 - m2) + (t3 - t2) + n) by omega, hgo2, q18]
              exact TT_pop (pop_step (by omega) (by omega) (by omega) hpoR (by omega) hpdR (by rw [hR1]; exact q8))
          · intro h0
            obtain ⟨sdR, rtR, tkR, paR, q1, q2, q3, q4⟩ := hB3 h0
            refine ⟨sdR, rtR, tkR, paR, ?_, ?_, ?_, ?_⟩
            · intro j hj
              rw [q1 j hj, hLN j (by omega) (by omega)]
            · intro i hi
              rw [q2 i hi, g14 i (by omega), hrt1, fillR_ne (by omega)]
            · intro i hi
              rw [q3 i hi, g11 i (by omega)]
            · intro N hN
              obtain ⟨n, rfl⟩ : ∃ n, N = 1 + ((m2 - (m + 1)) + (t2 - t)) + n := ⟨N - (1 + ((m2 - (m + 1)) + (t2 - t))), by omega⟩
              rw [hgo2]
              exact q4 n (by omega)
        · have e43 := branch_fault (B := B) (br := upd br2 (2 * m) y2) (t := t2) k.succ (d + 1) hs hp2 hf2 c2 (by omega) hm2
          refine ⟨nI m, m2, t2, p2, f2, upd (upd br2 (2 * m) y2) (2 * m + 1) (nI 0), hp2, hf2, hm2, branch_node hd hm43 e4 f2 e42 e43, fun h => absurd h c2, fun _ => ?_⟩
          obtain ⟨sdL, rtL, tkL, paL, q1, q2, q3, q4⟩ := hB2 c2
          refine ⟨sdL, rtL, tkL, paL, ?_, ?_, q3, ?_⟩
          · intro j hj
            rw [q1 j hj, sN j (by omega) (by omega)]
          · intro i hi
            rw [q2 i hi, hrt1, fillR_ne (by omega)]
          · intro N hN
            obtain ⟨n, rfl⟩ : ∃ n, N = n + 1 := ⟨N - 1, by omega⟩
            rw [hgo1]
            exact q4 n (by omega)
      · obtain ⟨g, hg, hg6, hg0⟩ : ∃ g, ((d = 12 ∧ f1 = 0 ∧ g = 3) ∨ (f1 ≠ 0 ∧ g = f1)) ∧ g ≤ 6 ∧ g ≠ 0 := by
          by_cases c2 : f1 = 0
          · exact ⟨3, Or.inl ⟨by omega, c2, rfl⟩, by omega, by omega⟩
          · exact ⟨f1, Or.inr ⟨c2, rfl⟩, hf1, c2⟩
        refine ⟨nI 0, m, t, p1, g, br, hp1, hg6, hm44, branch_bad (by omega) (by omega) hf1 e4 hg, fun h => absurd h hg0, fun _ => ?_⟩
        have hsl := sl_lt (w := w) (sd := sd) hq1 hm44 hw
        have hslE : sl w d q (sd2 (128 * w + m) sd) = sl w d q sd := sl_sd2 hq1
        refine ⟨fillS d (128 * w + q) (sd2 (128 * w + m) sd) (nI (128 * w + m)), fillR d w rt (nI (128 * w + m)), tk, upd pa d (nI (128 * w + m)), ?_, ?_, fun _ _ => rfl, ?_⟩
        · intro j hj
          rw [fillS_ne (by rw [hslE]; omega), sd2_ne (by omega) (by omega)]
        · intro i hi
          exact fillR_ne (by omega)
        · intro N hN
          obtain ⟨n, rfl⟩ : ∃ n, N = n + 1 + 1 := ⟨N - 2, by omega⟩
          rw [iter_node hw (by omega) hm44 hf1 hq2 e7 (g := g) (by omega)]
          exact TT_end hg0 hg6 (show m + 1 ≤ 46 by omega) (by omega) (by omega) (paOk_up hpo)
    · have hf10 : f1 = 0 := by
        rcases Nat.eq_zero_or_pos f1 with h | h
        · exact h
        · exact absurd (hy1 (by omega)) (by omega)
      subst hf10
      obtain ⟨v, p2, f2, hv, hp2, hf2, hz2, e42, e72⟩ := bits_ex (N := 5) (f := if t = 32 then 3 else 0) B hs hp1 (by split <;> omega) (by omega)
      have hv : v < 32 := hv
      refine ⟨-nI 1 - nI v, m, t + 1, p2, f2, br, hp2, hf2, hm44, branch_leaf ht e4 e42, ?_, ?_⟩
      · intro h0
        subst h0
        have ht2 : t ≠ 32 := by
          intro h
          have := (hz2 (by rw [if_pos h]; omega)).2.2
          rw [if_pos h] at this
          omega
        refine ⟨-nI 1 - nI v, fillS d (128 * w + q) sd (-nI 1 - nI v), fillR d w rt (-nI 1 - nI v), upd tk w (nI (t + 1)), pa, by omega, by omega, by omega, by omega, trV_tok hv _, fun _ _ => rfl, Or.inl ⟨v, hv, rfl, rfl⟩, (tok_ne v hv).1, ?_, pk_us, fun i hi => pk_un hi, fun _ _ => rfl, ?_, fun i hi => fillR_ne hi, fun h => fillS_at h, fun j _ h => fillS_ne h, ?_, ?_⟩
        · intro j h1 h2
          omega
        · intro h
          subst h
          exact fillR_0
        · intro h
          obtain ⟨d', rfl⟩ : ∃ j, d = j + 1 := ⟨d - 1, by omega⟩
          exact fillR_s
        · intro n
          rw [show m - m + (t + 1 - t) + n = n + 1 by omega]
          exact iter_leaf hw (by omega) ht hv htk hq2 e7 e72
      · intro h0
        have hsl := sl_lt (w := w) (sd := sd) hq1 hm44 hw
        refine ⟨fillS d (128 * w + q) sd (-nI 1 - nI v), fillR d w rt (-nI 1 - nI v), upd tk w (nI (t + 1)), pa, ?_, ?_, ?_, ?_⟩
        · intro j hj
          exact fillS_ne (by omega)
        · intro i hi
          exact fillR_ne (by omega)
        · intro i hi
          exact pk_un (by omega)
        · intro N hN
          obtain ⟨n, rfl⟩ : ∃ n, N = n + 1 + 1 := ⟨N - 2, by omega⟩
          rw [iter_leaf hw (by omega) ht hv htk hq2 e7 e72]
          exact TT_end h0 hf2 (show m ≤ 46 by omega) (by omega) (by omega) hpo
  termination_by k => k
