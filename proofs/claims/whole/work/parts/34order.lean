/-! The pure side, 6: the order; a header wholly. -/
def COLS (i : Nat) : Nat := [0, 1, 1, 0, 0, 0, 1, 1, 2, 2, 3, 3, 3, 2, 2, 3].getD i 0
def LINS (i : Nat) : Nat := [0, 0, 1, 1, 2, 3, 3, 2, 2, 3, 3, 2, 1, 1, 0, 0].getD i 0
theorem cols_c : ∀ i, i < 16 → sCOLUMNS_IN_SQUARE i = nI (COLS i) ∧ sROWS_IN_SQUARE i = nI (LINS i) ∧ COLS i < 4 ∧ LINS i < 4 := by decide +kernel
def one (w h c r : Nat) : List (Nat × Nat) := if c < w ∧ r < h then [(c, r)] else []
/-- the last k places of a square whose corner is (left, top) -/
def sqL (w h left top : Nat) : Nat → List (Nat × Nat)
  | 0 => []
  | k + 1 => one w h (left + COLS (15 - k)) (top + LINS (15 - k)) ++ sqL w h left top k
def rowL (w h top : Nat) : Nat → Nat → List (Nat × Nat)
  | 0, _ => []
  | n + 1, left => if left < w then sqL w h left top 16 ++ rowL w h top n (left + 4) else []
def allL (w h : Nat) : Nat → Nat → List (Nat × Nat)
  | 0, _ => []
  | n + 1, top => if top < h then rowL w h top 3 0 ++ allL w h n (top + 4) else []
def ordL (w h : Nat) : List (Nat × Nat) := allL w h 3 0
theorem ordL_ok : ∀ w, w < 7 → ∀ h, h < 7 → (ordL w h).length = w * h ∧ (ordL w h).Nodup ∧ (∀ q ∈ ordL w h, q.1 < w ∧ q.2 < h) := by decide +kernel
theorem ordL_all0 : ∀ w, w < 7 → ∀ h, h < 7 → (List.range w).all (fun c => (List.range h).all (fun r => decide ((c, r) ∈ ordL w h))) = true := by decide +kernel
theorem ordL_all (w : Nat) (hw : w < 7) (h : Nat) (hh : h < 7) (c : Nat) (hc : c < w) (r : Nat) (hr : r < h) : (c, r) ∈ ordL w h :=
  of_decide_eq_true (List.all_eq_true.mp (List.all_eq_true.mp (ordL_all0 w hw h hh) c (List.mem_range.mpr hc)) r (List.mem_range.mpr hr))
/-- the arrays hold the list, each by its own numbers -/
def orR (w : Nat) (L : List (Nat × Nat)) (ho mo : Nat → Int32) : Prop := ∀ k q, L[k]? = some q → ho k = nI (q.2 * w + q.1) ∧ mo k = nI (6 * q.2 + q.1)
theorem orR_0 {w : Nat} {ho mo : Nat → Int32} : orR w [] ho mo := fun k q h => by simp at h
theorem orR_up {w c r : Nat} {L : List (Nat × Nat)} {ho mo : Nat → Int32} (h : orR w L ho mo) : orR w (L ++ [(c, r)]) (upd ho L.length (nI (r * w + c))) (upd mo L.length (nI (6 * r + c))) := by
  intro k q hk
  by_cases e : k = L.length
  · subst e
    rw [List.getElem?_append_right (Nat.le_refl _), Nat.sub_self] at hk
    cases Option.some.inj hk
    exact ⟨pk_us, pk_us⟩
  · have hk2 : k < L.length := by
      have := (List.getElem?_eq_some_iff.mp hk).1
      rw [List.length_append, List.length_singleton] at this
      omega
    rw [List.getElem?_append_left hk2] at hk
    rw [pk_un e, pk_un e]
    exact h k q hk
def mcl (m_columns m_lines : Nat → Int32) : Prop := ∀ i, i < 16 → m_columns i = nI (COLS i) ∧ m_lines i = nI (LINS i)
theorem sq_loop {w h left top : Nat} {mc ml : Nat → Int32} (hw : w < 7) (hh : h < 7) (hl : left < 100) (ht : top < 100) (hcl : mcl mc ml) : ∀ (r i n m : Nat) (L : List (Nat × Nat)) (ho mo : Nat → Int32), r + i = 16 → r < n → r < m → orR w L ho mo → (L ++ sqL w h left top r).length ≤ 36 → ∃ ho' mo' : Nat → Int32, orR w (L ++ sqL w h left top r) ho' mo' ∧ f_X1_putSquare_L6 (nI left) (nI top) (nI w) (nI h) n ho (nI L.length) (nI i) = some (ho', nI (L ++ sqL w h left top r).length) ∧ f_X7_putInOrder_L27 (nI w) (nI h) mc ml (nI top) (nI left) m (nI L.length) mo (nI i) = some (nI (L ++ sqL w h left top r).length, mo')
  | 0, i, n, m, L, ho, mo, hi, hn, hm, hR, hlen => by
    obtain ⟨n, rfl⟩ : ∃ j, n = j + 1 := ⟨n - 1, by omega⟩
    obtain ⟨m, rfl⟩ : ∃ j, m = j + 1 := ⟨m - 1, by omega⟩
    obtain rfl : i = 16 := by omega
    have e : L ++ sqL w h left top 0 = L := List.append_nil L
    rw [e]
    refine ⟨ho, mo, hR, ?_, ?_⟩
    · rw [f_X1_putSquare_L6]; simp (disch := omega) only [lit, pk_mul, nI_add, ni_sub, ni_div, ni_rem, ni_cl, ni_pred, nmod, ↓reduceIte, ile_t, ile_f, ilt_t, ilt_f, ieq_t, ieq_f, if_true_n, if_false_n, gi_n, nm_n, jn_n, bd1_n, bd2_n, bd3_n, bd4_n, bd5_n, bd6_n]
    · rw [f_X7_putInOrder_L27]; simp (disch := omega) only [lit, pk_mul, nI_add, ni_sub, ni_div, ni_rem, ni_cl, ni_pred, nmod, ↓reduceIte, ile_t, ile_f, ilt_t, ilt_f, ieq_t, ieq_f, if_true_n, if_false_n, gi_n, nm_n, jn_n, bd1_n, bd2_n, bd3_n, bd4_n, bd5_n, bd6_n]
  | r + 1, i, n, m, L, ho, mo, hi, hn, hm, hR, hlen => by
    obtain ⟨n, rfl⟩ : ∃ j, n = j + 1 := ⟨n - 1, by omega⟩
    obtain ⟨m, rfl⟩ : ∃ j, m = j + 1 := ⟨m - 1, by omega⟩
    have hi15 : 15 - r = i := by omega
    obtain ⟨k1, k2, k3, k4⟩ := cols_c i (by omega)
    obtain ⟨k5, k6⟩ := hcl i (by omega)
    have e : sqL w h left top (r + 1) = one w h (left + COLS i) (top + LINS i) ++ sqL w h left top r := by
      rw [sqL, hi15]
    by_cases c : left + COLS i < w ∧ top + LINS i < h
    · have e2 : one w h (left + COLS i) (top + LINS i) = [(left + COLS i, top + LINS i)] := if_pos c
      rw [e, e2, ← List.append_assoc] at hlen ⊢
      have hL : L.length < 36 := by
        rw [List.length_append, List.length_append, List.length_singleton] at hlen
        omega
      obtain ⟨c1, c2⟩ := c
      obtain ⟨ho', mo', h1, h2, h3⟩ := sq_loop hw hh hl ht hcl r (i + 1) n m (L ++ [(left + COLS i, top + LINS i)]) _ _ (by omega) (by omega) (by omega) (orR_up hR) hlen
      have hl1 : (L ++ [(left + COLS i, top + LINS i)]).length = L.length + 1 := by rw [List.length_append, List.length_singleton]
      rw [hl1] at h2 h3
      have hb : (top + LINS i) * w < 2147483648 := Nat.lt_of_le_of_lt (Nat.mul_le_mul (show top + LINS i ≤ 200 by omega) (show w ≤ 7 by omega)) (by omega)
      refine ⟨ho', mo', h1, ?_, ?_⟩
      · rw [f_X1_putSquare_L6]
        simp (disch := omega) only [lit, pk_mul, nI_add, ni_sub, ni_div, ni_rem, ni_cl, ni_pred, nmod, ↓reduceIte, ile_t, ile_f, ilt_t, ilt_f, ieq_t, ieq_f, if_true_n, if_false_n, gi_n, nm_n, jn_n, bd1_n, bd2_n, bd3_n, bd4_n, bd5_n, bd6_n, k1, k2, h2]
      · rw [f_X7_putInOrder_L27]
        simp (disch := omega) only [lit, pk_mul, nI_add, ni_sub, ni_div, ni_rem, ni_cl, ni_pred, nmod, ↓reduceIte, ile_t, ile_f, ilt_t, ilt_f, ieq_t, ieq_f, if_true_n, if_false_n, gi_n, nm_n, jn_n, bd1_n, bd2_n, bd3_n, bd4_n, bd5_n, bd6_n, k5, k6, h3]
    · have e2 : one w h (left + COLS i) (top + LINS i) = [] := if_neg c
      rw [e, e2, List.nil_append] at hlen ⊢
      obtain ⟨ho', mo', h1, h2, h3⟩ := sq_loop hw hh hl ht hcl r (i + 1) n m L ho mo (by omega) (by omega) (by omega) hR hlen
      refine ⟨ho', mo', h1, ?_, ?_⟩
      · rw [f_X1_putSquare_L6]
        by_cases c1 : left + COLS i < w
        · have c2 : h ≤ top + LINS i := by omega
          simp (disch := omega) only [lit, pk_mul, nI_add, ni_sub, ni_div, ni_rem, ni_cl, ni_pred, nmod, ↓reduceIte, ile_t, ile_f, ilt_t, ilt_f, ieq_t, ieq_f, if_true_n, if_false_n, gi_n, nm_n, jn_n, bd1_n, bd2_n, bd3_n, bd4_n, bd5_n, bd6_n, k1, k2, h2]
        · simp (disch := omega) only [lit, pk_mul, nI_add, ni_sub, ni_div, ni_rem, ni_cl, ni_pred, nmod, ↓reduceIte, ile_t, ile_f, ilt_t, ilt_f, ieq_t, ieq_f, if_true_n, if_false_n, gi_n, nm_n, jn_n, bd1_n, bd2_n, bd3_n, bd4_n, bd5_n, bd6_n, k1, k2, h2]
      · rw [f_X7_putInOrder_L27]
        by_cases c1 : left + COLS i < w
        · have c2 : h ≤ top + LINS i := by omega
          simp (disch := omega) only [lit, pk_mul, nI_add, ni_sub, ni_div, ni_rem, ni_cl, ni_pred, nmod, ↓reduceIte, ile_t, ile_f, ilt_t, ilt_f, ieq_t, ieq_f, if_true_n, if_false_n, gi_n, nm_n, jn_n, bd1_n, bd2_n, bd3_n, bd4_n, bd5_n, bd6_n, k5, k6, h3]
        · simp (disch := omega) only [lit, pk_mul, nI_add, ni_sub, ni_div, ni_rem, ni_cl, ni_pred, nmod, ↓reduceIte, ile_t, ile_f, ilt_t, ilt_f, ieq_t, ieq_f, if_true_n, if_false_n, gi_n, nm_n, jn_n, bd1_n, bd2_n, bd3_n, bd4_n, bd5_n, bd6_n, k5, k6, h3]
theorem row_loop {w h top : Nat} {mc ml : Nat → Int32} (hw : w < 7) (hh : h < 7) (ht : top < 100) (hcl : mcl mc ml) : ∀ (r left n m : Nat) (L : List (Nat × Nat)) (ho mo : Nat → Int32), w ≤ left + 4 * r → left < 90 → r < n → r < m → orR w L ho mo → (L ++ rowL w h top r left).length ≤ 36 → ∃ ho' mo' : Nat → Int32, orR w (L ++ rowL w h top r left) ho' mo' ∧ f_X1_putInOrder_L14 (nI w) (nI h) (nI top) n ho (nI L.length) (nI left) = some (ho', nI (L ++ rowL w h top r left).length) ∧ f_X7_putInOrder_L17 (nI w) (nI h) mc ml (nI top) m (nI L.length) mo (nI left) = some (nI (L ++ rowL w h top r left).length, mo')
  | 0, left, n, m, L, ho, mo, hi, hl, hn, hm, hR, hlen => by
    obtain ⟨n, rfl⟩ : ∃ j, n = j + 1 := ⟨n - 1, by omega⟩
    obtain ⟨m, rfl⟩ : ∃ j, m = j + 1 := ⟨m - 1, by omega⟩
    have e : L ++ rowL w h top 0 left = L := List.append_nil L
    rw [e]
    refine ⟨ho, mo, hR, ?_, ?_⟩
    · rw [f_X1_putInOrder_L14]; simp (disch := omega) only [lit, pk_mul, nI_add, ni_sub, ni_div, ni_rem, ni_cl, ni_pred, nmod, ↓reduceIte, ile_t, ile_f, ilt_t, ilt_f, ieq_t, ieq_f, if_true_n, if_false_n, gi_n, nm_n, jn_n, bd1_n, bd2_n, bd3_n, bd4_n, bd5_n, bd6_n]
    · rw [f_X7_putInOrder_L17]; simp (disch := omega) only [lit, pk_mul, nI_add, ni_sub, ni_div, ni_rem, ni_cl, ni_pred, nmod, ↓reduceIte, ile_t, ile_f, ilt_t, ilt_f, ieq_t, ieq_f, if_true_n, if_false_n, gi_n, nm_n, jn_n, bd1_n, bd2_n, bd3_n, bd4_n, bd5_n, bd6_n]
  | r + 1, left, n, m, L, ho, mo, hi, hl, hn, hm, hR, hlen => by
    obtain ⟨n, rfl⟩ : ∃ j, n = j + 1 := ⟨n - 1, by omega⟩
    obtain ⟨m, rfl⟩ : ∃ j, m = j + 1 := ⟨m - 1, by omega⟩
    by_cases c : left < w
    · have e : rowL w h top (r + 1) left = sqL w h left top 16 ++ rowL w h top r (left + 4) := by rw [rowL, if_pos c]
      rw [e, ← List.append_assoc] at hlen ⊢
      have hlen1 : (L ++ sqL w h left top 16).length ≤ 36 := by rw [List.length_append] at hlen; omega
      obtain ⟨ho1, mo1, h1, h2, h3⟩ := sq_loop hw hh (show left < 100 by omega) ht hcl 16 0 4000 4000 L ho mo (by omega) (by omega) (by omega) hR hlen1
      obtain ⟨ho2, mo2, h4, h5, h6⟩ := row_loop hw hh ht hcl r (left + 4) n m _ ho1 mo1 (by omega) (by omega) (by omega) (by omega) h1 hlen
      refine ⟨ho2, mo2, h4, ?_, ?_⟩
      · rw [f_X1_putInOrder_L14]
        unfold f_X1_putSquare
        simp (disch := omega) only [lit, pk_mul, nI_add, ni_sub, ni_div, ni_rem, ni_cl, ni_pred, nmod, ↓reduceIte, ile_t, ile_f, ilt_t, ilt_f, ieq_t, ieq_f, if_true_n, if_false_n, gi_n, nm_n, jn_n, bd1_n, bd2_n, bd3_n, bd4_n, bd5_n, bd6_n, h2, h5]
      · rw [f_X7_putInOrder_L17]
        simp (disch := omega) only [lit, pk_mul, nI_add, ni_sub, ni_div, ni_rem, ni_cl, ni_pred, nmod, ↓reduceIte, ile_t, ile_f, ilt_t, ilt_f, ieq_t, ieq_f, if_true_n, if_false_n, gi_n, nm_n, jn_n, bd1_n, bd2_n, bd3_n, bd4_n, bd5_n, bd6_n, h3, h6]
    · have e : rowL w h top (r + 1) left = [] := by rw [rowL, if_neg c]
      rw [e, List.append_nil] at hlen ⊢
      refine ⟨ho, mo, hR, ?_, ?_⟩
      · rw [f_X1_putInOrder_L14]; simp (disch := omega) only [lit, pk_mul, nI_add, ni_sub, ni_div, ni_rem, ni_cl, ni_pred, nmod, ↓reduceIte, ile_t, ile_f, ilt_t, ilt_f, ieq_t, ieq_f, if_true_n, if_false_n, gi_n, nm_n, jn_n, bd1_n, bd2_n, bd3_n, bd4_n, bd5_n, bd6_n]
      · rw [f_X7_putInOrder_L17]; simp (disch := omega) only [lit, pk_mul, nI_add, ni_sub, ni_div, ni_rem, ni_cl, ni_pred, nmod, ↓reduceIte, ile_t, ile_f, ilt_t, ilt_f, ieq_t, ieq_f, if_true_n, if_false_n, gi_n, nm_n, jn_n, bd1_n, bd2_n, bd3_n, bd4_n, bd5_n, bd6_n]
theorem all_loop {w h : Nat} {mc ml : Nat → Int32} (hw : w < 7) (hh : h < 7) (hcl : mcl mc ml) : ∀ (r top n m : Nat) (L : List (Nat × Nat)) (ho mo : Nat → Int32), h ≤ top + 4 * r → top < 90 → r < n → r < m → orR w L ho mo → (L ++ allL w h r top).length ≤ 36 → ∃ ho' mo' : Nat → Int32, orR w (L ++ allL w h r top) ho' mo' ∧ f_X1_putInOrder_L4 (nI w) (nI h) n ho (nI L.length) (nI top) = some ho' ∧ f_X7_putInOrder_L7 (nI w) (nI h) mc ml m (nI L.length) mo (nI top) = some (nI (L ++ allL w h r top).length, mo')
  | 0, top, n, m, L, ho, mo, hi, hl, hn, hm, hR, hlen => by
    obtain ⟨n, rfl⟩ : ∃ j, n = j + 1 := ⟨n - 1, by omega⟩
    obtain ⟨m, rfl⟩ : ∃ j, m = j + 1 := ⟨m - 1, by omega⟩
    have e : L ++ allL w h 0 top = L := List.append_nil L
    rw [e]
    refine ⟨ho, mo, hR, ?_, ?_⟩
    · rw [f_X1_putInOrder_L4]; simp (disch := omega) only [lit, pk_mul, nI_add, ni_sub, ni_div, ni_rem, ni_cl, ni_pred, nmod, ↓reduceIte, ile_t, ile_f, ilt_t, ilt_f, ieq_t, ieq_f, if_true_n, if_false_n, gi_n, nm_n, jn_n, bd1_n, bd2_n, bd3_n, bd4_n, bd5_n, bd6_n]
    · rw [f_X7_putInOrder_L7]; simp (disch := omega) only [lit, pk_mul, nI_add, ni_sub, ni_div, ni_rem, ni_cl, ni_pred, nmod, ↓reduceIte, ile_t, ile_f, ilt_t, ilt_f, ieq_t, ieq_f, if_true_n, if_false_n, gi_n, nm_n, jn_n, bd1_n, bd2_n, bd3_n, bd4_n, bd5_n, bd6_n]
  | r + 1, top, n, m, L, ho, mo, hi, hl, hn, hm, hR, hlen => by
    obtain ⟨n, rfl⟩ : ∃ j, n = j + 1 := ⟨n - 1, by omega⟩
    obtain ⟨m, rfl⟩ : ∃ j, m = j + 1 := ⟨m - 1, by omega⟩
    by_cases c : top < h
    · have e : allL w h (r + 1) top = rowL w h top 3 0 ++ allL w h r (top + 4) := by rw [allL, if_pos c]
      rw [e, ← List.append_assoc] at hlen ⊢
      have hlen1 : (L ++ rowL w h top 3 0).length ≤ 36 := by rw [List.length_append] at hlen; omega
      obtain ⟨ho1, mo1, h1, h2, h3⟩ := row_loop hw hh (show top < 100 by omega) hcl 3 0 4000 4000 L ho mo (by omega) (by omega) (by omega) (by omega) hR hlen1
      obtain ⟨ho2, mo2, h4, h5, h6⟩ := all_loop hw hh hcl r (top + 4) n m _ ho1 mo1 (by omega) (by omega) (by omega) (by omega) h1 hlen
      refine ⟨ho2, mo2, h4, ?_, ?_⟩
      · rw [f_X1_putInOrder_L4]
        simp (disch := omega) only [lit, pk_mul, nI_add, ni_sub, ni_div, ni_rem, ni_cl, ni_pred, nmod, ↓reduceIte, ile_t, ile_f, ilt_t, ilt_f, ieq_t, ieq_f, if_true_n, if_false_n, gi_n, nm_n, jn_n, bd1_n, bd2_n, bd3_n, bd4_n, bd5_n, bd6_n, h2, h5]
      · rw [f_X7_putInOrder_L7]
        simp (disch := omega) only [lit, pk_mul, nI_add, ni_sub, ni_div, ni_rem, ni_cl, ni_pred, nmod, ↓reduceIte, ile_t, ile_f, ilt_t, ilt_f, ieq_t, ieq_f, if_true_n, if_false_n, gi_n, nm_n, jn_n, bd1_n, bd2_n, bd3_n, bd4_n, bd5_n, bd6_n, h3, h6]
    · have e : allL w h (r + 1) top = [] := by rw [allL, if_neg c]
      rw [e, List.append_nil] at hlen ⊢
      refine ⟨ho, mo, hR, ?_, ?_⟩
      · rw [f_X1_putInOrder_L4]; simp (disch := omega) only [lit, pk_mul, nI_add, ni_sub, ni_div, ni_rem, ni_cl, ni_pred, nmod, ↓reduceIte, ile_t, ile_f, ilt_t, ilt_f, ieq_t, ieq_f, if_true_n, if_false_n, gi_n, nm_n, jn_n, bd1_n, bd2_n, bd3_n, bd4_n, bd5_n, bd6_n]
      · rw [f_X7_putInOrder_L7]; simp (disch := omega) only [lit, pk_mul, nI_add, ni_sub, ni_div, ni_rem, ni_cl, ni_pred, nmod, ↓reduceIte, ile_t, ile_f, ilt_t, ilt_f, ieq_t, ieq_f, if_true_n, if_false_n, gi_n, nm_n, jn_n, bd1_n, bd2_n, bd3_n, bd4_n, bd5_n, bd6_n]
/-- the column and the row of the block that is number k in order -/
def oc (w h k : Nat) : Nat := ((ordL w h).getD k (0, 0)).1
def orw (w h k : Nat) : Nat := ((ordL w h).getD k (0, 0)).2
/-- its number in the class, in the reference -/
def kc (w h k : Nat) : Nat := orw w h k * w + oc w h k
def km (w h k : Nat) : Nat := 6 * orw w h k + oc w h k
def orOk (w h : Nat) (ho mo : Nat → Int32) : Prop := ∀ k, k < w * h → ho k = nI (kc w h k) ∧ mo k = nI (km w h k)
theorem ord_ex {w h : Nat} {mc ml ho mo : Nat → Int32} {m0 : Int32} (hw : w < 7) (hh : h < 7) (hcl : mcl mc ml) : ∃ ho' mo' : Nat → Int32, orOk w h ho' mo' ∧ f_X1_putInOrder (nI w) (nI h) ho = some ho' ∧ f_X7_putInOrder (nI w) (nI h) m0 mo mc ml = some (nI (w * h), mo') := by
  obtain ⟨hlen, -, -⟩ := ordL_ok w hw h hh
  have hle : w * h ≤ 36 := Nat.mul_le_mul (show w ≤ 6 by omega) (show h ≤ 6 by omega)
  obtain ⟨ho', mo', h1, h2, h3⟩ := all_loop (ho := ho) (mo := mo) hw hh hcl 3 0 4000 4000 [] (by omega) (by omega) (by omega) (by omega) orR_0 (by show (ordL w h).length ≤ 36; omega)
  rw [List.nil_append] at h1 h3
  have e3 : (allL w h 3 0).length = w * h := hlen
  rw [e3] at h3
  refine ⟨ho', mo', ?_, ?_, ?_⟩
  · intro k hk
    have hk2 : k < (ordL w h).length := by omega
    have e : (ordL w h)[k]? = some ((ordL w h).getD k (0, 0)) := by
      rw [List.getD_eq_getElem?_getD, List.getElem?_eq_getElem hk2]; rfl
    exact h1 k _ e
  · unfold f_X1_putInOrder
    simp only [List.length_nil] at h2
    simp (disch := omega) only [lit, pk_mul, nI_add, ni_sub, ni_div, ni_rem, ni_cl, ni_pred, nmod, ↓reduceIte, ile_t, ile_f, ilt_t, ilt_f, ieq_t, ieq_f, if_true_n, if_false_n, gi_n, nm_n, jn_n, bd1_n, bd2_n, bd3_n, bd4_n, bd5_n, bd6_n, h2]
  · unfold f_X7_putInOrder
    simp only [List.length_nil] at h3
    simp (disch := omega) only [lit, pk_mul, nI_add, ni_sub, ni_div, ni_rem, ni_cl, ni_pred, nmod, ↓reduceIte, ile_t, ile_f, ilt_t, ilt_f, ieq_t, ieq_f, if_true_n, if_false_n, gi_n, nm_n, jn_n, bd1_n, bd2_n, bd3_n, bd4_n, bd5_n, bd6_n, h3]
theorem ord_in {w h k : Nat} (hw : w < 7) (hh : h < 7) (hk : k < w * h) : oc w h k < w ∧ orw w h k < h ∧ kc w h k < w * h ∧ km w h k < 36 := by
  obtain ⟨hlen, -, hb⟩ := ordL_ok w hw h hh
  have hk2 : k < (ordL w h).length := by omega
  have e : (ordL w h).getD k (0, 0) = (ordL w h)[k] := by
    rw [List.getD_eq_getElem?_getD, List.getElem?_eq_getElem hk2]; rfl
  obtain ⟨h1, h2⟩ := hb ((ordL w h).getD k (0, 0)) (by rw [e]; exact List.getElem_mem hk2)
  have h3 : oc w h k < w := h1
  have h4 : orw w h k < h := h2
  refine ⟨h3, h4, ?_, ?_⟩
  · unfold kc
    have : (orw w h k + 1) * w ≤ h * w := Nat.mul_le_mul_right w h4
    rw [Nat.add_mul, Nat.one_mul] at this
    rw [Nat.mul_comm w h]
    omega
  · unfold km
    omega
theorem ord_inj {w h j k : Nat} (hw : w < 7) (hh : h < 7) (hj : j < w * h) (hk : k < w * h) (e1 : oc w h j = oc w h k) (e2 : orw w h j = orw w h k) : j = k := by
  obtain ⟨hlen, hnd, -⟩ := ordL_ok w hw h hh
  have hj2 : j < (ordL w h).length := by omega
  have hk2 : k < (ordL w h).length := by omega
  have ej : (ordL w h).getD j (0, 0) = (ordL w h)[j] := by
    rw [List.getD_eq_getElem?_getD, List.getElem?_eq_getElem hj2]; rfl
  have ek : (ordL w h).getD k (0, 0) = (ordL w h)[k] := by
    rw [List.getD_eq_getElem?_getD, List.getElem?_eq_getElem hk2]; rfl
  have e : (ordL w h)[j] = (ordL w h)[k] := by
    rw [← ej, ← ek]
    exact Prod.ext e1 e2
  exact (List.getElem_inj hnd).mp e
theorem ord_kc {w h j k : Nat} (hw : w < 7) (hh : h < 7) (hj : j < w * h) (hk : k < w * h) (e : kc w h j = kc w h k) : j = k := by
  obtain ⟨a1, a2, -, -⟩ := ord_in hw hh hj
  obtain ⟨b1, b2, -, -⟩ := ord_in hw hh hk
  unfold kc at e
  have e1 : oc w h j = oc w h k := by
    have := congrArg (· % w) e
    simp only [Nat.mul_add_mod_self_right, Nat.mod_eq_of_lt a1, Nat.mod_eq_of_lt b1] at this
    exact this
  refine ord_inj hw hh hj hk e1 ?_
  rw [e1] at e
  exact Nat.eq_of_mul_eq_mul_right (by omega) (Nat.add_right_cancel e)
theorem ord_km {w h j k : Nat} (hw : w < 7) (hh : h < 7) (hj : j < w * h) (hk : k < w * h) (e : km w h j = km w h k) : j = k := by
  obtain ⟨a1, a2, -, -⟩ := ord_in hw hh hj
  obtain ⟨b1, b2, -, -⟩ := ord_in hw hh hk
  unfold km at e
  exact ord_inj hw hh hj hk (by omega) (by omega)
theorem ord_of {w h c r : Nat} (hw : w < 7) (hh : h < 7) (hc : c < w) (hr : r < h) : ∃ k, k < w * h ∧ oc w h k = c ∧ orw w h k = r := by
  obtain ⟨hlen, -, -⟩ := ordL_ok w hw h hh
  obtain ⟨k, hk⟩ := List.getElem?_of_mem (ordL_all w hw h hh c hc r hr)
  refine ⟨k, by rw [← hlen]; exact (List.getElem?_eq_some_iff.mp hk).1, ?_, ?_⟩
  · unfold oc; rw [List.getD_eq_getElem?_getD, hk]; rfl
  · unfold orw; rw [List.getD_eq_getElem?_getD, hk]; rfl
