/-! The pure side, 1: the words of the pictures over numbers. -/
theorem lit (n : Nat) : (OfNat.ofNat n : Int32) = nI n := rfl
theorem gi_n {α : Type} {k N : Nat} {K : Option α} (h : k < N) (hN : N < 2147483648) : gi (nI k) N K = K := by
  unfold gi
  rw [if_pos]
  unfold inR
  have h1 : ¬ nI k < 0 := nI_pos (by omega)
  rw [nI_clamp (by omega)]
  simp [h1, h]
theorem nm_n {α β : Type} {e : α} {k : α → Option β} : nm e k = k e := Eq.trans (Eq.refl _) (Eq.refl _)
theorem jn_n {κ β : Type} {body : κ → Option β} {k : κ} : jn body k = body k := Eq.trans (Eq.refl _) (Eq.refl _)
theorem bd1_n {A0 B : Type} {a0 : A0} {f : A0 → Option B} : bd1 (some a0) f = f a0 := Eq.trans (Eq.refl _) (Eq.refl _)
theorem bd2_n {A0 A1 B : Type} {a0 : A0} {a1 : A1} {f : A0 → A1 → Option B} : bd2 (some (a0, a1)) f = f a0 a1 := Eq.trans (Eq.refl _) (Eq.refl _)
theorem bd3_n {A0 A1 A2 B : Type} {a0 : A0} {a1 : A1} {a2 : A2} {f : A0 → A1 → A2 → Option B} : bd3 (some (a0, a1, a2)) f = f a0 a1 a2 := Eq.trans (Eq.refl _) (Eq.refl _)
theorem bd4_n {A0 A1 A2 A3 B : Type} {a0 : A0} {a1 : A1} {a2 : A2} {a3 : A3} {f : A0 → A1 → A2 → A3 → Option B} : bd4 (some (a0, a1, a2, a3)) f = f a0 a1 a2 a3 := Eq.trans (Eq.refl _) (Eq.refl _)
theorem bd5_n {A0 A1 A2 A3 A4 B : Type} {a0 : A0} {a1 : A1} {a2 : A2} {a3 : A3} {a4 : A4} {f : A0 → A1 → A2 → A3 → A4 → Option B} : bd5 (some (a0, a1, a2, a3, a4)) f = f a0 a1 a2 a3 a4 := Eq.trans (Eq.refl _) (Eq.refl _)
theorem bd6_n {A0 A1 A2 A3 A4 A5 B : Type} {a0 : A0} {a1 : A1} {a2 : A2} {a3 : A3} {a4 : A4} {a5 : A5} {f : A0 → A1 → A2 → A3 → A4 → A5 → Option B} : bd6 (some (a0, a1, a2, a3, a4, a5)) f = f a0 a1 a2 a3 a4 a5 := Eq.trans (Eq.refl _) (Eq.refl _)
theorem bd7_n {A0 A1 A2 A3 A4 A5 A6 B : Type} {a0 : A0} {a1 : A1} {a2 : A2} {a3 : A3} {a4 : A4} {a5 : A5} {a6 : A6} {f : A0 → A1 → A2 → A3 → A4 → A5 → A6 → Option B} : bd7 (some (a0, a1, a2, a3, a4, a5, a6)) f = f a0 a1 a2 a3 a4 a5 a6 := Eq.trans (Eq.refl _) (Eq.refl _)
theorem bd8_n {A0 A1 A2 A3 A4 A5 A6 A7 B : Type} {a0 : A0} {a1 : A1} {a2 : A2} {a3 : A3} {a4 : A4} {a5 : A5} {a6 : A6} {a7 : A7} {f : A0 → A1 → A2 → A3 → A4 → A5 → A6 → A7 → Option B} : bd8 (some (a0, a1, a2, a3, a4, a5, a6, a7)) f = f a0 a1 a2 a3 a4 a5 a6 a7 := Eq.trans (Eq.refl _) (Eq.refl _)
theorem bd9_n {A0 A1 A2 A3 A4 A5 A6 A7 A8 B : Type} {a0 : A0} {a1 : A1} {a2 : A2} {a3 : A3} {a4 : A4} {a5 : A5} {a6 : A6} {a7 : A7} {a8 : A8} {f : A0 → A1 → A2 → A3 → A4 → A5 → A6 → A7 → A8 → Option B} : bd9 (some (a0, a1, a2, a3, a4, a5, a6, a7, a8)) f = f a0 a1 a2 a3 a4 a5 a6 a7 a8 := Eq.trans (Eq.refl _) (Eq.refl _)
theorem bd10_n {A0 A1 A2 A3 A4 A5 A6 A7 A8 A9 B : Type} {a0 : A0} {a1 : A1} {a2 : A2} {a3 : A3} {a4 : A4} {a5 : A5} {a6 : A6} {a7 : A7} {a8 : A8} {a9 : A9} {f : A0 → A1 → A2 → A3 → A4 → A5 → A6 → A7 → A8 → A9 → Option B} : bd10 (some (a0, a1, a2, a3, a4, a5, a6, a7, a8, a9)) f = f a0 a1 a2 a3 a4 a5 a6 a7 a8 a9 := Eq.trans (Eq.refl _) (Eq.refl _)
theorem bd11_n {A0 A1 A2 A3 A4 A5 A6 A7 A8 A9 A10 B : Type} {a0 : A0} {a1 : A1} {a2 : A2} {a3 : A3} {a4 : A4} {a5 : A5} {a6 : A6} {a7 : A7} {a8 : A8} {a9 : A9} {a10 : A10} {f : A0 → A1 → A2 → A3 → A4 → A5 → A6 → A7 → A8 → A9 → A10 → Option B} : bd11 (some (a0, a1, a2, a3, a4, a5, a6, a7, a8, a9, a10)) f = f a0 a1 a2 a3 a4 a5 a6 a7 a8 a9 a10 := Eq.trans (Eq.refl _) (Eq.refl _)
theorem bd12_n {A0 A1 A2 A3 A4 A5 A6 A7 A8 A9 A10 A11 B : Type} {a0 : A0} {a1 : A1} {a2 : A2} {a3 : A3} {a4 : A4} {a5 : A5} {a6 : A6} {a7 : A7} {a8 : A8} {a9 : A9} {a10 : A10} {a11 : A11} {f : A0 → A1 → A2 → A3 → A4 → A5 → A6 → A7 → A8 → A9 → A10 → A11 → Option B} : bd12 (some (a0, a1, a2, a3, a4, a5, a6, a7, a8, a9, a10, a11)) f = f a0 a1 a2 a3 a4 a5 a6 a7 a8 a9 a10 a11 := Eq.trans (Eq.refl _) (Eq.refl _)
theorem bd13_n {A0 A1 A2 A3 A4 A5 A6 A7 A8 A9 A10 A11 A12 B : Type} {a0 : A0} {a1 : A1} {a2 : A2} {a3 : A3} {a4 : A4} {a5 : A5} {a6 : A6} {a7 : A7} {a8 : A8} {a9 : A9} {a10 : A10} {a11 : A11} {a12 : A12} {f : A0 → A1 → A2 → A3 → A4 → A5 → A6 → A7 → A8 → A9 → A10 → A11 → A12 → Option B} : bd13 (some (a0, a1, a2, a3, a4, a5, a6, a7, a8, a9, a10, a11, a12)) f = f a0 a1 a2 a3 a4 a5 a6 a7 a8 a9 a10 a11 a12 := Eq.trans (Eq.refl _) (Eq.refl _)
theorem bd14_n {A0 A1 A2 A3 A4 A5 A6 A7 A8 A9 A10 A11 A12 A13 B : Type} {a0 : A0} {a1 : A1} {a2 : A2} {a3 : A3} {a4 : A4} {a5 : A5} {a6 : A6} {a7 : A7} {a8 : A8} {a9 : A9} {a10 : A10} {a11 : A11} {a12 : A12} {a13 : A13} {f : A0 → A1 → A2 → A3 → A4 → A5 → A6 → A7 → A8 → A9 → A10 → A11 → A12 → A13 → Option B} : bd14 (some (a0, a1, a2, a3, a4, a5, a6, a7, a8, a9, a10, a11, a12, a13)) f = f a0 a1 a2 a3 a4 a5 a6 a7 a8 a9 a10 a11 a12 a13 := Eq.trans (Eq.refl _) (Eq.refl _)
theorem bd15_n {A0 A1 A2 A3 A4 A5 A6 A7 A8 A9 A10 A11 A12 A13 A14 B : Type} {a0 : A0} {a1 : A1} {a2 : A2} {a3 : A3} {a4 : A4} {a5 : A5} {a6 : A6} {a7 : A7} {a8 : A8} {a9 : A9} {a10 : A10} {a11 : A11} {a12 : A12} {a13 : A13} {a14 : A14} {f : A0 → A1 → A2 → A3 → A4 → A5 → A6 → A7 → A8 → A9 → A10 → A11 → A12 → A13 → A14 → Option B} : bd15 (some (a0, a1, a2, a3, a4, a5, a6, a7, a8, a9, a10, a11, a12, a13, a14)) f = f a0 a1 a2 a3 a4 a5 a6 a7 a8 a9 a10 a11 a12 a13 a14 := Eq.trans (Eq.refl _) (Eq.refl _)
theorem bd16_n {A0 A1 A2 A3 A4 A5 A6 A7 A8 A9 A10 A11 A12 A13 A14 A15 B : Type} {a0 : A0} {a1 : A1} {a2 : A2} {a3 : A3} {a4 : A4} {a5 : A5} {a6 : A6} {a7 : A7} {a8 : A8} {a9 : A9} {a10 : A10} {a11 : A11} {a12 : A12} {a13 : A13} {a14 : A14} {a15 : A15} {f : A0 → A1 → A2 → A3 → A4 → A5 → A6 → A7 → A8 → A9 → A10 → A11 → A12 → A13 → A14 → A15 → Option B} : bd16 (some (a0, a1, a2, a3, a4, a5, a6, a7, a8, a9, a10, a11, a12, a13, a14, a15)) f = f a0 a1 a2 a3 a4 a5 a6 a7 a8 a9 a10 a11 a12 a13 a14 a15 := Eq.trans (Eq.refl _) (Eq.refl _)
theorem bd17_n {A0 A1 A2 A3 A4 A5 A6 A7 A8 A9 A10 A11 A12 A13 A14 A15 A16 B : Type} {a0 : A0} {a1 : A1} {a2 : A2} {a3 : A3} {a4 : A4} {a5 : A5} {a6 : A6} {a7 : A7} {a8 : A8} {a9 : A9} {a10 : A10} {a11 : A11} {a12 : A12} {a13 : A13} {a14 : A14} {a15 : A15} {a16 : A16} {f : A0 → A1 → A2 → A3 → A4 → A5 → A6 → A7 → A8 → A9 → A10 → A11 → A12 → A13 → A14 → A15 → A16 → Option B} : bd17 (some (a0, a1, a2, a3, a4, a5, a6, a7, a8, a9, a10, a11, a12, a13, a14, a15, a16)) f = f a0 a1 a2 a3 a4 a5 a6 a7 a8 a9 a10 a11 a12 a13 a14 a15 a16 := Eq.trans (Eq.refl _) (Eq.refl _)
theorem bd18_n {A0 A1 A2 A3 A4 A5 A6 A7 A8 A9 A10 A11 A12 A13 A14 A15 A16 A17 B : Type} {a0 : A0} {a1 : A1} {a2 : A2} {a3 : A3} {a4 : A4} {a5 : A5} {a6 : A6} {a7 : A7} {a8 : A8} {a9 : A9} {a10 : A10} {a11 : A11} {a12 : A12} {a13 : A13} {a14 : A14} {a15 : A15} {a16 : A16} {a17 : A17} {f : A0 → A1 → A2 → A3 → A4 → A5 → A6 → A7 → A8 → A9 → A10 → A11 → A12 → A13 → A14 → A15 → A16 → A17 → Option B} : bd18 (some (a0, a1, a2, a3, a4, a5, a6, a7, a8, a9, a10, a11, a12, a13, a14, a15, a16, a17)) f = f a0 a1 a2 a3 a4 a5 a6 a7 a8 a9 a10 a11 a12 a13 a14 a15 a16 a17 := Eq.trans (Eq.refl _) (Eq.refl _)
theorem bd19_n {A0 A1 A2 A3 A4 A5 A6 A7 A8 A9 A10 A11 A12 A13 A14 A15 A16 A17 A18 B : Type} {a0 : A0} {a1 : A1} {a2 : A2} {a3 : A3} {a4 : A4} {a5 : A5} {a6 : A6} {a7 : A7} {a8 : A8} {a9 : A9} {a10 : A10} {a11 : A11} {a12 : A12} {a13 : A13} {a14 : A14} {a15 : A15} {a16 : A16} {a17 : A17} {a18 : A18} {f : A0 → A1 → A2 → A3 → A4 → A5 → A6 → A7 → A8 → A9 → A10 → A11 → A12 → A13 → A14 → A15 → A16 → A17 → A18 → Option B} : bd19 (some (a0, a1, a2, a3, a4, a5, a6, a7, a8, a9, a10, a11, a12, a13, a14, a15, a16, a17, a18)) f = f a0 a1 a2 a3 a4 a5 a6 a7 a8 a9 a10 a11 a12 a13 a14 a15 a16 a17 a18 := Eq.trans (Eq.refl _) (Eq.refl _)
theorem bd20_n {A0 A1 A2 A3 A4 A5 A6 A7 A8 A9 A10 A11 A12 A13 A14 A15 A16 A17 A18 A19 B : Type} {a0 : A0} {a1 : A1} {a2 : A2} {a3 : A3} {a4 : A4} {a5 : A5} {a6 : A6} {a7 : A7} {a8 : A8} {a9 : A9} {a10 : A10} {a11 : A11} {a12 : A12} {a13 : A13} {a14 : A14} {a15 : A15} {a16 : A16} {a17 : A17} {a18 : A18} {a19 : A19} {f : A0 → A1 → A2 → A3 → A4 → A5 → A6 → A7 → A8 → A9 → A10 → A11 → A12 → A13 → A14 → A15 → A16 → A17 → A18 → A19 → Option B} : bd20 (some (a0, a1, a2, a3, a4, a5, a6, a7, a8, a9, a10, a11, a12, a13, a14, a15, a16, a17, a18, a19)) f = f a0 a1 a2 a3 a4 a5 a6 a7 a8 a9 a10 a11 a12 a13 a14 a15 a16 a17 a18 a19 := Eq.trans (Eq.refl _) (Eq.refl _)
theorem bd21_n {A0 A1 A2 A3 A4 A5 A6 A7 A8 A9 A10 A11 A12 A13 A14 A15 A16 A17 A18 A19 A20 B : Type} {a0 : A0} {a1 : A1} {a2 : A2} {a3 : A3} {a4 : A4} {a5 : A5} {a6 : A6} {a7 : A7} {a8 : A8} {a9 : A9} {a10 : A10} {a11 : A11} {a12 : A12} {a13 : A13} {a14 : A14} {a15 : A15} {a16 : A16} {a17 : A17} {a18 : A18} {a19 : A19} {a20 : A20} {f : A0 → A1 → A2 → A3 → A4 → A5 → A6 → A7 → A8 → A9 → A10 → A11 → A12 → A13 → A14 → A15 → A16 → A17 → A18 → A19 → A20 → Option B} : bd21 (some (a0, a1, a2, a3, a4, a5, a6, a7, a8, a9, a10, a11, a12, a13, a14, a15, a16, a17, a18, a19, a20)) f = f a0 a1 a2 a3 a4 a5 a6 a7 a8 a9 a10 a11 a12 a13 a14 a15 a16 a17 a18 a19 a20 := Eq.trans (Eq.refl _) (Eq.refl _)
theorem bd1_e {A0 : Type} {x : Option A0} {a0 : A0} (h : x = some a0) {B : Type} (f : A0 → Option B) : bd1 x f = f a0 := by rw [h]; exact bd1_n
theorem bd2_e {A0 A1 : Type} {x : Option (A0 × A1)} {a0 : A0} {a1 : A1} (h : x = some (a0, a1)) {B : Type} (f : A0 → A1 → Option B) : bd2 x f = f a0 a1 := by rw [h]; exact bd2_n
theorem bd3_e {A0 A1 A2 : Type} {x : Option (A0 × A1 × A2)} {a0 : A0} {a1 : A1} {a2 : A2} (h : x = some (a0, a1, a2)) {B : Type} (f : A0 → A1 → A2 → Option B) : bd3 x f = f a0 a1 a2 := by rw [h]; exact bd3_n
theorem bd4_e {A0 A1 A2 A3 : Type} {x : Option (A0 × A1 × A2 × A3)} {a0 : A0} {a1 : A1} {a2 : A2} {a3 : A3} (h : x = some (a0, a1, a2, a3)) {B : Type} (f : A0 → A1 → A2 → A3 → Option B) : bd4 x f = f a0 a1 a2 a3 := by rw [h]; exact bd4_n
theorem bd5_e {A0 A1 A2 A3 A4 : Type} {x : Option (A0 × A1 × A2 × A3 × A4)} {a0 : A0} {a1 : A1} {a2 : A2} {a3 : A3} {a4 : A4} (h : x = some (a0, a1, a2, a3, a4)) {B : Type} (f : A0 → A1 → A2 → A3 → A4 → Option B) : bd5 x f = f a0 a1 a2 a3 a4 := by rw [h]; exact bd5_n
theorem ile_t {a b : Nat} (h : a ≤ b) (hb : b < 2147483648) : (nI a ≤ nI b) = True := eq_true (nI_le h hb)
theorem ile_f {a b : Nat} (h : b < a) (hb : a < 2147483648) : (nI a ≤ nI b) = False := eq_false (nI_ge h hb)
theorem ilt_t {a b : Nat} (h : a < b) (hb : b < 2147483648) : (nI a < nI b) = True := eq_true (nI_lt h hb)
theorem ilt_f {a b : Nat} (h : b ≤ a) (hb : a < 2147483648) : (nI a < nI b) = False := eq_false (nI_nlt h hb)
theorem ieq_t {a b : Nat} (h : a = b) : (nI a = nI b) = True := eq_true (by rw [h])
theorem ieq_f {a b : Nat} (h : a ≠ b) (ha : a < 2147483648) (hb : b < 2147483648) : (nI a = nI b) = False := eq_false (fun e => h ((nI_eq ha hb).mp e))
theorem if_true_n {α : Type} {d : Decidable True} {x y : α} : @ite α True d x y = x := if_pos trivial
theorem if_false_n {α : Type} {d : Decidable False} {x y : α} : @ite α False d x y = y := if_neg id
theorem ni_sub {a b : Nat} (h : b ≤ a) : nI a - nI b = nI (a - b) := pk_sub h
theorem ni_div {a d : Nat} (ha : a < 2147483648) (h0 : 0 < d) (hd : d < 2147483648) : nI a / nI d = nI (a / d) := pk_div ha h0 hd
theorem nmod (a d : Nat) : a - a / d * d = a % d := by
  rw [Nat.mod_def, Nat.mul_comm]
theorem ni_rem {a d : Nat} (ha : a < 2147483648) (h0 : 0 < d) (hd : d < 2147483648) : nI a - nI (a / d * d) = nI (a % d) := by
  rw [pk_sub (Nat.div_mul_le_self a d), Nat.mod_def, Nat.mul_comm]
theorem ni_cl {a : Nat} (ha : a < 2147483648) : (nI a).toNatClampNeg = a := nI_clamp ha
theorem ni_pred {a : Nat} (h : 0 < a) : nI a + -nI 1 = nI (a - 1) := by
  obtain ⟨b, rfl⟩ : ∃ b, a = b + 1 := ⟨a - 1, by omega⟩
  exact pk_m1 b
theorem neg1_tok : ∀ t : Nat, t < 32 → -nI 1 - (-nI 1 - nI t) = nI t ∧ -nI 1 - nI t < nI 0 := by decide +kernel
/-! The pure side, 2: the tape. Class and reference read alike; a fault stops all reading. -/
def bv (B : Nat → Int32) (p : Nat) : Nat := ((B (p / 8) >>> (nI (7 - p % 8) &&& nI 31)) &&& nI 1).toNatClampNeg
theorem bv_eq (B : Nat → Int32) (p : Nat) : ((B (p / 8) >>> (nI (7 - p % 8) &&& nI 31)) &&& nI 1) = nI (bv B p) ∧ bv B p < 2 := by
  obtain ⟨j, hj, e⟩ := pk_andE (B (p / 8) >>> (nI (7 - p % 8) &&& nI 31)) (m := nI 1) 1 (by decide)
  unfold bv
  rw [e, nI_clamp (by omega)]
  exact ⟨rfl, by omega⟩
theorem X4_fail_0 (a : Nat) : f_X4_fail (nI a) (nI 0) = some (nI a) := by
  unfold f_X4_fail
  simp (disch := omega) only [lit, pk_mul, nI_add, ni_sub, ni_div, ni_rem, ni_cl, ni_pred, nmod, ↓reduceIte, ile_t, ile_f, ilt_t, ilt_f, ieq_t, ieq_f, if_true_n, if_false_n, gi_n, nm_n, jn_n, bd1_n, bd2_n, bd3_n, bd4_n, bd5_n, bd6_n]
theorem X4_fail_1 {a b : Nat} (h : b ≠ 0) (hb : b < 2147483648) : f_X4_fail (nI a) (nI b) = some (nI b) := by
  unfold f_X4_fail
  simp (disch := omega) only [lit, pk_mul, nI_add, ni_sub, ni_div, ni_rem, ni_cl, ni_pred, nmod, ↓reduceIte, ile_t, ile_f, ilt_t, ilt_f, ieq_t, ieq_f, if_true_n, if_false_n, gi_n, nm_n, jn_n, bd1_n, bd2_n, bd3_n, bd4_n, bd5_n, bd6_n]
theorem X7_fail_0 (a : Nat) : f_X7_fail (nI a) (nI 0) = some (nI a) := by
  unfold f_X7_fail
  simp (disch := omega) only [lit, pk_mul, nI_add, ni_sub, ni_div, ni_rem, ni_cl, ni_pred, nmod, ↓reduceIte, ile_t, ile_f, ilt_t, ilt_f, ieq_t, ieq_f, if_true_n, if_false_n, gi_n, nm_n, jn_n, bd1_n, bd2_n, bd3_n, bd4_n, bd5_n, bd6_n]
theorem X7_fail_1 {a b : Nat} (h : b ≠ 0) (hb : b < 2147483648) : f_X7_fail (nI a) (nI b) = some (nI b) := by
  unfold f_X7_fail
  simp (disch := omega) only [lit, pk_mul, nI_add, ni_sub, ni_div, ni_rem, ni_cl, ni_pred, nmod, ↓reduceIte, ile_t, ile_f, ilt_t, ilt_f, ieq_t, ieq_f, if_true_n, if_false_n, gi_n, nm_n, jn_n, bd1_n, bd2_n, bd3_n, bd4_n, bd5_n, bd6_n]
theorem X4_sound_0 : f_X4_isSound (nI 0) = some (nI 1) := by
  unfold f_X4_isSound
  simp (disch := omega) only [lit, pk_mul, nI_add, ni_sub, ni_div, ni_rem, ni_cl, ni_pred, nmod, ↓reduceIte, ile_t, ile_f, ilt_t, ilt_f, ieq_t, ieq_f, if_true_n, if_false_n, gi_n, nm_n, jn_n, bd1_n, bd2_n, bd3_n, bd4_n, bd5_n, bd6_n]
theorem X4_sound_1 {b : Nat} (h : b ≠ 0) (hb : b < 2147483648) : f_X4_isSound (nI b) = some (nI 0) := by
  unfold f_X4_isSound
  simp (disch := omega) only [lit, pk_mul, nI_add, ni_sub, ni_div, ni_rem, ni_cl, ni_pred, nmod, ↓reduceIte, ile_t, ile_f, ilt_t, ilt_f, ieq_t, ieq_f, if_true_n, if_false_n, gi_n, nm_n, jn_n, bd1_n, bd2_n, bd3_n, bd4_n, bd5_n, bd6_n]
theorem bit_ex {sz p f : Nat} (B : Nat → Int32) (hs : sz ≤ 6000) (hp : p ≤ 8 * sz) (hf : f ≤ 6) : ∃ b p' f' : Nat, b < 2 ∧ p' ≤ 8 * sz ∧ f' ≤ 6 ∧ (f ≠ 0 → b = 0 ∧ p' = p ∧ f' = f) ∧ (f' ≠ 0 → b = 0) ∧ f_X4_bit (nI sz) (nI p) (nI f) B = some (nI b, nI p', nI f') ∧ f_X7_bit (nI sz) (nI p) (nI f) B = some (nI b, nI p', nI f') := by
  unfold f_X4_bit f_X7_bit
  obtain ⟨e1, e2⟩ := bv_eq B p
  by_cases h : f = 0
  · subst h
    by_cases h2 : p < 8 * sz
    · refine ⟨bv B p, p + 1, 0, e2, by omega, by omega, fun h => absurd rfl h, fun h => absurd rfl h, ?_, ?_⟩
      · simp (disch := omega) only [lit, pk_mul, nI_add, ni_sub, ni_div, ni_rem, ni_cl, ni_pred, nmod, ↓reduceIte, ile_t, ile_f, ilt_t, ilt_f, ieq_t, ieq_f, if_true_n, if_false_n, gi_n, nm_n, jn_n, bd1_n, bd2_n, bd3_n, bd4_n, bd5_n, bd6_n]
        rw [e1]
      · simp (disch := omega) only [lit, pk_mul, nI_add, ni_sub, ni_div, ni_rem, ni_cl, ni_pred, nmod, ↓reduceIte, ile_t, ile_f, ilt_t, ilt_f, ieq_t, ieq_f, if_true_n, if_false_n, gi_n, nm_n, jn_n, bd1_n, bd2_n, bd3_n, bd4_n, bd5_n, bd6_n]
        rw [e1]
    · have h3 : p = 8 * sz := by omega
      refine ⟨0, p, 1, by omega, by omega, by omega, fun h => absurd rfl h, fun _ => rfl, ?_, ?_⟩
      · simp (disch := omega) only [lit, pk_mul, nI_add, ni_sub, ni_div, ni_rem, ni_cl, ni_pred, nmod, ↓reduceIte, ile_t, ile_f, ilt_t, ilt_f, ieq_t, ieq_f, if_true_n, if_false_n, gi_n, nm_n, jn_n, bd1_n, bd2_n, bd3_n, bd4_n, bd5_n, bd6_n, X4_fail_0, X4_fail_1]
      · simp (disch := omega) only [lit, pk_mul, nI_add, ni_sub, ni_div, ni_rem, ni_cl, ni_pred, nmod, ↓reduceIte, ile_t, ile_f, ilt_t, ilt_f, ieq_t, ieq_f, if_true_n, if_false_n, gi_n, nm_n, jn_n, bd1_n, bd2_n, bd3_n, bd4_n, bd5_n, bd6_n, X7_fail_0, X7_fail_1]
  · refine ⟨0, p, f, by omega, by omega, by omega, fun _ => ⟨rfl, rfl, rfl⟩, fun _ => rfl, ?_, ?_⟩
    · by_cases h2 : p < 8 * sz
      · simp (disch := omega) only [lit, pk_mul, nI_add, ni_sub, ni_div, ni_rem, ni_cl, ni_pred, nmod, ↓reduceIte, ile_t, ile_f, ilt_t, ilt_f, ieq_t, ieq_f, if_true_n, if_false_n, gi_n, nm_n, jn_n, bd1_n, bd2_n, bd3_n, bd4_n, bd5_n, bd6_n]
      · simp (disch := omega) only [lit, pk_mul, nI_add, ni_sub, ni_div, ni_rem, ni_cl, ni_pred, nmod, ↓reduceIte, ile_t, ile_f, ilt_t, ilt_f, ieq_t, ieq_f, if_true_n, if_false_n, gi_n, nm_n, jn_n, bd1_n, bd2_n, bd3_n, bd4_n, bd5_n, bd6_n, X4_fail_0, X4_fail_1]
    · by_cases h2 : p = 8 * sz
      · simp (disch := omega) only [lit, pk_mul, nI_add, ni_sub, ni_div, ni_rem, ni_cl, ni_pred, nmod, ↓reduceIte, ile_t, ile_f, ilt_t, ilt_f, ieq_t, ieq_f, if_true_n, if_false_n, gi_n, nm_n, jn_n, bd1_n, bd2_n, bd3_n, bd4_n, bd5_n, bd6_n, X7_fail_0, X7_fail_1]
      · simp (disch := omega) only [lit, pk_mul, nI_add, ni_sub, ni_div, ni_rem, ni_cl, ni_pred, nmod, ↓reduceIte, ile_t, ile_f, ilt_t, ilt_f, ieq_t, ieq_f, if_true_n, if_false_n, gi_n, nm_n, jn_n, bd1_n, bd2_n, bd3_n, bd4_n, bd5_n, bd6_n]
theorem bits_loop (sz : Nat) (B : Nat → Int32) (hs : sz ≤ 6000) : ∀ (k i v p f n m N : Nat), k + i = N → N ≤ 20 → v * 2 ^ k + 2 ^ k ≤ 1048576 → k < n → k < m → p ≤ 8 * sz → f ≤ 6 → ∃ v' p' f' : Nat, v' < v * 2 ^ k + 2 ^ k ∧ p' ≤ 8 * sz ∧ f' ≤ 6 ∧ (f ≠ 0 → v' = v * 2 ^ k ∧ p' = p ∧ f' = f) ∧ f_X4_number_L4 (nI N) (nI sz) B n (nI p) (nI f) (nI v) (nI i) = some (nI p', nI f', nI v') ∧ f_X7_bits_L4 (nI N) (nI sz) B m (nI p) (nI f) (nI v) (nI i) = some (nI p', nI f', nI v')
  | 0, i, v, p, f, n, m, N, hN, hN2, hv, hn, hm, hp, hf => by
    obtain ⟨n, rfl⟩ : ∃ j, n = j + 1 := ⟨n - 1, by omega⟩
    obtain ⟨m, rfl⟩ : ∃ j, m = j + 1 := ⟨m - 1, by omega⟩
    refine ⟨v, p, f, by omega, hp, hf, fun _ => ⟨by omega, rfl, rfl⟩, ?_, ?_⟩
    · rw [f_X4_number_L4]; simp (disch := omega) only [lit, pk_mul, nI_add, ni_sub, ni_div, ni_rem, ni_cl, ni_pred, nmod, ↓reduceIte, ile_t, ile_f, ilt_t, ilt_f, ieq_t, ieq_f, if_true_n, if_false_n, gi_n, nm_n, jn_n, bd1_n, bd2_n, bd3_n, bd4_n, bd5_n, bd6_n]
    · rw [f_X7_bits_L4]; simp (disch := omega) only [lit, pk_mul, nI_add, ni_sub, ni_div, ni_rem, ni_cl, ni_pred, nmod, ↓reduceIte, ile_t, ile_f, ilt_t, ilt_f, ieq_t, ieq_f, if_true_n, if_false_n, gi_n, nm_n, jn_n, bd1_n, bd2_n, bd3_n, bd4_n, bd5_n, bd6_n]
  | k + 1, i, v, p, f, n, m, N, hN, hN2, hv, hn, hm, hp, hf => by
    obtain ⟨n, rfl⟩ : ∃ j, n = j + 1 := ⟨n - 1, by omega⟩
    obtain ⟨m, rfl⟩ : ∃ j, m = j + 1 := ⟨m - 1, by omega⟩
    obtain ⟨b, p1, f1, hb, hp1, hf1, hz1, hy1, e4, e7⟩ := bit_ex B hs hp hf
    have hb0 : b = 0 ∨ b = 1 := by omega
    have h2 : (2 * v + b) * 2 ^ k + 2 ^ k ≤ v * 2 ^ (k + 1) + 2 ^ (k + 1) := by
      rw [Nat.pow_succ]
      rcases hb0 with rfl | rfl
      · rw [Nat.add_zero, Nat.mul_comm 2 v, Nat.mul_assoc, Nat.mul_comm (2 ^ k) 2]; omega
      · rw [Nat.add_mul, Nat.mul_comm 2 v, Nat.mul_assoc, Nat.mul_comm (2 ^ k) 2]; omega
    obtain ⟨v', p', f', hv', hp', hf', hz', e4', e7'⟩ := bits_loop sz B hs k (i + 1) (2 * v + b) p1 f1 n m N (by omega) hN2 (by omega) (by omega) (by omega) hp1 hf1
    refine ⟨v', p', f', by omega, hp', hf', ?_, ?_, ?_⟩
    · intro h
      obtain ⟨rfl, rfl, rfl⟩ := hz1 h
      obtain ⟨a1, a2, a3⟩ := hz' h
      refine ⟨?_, a2, a3⟩
      rw [a1, Nat.pow_succ, Nat.add_zero, Nat.mul_comm 2 v, Nat.mul_assoc, Nat.mul_comm (2 ^ k) 2]
    · rw [f_X4_number_L4]
      simp (disch := omega) only [lit, pk_mul, nI_add, ni_sub, ni_div, ni_rem, ni_cl, ni_pred, nmod, ↓reduceIte, ile_t, ile_f, ilt_t, ilt_f, ieq_t, ieq_f, if_true_n, if_false_n, gi_n, nm_n, jn_n, bd1_n, bd2_n, bd3_n, bd4_n, bd5_n, bd6_n, e4, e4']
    · rw [f_X7_bits_L4]
      simp (disch := omega) only [lit, pk_mul, nI_add, ni_sub, ni_div, ni_rem, ni_cl, ni_pred, nmod, ↓reduceIte, ile_t, ile_f, ilt_t, ilt_f, ieq_t, ieq_f, if_true_n, if_false_n, gi_n, nm_n, jn_n, bd1_n, bd2_n, bd3_n, bd4_n, bd5_n, bd6_n, e7, e7']
theorem bits_ex {sz p f N : Nat} (B : Nat → Int32) (hs : sz ≤ 6000) (hp : p ≤ 8 * sz) (hf : f ≤ 6) (hN : N ≤ 20) : ∃ v p' f' : Nat, v < 2 ^ N ∧ p' ≤ 8 * sz ∧ f' ≤ 6 ∧ (f ≠ 0 → v = 0 ∧ p' = p ∧ f' = f) ∧ f_X4_number (nI N) (nI sz) (nI p) (nI f) B = some (nI v, nI p', nI f') ∧ f_X7_bits (nI N) (nI sz) (nI p) (nI f) B = some (nI v, nI p', nI f') := by
  have h2 : 2 ^ N ≤ 2 ^ 20 := Nat.pow_le_pow_right (by omega) hN
  obtain ⟨v', p', f', hv', hp', hf', hz', e4, e7⟩ := bits_loop sz B hs N 0 0 p f 4000 4000 N (by omega) hN (by omega) (by omega) (by omega) hp hf
  refine ⟨v', p', f', by omega, hp', hf', fun h => ?_, ?_, ?_⟩
  · obtain ⟨a, b, c⟩ := hz' h
    exact ⟨by omega, b, c⟩
  · unfold f_X4_number
    simp (disch := omega) only [lit, pk_mul, nI_add, ni_sub, ni_div, ni_rem, ni_cl, ni_pred, nmod, ↓reduceIte, ile_t, ile_f, ilt_t, ilt_f, ieq_t, ieq_f, if_true_n, if_false_n, gi_n, nm_n, jn_n, bd1_n, bd2_n, bd3_n, bd4_n, bd5_n, bd6_n, e4]
  · unfold f_X7_bits
    simp (disch := omega) only [lit, pk_mul, nI_add, ni_sub, ni_div, ni_rem, ni_cl, ni_pred, nmod, ↓reduceIte, ile_t, ile_f, ilt_t, ilt_f, ieq_t, ieq_f, if_true_n, if_false_n, gi_n, nm_n, jn_n, bd1_n, bd2_n, bd3_n, bd4_n, bd5_n, bd6_n, e7]
