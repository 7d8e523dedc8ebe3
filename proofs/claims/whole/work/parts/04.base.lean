/-! The words of the functional pictures (Option programs), the environment of a contract, and what every walk uses. -/
def inR (i : Int32) (n : Nat) : Bool := !(decide (i < 0)) && decide (i.toNatClampNeg < n)
theorem inR_in {i : Int32} {n : Nat} (h : inR i n = true) : vp_in i n := by
  unfold inR at h
  rw [Bool.and_eq_true] at h
  intro q
  rcases q with q | q
  · simp [q] at h
  · simp at h; omega
def gi {α : Type} (i : Int32) (n : Nat) (k : Option α) : Option α := if inR i n = true then k else none
theorem gi_some {α : Type} {i : Int32} {n : Nat} {k : Option α} {o : α} (h : gi i n k = some o) : vp_in i n ∧ k = some o := by
  unfold gi at h
  by_cases c : inR i n = true
  · rw [if_pos c] at h; exact ⟨inR_in c, h⟩
  · rw [if_neg c] at h; cases h
/-- a number that is stored or answered as a boolean -/
def gz {α : Type} (v : Int32) (k : Option α) : Option α := if v = 0 ∨ v = 1 then k else none
theorem gz_some {α : Type} {v : Int32} {k : Option α} {o : α} (h : gz v k = some o) : (v = 0 ∨ v = 1) ∧ k = some o := by
  unfold gz at h
  by_cases c : v = 0 ∨ v = 1
  · rw [if_pos c] at h; exact ⟨c, h⟩
  · rw [if_neg c] at h; cases h
theorem gz_nar {v : Int32} (h : v = 0 ∨ v = 1) : narrow .boolean (.int v) = .int v := by
  rcases h with rfl | rfl <;> rfl
theorem gz_fit {v : Int32} (h : v = 0 ∨ v = 1) : fits .boolean (.int v) = true := by
  rcases h with rfl | rfl <;> rfl
def nm {α β : Type} (e : α) (k : α → Option β) : Option β := k e
theorem nm_some {α β : Type} {e : α} {k : α → Option β} {o : β} (h : nm e k = some o) : ∃ x, x = e ∧ k x = some o := ⟨e, rfl, h⟩
def jn {κ β : Type} (body : κ → Option β) (k : κ) : Option β := body k
theorem jn_some {κ β : Type} {body : κ → Option β} {k : κ} {o : β} (h : jn body k = some o) : ∃ k', k' = k ∧ body k' = some o := ⟨k, rfl, h⟩
def bd1 {A0 B : Type} (x : Option (A0)) (f : A0 → Option B) : Option B := x.bind (fun p => f (p))
theorem bd1_some {A0 B : Type} {x : Option (A0)} {f : A0 → Option B} {o : B} (h : bd1 x f = some o) : ∃ a0, x = some (a0) ∧ f a0 = some o := by
  cases x with
  | none => cases h
  | some p => exact ⟨p, rfl, h⟩

def bd2 {A0 A1 B : Type} (x : Option (A0 × A1)) (f : A0 → A1 → Option B) : Option B := x.bind (fun p => f (p.1) (p.2))
theorem bd2_some {A0 A1 B : Type} {x : Option (A0 × A1)} {f : A0 → A1 → Option B} {o : B} (h : bd2 x f = some o) : ∃ a0 a1, x = some (a0, a1) ∧ f a0 a1 = some o := by
  cases x with
  | none => cases h
  | some p => exact ⟨p.1, p.2, rfl, h⟩

def bd3 {A0 A1 A2 B : Type} (x : Option (A0 × A1 × A2)) (f : A0 → A1 → A2 → Option B) : Option B := x.bind (fun p => f (p.1) (p.2.1) (p.2.2))
theorem bd3_some {A0 A1 A2 B : Type} {x : Option (A0 × A1 × A2)} {f : A0 → A1 → A2 → Option B} {o : B} (h : bd3 x f = some o) : ∃ a0 a1 a2, x = some (a0, a1, a2) ∧ f a0 a1 a2 = some o := by
  cases x with
  | none => cases h
  | some p => exact ⟨p.1, p.2.1, p.2.2, rfl, h⟩

def bd4 {A0 A1 A2 A3 B : Type} (x : Option (A0 × A1 × A2 × A3)) (f : A0 → A1 → A2 → A3 → Option B) : Option B := x.bind (fun p => f (p.1) (p.2.1) (p.2.2.1) (p.2.2.2))
theorem bd4_some {A0 A1 A2 A3 B : Type} {x : Option (A0 × A1 × A2 × A3)} {f : A0 → A1 → A2 → A3 → Option B} {o : B} (h : bd4 x f = some o) : ∃ a0 a1 a2 a3, x = some (a0, a1, a2, a3) ∧ f a0 a1 a2 a3 = some o := by
  cases x with
  | none => cases h
  | some p => exact ⟨p.1, p.2.1, p.2.2.1, p.2.2.2, rfl, h⟩

def bd5 {A0 A1 A2 A3 A4 B : Type} (x : Option (A0 × A1 × A2 × A3 × A4)) (f : A0 → A1 → A2 → A3 → A4 → Option B) : Option B := x.bind (fun p => f (p.1) (p.2.1) (p.2.2.1) (p.2.2.2.1) (p.2.2.2.2))
theorem bd5_some {A0 A1 A2 A3 A4 B : Type} {x : Option (A0 × A1 × A2 × A3 × A4)} {f : A0 → A1 → A2 → A3 → A4 → Option B} {o : B} (h : bd5 x f = some o) : ∃ a0 a1 a2 a3 a4, x = some (a0, a1, a2, a3, a4) ∧ f a0 a1 a2 a3 a4 = some o := by
  cases x with
  | none => cases h
  | some p => exact ⟨p.1, p.2.1, p.2.2.1, p.2.2.2.1, p.2.2.2.2, rfl, h⟩

def bd6 {A0 A1 A2 A3 A4 A5 B : Type} (x : Option (A0 × A1 × A2 × A3 × A4 × A5)) (f : A0 → A1 → A2 → A3 → A4 → A5 → Option B) : Option B := x.bind (fun p => f (p.1) (p.2.1) (p.2.2.1) (p.2.2.2.1) (p.2.2.2.2.1) (p.2.2.2.2.2))
theorem bd6_some {A0 A1 A2 A3 A4 A5 B : Type} {x : Option (A0 × A1 × A2 × A3 × A4 × A5)} {f : A0 → A1 → A2 → A3 → A4 → A5 → Option B} {o : B} (h : bd6 x f = some o) : ∃ a0 a1 a2 a3 a4 a5, x = some (a0, a1, a2, a3, a4, a5) ∧ f a0 a1 a2 a3 a4 a5 = some o := by
  cases x with
  | none => cases h
  | some p => exact ⟨p.1, p.2.1, p.2.2.1, p.2.2.2.1, p.2.2.2.2.1, p.2.2.2.2.2, rfl, h⟩

def bd7 {A0 A1 A2 A3 A4 A5 A6 B : Type} (x : Option (A0 × A1 × A2 × A3 × A4 × A5 × A6)) (f : A0 → A1 → A2 → A3 → A4 → A5 → A6 → Option B) : Option B := x.bind (fun p => f (p.1) (p.2.1) (p.2.2.1) (p.2.2.2.1) (p.2.2.2.2.1) (p.2.2.2.2.2.1) (p.2.2.2.2.2.2))
theorem bd7_some {A0 A1 A2 A3 A4 A5 A6 B : Type} {x : Option (A0 × A1 × A2 × A3 × A4 × A5 × A6)} {f : A0 → A1 → A2 → A3 → A4 → A5 → A6 → Option B} {o : B} (h : bd7 x f = some o) : ∃ a0 a1 a2 a3 a4 a5 a6, x = some (a0, a1, a2, a3, a4, a5, a6) ∧ f a0 a1 a2 a3 a4 a5 a6 = some o := by
  cases x with
  | none => cases h
  | some p => exact ⟨p.1, p.2.1, p.2.2.1, p.2.2.2.1, p.2.2.2.2.1, p.2.2.2.2.2.1, p.2.2.2.2.2.2, rfl, h⟩

def bd8 {A0 A1 A2 A3 A4 A5 A6 A7 B : Type} (x : Option (A0 × A1 × A2 × A3 × A4 × A5 × A6 × A7)) (f : A0 → A1 → A2 → A3 → A4 → A5 → A6 → A7 → Option B) : Option B := x.bind (fun p => f (p.1) (p.2.1) (p.2.2.1) (p.2.2.2.1) (p.2.2.2.2.1) (p.2.2.2.2.2.1) (p.2.2.2.2.2.2.1) (p.2.2.2.2.2.2.2))
theorem bd8_some {A0 A1 A2 A3 A4 A5 A6 A7 B : Type} {x : Option (A0 × A1 × A2 × A3 × A4 × A5 × A6 × A7)} {f : A0 → A1 → A2 → A3 → A4 → A5 → A6 → A7 → Option B} {o : B} (h : bd8 x f = some o) : ∃ a0 a1 a2 a3 a4 a5 a6 a7, x = some (a0, a1, a2, a3, a4, a5, a6, a7) ∧ f a0 a1 a2 a3 a4 a5 a6 a7 = some o := by
  cases x with
  | none => cases h
  | some p => exact ⟨p.1, p.2.1, p.2.2.1, p.2.2.2.1, p.2.2.2.2.1, p.2.2.2.2.2.1, p.2.2.2.2.2.2.1, p.2.2.2.2.2.2.2, rfl, h⟩

def bd9 {A0 A1 A2 A3 A4 A5 A6 A7 A8 B : Type} (x : Option (A0 × A1 × A2 × A3 × A4 × A5 × A6 × A7 × A8)) (f : A0 → A1 → A2 → A3 → A4 → A5 → A6 → A7 → A8 → Option B) : Option B := x.bind (fun p => f (p.1) (p.2.1) (p.2.2.1) (p.2.2.2.1) (p.2.2.2.2.1) (p.2.2.2.2.2.1) (p.2.2.2.2.2.2.1) (p.2.2.2.2.2.2.2.1) (p.2.2.2.2.2.2.2.2))
theorem bd9_some {A0 A1 A2 A3 A4 A5 A6 A7 A8 B : Type} {x : Option (A0 × A1 × A2 × A3 × A4 × A5 × A6 × A7 × A8)} {f : A0 → A1 → A2 → A3 → A4 → A5 → A6 → A7 → A8 → Option B} {o : B} (h : bd9 x f = some o) : ∃ a0 a1 a2 a3 a4 a5 a6 a7 a8, x = some (a0, a1, a2, a3, a4, a5, a6, a7, a8) ∧ f a0 a1 a2 a3 a4 a5 a6 a7 a8 = some o := by
  cases x with
  | none => cases h
  | some p => exact ⟨p.1, p.2.1, p.2.2.1, p.2.2.2.1, p.2.2.2.2.1, p.2.2.2.2.2.1, p.2.2.2.2.2.2.1, p.2.2.2.2.2.2.2.1, p.2.2.2.2.2.2.2.2, rfl, h⟩

def bd10 {A0 A1 A2 A3 A4 A5 A6 A7 A8 A9 B : Type} (x : Option (A0 × A1 × A2 × A3 × A4 × A5 × A6 × A7 × A8 × A9)) (f : A0 → A1 → A2 → A3 → A4 → A5 → A6 → A7 → A8 → A9 → Option B) : Option B := x.bind (fun p => f (p.1) (p.2.1) (p.2.2.1) (p.2.2.2.1) (p.2.2.2.2.1) (p.2.2.2.2.2.1) (p.2.2.2.2.2.2.1) (p.2.2.2.2.2.2.2.1) (p.2.2.2.2.2.2.2.2.1) (p.2.2.2.2.2.2.2.2.2))
theorem bd10_some {A0 A1 A2 A3 A4 A5 A6 A7 A8 A9 B : Type} {x : Option (A0 × A1 × A2 × A3 × A4 × A5 × A6 × A7 × A8 × A9)} {f : A0 → A1 → A2 → A3 → A4 → A5 → A6 → A7 → A8 → A9 → Option B} {o : B} (h : bd10 x f = some o) : ∃ a0 a1 a2 a3 a4 a5 a6 a7 a8 a9, x = some (a0, a1, a2, a3, a4, a5, a6, a7, a8, a9) ∧ f a0 a1 a2 a3 a4 a5 a6 a7 a8 a9 = some o := by
  cases x with
  | none => cases h
  | some p => exact ⟨p.1, p.2.1, p.2.2.1, p.2.2.2.1, p.2.2.2.2.1, p.2.2.2.2.2.1, p.2.2.2.2.2.2.1, p.2.2.2.2.2.2.2.1, p.2.2.2.2.2.2.2.2.1, p.2.2.2.2.2.2.2.2.2, rfl, h⟩

def bd11 {A0 A1 A2 A3 A4 A5 A6 A7 A8 A9 A10 B : Type} (x : Option (A0 × A1 × A2 × A3 × A4 × A5 × A6 × A7 × A8 × A9 × A10)) (f : A0 → A1 → A2 → A3 → A4 → A5 → A6 → A7 → A8 → A9 → A10 → Option B) : Option B := x.bind (fun p => f (p.1) (p.2.1) (p.2.2.1) (p.2.2.2.1) (p.2.2.2.2.1) (p.2.2.2.2.2.1) (p.2.2.2.2.2.2.1) (p.2.2.2.2.2.2.2.1) (p.2.2.2.2.2.2.2.2.1) (p.2.2.2.2.2.2.2.2.2.1) (p.2.2.2.2.2.2.2.2.2.2))
theorem bd11_some {A0 A1 A2 A3 A4 A5 A6 A7 A8 A9 A10 B : Type} {x : Option (A0 × A1 × A2 × A3 × A4 × A5 × A6 × A7 × A8 × A9 × A10)} {f : A0 → A1 → A2 → A3 → A4 → A5 → A6 → A7 → A8 → A9 → A10 → Option B} {o : B} (h : bd11 x f = some o) : ∃ a0 a1 a2 a3 a4 a5 a6 a7 a8 a9 a10, x = some (a0, a1, a2, a3, a4, a5, a6, a7, a8, a9, a10) ∧ f a0 a1 a2 a3 a4 a5 a6 a7 a8 a9 a10 = some o := by
  cases x with
  | none => cases h
  | some p => exact ⟨p.1, p.2.1, p.2.2.1, p.2.2.2.1, p.2.2.2.2.1, p.2.2.2.2.2.1, p.2.2.2.2.2.2.1, p.2.2.2.2.2.2.2.1, p.2.2.2.2.2.2.2.2.1, p.2.2.2.2.2.2.2.2.2.1, p.2.2.2.2.2.2.2.2.2.2, rfl, h⟩

def bd12 {A0 A1 A2 A3 A4 A5 A6 A7 A8 A9 A10 A11 B : Type} (x : Option (A0 × A1 × A2 × A3 × A4 × A5 × A6 × A7 × A8 × A9 × A10 × A11)) (f : A0 → A1 → A2 → A3 → A4 → A5 → A6 → A7 → A8 → A9 → A10 → A11 → Option B) : Option B := x.bind (fun p => f (p.1) (p.2.1) (p.2.2.1) (p.2.2.2.1) (p.2.2.2.2.1) (p.2.2.2.2.2.1) (p.2.2.2.2.2.2.1) (p.2.2.2.2.2.2.2.1) (p.2.2.2.2.2.2.2.2.1) (p.2.2.2.2.2.2.2.2.2.1) (p.2.2.2.2.2.2.2.2.2.2.1) (p.2.2.2.2.2.2.2.2.2.2.2))
theorem bd12_some {A0 A1 A2 A3 A4 A5 A6 A7 A8 A9 A10 A11 B : Type} {x : Option (A0 × A1 × A2 × A3 × A4 × A5 × A6 × A7 × A8 × A9 × A10 × A11)} {f : A0 → A1 → A2 → A3 → A4 → A5 → A6 → A7 → A8 → A9 → A10 → A11 → Option B} {o : B} (h : bd12 x f = some o) : ∃ a0 a1 a2 a3 a4 a5 a6 a7 a8 a9 a10 a11, x = some (a0, a1, a2, a3, a4, a5, a6, a7, a8, a9, a10, a11) ∧ f a0 a1 a2 a3 a4 a5 a6 a7 a8 a9 a10 a11 = some o := by
  cases x with
  | none => cases h
  | some p => exact ⟨p.1, p.2.1, p.2.2.1, p.2.2.2.1, p.2.2.2.2.1, p.2.2.2.2.2.1, p.2.2.2.2.2.2.1, p.2.2.2.2.2.2.2.1, p.2.2.2.2.2.2.2.2.1, p.2.2.2.2.2.2.2.2.2.1, p.2.2.2.2.2.2.2.2.2.2.1, p.2.2.2.2.2.2.2.2.2.2.2, rfl, h⟩

def bd13 {A0 A1 A2 A3 A4 A5 A6 A7 A8 A9 A10 A11 A12 B : Type} (x : Option (A0 × A1 × A2 × A3 × A4 × A5 × A6 × A7 × A8 × A9 × A10 × A11 × A12)) (f : A0 → A1 → A2 → A3 → A4 → A5 → A6 → A7 → A8 → A9 → A10 → A11 → A12 → Option B) : Option B := x.bind (fun p => f (p.1) (p.2.1) (p.2.2.1) (p.2.2.2.1) (p.2.2.2.2.1) (p.2.2.2.2.2.1) (p.2.2.2.2.2.2.1) (p.2.2.2.2.2.2.2.1) (p.2.2.2.2.2.2.2.2.1) (p.2.2.2.2.2.2.2.2.2.1) (p.2.2.2.2.2.2.2.2.2.2.1) (p.2.2.2.2.2.2.2.2.2.2.2.1) (p.2.2.2.2.2.2.2.2.2.2.2.2))
theorem bd13_some {A0 A1 A2 A3 A4 A5 A6 A7 A8 A9 A10 A11 A12 B : Type} {x : Option (A0 × A1 × A2 × A3 × A4 × A5 × A6 × A7 × A8 × A9 × A10 × A11 × A12)} {f : A0 → A1 → A2 → A3 → A4 → A5 → A6 → A7 → A8 → A9 → A10 → A11 → A12 → Option B} {o : B} (h : bd13 x f = some o) : ∃ a0 a1 a2 a3 a4 a5 a6 a7 a8 a9 a10 a11 a12, x = some (a0, a1, a2, a3, a4, a5, a6, a7, a8, a9, a10, a11, a12) ∧ f a0 a1 a2 a3 a4 a5 a6 a7 a8 a9 a10 a11 a12 = some o := by
  cases x with
  | none => cases h
  | some p => exact ⟨p.1, p.2.1, p.2.2.1, p.2.2.2.1, p.2.2.2.2.1, p.2.2.2.2.2.1, p.2.2.2.2.2.2.1, p.2.2.2.2.2.2.2.1, p.2.2.2.2.2.2.2.2.1, p.2.2.2.2.2.2.2.2.2.1, p.2.2.2.2.2.2.2.2.2.2.1, p.2.2.2.2.2.2.2.2.2.2.2.1, p.2.2.2.2.2.2.2.2.2.2.2.2, rfl, h⟩

def bd14 {A0 A1 A2 A3 A4 A5 A6 A7 A8 A9 A10 A11 A12 A13 B : Type} (x : Option (A0 × A1 × A2 × A3 × A4 × A5 × A6 × A7 × A8 × A9 × A10 × A11 × A12 × A13)) (f : A0 → A1 → A2 → A3 → A4 → A5 → A6 → A7 → A8 → A9 → A10 → A11 → A12 → A13 → Option B) : Option B := x.bind (fun p => f (p.1) (p.2.1) (p.2.2.1) (p.2.2.2.1) (p.2.2.2.2.1) (p.2.2.2.2.2.1) (p.2.2.2.2.2.2.1) (p.2.2.2.2.2.2.2.1) (p.2.2.2.2.2.2.2.2.1) (p.2.2.2.2.2.2.2.2.2.1) (p.2.2.2.2.2.2.2.2.2.2.1) (p.2.2.2.2.2.2.2.2.2.2.2.1) (p.2.2.2.2.2.2.2.2.2.2.2.2.1) (p.2.2.2.2.2.2.2.2.2.2.2.2.2))
theorem bd14_some {A0 A1 A2 A3 A4 A5 A6 A7 A8 A9 A10 A11 A12 A13 B : Type} {x : Option (A0 × A1 × A2 × A3 × A4 × A5 × A6 × A7 × A8 × A9 × A10 × A11 × A12 × A13)} {f : A0 → A1 → A2 → A3 → A4 → A5 → A6 → A7 → A8 → A9 → A10 → A11 → A12 → A13 → Option B} {o : B} (h : bd14 x f = some o) : ∃ a0 a1 a2 a3 a4 a5 a6 a7 a8 a9 a10 a11 a12 a13, x = some (a0, a1, a2, a3, a4, a5, a6, a7, a8, a9, a10, a11, a12, a13) ∧ f a0 a1 a2 a3 a4 a5 a6 a7 a8 a9 a10 a11 a12 a13 = some o := by
  cases x with
  | none => cases h
  | some p => exact ⟨p.1, p.2.1, p.2.2.1, p.2.2.2.1, p.2.2.2.2.1, p.2.2.2.2.2.1, p.2.2.2.2.2.2.1, p.2.2.2.2.2.2.2.1, p.2.2.2.2.2.2.2.2.1, p.2.2.2.2.2.2.2.2.2.1, p.2.2.2.2.2.2.2.2.2.2.1, p.2.2.2.2.2.2.2.2.2.2.2.1, p.2.2.2.2.2.2.2.2.2.2.2.2.1, p.2.2.2.2.2.2.2.2.2.2.2.2.2, rfl, h⟩

def bd15 {A0 A1 A2 A3 A4 A5 A6 A7 A8 A9 A10 A11 A12 A13 A14 B : Type} (x : Option (A0 × A1 × A2 × A3 × A4 × A5 × A6 × A7 × A8 × A9 × A10 × A11 × A12 × A13 × A14)) (f : A0 → A1 → A2 → A3 → A4 → A5 → A6 → A7 → A8 → A9 → A10 → A11 → A12 → A13 → A14 → Option B) : Option B := x.bind (fun p => f (p.1) (p.2.1) (p.2.2.1) (p.2.2.2.1) (p.2.2.2.2.1) (p.2.2.2.2.2.1) (p.2.2.2.2.2.2.1) (p.2.2.2.2.2.2.2.1) (p.2.2.2.2.2.2.2.2.1) (p.2.2.2.2.2.2.2.2.2.1) (p.2.2.2.2.2.2.2.2.2.2.1) (p.2.2.2.2.2.2.2.2.2.2.2.1) (p.2.2.2.2.2.2.2.2.2.2.2.2.1) (p.2.2.2.2.2.2.2.2.2.2.2.2.2.1) (p.2.2.2.2.2.2.2.2.2.2.2.2.2.2))
theorem bd15_some {A0 A1 A2 A3 A4 A5 A6 A7 A8 A9 A10 A11 A12 A13 A14 B : Type} {x : Option (A0 × A1 × A2 × A3 × A4 × A5 × A6 × A7 × A8 × A9 × A10 × A11 × A12 × A13 × A14)} {f : A0 → A1 → A2 → A3 → A4 → A5 → A6 → A7 → A8 → A9 → A10 → A11 → A12 → A13 → A14 → Option B} {o : B} (h : bd15 x f = some o) : ∃ a0 a1 a2 a3 a4 a5 a6 a7 a8 a9 a10 a11 a12 a13 a14, x = some (a0, a1, a2, a3, a4, a5, a6, a7, a8, a9, a10, a11, a12, a13, a14) ∧ f a0 a1 a2 a3 a4 a5 a6 a7 a8 a9 a10 a11 a12 a13 a14 = some o := by
  cases x with
  | none => cases h
  | some p => exact ⟨p.1, p.2.1, p.2.2.1, p.2.2.2.1, p.2.2.2.2.1, p.2.2.2.2.2.1, p.2.2.2.2.2.2.1, p.2.2.2.2.2.2.2.1, p.2.2.2.2.2.2.2.2.1, p.2.2.2.2.2.2.2.2.2.1, p.2.2.2.2.2.2.2.2.2.2.1, p.2.2.2.2.2.2.2.2.2.2.2.1, p.2.2.2.2.2.2.2.2.2.2.2.2.1, p.2.2.2.2.2.2.2.2.2.2.2.2.2.1, p.2.2.2.2.2.2.2.2.2.2.2.2.2.2, rfl, h⟩

def bd16 {A0 A1 A2 A3 A4 A5 A6 A7 A8 A9 A10 A11 A12 A13 A14 A15 B : Type} (x : Option (A0 × A1 × A2 × A3 × A4 × A5 × A6 × A7 × A8 × A9 × A10 × A11 × A12 × A13 × A14 × A15)) (f : A0 → A1 → A2 → A3 → A4 → A5 → A6 → A7 → A8 → A9 → A10 → A11 → A12 → A13 → A14 → A15 → Option B) : Option B := x.bind (fun p => f (p.1) (p.2.1) (p.2.2.1) (p.2.2.2.1) (p.2.2.2.2.1) (p.2.2.2.2.2.1) (p.2.2.2.2.2.2.1) (p.2.2.2.2.2.2.2.1) (p.2.2.2.2.2.2.2.2.1) (p.2.2.2.2.2.2.2.2.2.1) (p.2.2.2.2.2.2.2.2.2.2.1) (p.2.2.2.2.2.2.2.2.2.2.2.1) (p.2.2.2.2.2.2.2.2.2.2.2.2.1) (p.2.2.2.2.2.2.2.2.2.2.2.2.2.1) (p.2.2.2.2.2.2.2.2.2.2.2.2.2.2.1) (p.2.2.2.2.2.2.2.2.2.2.2.2.2.2.2))
theorem bd16_some {A0 A1 A2 A3 A4 A5 A6 A7 A8 A9 A10 A11 A12 A13 A14 A15 B : Type} {x : Option (A0 × A1 × A2 × A3 × A4 × A5 × A6 × A7 × A8 × A9 × A10 × A11 × A12 × A13 × A14 × A15)} {f : A0 → A1 → A2 → A3 → A4 → A5 → A6 → A7 → A8 → A9 → A10 → A11 → A12 → A13 → A14 → A15 → Option B} {o : B} (h : bd16 x f = some o) : ∃ a0 a1 a2 a3 a4 a5 a6 a7 a8 a9 a10 a11 a12 a13 a14 a15, x = some (a0, a1, a2, a3, a4, a5, a6, a7, a8, a9, a10, a11, a12, a13, a14, a15) ∧ f a0 a1 a2 a3 a4 a5 a6 a7 a8 a9 a10 a11 a12 a13 a14 a15 = some o := by
  cases x with
  | none => cases h
  | some p => exact ⟨p.1, p.2.1, p.2.2.1, p.2.2.2.1, p.2.2.2.2.1, p.2.2.2.2.2.1, p.2.2.2.2.2.2.1, p.2.2.2.2.2.2.2.1, p.2.2.2.2.2.2.2.2.1, p.2.2.2.2.2.2.2.2.2.1, p.2.2.2.2.2.2.2.2.2.2.1, p.2.2.2.2.2.2.2.2.2.2.2.1, p.2.2.2.2.2.2.2.2.2.2.2.2.1, p.2.2.2.2.2.2.2.2.2.2.2.2.2.1, p.2.2.2.2.2.2.2.2.2.2.2.2.2.2.1, p.2.2.2.2.2.2.2.2.2.2.2.2.2.2.2, rfl, h⟩

def bd17 {A0 A1 A2 A3 A4 A5 A6 A7 A8 A9 A10 A11 A12 A13 A14 A15 A16 B : Type} (x : Option (A0 × A1 × A2 × A3 × A4 × A5 × A6 × A7 × A8 × A9 × A10 × A11 × A12 × A13 × A14 × A15 × A16)) (f : A0 → A1 → A2 → A3 → A4 → A5 → A6 → A7 → A8 → A9 → A10 → A11 → A12 → A13 → A14 → A15 → A16 → Option B) : Option B := x.bind (fun p => f (p.1) (p.2.1) (p.2.2.1) (p.2.2.2.1) (p.2.2.2.2.1) (p.2.2.2.2.2.1) (p.2.2.2.2.2.2.1) (p.2.2.2.2.2.2.2.1) (p.2.2.2.2.2.2.2.2.1) (p.2.2.2.2.2.2.2.2.2.1) (p.2.2.2.2.2.2.2.2.2.2.1) (p.2.2.2.2.2.2.2.2.2.2.2.1) (p.2.2.2.2.2.2.2.2.2.2.2.2.1) (p.2.2.2.2.2.2.2.2.2.2.2.2.2.1) (p.2.2.2.2.2.2.2.2.2.2.2.2.2.2.1) (p.2.2.2.2.2.2.2.2.2.2.2.2.2.2.2.1) (p.2.2.2.2.2.2.2.2.2.2.2.2.2.2.2.2))
theorem bd17_some {A0 A1 A2 A3 A4 A5 A6 A7 A8 A9 A10 A11 A12 A13 A14 A15 A16 B : Type} {x : Option (A0 × A1 × A2 × A3 × A4 × A5 × A6 × A7 × A8 × A9 × A10 × A11 × A12 × A13 × A14 × A15 × A16)} {f : A0 → A1 → A2 → A3 → A4 → A5 → A6 → A7 → A8 → A9 → A10 → A11 → A12 → A13 → A14 → A15 → A16 → Option B} {o : B} (h : bd17 x f = some o) : ∃ a0 a1 a2 a3 a4 a5 a6 a7 a8 a9 a10 a11 a12 a13 a14 a15 a16, x = some (a0, a1, a2, a3, a4, a5, a6, a7, a8, a9, a10, a11, a12, a13, a14, a15, a16) ∧ f a0 a1 a2 a3 a4 a5 a6 a7 a8 a9 a10 a11 a12 a13 a14 a15 a16 = some o := by
  cases x with
  | none => cases h
  | some p => exact ⟨p.1, p.2.1, p.2.2.1, p.2.2.2.1, p.2.2.2.2.1, p.2.2.2.2.2.1, p.2.2.2.2.2.2.1, p.2.2.2.2.2.2.2.1, p.2.2.2.2.2.2.2.2.1, p.2.2.2.2.2.2.2.2.2.1, p.2.2.2.2.2.2.2.2.2.2.1, p.2.2.2.2.2.2.2.2.2.2.2.1, p.2.2.2.2.2.2.2.2.2.2.2.2.1, p.2.2.2.2.2.2.2.2.2.2.2.2.2.1, p.2.2.2.2.2.2.2.2.2.2.2.2.2.2.1, p.2.2.2.2.2.2.2.2.2.2.2.2.2.2.2.1, p.2.2.2.2.2.2.2.2.2.2.2.2.2.2.2.2, rfl, h⟩

def bd18 {A0 A1 A2 A3 A4 A5 A6 A7 A8 A9 A10 A11 A12 A13 A14 A15 A16 A17 B : Type} (x : Option (A0 × A1 × A2 × A3 × A4 × A5 × A6 × A7 × A8 × A9 × A10 × A11 × A12 × A13 × A14 × A15 × A16 × A17)) (f : A0 → A1 → A2 → A3 → A4 → A5 → A6 → A7 → A8 → A9 → A10 → A11 → A12 → A13 → A14 → A15 → A16 → A17 → Option B) : Option B := x.bind (fun p => f (p.1) (p.2.1) (p.2.2.1) (p.2.2.2.1) (p.2.2.2.2.1) (p.2.2.2.2.2.1) (p.2.2.2.2.2.2.1) (p.2.2.2.2.2.2.2.1) (p.2.2.2.2.2.2.2.2.1) (p.2.2.2.2.2.2.2.2.2.1) (p.2.2.2.2.2.2.2.2.2.2.1) (p.2.2.2.2.2.2.2.2.2.2.2.1) (p.2.2.2.2.2.2.2.2.2.2.2.2.1) (p.2.2.2.2.2.2.2.2.2.2.2.2.2.1) (p.2.2.2.2.2.2.2.2.2.2.2.2.2.2.1) (p.2.2.2.2.2.2.2.2.2.2.2.2.2.2.2.1) (p.2.2.2.2.2.2.2.2.2.2.2.2.2.2.2.2.1) (p.2.2.2.2.2.2.2.2.2.2.2.2.2.2.2.2.2))
theorem bd18_some {A0 A1 A2 A3 A4 A5 A6 A7 A8 A9 A10 A11 A12 A13 A14 A15 A16 A17 B : Type} {x : Option (A0 × A1 × A2 × A3 × A4 × A5 × A6 × A7 × A8 × A9 × A10 × A11 × A12 × A13 × A14 × A15 × A16 × A17)} {f : A0 → A1 → A2 → A3 → A4 → A5 → A6 → A7 → A8 → A9 → A10 → A11 → A12 → A13 → A14 → A15 → A16 → A17 → Option B} {o : B} (h : bd18 x f = some o) : ∃ a0 a1 a2 a3 a4 a5 a6 a7 a8 a9 a10 a11 a12 a13 a14 a15 a16 a17, x = some (a0, a1, a2, a3, a4, a5, a6, a7, a8, a9, a10, a11, a12, a13, a14, a15, a16, a17) ∧ f a0 a1 a2 a3 a4 a5 a6 a7 a8 a9 a10 a11 a12 a13 a14 a15 a16 a17 = some o := by
  cases x with
  | none => cases h
  | some p => exact ⟨p.1, p.2.1, p.2.2.1, p.2.2.2.1, p.2.2.2.2.1, p.2.2.2.2.2.1, p.2.2.2.2.2.2.1, p.2.2.2.2.2.2.2.1, p.2.2.2.2.2.2.2.2.1, p.2.2.2.2.2.2.2.2.2.1, p.2.2.2.2.2.2.2.2.2.2.1, p.2.2.2.2.2.2.2.2.2.2.2.1, p.2.2.2.2.2.2.2.2.2.2.2.2.1, p.2.2.2.2.2.2.2.2.2.2.2.2.2.1, p.2.2.2.2.2.2.2.2.2.2.2.2.2.2.1, p.2.2.2.2.2.2.2.2.2.2.2.2.2.2.2.1, p.2.2.2.2.2.2.2.2.2.2.2.2.2.2.2.2.1, p.2.2.2.2.2.2.2.2.2.2.2.2.2.2.2.2.2, rfl, h⟩

def bd19 {A0 A1 A2 A3 A4 A5 A6 A7 A8 A9 A10 A11 A12 A13 A14 A15 A16 A17 A18 B : Type} (x : Option (A0 × A1 × A2 × A3 × A4 × A5 × A6 × A7 × A8 × A9 × A10 × A11 × A12 × A13 × A14 × A15 × A16 × A17 × A18)) (f : A0 → A1 → A2 → A3 → A4 → A5 → A6 → A7 → A8 → A9 → A10 → A11 → A12 → A13 → A14 → A15 → A16 → A17 → A18 → Option B) : Option B := x.bind (fun p => f (p.1) (p.2.1) (p.2.2.1) (p.2.2.2.1) (p.2.2.2.2.1) (p.2.2.2.2.2.1) (p.2.2.2.2.2.2.1) (p.2.2.2.2.2.2.2.1) (p.2.2.2.2.2.2.2.2.1) (p.2.2.2.2.2.2.2.2.2.1) (p.2.2.2.2.2.2.2.2.2.2.1) (p.2.2.2.2.2.2.2.2.2.2.2.1) (p.2.2.2.2.2.2.2.2.2.2.2.2.1) (p.2.2.2.2.2.2.2.2.2.2.2.2.2.1) (p.2.2.2.2.2.2.2.2.2.2.2.2.2.2.1) (p.2.2.2.2.2.2.2.2.2.2.2.2.2.2.2.1) (p.2.2.2.2.2.2.2.2.2.2.2.2.2.2.2.2.1) (p.2.2.2.2.2.2.2.2.2.2.2.2.2.2.2.2.2.1) (p.2.2.2.2.2.2.2.2.2.2.2.2.2.2.2.2.2.2))
theorem bd19_some {A0 A1 A2 A3 A4 A5 A6 A7 A8 A9 A10 A11 A12 A13 A14 A15 A16 A17 A18 B : Type} {x : Option (A0 × A1 × A2 × A3 × A4 × A5 × A6 × A7 × A8 × A9 × A10 × A11 × A12 × A13 × A14 × A15 × A16 × A17 × A18)} {f : A0 → A1 → A2 → A3 → A4 → A5 → A6 → A7 → A8 → A9 → A10 → A11 → A12 → A13 → A14 → A15 → A16 → A17 → A18 → Option B} {o : B} (h : bd19 x f = some o) : ∃ a0 a1 a2 a3 a4 a5 a6 a7 a8 a9 a10 a11 a12 a13 a14 a15 a16 a17 a18, x = some (a0, a1, a2, a3, a4, a5, a6, a7, a8, a9, a10, a11, a12, a13, a14, a15, a16, a17, a18) ∧ f a0 a1 a2 a3 a4 a5 a6 a7 a8 a9 a10 a11 a12 a13 a14 a15 a16 a17 a18 = some o := by
  cases x with
  | none => cases h
  | some p => exact ⟨p.1, p.2.1, p.2.2.1, p.2.2.2.1, p.2.2.2.2.1, p.2.2.2.2.2.1, p.2.2.2.2.2.2.1, p.2.2.2.2.2.2.2.1, p.2.2.2.2.2.2.2.2.1, p.2.2.2.2.2.2.2.2.2.1, p.2.2.2.2.2.2.2.2.2.2.1, p.2.2.2.2.2.2.2.2.2.2.2.1, p.2.2.2.2.2.2.2.2.2.2.2.2.1, p.2.2.2.2.2.2.2.2.2.2.2.2.2.1, p.2.2.2.2.2.2.2.2.2.2.2.2.2.2.1, p.2.2.2.2.2.2.2.2.2.2.2.2.2.2.2.1, p.2.2.2.2.2.2.2.2.2.2.2.2.2.2.2.2.1, p.2.2.2.2.2.2.2.2.2.2.2.2.2.2.2.2.2.1, p.2.2.2.2.2.2.2.2.2.2.2.2.2.2.2.2.2.2, rfl, h⟩

def bd20 {A0 A1 A2 A3 A4 A5 A6 A7 A8 A9 A10 A11 A12 A13 A14 A15 A16 A17 A18 A19 B : Type} (x : Option (A0 × A1 × A2 × A3 × A4 × A5 × A6 × A7 × A8 × A9 × A10 × A11 × A12 × A13 × A14 × A15 × A16 × A17 × A18 × A19)) (f : A0 → A1 → A2 → A3 → A4 → A5 → A6 → A7 → A8 → A9 → A10 → A11 → A12 → A13 → A14 → A15 → A16 → A17 → A18 → A19 → Option B) : Option B := x.bind (fun p => f (p.1) (p.2.1) (p.2.2.1) (p.2.2.2.1) (p.2.2.2.2.1) (p.2.2.2.2.2.1) (p.2.2.2.2.2.2.1) (p.2.2.2.2.2.2.2.1) (p.2.2.2.2.2.2.2.2.1) (p.2.2.2.2.2.2.2.2.2.1) (p.2.2.2.2.2.2.2.2.2.2.1) (p.2.2.2.2.2.2.2.2.2.2.2.1) (p.2.2.2.2.2.2.2.2.2.2.2.2.1) (p.2.2.2.2.2.2.2.2.2.2.2.2.2.1) (p.2.2.2.2.2.2.2.2.2.2.2.2.2.2.1) (p.2.2.2.2.2.2.2.2.2.2.2.2.2.2.2.1) (p.2.2.2.2.2.2.2.2.2.2.2.2.2.2.2.2.1) (p.2.2.2.2.2.2.2.2.2.2.2.2.2.2.2.2.2.1) (p.2.2.2.2.2.2.2.2.2.2.2.2.2.2.2.2.2.2.1) (p.2.2.2.2.2.2.2.2.2.2.2.2.2.2.2.2.2.2.2))
theorem bd20_some {A0 A1 A2 A3 A4 A5 A6 A7 A8 A9 A10 A11 A12 A13 A14 A15 A16 A17 A18 A19 B : Type} {x : Option (A0 × A1 × A2 × A3 × A4 × A5 × A6 × A7 × A8 × A9 × A10 × A11 × A12 × A13 × A14 × A15 × A16 × A17 × A18 × A19)} {f : A0 → A1 → A2 → A3 → A4 → A5 → A6 → A7 → A8 → A9 → A10 → A11 → A12 → A13 → A14 → A15 → A16 → A17 → A18 → A19 → Option B} {o : B} (h : bd20 x f = some o) : ∃ a0 a1 a2 a3 a4 a5 a6 a7 a8 a9 a10 a11 a12 a13 a14 a15 a16 a17 a18 a19, x = some (a0, a1, a2, a3, a4, a5, a6, a7, a8, a9, a10, a11, a12, a13, a14, a15, a16, a17, a18, a19) ∧ f a0 a1 a2 a3 a4 a5 a6 a7 a8 a9 a10 a11 a12 a13 a14 a15 a16 a17 a18 a19 = some o := by
  cases x with
  | none => cases h
  | some p => exact ⟨p.1, p.2.1, p.2.2.1, p.2.2.2.1, p.2.2.2.2.1, p.2.2.2.2.2.1, p.2.2.2.2.2.2.1, p.2.2.2.2.2.2.2.1, p.2.2.2.2.2.2.2.2.1, p.2.2.2.2.2.2.2.2.2.1, p.2.2.2.2.2.2.2.2.2.2.1, p.2.2.2.2.2.2.2.2.2.2.2.1, p.2.2.2.2.2.2.2.2.2.2.2.2.1, p.2.2.2.2.2.2.2.2.2.2.2.2.2.1, p.2.2.2.2.2.2.2.2.2.2.2.2.2.2.1, p.2.2.2.2.2.2.2.2.2.2.2.2.2.2.2.1, p.2.2.2.2.2.2.2.2.2.2.2.2.2.2.2.2.1, p.2.2.2.2.2.2.2.2.2.2.2.2.2.2.2.2.2.1, p.2.2.2.2.2.2.2.2.2.2.2.2.2.2.2.2.2.2.1, p.2.2.2.2.2.2.2.2.2.2.2.2.2.2.2.2.2.2.2, rfl, h⟩

def bd21 {A0 A1 A2 A3 A4 A5 A6 A7 A8 A9 A10 A11 A12 A13 A14 A15 A16 A17 A18 A19 A20 B : Type} (x : Option (A0 × A1 × A2 × A3 × A4 × A5 × A6 × A7 × A8 × A9 × A10 × A11 × A12 × A13 × A14 × A15 × A16 × A17 × A18 × A19 × A20)) (f : A0 → A1 → A2 → A3 → A4 → A5 → A6 → A7 → A8 → A9 → A10 → A11 → A12 → A13 → A14 → A15 → A16 → A17 → A18 → A19 → A20 → Option B) : Option B := x.bind (fun p => f (p.1) (p.2.1) (p.2.2.1) (p.2.2.2.1) (p.2.2.2.2.1) (p.2.2.2.2.2.1) (p.2.2.2.2.2.2.1) (p.2.2.2.2.2.2.2.1) (p.2.2.2.2.2.2.2.2.1) (p.2.2.2.2.2.2.2.2.2.1) (p.2.2.2.2.2.2.2.2.2.2.1) (p.2.2.2.2.2.2.2.2.2.2.2.1) (p.2.2.2.2.2.2.2.2.2.2.2.2.1) (p.2.2.2.2.2.2.2.2.2.2.2.2.2.1) (p.2.2.2.2.2.2.2.2.2.2.2.2.2.2.1) (p.2.2.2.2.2.2.2.2.2.2.2.2.2.2.2.1) (p.2.2.2.2.2.2.2.2.2.2.2.2.2.2.2.2.1) (p.2.2.2.2.2.2.2.2.2.2.2.2.2.2.2.2.2.1) (p.2.2.2.2.2.2.2.2.2.2.2.2.2.2.2.2.2.2.1) (p.2.2.2.2.2.2.2.2.2.2.2.2.2.2.2.2.2.2.2.1) (p.2.2.2.2.2.2.2.2.2.2.2.2.2.2.2.2.2.2.2.2))
theorem bd21_some {A0 A1 A2 A3 A4 A5 A6 A7 A8 A9 A10 A11 A12 A13 A14 A15 A16 A17 A18 A19 A20 B : Type} {x : Option (A0 × A1 × A2 × A3 × A4 × A5 × A6 × A7 × A8 × A9 × A10 × A11 × A12 × A13 × A14 × A15 × A16 × A17 × A18 × A19 × A20)} {f : A0 → A1 → A2 → A3 → A4 → A5 → A6 → A7 → A8 → A9 → A10 → A11 → A12 → A13 → A14 → A15 → A16 → A17 → A18 → A19 → A20 → Option B} {o : B} (h : bd21 x f = some o) : ∃ a0 a1 a2 a3 a4 a5 a6 a7 a8 a9 a10 a11 a12 a13 a14 a15 a16 a17 a18 a19 a20, x = some (a0, a1, a2, a3, a4, a5, a6, a7, a8, a9, a10, a11, a12, a13, a14, a15, a16, a17, a18, a19, a20) ∧ f a0 a1 a2 a3 a4 a5 a6 a7 a8 a9 a10 a11 a12 a13 a14 a15 a16 a17 a18 a19 a20 = some o := by
  cases x with
  | none => cases h
  | some p => exact ⟨p.1, p.2.1, p.2.2.1, p.2.2.2.1, p.2.2.2.2.1, p.2.2.2.2.2.1, p.2.2.2.2.2.2.1, p.2.2.2.2.2.2.2.1, p.2.2.2.2.2.2.2.2.1, p.2.2.2.2.2.2.2.2.2.1, p.2.2.2.2.2.2.2.2.2.2.1, p.2.2.2.2.2.2.2.2.2.2.2.1, p.2.2.2.2.2.2.2.2.2.2.2.2.1, p.2.2.2.2.2.2.2.2.2.2.2.2.2.1, p.2.2.2.2.2.2.2.2.2.2.2.2.2.2.1, p.2.2.2.2.2.2.2.2.2.2.2.2.2.2.2.1, p.2.2.2.2.2.2.2.2.2.2.2.2.2.2.2.2.1, p.2.2.2.2.2.2.2.2.2.2.2.2.2.2.2.2.2.1, p.2.2.2.2.2.2.2.2.2.2.2.2.2.2.2.2.2.2.1, p.2.2.2.2.2.2.2.2.2.2.2.2.2.2.2.2.2.2.2.1, p.2.2.2.2.2.2.2.2.2.2.2.2.2.2.2.2.2.2.2.2, rfl, h⟩
theorem bq_t {α : Type} {c : Prop} {d : Decidable c} {a b z : α} (h : (if c then a else b) = z) (hc : c) : a = z := by rw [if_pos hc] at h; exact h
theorem bq_f {α : Type} {c : Prop} {d : Decidable c} {a b z : α} (h : (if c then a else b) = z) (hc : ¬ c) : b = z := by rw [if_neg hc] at h; exact h
abbrev TYS (cB cI cJ cQ : ClassId) : List (ClassId × FieldType) := [(cI, .int), (cB, .byte), (cJ, .long), (cQ, .array .int)]
/-- a world: single cells, and blocks of rows behind them -/
def wf (pre : va_W) (tl : List va_W) : va_W := pre ++ tl.flatten
/-- the 36 rows of 64 of a frame, at r 7 .. r 42 -/
def rowsW (cI : ClassId) (r : Nat → Nat) (M : Nat → Nat → Int32) : va_W := (List.range 36).map (fun i => (r (7 + i), .inl (cI, 64, .inl (M i))))
abbrev aI (a : Nat) (c : ClassId) (n : Nat) (f : Nat → Int32) : Nat × va_E := (a, .inl (c, n, .inl f))
abbrev aJ (a : Nat) (c : ClassId) (n : Nat) (f : Nat → Int64) : Nat × va_E := (a, .inl (c, n, .inr (.inl f)))
abbrev aQ (a : Nat) (c : ClassId) (r : Nat → Nat) : Nat × va_E := (a, .inl (c, 36, .inr (.inr (.inr (.inr (fun i => if i < 36 then some (r (7 + i)) else none))))))
abbrev oB (a : Nat) (k : Nat) (fs : List Value) : Nat × va_E := (a, .inr (k, fs))
/-- a static array of ints that nobody writes -/
def stA (N : Nat) (C n : String) (L : Nat) (f : Nat → Int32) (U : State) : Prop := ∃ a : Nat, va_Z C n "[I" (.ref a) (fun q => N ≤ q) U U.heap ∧ a < N ∧ a < U.heap.size ∧ va_X a L f U U.heap
theorem stA.go {N : Nat} {C n : String} {L : Nat} {f : Nat → Int32} {u U : State} (hvm : u.vm.Alike U.vm) (hq : ∀ q : Nat, q < u.heap.size → q < N → U.heap[q]? = u.heap[q]?) (h : stA N C n L f u) : stA N C n L f U := by
  obtain ⟨a, h1, h2, h3, h4⟩ := h
  have e := hq a h3 h2
  have hz : a < U.heap.size := by
    have h9 : u.heap[a]? = some u.heap[a] := Array.getElem?_eq_getElem h3
    rw [← e] at h9
    exact (Array.getElem?_eq_some_iff.mp h9).1
  exact ⟨a, (h1.moved hvm).kept (fun q g1 g2 => hq q g1 (Nat.not_le.mp g2)), h2, hz, (h4.moved hvm).kept e⟩
def tbl (l : List Int32) : Nat → Int32 := fun k => l.getD k 0
def sENDING : Nat → Int32 := tbl [0, 1, 2, 6, 14]
def sENDING_BITS : Nat → Int32 := tbl [0, 0, 2, 3, 8]
def sPASSED : Nat → Int32 := tbl [0, 0, 0, 0, 0, 1, 9, 0, 0, 0, 0, 0, 0, 0, 0, 0, 0, 0, 0, 0, 0, 1, 2, 3, 4, 5, 6, 10, 1, 2, 0, 0]
def sPASSED_BITS : Nat → Int32 := tbl [0, 0, 0, 0, 0, 3, 6, 0, 0, 0, 0, 0, 0, 0, 0, 0, 0, 0, 0, 0, 0, 0, 0, 0, 0, 0, 2, 3, 0, 1, 0, 0]
def sNUMBER : Nat → Int32 := tbl [0, 0, 0, 0, 0, 0, 0, 1, -1, 2, -2, 3, 4, 5, 6, 7, 9, 13, 21, 37, 101, 1, 1, 1, 1, 1, 1, 1, 2, 2, 1, -1]
def sNUMBER_BITS : Nat → Int32 := tbl [0, 0, 0, 0, 0, 0, 0, 0, 0, 0, 0, 0, 0, 0, 0, 1, 2, 3, 4, 6, 9, 0, 0, 0, 0, 0, 0, 0, 1, 1, 0, 0]
def sCOLUMNS_IN_SQUARE : Nat → Int32 := tbl [0, 1, 1, 0, 0, 0, 1, 1, 2, 2, 3, 3, 3, 2, 2, 3]
def sROWS_IN_SQUARE : Nat → Int32 := tbl [0, 0, 1, 1, 2, 3, 3, 2, 2, 3, 3, 2, 1, 1, 0, 0]
def sWAVES : Nat → Int32 := tbl [16384, 16069, 15137, 13623, 11585, 9102, 6270, 3196, 0]
def nestW : List Cond := [.methodLinkNest RX6 11 yX4_init RX6, .methodLinkNest RX6 25 yX1_init RX6, .methodLinkNest RX1 20 yX5_init RX6, .methodLinkNest RX6 35 yX0_init RX6, .methodLinkNest RX6 45 yX3_init RX6, .methodLinkNest RX1 41 yX6_bring RX6, .methodLinkNest RX2 106 yX6_bring RX6, .methodLinkNest RX3 22 yX6_bring RX6]
theorem va_AOA.moved {ty : FieldType} {u U : State} (h : u.vm.Alike U.vm) (q : va_AOA ty u) : va_AOA ty U := by
  have e := Cond.arrayOver_setVmC (args := #[]) h (.array ty)
  unfold va_AOA at q ⊢
  rw [← e] at q
  exact q
theorem va_AOA.same {ty : FieldType} {u U : State} (h : u.vm = U.vm) (q : va_AOA ty u) : va_AOA ty U := q.moved (by rw [h]; exact Vm.Alike.refl U.vm)
/-- what stays for ever: links among nest mates, the static arrays, the class of rows of rows -/
def GB (N : Nat) (U : State) : Prop := (∀ w ∈ nestW, va_Nw w U) ∧
  stA N RX0 "ENDING" 5 sENDING U ∧ stA N RX0 "ENDING_BITS" 5 sENDING_BITS U ∧ stA N RX0 "PASSED" 32 sPASSED U ∧ stA N RX0 "PASSED_BITS" 32 sPASSED_BITS U ∧ stA N RX0 "NUMBER" 32 sNUMBER U ∧ stA N RX0 "NUMBER_BITS" 32 sNUMBER_BITS U ∧
  stA N RX1 "COLUMNS_IN_SQUARE" 16 sCOLUMNS_IN_SQUARE U ∧ stA N RX1 "ROWS_IN_SQUARE" 16 sROWS_IN_SQUARE U ∧ stA N RX2 "WAVES" 9 sWAVES U ∧ va_AOA .int U
theorem GB.go {N : Nat} {u U : State} (hW : u.WarmedH U.vm) (hq : ∀ q : Nat, q < u.heap.size → q < N → U.heap[q]? = u.heap[q]?) (h : GB N u) : GB N U := by
  obtain ⟨h0, h1, h2, h3, h4, h5, h6, h7, h8, h9, h10⟩ := h
  have hv := hW.alike
  refine ⟨fun w hw => ?_, h1.go hv hq, h2.go hv hq, h3.go hv hq, h4.go hv hq, h5.go hv hq, h6.go hv hq, h7.go hv hq, h8.go hv hq, h9.go hv hq, h10.moved hv⟩
  have h := h0 w hw
  simp only [nestW, List.mem_cons, List.not_mem_nil, or_false] at hw
  rcases hw with rfl | rfl | rfl | rfl | rfl | rfl | rfl | rfl <;> exact va_Nw.warmM hW h
theorem GB.call {N : Nat} {U : State} {g : JFrame} {mk : MethodId} {a : Array Value} (h : GB N U) : GB N (U.calling g mk a) := by
  obtain ⟨h0, h1, h2, h3, h4, h5, h6, h7, h8, h9, h10⟩ := h
  have hv : U.vm.Alike (U.calling g mk a).vm := Vm.Alike.refl U.vm
  have hq : ∀ q : Nat, q < U.heap.size → q < N → (U.calling g mk a).heap[q]? = U.heap[q]? := fun q _ _ => rfl
  refine ⟨fun w hw => ?_, h1.go hv hq, h2.go hv hq, h3.go hv hq, h4.go hv hq, h5.go hv hq, h6.go hv hq, h7.go hv hq, h8.go hv hq, h9.go hv hq, h10.moved hv⟩
  have h := h0 w hw
  simp only [nestW, List.mem_cons, List.not_mem_nil, or_false] at hw
  rcases hw with rfl | rfl | rfl | rfl | rfl | rfl | rfl | rfl <;> exact va_Nw.same rfl rfl h
/-- the environment of a walk -/
def ctE (D : va_G) (cB cI cJ cQ : ClassId) (N : Nat) (A : Nat → Prop) (s : State) : Prop := va_K D vwCl (TYS cB cI cJ cQ) s ∧ GB N s ∧ (∀ q, s.heap.size ≤ q → A q) ∧ (∀ q, A q → N ≤ q) ∧ N ≤ s.heap.size
def ctB (D : va_G) (cB cI cJ cQ : ClassId) (N sz : Nat) (ws : va_W) (U : State) : Prop := U.heap.size = sz ∧ N ≤ sz ∧ va_P D vwCl ws U.heap ∧ va_K D vwCl (TYS cB cI cJ cQ) U ∧ va_D (fun q => N ≤ q) ws ∧ GB N U
def ctP (D : va_G) (cB cI cJ cQ : ClassId) (N sz : Nat) (av : List Value) (ws : va_W) : Array Value → State → Prop := va_Pc av (ctB D cB cI cJ cQ N sz ws)
def ctW (D : va_G) (A : Nat → Prop) (ws : va_W) : Unit → State → Prop := fun _ t => va_P D vwCl ws t.heap ∧ va_D A ws
def ctQi (D : va_G) (r : Int32) (ws : va_W) (A : Nat → Prop) : Array Value → State → Outcome → State → Prop := va_Qi (fun r' (_ : Unit) => r' = r) (ctW D A ws) A
def ctQl (D : va_G) (r : Int64) (ws : va_W) (A : Nat → Prop) : Array Value → State → Outcome → State → Prop := va_Ql (fun r' (_ : Unit) => r' = r) (ctW D A ws) A
def ctQv (D : va_G) (ws : va_W) (A : Nat → Prop) : Array Value → State → Outcome → State → Prop := va_Qv (fun (_ : Unit) => True) (ctW D A ws) A
def ctQr (D : va_G) (ra : Nat) (ws : va_W) (A : Nat → Prop) : Array Value → State → Outcome → State → Prop := va_Qr (fun (_ : Unit) => True) (fun _ a t => a = ra ∧ ctW D A ws () t) A
theorem va_A_D {ws : va_W} {sz N : Nat} (hD : va_D (fun q => N ≤ q) ws) (hN : N ≤ sz) : ∀ q, va_A ws sz q → N ≤ q := by
  intro q h
  rcases h with ⟨k, e, h⟩ | h
  · exact hD.2 k (q, e) h
  · exact Nat.le_trans hN h
/-- a contract out of a walk -/
theorem ct_of {l : Launch} {D : va_G} {cB cI cJ cQ : ClassId} {N : Nat} {y : MethodName} {ws ws' : List Cond} {rm : Room} {cc : ByteArray} {maxL : Nat} {ret : Option FieldType} {own : String} {av : List Value} {w0 : va_W} {sz : Nat} {Qp : (Nat → Prop) → Array Value → State → Outcome → State → Prop} {mc ms : Nat}
    (hy : plainName y.cls = true) (hyo : y.cls = own) (hw : ws = Cond.code y cc maxL ret :: ws') (hlen : (lg_sl av).length ≤ maxL)
    (body : ∀ (p : Program) (e : Env) (s : State) (m : MethodId) (args : Array Value) (below : List Frame) (meth : Method) (c : Code) (A : Nat → Prop), p.tables.exec = Jvm.exec → c.code = cc → meth.sig.returnType = ret → c.maxLocals = maxL → s.vm.findClass own = some m.cls → (∀ w ∈ ws, w.before args s = true) → meth.locks = false → meth.name = y.name → s.heap.size = sz → A = va_A w0 sz →
      ctE D cB cI cJ cQ N A s → va_P D vwCl w0 s.heap → va_D A w0 → va_S A s.heap s.heap [] → ∀ ls : Array Slot, lv_has ls maxL (lv_args 0 av) → W p l e rm s m args below meth c s.heap [] 0 0 (MQ below (Qp A) args s mc ms A) (F0 m 0 ls [])) :
    Met l y ws rm (ctP D cB cI cJ cQ N sz av w0) (Qp (va_A w0 sz)) mc ms (va_A w0 sz) := by
  refine Met.ofW (cc := cc) (maxL := maxL) (ret := ret) hy hw ?_
  intro p e s m args below meth c s₁ B hml hv
  obtain ⟨rfl, hsz, hN, hP, hK, hD0, hG⟩ := hv
  have hx := B.exec
  have hb := B.bytes
  have hr := B.returns
  have hts := atoms_spec (ws := ws) B.pre
  have hown : s.vm.findClass y.cls = some m.cls := findClass_of_methodNamed B.named
  rw [hyo] at hown
  have hlocks := B.notSynchronized
  have hnm : meth.name = y.name := (name_of_methodNamed B.named B.method).1
  subst hsz
  have hD := hD0.self (sz := s.heap.size)
  have hl := lv_entry av (n := maxL) hlen
  rw [lg_entry_eq]
  exact body p e s m _ below meth c _ hx hb hr hml hown hts hlocks hnm rfl rfl ⟨hK, hG, fun q h => Or.inr h, va_A_D hD0 hN, hN⟩ hP hD va_S.rf _ hl
theorem va_P_iff {D : va_G} {cl : List vw_C} {ws : va_W} {H : Heap} : va_P D cl ws H ↔ ∀ q ∈ ws, va_at D cl q H := by
  constructor
  · intro h q hq
    obtain ⟨k, hk⟩ := List.getElem?_of_mem hq
    exact h k q hk
  · intro h k q hk
    exact h q (List.mem_of_getElem? hk)
theorem va_D_iff {A : Nat → Prop} {ws : va_W} : va_D A ws ↔ (ws.map Prod.fst).Nodup ∧ ∀ q ∈ ws, A q.1 := by
  constructor
  · intro h
    refine ⟨?_, fun q hq => ?_⟩
    · rw [List.nodup_iff_pairwise_ne, List.pairwise_iff_getElem]
      intro i j hi hj hij e
      rw [List.length_map] at hi hj
      rw [List.getElem_map, List.getElem_map] at e
      have := h.1 i j _ _ (List.getElem?_eq_getElem hi) (List.getElem?_eq_getElem hj) e
      omega
    · obtain ⟨k, hk⟩ := List.getElem?_of_mem hq
      exact h.2 k q hk
  · rintro ⟨h1, h2⟩
    refine ⟨fun i j p q hi hj e => ?_, fun k q hk => h2 q (List.mem_of_getElem? hk)⟩
    rw [List.nodup_iff_pairwise_ne, List.pairwise_iff_getElem] at h1
    obtain ⟨hil, hie⟩ := List.getElem?_eq_some_iff.mp hi
    obtain ⟨hjl, hje⟩ := List.getElem?_eq_some_iff.mp hj
    have hil2 : i < (ws.map Prod.fst).length := by rw [List.length_map]; exact hil
    have hjl2 : j < (ws.map Prod.fst).length := by rw [List.length_map]; exact hjl
    have e9 : (ws.map Prod.fst)[i] = (ws.map Prod.fst)[j] := by rw [List.getElem_map, List.getElem_map, hie, hje]; exact e
    rcases Nat.lt_trichotomy i j with h | h | h
    · exact absurd e9 (h1 i j hil2 hjl2 h)
    · exact h
    · exact absurd e9.symm (h1 j i hjl2 hil2 h)
theorem cut_at : ∀ (ws : va_W) (k : Nat) (q : Nat × va_E), ws[k]? = some q → ws.Perm ([q] ++ ws.eraseIdx k)
  | [], _, _, h => by simp at h
  | a :: t, 0, q, h => by
    have e : a = q := Option.some.inj h
    subst e
    exact List.Perm.refl _
  | a :: t, k + 1, q, h => ((cut_at t k q h).cons a).trans (List.Perm.swap q a _)
theorem va_P_perm {D : va_G} {cl : List vw_C} {ws ws' : va_W} {H : Heap} (hp : ws.Perm ws') (h : va_P D cl ws H) : va_P D cl ws' H := va_P_iff.mpr (fun q hq => va_P_iff.mp h q (hp.mem_iff.mpr hq))
theorem va_D_perm {A : Nat → Prop} {ws ws' : va_W} (hp : ws.Perm ws') (h : va_D A ws) : va_D A ws' := va_D_iff.mpr ⟨((hp.map Prod.fst).nodup_iff).mp (va_D_iff.mp h).1, fun q hq => (va_D_iff.mp h).2 q (hp.mem_iff.mpr hq)⟩
theorem range_pick {α : Type} : ∀ l : List α, (List.range l.length).filterMap (fun i => l[i]?) = l
  | [] => rfl
  | a :: t => by
    rw [List.length_cons, List.range_succ_eq_map, List.filterMap_cons]
    simp only [List.getElem?_cons_zero, List.filterMap_map, Function.comp_def, List.getElem?_cons_succ]
    rw [range_pick t]
/-- the places are 0 .. n - 1, each once: a cheap test -/
def prmB (ix : List Nat) (n : Nat) : Bool := Nat.ble ix.length n && (List.range n).all (fun i => ix.any (fun j => Nat.beq i j))
theorem prm_aux : ∀ (r l : List Nat), r.Nodup → (∀ x ∈ r, x ∈ l) → l.length ≤ r.length → l.Perm r
  | [], l, _, _, hl => by
    have : l = [] := List.eq_nil_of_length_eq_zero (Nat.le_zero.mp hl)
    subst this
    exact List.Perm.refl _
  | a :: r, l, hn, hm, hl => by
    have ha : a ∈ l := hm a List.mem_cons_self
    have h1 : l.Perm (a :: l.erase a) := List.perm_cons_erase ha
    have h2 := h1.length_eq
    rw [List.nodup_cons] at hn
    refine h1.trans (List.Perm.cons a (prm_aux r (l.erase a) hn.2 (fun x hx => ?_) ?_))
    · have hne : x ≠ a := fun e => hn.1 (e ▸ hx)
      exact (List.mem_erase_of_ne hne).mpr (hm x (List.mem_cons_of_mem _ hx))
    · rw [List.length_cons] at h2 hl
      omega
theorem prm_of {ix : List Nat} {n : Nat} (h : prmB ix n = true) : ix.Perm (List.range n) := by
  unfold prmB at h
  rw [Bool.and_eq_true] at h
  refine prm_aux _ _ List.nodup_range (fun x hx => ?_) ?_
  · have h2 := List.all_eq_true.mp h.2 x hx
    obtain ⟨j, hj, e⟩ := List.any_eq_true.mp h2
    rw [Nat.eq_of_beq_eq_true e]
    exact hj
  · rw [List.length_range]
    exact Nat.le_of_ble_eq_true h.1
theorem pick_perm {α : Type} {l : List α} (ix : List Nat) {n : Nat} (hn : l.length = n) (h : prmB ix n = true) : l.Perm (ix.filterMap (fun i => l[i]?)) := by
  subst hn
  have h1 : ix.Perm (List.range l.length) := prm_of h
  have h3 := (h1.filterMap (fun i => l[i]?)).symm
  rw [range_pick] at h3
  exact h3
abbrev pk {α : Type} (l : List α) (ix : List Nat) : List α := ix.filterMap (fun i => l[i]?)
theorem wf_perm {pre pre' : va_W} {tl tl' : List va_W} (h1 : pre.Perm pre') (h2 : tl.Perm tl') : (wf pre tl).Perm (wf pre' tl') := h1.append h2.flatten
theorem wf_two (a b : va_W) (c d : List va_W) : (wf (a ++ b) (c ++ d)).Perm (wf a c ++ wf b d) := by
  unfold wf
  rw [List.flatten_append, List.append_assoc, List.append_assoc]
  refine List.Perm.append_left a ?_
  rw [← List.append_assoc, ← List.append_assoc]
  exact List.Perm.append_right d.flatten List.perm_append_comm
/-- how a world is cut: the callee's places, the rest's; the same of the blocks -/
def ctS (pre : va_W) (tl : List va_W) (isC isR itC itR : List Nat) : Prop := pre.Perm (pk pre (isC ++ isR)) ∧ tl.Perm (pk tl (itC ++ itR))
theorem ctS.mk {pre : va_W} {tl : List va_W} {n k : Nat} (isC isR itC itR : List Nat) (h1 : pre.length = n) (h2 : tl.length = k) (h3 : prmB (isC ++ isR) n = true) (h4 : prmB (itC ++ itR) k = true) : ctS pre tl isC isR itC itR := ⟨pick_perm _ h1 h3, pick_perm _ h2 h4⟩
theorem ctS.perm {pre : va_W} {tl : List va_W} {isC isR itC itR : List Nat} (h : ctS pre tl isC isR itC itR) : (wf pre tl).Perm (wf (pk pre isC) (pk tl itC) ++ wf (pk pre isR) (pk tl itR)) := by
  refine (wf_perm h.1 h.2).trans ?_
  unfold pk
  rw [List.filterMap_append, List.filterMap_append]
  exact wf_two _ _ _ _
theorem va_P_app {D : va_G} {cl : List vw_C} {a b : va_W} {H : Heap} (h : va_P D cl (a ++ b) H) : va_P D cl a H ∧ va_P D cl b H := ⟨va_P_iff.mpr (fun q hq => va_P_iff.mp h q (List.mem_append_left _ hq)), va_P_iff.mpr (fun q hq => va_P_iff.mp h q (List.mem_append_right _ hq))⟩
theorem va_D_app {A : Nat → Prop} {a b : va_W} (h : va_D A (a ++ b)) : va_D A a ∧ va_D A b ∧ ∀ p ∈ a, ∀ q ∈ b, p.1 ≠ q.1 := by
  obtain ⟨h1, h2⟩ := va_D_iff.mp h
  rw [List.map_append, List.nodup_append] at h1
  exact ⟨va_D_iff.mpr ⟨h1.1, fun q hq => h2 q (List.mem_append_left _ hq)⟩, va_D_iff.mpr ⟨h1.2.1, fun q hq => h2 q (List.mem_append_right _ hq)⟩, fun p hp q hq => h1.2.2 _ (List.mem_map_of_mem hp) _ (List.mem_map_of_mem hq)⟩
theorem va_A_iff {ws : va_W} {sz q : Nat} : va_A ws sz q ↔ (∃ p ∈ ws, p.1 = q) ∨ sz ≤ q := by
  unfold va_A
  constructor
  · rintro (⟨k, e, h⟩ | h)
    · exact Or.inl ⟨_, List.mem_of_getElem? h, rfl⟩
    · exact Or.inr h
  · rintro (⟨p, h, rfl⟩ | h)
    · obtain ⟨k, hk⟩ := List.getElem?_of_mem h
      exact Or.inl ⟨k, p.2, hk⟩
    · exact Or.inr h
theorem ct_freeA {A : Nat → Prop} {H0 H : Heap} {locs : List Loc} {wc wr : va_W} (hD : va_D A (wc ++ wr)) (hS : va_S A H0 H locs) (hA : ∀ q, H0.size ≤ q → A q) : ∀ q, va_A wc H.size q → A q := by
  intro q h
  rcases va_A_iff.mp h with ⟨p, hp, rfl⟩ | h
  · exact (va_D_iff.mp hD).2 p (List.mem_append_left _ hp)
  · exact hA q (Nat.le_trans hS.1 h)
theorem ct_back {A : Nat → Prop} {D : va_G} {cl : List vw_C} {wc wr w1 : va_W} {H H1 : Heap} (hP : va_P D cl (wc ++ wr) H) (hD : va_D A (wc ++ wr)) (hk : ∀ q : Nat, q < H.size → ¬ va_A wc H.size q → H1[q]? = H[q]?) (hF : ∀ q, va_A wc H.size q → A q) (hP1 : va_P D cl w1 H1) (hD1 : va_D (va_A wc H.size) w1) : va_P D cl (wr ++ w1) H1 ∧ va_D A (wr ++ w1) := by
  obtain ⟨hPc, hPr⟩ := va_P_app hP
  obtain ⟨hDc, hDr, hne⟩ := va_D_app hD
  have ap : ∀ p ∈ wr, p.1 < H.size ∧ ¬ va_A wc H.size p.1 := by
    intro p hp
    have hl := (va_P_iff.mp hPr p hp).lt
    refine ⟨hl, fun h => ?_⟩
    rcases va_A_iff.mp h with ⟨q, hq, e⟩ | h
    · exact hne q hq p hp e
    · omega
  refine ⟨va_P_iff.mpr fun q hq => ?_, va_D.app hDr (hD1.weaken (fun k q _ h => hF q.1 h)) (fun i j x y hx hy hxy => ?_)⟩
  · rcases List.mem_append.mp hq with h | h
    · exact (va_P_iff.mp hPr q h).kept (hk q.1 (ap q h).1 (ap q h).2)
    · exact va_P_iff.mp hP1 q h
  · exact (ap x (List.mem_of_getElem? hx)).2 (by rw [hxy]; exact hD1.2 j y hy)
/-- the same world in another order -/
theorem ct_ord {A : Nat → Prop} {D : va_G} {cl : List vw_C} {pre : va_W} {tl : List va_W} {H : Heap} {n k : Nat} (ix it : List Nat) (hP : va_P D cl (wf pre tl) H) (hD : va_D A (wf pre tl)) (h1 : pre.length = n) (h2 : tl.length = k) (h3 : prmB ix n = true) (h4 : prmB it k = true) : va_P D cl (wf (pk pre ix) (pk tl it)) H ∧ va_D A (wf (pk pre ix) (pk tl it)) :=
  ⟨va_P_perm (wf_perm (pick_perm _ h1 h3) (pick_perm _ h2 h4)) hP, va_D_perm (wf_perm (pick_perm _ h1 h3) (pick_perm _ h2 h4)) hD⟩
theorem ct_bk {A : Nat → Prop} {D : va_G} {cl : List vw_C} {pre p1 : va_W} {tl t1 : List va_W} {isC isR itC itR : List Nat} {H0 H H1 : Heap} {locs : List Loc} (sb : ctS pre tl isC isR itC itR) (hP : va_P D cl (wf pre tl) H) (hD : va_D A (wf pre tl)) (hS : va_S A H0 H locs) (hA : ∀ q, H0.size ≤ q → A q) (hk : ∀ q : Nat, q < H.size → ¬ va_A (wf (pk pre isC) (pk tl itC)) H.size q → H1[q]? = H[q]?) (hP1 : va_P D cl (wf p1 t1) H1) (hD1 : va_D (va_A (wf (pk pre isC) (pk tl itC)) H.size) (wf p1 t1)) : va_P D cl (wf (pk pre isR ++ p1) (pk tl itR ++ t1)) H1 ∧ va_D A (wf (pk pre isR ++ p1) (pk tl itR ++ t1)) := by
  have hp := sb.perm
  obtain ⟨a, b⟩ := ct_back (va_P_perm hp hP) (va_D_perm hp hD) hk (ct_freeA (va_D_perm hp hD) hS hA) hP1 hD1
  exact ⟨va_P_perm (wf_two _ _ _ _).symm a, va_D_perm (wf_two _ _ _ _).symm b⟩
section CTW
variable {p : Program} {l : Launch} {e : Env} {R : Room} {s : State} {m : MethodId} {args : Array Value} {below : List Frame} {meth : Method} {c : Code} {H : Heap} {locs : List Loc} {Q : State → Prop}
variable {cc : ByteArray} {pc : Nat} {ls : Array Slot} {rest st0 : List Value} {D : va_G} {cB cI cJ cQ : ClassId} {N : Nat} {A : Nat → Prop}
theorem ct_topi {cells slots : Nat} {x y : Int32} (h : y = x) (k : W p l e R s m args below meth c H locs cells slots Q (F0 m pc ls (.int y :: rest))) : W p l e R s m args below meth c H locs cells slots Q (F0 m pc ls (.int x :: rest)) := by subst h; exact k
theorem ct_topl {cells slots : Nat} {x y : Int64} (h : y = x) (k : W p l e R s m args below meth c H locs cells slots Q (F0 m pc ls (.long y :: rest))) : W p l e R s m args below meth c H locs cells slots Q (F0 m pc ls (.long x :: rest)) := by subst h; exact k
theorem ct_iret {ws' : va_W} {v r : Int32} (hx : p.tables.exec = Jvm.exec) (hb : c.code = cc) (hr : meth.sig.returnType = some .int) (hlk : meth.locks = false) (hP : va_P D vwCl ws' H) (hD : va_D A ws') (hS : va_S A s.heap H locs) (hv : v = r) (hdg : decode cc pc = .ok (.ireturn, 1)) : W p l e R s m args below meth c H locs 0 0 (MQ below (ctQi D r ws' A) args s 0 0 A) (F0 m pc ls [.int v]) :=
  W.iret hx hb hr (fun t ht hW => ⟨⟨v, (), rfl, hv, by rw [ht]; exact hP, hD⟩, hS.F ht⟩) hS.2.2 hdg hlk
theorem ct_zret {ws' : va_W} {v r : Int32} (hx : p.tables.exec = Jvm.exec) (hb : c.code = cc) (hr : meth.sig.returnType = some .boolean) (hlk : meth.locks = false) (hz : v = 0 ∨ v = 1) (hP : va_P D vwCl ws' H) (hD : va_D A ws') (hS : va_S A s.heap H locs) (hv : v = r) (hdg : decode cc pc = .ok (.ireturn, 1)) : W p l e R s m args below meth c H locs 0 0 (MQ below (ctQi D r ws' A) args s 0 0 A) (F0 m pc ls [.int v]) :=
  W.zret hx hb hr (gz_nar hz) (fun t ht hW => ⟨⟨v, (), rfl, hv, by rw [ht]; exact hP, hD⟩, hS.F ht⟩) hS.2.2 hdg hlk
theorem ct_vret {ws' : va_W} (hx : p.tables.exec = Jvm.exec) (hb : c.code = cc) (hr : meth.sig.returnType = none) (hlk : meth.locks = false) (hP : va_P D vwCl ws' H) (hD : va_D A ws') (hS : va_S A s.heap H locs) (hdg : decode cc pc = .ok (.return_, 1)) : W p l e R s m args below meth c H locs 0 0 (MQ below (ctQv D ws' A) args s 0 0 A) (F0 m pc ls []) :=
  W.vret hx hb hr (fun t ht hW => ⟨⟨(), rfl, trivial, by rw [ht]; exact hP, hD⟩, hS.F ht⟩) hS.2.2 hdg hlk
theorem ct_aret {ws' : va_W} {a ra : Nat} {C : String} (hx : p.tables.exec = Jvm.exec) (hb : c.code = cc) (hr : meth.sig.returnType = some (.object C)) (hlk : meth.locks = false) (hP : va_P D vwCl ws' H) (hD : va_D A ws') (hS : va_S A s.heap H locs) (hv : a = ra) (hdg : decode cc pc = .ok (.areturn, 1)) : W p l e R s m args below meth c H locs 0 0 (MQ below (ctQr D ra ws' A) args s 0 0 A) (F0 m pc ls [.ref a]) :=
  W.aret hx hb hr (Or.inl ⟨C, rfl⟩) (Or.inr ⟨a, rfl⟩) (fun t ht hW => ⟨⟨(), a, rfl, trivial, hv, by rw [ht]; exact hP, hD⟩, hS.F ht⟩) hS.2.2 hdg hlk
theorem ct_blind {sz : Nat} {av : List Value} {ws : va_W} : FrameBlind (ctP D cB cI cJ cQ N sz av ws) := by
  intro a U g mk q
  obtain ⟨q0, q1, q2, qP, qK, qD, qG⟩ := q
  exact ⟨q0, q1, q2, qP, va_K.moved (u := U) (U := U.calling g mk a) (Vm.Alike.refl U.vm) qK, qD, qG.call⟩
theorem ct_pc {ws : va_W} {As : List Value} (E : ctE D cB cI cJ cQ N A s) (hS : va_S A s.heap H locs) (hP : va_P D vwCl ws H) (hD : va_D A ws) : ∀ U : State, U.heap = H → s.WarmedH U.vm → ctP D cB cI cJ cQ N H.size As ws As.toArray U := by
  intro U hU hW
  obtain ⟨hK, hG, hA, hN, hNs⟩ := E
  refine ⟨rfl, by rw [hU], Nat.le_trans hNs hS.1, by rw [hU]; exact hP, va_K.moved hW.alike hK, hD.weaken (fun _ q _ h => hN q.1 h), hG.go hW (fun q h1 h2 => ?_)⟩
  rw [hU]
  exact hS.2.1 q h1 (fun h => absurd (hN q h) (Nat.not_le.mpr h2))
theorem ct_preS {pre : va_W} {tl : List va_W} {isC isR itC itR : List Nat} {As : List Value} (E : ctE D cB cI cJ cQ N A s) (sb : ctS pre tl isC isR itC itR) (hP : va_P D vwCl (wf pre tl) H) (hD : va_D A (wf pre tl)) (hS : va_S A s.heap H locs) : PreS s H (ctP D cB cI cJ cQ N H.size As (wf (pk pre isC) (pk tl itC))) As :=
  ⟨ct_blind, ct_pc E hS (va_P_app (va_P_perm sb.perm hP)).1 (va_D_app (va_D_perm sb.perm hD)).1⟩
theorem ct_preV {pre : va_W} {tl : List va_W} {isC isR itC itR : List Nat} {As : List Value} {b q0 ci NF : Nat} {C : String} {T : u_T} {fs : List Value} (E : ctE D cB cI cJ cQ N A s) (sb : ctS pre tl isC isR itC itR) (hP : va_P D vwCl (wf pre tl) H) (hD : va_D A (wf pre tl)) (hS : va_S A s.heap H locs) (hc : vwCl[ci]? = some (C, T, NF)) (he : pre[q0]? = some (b, .inr (ci, fs))) : PreV s H C b (ctP D cB cI cJ cQ N H.size (.ref b :: As) (wf (pk pre isC) (pk tl itC))) As := by
  refine ⟨ct_blind, ?_, ct_pc E hS (va_P_app (va_P_perm sb.perm hP)).1 (va_D_app (va_D_perm sb.perm hD)).1⟩
  have he2 : (wf pre tl)[q0]? = some (b, .inr (ci, fs)) := by
    unfold wf
    rw [List.getElem?_append_left (List.getElem?_eq_some_iff.mp he).1]
    exact he
  exact va_recv E.1 hP hc he2
theorem ct_calli {cells slots : Nat} {pre p1 : va_W} {tl t1 : List va_W} {isC isR itC itR : List Nat} {a : Array Value} {r : Int32} (E : ctE D cB cI cJ cQ N A s) (sb : ctS pre tl isC isR itC itR) (hP : va_P D vwCl (wf pre tl) H) (hD : va_D A (wf pre tl)) (hS : va_S A s.heap H locs)
    (hr : va_Run p l e R s m args below meth c H locs cells slots 0 0 (F0 m pc ls st0) rest (ctQi D r (wf p1 t1) (va_A (wf (pk pre isC) (pk tl itC)) H.size) a) (va_A (wf (pk pre isC) (pk tl itC)) H.size))
    (kk : ∀ (H1 : Heap) (locs1 : List Loc), va_P D vwCl (wf (pk pre isR ++ p1) (pk tl itR ++ t1)) H1 → va_D A (wf (pk pre isR ++ p1) (pk tl itR ++ t1)) → va_S A s.heap H1 locs1 → W p l e R s m args below meth c H1 locs1 cells slots Q (F0 m (pc + 3) ls (.int r :: rest))) : W p l e R s m args below meth c H locs cells slots Q (F0 m pc ls st0) := by
  have hF := ct_freeA (va_D_perm sb.perm hD) hS E.2.2.1
  refine va_calli hr hS (fun q _ h => hF q h) hF (fun r1 u t H1 locs1 ht hvm hw hB hz1 hk1 hS1 => ?_)
  obtain ⟨hP1, hD1⟩ := hB
  rw [ht] at hP1
  subst hw
  obtain ⟨hP2, hD2⟩ := ct_bk sb hP hD hS E.2.2.1 hk1 hP1 hD1
  exact kk H1 locs1 hP2 hD2 hS1
theorem ct_callv {cells slots : Nat} {pre p1 : va_W} {tl t1 : List va_W} {isC isR itC itR : List Nat} {a : Array Value} (E : ctE D cB cI cJ cQ N A s) (sb : ctS pre tl isC isR itC itR) (hP : va_P D vwCl (wf pre tl) H) (hD : va_D A (wf pre tl)) (hS : va_S A s.heap H locs)
    (hr : va_Run p l e R s m args below meth c H locs cells slots 0 0 (F0 m pc ls st0) rest (ctQv D (wf p1 t1) (va_A (wf (pk pre isC) (pk tl itC)) H.size) a) (va_A (wf (pk pre isC) (pk tl itC)) H.size))
    (kk : ∀ (H1 : Heap) (locs1 : List Loc), va_P D vwCl (wf (pk pre isR ++ p1) (pk tl itR ++ t1)) H1 → va_D A (wf (pk pre isR ++ p1) (pk tl itR ++ t1)) → va_S A s.heap H1 locs1 → W p l e R s m args below meth c H1 locs1 cells slots Q (F0 m (pc + 3) ls rest)) : W p l e R s m args below meth c H locs cells slots Q (F0 m pc ls st0) := by
  have hF := ct_freeA (va_D_perm sb.perm hD) hS E.2.2.1
  refine va_callv hr hS (fun q _ h => hF q h) hF (fun u t H1 locs1 ht hvm hw hB hz1 hk1 hS1 => ?_)
  obtain ⟨hP1, hD1⟩ := hB
  rw [ht] at hP1
  obtain ⟨hP2, hD2⟩ := ct_bk sb hP hD hS E.2.2.1 hk1 hP1 hD1
  exact kk H1 locs1 hP2 hD2 hS1
theorem ct_callr {cells slots : Nat} {pre p1 : va_W} {tl t1 : List va_W} {isC isR itC itR : List Nat} {a : Array Value} {ra : Nat} (E : ctE D cB cI cJ cQ N A s) (sb : ctS pre tl isC isR itC itR) (hP : va_P D vwCl (wf pre tl) H) (hD : va_D A (wf pre tl)) (hS : va_S A s.heap H locs)
    (hr : va_Run p l e R s m args below meth c H locs cells slots 0 0 (F0 m pc ls st0) rest (ctQr D ra (wf p1 t1) (va_A (wf (pk pre isC) (pk tl itC)) H.size) a) (va_A (wf (pk pre isC) (pk tl itC)) H.size))
    (kk : ∀ (H1 : Heap) (locs1 : List Loc), va_P D vwCl (wf (pk pre isR ++ p1) (pk tl itR ++ t1)) H1 → va_D A (wf (pk pre isR ++ p1) (pk tl itR ++ t1)) → va_S A s.heap H1 locs1 → W p l e R s m args below meth c H1 locs1 cells slots Q (F0 m (pc + 3) ls (.ref ra :: rest))) : W p l e R s m args below meth c H locs cells slots Q (F0 m pc ls st0) := by
  have hF := ct_freeA (va_D_perm sb.perm hD) hS E.2.2.1
  refine va_callr hr hS (fun q _ h => hF q h) hF (fun u ra1 t H1 locs1 ht hvm hw hB hz1 hk1 hS1 => ?_)
  obtain ⟨hra, hP1, hD1⟩ := hB
  rw [ht] at hP1
  subst hra
  obtain ⟨hP2, hD2⟩ := ct_bk sb hP hD hS E.2.2.1 hk1 hP1 hD1
  exact kk H1 locs1 hP2 hD2 hS1
theorem ct_iast {cells slots : Nat} {ws ws' : va_W} {tys : List (ClassId × FieldType)} {H0 : Heap} {a : Nat} (hx : p.tables.exec = Jvm.exec) (hb : c.code = cc) (hK : va_K D vwCl tys s) (hP : va_P D vwCl ws H) (hD : va_D A ws) (hS : va_S A H0 H locs) (q0 t0 : Nat) {cA : ClassId} {n : Nat} {f g : Nat → Int32} (ha : ws[q0]? = some (a, .inl (cA, n, .inl f))) (ht : tys[t0]? = some (cA, .int)) {i x : Int32} (hin : vp_in i n) (hg : g = upd f i.toNatClampNeg x) (hw : ws.set q0 (a, .inl (cA, n, .inl g)) = ws') (hdg : decode cc pc = .ok (.iastore, 1))
    (kk : ∀ (H1 : Heap) (locs1 : List Loc), va_P D vwCl ws' H1 → va_D A ws' → va_S A H0 H1 locs1 → W p l e R s m args below meth c H1 locs1 cells slots Q (F0 m (pc + 1) ls rest)) : W p l e R s m args below meth c H locs cells slots Q (F0 m pc ls (.int x :: .int i :: .ref a :: rest)) := by
  subst hg; subst hw
  exact va_iast hx hb hK hP hD hS q0 t0 ha ht hin hdg kk
theorem ct_bast {cells slots : Nat} {ws ws' : va_W} {tys : List (ClassId × FieldType)} {H0 : Heap} {a : Nat} (hx : p.tables.exec = Jvm.exec) (hb : c.code = cc) (hK : va_K D vwCl tys s) (hP : va_P D vwCl ws H) (hD : va_D A ws) (hS : va_S A H0 H locs) (q0 t0 : Nat) {cA : ClassId} {n : Nat} {f g : Nat → Int32} (ha : ws[q0]? = some (a, .inl (cA, n, .inl f))) (ht : tys[t0]? = some (cA, .byte)) {i x : Int32} (hin : vp_in i n) (hg : g = upd f i.toNatClampNeg (vp_nar .byte x)) (hw : ws.set q0 (a, .inl (cA, n, .inl g)) = ws') (hdg : decode cc pc = .ok (.bastore, 1))
    (kk : ∀ (H1 : Heap) (locs1 : List Loc), va_P D vwCl ws' H1 → va_D A ws' → va_S A H0 H1 locs1 → W p l e R s m args below meth c H1 locs1 cells slots Q (F0 m (pc + 1) ls rest)) : W p l e R s m args below meth c H locs cells slots Q (F0 m pc ls (.int x :: .int i :: .ref a :: rest)) := by
  subst hg; subst hw
  exact va_bast hx hb hK hP hD hS q0 t0 ha ht hin hdg kk
end CTW
section CTX
variable {p : Program} {l : Launch} {e : Env} {R : Room} {s : State} {m : MethodId} {args : Array Value} {below : List Frame} {meth : Method} {c : Code} {H : Heap} {locs : List Loc} {Q : State → Prop}
variable {cc : ByteArray} {pc : Nat} {ls : Array Slot} {rest st0 : List Value} {D : va_G} {cB cI cJ cQ : ClassId} {N : Nat} {A : Nat → Prop}
theorem ct_last {cells slots : Nat} {ws ws' : va_W} {tys : List (ClassId × FieldType)} {H0 : Heap} {a : Nat} (hx : p.tables.exec = Jvm.exec) (hb : c.code = cc) (hK : va_K D vwCl tys s) (hP : va_P D vwCl ws H) (hD : va_D A ws) (hS : va_S A H0 H locs) (q0 t0 : Nat) {cA : ClassId} {n : Nat} {f g : Nat → Int64} (ha : ws[q0]? = some (a, .inl (cA, n, .inr (.inl f)))) (ht : tys[t0]? = some (cA, .long)) {i : Int32} {x : Int64} (hin : vp_in i n) (hg : g = vp_updL f i.toNatClampNeg x) (hw : ws.set q0 (a, .inl (cA, n, .inr (.inl g))) = ws') (hdg : decode cc pc = .ok (.lastore, 1))
    (kk : ∀ (H1 : Heap) (locs1 : List Loc), va_P D vwCl ws' H1 → va_D A ws' → va_S A H0 H1 locs1 → W p l e R s m args below meth c H1 locs1 cells slots Q (F0 m (pc + 1) ls rest)) : W p l e R s m args below meth c H locs cells slots Q (F0 m pc ls (.long x :: .int i :: .ref a :: rest)) := by
  subst hg; subst hw
  exact va_last hx hb hK hP hD hS q0 t0 ha ht hin hdg kk
theorem ct_put {cells slots : Nat} {tys : List (ClassId × FieldType)} {ws ws' : va_W} {H0 : Heap} {a : Nat} (hexec : p.tables.exec = Jvm.exec) (hb : c.code = cc) {own ref C : String} {T : u_T} {N ci index : Nat} {Ts : List Cond} (hts : ∀ w ∈ Ts, w.before args s = true) (hin : ∀ w ∈ u_ws C T N, w ∈ Ts) (ty0 : Nat → FieldType) (hty : ∀ k, k < N → parseFieldDescriptor (T k).2.2.1 = some (ty0 k)) (hnm : ∀ a, a < N → ∀ b, b < N → a ≠ b → (T a).2.1 ≠ (T b).2.1) (hown : s.vm.findClass own = some m.cls) (hK : va_K D vwCl tys s) (hP : va_P D vwCl ws H) (hD : va_D A ws) (hS0 : va_S A H0 H locs) (q0 : Nat) {fs : List Value} (he : ws[q0]? = some (a, .inr (ci, fs))) (hc : vwCl[ci]? = some (C, T, N)) (k : Nat) (hk : k < N) (hlink : (Cond.fieldLink own index ref (T k).2.1 (T k).2.2.1).before args s = true) (hsame : ∀ x, s.fieldFound? (T k).1 (T k).2.1 (T k).2.2.1 = some x → s.fieldFound? ref (T k).2.1 (T k).2.2.1 = some x) (hfin : (T k).2.2.2 = false) {ty : FieldType} {v : Value} (hd : parseFieldDescriptor (T k).2.2.1 = some ty) (hn : narrow ty v = v) (hfit : fits ty v = true) (hl : k < fs.length) (hw : ws.set q0 (a, .inr (ci, fs.set k v)) = ws')
    (hdg : decode cc pc = .ok (.putfield index, 3)) (kk : ∀ (H1 : Heap) (locs1 : List Loc), va_P D vwCl ws' H1 → va_D A ws' → va_S A H0 H1 locs1 → W p l e R s m args below meth c H1 locs1 cells slots Q (F0 m (pc + 3) ls rest)) : W p l e R s m args below meth c H locs cells slots Q (F0 m pc ls (v :: .ref a :: rest)) := by
  subst hw
  exact va_put hexec hb hts hin ty0 hty hnm hown hK hP hD hS0 q0 he hc k hk hlink hsame hfin hd hn hfit hl hdg kk
theorem vp_row {i : Int32} {n : Nat} (h : vp_in i n) : i.toNatClampNeg < n := Nat.not_le.mp fun q => h (Or.inr q)
theorem ct_aaldf {cells slots : Nat} {ws : va_W} {a n : Nat} {f : Nat → Option Nat} (hx : p.tables.exec = Jvm.exec) (hb : c.code = cc) (hK : va_K D vwCl (TYS cB cI cJ cQ) s) (hP : va_P D vwCl ws H) (q0 : Nat) (ha : ws[q0]? = some (a, .inl (cQ, n, .inr (.inr (.inr (.inr f)))))) {i : Int32} (hin : vp_in i n) (hdg : decode cc pc = .ok (.aaload, 1))
    (kk : W p l e R s m args below meth c H locs cells slots Q (F0 m (pc + 1) ls (va_rf (f i.toNatClampNeg) :: rest))) : W p l e R s m args below meth c H locs cells slots Q (F0 m pc ls (.int i :: .ref a :: rest)) := by
  have hlt : i.toNatClampNeg < n := vp_row hin
  have hA : ArrOfT s cQ (.array .int) := (hK.2 3 (cQ, .array .int) rfl).1
  exact W.aald (v := va_rf (f i.toNatClampNeg)) (ty := .array .int) hx hb (hP q0 _ ha) (hA n (fun j => va_rf (f j))) rfl (fun q => by cases q) (by show ¬ (i < 0 ∨ (arrV _ _ _).slots.size ≤ _); rw [arrV_size]; exact hin) (by show (arrV _ _ _).slots[_]? = _; rw [arrV_read _ _ hlt]) rfl rfl hdg kk
theorem aald_val {r : Nat → Nat} {j : Nat} (h : j < 36) : va_rf ((fun i => if i < 36 then some (r (7 + i)) else none) j) = .ref (r (7 + j)) := by
  show va_rf (if j < 36 then some (r (7 + j)) else none) = _
  rw [if_pos h]
  rfl
theorem ct_aald {cells slots : Nat} {ws : va_W} {a : Nat} {r : Nat → Nat} (hx : p.tables.exec = Jvm.exec) (hb : c.code = cc) (hK : va_K D vwCl (TYS cB cI cJ cQ) s) (hP : va_P D vwCl ws H) (q0 : Nat) (ha : ws[q0]? = some (aQ a cQ r)) {i : Int32} (hin : vp_in i 36) (hdg : decode cc pc = .ok (.aaload, 1))
    (kk : W p l e R s m args below meth c H locs cells slots Q (F0 m (pc + 1) ls (.ref (r (7 + i.toNatClampNeg)) :: rest))) : W p l e R s m args below meth c H locs cells slots Q (F0 m pc ls (.int i :: .ref a :: rest)) := by
  refine ct_aaldf hx hb hK hP q0 ha hin hdg ?_
  rw [aald_val (vp_row hin)]
  exact kk
def updR (M : Nat → Nat → Int32) (b : Nat) (g : Nat → Int32) : Nat → Nat → Int32 := fun j => if j = b then g else M j
def updM (M : Nat → Nat → Int32) (b k : Nat) (x : Int32) : Nat → Nat → Int32 := updR M b (upd (M b) k x)
theorem rows_at {r : Nat → Nat} {M : Nat → Nat → Int32} {b : Nat} (hb : b < 36) : (rowsW cI r M)[b]? = some (r (7 + b), .inl (cI, 64, .inl (M b))) := by
  unfold rowsW
  rw [List.getElem?_map, List.getElem?_range hb]
  rfl
theorem rows_len {r : Nat → Nat} {M : Nat → Nat → Int32} : (rowsW cI r M).length = 36 := by
  unfold rowsW
  rw [List.length_map, List.length_range]
theorem rows_set {r : Nat → Nat} {M : Nat → Nat → Int32} {b : Nat} {g : Nat → Int32} : (rowsW cI r M).set b (r (7 + b), .inl (cI, 64, .inl g)) = rowsW cI r (updR M b g) := by
  apply List.ext_getElem?
  intro k
  by_cases hk : k < 36
  · rw [rows_at hk, List.getElem?_set]
    by_cases h : b = k
    · subst h
      rw [if_pos rfl, if_pos (by rw [rows_len]; exact hk)]
      simp [updR]
    · rw [if_neg h, rows_at hk]
      simp [updR, Ne.symm h]
  · rw [List.getElem?_eq_none (by rw [List.length_set, rows_len]; omega), List.getElem?_eq_none (by rw [rows_len]; omega)]
theorem wf_row {pre : va_W} {r : Nat → Nat} {M : Nat → Nat → Int32} {b : Nat} (hb : b < 36) : (wf pre [rowsW cI r M])[pre.length + b]? = some (r (7 + b), .inl (cI, 64, .inl (M b))) := by
  unfold wf
  rw [List.getElem?_append_right (by omega), Nat.add_sub_cancel_left]
  show (rowsW cI r M ++ [])[b]? = _
  rw [List.append_nil, rows_at hb]
theorem wf_rowset {pre : va_W} {r : Nat → Nat} {M : Nat → Nat → Int32} {b : Nat} {g : Nat → Int32} : (wf pre [rowsW cI r M]).set (pre.length + b) (r (7 + b), .inl (cI, 64, .inl g)) = wf pre [rowsW cI r (updR M b g)] := by
  unfold wf
  rw [List.set_append_right _ _ (by omega), Nat.add_sub_cancel_left]
  show pre ++ (rowsW cI r M ++ []).set b _ = pre ++ (rowsW cI r (updR M b g) ++ [])
  rw [List.append_nil, List.append_nil, rows_set]
theorem ct_rld {cells slots : Nat} {pre : va_W} {r : Nat → Nat} {M : Nat → Nat → Int32} {b : Nat} (hx : p.tables.exec = Jvm.exec) (hb : c.code = cc) (hK : va_K D vwCl (TYS cB cI cJ cQ) s) (hP : va_P D vwCl (wf pre [rowsW cI r M]) H) (hbl : b < 36) {i : Int32} (hin : vp_in i 64) (hdg : decode cc pc = .ok (.iaload, 1))
    (kk : W p l e R s m args below meth c H locs cells slots Q (F0 m (pc + 1) ls (.int (M b i.toNatClampNeg) :: rest))) : W p l e R s m args below meth c H locs cells slots Q (F0 m pc ls (.int i :: .ref (r (7 + b)) :: rest)) :=
  va_iald hx hb hK hP (pre.length + b) 0 (wf_row hbl) rfl hin hdg kk
theorem ct_rst {cells slots : Nat} {H0 : Heap} {pre : va_W} {r : Nat → Nat} {M M' : Nat → Nat → Int32} {b : Nat} (hx : p.tables.exec = Jvm.exec) (hb : c.code = cc) (hK : va_K D vwCl (TYS cB cI cJ cQ) s) (hP : va_P D vwCl (wf pre [rowsW cI r M]) H) (hD : va_D A (wf pre [rowsW cI r M])) (hS : va_S A H0 H locs) (hbl : b < 36) {i x : Int32} (hin : vp_in i 64) (hg : M' = updM M b i.toNatClampNeg x) (hdg : decode cc pc = .ok (.iastore, 1))
    (kk : ∀ (H1 : Heap) (locs1 : List Loc), va_P D vwCl (wf pre [rowsW cI r M']) H1 → va_D A (wf pre [rowsW cI r M']) → va_S A H0 H1 locs1 → W p l e R s m args below meth c H1 locs1 cells slots Q (F0 m (pc + 1) ls rest)) : W p l e R s m args below meth c H locs cells slots Q (F0 m pc ls (.int x :: .int i :: .ref (r (7 + b)) :: rest)) := by
  subst hg
  refine va_iast hx hb hK hP hD hS (pre.length + b) 0 (wf_row hbl) rfl hin hdg (fun H1 l1 hP1 hD1 hS1 => ?_)
  rw [wf_rowset] at hP1 hD1
  exact kk H1 l1 hP1 hD1 hS1
theorem ct_callrow {pre : va_W} {r : Nat → Nat} {M M' : Nat → Nat → Int32} {b : Nat} {g : Nat → Int32} {a : Array Value} (E : ctE D cB cI cJ cQ N A s) (hP : va_P D vwCl (wf pre [rowsW cI r M]) H) (hD : va_D A (wf pre [rowsW cI r M])) (hS : va_S A s.heap H locs) (hbl : b < 36) (hM : M' = updR M b g)
    (hr : va_P D vwCl (wf [aI (r (7 + b)) cI 64 (M b)] []) H → va_D A (wf [aI (r (7 + b)) cI 64 (M b)] []) → va_Run p l e R s m args below meth c H locs 0 0 0 0 (F0 m pc ls st0) rest (ctQv D (wf [aI (r (7 + b)) cI 64 g] []) (va_A (wf [aI (r (7 + b)) cI 64 (M b)] []) H.size) a) (va_A (wf [aI (r (7 + b)) cI 64 (M b)] []) H.size))
    (kk : ∀ (H1 : Heap) (locs1 : List Loc), va_P D vwCl (wf pre [rowsW cI r M']) H1 → va_D A (wf pre [rowsW cI r M']) → va_S A s.heap H1 locs1 → W p l e R s m args below meth c H1 locs1 0 0 Q (F0 m (pc + 3) ls rest)) : W p l e R s m args below meth c H locs 0 0 Q (F0 m pc ls st0) := by
  subst hM
  have hk := wf_row (pre := pre) (r := r) (M := M) (cI := cI) hbl
  have hp1 := cut_at _ _ _ hk
  have hP9 := va_P_perm hp1 hP
  have hD9 := va_D_perm hp1 hD
  have hF := ct_freeA hD9 hS E.2.2.1
  refine va_callv (hr (va_P_app hP9).1 (va_D_app hD9).1) hS (fun q _ h => hF q h) hF (fun u t H1 locs1 ht hvm hw hB hz1 hk1 hS1 => ?_)
  obtain ⟨hP1, hD1⟩ := hB
  rw [ht] at hP1
  obtain ⟨hP2, hD2⟩ := ct_back hP9 hD9 hk1 hF hP1 hD1
  have hk2 : ((wf pre [rowsW cI r M]).set (pre.length + b) (r (7 + b), .inl (cI, 64, .inl g)))[pre.length + b]? = some (r (7 + b), .inl (cI, 64, .inl g)) := List.getElem?_set_self (List.getElem?_eq_some_iff.mp hk).1
  have hp2 := cut_at _ _ _ hk2
  rw [List.eraseIdx_set_eq, wf_rowset] at hp2
  have hp3 : ((wf pre [rowsW cI r M]).eraseIdx (pre.length + b) ++ wf [aI (r (7 + b)) cI 64 g] []).Perm (wf pre [rowsW cI r (updR M b g)]) := (List.perm_append_comm.trans hp2.symm)
  exact kk H1 locs1 (va_P_perm hp3 hP2) (va_D_perm hp3 hD2) hS1
end CTX
section CTN
variable {p : Program} {l : Launch} {e : Env} {R : Room} {s : State} {m : MethodId} {args : Array Value} {below : List Frame} {meth : Method} {c : Code} {H : Heap} {locs : List Loc} {Q : State → Prop} {cells slots : Nat}
variable {cc : ByteArray} {pc : Nat} {ls : Array Slot} {rest st0 : List Value} {D : va_G} {cB cI cJ cQ : ClassId} {N : Nat} {A : Nat → Prop}
/-- what a constructor leaves: the addresses of its cells, by a function of their places -/
def ctQn (D : va_G) (h : Nat) (Wr : (Nat → Nat) → va_W) (A : Nat → Prop) : Array Value → State → Outcome → State → Prop := va_Qv (fun r : Nat → Nat => r 0 = h) (fun r t => va_P D vwCl (Wr r) t.heap ∧ va_D A (Wr r)) A
theorem ct_nret {h : Nat} {Wr : (Nat → Nat) → va_W} (r : Nat → Nat) (hr0 : r 0 = h) (hx : p.tables.exec = Jvm.exec) (hb : c.code = cc) (hr : meth.sig.returnType = none) (hlk : meth.locks = false) (hP : va_P D vwCl (Wr r) H) (hD : va_D A (Wr r)) (hS : va_S A s.heap H locs) (hdg : decode cc pc = .ok (.return_, 1)) : W p l e R s m args below meth c H locs cells slots (MQ below (ctQn D h Wr A) args s cells slots A) (F0 m pc ls []) :=
  W.vret hx hb hr (fun t ht hW => ⟨⟨r, rfl, hr0, by rw [ht]; exact hP, hD⟩, hS.F ht⟩) hS.2.2 hdg hlk
theorem ct_callN {h mc ms : Nat} {pre : va_W} {tl : List va_W} {p1 : (Nat → Nat) → va_W} {t1 : (Nat → Nat) → List va_W} {isC isR itC itR : List Nat} {a : Array Value} (E : ctE D cB cI cJ cQ N A s) (sb : ctS pre tl isC isR itC itR) (hP : va_P D vwCl (wf pre tl) H) (hD : va_D A (wf pre tl)) (hS : va_S A s.heap H locs)
    (hr : va_Run p l e R s m args below meth c H locs cells slots mc ms (F0 m pc ls st0) rest (ctQn D h (fun r => wf (p1 r) (t1 r)) (va_A (wf (pk pre isC) (pk tl itC)) H.size) a) (va_A (wf (pk pre isC) (pk tl itC)) H.size))
    (kk : ∀ (r : Nat → Nat) (H1 : Heap) (locs1 : List Loc), r 0 = h → va_P D vwCl (wf (pk pre isR ++ p1 r) (pk tl itR ++ t1 r)) H1 → va_D A (wf (pk pre isR ++ p1 r) (pk tl itR ++ t1 r)) → va_S A s.heap H1 locs1 → W p l e R s m args below meth c H1 locs1 (cells + mc) (slots + ms) Q (F0 m (pc + 3) ls rest)) : W p l e R s m args below meth c H locs cells slots Q (F0 m pc ls st0) := by
  have hF := ct_freeA (va_D_perm sb.perm hD) hS E.2.2.1
  refine va_callv hr hS (fun q _ h => hF q h) hF (fun u t H1 locs1 ht hvm hw hB hz1 hk1 hS1 => ?_)
  obtain ⟨hP1, hD1⟩ := hB
  rw [ht] at hP1
  obtain ⟨hP2, hD2⟩ := ct_bk sb hP hD hS E.2.2.1 hk1 hP1 hD1
  exact kk u H1 locs1 hw hP2 hD2 hS1
theorem wf_push (pre : va_W) (tl : List va_W) (x : Nat × va_E) : (wf pre tl ++ [x]).Perm (wf (pre ++ [x]) tl) := by
  unfold wf
  rw [List.append_assoc, List.append_assoc]
  exact List.Perm.append_left pre List.perm_append_comm
theorem ct_new {C : String} {T : u_T} {F ci index : Nat} {Ts : List Cond} {own : String} {pre : va_W} {tl : List va_W} (hexec : p.tables.exec = Jvm.exec) (hb : c.code = cc) (hts : ∀ w ∈ Ts, w.before args s = true) (hin : ∀ w ∈ u_ws C T F, w ∈ Ts) (ty : Nat → FieldType) (hty : ∀ k, k < F → parseFieldDescriptor (T k).2.2.1 = some (ty k)) (hown : s.vm.findClass own = some m.cls) (hcl : (Cond.classLink own index C).before args s = true) (hinst : (Cond.instantiable C F).before args s = true) (hini : (Cond.initialized C).before args s = true)
    (E : ctE D cB cI cJ cQ N A s) (hP : va_P D vwCl (wf pre tl) H) (hD : va_D A (wf pre tl)) (hS : va_S A s.heap H locs) (hc : vwCl[ci]? = some (C, T, F)) {fs : List Value} (hfs : ∀ j, j < F → defaultValue (ty j) = vp_V fs j) (hcells : cells + 1 ≤ R.cells) (hslots : slots + F ≤ R.slots) (hdg : decode cc pc = .ok (.new index, 3))
    (kk : ∀ (q : Nat) (H1 : Heap), va_P D vwCl (wf (pre ++ [oB q ci fs]) tl) H1 → va_D A (wf (pre ++ [oB q ci fs]) tl) → va_S A s.heap H1 locs → W p l e R s m args below meth c H1 locs (cells + 1) (slots + F) Q (F0 m (pc + 3) ls (.ref q :: rest))) : W p l e R s m args below meth c H locs cells slots Q (F0 m pc ls rest) :=
  va_new hexec hb hts hin ty hty hown hcl hinst hini E.1 hP hD hS E.2.2.1 hc hfs hcells hslots hdg (fun q H1 hP1 hD1 hS1 => kk q H1 (va_P_perm (wf_push _ _ _) hP1) (va_D_perm (wf_push _ _ _) hD1) hS1)
theorem ct_newa {k0 : Nat} {cA : ClassId} {pre : va_W} {tl : List va_W} (hexec : p.tables.exec = Jvm.exec) (hb : c.code = cc) {atype : ArrayType} (harr : (Cond.arrayClass (newarray.typeOf atype)).before args s = true) {ty : FieldType} (hty : newarray.typeOf atype = ty) (E : ctE D cB cI cJ cQ N A s) (hP : va_P D vwCl (wf pre tl) H) (hD : va_D A (wf pre tl)) (hS : va_S A s.heap H locs) (hk0 : (TYS cB cI cJ cQ)[k0]? = some (cA, ty)) (hprim : ∀ U cX, va_RA U cX ty = (U.vm.findClass ("[" ++ ty.toString) = some cX))
    {n : Int32} {N' : Nat} {a0 : vp_A} (ha : ∀ cA : ClassId, vp_cell cA a0 = arrV cA N' (fun _ => defaultValue ty)) (hn : ¬ n < 0) (hN : n.toNatClampNeg = N') (hbytes : N' * componentBytes ty ≤ 536870912) (hcells : cells + 1 ≤ R.cells) (hslots : slots + N' ≤ R.slots) (hdg : decode cc pc = .ok (.newarray atype, 2))
    (kk : ∀ (q : Nat) (H1 : Heap), va_P D vwCl (wf (pre ++ [(q, .inl (cA, a0))]) tl) H1 → va_D A (wf (pre ++ [(q, .inl (cA, a0))]) tl) → va_S A s.heap H1 locs → W p l e R s m args below meth c H1 locs (cells + 1) (slots + N') Q (F0 m (pc + 2) ls (.ref q :: rest))) : W p l e R s m args below meth c H locs cells slots Q (F0 m pc ls (.int n :: rest)) := by
  refine va_newa hexec hb harr hty E.1 hP hD hS E.2.2.1 ha hn hN hbytes hcells hslots hdg (fun q cX H1 hK1 hP1 hD1 hS1 => ?_)
  have h1 := (E.1.2 k0 _ hk0).2
  have h2 := (hK1.2 (TYS cB cI cJ cQ).length (cX, ty) (by rw [List.getElem?_append_right (Nat.le_refl _), Nat.sub_self]; rfl)).2
  rw [hprim] at h1 h2
  cases Option.some.inj (h1.symm.trans h2)
  exact kk q H1 (va_P_perm (wf_push _ _ _) hP1) (va_D_perm (wf_push _ _ _) hD1) hS1
theorem upd_tbl (l : List Int32) (x : Int32) : upd (tbl l) l.length x = tbl (l ++ [x]) := by
  funext k
  unfold upd tbl
  by_cases h : k = l.length
  · subst h
    rw [if_pos rfl, List.getD_eq_getElem?_getD, List.getElem?_append_right (Nat.le_refl _), Nat.sub_self]
    rfl
  · rw [if_neg h, List.getD_eq_getElem?_getD, List.getD_eq_getElem?_getD]
    by_cases h2 : k < l.length
    · rw [List.getElem?_append_left h2]
    · rw [List.getElem?_eq_none (by omega), List.getElem?_eq_none (by rw [List.length_append, List.length_singleton]; omega)]
end CTN
