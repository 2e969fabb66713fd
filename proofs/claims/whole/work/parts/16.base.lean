/-! pure helpers -/
def b2i (b : Bool) : Int32 := match b with
  | true => 1
  | false => 0
theorem b2i_t : b2i true = 1 := rfl
theorem b2i_f : b2i false = 0 := rfl
theorem b2i_0 {b : Bool} : (b2i b = 0) ↔ b = false := by cases b <;> decide
theorem b2i_1 {b : Bool} : (b2i b = 1) ↔ b = true := by cases b <;> decide
theorem b2i_n (b : Bool) : narrow .boolean (.int (b2i b)) = .int (b2i b) := by cases b <;> rfl
theorem b2i_fit (b : Bool) : fits .boolean (.int (b2i b)) = true := by cases b <;> rfl
/-- among the first n -/
def am (f : Nat → Int32) (x : Int32) : Nat → Bool
  | 0 => false
  | n + 1 => am f x n || decide (f n = x)
theorem am_iff {f : Nat → Int32} {x : Int32} : ∀ {n : Nat}, am f x n = true ↔ ∃ i, i < n ∧ f i = x
  | 0 => by simp [am]
  | n + 1 => by
    simp only [am, Bool.or_eq_true, decide_eq_true_eq, am_iff (n := n)]
    constructor
    · rintro (⟨i, h1, h2⟩ | h)
      · exact ⟨i, by omega, h2⟩
      · exact ⟨n, by omega, h⟩
    · rintro ⟨i, h1, h2⟩
      by_cases hi : i = n
      · subst hi
        exact Or.inr h2
      · exact Or.inl ⟨i, by omega, h2⟩
def sw (s : Int64) (b : Int32) : Int64 := ((s ^^^ b.toInt64) <<< ((7 : Int32).toInt64 &&& 63) ||| e_ushr (s ^^^ b.toInt64) 57) * (-7046029254386353131)
theorem x_leN {a b : Nat} (ha : a < 2147483648) (hb : b < 2147483648) : (Int32.ofNat a ≤ nI b) ↔ a ≤ b := nI_leI ha hb
theorem x_le {a b : Nat} (ha : a < 2147483648) (hb : b < 2147483648) : (nI a ≤ nI b) ↔ a ≤ b := nI_leI ha hb
theorem x_lt {a b : Nat} (ha : a < 2147483648) (hb : b < 2147483648) : (nI a < nI b) ↔ a < b := nI_ltI ha hb
theorem x_eq {a b : Nat} (ha : a < 2147483648) (hb : b < 2147483648) : (nI a = nI b) ↔ a = b := nI_eq ha hb
theorem x_cl {a : Nat} (ha : a < 2147483648) : (nI a).toNatClampNeg = a := nI_clamp ha
theorem x_in {a n : Nat} (ha : a < 2147483648) : vp_in (nI a) n ↔ a < n := by
  rw [vp_in_iff, nI_toInt ha]
  omega
theorem k_i : ((0 : Int32) = 1) = False ∧ ((0 : Int32) = 2) = False ∧ ((0 : Int32) = 3) = False ∧ ((0 : Int32) = 4) = False ∧ ((0 : Int32) = -1) = False ∧ ((1 : Int32) = 0) = False ∧ ((1 : Int32) = 2) = False ∧ ((1 : Int32) = 3) = False ∧ ((1 : Int32) = 4) = False ∧ ((1 : Int32) = -1) = False ∧ ((2 : Int32) = 0) = False ∧ ((2 : Int32) = 1) = False ∧ ((2 : Int32) = 3) = False ∧ ((2 : Int32) = 4) = False ∧ ((2 : Int32) = -1) = False ∧ ((3 : Int32) = 0) = False ∧ ((3 : Int32) = 1) = False ∧ ((3 : Int32) = 2) = False ∧ ((3 : Int32) = 4) = False ∧ ((3 : Int32) = -1) = False ∧ ((4 : Int32) = 0) = False ∧ ((4 : Int32) = 1) = False ∧ ((4 : Int32) = 2) = False ∧ ((4 : Int32) = 3) = False ∧ ((4 : Int32) = -1) = False ∧ ((-1 : Int32) = 0) = False ∧ ((-1 : Int32) = 1) = False ∧ ((-1 : Int32) = 2) = False ∧ ((-1 : Int32) = 3) = False ∧ ((-1 : Int32) = 4) = False := ⟨by decide, by decide, by decide, by decide, by decide, by decide, by decide, by decide, by decide, by decide, by decide, by decide, by decide, by decide, by decide, by decide, by decide, by decide, by decide, by decide, by decide, by decide, by decide, by decide, by decide, by decide, by decide, by decide, by decide, by decide⟩
