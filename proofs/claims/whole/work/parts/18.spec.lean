/-! what is spoken of: facts, by functions -/
theorem cr_q : (∀ i : Nat, cr 0 i 7 = none) ∧ (∀ i : Nat, cr 0 i 8 = none) ∧ (∀ i : Nat, cr 17 i 4 = none) ∧ (∀ i : Nat, cr 18 i 4 = none) := ⟨fun _ => rfl, fun _ => rfl, fun _ => rfl, fun _ => rfl⟩
/-- an int within 0 .. n - 1 -/
def inr (x : Int32) (n : Nat) : Bool := decide (0 ≤ x.toInt ∧ x.toInt < n)
theorem inr_lo {x : Int32} {n : Nat} (h : x < 0) : inr x n = false := by
  have h1 := Int32.lt_iff_toInt_lt.mp h
  have h0 : (0 : Int32).toInt = 0 := by decide
  simp only [inr, decide_eq_false_iff_not]
  omega
theorem inr_hi {x m : Int32} {n : Nat} (hm : m.toInt = n) (h : m ≤ x) : inr x n = false := by
  have h1 := Int32.le_iff_toInt_le.mp h
  simp only [inr, decide_eq_false_iff_not]
  omega
theorem inr_in {x m : Int32} {n : Nat} (hm : m.toInt = n) (h0 : ¬ x < 0) (h : ¬ m ≤ x) : inr x n = true := by
  rw [Int32.lt_iff_toInt_lt] at h0
  rw [Int32.le_iff_toInt_le] at h
  have h2 : (0 : Int32).toInt = 0 := by decide
  simp only [inr, decide_eq_true_eq]
  omega
theorem inr_of {x : Int32} {n : Nat} (hn : n < 2147483648) (h : inr x n = true) : ∃ j : Nat, j < n ∧ x = nI j := by
  simp only [inr, decide_eq_true_eq] at h
  refine ⟨x.toInt.toNat, by omega, Int32.toInt_inj.mp ?_⟩
  rw [nI_toInt (by omega)]
  omega
theorem inr_nI {j n : Nat} (hj : j < 2147483648) : inr (nI j) n = decide (j < n) := by
  unfold inr
  rw [nI_toInt hj]
  apply decide_eq_decide.mpr
  omega
def nN (x : Int32) : Nat := x.toNatClampNeg
theorem nN_nI {j : Nat} (hj : j < 2147483648) : nN (nI j) = j := nI_clamp hj
def stands (kind : Int32) (same : Bool) (since : Int32) : Bool := if kind = 2 then same || decide (0 ≤ since ∧ since ≤ 2) else if kind = 3 then same && decide (since = 0) else same
/-- the first n things stand -/
def frs (kind : Int32) (th : Nat → Nat) (dt ct dg ch : Nat → Int32) : Nat → Bool
  | 0 => true
  | n + 1 => frs kind th dt ct dg ch n && stands kind (decide (dg (th n) = dt n)) (ch (th n) - ct n)
theorem frs_mono {kind : Int32} {th : Nat → Nat} {dt ct dg ch : Nat → Int32} {n : Nat} (h : frs kind th dt ct dg ch n = false) : ∀ {m : Nat}, n ≤ m → frs kind th dt ct dg ch m = false
  | 0, hm => by
    have h0 : n = 0 := by omega
    subst h0
    exact h
  | m + 1, hm => by
    by_cases hn : n = m + 1
    · subst hn
      exact h
    · simp [frs, frs_mono h (show n ≤ m by omega)]
/-! the class's tables -/
def tcC (S : pS) (i : Nat) : Nat := nN (S.1 6 i 4)
def fcC (S : pS) (i : Nat) : Nat := nN (S.1 6 i 8)
def thC (S : pS) (i k : Nat) : Nat := nN (S.1 7 i k)
def onC (S : pS) (i k : Nat) : Nat := nN (S.1 10 i k)
def chC (S : pS) (i : Nat) : Bool := decide (¬ S.1 6 i 2 = 0)
def drC (S : pS) (i : Nat) : Bool := decide (¬ S.1 6 i 3 = 0)
/-- the class's fact i: its counts and numbers are as they may be; m: a bound of the facts it rests on -/
def wfF (S : pS) (i m : Nat) : Prop := S.1 6 i 4 = nI (tcC S i) ∧ tcC S i ≤ 4 ∧ S.1 6 i 8 = nI (fcC S i) ∧ fcC S i ≤ 3 ∧ (∀ k, k < tcC S i → S.1 7 i k = nI (thC S i k) ∧ thC S i k < 16) ∧ (∀ k, k < fcC S i → S.1 10 i k = nI (onC S i k) ∧ onC S i k < m)
abbrev frsC (S : pS) (i n : Nat) : Bool := frs (S.1 6 i 0) (thC S i) (S.1 8 i) (S.1 9 i) (S.1 2 0) (S.1 3 0) n
def freshC (S : pS) (i : Nat) : Bool := frsC S i (tcC S i)
/-- the book: n facts, each as it may be -/
def wfB (S : pS) (n : Nat) : Prop := S.1 4 0 1 = nI n ∧ n ≤ 60 ∧ ∀ i, i < n → wfF S i i
/-! sets of facts -/
def anyB (p : Nat → Bool) (on : Nat → Nat) : Nat → Bool
  | 0 => false
  | k + 1 => anyB p on k || p (on k)
def allB (p : Nat → Bool) (on : Nat → Nat) : Nat → Bool
  | 0 => true
  | k + 1 => allB p on k && p (on k)
/-- those of the first n that have 'base' or rest on one that is in -/
def rsF (base : Nat → Bool) (on : Nat → Nat → Nat) (fc : Nat → Nat) : Nat → Nat → Bool
  | 0, _ => false
  | i + 1, j => if j = i then base i || anyB (rsF base on fc i) (on i) (fc i) else rsF base on fc i j
/-- those of the first n that are good and rest on such alone -/
def usF (good : Nat → Bool) (on : Nat → Nat → Nat) (fc : Nat → Nat) : Nat → Nat → Bool
  | 0, _ => false
  | i + 1, j => if j = i then good i && allB (usF good on fc i) (on i) (fc i) else usF good on fc i j
def goodC (S : pS) (i : Nat) : Bool := !drC S i && (chC S i || freshC S i)
/-! bits of longs -/
def bit (s : Int64) (n : Nat) : Bool := s.toBitVec.getLsbD n
theorem bit_or (a b : Int64) (n : Nat) : bit (a ||| b) n = (bit a n || bit b n) := by simp [bit]
theorem bit_and (a b : Int64) (n : Nat) : bit (a &&& b) n = (bit a n && bit b n) := by simp [bit]
theorem bit_0 (n : Nat) : bit 0 n = false := by simp [bit]
theorem bit_not (a : Int64) {n : Nat} (hn : n < 64) : bit (a ^^^ (-1)) n = !bit a n := by
  have h : ((-1 : Int64)).toBitVec = BitVec.allOnes 64 := by decide
  simp [bit, h, hn]
theorem bit_sh : ∀ j, j < 64 → ((1 : Int64) <<< ((nI j).toInt64 &&& 63)).toBitVec = BitVec.twoPow 64 j := by decide +kernel
theorem bit_1 {j : Nat} (hj : j < 64) (n : Nat) : bit ((1 : Int64) <<< ((nI j).toInt64 &&& 63)) n = decide (j = n) := by
  unfold bit
  rw [bit_sh j hj, BitVec.getLsbD_twoPow]
  simp [hj]
theorem bit_ext {a b : Int64} (h : ∀ n, n < 64 → bit a n = bit b n) : a = b := by
  apply Int64.toBitVec_inj.mp
  apply BitVec.eq_of_getLsbD_eq
  intro n hn
  exact h n hn
theorem bit_z {a : Int64} : a = 0 ↔ ∀ n, n < 64 → bit a n = false := ⟨fun h n _ => by rw [h]; exact bit_0 n, fun h => bit_ext fun n hn => by rw [h n hn, bit_0]⟩
theorem wb_cu : ∀ k, k < 64 → ((nI k).toInt64.toUInt64 &&& Int64.toUInt64 63) = UInt64.ofNat k := by decide +kernel
theorem ts_bit {w : Int64} {s : UInt64} {j : Nat} (hj : j < 64) (hs : s.toNat = j) : ((w.toUInt64 >>> s).toInt64 &&& 1) = 0 ↔ w.toBitVec.getLsbD j = false := by
  have e : (w.toUInt64 >>> s).toInt64.toBitVec = w.toBitVec >>> j := by
    apply BitVec.eq_of_toNat_eq
    show (w.toUInt64 >>> s).toNat = _
    rw [UInt64.toNat_shiftRight, hs, Nat.mod_eq_of_lt hj, BitVec.toNat_ushiftRight]
    rfl
  rw [← Int64.toBitVec_inj, Int64.toBitVec_and, e]
  show w.toBitVec >>> j &&& 1#64 = 0#64 ↔ _
  constructor
  · intro h
    have t := congrArg (fun x => x.getLsbD 0) h
    simpa using t
  · intro h
    apply BitVec.eq_of_getLsbD_eq
    intro i hi
    by_cases hi0 : i = 0
    · subst hi0
      simpa using h
    · simp [hi0]
theorem bit_in (s : Int64) {j : Nat} (hj : j < 64) : (e_ushr s (nI j) &&& 1 = 0) ↔ bit s j = false := by
  unfold e_ushr
  rw [wb_cu j hj]
  exact ts_bit hj (by rw [UInt64.toNat_ofNat']; omega)
def lset (on : Nat → Nat) : Nat → Int64
  | 0 => 0
  | k + 1 => lset on k ||| (1 : Int64) <<< ((nI (on k)).toInt64 &&& 63)
theorem bit_lset {on : Nat → Nat} {n : Nat} : ∀ {f : Nat}, (∀ k, k < f → on k < 64) → bit (lset on f) n = anyB (fun j => decide (j = n)) on f
  | 0, _ => bit_0 n
  | f + 1, h => by
    simp only [lset, bit_or, anyB, bit_1 (h f (by omega))]
    rw [bit_lset (on := on) (n := n) (f := f) (fun k hk => h k (by omega))]
theorem anyB_iff {p : Nat → Bool} {on : Nat → Nat} : ∀ {n : Nat}, anyB p on n = true ↔ ∃ k, k < n ∧ p (on k) = true
  | 0 => by simp [anyB]
  | n + 1 => by
    simp only [anyB, Bool.or_eq_true, anyB_iff (n := n)]
    constructor
    · rintro (⟨i, h1, h2⟩ | h)
      · exact ⟨i, by omega, h2⟩
      · exact ⟨n, by omega, h⟩
    · rintro ⟨i, h1, h2⟩
      by_cases hi : i = n
      · subst hi
        exact Or.inr h2
      · exact Or.inl ⟨i, by omega, h2⟩
theorem allB_iff {p : Nat → Bool} {on : Nat → Nat} : ∀ {n : Nat}, allB p on n = true ↔ ∀ k, k < n → p (on k) = true
  | 0 => by simp [allB]
  | n + 1 => by
    simp only [allB, Bool.and_eq_true, allB_iff (n := n)]
    constructor
    · rintro ⟨h1, h2⟩ k hk
      by_cases hi : k = n
      · subst hi
        exact h2
      · exact h1 k (by omega)
    · intro h
      exact ⟨fun k hk => h k (by omega), h n (by omega)⟩
/-- a set of longs and the facts that it holds -/
def Bits (s : Int64) (p : Nat → Bool) : Prop := ∀ n, n < 64 → bit s n = p n
theorem Bits_any {s : Int64} {p : Nat → Bool} {on : Nat → Nat} {f : Nat} (hs : Bits s p) (ho : ∀ k, k < f → on k < 64) : (lset on f &&& s = 0) ↔ anyB p on f = false := by
  rw [bit_z]
  constructor
  · intro h
    cases ha : anyB p on f with
    | false => rfl
    | true =>
      obtain ⟨k, h1, h2⟩ := anyB_iff.mp ha
      have h3 := h (on k) (ho k h1)
      rw [bit_and, hs _ (ho k h1), h2, bit_lset ho, Bool.and_true] at h3
      have h4 : anyB (fun j => decide (j = on k)) on f = true := anyB_iff.mpr ⟨k, h1, by simp⟩
      rw [h4] at h3
      cases h3
  · intro h n hn
    rw [bit_and, hs n hn, bit_lset ho]
    cases ha : anyB (fun j => decide (j = n)) on f with
    | false => rfl
    | true =>
      obtain ⟨k, h1, h2⟩ := anyB_iff.mp ha
      have h2' : on k = n := by simpa using h2
      cases hp : p n with
      | false => rfl
      | true =>
        have h4 : anyB p on f = true := anyB_iff.mpr ⟨k, h1, by rw [h2', hp]⟩
        rw [h] at h4
        cases h4
theorem Bits_all {s : Int64} {p : Nat → Bool} {on : Nat → Nat} {f : Nat} (hs : Bits s p) (ho : ∀ k, k < f → on k < 64) : (lset on f &&& (s ^^^ (-1)) = 0) ↔ allB p on f = true := by
  rw [bit_z, allB_iff]
  constructor
  · intro h k hk
    have h3 := h (on k) (ho k hk)
    rw [bit_and, bit_not _ (ho k hk), hs _ (ho k hk), bit_lset ho] at h3
    have h4 : anyB (fun j => decide (j = on k)) on f = true := anyB_iff.mpr ⟨k, hk, by simp⟩
    rw [h4] at h3
    simpa using h3
  · intro h n hn
    rw [bit_and, bit_not _ hn, hs n hn, bit_lset ho]
    cases ha : anyB (fun j => decide (j = n)) on f with
    | false => rfl
    | true =>
      obtain ⟨k, h1, h2⟩ := anyB_iff.mp ha
      have h2' : on k = n := by simpa using h2
      have h5 := h k h1
      rw [h2'] at h5
      simp [h5]
theorem Bits_put {s : Int64} {p : Nat → Bool} {i : Nat} (hs : Bits s p) (hi : i < 64) : Bits (s ||| (1 : Int64) <<< ((nI i).toInt64 &&& 63)) (fun j => if j = i then true else p j) := by
  intro n hn
  rw [bit_or, bit_1 hi, hs n hn]
  by_cases h : n = i
  · subst h
    simp
  · have h2 : ¬ i = n := fun z => h z.symm
    simp [h, h2]
theorem Bits_0 : Bits 0 (fun _ => false) := fun n _ => bit_0 n
theorem Bits_to {s : Int64} {p q : Nat → Bool} (hs : Bits s p) (h : ∀ n, p n = q n) : Bits s q := fun n hn => by rw [hs n hn, h]
