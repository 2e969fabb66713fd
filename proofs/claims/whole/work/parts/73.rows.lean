/-! the reader's sum: as long as it hasn't failed, that of the bytes that it has read -/
theorem swd_s {d : Nat → Int32} {p : Nat} {σ : Int64} : ∀ {k : Nat}, swd d p σ (k + 1) = swd d (p + 1) (sw σ (d p)) k
  | 0 => rfl
  | k + 1 => by
    show sw (swd d p σ (k + 1)) (d (p + (k + 1))) = sw (swd d (p + 1) (sw σ (d p)) k) (d (p + 1 + k))
    rw [swd_s (k := k), show p + (k + 1) = p + 1 + k by omega]
theorem swd_add {d : Nat → Int32} {p : Nat} {σ : Int64} {j : Nat} : ∀ {k : Nat}, swd d p σ (j + k) = swd d (p + j) (swd d p σ j) k
  | 0 => rfl
  | k + 1 => by
    show sw (swd d p σ (j + k)) (d (p + (j + k))) = sw (swd d (p + j) (swd d p σ j) k) (d (p + j + k))
    rw [swd_add (k := k), show p + (j + k) = p + j + k by omega]
def okS (d : Nat → Int32) (p : Nat) (σ : Int64) (ρ : pR) : Prop := p ≤ ρ.1 ∧ (ρ.2.1 = false → ρ.2.2 = swd d p σ (ρ.1 - p))
section
variable {d : Nat → Int32} {e p : Nat} {σ : Int64}
theorem okS_nxt {m : Int32} {ρ : pR} (h : okS d p σ ρ) : okS d p σ (nxt d e m ρ).2 := by
  obtain ⟨h1, h2⟩ := h
  cases hf : (nxt d e m ρ).2.2.1 with
  | true =>
    refine ⟨?_, fun z => by rw [hf] at z; cases z⟩
    unfold nxt
    split
    · exact h1
    · show p ≤ ρ.1 + 1
      omega
  | false =>
    obtain ⟨g1, g2, g3, g4, g5⟩ := nxt_f hf
    rw [g5]
    refine ⟨by show p ≤ ρ.1 + 1; omega, fun _ => ?_⟩
    show sw ρ.2.2 (d ρ.1) = swd d p σ (ρ.1 + 1 - p)
    rw [show ρ.1 + 1 - p = (ρ.1 - p) + 1 by omega, swd, h2 g1, show p + (ρ.1 - p) = ρ.1 by omega]
theorem okS_num : ∀ {k : Nat} {v : Int64} {ρ : pR}, okS d p σ ρ → okS d p σ (num d e k v ρ).2
  | 0, _, _, h => h
  | k + 1, _, _, h => okS_num (k := k) (okS_nxt h)
theorem okS_unl {m : Int32} {f : Nat → Int32} {n : Nat} {ρ : pR} (h : okS d p σ ρ) : okS d p σ (unl d e m f n ρ).2 := by
  unfold unl
  split
  · exact okS_nxt ⟨h.1, fun z => by cases z⟩
  · exact okS_nxt h
theorem okS_pT : ∀ {k t : Nat} {th dt ct : Nat → Int32} {ρ : pR}, okS d p σ ρ → okS d p σ (pT d e k t th dt ct ρ).2.2.2.2
  | 0, _, _, _, _, _, h => h
  | k + 1, t, th, dt, ct, ρ, h => by
    unfold pT
    split
    · exact h
    · exact okS_pT (k := k) (okS_num (okS_num (okS_unl h)))
theorem okS_pF {m : Int32} : ∀ {k t : Nat} {on : Nat → Int32} {ρ : pR}, okS d p σ ρ → okS d p σ (pF d e m k t on ρ).2.2
  | 0, _, _, _, h => h
  | k + 1, t, on, ρ, h => by
    unfold pF
    split
    · exact h
    · exact okS_pF (k := k) (okS_unl h)
theorem okS_row {r : Nat} {ρ : pR} (h : okS d p σ ρ) : okS d p σ (rowR d e r ρ) := okS_pF (okS_nxt (okS_pT (okS_nxt (okS_num (okS_nxt h)))))
theorem okS_tk : ∀ {k i : Nat} {ρ : pR}, okS d p σ ρ → okS d p σ (tkR d e k i ρ)
  | 0, _, _, h => h
  | k + 1, i, ρ, h => by
    unfold tkR
    split
    · exact h
    · exact okS_tk (k := k) (okS_row h)
end
/-! a row on the disk: when it is right, and what it holds -/
def bB (d : Nat → Int32) : Prop := ∀ j, j < 3532 → ∃ v : Nat, v < 256 ∧ d j = nI v
def dN (d : Nat → Int32) (j : Nat) : Nat := nN (d j)
theorem bB_n {d : Nat → Int32} (h : bB d) {j : Nat} (hj : j < 3532) : dN d j < 256 ∧ d j = nI (dN d j) := by
  obtain ⟨v, hv, e⟩ := h j hj
  unfold dN
  rw [e, nN_nI (by omega)]
  exact ⟨hv, rfl⟩
theorem i8_63 : ((8 : Int32).toInt64 &&& 63).toBitVec.smod 64 = 8#64 := by decide +kernel
theorem bit_shl8 (x : Int64) {n : Nat} (hn : n < 64) : bit (x <<< ((8 : Int32).toInt64 &&& 63)) n = (decide (8 ≤ n) && bit x (n - 8)) := by
  unfold bit
  rw [Int64.toBitVec_shiftLeft, i8_63]
  show (x.toBitVec <<< (8#64)).getLsbD n = _
  rw [show x.toBitVec <<< (8#64) = x.toBitVec <<< 8 from rfl, BitVec.getLsbD_shiftLeft]
  by_cases h8 : 8 ≤ n
  · have h9 : ¬ n < 8 := by omega
    simp [hn, h8, h9]
  · have h9 : n < 8 := by omega
    simp [hn, h8, h9]
theorem by_J : ∀ v, v < 256 → (nI v).toInt64.toBitVec = BitVec.ofNat 64 v := by decide +kernel
theorem by_I : ∀ v, v < 256 → (nI v).toBitVec = BitVec.ofNat 32 v := by decide +kernel
theorem tb_8 {v n : Nat} (hv : v < 256) (hn : 8 ≤ n) : v.testBit n = false := Nat.testBit_lt_two_pow (Nat.lt_of_lt_of_le hv (show 2 ^ 8 ≤ 2 ^ n from Nat.pow_le_pow_right (by omega) hn))
theorem bit_by {v n : Nat} (hv : v < 256) : bit (nI v).toInt64 n = v.testBit n := by
  unfold bit
  rw [by_J v hv, BitVec.getLsbD_ofNat]
  by_cases hn : n < 64
  · simp [hn]
  · rw [tb_8 hv (by omega)]
    simp
theorem biI_by {v n : Nat} (hv : v < 256) : biI (nI v) n = v.testBit n := by
  unfold biI
  rw [by_I v hv, BitVec.getLsbD_ofNat]
  by_cases hn : n < 32
  · simp [hn]
  · rw [tb_8 hv (by omega)]
    simp
theorem bit_nat {d : Nat → Int32} {a : Nat} : ∀ {k n : Nat}, (∀ i, i < k → dN d (a + i) < 256 ∧ d (a + i) = nI (dN d (a + i))) → n < 64 → bit (nat_ d a k) n = if n < 8 * k then (dN d (a + (k - 1 - n / 8))).testBit (n % 8) else false
  | 0, n, _, _ => by
    rw [if_neg (by omega)]
    exact bit_0 n
  | k + 1, n, hb, hn => by
    have h1 := hb k (by omega)
    show bit (nat_ d a k <<< ((8 : Int32).toInt64 &&& 63) ||| (d (a + k)).toInt64) n = _
    rw [bit_or, bit_shl8 _ hn, h1.2, bit_by h1.1]
    by_cases h8 : 8 ≤ n
    · rw [tb_8 h1.1 h8, bit_nat (k := k) (n := n - 8) (fun i hi => hb i (by omega)) (by omega)]
      simp only [h8, decide_true, Bool.true_and, Bool.or_false]
      by_cases h2 : n < 8 * (k + 1)
      · rw [if_pos h2, if_pos (by omega), show k - 1 - (n - 8) / 8 = k + 1 - 1 - n / 8 by omega, show (n - 8) % 8 = n % 8 by omega]
      · rw [if_neg h2, if_neg (by omega)]
    · have h9 : n / 8 = 0 := by omega
      rw [if_pos (by omega), h9, show n % 8 = n by omega]
      simp only [h8, decide_false, Bool.false_and, Bool.false_or]
      rw [show k + 1 - 1 - 0 = k by omega]
/-- a byte of a sum -/
abbrev xb (σ : Int64) (k : Nat) : Int32 := (e_ushr σ (nI (8 * k)) &&& 255).toInt32
theorem ush_b {σ : Int64} {k : Nat} (hk : k < 64) : (e_ushr σ (nI k)).toBitVec = σ.toBitVec >>> k := by
  unfold e_ushr
  rw [wb_cu k hk]
  apply BitVec.eq_of_toNat_eq
  show (σ.toUInt64 >>> UInt64.ofNat k).toNat = _
  rw [UInt64.toNat_shiftRight, UInt64.toNat_ofNat', Nat.mod_eq_of_lt (show k < 2 ^ 64 by omega), Nat.mod_eq_of_lt hk, BitVec.toNat_ushiftRight]
  rfl
theorem biI_xb {σ : Int64} {k n : Nat} (hk : k < 8) : biI (xb σ k) n = (decide (n < 8) && bit σ (8 * k + n)) := by
  unfold biI xb
  rw [Int64.toBitVec_toInt32, Int64.toBitVec_and, ush_b (by omega)]
  have e255 : (255 : Int64).toBitVec = 255#64 := by decide
  rw [e255, BitVec.getLsbD_signExtend]
  by_cases hn : n < 8
  · have h1 : (255#64).getLsbD n = true := by
      have : ∀ z, z < 8 → (255#64).getLsbD z = true := by decide
      exact this n hn
    have h2 : n < 32 := by omega
    have h3 : n < 64 := by omega
    simp only [hn, h2, h3, decide_true, Bool.true_and, if_true, BitVec.getLsbD_and, h1, Bool.and_true, BitVec.getLsbD_ushiftRight]
    rfl
  · simp only [hn, decide_false, Bool.false_and]
    by_cases h2 : n < 32
    · have h1 : (255#64).getLsbD n = false := by
        have : ∀ z, z < 32 → ¬ z < 8 → (255#64).getLsbD z = false := by decide
        exact this n h2 hn
      have h3 : n < 64 := by omega
      simp only [h2, h3, decide_true, Bool.true_and, if_true, BitVec.getLsbD_and, h1, Bool.and_false]
    · simp [h2]
theorem biI_ext {a b : Int32} (h : ∀ n, biI a n = biI b n) : a = b := by
  apply Int32.toBitVec_inj.mp
  apply BitVec.eq_of_getLsbD_eq
  intro n _
  exact h n
theorem nat_8 {d : Nat → Int32} {a : Nat} {σ : Int64} (hb : ∀ i, i < 8 → dN d (a + i) < 256 ∧ d (a + i) = nI (dN d (a + i))) : nat_ d a 8 = σ ↔ ∀ i, i < 8 → d (a + i) = xb σ (7 - i) := by
  constructor
  · intro h i hi
    subst h
    apply biI_ext
    intro n
    rw [biI_xb (by omega), (hb i hi).2, biI_by (hb i hi).1]
    by_cases hn : n < 8
    · rw [bit_nat hb (by omega), if_pos (by omega), show (8 * (7 - i) + n) / 8 = 7 - i by omega, show (8 * (7 - i) + n) % 8 = n by omega, show 8 - 1 - (7 - i) = i by omega]
      simp [hn]
    · rw [tb_8 (hb i hi).1 (by omega)]
      simp [hn]
  · intro h
    apply bit_ext
    intro n hn
    rw [bit_nat hb hn, if_pos (by omega)]
    have h1 := h (8 - 1 - n / 8) (by omega)
    have h2 := hb (8 - 1 - n / 8) (by omega)
    have h3 := biI_by (n := n % 8) h2.1
    rw [← h2.2, h1, biI_xb (by omega), show 8 * (7 - (8 - 1 - n / 8)) + n % 8 = n by omega] at h3
    rw [← h3]
    have h4 : n % 8 < 8 := by omega
    simp [h4]
/-! reading that goes through -/
def nav (d : Nat → Int32) (p : Nat) (v : Int64) : Nat → Int64
  | 0 => v
  | k + 1 => nav d p v k <<< ((8 : Int32).toInt64 &&& 63) ||| (d (p + k)).toInt64
theorem nav_0 {d : Nat → Int32} {p : Nat} : ∀ {k : Nat}, nav d p 0 k = nat_ d p k
  | 0 => rfl
  | k + 1 => by unfold nav nat_; rw [nav_0]
theorem nav_s {d : Nat → Int32} {p : Nat} {v : Int64} : ∀ {k : Nat}, nav d p v (k + 1) = nav d (p + 1) (v <<< ((8 : Int32).toInt64 &&& 63) ||| (d p).toInt64) k
  | 0 => rfl
  | k + 1 => by
    show nav d p v (k + 1) <<< ((8 : Int32).toInt64 &&& 63) ||| (d (p + (k + 1))).toInt64 = nav d (p + 1) _ k <<< ((8 : Int32).toInt64 &&& 63) ||| (d (p + 1 + k)).toInt64
    rw [nav_s (k := k), show p + (k + 1) = p + 1 + k by omega]
section
variable {d : Nat → Int32} {e : Nat}
theorem nxt_ok {m : Int32} {a : Nat} {σ : Int64} (h1 : a < e) (h2 : ¬ d a < 0) (h3 : ¬ m < d a) : nxt d e m (a, false, σ) = (d a, (a + 1, false, sw σ (d a))) := by
  unfold nxt
  rw [if_neg]
  rintro (z | z | z | z)
  · cases z
  · have z : e ≤ a := z
    omega
  · exact h2 z
  · exact h3 z
theorem by_0 (hB : bB d) {j : Nat} (hj : j < 3532) : ¬ d j < 0 := by
  have h := bB_n hB hj
  rw [h.2]
  exact nI_pos (by omega)
theorem by_m (hB : bB d) {j M : Nat} (hj : j < 3532) (hM : M < 1000) : (nI M < d j) ↔ M < dN d j := by
  have h := bB_n hB hj
  rw [h.2, x_lt (by omega) (by omega)]
theorem by_r (hB : bB d) {j r : Nat} (hj : j < 3532) (hr : r ≤ 60) : (nI r - 1 < d j) ↔ r ≤ dN d j := by
  cases r with
  | zero =>
    have h := bB_n hB hj
    refine ⟨fun _ => Nat.zero_le _, fun _ => ?_⟩
    rw [h.2, Int32.lt_iff_toInt_lt, nI_toInt (by omega)]
    have : (nI 0 - 1).toInt = -1 := by decide
    omega
  | succ r =>
    rw [nI_pred, by_m hB hj (by omega)]
    omega
theorem num_ok (hB : bB d) (he : e ≤ 3532) : ∀ {k : Nat} {v : Int64} {a : Nat} {σ : Int64}, a + k ≤ e → num d e k v (a, false, σ) = (nav d a v k, (a + k, false, swd d a σ k))
  | 0, _, _, _, _ => rfl
  | k + 1, v, a, σ, h => by
    have h1 := bB_n hB (show a < 3532 by omega)
    have h2 : ¬ (255 : Int32) < d a := fun z => by
      have := (by_m hB (M := 255) (show a < 3532 by omega) (by omega)).mp z
      omega
    unfold num
    rw [nxt_ok (by omega) (by_0 hB (by omega)) h2, nav_s, swd_s]
    show num d e k _ (a + 1, false, sw σ (d a)) = _
    rw [num_ok hB he (k := k) (by omega), show a + 1 + k = a + (k + 1) by omega]
theorem num_no : ∀ {k : Nat} {v : Int64} {ρ : pR}, ρ.1 ≤ e → (num d e k v ρ).2.2.1 = false → ρ.1 + k ≤ e
  | 0, _, ρ, h, _ => h
  | k + 1, v, ρ, h, hf => by
    unfold num at hf
    have h1 := num_f hf
    obtain ⟨g1, g2, g3, g4, g5⟩ := nxt_f h1
    have h2 := num_no (k := k) (nxt_le (d := d) (m := 255) h) hf
    rw [g5] at h2
    have h2 : ρ.1 + 1 + k ≤ e := h2
    omega
def okT (d : Nat → Int32) (q j k : Nat) : Prop := ∀ z, j ≤ z → z < j + k → dN d (q + 9 * z) ≤ 15 ∧ am (fun y => d (q + 9 * y)) (d (q + 9 * z)) z = false
def okF (d : Nat → Int32) (q r j k : Nat) : Prop := ∀ z, j ≤ z → z < j + k → dN d (q + z) < r ∧ am (fun y => d (q + y)) (d (q + z)) z = false
theorem unl_ok2 {m : Int32} {f : Nat → Int32} {n a : Nat} {σ : Int64} (h : am f (d a) n = false) : unl d e m f n (a, false, σ) = nxt d e m (a, false, σ) := by
  unfold unl
  rw [if_neg]
  rintro ⟨_, z⟩
  have z : am f (d a) n = true := z
  rw [h] at z
  cases z
theorem pT_ok (hB : bB d) (he : e ≤ 3532) {q : Nat} : ∀ {k j : Nat} {th dt ct : Nat → Int32} {σ : Int64}, q + 9 * (j + k) ≤ e → (∀ z, z < j → th z = d (q + 9 * z)) → okT d q j k → ∃ th' dt' ct', pT d e k j th dt ct (q + 9 * j, false, σ) = (j + k, th', dt', ct', (q + 9 * (j + k), false, swd d (q + 9 * j) σ (9 * k))) ∧ (∀ z, z < j → th' z = th z ∧ dt' z = dt z ∧ ct' z = ct z) ∧ ∀ z, j ≤ z → z < j + k → th' z = d (q + 9 * z) ∧ dt' z = (nat_ d (q + 9 * z + 1) 4).toInt32 ∧ ct' z = (nat_ d (q + 9 * z + 5) 4).toInt32
  | 0, j, th, dt, ct, σ, _, _, _ => ⟨th, dt, ct, rfl, fun _ _ => ⟨rfl, rfl, rfl⟩, fun z h1 h2 => by omega⟩
  | k + 1, j, th, dt, ct, σ, h, hth, hok => by
    have h1 := hok j (by omega) (by omega)
    have h2 : ¬ (15 : Int32) < d (q + 9 * j) := fun z => by
      have := (by_m hB (M := 15) (show q + 9 * j < 3532 by omega) (by omega)).mp z
      omega
    have eu : unl d e 15 th j (q + 9 * j, false, σ) = (d (q + 9 * j), (q + 9 * j + 1, false, sw σ (d (q + 9 * j)))) := by
      rw [unl_ok2 (by rw [am_congr hth]; exact h1.2), nxt_ok (by omega) (by_0 hB (by omega)) h2]
    obtain ⟨th', dt', ct', e1, e2, e3⟩ := pT_ok hB he (k := k) (j := j + 1) (th := upd th j (d (q + 9 * j))) (dt := upd dt j (nav d (q + 9 * j + 1) 0 4).toInt32) (ct := upd ct j (nav d (q + 9 * j + 1 + 4) 0 4).toInt32) (σ := swd d (q + 9 * j + 1 + 4) (swd d (q + 9 * j + 1) (sw σ (d (q + 9 * j))) 4) 4) (by omega) (fun z hz => by
      by_cases hj : z = j
      · subst hj
        rw [upd_eq]
      · rw [upd_lt (by omega), hth z (by omega)]) (fun z h3 h4 => hok z (by omega) (by omega))
    refine ⟨th', dt', ct', ?_, ?_, ?_⟩
    · rw [pT_s rfl, eu, num_ok hB he (by omega), num_ok hB he (by omega)]
      rw [show (q + 9 * j + 1 + 4 + 4) = q + 9 * (j + 1) by omega]
      rw [e1]
      rw [show 9 * (k + 1) = 9 + 9 * k by omega, swd_add (j := 9) (k := 9 * k), show q + 9 * j + 9 = q + 9 * (j + 1) by omega, show j + 1 + k = j + (k + 1) by omega, ← swd_add (p := q + 9 * j + 1) (j := 4) (k := 4), ← swd_s]
    · intro z hz
      have := e2 z (by omega)
      rw [upd_lt hz, upd_lt hz, upd_lt hz] at this
      exact this
    · intro z h3 h4
      by_cases hj : z = j
      · subst hj
        have := e2 z (by omega)
        rw [upd_eq, upd_eq, upd_eq, nav_0, nav_0] at this
        exact this
      · exact e3 z (by omega) (by omega)
theorem pT_no (hB : bB d) (he : e ≤ 3532) {q : Nat} : ∀ {k j : Nat} {th dt ct : Nat → Int32} {ρ : pR}, ρ.1 = q + 9 * j → ρ.1 ≤ e → (∀ z, z < j → th z = d (q + 9 * z)) → (pT d e k j th dt ct ρ).2.2.2.2.2.1 = false → q + 9 * (j + k) ≤ e ∧ okT d q j k
  | 0, j, th, dt, ct, ρ, h1, h2, _, _ => ⟨by omega, fun z h3 h4 => by omega⟩
  | k + 1, j, th, dt, ct, ρ, h1, h2, hth, hf => by
    have hr := pT_f hf
    rw [pT_s hr] at hf
    have f1 := pT_f hf
    have f2 := num_f f1
    have f3 := num_f f2
    obtain ⟨u1, u2⟩ := unl_f f3
    rw [u1] at f3
    obtain ⟨g1, g2, g3, g4, g5⟩ := nxt_f f3
    have n1 := num_no (num_le (nxt_le (d := d) (m := 15) (ρ := ρ) h2)) (by rw [u1] at f1; exact f1)
    have eq1 : (unl d e 15 th j ρ).2 = (q + 9 * j + 1, false, sw ρ.2.2 (d ρ.1)) := by rw [u1, g5, h1]
    have eq0 : (unl d e 15 th j ρ).1 = d (q + 9 * j) := by rw [u1, g5, h1]
    have a4 : q + 9 * j + 1 + 4 ≤ e := by
      have := num_no (by rw [u1]; exact nxt_le h2) f2
      rw [eq1] at this
      exact this
    rw [eq1, num_ok hB he a4] at f1 hf
    have a8 : q + 9 * j + 1 + 4 + 4 ≤ e := num_no (ρ := (q + 9 * j + 1 + 4, false, _)) a4 f1
    rw [num_ok hB he a8, eq0] at hf
    obtain ⟨r1, r2⟩ := pT_no hB he (q := q) (k := k) (j := j + 1) (ρ := (q + 9 * j + 1 + 4 + 4, false, _)) (by show q + 9 * j + 1 + 4 + 4 = _; omega) a8 (fun z hz => by
      by_cases hj : z = j
      · subst hj
        rw [upd_eq]
      · rw [upd_lt (by omega), hth z (by omega)]) hf
    refine ⟨by omega, fun z h3 h4 => ?_⟩
    by_cases hj : z = j
    · subst hj
      refine ⟨?_, ?_⟩
      · exact Nat.le_of_not_lt (fun x => g4 (by rw [h1]; exact (by_m hB (M := 15) (show q + 9 * z < 3532 by omega) (by omega)).mpr x))
      · rw [← am_congr hth, ← h1]
        exact u2
    · exact r2 z (by omega) (by omega)
theorem pF_ok (hB : bB d) (he : e ≤ 3532) {q r : Nat} (hr : r ≤ 60) : ∀ {k j : Nat} {on : Nat → Int32} {σ : Int64}, q + (j + k) ≤ e → (∀ z, z < j → on z = d (q + z)) → okF d q r j k → ∃ on', pF d e (nI r - 1) k j on (q + j, false, σ) = (j + k, on', (q + (j + k), false, swd d (q + j) σ k)) ∧ (∀ z, z < j + k → on' z = d (q + z))
  | 0, j, on, σ, _, h, _ => ⟨on, rfl, fun z hz => h z hz⟩
  | k + 1, j, on, σ, h, hth, hok => by
    have h1 := hok j (by omega) (by omega)
    have h2 : ¬ nI r - 1 < d (q + j) := fun z => by
      have := (by_r hB (show q + j < 3532 by omega) hr).mp z
      omega
    have eu : unl d e (nI r - 1) on j (q + j, false, σ) = (d (q + j), (q + j + 1, false, sw σ (d (q + j)))) := by
      rw [unl_ok2 (by rw [am_congr hth]; exact h1.2), nxt_ok (by omega) (by_0 hB (by omega)) h2]
    obtain ⟨on', e1, e2⟩ := pF_ok hB he hr (k := k) (j := j + 1) (on := upd on j (d (q + j))) (σ := sw σ (d (q + j))) (by omega) (fun z hz => by
      by_cases hj : z = j
      · subst hj
        rw [upd_eq]
      · rw [upd_lt (by omega), hth z (by omega)]) (fun z h3 h4 => hok z (by omega) (by omega))
    refine ⟨on', ?_, fun z hz => e2 z (by omega)⟩
    rw [pF_s rfl, eu]
    rw [show q + (j + 1) = q + j + 1 by omega] at e1
    rw [e1, swd_s, show j + 1 + k = j + (k + 1) by omega]
theorem pF_no (hB : bB d) (he : e ≤ 3532) {q r : Nat} (hr : r ≤ 60) : ∀ {k j : Nat} {on : Nat → Int32} {ρ : pR}, ρ.1 = q + j → ρ.1 ≤ e → (∀ z, z < j → on z = d (q + z)) → (pF d e (nI r - 1) k j on ρ).2.2.2.1 = false → q + (j + k) ≤ e ∧ okF d q r j k
  | 0, j, on, ρ, h1, h2, _, _ => ⟨by omega, fun z h3 h4 => by omega⟩
  | k + 1, j, on, ρ, h1, h2, hth, hf => by
    have hr0 := pF_f hf
    rw [pF_s hr0] at hf
    have f3 := pF_f hf
    obtain ⟨u1, u2⟩ := unl_f f3
    rw [u1] at f3
    obtain ⟨g1, g2, g3, g4, g5⟩ := nxt_f f3
    rw [u1, g5, h1] at hf
    obtain ⟨r1, r2⟩ := pF_no hB he hr (q := q) (k := k) (j := j + 1) (ρ := (q + j + 1, false, _)) (by show q + j + 1 = _; omega) (by show q + j + 1 ≤ e; omega) (fun z hz => by
      by_cases hj : z = j
      · subst hj
        rw [upd_eq]
      · rw [upd_lt (by omega), hth z (by omega)]) hf
    refine ⟨by omega, fun z h3 h4 => ?_⟩
    by_cases hj : z = j
    · subst hj
      refine ⟨?_, ?_⟩
      · exact Nat.lt_of_not_le (fun x => g4 (by rw [h1]; exact (by_r hB (show q + z < 3532 by omega) hr).mpr x))
      · rw [← am_congr hth, ← h1]
        exact u2
    · exact r2 z (by omega) (by omega)
theorem xps_ok {σ s : Int64} : ∀ {k a : Nat}, a + k ≤ e → (∀ i, i < k → d (a + i) = xb σ (k - 1 - i)) → xps d e σ k (a, false, s) = (a + k, false, s)
  | 0, _, _, _ => rfl
  | k + 1, a, h, hd => by
    unfold xps
    have h0 := hd 0 (by omega)
    have e1 : xpc d e (xb σ k) (a, false, s) = (a + 1, false, s) := by
      unfold xpc
      rw [if_neg]
      rintro (z | z | z)
      · cases z
      · have z : e ≤ a := z
        omega
      · exact z h0
    rw [e1, xps_ok (k := k) (by omega) (fun i hi => by rw [show a + 1 + i = a + (i + 1) by omega, hd (i + 1) (by omega), show k + 1 - 1 - (i + 1) = k - 1 - i by omega]), show a + 1 + k = a + (k + 1) by omega]
theorem xps_f {σ : Int64} : ∀ {k : Nat} {ρ : pR}, (xps d e σ k ρ).2.1 = false → ρ.2.1 = false
  | 0, _, h => h
  | k + 1, _, h => xpc_f (xps_f (k := k) h)
theorem xps_no {σ : Int64} : ∀ {k : Nat} {ρ : pR}, ρ.1 ≤ e → (xps d e σ k ρ).2.1 = false → ρ.1 + k ≤ e ∧ ∀ i, i < k → d (ρ.1 + i) = xb σ (k - 1 - i)
  | 0, ρ, h, _ => ⟨h, fun i hi => by omega⟩
  | k + 1, ρ, h, hf => by
    unfold xps at hf
    have h1 := xps_f hf
    have hc : ¬ (ρ.2.1 = true ∨ e ≤ ρ.1 ∨ ¬ d ρ.1 = xb σ k) := by
      intro z
      unfold xpc at h1
      rw [if_pos z] at h1
      cases h1
    have e1 : xpc d e (xb σ k) ρ = (ρ.1 + 1, false, ρ.2.2) := by
      unfold xpc
      rw [if_neg hc]
    rw [e1] at hf
    have h2 : ¬ e ≤ ρ.1 := fun z => hc (Or.inr (Or.inl z))
    have h3 : d ρ.1 = xb σ k := Classical.not_not.mp (fun z => hc (Or.inr (Or.inr z)))
    obtain ⟨r1, r2⟩ := xps_no (k := k) (ρ := (ρ.1 + 1, false, ρ.2.2)) (by show ρ.1 + 1 ≤ e; omega) hf
    have r1 : ρ.1 + 1 + k ≤ e := r1
    refine ⟨by omega, fun i hi => ?_⟩
    cases i with
    | zero => exact h3
    | succ i =>
      have := r2 i (by omega)
      rw [show ρ.1 + (i + 1) = ρ.1 + 1 + i by omega, show k + 1 - 1 - (i + 1) = k - 1 - i by omega]
      exact this
end
/-! rows on the disk, one behind the other -/
def rP (d : Nat → Int32) (a : Nat) : Nat := a + 10 + 9 * dN d (a + 9)
def rE (d : Nat → Int32) (a : Nat) : Nat := rP d a + 1 + dN d (rP d a)
def rokP (d : Nat → Int32) (r a : Nat) : Prop := a + 10 ≤ 3500 ∧ dN d a ≤ 3 ∧ dN d (a + 9) ≤ 4 ∧ rP d a < 3500 ∧ dN d (rP d a) ≤ 3 ∧ rE d a + 8 ≤ 3500 ∧ okT d (a + 10) 0 (dN d (a + 9)) ∧ okF d (rP d a + 1) r 0 (dN d (rP d a))
abbrev rSm (d : Nat → Int32) (a : Nat) (σ : Int64) : Int64 := swd d a σ (rE d a - a)
def rok (d : Nat → Int32) (r a : Nat) (σ : Int64) : Prop := rokP d r a ∧ nat_ d (rE d a) 8 = rSm d a σ
theorem row_ok {d : Nat → Int32} {r a : Nat} {σ : Int64} (hB : bB d) (hr : r ≤ 60) (h : rokP d r a) : (q1 d 3500 (a, false, σ)).1 = d a ∧ (q2 d 3500 (a, false, σ)).1 = nat_ d (a + 1) 8 ∧ (q4 d 3500 (a, false, σ)).1 = dN d (a + 9) ∧ (∀ z, z < dN d (a + 9) → (q4 d 3500 (a, false, σ)).2.1 z = d (a + 10 + 9 * z) ∧ (q4 d 3500 (a, false, σ)).2.2.1 z = (nat_ d (a + 10 + 9 * z + 1) 4).toInt32 ∧ (q4 d 3500 (a, false, σ)).2.2.2.1 z = (nat_ d (a + 10 + 9 * z + 5) 4).toInt32) ∧ (q6 d 3500 r (a, false, σ)).1 = dN d (rP d a) ∧ (∀ z, z < dN d (rP d a) → (q6 d 3500 r (a, false, σ)).2.1 z = d (rP d a + 1 + z)) ∧ rowR d 3500 r (a, false, σ) = (rE d a, false, rSm d a σ) := by
  obtain ⟨h1, h2, h3, h4, h5, h6, h7, h8⟩ := h
  have hE : rE d a = rP d a + 1 + dN d (rP d a) := rfl
  have hP : rP d a = a + 10 + 9 * dN d (a + 9) := rfl
  have e1 : q1 d 3500 (a, false, σ) = (d a, (a + 1, false, sw σ (d a))) := nxt_ok (by omega) (by_0 hB (by omega)) (fun z => by
    have := (by_m hB (M := 3) (show a < 3532 by omega) (by omega)).mp z
    omega)
  have e2 : q2 d 3500 (a, false, σ) = (nat_ d (a + 1) 8, (a + 9, false, swd d a σ 9)) := by
    unfold q2
    rw [e1]
    show num d 3500 8 0 (a + 1, false, sw σ (d a)) = _
    rw [num_ok hB (by decide) (by omega), nav_0, ← swd_s]
  have e3 : q3 d 3500 (a, false, σ) = (d (a + 9), (a + 10, false, swd d a σ 10)) := by
    unfold q3
    rw [e2]
    show nxt d 3500 4 (a + 9, false, swd d a σ 9) = _
    rw [nxt_ok (by omega) (by_0 hB (by omega)) (fun z => by
      have := (by_m hB (M := 4) (show a + 9 < 3532 by omega) (by omega)).mp z
      omega)]
    rfl
  have eN : nN (q3 d 3500 (a, false, σ)).1 = dN d (a + 9) := by rw [e3]; rfl
  obtain ⟨th, dt, ct, e4, -, e4b⟩ := pT_ok hB (e := 3500) (by decide) (q := a + 10) (k := dN d (a + 9)) (j := 0) (th := zF) (dt := zF) (ct := zF) (σ := swd d a σ 10) (by omega) (fun z hz => by omega) h7
  have e4c : q4 d 3500 (a, false, σ) = (dN d (a + 9), th, dt, ct, (rP d a, false, swd d a σ (10 + 9 * dN d (a + 9)))) := by
    unfold q4
    rw [eN, e3]
    show pT d 3500 (dN d (a + 9)) 0 zF zF zF (a + 10 + 9 * 0, false, swd d a σ 10) = _
    rw [e4, swd_add, Nat.zero_add]
    rfl
  have e5 : q5 d 3500 (a, false, σ) = (d (rP d a), (rP d a + 1, false, swd d a σ (10 + 9 * dN d (a + 9) + 1))) := by
    unfold q5
    rw [e4c]
    show nxt d 3500 3 (rP d a, false, swd d a σ (10 + 9 * dN d (a + 9))) = _
    rw [nxt_ok (by omega) (by_0 hB (by omega)) (fun z => by
      have := (by_m hB (M := 3) (show rP d a < 3532 by omega) (by omega)).mp z
      omega)]
    show (_, (_, false, sw (swd d a σ (10 + 9 * dN d (a + 9))) (d (rP d a)))) = (_, (_, false, sw (swd d a σ (10 + 9 * dN d (a + 9))) (d (a + (10 + 9 * dN d (a + 9))))))
    rw [show rP d a = a + (10 + 9 * dN d (a + 9)) by omega]
  have eM : nN (q5 d 3500 (a, false, σ)).1 = dN d (rP d a) := by rw [e5]; rfl
  obtain ⟨on, e6, e6b⟩ := pF_ok hB (e := 3500) (by decide) (q := rP d a + 1) (r := r) hr (k := dN d (rP d a)) (j := 0) (on := zF) (σ := swd d a σ (10 + 9 * dN d (a + 9) + 1)) (by omega) (fun z hz => by omega) h8
  have e6c : q6 d 3500 r (a, false, σ) = (dN d (rP d a), on, (rE d a, false, rSm d a σ)) := by
    unfold q6
    rw [eM, e5]
    show pF d 3500 (nI r - 1) (dN d (rP d a)) 0 zF (rP d a + 1 + 0, false, swd d a σ (10 + 9 * dN d (a + 9) + 1)) = _
    rw [e6, show rP d a + 1 + 0 = a + (10 + 9 * dN d (a + 9) + 1) by omega, ← swd_add, Nat.zero_add]
    show (_, _, (_, false, _)) = (_, _, (_, false, swd d a σ (rE d a - a)))
    rw [show rE d a - a = 10 + 9 * dN d (a + 9) + 1 + dN d (rP d a) by omega, show a + (10 + 9 * dN d (a + 9) + 1) + dN d (rP d a) = rE d a by omega]
  refine ⟨by rw [e1], by rw [e2], by rw [e4c], ?_, by rw [e6c], ?_, ?_⟩
  · intro z hz
    rw [e4c]
    exact e4b z (by omega) (by omega)
  · intro z hz
    rw [e6c]
    exact e6b z (by omega)
  · unfold rowR
    rw [e6c]
theorem row_X {d : Nat → Int32} {r a : Nat} {σ : Int64} (hB : bB d) (hr : r ≤ 60) (h : rok d r a σ) : rowX d 3500 r (a, false, σ) = (rE d a + 8, false, rSm d a σ) := by
  obtain ⟨h1, h2⟩ := h
  have h6 := h1.2.2.2.2.2.1
  unfold rowX
  rw [(row_ok hB hr h1).2.2.2.2.2.2]
  refine xps_ok h6 (fun i hi => ?_)
  rw [(nat_8 (fun i hi => bB_n hB (by omega))).mp h2 i hi]
theorem row_fs {d : Nat → Int32} {e r : Nat} {ρ : pR} (h : (rowR d e r ρ).2.1 = false) : (q5 d e ρ).2.2.1 = false ∧ (q4 d e ρ).2.2.2.2.2.1 = false ∧ (q3 d e ρ).2.2.1 = false ∧ (q2 d e ρ).2.2.1 = false ∧ (q1 d e ρ).2.2.1 = false := by
  have f5 : (q5 d e ρ).2.2.1 = false := pF_f h
  have f4 : (q4 d e ρ).2.2.2.2.2.1 = false := (nxt_f f5).1
  have f3 : (q3 d e ρ).2.2.1 = false := pT_f f4
  have f2 : (q2 d e ρ).2.2.1 = false := (nxt_f f3).1
  exact ⟨f5, f4, f3, f2, num_f f2⟩
theorem row_noG {d : Nat → Int32} {r a e : Nat} (he : e = 3500) {σ : Int64} (hB : bB d) (hr : r ≤ 60) (ha : a ≤ e) (h : (rowX d e r (a, false, σ)).2.1 = false) : rok d r a σ := by
  unfold rowX at h
  have f1 := xps_f h
  have f6 : (q6 d e r (a, false, σ)).2.2.2.1 = false := f1
  obtain ⟨f5, f4, f3, f2, f0⟩ := row_fs f1
  obtain ⟨g1, g2, g3, g4, g5⟩ := nxt_f f0
  have g2 : ¬ e ≤ a := g2
  have e1 : q1 d e (a, false, σ) = (d a, (a + 1, false, sw σ (d a))) := g5
  have k1 : dN d a ≤ 3 := Nat.le_of_not_lt (fun x => g4 ((by_m hB (M := 3) (show a < 3532 by omega) (by omega)).mpr x))
  have a9 : a + 1 + 8 ≤ e := by
    unfold q2 at f2
    rw [e1] at f2
    exact num_no (ρ := (a + 1, false, sw σ (d a))) (show a + 1 ≤ e by omega) f2
  have e2 : q2 d e (a, false, σ) = (nat_ d (a + 1) 8, (a + 9, false, swd d a σ 9)) := by
    unfold q2
    rw [e1]
    show num d e 8 0 (a + 1, false, sw σ (d a)) = _
    rw [num_ok hB (by omega) (by omega), nav_0, ← swd_s]
  unfold q3 at f3
  rw [e2] at f3
  obtain ⟨g1, g2, g3, g4, g5⟩ := nxt_f f3
  have g2 : ¬ e ≤ a + 9 := g2
  have e3 : q3 d e (a, false, σ) = (d (a + 9), (a + 10, false, swd d a σ 10)) := by
    unfold q3
    rw [e2]
    exact g5
  have k3 : dN d (a + 9) ≤ 4 := Nat.le_of_not_lt (fun x => g4 ((by_m hB (M := 4) (show a + 9 < 3532 by omega) (by omega)).mpr x))
  have eN : nN (q3 d e (a, false, σ)).1 = dN d (a + 9) := by rw [e3]; rfl
  have f4b := f4
  unfold q4 at f4b
  rw [eN, e3] at f4b
  obtain ⟨k4, k5⟩ := pT_no hB (by omega) (q := a + 10) (j := 0) (ρ := (a + 10, false, swd d a σ 10)) rfl (show a + 10 ≤ e by omega) (fun z hz => by omega) f4b
  obtain ⟨th, dt, ct, e4, -, -⟩ := pT_ok hB (e := e) (by omega) (q := a + 10) (k := dN d (a + 9)) (j := 0) (th := zF) (dt := zF) (ct := zF) (σ := swd d a σ 10) k4 (fun z hz => by omega) k5
  have hP : rP d a = a + 10 + 9 * dN d (a + 9) := rfl
  have e4c : q4 d e (a, false, σ) = (dN d (a + 9), th, dt, ct, (rP d a, false, swd d a σ (10 + 9 * dN d (a + 9)))) := by
    unfold q4
    rw [eN, e3]
    show pT d e (dN d (a + 9)) 0 zF zF zF (a + 10 + 9 * 0, false, swd d a σ 10) = _
    rw [e4, swd_add, Nat.zero_add]
    rfl
  have f5b := f5
  unfold q5 at f5b
  rw [e4c] at f5b
  obtain ⟨g1, g2, g3, g4, g5⟩ := nxt_f f5b
  have g2 : ¬ e ≤ rP d a := g2
  have k6 : dN d (rP d a) ≤ 3 := Nat.le_of_not_lt (fun x => g4 ((by_m hB (M := 3) (show rP d a < 3532 by omega) (by omega)).mpr x))
  have e5 : q5 d e (a, false, σ) = (d (rP d a), (rP d a + 1, false, sw (swd d a σ (10 + 9 * dN d (a + 9))) (d (rP d a)))) := by
    unfold q5
    rw [e4c]
    exact g5
  have eM : nN (q5 d e (a, false, σ)).1 = dN d (rP d a) := by rw [e5]; rfl
  have f6b := f6
  unfold q6 at f6b
  rw [eM, e5] at f6b
  obtain ⟨k7, k8⟩ := pF_no hB (by omega) (q := rP d a + 1) (j := 0) hr (ρ := (rP d a + 1, false, sw (swd d a σ (10 + 9 * dN d (a + 9))) (d (rP d a)))) rfl (show rP d a + 1 ≤ e by omega) (fun z hz => by omega) f6b
  have hE : rE d a = rP d a + 1 + dN d (rP d a) := rfl
  -- the row but for its sum goes through: its end and sum
  have hx : rowR d e r (a, false, σ) = (rE d a, false, rSm d a σ) := by
    have o := okS_row (d := d) (e := e) (r := r) (p := a) (σ := σ) (ρ := (a, false, σ)) ⟨Nat.le_refl _, fun _ => by show σ = swd d a σ (a - a); rw [Nat.sub_self]; rfl⟩
    obtain ⟨on, e6, -⟩ := pF_ok hB (e := e) (by omega) (q := rP d a + 1) (r := r) hr (k := dN d (rP d a)) (j := 0) (on := zF) (σ := sw (swd d a σ (10 + 9 * dN d (a + 9))) (d (rP d a))) k7 (fun z hz => by omega) k8
    have e6c : (q6 d e r (a, false, σ)).2.2 = (rE d a, false, swd d (rP d a + 1 + 0) (sw (swd d a σ (10 + 9 * dN d (a + 9))) (d (rP d a))) (dN d (rP d a))) := by
      unfold q6
      rw [eM, e5]
      show (pF d e (nI r - 1) (dN d (rP d a)) 0 zF (rP d a + 1 + 0, false, _)).2.2 = _
      rw [e6, Nat.zero_add]
      rfl
    have e7 : rowR d e r (a, false, σ) = (rE d a, false, swd d (rP d a + 1 + 0) (sw (swd d a σ (10 + 9 * dN d (a + 9))) (d (rP d a))) (dN d (rP d a))) := e6c
    have e8 := o.2 (by rw [e7])
    rw [e7] at e8
    rw [e7]
    have e9 : swd d (rP d a + 1 + 0) (sw (swd d a σ (10 + 9 * dN d (a + 9))) (d (rP d a))) (dN d (rP d a)) = swd d a σ (rE d a - a) := e8
    rw [e9]
  rw [hx] at h
  obtain ⟨k9, k10⟩ := xps_no (ρ := (rE d a, false, rSm d a σ)) (show rE d a ≤ e by omega) h
  have k9 : rE d a + 8 ≤ e := k9
  refine ⟨⟨by omega, k1, k3, by omega, k6, by omega, k5, k8⟩, ?_⟩
  exact (nat_8 (fun i hi => bB_n hB (by omega))).mpr k10
theorem row_no {d : Nat → Int32} {r a : Nat} {σ : Int64} (hB : bB d) (hr : r ≤ 60) (ha : a ≤ 3500) (h : (rowX d 3500 r (a, false, σ)).2.1 = false) : rok d r a σ := row_noG rfl hB hr ha h
/-- the end and the sum behind i rows -/
def rwE (d : Nat → Int32) : Nat → Nat × Int64
  | 0 => (0, 1)
  | i + 1 => (rE d (rwE d i).1 + 8, rSm d (rwE d i).1 (rwE d i).2)
def rokI (d : Nat → Int32) (i : Nat) : Prop := rok d i (rwE d i).1 (rwE d i).2
theorem rwE_le {d : Nat → Int32} : ∀ {i : Nat}, (∀ j, j < i → rokI d j) → (rwE d i).1 ≤ 3500
  | 0, _ => Nat.zero_le _
  | i + 1, h => (h i (by omega)).1.2.2.2.2.2.1
/-- fact i is as row i of the disk says -/
def kRow (d : Nat → Int32) (i : Nat) (S : pS) : Prop := S.1 6 i 0 = d (rwE d i).1 ∧ S.2.1 6 i 1 = nat_ d ((rwE d i).1 + 1) 8 ∧ S.1 6 i 2 = 0 ∧ S.1 6 i 3 = 0 ∧ S.1 6 i 4 = nI (dN d ((rwE d i).1 + 9)) ∧ S.1 6 i 8 = nI (dN d (rP d (rwE d i).1)) ∧ (∀ z, z < dN d ((rwE d i).1 + 9) → S.1 7 i z = d ((rwE d i).1 + 10 + 9 * z) ∧ S.1 8 i z = (nat_ d ((rwE d i).1 + 10 + 9 * z + 1) 4).toInt32 ∧ S.1 9 i z = (nat_ d ((rwE d i).1 + 10 + 9 * z + 5) 4).toInt32) ∧ ∀ z, z < dN d (rP d (rwE d i).1) → S.1 10 i z = d (rP d (rwE d i).1 + 1 + z)
theorem rowF_ne {S : pS} {i f : Nat} {d : Nat → Int32} {e r : Nat} {ρ : pR} (h : ¬ f = i) : (∀ k' j', (rowF S i d e r ρ).1 k' f j' = S.1 k' f j') ∧ ∀ k' j', (rowF S i d e r ρ).2.1 k' f j' = S.2.1 k' f j' := by
  refine ⟨fun k' j' => ?_, fun k' j' => ?_⟩
  · rw [rowF, fS_1]
    simp [h]
  · rw [rowF, fS_2]
    simp [h]
theorem kRow_F {S : pS} {d : Nat → Int32} {r : Nat} (hB : bB d) (hr : r ≤ 60) (h : rokI d r) : kRow d r (rowF S r d 3500 r ((rwE d r).1, false, (rwE d r).2)) := by
  obtain ⟨a1, a2, a3, a4, a5, a6, -⟩ := row_ok (σ := (rwE d r).2) hB hr h.1
  unfold kRow
  simp only [rowF, fS_1, fS_2, a1, a2, a3, a5]
  refine ⟨by simp, by simp, by simp, by simp, by simp, by simp, ?_, ?_⟩
  · intro z hz
    simp [hz, a4 z hz]
  · intro z hz
    simp [hz, a6 z hz]
theorem kRow_to {d : Nat → Int32} {i : Nat} {S S2 : pS} (h : kRow d i S) (h1 : ∀ k', 6 ≤ k' → k' ≤ 10 → ∀ j', S2.1 k' i j' = S.1 k' i j') (h2 : ∀ j', S2.2.1 6 i j' = S.2.1 6 i j') : kRow d i S2 := by
  unfold kRow at h ⊢
  rw [h1 6 (by omega) (by omega), h1 6 (by omega) (by omega), h1 6 (by omega) (by omega), h1 6 (by omega) (by omega), h1 6 (by omega) (by omega), h2]
  obtain ⟨a1, a2, a3, a4, a5, a6, a7, a8⟩ := h
  refine ⟨a1, a2, a3, a4, a5, a6, fun z hz => ?_, fun z hz => ?_⟩
  · rw [h1 7 (by omega) (by omega), h1 8 (by omega) (by omega), h1 9 (by omega) (by omega)]
    exact a7 z hz
  · rw [h1 10 (by omega) (by omega)]
    exact a8 z hz
theorem rrw_row {d : Nat → Int32} (hB : bB d) : ∀ {k r : Nat} {S : pS}, r + k = 60 → (∀ i, i < r → rokI d i ∧ kRow d i S) → (∀ j, j ≤ r → S.1 15 0 j = nI (rwE d j).1 ∧ S.2.1 16 0 j = (rwE d j).2) → ∀ X, X = rrw d k r S ((rwE d r).1, false, (rwE d r).2) → X.2.1 ≤ 60 ∧ (X.2.1 < 60 → ¬ rokI d X.2.1) ∧ (∀ i, i < X.2.1 → rokI d i ∧ kRow d i X.1) ∧ ∀ j, j ≤ X.2.1 → X.1.1 15 0 j = nI (rwE d j).1 ∧ X.1.2.1 16 0 j = (rwE d j).2
  | 0, r, S, hr, h1, h2, X, hX => by
    subst hX
    exact ⟨by show r ≤ 60; omega, fun h => by have h : r < 60 := h; omega, h1, h2⟩
  | k + 1, r, S, hr, h1, h2, X, hX => by
    unfold rrw at hX
    cases hf : (rowX d 3500 r ((rwE d r).1, false, (rwE d r).2)).2.1 with
    | true =>
      rw [if_pos hf] at hX
      subst hX
      refine ⟨by show r ≤ 60; omega, fun _ hk => ?_, fun i hi => ⟨(h1 i hi).1, ?_⟩, fun j hj => ?_⟩
      · have hk : rokI d r := hk
        rw [row_X hB (by omega) hk] at hf
        cases hf
      · have hi : i < r := hi
        have := rowF_ne (S := S) (i := r) (f := i) (d := d) (e := 3500) (r := r) (ρ := ((rwE d r).1, false, (rwE d r).2)) (by omega)
        exact kRow_to (h1 i hi).2 (fun k' _ _ j' => this.1 k' j') (fun j' => this.2 6 j')
      · have := h2 j hj
        rw [show (rowF S r d 3500 r ((rwE d r).1, false, (rwE d r).2)).1 15 0 j = S.1 15 0 j from by rw [rowF_oth (by omega)]]
        exact this
    | false =>
      have hk : rokI d r := row_no hB (by omega) (rwE_le (fun j hj => (h1 j hj).1)) hf
      have eX : rowX d 3500 r ((rwE d r).1, false, (rwE d r).2) = ((rwE d (r + 1)).1, false, (rwE d (r + 1)).2) := row_X hB (by omega) hk
      rw [if_neg (by rw [hf]; decide), eX] at hX
      refine rrw_row hB (k := k) (r := r + 1) (by omega) ?_ ?_ X hX
      · intro i hi
        by_cases hir : i = r
        · subst hir
          exact ⟨hk, kRow_to (kRow_F (S := S) hB (by omega) hk) (fun k' h6 h10 j' => by
            simp only [u_1]
            rw [if_neg (by omega)]) (fun j' => by
            simp only [u_1]
            rw [if_neg (by omega)])⟩
        · have := rowF_ne (S := S) (i := r) (f := i) (d := d) (e := 3500) (r := r) (ρ := ((rwE d r).1, false, (rwE d r).2)) (by omega)
          exact ⟨(h1 i (by omega)).1, kRow_to (h1 i (by omega)).2 (fun k' h6 h10 j' => by
            simp only [u_1]
            rw [if_neg (by omega), this.1]) (fun j' => by
            simp only [u_1]
            rw [if_neg (by omega), this.2])⟩
      · intro j hj
        by_cases hjr : j = r + 1
        · subst hjr
          simp [u_1]
        · have h3 := h2 j (by omega)
          simp only [u_1]
          rw [if_neg (by omega), if_neg (by omega), rowF_oth (by omega)]
          exact h3
