/-! counting bits -/
def cnt (p : Nat → Bool) : Nat → Nat
  | 0 => 0
  | n + 1 => cnt p n + (if p n = true then 1 else 0)
theorem cnt_le (p : Nat → Bool) : ∀ n, cnt p n ≤ n
  | 0 => Nat.le_refl _
  | n + 1 => by have := cnt_le p n; unfold cnt; split <;> omega
theorem cnt_congr {p q : Nat → Bool} : ∀ {n : Nat}, (∀ j, j < n → p j = q j) → cnt p n = cnt q n
  | 0, _ => rfl
  | n + 1, h => by simp only [cnt, h n (by omega)]; rw [cnt_congr (p := p) (q := q) (n := n) (fun j hj => h j (by omega))]
theorem cnt_add {p : Nat → Bool} {m : Nat} : ∀ {n : Nat}, cnt p (m + n) = cnt p m + cnt (fun j => p (m + j)) n
  | 0 => rfl
  | n + 1 => by
    rw [← Nat.add_assoc]
    simp only [cnt]
    rw [cnt_add (p := p) (m := m) (n := n)]
    omega
theorem land_s {h m l k : Nat} (hl : l < 256) (hk : k < 256) : (256 * h + l) &&& (256 * m + k) = 256 * (h &&& m) + (l &&& k) := by
  apply Nat.eq_of_testBit_eq
  intro j
  have h1 := Nat.testBit_two_pow_mul_add h (b := l) (i := 8) hl j
  have h2 := Nat.testBit_two_pow_mul_add m (b := k) (i := 8) hk j
  have h3 := Nat.testBit_two_pow_mul_add (h &&& m) (b := l &&& k) (i := 8) (Nat.lt_of_le_of_lt Nat.and_le_left hl) j
  rw [Nat.testBit_and]
  rw [show (256 : Nat) = 2 ^ 8 from rfl, h1, h2, h3]
  split <;> simp
def bM5 : Nat → Nat | 0 => 0 | n + 1 => 256 * bM5 n + 0x55
def bM3 : Nat → Nat | 0 => 0 | n + 1 => 256 * bM3 n + 0x33
def bMf : Nat → Nat | 0 => 0 | n + 1 => 256 * bMf n + 0x0f
def bx1 (n x : Nat) : Nat := x - (x / 2 &&& bM5 n)
def bx2 (n x : Nat) : Nat := (bx1 n x &&& bM3 n) + (bx1 n x / 4 &&& bM3 n)
def bx3 (n x : Nat) : Nat := (bx2 n x + bx2 n x / 16) &&& bMf n
def bq1 (l : Nat) : Nat := l - (l / 2 &&& 0x55)
def bq2 (l : Nat) : Nat := (bq1 l &&& 0x33) + (bq1 l / 4 &&& 0x33)
def bq3 (l : Nat) : Nat := (bq2 l + bq2 l / 16) &&& 0x0f
theorem bd1 : ∀ e, e < 2 → ∀ l, l < 256 → (128 * e + l / 2 &&& 0x55) = (l / 2 &&& 0x55) := by decide +kernel
theorem bd2 : ∀ e, e < 4 → ∀ l, l < 256 → (64 * e + l / 4 &&& 0x33) = (l / 4 &&& 0x33) := by decide +kernel
theorem bd3 : ∀ e, e < 5 → ∀ l, l < 256 → (bq2 l + bq2 l / 16 + 16 * e &&& 0x0f) = bq3 l := by decide +kernel
theorem bd4 : ∀ l, l < 256 → bq2 l ≤ 68 ∧ bq2 l % 16 < 5 ∧ bq1 l < 256 ∧ bq3 l = cnt (fun j => Nat.testBit l j) 8 := by decide +kernel
theorem bx1_s {n h l : Nat} (hl : l < 256) : bx1 (n + 1) (256 * h + l) = 256 * bx1 n h + bq1 l := by
  show (256 * h + l) - ((256 * h + l) / 2 &&& (256 * bM5 n + 0x55)) = 256 * (h - (h / 2 &&& bM5 n)) + (l - (l / 2 &&& 0x55))
  have e1 : (256 * h + l) / 2 = 256 * (h / 2) + (128 * (h % 2) + l / 2) := by omega
  rw [e1, land_s (by omega) (by omega), bd1 _ (by omega) l hl]
  have h1 : (h / 2 &&& bM5 n) ≤ h := Nat.le_trans Nat.and_le_left (by omega)
  have h2 : (l / 2 &&& 0x55) ≤ l := Nat.le_trans Nat.and_le_left (by omega)
  omega
theorem bx2_s {n h l : Nat} (hl : l < 256) : bx2 (n + 1) (256 * h + l) = 256 * bx2 n h + bq2 l := by
  show (bx1 (n + 1) (256 * h + l) &&& (256 * bM3 n + 0x33)) + (bx1 (n + 1) (256 * h + l) / 4 &&& (256 * bM3 n + 0x33)) = 256 * ((bx1 n h &&& bM3 n) + (bx1 n h / 4 &&& bM3 n)) + ((bq1 l &&& 0x33) + (bq1 l / 4 &&& 0x33))
  rw [bx1_s hl]
  have h4 := (bd4 l hl).2.2.1
  have e1 : (256 * bx1 n h + bq1 l) / 4 = 256 * (bx1 n h / 4) + (64 * (bx1 n h % 4) + bq1 l / 4) := by omega
  rw [e1, land_s (by omega) (by omega), land_s (by omega) (by omega), bd2 _ (by omega) _ h4]
  omega
theorem bx2_m : ∀ {n x : Nat}, bx2 n x % 16 < 5
  | 0, x => by simp [bx2, bM3]
  | n + 1, x => by
    have e : x = 256 * (x / 256) + x % 256 := by omega
    rw [e, bx2_s (by omega)]
    have := (bd4 (x % 256) (by omega)).2.1
    omega
theorem bx3_s {n h l : Nat} (hl : l < 256) : bx3 (n + 1) (256 * h + l) = 256 * bx3 n h + bq3 l := by
  have hm := bx2_m (n := n) (x := h)
  have h4 := (bd4 l hl).1
  have e1 : (256 * bx2 n h + bq2 l) / 16 = 256 * (bx2 n h / 16) + (16 * (bx2 n h % 16) + bq2 l / 16) := by omega
  have e2 : 256 * bx2 n h + bq2 l + (256 * (bx2 n h / 16) + (16 * (bx2 n h % 16) + bq2 l / 16)) = 256 * (bx2 n h + bx2 n h / 16) + (bq2 l + bq2 l / 16 + 16 * (bx2 n h % 16)) := by omega
  have e3 : bx3 (n + 1) (256 * h + l) = ((256 * bx2 n h + bq2 l) + (256 * bx2 n h + bq2 l) / 16) &&& (256 * bMf n + 0x0f) := by
    show (bx2 (n + 1) (256 * h + l) + bx2 (n + 1) (256 * h + l) / 16) &&& bMf (n + 1) = _
    rw [bx2_s hl]
    rfl
  rw [e3, e1, e2, land_s (by omega) (by omega), bd3 _ hm l hl]
  rfl
theorem bx1_lt {n x : Nat} : bx1 n x ≤ x := Nat.sub_le _ _
theorem bx2_lt : ∀ {n x : Nat}, bx2 n x < 256 ^ n
  | 0, x => by simp [bx2, bM3]
  | n + 1, x => by
    have e : x = 256 * (x / 256) + x % 256 := by omega
    rw [e, bx2_s (by omega)]
    have h1 := (bd4 (x % 256) (by omega)).1
    have h2 := bx2_lt (n := n) (x := x / 256)
    rw [Nat.pow_succ]
    omega
theorem bl_q {P Q R : Nat} (h1 : R ≤ 68) (h2 : Q * 255 + 68 ≤ 68 * P) : (256 * Q + R) * 255 + 68 ≤ 68 * (P * 256) := by
  have h3 : 256 * (Q * 255 + 68) ≤ 256 * (68 * P) := Nat.mul_le_mul_left _ h2
  have e1 : 256 * (68 * P) = 68 * (P * 256) := by rw [Nat.mul_comm, Nat.mul_assoc]
  have e2 : 256 * (Q * 255 + 68) = 256 * Q * 255 + 256 * 68 := by rw [Nat.mul_add, Nat.mul_assoc]
  have e3 : (256 * Q + R) * 255 = 256 * Q * 255 + R * 255 := Nat.add_mul _ _ _
  have h4 : R * 255 ≤ 68 * 255 := Nat.mul_le_mul_right _ h1
  rw [e3, ← e1]
  rw [e2] at h3
  have h5 : 256 * Q * 255 + R * 255 + 68 ≤ 256 * Q * 255 + 256 * 68 := by
    rw [Nat.add_assoc]
    apply Nat.add_le_add_left
    exact Nat.le_trans (Nat.add_le_add_right h4 68) (by decide)
  exact Nat.le_trans h5 h3
theorem bx2_lt2 : ∀ {n x : Nat}, bx2 n x * 255 + 68 ≤ 68 * 256 ^ n
  | 0, x => by simp [bx2, bM3]
  | n + 1, x => by
    have e : x = 256 * (x / 256) + x % 256 := by omega
    rw [e, bx2_s (by omega)]
    have h1 := (bd4 (x % 256) (by omega)).1
    have h2 := bx2_lt2 (n := n) (x := x / 256)
    rw [Nat.pow_succ]
    exact bl_q h1 h2
theorem cnt_s {h l n : Nat} (hl : l < 256) : cnt (fun j => (256 * h + l).testBit j) (8 + n) = bq3 l + cnt (fun j => h.testBit j) n := by
  rw [cnt_add, (bd4 l hl).2.2.2]
  congr 1
  · apply cnt_congr
    intro j hj
    have := Nat.testBit_two_pow_mul_add h (b := l) (i := 8) hl j
    rw [show (256 : Nat) = 2 ^ 8 from rfl, this, if_pos hj]
  · apply cnt_congr
    intro j hj
    have := Nat.testBit_two_pow_mul_add h (b := l) (i := 8) hl (8 + j)
    rw [show (256 : Nat) = 2 ^ 8 from rfl, this, if_neg (by omega), Nat.add_sub_cancel_left]
theorem bq3_le {l : Nat} (hl : l < 256) : bq3 l ≤ 8 := by
  rw [(bd4 l hl).2.2.2]
  exact cnt_le _ _
def bx4 (x : Nat) : Nat := bx3 8 x + bx3 8 x / 256
def bx5 (x : Nat) : Nat := bx4 x + bx4 x / 65536
def bx6 (x : Nat) : Nat := bx5 x + bx5 x / 4294967296
theorem bx_all {x : Nat} (hx : x < 2 ^ 64) : bx3 8 x < 2 ^ 63 ∧ bx4 x < 2 ^ 63 ∧ bx5 x < 2 ^ 63 ∧ bx6 x < 2 ^ 64 ∧ bx6 x % 128 = cnt (fun j => x.testBit j) 64 := by
  obtain ⟨x1, b0, h0, e0⟩ : ∃ h b, b < 256 ∧ x = 256 * h + b := ⟨x / 256, x % 256, by omega, by omega⟩
  obtain ⟨x2, b1, h1, e1⟩ : ∃ h b, b < 256 ∧ x1 = 256 * h + b := ⟨x1 / 256, x1 % 256, by omega, by omega⟩
  obtain ⟨x3, b2, h2, e2⟩ : ∃ h b, b < 256 ∧ x2 = 256 * h + b := ⟨x2 / 256, x2 % 256, by omega, by omega⟩
  obtain ⟨x4, b3, h3, e3⟩ : ∃ h b, b < 256 ∧ x3 = 256 * h + b := ⟨x3 / 256, x3 % 256, by omega, by omega⟩
  obtain ⟨x5, b4, h4, e4⟩ : ∃ h b, b < 256 ∧ x4 = 256 * h + b := ⟨x4 / 256, x4 % 256, by omega, by omega⟩
  obtain ⟨x6, b5, h5, e5⟩ : ∃ h b, b < 256 ∧ x5 = 256 * h + b := ⟨x5 / 256, x5 % 256, by omega, by omega⟩
  obtain ⟨x7, b6, h6, e6⟩ : ∃ h b, b < 256 ∧ x6 = 256 * h + b := ⟨x6 / 256, x6 % 256, by omega, by omega⟩
  obtain ⟨x8, b7, h7, e7⟩ : ∃ h b, b < 256 ∧ x7 = 256 * h + b := ⟨x7 / 256, x7 % 256, by omega, by omega⟩
  have z : bx3 0 x8 = 0 := by simp [bx3, bMf]
  have q : bx3 8 x = 256 * (256 * (256 * (256 * (256 * (256 * (256 * bq3 b7 + bq3 b6) + bq3 b5) + bq3 b4) + bq3 b3) + bq3 b2) + bq3 b1) + bq3 b0 := by
    rw [e0, bx3_s h0, e1, bx3_s h1, e2, bx3_s h2, e3, bx3_s h3, e4, bx3_s h4, e5, bx3_s h5, e6, bx3_s h6, e7, bx3_s h7, z]
    omega
  have c : cnt (fun j => x.testBit j) 64 = bq3 b0 + (bq3 b1 + (bq3 b2 + (bq3 b3 + (bq3 b4 + (bq3 b5 + (bq3 b6 + bq3 b7)))))) := by
    rw [e0, show 64 = 8 + 56 from rfl, cnt_s h0, e1, show 56 = 8 + 48 from rfl, cnt_s h1, e2, show 48 = 8 + 40 from rfl, cnt_s h2, e3, show 40 = 8 + 32 from rfl, cnt_s h3, e4, show 32 = 8 + 24 from rfl, cnt_s h4, e5, show 24 = 8 + 16 from rfl, cnt_s h5, e6, show 16 = 8 + 8 from rfl, cnt_s h6, e7, show 8 = 8 + 0 from rfl, cnt_s h7]
    simp [cnt]
  have g0 := bq3_le h0
  have g1 := bq3_le h1
  have g2 := bq3_le h2
  have g3 := bq3_le h3
  have g4 := bq3_le h4
  have g5 := bq3_le h5
  have g6 := bq3_le h6
  have g7 := bq3_le h7
  rw [c]
  unfold bx6 bx5 bx4
  rw [q]
  generalize bq3 b0 = c0 at *
  generalize bq3 b1 = c1 at *
  generalize bq3 b2 = c2 at *
  generalize bq3 b3 = c3 at *
  generalize bq3 b4 = c4 at *
  generalize bq3 b5 = c5 at *
  generalize bq3 b6 = c6 at *
  generalize bq3 b7 = c7 at *
  clear q c z e0 e1 e2 e3 e4 e5 e6 e7 h0 h1 h2 h3 h4 h5 h6 h7 hx
  have p1 : (256 * (256 * (256 * (256 * (256 * (256 * (256 * c7 + c6) + c5) + c4) + c3) + c2) + c1) + c0) / 256 = 256 * (256 * (256 * (256 * (256 * (256 * c7 + c6) + c5) + c4) + c3) + c2) + c1 := by omega
  rw [p1]
  have p2 : 256 * (256 * (256 * (256 * (256 * (256 * (256 * c7 + c6) + c5) + c4) + c3) + c2) + c1) + c0 + (256 * (256 * (256 * (256 * (256 * (256 * c7 + c6) + c5) + c4) + c3) + c2) + c1) = 256 * (256 * (256 * (256 * (256 * (256 * (256 * c7 + (c6 + c7)) + (c5 + c6)) + (c4 + c5)) + (c3 + c4)) + (c2 + c3)) + (c1 + c2)) + (c0 + c1) := by omega
  rw [p2]
  have p3 : (256 * (256 * (256 * (256 * (256 * (256 * (256 * c7 + (c6 + c7)) + (c5 + c6)) + (c4 + c5)) + (c3 + c4)) + (c2 + c3)) + (c1 + c2)) + (c0 + c1)) / 65536 = 256 * (256 * (256 * (256 * (256 * c7 + (c6 + c7)) + (c5 + c6)) + (c4 + c5)) + (c3 + c4)) + (c2 + c3) := by omega
  rw [p3]
  have p4 : 256 * (256 * (256 * (256 * (256 * (256 * (256 * c7 + (c6 + c7)) + (c5 + c6)) + (c4 + c5)) + (c3 + c4)) + (c2 + c3)) + (c1 + c2)) + (c0 + c1) + (256 * (256 * (256 * (256 * (256 * c7 + (c6 + c7)) + (c5 + c6)) + (c4 + c5)) + (c3 + c4)) + (c2 + c3)) = 4294967296 * (256 * (256 * (256 * c7 + (c6 + c7)) + (c5 + c6 + c7)) + (c4 + c5 + c6 + c7)) + (256 * (256 * (256 * (c3 + c4 + c5 + c6) + (c2 + c3 + c4 + c5)) + (c1 + c2 + c3 + c4)) + (c0 + c1 + c2 + c3)) := by omega
  rw [p4]
  obtain ⟨A1, hA1⟩ : ∃ A1, 256 * (256 * c7 + (c6 + c7)) + (c5 + c6 + c7) = A1 := ⟨_, rfl⟩
  obtain ⟨B1, hB1⟩ : ∃ B1, 256 * (256 * (c3 + c4 + c5 + c6) + (c2 + c3 + c4 + c5)) + (c1 + c2 + c3 + c4) = B1 := ⟨_, rfl⟩
  have hA2 : A1 < 524288 * 2 := by omega
  have hB2 : B1 < 2 ^ 22 := by omega
  rw [hA1, hB1]
  have hsum : c0 + (c1 + (c2 + (c3 + (c4 + (c5 + (c6 + c7)))))) = (c0 + c1 + c2 + c3) + (c4 + c5 + c6 + c7) := by omega
  rw [hsum]
  have hL1 : c0 + c1 + c2 + c3 ≤ 32 := by omega
  have hL2 : c4 + c5 + c6 + c7 ≤ 32 := by omega
  have q1 : 256 * (256 * (256 * (256 * (256 * (256 * (256 * c7 + c6) + c5) + c4) + c3) + c2) + c1) + c0 < 2 ^ 63 := by omega
  have q2 : 256 * (256 * (256 * (256 * (256 * (256 * (256 * c7 + (c6 + c7)) + (c5 + c6)) + (c4 + c5)) + (c3 + c4)) + (c2 + c3)) + (c1 + c2)) + (c0 + c1) < 2 ^ 63 := by omega
  refine ⟨q1, q2, ?_⟩
  clear q1 q2 p1 p2 p3 p4 hsum hA1 hB1 g0 g1 g2 g3 g4 g5 g6 g7
  generalize c0 + c1 + c2 + c3 = L1 at *
  generalize c4 + c5 + c6 + c7 = L2 at *
  have p5 : (4294967296 * (256 * A1 + L2) + (256 * B1 + L1)) / 4294967296 = 256 * A1 + L2 := by omega
  rw [p5]
  refine ⟨by omega, by omega, by omega⟩
def tn (x : Int64) : Nat := x.toBitVec.toNat
theorem tn_lt (x : Int64) : tn x < 2 ^ 64 := x.toBitVec.isLt
theorem tn_and (a b : Int64) : tn (a &&& b) = tn a &&& tn b := by simp [tn]
theorem tn_add {a b : Int64} (h : tn a + tn b < 2 ^ 64) : tn (a + b) = tn a + tn b := by
  unfold tn at h ⊢
  rw [Int64.toBitVec_add, BitVec.toNat_add, Nat.mod_eq_of_lt h]
theorem tn_sub {a b : Int64} (h : tn b ≤ tn a) : tn (a - b) = tn a - tn b := by
  have h1 := tn_lt a
  unfold tn at h h1 ⊢
  rw [Int64.toBitVec_sub, BitVec.toNat_sub]
  omega
theorem tn_sh (x : Int64) {k : Nat} (hk : k < 64) : tn (e_ushr x (nI k)) = tn x / 2 ^ k := by
  unfold e_ushr
  rw [wb_cu k hk]
  show (x.toUInt64 >>> UInt64.ofNat k).toNat = _
  rw [UInt64.toNat_shiftRight, UInt64.toNat_ofNat', Nat.mod_eq_of_lt (show k < 2 ^ 64 by omega), Nat.mod_eq_of_lt hk, Nat.shiftRight_eq_div_pow]
  rfl
def by1 (x : Int64) : Int64 := x - (e_ushr x 1 &&& 6148914691236517205)
def by2 (x : Int64) : Int64 := (by1 x &&& 3689348814741910323) + (e_ushr (by1 x) 2 &&& 3689348814741910323)
def by3 (x : Int64) : Int64 := (by2 x + e_ushr (by2 x) 4) &&& 1085102592571150095
def by4 (x : Int64) : Int64 := by3 x + e_ushr (by3 x) 8
def by5 (x : Int64) : Int64 := by4 x + e_ushr (by4 x) 16
def by6 (x : Int64) : Int64 := by5 x + e_ushr (by5 x) 32
def bcE (x : Int64) : Int32 := (by6 x).toInt32 &&& 127
theorem to32_127 (y : Int64) : y.toInt32 &&& 127 = nI (tn y % 128) := by
  apply Int32.toBitVec_inj.mp
  apply BitVec.eq_of_toNat_eq
  rw [Int32.toBitVec_and, BitVec.toNat_and]
  have h1 : (y.toInt32).toBitVec.toNat = tn y % 2 ^ 32 := by
    rw [Int64.toBitVec_toInt32, BitVec.signExtend_eq_setWidth_of_le _ (by decide), BitVec.toNat_setWidth]
    rfl
  have h2 : (127 : Int32).toBitVec.toNat = 2 ^ 7 - 1 := by decide
  have h3 : (nI (tn y % 128)).toBitVec.toNat = tn y % 128 := by
    have : (nI (tn y % 128)).toBitVec = BitVec.ofNat 32 (tn y % 128) := by
      unfold nI
      simp
    rw [this, BitVec.toNat_ofNat]
    omega
  rw [h1, h2, h3, Nat.and_two_pow_sub_one_eq_mod]
  omega
theorem bcE_cnt (x : Int64) : bcE x = nI (cnt (bit x) 64) := by
  have hx := tn_lt x
  obtain ⟨c1, c2, c3, c4, c5⟩ := bx_all hx
  have m5 : tn 6148914691236517205 = bM5 8 := by decide
  have m3 : tn 3689348814741910323 = bM3 8 := by decide
  have mf : tn 1085102592571150095 = bMf 8 := by decide
  have e1 : tn (by1 x) = bx1 8 (tn x) := by
    have h1 : tn (e_ushr x 1 &&& 6148914691236517205) = (tn x / 2 &&& bM5 8) := by
      rw [tn_and, show (1 : Int32) = nI 1 from rfl, tn_sh x (by decide), m5]
    unfold by1
    rw [tn_sub, h1]
    · rfl
    · rw [h1]
      exact Nat.le_trans Nat.and_le_left (Nat.div_le_self _ _)
  have b2 := bx2_lt (n := 8) (x := tn x)
  have e2 : tn (by2 x) = bx2 8 (tn x) := by
    have h1 : tn (e_ushr (by1 x) 2 &&& 3689348814741910323) = (bx1 8 (tn x) / 4 &&& bM3 8) := by
      rw [tn_and, show (2 : Int32) = nI 2 from rfl, tn_sh _ (by decide), m3, e1]
    have h2 : tn (by1 x &&& 3689348814741910323) = (bx1 8 (tn x) &&& bM3 8) := by rw [tn_and, m3, e1]
    unfold by2
    rw [tn_add, h1, h2]
    · rfl
    · rw [h1, h2]
      exact b2
  have b22 : bx2 8 (tn x) + bx2 8 (tn x) / 16 < 2 ^ 64 := by
    have := bx2_lt2 (n := 8) (x := tn x)
    omega
  have e3 : tn (by3 x) = bx3 8 (tn x) := by
    have h1 : tn (e_ushr (by2 x) 4) = bx2 8 (tn x) / 16 := by rw [show (4 : Int32) = nI 4 from rfl, tn_sh _ (by decide), e2]
    unfold by3
    rw [tn_and, tn_add, mf, h1, e2]
    · rfl
    · rw [h1, e2]
      exact b22
  have e4 : tn (by4 x) = bx4 (tn x) := by
    have h1 : tn (e_ushr (by3 x) 8) = bx3 8 (tn x) / 256 := by rw [show (8 : Int32) = nI 8 from rfl, tn_sh _ (by decide), e3]
    unfold by4
    rw [tn_add, h1, e3]
    · rfl
    · rw [h1, e3]
      omega
  have e5 : tn (by5 x) = bx5 (tn x) := by
    have h1 : tn (e_ushr (by4 x) 16) = bx4 (tn x) / 65536 := by rw [show (16 : Int32) = nI 16 from rfl, tn_sh _ (by decide), e4]
    unfold by5
    rw [tn_add, h1, e4]
    · rfl
    · rw [h1, e4]
      omega
  have e6 : tn (by6 x) = bx6 (tn x) := by
    have h1 : tn (e_ushr (by5 x) 32) = bx5 (tn x) / 4294967296 := by rw [show (32 : Int32) = nI 32 from rfl, tn_sh _ (by decide), e5]
    unfold by6
    rw [tn_add, h1, e5]
    · rfl
    · rw [h1, e5]
      omega
  unfold bcE
  rw [to32_127, e6, c5]
  rfl
set_option maxHeartbeats 4000000 in
set_option maxRecDepth 100000 in
theorem m_bitCount (l : Launch) (G : pH) (x : Int64) : e_MJ13_bitCount_95d88 l [.long x] G (fun v G2 => G2 = G ∧ v = some (.int (nI (cnt (bit x) 64)))) := by
  refine ofJ13_bitCount_95d88 (Nat.le_of_ble_eq_true rfl) ?_
  intro V C Rt
  refine runJ13_bitCount_95d88 C Rt [] 60 ?_
  simp only [e_go, e_1, e_op, e_pi, e_pl, e_pr, e_p0, e_li, e_ll, e_lr, e_lk, e_ins, e_rm, e_ob, e_ai, e_aj, e_aq, e_an, e_nth, e_to, e_sw, e_cmp, k_c, k_n, k_f, k_v, k_lg, ↓reduceIte, reduceCtorEq, Nat.reduceAdd, Nat.reduceSub, Nat.reduceMul, Nat.reduceEqDiff, Nat.reduceLT, Nat.reduceLeDiff, Int.reduceAdd, Int.reduceSub, Int.reduceNeg, Int.reduceLE, Int.reduceLT, Int.reduceToNat, Int.reduceEq, Int.cast_ofNat_Int, List.mem_cons, List.not_mem_nil, List.length_cons, List.length_nil, List.set_cons_zero, List.set_cons_succ, List.toList_toArray, eq_self, true_and, and_true, and_self, or_true, true_or, false_or, or_false, or_self, not_true_eq_false, not_false_eq_true, Classical.not_not, true_implies, false_implies, implies_true, forall_const, and_false, false_and, e_up_e, va_rf_s, va_rf_n, Nat.le_refl, Nat.zero_le, Bool.false_eq_true, lv_args, DJ13_bitCount_95d88_0, DJ13_bitCount_95d88_1, FLJ13, LDJ13]
  exact congrArg (fun z => some (Value.int z)) (bcE_cnt x)
