/-! the invariant over the calls: shelf, swap, move, set, poke -/
theorem spn_in {x y : Int32} {L : Nat} (hL : L ≤ 4000) (h : spn x y L = true) : ∃ a c : Nat, x = nI a ∧ y = nI c ∧ a + c ≤ L := by
  unfold spn at h
  have h := of_decide_eq_true h
  refine ⟨x.toInt.toNat, y.toInt.toNat, ?_, ?_, by omega⟩
  · apply Int32.toInt_inj.mp
    rw [nI_toInt (by omega)]
    omega
  · apply Int32.toInt_inj.mp
    rw [nI_toInt (by omega)]
    omega
section
variable {S T : pS} {n b c r u : Nat}
theorem JO_only (h : J S n b c r u) {b2 c2 : Nat} (e1 : ∀ k i j, ¬ (k = 20 ∨ k = 21 ∨ k = 18 ∨ k = 19 ∨ k = 50 ∨ k = 60 ∨ k = 62 ∨ k = 68 ∨ k = 71 ∨ (k = 30 ∧ (j = 0 ∨ j = 30 ∨ (35 ≤ j ∧ j ≤ 39)))) → T.1 k i j = S.1 k i j) (e2 : ∀ k i j, ¬ k = 18 → T.2.1 k i j = S.2.1 k i j) (hO : JO T b2 c2) : J T n b2 c2 r u := by
  refine ⟨JT_c h.jT (fun k i j hk => e1 k i j ?_), JB_c h.jB (fun k i j hk => e1 k i j ?_) (fun k i j hk => e2 k i j ?_), JN_c h.jN (fun k i j hk => e1 k i j ?_), JD_c h.jD (fun k i j hk => e1 k i j ?_) (fun k i j hk => e2 k i j ?_), hO⟩
  all_goals simp only [kT, kB, kBl, kN, kD, kDl] at hk
  all_goals omega
theorem rf_shelf {k m : Int32} : rfE S (shfC S c k m).2 := by
  unfold shfC
  repeat' split
  all_goals first | exact rfE_0 S | skip
  all_goals
    intro k' hk'
    refine ⟨?_, rfl⟩
    funext i j
    simp only [zrS, u_1]
    repeat rw [if_neg (by omega)]
theorem J_shelf {k m : Int32} (h : J S n b c r u) : J (shfM (shfC S c k m).2 S k m) n b c r u := by
  unfold shfM shfC
  by_cases h1 : ¬ S.1 11 0 1 = 0
  · rw [if_pos h1, if_pos h1]
    exact J_t0 h
  rw [if_neg h1, if_neg h1]
  by_cases h2 : inr k 2 = false ∨ ¬ m ≤ 4000
  · rw [if_pos h2, if_pos h2]
    exact J_t0 h
  rw [if_neg h2, if_neg h2]
  by_cases h3 : m < 0
  · rw [if_pos h3, if_pos h3]
    exact J_t0 h
  rw [if_neg h3, if_neg h3]
  have hm4 : m ≤ 4000 := Classical.not_not.mp (fun z => h2 (Or.inr z))
  obtain ⟨y, hy, rfl⟩ := nI_of2 (n := 4000) (by decide) h3 hm4
  rw [nN_nI (by omega)]
  obtain ⟨v, hv⟩ : ∃ v : Int32, (if k = 0 then 1 else 2) = v := ⟨_, rfl⟩
  rw [hv]
  obtain ⟨⟨o1, o2, o3, o4, o5, ⟨o6, o7⟩, o8, o9⟩, p1, p2, p3, p4, p5, p6⟩ := h.jO
  refine JO_only h (fun k i j hk => ?_) (fun k i j hk => rfl) ⟨⟨o1, o2, o3, o4, o5, ⟨?_, ?_⟩, ?_, ?_⟩, ?_, ?_, ?_, ?_, ?_, ?_⟩
  · simp only [u_1, uX_1, zrS]
    repeat rw [if_neg (by omega)]
  · simpa [u_1, uX_1, zrS, o5] using o6
  · simpa [u_1, uX_1, zrS, o5] using o7
  · simp [u_1, uX_1, zrS, nN_nI (show y < 2147483648 by omega)]
  · simpa [u_1, uX_1, zrS, nN_nI (show y < 2147483648 by omega)] using hy
  · simpa [u_1, uX_1, zrS, o5] using p1
  · simpa [u_1, uX_1, zrS, o5] using p2
  · intro j hj
    simpa [u_1, uX_1, zrS, o5] using p3 j hj
  · simp [u_1, uX_1, zrS]
  · simp [u_1, uX_1, zrS]
  · intro j hj
    have := p6 j hj
    by_cases hjy : j < y
    · simp [u_1, uX_1, zrS, hjy]
    · simpa [u_1, uX_1, zrS, hjy] using this
theorem rf_swap : rfE S (swpC S b c).2 := by
  unfold swpC
  split
  · exact rfE_0 S
  · exact rfE_0 S
/-- OUT and SHELF behind 'swap' -/
theorem J_swap (h : J S n b c r u) : (J (swpM (swpC S b c).2 S) n b c r u ∧ (swpC S b c).2 = S) ∨ J (swpM (swpC S b c).2 S) n c b r u := by
  unfold swpM swpC
  by_cases h1 : ¬ S.1 11 0 1 = 0
  · rw [if_pos h1, if_pos h1]
    exact Or.inl ⟨J_t0 h, rfl⟩
  rw [if_neg h1, if_neg h1]
  right
  obtain ⟨⟨o1, o2, o3, o4, o5, ⟨o6, o7⟩, o8, o9⟩, p1, p2, p3, p4, p5, p6⟩ := h.jO
  refine JO_only h (fun k i j hk => ?_) (fun k i j hk => rfl) ⟨⟨?_, ?_, o4, o3, fun z => o5 z.symm, ⟨?_, ?_⟩, ?_, ?_⟩, ?_, ?_, ?_, ?_, ?_, ?_⟩
  · simp only [u_1, uX_1, swpS]
    repeat rw [if_neg (by omega)]
  · simp [u_1, uX_1, uX_2, swpS]
  · simp [u_1, uX_1, uX_2, swpS]
  · simpa [u_1, uX_1, swpS] using o8
  · simpa [u_1, uX_1, swpS] using o9
  · simpa [u_1, uX_1, swpS] using o6
  · simpa [u_1, uX_1, swpS] using o7
  · simpa [u_1, uX_1, swpS] using p4
  · simpa [u_1, uX_1, swpS] using p5
  · intro j hj
    simpa [u_1, uX_1, swpS, hj] using p6 j hj
  · simpa [u_1, uX_1, swpS] using p1
  · simpa [u_1, uX_1, swpS] using p2
  · intro j hj
    simpa [u_1, uX_1, swpS, hj] using p3 j hj
theorem rf_set {i v : Int32} : rfE S (setC S b i v).2 := by
  unfold setC
  repeat' split
  all_goals first | exact rfE_0 S | exact rfE_uI (by omega) (rfE_0 S)
theorem J_set {x v : Int32} (h : J S n b c r u) : J (setM (setC S b x v).2 S b x v) n b c r u := by
  unfold setM setC
  by_cases h1 : ¬ S.1 11 0 1 = 0
  · rw [if_pos h1, if_pos h1]
    exact J_t0 h
  rw [if_neg h1, if_neg h1]
  by_cases h2 : S.1 20 b 0 = 0
  · rw [if_pos h2, if_pos h2]
    exact J_t0 h
  rw [if_neg h2, if_neg h2]
  by_cases h3 : spn x 1 (nN (S.1 20 b 1)) = false
  · rw [if_pos h3, if_pos h3]
    exact J_t0 h
  rw [if_neg h3, if_neg h3]
  obtain ⟨w, hw⟩ : ∃ w : Int32, (if S.1 20 b 0 = 1 then v &&& 255 else v) = w := ⟨_, rfl⟩
  rw [hw]
  obtain ⟨⟨o1, o2, o3, o4, o5, ⟨o6, o7⟩, o8, o9⟩, p1, p2, p3, p4, p5, p6⟩ := h.jO
  obtain ⟨y, y1, rfl, ey1, hy⟩ := spn_in o7 (nft h3)
  rw [nN_nI (by omega)]
  refine JO_only h (fun k i j hk => ?_) (fun k i j hk => rfl) ⟨⟨o1, o2, o3, o4, o5, ⟨?_, ?_⟩, ?_, ?_⟩, ?_, ?_, ?_, ?_, ?_, ?_⟩
  · simp only [u_1, uX_1]
    repeat rw [if_neg (by omega)]
  · simpa [u_1] using o6
  · simpa [u_1] using o7
  · simpa [u_1] using o8
  · simpa [u_1] using o9
  · simpa [u_1] using p1
  · simpa [u_1] using p2
  · intro j hj
    have := p3 j hj
    by_cases hjy : j = y
    · simp [u_1, hjy]
    · simpa [u_1, hjy] using this
  · simpa [u_1] using p4
  · simpa [u_1] using p5
  · intro j hj
    have o5' : ¬ c = b := fun z => o5 z.symm
    simpa [u_1, o5'] using p6 j hj
theorem rf_move {i j m : Int32} : rfE S (movC S b c i j m).2 := by
  unfold movC
  repeat' split
  all_goals first | exact rfE_0 S | skip
  intro k' hk'
  refine ⟨?_, rfl⟩
  funext i j
  simp only [cpS]
  repeat rw [if_neg (by omega)]
theorem J_move {x y m : Int32} (h : J S n b c r u) : J (movM (movC S b c x y m).2 S b c x y m) n b c r u := by
  unfold movM movC
  by_cases h1 : ¬ S.1 11 0 1 = 0
  · rw [if_pos h1, if_pos h1]
    exact J_t0 h
  rw [if_neg h1, if_neg h1]
  by_cases h2 : S.1 20 b 0 = 0 ∨ S.1 20 c 0 = 0
  · rw [if_pos h2, if_pos h2]
    exact J_t0 h
  rw [if_neg h2, if_neg h2]
  by_cases h3 : ¬ S.1 20 b 0 = S.1 20 c 0
  · rw [if_pos h3, if_pos h3]
    exact J_t0 h
  rw [if_neg h3, if_neg h3]
  by_cases h4 : spn x m (nN (S.1 20 b 1)) = false ∨ spn y m (nN (S.1 20 c 1)) = false
  · rw [if_pos h4, if_pos h4]
    exact J_t0 h
  rw [if_neg h4, if_neg h4]
  obtain ⟨⟨o1, o2, o3, o4, o5, ⟨o6, o7⟩, o8, o9⟩, p1, p2, p3, p4, p5, p6⟩ := h.jO
  obtain ⟨i0, m0, rfl, rfl, hi⟩ := spn_in o7 (nft (fun z => h4 (Or.inl z)))
  obtain ⟨j0, m1, rfl, em, hj⟩ := spn_in o9 (nft (fun z => h4 (Or.inr z)))
  have em2 : m0 = m1 := (x_eq (by omega) (by omega)).mp em
  subst em2
  rw [nN_nI (by omega), nN_nI (by omega), nN_nI (by omega)]
  have o5' : ¬ c = b := fun z => o5 z.symm
  refine JO_only h (fun k i j hk => ?_) (fun k i j hk => rfl) ⟨⟨o1, o2, o3, o4, o5, ⟨?_, ?_⟩, ?_, ?_⟩, ?_, ?_, ?_, ?_, ?_, ?_⟩
  · simp only [u_1, uX_1, cpS]
    repeat rw [if_neg (by omega)]
  · simpa [u_1, uX_1, cpS] using o6
  · simpa [u_1, uX_1, cpS] using o7
  · simpa [u_1, uX_1, cpS] using o8
  · simpa [u_1, uX_1, cpS] using o9
  · simpa [u_1, uX_1, cpS] using p1
  · simpa [u_1, uX_1, cpS] using p2
  · intro j hj
    simpa [u_1, uX_1, cpS, o5] using p3 j hj
  · simpa [u_1, uX_1, cpS] using p4
  · simpa [u_1, uX_1, cpS] using p5
  · intro j hj9
    by_cases hjj : j0 ≤ j ∧ j < j0 + m0
    · have := p3 (i0 + (j - j0)) (by omega)
      simpa [u_1, uX_1, cpS, cpX, hjj] using this
    · have := p6 j hj9
      simp only [u_1, uX_1, cpS, cpX]
      grind
/-! poke: the class's state and the reference's -/
def pokC (S : pS) (x m : Int32) : pS := if inr x 3532 = true then uI S 12 0 (nN x) (S.1 12 0 (nN x) ^^^ (m &&& 255)) else S
theorem rf_poke {x m : Int32} : rfE S (pokC S x m) := by
  unfold pokC
  split
  · exact rfE_uI (by omega) (rfE_0 S)
  · exact rfE_0 S
theorem xor_by {v : Nat} {m : Int32} (hv : v < 256) : ∃ w : Nat, w < 256 ∧ nI v ^^^ (m &&& 255) = nI w := by
  have e255 : (255 : Int32).toBitVec = 255#32 := by decide
  have hw : (nI v ^^^ (m &&& 255)).toBitVec.toNat < 256 := by
    rw [Int32.toBitVec_xor, Int32.toBitVec_and, e255, by_I v hv, BitVec.toNat_xor, BitVec.toNat_and, BitVec.toNat_ofNat]
    apply Nat.xor_lt_two_pow (n := 8)
    · rw [Nat.mod_eq_of_lt (by omega)]; exact hv
    · exact Nat.lt_of_le_of_lt Nat.and_le_right (by decide)
  refine ⟨_, hw, ?_⟩
  rw [← Int32.toBitVec_inj, by_I _ hw]
  apply BitVec.eq_of_toNat_eq
  rw [BitVec.toNat_ofNat, Nat.mod_eq_of_lt (by omega)]
theorem J_poke {x m : Int32} (h : J S n b c r u) : J (if inr x 3532 = true then uI (t0 (pokC S x m)) 52 0 (nN x) (S.1 12 0 (nN x) ^^^ (m &&& 255)) else uI (pokC S x m) 30 0 0 1) n b c r u := by
  unfold pokC
  by_cases h1 : inr x 3532 = true
  · rw [if_pos h1, if_pos h1]
    obtain ⟨y, hy, rfl⟩ := inr_of (by omega) h1
    rw [nN_nI (by omega)]
    obtain ⟨v, hv, ev⟩ := h.jD.x4 y hy
    obtain ⟨w, hw, ew⟩ := xor_by (m := m) hv
    rw [ev, ew]
    obtain ⟨D, hD, ⟨k1, k2, k3, k4, k5, k6, k7, k8⟩, x4⟩ := h.jD
    refine ⟨JT_c h.jT (fun k i j hk => ?_), JB_c h.jB (fun k i j hk => ?_) (fun k i j hk => rfl), JN_c h.jN (fun k i j hk => ?_), ⟨?_, ?_, ⟨?_, ?_, ?_, ?_, ?_, ?_, ?_, ?_⟩, ?_⟩, JO_c h.jO (fun k i j hk => ?_) (fun j _ => rfl)⟩
    · unfold kT at hk
      simp only [u_1]
      repeat rw [if_neg (by omega)]
    · unfold kB at hk
      simp only [u_1]
      repeat rw [if_neg (by omega)]
    · unfold kN at hk
      simp only [u_1]
      repeat rw [if_neg (by omega)]
    · obtain ⟨d1, d2, d3, d4, d5⟩ := D
      refine ⟨by simpa [u_1] using d1, d2, by simpa [u_1] using d3, d4, fun j hj => by simpa [u_1] using d5 j hj⟩
    · unfold rD at hD ⊢
      simpa [u_1] using hD
    · funext j
      have := congrFun k1 j
      by_cases hj : j = y
      · simp [u_1, hj]
      · simpa [u_1, hj] using this
    · simpa [u_1] using k2
    · simpa [u_1] using k3
    · simpa [u_1] using k4
    · exact k5
    · simpa [u_1] using k6
    · simpa [u_1] using k7
    · simpa [u_1] using k8
    · intro j hj
      by_cases hjy : j = y
      · exact ⟨w, hw, by simp [u_1, hjy]⟩
      · obtain ⟨v2, hv2, e2⟩ := x4 j hj
        exact ⟨v2, hv2, by simpa [u_1, hjy] using e2⟩
    · unfold kO at hk
      simp only [u_1]
      repeat rw [if_neg (by omega)]
  · rw [if_neg h1, if_neg h1]
    exact J_t0 h
end
