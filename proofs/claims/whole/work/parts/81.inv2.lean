/-! the invariant over the calls: those that leave all, rest, lean, drop, check, change, fact -/
section
variable {S T : pS} {n b c r u : Nat}
/-- what the reference keeps for itself -/
def kX (k j : Nat) : Prop := (k = 30 ∧ (j = 0 ∨ j = 30 ∨ j = 32 ∨ j = 33 ∨ j = 34 ∨ j = 41)) ∨ (49 ≤ k ∧ k ≤ 51) ∨ (60 ≤ k ∧ k ≤ 62)
theorem J_x (h : J S n b c r u) (e1 : ∀ k i j, ¬ kX k j → T.1 k i j = S.1 k i j) (e2 : ∀ k i j, ¬ kX k j → T.2.1 k i j = S.2.1 k i j) (e3 : T.2.2 = S.2.2) : J T n b c r u := by
  refine ⟨JT_c h.jT (fun k i j hk => e1 k i j ?_), JB_c h.jB (fun k i j hk => e1 k i j ?_) (fun k i j hk => e2 k i j ?_), JN_c h.jN (fun k i j hk => e1 k i j ?_), JD_c h.jD (fun k i j hk => e1 k i j ?_) (fun k i j hk => e2 k i j ?_), JO_c h.jO (fun k i j hk => e1 k i j ?_) (fun j _ => by rw [e3])⟩
  all_goals simp only [kT, kB, kBl, kN, kD, kDl, kO] at hk
  all_goals unfold kX
  all_goals omega
theorem J_t0 {v : Int32} (h : J S n b c r u) : J (uI S 30 0 0 v) n b c r u := by
  refine J_x h (fun k i j hk => ?_) (fun _ _ _ _ => rfl) rfl
  unfold kX at hk
  simp only [u_1]
  rw [if_neg (by omega)]
theorem J_uX {k : Nat} {f : Nat → Int32} (hk : (49 ≤ k ∧ k ≤ 51) ∨ (60 ≤ k ∧ k ≤ 62)) (h : J S n b c r u) : J (uX S k f) n b c r u := by
  refine J_x h (fun k' i j hk' => ?_) (fun _ _ _ _ => rfl) rfl
  unfold kX at hk'
  simp only [uX_1]
  rw [if_neg (by omega)]
theorem J_aS {x y : Int32} (h : J S n b c r u) : J (aS S x y) n b c r u := by
  refine J_x h (fun k' i j hk' => ?_) (fun _ _ _ _ => rfl) rfl
  unfold kX at hk'
  simp only [aS_1]
  rw [if_neg (by omega), if_neg (by omega)]
theorem J_mS {bs : List Int32} (h : J S n b c r u) : J (mS S bs) n b c r u := by
  refine J_x h (fun k' i j hk' => ?_) (fun _ _ _ _ => rfl) rfl
  unfold kX at hk'
  simp only [mS_1]
  rw [if_neg (by omega), if_neg (by omega)]
theorem J_usable {x : Int32} (h : J S n b c r u) : J (usbM S S n x) n b c r u := by
  unfold usbM
  split
  · exact J_t0 h
  · split
    · exact J_t0 h
    · exact J_uX (by omega) (J_t0 h)
/-! rest -/
theorem rf_rest {x : Int32} : rfE S (rstC S x).2 := by
  unfold rstC
  repeat' split
  all_goals first | exact rfE_0 S | skip
  unfold adT
  exact rfE_uI (by omega) (rfE_uI (by omega) (rfE_uI (by omega) (rfE_uI (by omega) (rfE_0 S))))
theorem J_rest {x : Int32} (h : J S n b c r u) : J (rstM (rstC S x).2 S x) n b c r u := by
  unfold rstM rstC
  by_cases h1 : ¬ S.1 11 0 1 = 0
  · rw [if_pos h1, if_pos h1]
    exact J_t0 h
  rw [if_neg h1, if_neg h1]
  by_cases h2 : inr x 16 = false
  · rw [if_pos h2, if_pos h2]
    exact J_t0 h
  rw [if_neg h2, if_neg h2]
  by_cases h3 : am (S.1 7 61) x (tcC S 61) = true
  · rw [if_pos h3, if_pos h3]
    exact J_t0 h
  rw [if_neg h3, if_neg h3]
  by_cases h4 : 4 ≤ tcC S 61
  · rw [if_pos h4, if_pos h4]
    exact J_t0 h
  rw [if_neg h4, if_neg h4]
  obtain ⟨y, hy, rfl⟩ := inr_of (by omega) (nft h2)
  obtain ⟨t, ht⟩ : ∃ t, tcC S 61 = t := ⟨_, rfl⟩
  obtain ⟨N, hN⟩ := h.jN
  obtain ⟨w1, w2, w3, w4, w5, w6⟩ := N
  rw [ht] at w1 w2 w5 h4 ⊢
  unfold adT
  refine ⟨JT_c h.jT (fun k i j hk => ?_), JB_c h.jB (fun k i j hk => ?_) (fun k i j hk => rfl), ?_, JD_c h.jD (fun k i j hk => ?_) (fun k i j hk => rfl), JO_c h.jO (fun k i j hk => ?_) (fun j _ => rfl)⟩
  · unfold kT at hk
    simp only [u_1]
    repeat rw [if_neg (by omega)]
  · have hn := h.jB.B.2.1
    unfold kB at hk
    simp only [u_1]
    repeat rw [if_neg (by omega)]
  · have et : tcC (uI (uI (t0 (uI (uI (uI (uI S 7 61 t (nI y)) 8 61 t 0) 9 61 t 0) 6 61 4 (nI (t + 1)))) 46 0 t (nI y)) 30 0 14 (nI (t + 1))) 61 = t + 1 := by
      unfold tcC
      simp [u_1, nN_nI (show t + 1 < 2147483648 by omega)]
    have ef : fcC (uI (uI (t0 (uI (uI (uI (uI S 7 61 t (nI y)) 8 61 t 0) 9 61 t 0) 6 61 4 (nI (t + 1)))) 46 0 t (nI y)) 30 0 14 (nI (t + 1))) 61 = fcC S 61 := by
      unfold fcC
      simp [u_1]
    obtain ⟨m1, m2, m3, m4⟩ := hN
    rw [ht] at m2
    refine ⟨⟨?_, ?_, ?_, ?_, ?_, ?_⟩, ?_, ?_, ?_, ?_⟩
    · rw [et]
      simp [u_1]
    · rw [et]
      omega
    · rw [ef]
      simpa [u_1] using w3
    · rw [ef]
      exact w4
    · rw [et]
      intro k hk
      unfold thC
      by_cases hkt : k = t
      · subst hkt
        simp [u_1, nN_nI (show y < 2147483648 by omega), hy]
      · have := w5 k (by omega)
        unfold thC at this
        simpa [u_1, hkt] using this
    · rw [ef]
      intro k hk
      have := w6 k hk
      unfold onC at this ⊢
      simpa [u_1] using this
    · simp [u_1]
    · rw [et]
      intro k hk
      by_cases hkt : k = t
      · subst hkt
        simp [u_1]
      · have := m2 k (by omega)
        simpa [u_1, hkt] using this
    · simpa [u_1] using m3
    · rw [ef]
      intro k hk
      simpa [u_1] using m4 k hk
  · unfold kD at hk
    simp only [u_1]
    repeat rw [if_neg (by omega)]
  · unfold kO at hk
    simp only [u_1]
    repeat rw [if_neg (by omega)]
/-! lean -/
theorem rf_lean {x : Int32} : rfE S (lenC S n x).2 := by
  unfold lenC
  repeat' split
  all_goals first | exact rfE_0 S | skip
  unfold adF
  exact rfE_uI (by omega) (rfE_uI (by omega) (rfE_0 S))
theorem J_lean {x : Int32} (h : J S n b c r u) : J (lenM (lenC S n x).2 S n x) n b c r u := by
  have hn := h.jB.B.2.1
  unfold lenM lenC
  by_cases h1 : ¬ S.1 11 0 1 = 0
  · rw [if_pos h1, if_pos h1]
    exact J_t0 h
  rw [if_neg h1, if_neg h1]
  by_cases h2 : inr x n = false
  · rw [if_pos h2, if_pos h2]
    exact J_t0 h
  rw [if_neg h2, if_neg h2]
  by_cases h3 : am (S.1 10 61) x (fcC S 61) = true
  · rw [if_pos h3, if_pos h3]
    exact J_t0 h
  rw [if_neg h3, if_neg h3]
  by_cases h4 : 3 ≤ fcC S 61
  · rw [if_pos h4, if_pos h4]
    exact J_t0 h
  rw [if_neg h4, if_neg h4]
  obtain ⟨y, hy, rfl⟩ := inr_of (by omega) (nft h2)
  obtain ⟨t, ht⟩ : ∃ t, fcC S 61 = t := ⟨_, rfl⟩
  obtain ⟨N, hN⟩ := h.jN
  obtain ⟨w1, w2, w3, w4, w5, w6⟩ := N
  rw [ht] at w3 w4 w6 h4 ⊢
  unfold adF
  refine ⟨JT_c h.jT (fun k i j hk => ?_), JB_c h.jB (fun k i j hk => ?_) (fun k i j hk => rfl), ?_, JD_c h.jD (fun k i j hk => ?_) (fun k i j hk => rfl), JO_c h.jO (fun k i j hk => ?_) (fun j _ => rfl)⟩
  · unfold kT at hk
    simp only [u_1]
    repeat rw [if_neg (by omega)]
  · unfold kB at hk
    simp only [u_1]
    repeat rw [if_neg (by omega)]
  · have et : fcC (uI (uI (t0 (uI (uI S 10 61 t (nI y)) 6 61 8 (nI (t + 1)))) 48 0 t (nI y)) 30 0 16 (nI (t + 1))) 61 = t + 1 := by
      unfold fcC
      simp [u_1, nN_nI (show t + 1 < 2147483648 by omega)]
    have ef : tcC (uI (uI (t0 (uI (uI S 10 61 t (nI y)) 6 61 8 (nI (t + 1)))) 48 0 t (nI y)) 30 0 16 (nI (t + 1))) 61 = tcC S 61 := by
      unfold tcC
      simp [u_1]
    obtain ⟨m1, m2, m3, m4⟩ := hN
    rw [ht] at m4
    refine ⟨⟨?_, ?_, ?_, ?_, ?_, ?_⟩, ?_, ?_, ?_, ?_⟩
    · rw [ef]
      simpa [u_1] using w1
    · rw [ef]
      exact w2
    · rw [et]
      simp [u_1]
    · rw [et]
      omega
    · rw [ef]
      intro k hk
      have := w5 k hk
      unfold thC at this ⊢
      simpa [u_1] using this
    · rw [et]
      intro k hk
      unfold onC
      by_cases hkt : k = t
      · subst hkt
        simp [u_1, nN_nI (show y < 2147483648 by omega), hy]
      · have := w6 k (by omega)
        unfold onC at this
        simpa [u_1, hkt] using this
    · simpa [u_1] using m1
    · rw [ef]
      intro k hk
      simpa [u_1] using m2 k hk
    · simp [u_1]
    · rw [et]
      intro k hk
      by_cases hkt : k = t
      · subst hkt
        simp [u_1]
      · have := m4 k (by omega)
        simpa [u_1, hkt] using this
  · unfold kD at hk
    simp only [u_1]
    repeat rw [if_neg (by omega)]
  · unfold kO at hk
    simp only [u_1]
    repeat rw [if_neg (by omega)]
end
