/-! the invariant over the calls: drop, check, change -/
theorem rsF_base {base : Nat → Bool} {on : Nat → Nat → Nat} {fc : Nat → Nat} : ∀ {n i : Nat}, i < n → rsF base on fc n i = false → base i = false
  | 0, i, h, _ => by omega
  | n + 1, i, h, hf => by
    unfold rsF at hf
    by_cases hi : i = n
    · rw [if_pos hi] at hf
      rw [hi]
      exact (Bool.or_eq_false_iff.mp hf).1
    · rw [if_neg hi] at hf
      exact rsF_base (by omega) hf
section
variable {S T : pS} {n b c r u : Nat}
theorem rf_drop {x : Int32} : rfE S (drpC S n x).2 := by
  unfold drpC
  repeat' split
  all_goals first | exact rfE_0 S | exact rfE_uI (by omega) (rfE_0 S)
theorem J_drop {x : Int32} (h : J S n b c r u) : J (drpM (drpC S n x).2 S n x) n b c r u := by
  have hn := h.jB.B.2.1
  unfold drpM drpC
  by_cases h1 : ¬ S.1 11 0 1 = 0
  · rw [if_pos h1, if_pos h1]
    exact J_t0 h
  rw [if_neg h1, if_neg h1]
  by_cases h2 : inr x n = false
  · rw [if_pos h2, if_pos h2]
    exact J_t0 h
  rw [if_neg h2, if_neg h2]
  by_cases h3 : drC S (nN x) = true
  · rw [if_pos h3, if_pos h3]
    exact J_t0 h
  rw [if_neg h3, if_neg h3]
  obtain ⟨y, hy, rfl⟩ := inr_of (by omega) (nft h2)
  rw [nN_nI (by omega)]
  refine ⟨JT_c h.jT (fun k i j hk => ?_), JB_g h.jB (fun k i j hk => ?_) (fun k i j hk => rfl) (fun i hi => ?_) (fun i hi => ?_) (fun i hi => ?_) (fun i hi hc => ?_), JN_c h.jN (fun k i j hk => ?_), JD_c h.jD (fun k i j hk => ?_) (fun k i j hk => rfl), JO_c h.jO (fun k i j hk => ?_) (fun j _ => rfl)⟩
  · unfold kT at hk
    simp only [u_1]
    repeat rw [if_neg (by omega)]
  · unfold kB' at hk
    simp only [u_1]
    repeat rw [if_neg (by omega)]
  · have := (h.jB.hB.2 i hi).2.2.2.2.2.2.1
    simpa [u_1] using this
  · have := (h.jB.hB.2 i hi).2.2.2.2.2.2.2
    by_cases hiy : i = y
    · simp [u_1, hiy]
    · simpa [u_1, hiy] using this
  · have := h.jB.x1 i hi
    unfold chC at this ⊢
    simpa [u_1] using this
  · have hc2 : chC S i = true := by
      unfold chC at hc ⊢
      simpa [u_1] using hc
    exact (holdsC_congr (S := S) (by simp [u_1]) (by simp [u_1]) (by simp [u_1]) (by funext j; simp [u_1]) (by funext j; simp [u_1]) (by funext j; simp [u_1]) (by funext j; simp [u_1]) (fun k _ => by simp [u_1]) (fun k _ => by simp [u_1]) (by rfl) (fun k _ => by rfl)).trans (h.jB.x3 i hi hc2)
  · unfold kN at hk
    simp only [u_1]
    repeat rw [if_neg (by omega)]
  · unfold kD at hk
    simp only [u_1]
    repeat rw [if_neg (by omega)]
  · unfold kO at hk
    simp only [u_1]
    repeat rw [if_neg (by omega)]
theorem rf_check {x : Int32} : rfE S (chkC S n x).2 := by
  unfold chkC
  repeat' split
  all_goals first | exact rfE_0 S | exact rfE_uI (by omega) (rfE_0 S)
theorem J_flag {y f : Nat} {v w2 w3 : Int32} (hy : y < n) (hn : n ≤ 60) (hf : f = 2 ∨ f = 3) (h : J S n b c r u) (h43 : w2 = (uI S 6 y f v).1 6 y 2) (h44 : w3 = (uI S 6 y f v).1 6 y 3) (hx1 : (uI S 6 y f v).1 6 y 2 = b2i (chC (uI S 6 y f v) y)) (hx3 : chC (uI S 6 y f v) y = true → holdsC S y = true) {g : Nat → Int32} : J (uI (uI (uX (t0 (uI S 6 y f v)) 51 g) 43 0 y w2) 44 0 y w3) n b c r u := by
  refine ⟨JT_c h.jT (fun k i j hk => ?_), JB_g h.jB (fun k i j hk => ?_) (fun k i j hk => rfl) (fun i hi => ?_) (fun i hi => ?_) (fun i hi => ?_) (fun i hi hc => ?_), JN_c h.jN (fun k i j hk => ?_), JD_c h.jD (fun k i j hk => ?_) (fun k i j hk => rfl), JO_c h.jO (fun k i j hk => ?_) (fun j _ => rfl)⟩
  · unfold kT at hk
    simp only [u_1, uX_1]
    repeat rw [if_neg (by omega)]
  · unfold kB' at hk
    simp only [u_1, uX_1]
    repeat rw [if_neg (by omega)]
  · have := (h.jB.hB.2 i hi).2.2.2.2.2.2.1
    by_cases hiy : i = y
    · subst hiy
      exact Eq.trans (b := w2) (by simp [u_1]) (h43.trans rfl)
    · simp only [u_1, uX_1]
      repeat rw [if_neg (by omega)]
      exact this
  · have := (h.jB.hB.2 i hi).2.2.2.2.2.2.2
    by_cases hiy : i = y
    · subst hiy
      exact Eq.trans (b := w3) (by simp [u_1]) (h44.trans rfl)
    · simp only [u_1, uX_1]
      repeat rw [if_neg (by omega)]
      exact this
  · by_cases hiy : i = y
    · subst hiy
      exact hx1
    · have := h.jB.x1 i hi
      unfold chC at this ⊢
      simp only [u_1, uX_1]
      repeat rw [if_neg (by omega)]
      exact this
  · refine (holdsC_congr (S := S) (by simp only [u_1, uX_1]; repeat rw [if_neg (by omega)]) (by simp only [u_1, uX_1]; repeat rw [if_neg (by omega)]) (by simp only [u_1, uX_1]; repeat rw [if_neg (by omega)]) (by funext j; simp [u_1, uX_1]) (by funext j; simp [u_1, uX_1]) (by funext j; simp [u_1, uX_1]) (by funext j; simp [u_1, uX_1]) (fun k _ => by simp [u_1, uX_1]) (fun k _ => by simp [u_1, uX_1]) (by rfl) (fun k _ => by rfl)).trans ?_
    by_cases hiy : i = y
    · subst hiy
      exact hx3 hc
    · refine h.jB.x3 i hi ?_
      unfold chC at hc ⊢
      simp only [u_1, uX_1] at hc
      rw [if_neg (by omega), if_neg (by omega), if_neg (by omega), if_neg (by omega), if_neg (by omega)] at hc
      exact hc
  · unfold kN at hk
    simp only [u_1, uX_1]
    repeat rw [if_neg (by omega)]
  · unfold kD at hk
    simp only [u_1, uX_1]
    repeat rw [if_neg (by omega)]
  · unfold kO at hk
    simp only [u_1, uX_1]
    repeat rw [if_neg (by omega)]
theorem J_check {x : Int32} (h : J S n b c r u) : J (chkM (chkC S n x).2 S n x) n b c r u := by
  have hn := h.jB.B.2.1
  unfold chkM chkC
  by_cases h1 : ¬ S.1 11 0 1 = 0
  · rw [if_pos h1, if_pos h1]
    exact J_t0 h
  rw [if_neg h1, if_neg h1]
  by_cases h2 : inr x n = false
  · rw [if_pos h2, if_pos h2]
    exact J_t0 h
  rw [if_neg h2, if_neg h2]
  by_cases h3 : drC S (nN x) = true ∨ allB (UC S (nN x)) (onC S (nN x)) (fcC S (nN x)) = false
  · rw [if_pos h3, if_pos h3]
    exact J_uX (by omega) (J_t0 h)
  rw [if_neg h3, if_neg h3]
  obtain ⟨y, hy, rfl⟩ := inr_of (by omega) (nft h2)
  rw [nN_nI (by omega)] at h3 ⊢
  have hd : S.1 6 y 3 = 0 := by
    have := nf2 (fun z => h3 (Or.inl z))
    unfold drC at this
    simpa using this
  have hx := h.jB.x1 y hy
  by_cases h4 : holdsC S y = true
  · rw [if_pos h4, h4]
    refine J_flag hy hn (Or.inl rfl) h ?_ ?_ ?_ (fun _ => h4)
    · simp [u_1, b2i]
    · simp [u_1, b2i, hd]
    · unfold chC
      simp [u_1, b2i]
  · rw [if_neg h4, nf2 h4]
    have hch : chC S y = false := nf2 (fun z => h4 (h.jB.x3 y hy z))
    rw [hch] at hx
    have hx : S.1 6 y 2 = 0 := hx
    refine J_flag hy hn (Or.inr rfl) h ?_ ?_ ?_ (fun hc => ?_)
    · simp [u_1, b2i, hx]
    · simp [u_1, b2i]
    · unfold chC
      simp [u_1, b2i, hx]
    · unfold chC at hc
      simp [u_1, hx] at hc
theorem rf_change {x d : Int32} : rfE S (chgC S n x d).2 := by
  unfold chgC
  repeat' split
  all_goals first | exact rfE_0 S | skip
  have h1 : rfE S (uI (uI S 2 0 (nN x) d) 3 0 (nN x) (S.1 3 0 (nN x) + 1)) := rfE_uI (by omega) (rfE_uI (by omega) (rfE_0 S))
  intro k hk
  refine ⟨?_, (h1 k hk).2⟩
  funext i j
  show (if k = 6 ∧ _ then _ else _) = _
  rw [if_neg (by omega), (h1 k hk).1]
theorem J_change {x d : Int32} (h : J S n b c r u) : J (chgM (chgC S n x d).2 S n x d) n b c r u := by
  have hn := h.jB.B.2.1
  unfold chgM chgC
  by_cases h1 : ¬ S.1 11 0 1 = 0
  · rw [if_pos h1, if_pos h1]
    exact J_t0 h
  rw [if_neg h1, if_neg h1]
  by_cases h2 : inr x 16 = false
  · rw [if_pos h2, if_pos h2]
    exact J_t0 h
  rw [if_neg h2, if_neg h2]
  obtain ⟨y, hy, rfl⟩ := inr_of (by omega) (nft h2)
  rw [nN_nI (by omega)]
  have eR : RU (uI (uI S 2 0 y d) 3 0 y (S.1 3 0 y + 1)) (nI y) n = RU S (nI y) n := rfl
  rw [eR]
  obtain ⟨R, hR⟩ : ∃ R, RU S (nI y) n = R := ⟨_, rfl⟩
  rw [hR]
  refine J_uX (by omega) ?_
  have hS1 : ∀ S1, S1 = unS (uI (uI S 2 0 y d) 3 0 y (S.1 3 0 y + 1)) R n → J (uX (uI (uI (t0 S1) 32 0 y d) 33 0 y (S.1 3 0 y + 1)) 43 (ckX R n (S.1 43 0))) n b c r u := by
    intro S1 hS1
    have e1 : ∀ k i j, S1.1 k i j = if k = 6 ∧ j = 2 ∧ i < n ∧ R i = true then 0 else if k = 3 ∧ i = 0 ∧ j = y then S.1 3 0 y + 1 else if k = 2 ∧ i = 0 ∧ j = y then d else S.1 k i j := fun k i j => by rw [hS1]; rfl
    have e2 : S1.2 = S.2 := by rw [hS1]; rfl
    have hr := h.jB.hB.2
    refine ⟨?_, JB_g h.jB (fun k i j hk => ?_) (fun k i j hk => ?_) (fun i hi => ?_) (fun i hi => ?_) (fun i hi => ?_) (fun i hi hc => ?_), JN_c h.jN (fun k i j hk => ?_), JD_c h.jD (fun k i j hk => ?_) (fun k i j hk => ?_), JO_c h.jO (fun k i j hk => ?_) (fun j _ => ?_)⟩
    · obtain ⟨t1, t2⟩ := h.jT
      refine ⟨?_, ?_⟩
      · funext j
        have := congrFun t1 j
        simp only [u_1, uX_1, e1]
        by_cases hj : j = y
        · simp [hj]
        · simpa [hj] using this
      · funext j
        have := congrFun t2 j
        simp only [u_1, uX_1, e1]
        by_cases hj : j = y
        · simp [hj]
        · simpa [hj] using this
    · unfold kB' at hk
      simp only [u_1, uX_1, e1]
      repeat rw [if_neg (by omega)]
    · show S1.2.1 k i j = _
      rw [e2]
    · have := (hr i hi).2.2.2.2.2.2.1
      simp only [u_1, uX_1, e1, ckX]
      by_cases hRi : R i = true
      · simp [hRi, hi]
      · simpa [hRi, hi] using this
    · have := (hr i hi).2.2.2.2.2.2.2
      simp only [u_1, uX_1, e1, ckX]
      simpa using this
    · have := h.jB.x1 i hi
      unfold chC at this ⊢
      simp only [u_1, uX_1, e1]
      by_cases hRi : R i = true
      · simp [hRi, hi, b2i]
      · simpa [hRi, hi] using this
    · have hc2 : R i = false ∧ chC S i = true := by
        unfold chC at hc ⊢
        simp only [u_1, uX_1, e1] at hc
        by_cases hRi : R i = true
        · simp [hRi, hi] at hc
        · simpa [hRi, hi] using hc
      have hb : am (S.1 7 i) (nI y) (tcC S i) = false := rsF_base (base := fun i => am (S.1 7 i) (nI y) (tcC S i)) hi (by rw [← hR] at hc2; exact hc2.1)
      have hw := h.jB.B.2.2 i hi
      have hne : ∀ k, k < tcC S i → ¬ thC S i k = y := fun k hk z => by
        have h5 := (hw.2.2.2.2.1 k hk).1
        rw [z] at h5
        have : am (S.1 7 i) (nI y) (tcC S i) = true := am_iff.mpr ⟨k, hk, h5⟩
        rw [hb] at this
        cases this
      exact (holdsC_congr (S := S) (by simp [u_1, uX_1, e1]) (by simp [u_1, uX_1, e1]) (by simp [u_1, uX_1, e1]) (by funext j; simp [u_1, uX_1, e1]) (by funext j; simp [u_1, uX_1, e1]) (by funext j; simp [u_1, uX_1, e1]) (by funext j; simp [u_1, uX_1, e1]) (fun k hk => by simp [u_1, uX_1, e1, hne k hk]) (fun k hk => by simp [u_1, uX_1, e1, hne k hk]) (by show S1.2.1 6 i 1 = _; rw [e2]) (fun k _ => by show S1.2.1 6 _ 1 = _; rw [e2])).trans (h.jB.x3 i hi hc2.2)
    · unfold kN at hk
      simp only [u_1, uX_1, e1]
      repeat rw [if_neg (by omega)]
    · unfold kD at hk
      simp only [u_1, uX_1, e1]
      repeat rw [if_neg (by omega)]
    · show S1.2.1 k i j = _
      rw [e2]
    · unfold kO at hk
      simp only [u_1, uX_1, e1]
      repeat rw [if_neg (by omega)]
    · show S1.2.2 0 0 j = _
      rw [e2]
  have e9 : ∀ X, chT X S (nI y) d = uI (uI (t0 X) 32 0 y d) 33 0 y (S.1 3 0 y + 1) := fun X => by
    unfold chT
    rw [nN_nI (by omega)]
  rw [e9]
  exact hS1 _ rfl
end
