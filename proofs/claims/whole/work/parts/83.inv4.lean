/-! the invariant over the calls: facts come; fact -/
def fNew (T : pS) (i : Nat) : Prop := wfF T i i ∧ rF T T i ∧ T.1 6 i 2 = 0 ∧ ∃ a : Nat, a < 4 ∧ T.1 6 i 0 = nI a
def kE (n k i j : Nat) : Prop := k = 2 ∨ k = 3 ∨ (6 ≤ k ∧ k ≤ 10 ∧ i < n) ∨ ((k = 35 ∨ k = 37 ∨ k = 41 ∨ k = 43 ∨ k = 44) ∧ j < n) ∨ ((k = 38 ∨ k = 39 ∨ k = 40) ∧ j < 4 * n) ∨ (k = 42 ∧ j < 3 * n)
def kEl (n k i j : Nat) : Prop := (k = 6 ∧ i < n) ∨ (k = 36 ∧ j < n)
theorem JB_ext {S T : pS} {n m : Nat} (h : JB S n) (hm : m ≤ 60) (e1 : ∀ k i j, kE n k i j → T.1 k i j = S.1 k i j) (e2 : ∀ k i j, kEl n k i j → T.2.1 k i j = S.2.1 k i j) (c4 : T.1 4 0 1 = nI m) (c3 : T.1 30 0 3 = nI m) (hnew : ∀ i, n ≤ i → i < m → fNew T i) : JB T m := by
  obtain ⟨B, hB, x1, x2, x3⟩ := h
  have f : ∀ k i, (6 ≤ k ∧ k ≤ 10 ∧ i < n) → T.1 k i = S.1 k i := fun k i hk => by funext j; exact e1 k i j (by unfold kE; omega)
  have ft : ∀ k i z, (k = 38 ∨ k = 39 ∨ k = 40) → i < n → z < 4 → T.1 k 0 (4 * i + z) = S.1 k 0 (4 * i + z) := fun k i z hk hi hz => e1 k 0 _ (by unfold kE; omega)
  have ff : ∀ i z, i < n → z < 3 → T.1 42 0 (3 * i + z) = S.1 42 0 (3 * i + z) := fun i z hi hz => e1 42 0 _ (by unfold kE; omega)
  have f0 : ∀ k i, (k = 35 ∨ k = 37 ∨ k = 41 ∨ k = 43 ∨ k = 44) → i < n → T.1 k 0 i = S.1 k 0 i := fun k i hk hi => e1 k 0 i (by unfold kE; omega)
  have g : ∀ i j, i < n → T.2.1 6 i j = S.2.1 6 i j := fun i j hi => e2 6 i j (Or.inl ⟨rfl, hi⟩)
  have g36 : ∀ j, j < n → T.2.1 36 0 j = S.2.1 36 0 j := fun j hj => e2 36 0 j (Or.inr ⟨rfl, hj⟩)
  have tc : ∀ i, i < n → tcC T i = tcC S i := fun i hi => by unfold tcC; rw [f 6 i (by omega)]
  have fc : ∀ i, i < n → fcC T i = fcC S i := fun i hi => by unfold fcC; rw [f 6 i (by omega)]
  have ec : ∀ i, i < n → chC T i = chC S i := fun i hi => by unfold chC; rw [f 6 i (by omega)]
  refine ⟨⟨c4, hm, fun i hi => ?_⟩, ⟨c3, fun i hi => ?_⟩, fun i hi => ?_, fun i hi => ?_, fun i hi hc => ?_⟩
  · by_cases hin : i < n
    · exact wfF_c (by rw [f 6 i (by omega)]) (by rw [f 6 i (by omega)]) (f 7 i (by omega)) (f 10 i (by omega)) (B.2.2 i hin)
    · exact (hnew i (by omega) hi).1
  · by_cases hin : i < n
    · obtain ⟨a1, a2, a3, a4, a5, a6, a7, a8⟩ := hB.2 i hin
      have ht4 := (B.2.2 i hin).2.1
      have hf3 := (B.2.2 i hin).2.2.2.1
      refine ⟨?_, ?_, ?_, fun k hk => ?_, ?_, fun k hk => ?_, ?_, ?_⟩
      · rw [f0 35 i (by omega) hin, f 6 i (by omega)]; exact a1
      · rw [g36 i hin, g i 1 hin]; exact a2
      · rw [f0 37 i (by omega) hin, f 6 i (by omega)]; exact a3
      · rw [tc i hin] at hk
        rw [ft 38 i k (by omega) hin (by omega), ft 39 i k (by omega) hin (by omega), ft 40 i k (by omega) hin (by omega), f 7 i (by omega), f 8 i (by omega), f 9 i (by omega)]
        exact a4 k hk
      · rw [f0 41 i (by omega) hin, f 6 i (by omega)]; exact a5
      · rw [fc i hin] at hk
        rw [ff i k hin (by omega), f 10 i (by omega)]
        exact a6 k hk
      · rw [f0 43 i (by omega) hin, f 6 i (by omega)]; exact a7
      · rw [f0 44 i (by omega) hin, f 6 i (by omega)]; exact a8
    · exact (hnew i (by omega) hi).2.1
  · by_cases hin : i < n
    · rw [ec i hin, f 6 i (by omega)]
      exact x1 i hin
    · have h0 := (hnew i (by omega) hi).2.2.1
      unfold chC
      rw [h0]
      rfl
  · by_cases hin : i < n
    · rw [f 6 i (by omega)]
      exact x2 i hin
    · exact (hnew i (by omega) hi).2.2.2
  · by_cases hin : i < n
    · rw [ec i hin] at hc
      exact (holdsC_congr (S := S) (by rw [f 6 i (by omega)]) (by rw [f 6 i (by omega)]) (by rw [f 6 i (by omega)]) (f 7 i (by omega)) (f 8 i (by omega)) (f 9 i (by omega)) (f 10 i (by omega)) (fun k _ => e1 2 0 _ (by unfold kE; omega)) (fun k _ => e1 3 0 _ (by unfold kE; omega)) (g i 1 hin) (fun k hk => g _ 1 (by have := (B.2.2 i hin).2.2.2.2.2 k hk; omega))).trans (x3 i hin hc)
    · have h0 := (hnew i (by omega) hi).2.2.1
      unfold chC at hc
      rw [h0] at hc
      simp at hc
section
variable {S T : pS} {n b c r u : Nat}
theorem fctS_1 {kind : Int32} {value : Int64} {k i j : Nat} : (fctS S n kind value).1 k i j = if k = 4 ∧ i = 0 ∧ j = 1 then nI (n + 1) else if k = 6 ∧ i = 61 ∧ (j = 0 ∨ j = 2 ∨ j = 3 ∨ j = 4 ∨ j = 8) then 0 else if i = n then (if k = 6 ∧ j = 4 then nI (tcC S 61) else if k = 6 ∧ j = 8 then nI (fcC S 61) else if k = 7 ∧ j < tcC S 61 then S.1 7 61 j else if k = 8 ∧ j < tcC S 61 then S.1 2 0 (thC S 61 j) else if k = 9 ∧ j < tcC S 61 then S.1 3 0 (thC S 61 j) else if k = 10 ∧ j < fcC S 61 then S.1 10 61 j else if k = 6 ∧ j = 0 then kind else if k = 6 ∧ (j = 2 ∨ j = 3) then 0 else S.1 k i j) else S.1 k i j := by
  unfold fctS raS clrF thC
  simp only [u_1]
  grind (splits := 60)
theorem fctS_2 {kind : Int32} {value : Int64} {k i j : Nat} : (fctS S n kind value).2.1 k i j = if k = 6 ∧ i = 61 ∧ j = 1 then 0 else if k = 6 ∧ i = n ∧ j = 1 then value else S.2.1 k i j := by
  unfold fctS raS clrF
  simp only [u_1]
  grind
theorem fcT_1 {X : pS} {kind : Int32} {value : Int64} {k i j : Nat} : (fcT X S n kind value).1 k i j = if k = 30 ∧ i = 0 ∧ j = 3 then nI (n + 1) else if k = 30 ∧ i = 0 ∧ (j = 16 ∨ j = 14 ∨ j = 0) then 0 else if (k = 43 ∨ k = 44) ∧ i = 0 ∧ j = n then 0 else if k = 42 ∧ i = 0 ∧ 3 * n ≤ j ∧ j < 3 * n + fcC S 61 then S.1 10 61 (j - 3 * n) else if k = 41 ∧ i = 0 ∧ j = n then nI (fcC S 61) else if k = 40 ∧ i = 0 ∧ 4 * n ≤ j ∧ j < 4 * n + tcC S 61 then S.1 3 0 (thC S 61 (j - 4 * n)) else if k = 39 ∧ i = 0 ∧ 4 * n ≤ j ∧ j < 4 * n + tcC S 61 then S.1 2 0 (thC S 61 (j - 4 * n)) else if k = 38 ∧ i = 0 ∧ 4 * n ≤ j ∧ j < 4 * n + tcC S 61 then S.1 7 61 (j - 4 * n) else if k = 37 ∧ i = 0 ∧ j = n then nI (tcC S 61) else if k = 35 ∧ i = 0 ∧ j = n then kind else X.1 k i j := by
  unfold fcT fcD nfO fcB nfT fcA
  simp only [u_1, uX_1]
  grind (splits := 60)
theorem fcT_2 {X : pS} {kind : Int32} {value : Int64} {k i j : Nat} : (fcT X S n kind value).2.1 k i j = if k = 36 ∧ i = 0 ∧ j = n then value else X.2.1 k i j := rfl
theorem rf_fact {kind : Int32} {value : Int64} : rfE S (fctC S n kind value).2 := by
  unfold fctC
  repeat' split
  all_goals first | exact rfE_0 S | skip
  rename_i hn
  intro k hk
  refine ⟨?_, ?_⟩
  · funext i j
    show (fctS S n kind value).1 k i j = _
    rw [fctS_1]
    rw [if_neg (by omega), if_neg (by omega)]
    by_cases hi : i = n
    · rw [if_pos hi]
      repeat rw [if_neg (by omega)]
    · rw [if_neg hi]
  · funext i j
    show (fctS S n kind value).2.1 k i j = _
    rw [fctS_2]
    repeat rw [if_neg (by omega)]
/-- how many facts there are behind 'fact' -/
def fctN (S : pS) (n : Nat) (kind : Int32) : Nat := if S.1 11 0 1 = 0 ∧ inr kind 4 = true ∧ n < 60 then n + 1 else n
theorem J_fact {kind : Int32} {value : Int64} (h : J S n b c r u) : J (fctM (fctC S n kind value).2 S n kind value) (fctN S n kind) b c r u := by
  unfold fctM fctC fctN
  by_cases h1 : ¬ S.1 11 0 1 = 0
  · rw [if_pos h1, if_pos h1, if_neg (fun z => h1 z.1)]
    exact J_t0 h
  rw [if_neg h1, if_neg h1]
  by_cases h2 : inr kind 4 = false
  · rw [if_pos h2, if_pos h2, if_neg (fun z => by rw [h2] at z; exact absurd z.2.1 (by decide))]
    exact J_t0 h
  rw [if_neg h2, if_neg h2]
  by_cases h3 : 60 ≤ n
  · rw [if_pos h3, if_pos h3, if_neg (fun z => by omega)]
    exact J_t0 h
  rw [if_neg h3, if_neg h3, if_pos ⟨Classical.not_not.mp h1, nft h2, by omega⟩]
  obtain ⟨y, hy, rfl⟩ := inr_of (by omega) (nft h2)
  show J (fcT (fctS S n (nI y) value) S n (nI y) value) (n + 1) b c r u
  obtain ⟨w1, w2, w3, w4, w5, w6⟩ := h.jN.N
  obtain ⟨t, ht⟩ : ∃ t, tcC S 61 = t := ⟨_, rfl⟩
  obtain ⟨f, hf⟩ : ∃ f, fcC S 61 = f := ⟨_, rfl⟩
  rw [ht] at w1 w2 w5
  rw [hf] at w3 w4 w6
  obtain ⟨X, hX⟩ : ∃ X, fcT (fctS S n (nI y) value) S n (nI y) value = X := ⟨_, rfl⟩
  have q1 : ∀ k i j, X.1 k i j = (fcT (fctS S n (nI y) value) S n (nI y) value).1 k i j := fun k i j => by rw [hX]
  have q2 : ∀ k i j, X.2.1 k i j = (fcT (fctS S n (nI y) value) S n (nI y) value).2.1 k i j := fun k i j => by rw [hX]
  have q3 : X.2.2 = S.2.2 := by rw [← hX]; rfl
  simp only [fcT_1, fctS_1, ht, hf] at q1
  simp only [fcT_2, fctS_2] at q2
  rw [hX]
  have etc : tcC X n = t := by
    unfold tcC
    rw [q1]
    simp [show ¬ n = 61 by omega, nN_nI (show t < 2147483648 by omega)]
  have efc : fcC X n = f := by
    unfold fcC
    rw [q1]
    simp [show ¬ n = 61 by omega, nN_nI (show f < 2147483648 by omega)]
  refine ⟨JT_c h.jT (fun k i j hk => ?_), JB_ext h.jB (by omega) (fun k i j hk => ?_) (fun k i j hk => ?_) ?_ ?_ (fun i hi1 hi2 => ?_), ?_, ?_, JO_c h.jO (fun k i j hk => ?_) (fun j _ => by rw [q3])⟩
  · unfold kT at hk
    rw [q1]
    repeat rw [if_neg (by omega)]
    by_cases hi : i = n
    · rw [if_pos hi]
      repeat rw [if_neg (by omega)]
    · rw [if_neg hi]
  · unfold kE at hk
    rw [q1]
    repeat rw [if_neg (by omega)]
    by_cases hi : i = n
    · rw [if_pos hi]
      repeat rw [if_neg (by omega)]
    · rw [if_neg hi]
  · unfold kEl at hk
    rw [q2]
    repeat rw [if_neg (by omega)]
  · rw [q1]
    simp
  · rw [q1]
    simp
  · have hin : i = n := by omega
    subst hin
    refine ⟨⟨?_, ?_, ?_, ?_, ?_, ?_⟩, ⟨?_, ?_, ?_, ?_, ?_, ?_, ?_, ?_⟩, ?_, y, hy, ?_⟩
    · rw [etc, q1]
      simp [show ¬ i = 61 by omega]
    · rw [etc]; exact w2
    · rw [efc, q1]
      simp [show ¬ i = 61 by omega]
    · rw [efc]; exact w4
    · rw [etc]
      intro k hk
      have e7 : X.1 7 i k = S.1 7 61 k := by rw [q1]; simp [hk]
      unfold thC
      rw [e7]
      exact w5 k hk
    · rw [efc]
      intro k hk
      have e7 : X.1 10 i k = S.1 10 61 k := by rw [q1]; simp [hk]
      unfold onC
      rw [e7]
      exact w6 k hk
    · rw [q1, q1]
      simp [show ¬ i = 61 by omega]
    · rw [q2, q2]
      simp [show ¬ i = 61 by omega]
    · rw [q1, q1]
      simp [show ¬ i = 61 by omega]
    · rw [etc]
      intro k hk
      rw [q1, q1, q1, q1, q1, q1]
      simp [hk]
    · rw [q1, q1]
      simp [show ¬ i = 61 by omega]
    · rw [efc]
      intro k hk
      rw [q1, q1]
      simp [hk]
    · rw [q1, q1]
      simp [show ¬ i = 61 by omega]
    · rw [q1, q1]
      simp [show ¬ i = 61 by omega]
    · rw [q1]
      simp [show ¬ i = 61 by omega]
    · rw [q1]
      simp [show ¬ i = 61 by omega]
  · have e4 : X.1 6 61 4 = 0 := by rw [q1]; simp
    have e8 : X.1 6 61 8 = 0 := by rw [q1]; simp
    have z0 : nN 0 = 0 := nN_nI (j := 0) (by omega)
    have t0' : tcC X 61 = 0 := by unfold tcC; rw [e4]; exact z0
    have f0' : fcC X 61 = 0 := by unfold fcC; rw [e8]; exact z0
    refine ⟨⟨?_, ?_, ?_, ?_, ?_, ?_⟩, ⟨?_, ?_, ?_, ?_⟩⟩
    · rw [t0', e4]; rfl
    · rw [t0']; omega
    · rw [f0', e8]; rfl
    · rw [f0']; omega
    · rw [t0']; intro k hk; omega
    · rw [f0']; intro k hk; omega
    · rw [e4, q1]; simp
    · rw [t0']; intro k hk; omega
    · rw [e8, q1]; simp
    · rw [f0']; intro k hk; omega
  · have hD := h.jD
    obtain ⟨⟨d1, d2, d3, d4, d5⟩, dD, dK, dB⟩ := hD
    have := JD_c (S := S) (T := X) (n := n) (r := r) (u := u) h.jD (fun k i j hk => by
      unfold kD at hk
      rw [q1]
      repeat rw [if_neg (by omega)]
      by_cases hi : i = n
      · rw [if_pos hi]
        repeat rw [if_neg (by omega)]
      · rw [if_neg hi]) (fun k i j hk => by
      unfold kDl at hk
      rw [q2]
      repeat rw [if_neg (by omega)])
    obtain ⟨⟨g1, g2, g3, g4, g5⟩, gD, gK, gB⟩ := this
    exact ⟨⟨g1, by omega, g3, g4, g5⟩, gD, gK, gB⟩
  · unfold kO at hk
    rw [q1]
    repeat rw [if_neg (by omega)]
    by_cases hi : i = n
    · rw [if_pos hi]
      repeat rw [if_neg (by omega)]
    · rw [if_neg hi]
end
