/-! the invariant over the calls: open -/
theorem JB_new {T : pS} {m : Nat} (hm : m ≤ 60) (c4 : T.1 4 0 1 = nI m) (c3 : T.1 30 0 3 = nI m) (hnew : ∀ i, i < m → fNew T i) : JB T m := by
  refine ⟨⟨c4, hm, fun i hi => (hnew i hi).1⟩, ⟨c3, fun i hi => (hnew i hi).2.1⟩, fun i hi => ?_, fun i hi => (hnew i hi).2.2.2, fun i hi hc => ?_⟩
  · have h0 := (hnew i hi).2.2.1
    unfold chC
    rw [h0]
    rfl
  · have h0 := (hnew i hi).2.2.1
    unfold chC at hc
    rw [h0] at hc
    simp at hc
theorem rwE_58 {d : Nat → Int32} : ∀ {n : Nat}, (∀ i, i < n → rokI d i) → (rwE d n).1 ≤ 58 * n
  | 0, _ => Nat.le_refl _
  | n + 1, h => by
    have h1 := rwE_58 (d := d) (n := n) (fun i hi => h i (by omega))
    obtain ⟨a1, a2, a3, a4, a5, a6, a7, a8⟩ := (h n (by omega)).1
    have e1 : (rwE d (n + 1)).1 = rE d (rwE d n).1 + 8 := rfl
    have e2 : rE d (rwE d n).1 = rP d (rwE d n).1 + 1 + dN d (rP d (rwE d n).1) := rfl
    have e3 : rP d (rwE d n).1 = (rwE d n).1 + 10 + 9 * dN d ((rwE d n).1 + 9) := rfl
    omega
theorem rrw_ref {d : Nat → Int32} : ∀ {k r : Nat} {S : pS} {ρ : pR}, (rrw d k r S ρ).1.2.2 = S.2.2
  | 0, _, _, _ => rfl
  | k + 1, r, S, ρ => by
    unfold rrw
    split
    · rfl
    · rw [rrw_ref]
      rfl
theorem rrw_2o {d : Nat → Int32} {k' i' j' : Nat} (h : ¬ k' = 6) (h2 : ¬ k' = 16) : ∀ {k r : Nat} {S : pS} {ρ : pR}, (rrw d k r S ρ).1.2.1 k' i' j' = S.2.1 k' i' j'
  | 0, _, _, _ => rfl
  | k + 1, r, S, ρ => by
    unfold rrw
    split
    · show (rowF S r d 3500 r ρ).2.1 k' i' j' = _
      rw [rowF, fS_2, if_neg (by omega)]
    · rw [rrw_2o h h2]
      simp only [u_1]
      rw [if_neg (by omega), rowF, fS_2, if_neg (by omega)]
section
variable {S T : pS} {n b c r u : Nat}
theorem ope_1 {k i j : Nat} (h1 : ¬ (k = 4 ∧ i = 0 ∧ j = 1)) (h2 : ¬ (k = 6 ∧ i = 61)) (h3 : ¬ (k = 11 ∧ i = 0)) (h4 : ¬ (k = 13 ∧ i = 0)) (h5 : ¬ k = 17) : (opeS S).1 k i j = (op1 S).1.1 k i j := by
  unfold opeS clrF opnS opE opR
  simp only [u_1]
  repeat rw [if_neg (by omega)]
  rw [rS_1]
  rw [if_neg (by omega), if_neg (by omega)]
theorem ope_2 {k i j : Nat} (h2 : ¬ (k = 6 ∧ i = 61)) (h3 : ¬ (k = 11 ∧ i = 0)) (h5 : ¬ k = 17) : (opeS S).2.1 k i j = (op1 S).1.2.1 k i j := by
  unfold opeS clrF opnS opE opR
  simp only [u_1]
  repeat rw [if_neg (by omega)]
  rw [rS_2]
  rw [if_neg (by omega)]
theorem ope_k : (opeS S).1 4 0 1 = opN S ∧ (opeS S).1 11 0 1 = 0 ∧ (opeS S).1 11 0 2 = opG S ∧ (opeS S).1 11 0 3 = opN S ∧ (opeS S).1 11 0 4 = (op1 S).1.1 15 0 (nN (opN S)) ∧ (opeS S).1 11 0 5 = opH S ∧ (opeS S).1 13 0 0 = opw S 0 ∧ (opeS S).1 13 0 1 = opw S 1 ∧ (opeS S).1 6 61 4 = 0 ∧ (opeS S).1 6 61 8 = 0 ∧ (opeS S).2.1 11 0 7 = (op1 S).1.2.1 16 0 (nN (opN S)) ∧ (opeS S).2.2 = (op1 S).1.2.2 := by
  unfold opeS clrF opnS opE opR
  generalize hA : (op1 S).1 = A
  generalize hB : opw S 0 = B
  generalize hC : opw S 1 = C
  generalize hD : opH S = D
  generalize hE : opG S = E
  generalize hF : opN S = F
  simp [u_1, rS_3]
theorem op1_o {k i j : Nat} (h1 : k < 6 ∨ 10 < k) (h2 : ¬ k = 15) (h3 : ¬ k = 17) : (op1 S).1.1 k i j = S.1 k i j := by
  unfold op1
  rw [rrw_oth h1 h2]
  simp only [u_1]
  repeat rw [if_neg (by omega)]
theorem rf_open : rfE S (opeS S) := by
  intro k hk
  refine ⟨?_, ?_⟩
  · funext i j
    rw [ope_1 (by omega) (by omega) (by omega) (by omega) (by omega), op1_o (by omega) (by omega) (by omega)]
  · funext i j
    rw [ope_2 (by omega) (by omega) (by omega)]
    unfold op1
    rw [rrw_2o (by omega) (by omega)]
    simp only [u_1]
    rw [if_neg (by omega)]
theorem J_open {X : pS} {m : Nat} (h : J S n b c r u) (hX : roP (opeS S) S X m) : J X m b c m (rwE (S.1 12 0) m).1 := by
  have hB := h.jD.x4
  obtain ⟨d, hd⟩ : ∃ d, S.1 12 0 = d := ⟨_, rfl⟩
  obtain ⟨p1, p2, p3, p4, p5, p6, p7, p8, p9, p10, p11, p12, p13, p14, p15, p16, p17, p18, p19, p20⟩ := hX
  obtain ⟨o1, o2, o3, o4⟩ := op_K hB
  rw [hd] at hB o2 o3 o4 p3 p4 p12 p13 ⊢
  obtain ⟨R, hR⟩ : ∃ R, (op1 S).2.1 = R := ⟨_, rfl⟩
  rw [hR] at o1 o2 o3 o4
  have hmR : m ≤ R := Nat.le_of_not_lt (fun z => o2 (by omega) (p3 R z))
  -- the class's roles
  have c1 : ∀ k i j, k < 30 → X.1 k i j = (opeS S).1 k i j := fun k i j hk => p17 k i j (by omega) (by omega) (by omega)
  have c2 : ∀ k i j, k < 30 → X.2.1 k i j = (opeS S).2.1 k i j := fun k i j hk => p19 k i j (by omega) (by omega)
  have c6 : ∀ k i j, 6 ≤ k → k ≤ 10 → ¬ i = 61 → X.1 k i j = (op1 S).1.1 k i j := fun k i j h1 h2 h3 => by
    rw [c1 k i j (by omega), ope_1 (by omega) (by omega) (by omega) (by omega) (by omega)]
  have c6l : ∀ i j, ¬ i = 61 → X.2.1 6 i j = (op1 S).1.2.1 6 i j := fun i j h3 => by
    rw [c2 6 i j (by omega), ope_2 (by omega) (by omega) (by omega)]
  have cS : ∀ k i j, k < 30 → ¬ k = 4 → (k < 6 ∨ 10 < k) → ¬ k = 11 → ¬ k = 13 → ¬ k = 15 → ¬ k = 17 → X.1 k i j = S.1 k i j := fun k i j h1 h2 h3 h4 h5 h6 h7 => by
    rw [c1 k i j h1, ope_1 (by omega) (by omega) (by omega) (by omega) h7, op1_o h3 h6 h7]
  have cR : ∀ k i j, 30 ≤ k → ¬ (35 ≤ k ∧ k ≤ 44) → ¬ k = 30 → ¬ k = 58 → X.1 k i j = S.1 k i j := fun k i j h1 h2 h3 h4 => by
    rw [p17 k i j h2 h3 h4, (rf_open k h1).1]
  have c11 : ∀ j, X.1 11 0 j = (opeS S).1 11 0 j := fun j => c1 11 0 j (by omega)
  have e41 : X.1 4 0 1 = nI m := by
    rw [c1 4 0 1 (by omega), ← p2]
    exact ope_k.1
  have e111 : X.1 11 0 1 = 0 := by rw [c11]; exact ope_k.2.1
  have e112 : X.1 11 0 2 = opG S := by rw [c11]; exact ope_k.2.2.1
  have e113 : X.1 11 0 3 = nI m := by rw [c11, ← p2]; exact ope_k.2.2.2.1
  have e114 : X.1 11 0 4 = nI (rwE d m).1 := by
    rw [c11, ← (o4 m hmR).1]
    have : (opeS S).1 11 0 4 = (op1 S).1.1 15 0 (nN (opN S)) := ope_k.2.2.2.2.1
    rw [this, p2, nN_nI (by omega)]
  have e115 : X.1 11 0 5 = opH S := by rw [c11]; exact ope_k.2.2.2.2.2.1
  have e117 : X.2.1 11 0 7 = (rwE d m).2 := by
    rw [c2 11 0 7 (by omega), ← (o4 m hmR).2]
    have : (opeS S).2.1 11 0 7 = (op1 S).1.2.1 16 0 (nN (opN S)) := ope_k.2.2.2.2.2.2.2.2.2.2.1
    rw [this, p2, nN_nI (by omega)]
  have e130 : X.1 13 0 0 = opw S 0 := by rw [c1 13 0 0 (by omega)]; exact ope_k.2.2.2.2.2.2.1
  have e131 : X.1 13 0 1 = opw S 1 := by rw [c1 13 0 1 (by omega)]; exact ope_k.2.2.2.2.2.2.2.1
  have e12 : X.1 12 0 = d := by
    rw [← hd]
    funext j
    exact cS 12 0 j (by omega) (by omega) (by omega) (by omega) (by omega) (by omega) (by omega)
  refine ⟨JT_c h.jT (fun k i j hk => ?_), JB_new p1 e41 p5 (fun i hi => ?_), ?_, ⟨⟨e113, Nat.le_refl _, e114, rwE_58 p3, fun j hj => ?_⟩, ?_, ⟨?_, ?_, ?_, ?_, ?_, ?_, fun z => ?_, fun _ => ?_⟩, ?_⟩, ?_⟩
  · unfold kT at hk
    by_cases hk30 : k < 30
    · exact cS k i j hk30 (by omega) (by omega) (by omega) (by omega) (by omega) (by omega)
    · exact cR k i j (by omega) (by omega) (by omega) (by omega)
  · obtain ⟨g1, g2⟩ := o3 i (by omega)
    obtain ⟨x0, xv, x2, x3, x4, x8, xt, xo⟩ := g2
    obtain ⟨y0, yv, y2, y3, y4, y8, yt, yo⟩ := p4 i hi
    obtain ⟨a1, a2, a3, a4, a5, a6, a7, a8⟩ := g1.1
    have hE : rE d (rwE d i).1 = rP d (rwE d i).1 + 1 + dN d (rP d (rwE d i).1) := rfl
    have hPp : rP d (rwE d i).1 = (rwE d i).1 + 10 + 9 * dN d ((rwE d i).1 + 9) := rfl
    have k6 : ∀ k j, 6 ≤ k → k ≤ 10 → X.1 k i j = (op1 S).1.1 k i j := fun k j h1 h2 => c6 k i j h1 h2 (by omega)
    have etc : tcC X i = dN d ((rwE d i).1 + 9) := by unfold tcC; rw [k6 6 4 (by omega) (by omega), x4, nN_nI (by omega)]
    have efc : fcC X i = dN d (rP d (rwE d i).1) := by unfold fcC; rw [k6 6 8 (by omega) (by omega), x8, nN_nI (by omega)]
    refine ⟨⟨?_, ?_, ?_, ?_, ?_, ?_⟩, ⟨?_, ?_, ?_, ?_, ?_, ?_, ?_, ?_⟩, ?_, dN d (rwE d i).1, by omega, ?_⟩
    · rw [etc, k6 6 4 (by omega) (by omega), x4]
    · rw [etc]; exact a3
    · rw [efc, k6 6 8 (by omega) (by omega), x8]
    · rw [efc]; exact a5
    · rw [etc]
      intro k hk
      have v := bB_n hB (show (rwE d i).1 + 10 + 9 * k < 3532 by omega)
      have e7 : X.1 7 i k = nI (dN d ((rwE d i).1 + 10 + 9 * k)) := by rw [k6 7 k (by omega) (by omega), (xt k hk).1, ← v.2]
      have := (a7 k (by omega) (by omega)).1
      unfold thC
      rw [e7, nN_nI (by omega)]
      exact ⟨rfl, by omega⟩
    · rw [efc]
      intro k hk
      have v := bB_n hB (show rP d (rwE d i).1 + 1 + k < 3532 by omega)
      have e7 : X.1 10 i k = nI (dN d (rP d (rwE d i).1 + 1 + k)) := by rw [k6 10 k (by omega) (by omega), xo k hk, ← v.2]
      have := (a8 k (by omega) (by omega)).1
      unfold onC
      rw [e7, nN_nI (by omega)]
      exact ⟨rfl, by omega⟩
    · rw [y0, k6 6 0 (by omega) (by omega), x0]
    · rw [yv, c6l i 1 (by omega), xv]
    · rw [y4, k6 6 4 (by omega) (by omega), x4]
    · rw [etc]
      intro k hk
      rw [(yt k hk).1, (yt k hk).2.1, (yt k hk).2.2, k6 7 k (by omega) (by omega), k6 8 k (by omega) (by omega), k6 9 k (by omega) (by omega), (xt k hk).1, (xt k hk).2.1, (xt k hk).2.2]
      exact ⟨rfl, rfl, rfl⟩
    · rw [y8, k6 6 8 (by omega) (by omega), x8]
    · rw [efc]
      intro k hk
      rw [yo k hk, k6 10 k (by omega) (by omega), xo k hk]
    · rw [y2, k6 6 2 (by omega) (by omega), x2]
    · rw [y3, k6 6 3 (by omega) (by omega), x3]
    · rw [k6 6 2 (by omega) (by omega), x2]
    · rw [k6 6 0 (by omega) (by omega), x0, ← (bB_n hB (show (rwE d i).1 < 3532 by omega)).2]
  · have e4 : X.1 6 61 4 = 0 := by rw [c1 6 61 4 (by omega)]; exact ope_k.2.2.2.2.2.2.2.2.1
    have e8 : X.1 6 61 8 = 0 := by rw [c1 6 61 8 (by omega)]; exact ope_k.2.2.2.2.2.2.2.2.2.1
    have z0 : nN 0 = 0 := nN_nI (j := 0) (by omega)
    have t0' : tcC X 61 = 0 := by unfold tcC; rw [e4]; exact z0
    have f0' : fcC X 61 = 0 := by unfold fcC; rw [e8]; exact z0
    refine ⟨⟨?_, ?_, ?_, ?_, ?_, ?_⟩, ⟨?_, ?_, ?_, ?_⟩⟩
    · rw [t0', e4]; rfl
    · rw [t0']; omega
    · rw [f0', e8]; rfl
    · rw [f0']; omega
    · rw [t0']; intro k hk; omega
    · rw [f0']; intro k hk; omega
    · rw [e4, p9]
    · rw [t0']; intro k hk; omega
    · rw [e8, p10]
    · rw [f0']; intro k hk; omega
  · rw [cS 14 0 j (by omega) (by omega) (by omega) (by omega) (by omega) (by omega) (by omega)]
    exact h.jD.D.2.2.2.2 j hj
  · show X.1 30 0 18 = X.1 11 0 1
    rw [p6, e111]
  · rw [e12, ← hd]
    funext j
    rw [cR 52 0 j (by omega) (by omega) (by omega) (by omega)]
    exact congrFun h.jD.hK.1 j
  · rw [p14, e112]
  · rw [p11, e113]
  · rw [p12, e114]
  · rw [p13, e117]
  · rw [p8, e115]
  · rw [p7] at z
    exact absurd z (by decide)
  · rw [p15, p16, e130, e131]
    exact ⟨rfl, rfl⟩
  · rw [e12]
    exact hB
  · refine JO_c h.jO (fun k i j hk => ?_) (fun j hj => ?_)
    · unfold kO at hk
      by_cases h30 : k = 30
      · subst h30
        have hi0 : i = 0 := by omega
        subst hi0
        rw [p18 j (by omega) (by omega), (rf_open 30 (by omega)).1]
      · by_cases hk30 : k < 30
        · exact cS k i j hk30 (by omega) (by omega) (by omega) (by omega) (by omega) (by omega)
        · exact cR k i j (by omega) (by omega) h30 (by omega)
    · rw [p20, ope_k.2.2.2.2.2.2.2.2.2.2.2]
      unfold op1
      rw [rrw_ref]
      show (if 0 = 17 ∧ 0 = 0 ∧ j = 4 then (12, 0) else S.2.2 0 0 j) = _
      rw [if_neg (by omega)]
end
