section
variable {S T : pS} {n b c r u : Nat}
theorem rf_tk {L k i : Nat} {d : Nat → Int32} {ρ ρ2 : pR} : rfE S (rS (tk n d L k i (tkS0 S b L) ρ).1 ρ2) := by
  intro k' hk
  refine ⟨?_, ?_⟩
  · funext i' j'
    rw [rS_1]
    repeat rw [if_neg (by omega)]
    rw [tk_oth (by omega)]
    simp only [u_1]
    repeat rw [if_neg (by omega)]
  · funext i' j'
    rw [rS_2]
    rw [if_neg (by omega), tk_2o (by omega)]
    rfl
theorem J_tk {L k i : Nat} {d : Nat → Int32} {ρ ρ2 : pR} (h : J S n b c r u) : J (rS (tk n d L k i (tkS0 S b L) ρ).1 ρ2) n b c r u := by
  have hn := h.jB.B.2.1
  have e1 : ∀ k' i' j', ¬ k' = 17 → (k' < 6 ∨ 10 < k' ∨ i' < n ∨ 60 < i') → (rS (tk n d L k i (tkS0 S b L) ρ).1 ρ2).1 k' i' j' = S.1 k' i' j' := by
    intro k' i' j' h17 hk
    rw [rS_1]
    rw [if_neg (by omega), if_neg (by omega)]
    have e0 : (tk n d L k i (tkS0 S b L) ρ).1.1 k' i' j' = (tkS0 S b L).1 k' i' j' := by
      by_cases hk2 : k' < 6 ∨ 10 < k'
      · rw [tk_oth hk2]
      · exact (tk_at (by omega) hn).1 k' j'
    rw [e0]
    simp only [u_1]
    rw [if_neg (by omega)]
  have e2 : ∀ k' i' j', ¬ k' = 17 → (¬ k' = 6 ∨ i' < n ∨ 60 < i') → (rS (tk n d L k i (tkS0 S b L) ρ).1 ρ2).2.1 k' i' j' = S.2.1 k' i' j' := by
    intro k' i' j' h17 hk
    rw [rS_2]
    rw [if_neg (by omega)]
    have e0 : (tk n d L k i (tkS0 S b L) ρ).1.2.1 k' i' j' = (tkS0 S b L).2.1 k' i' j' := by
      by_cases hk2 : ¬ k' = 6
      · rw [tk_2o hk2]
      · exact (tk_at (by omega) hn).2 k' j'
    rw [e0]
    rfl
  refine ⟨JT_c h.jT (fun k' i' j' hk => e1 k' i' j' ?_ ?_), JB_c h.jB (fun k' i' j' hk => e1 k' i' j' ?_ ?_) (fun k' i' j' hk => e2 k' i' j' ?_ ?_), JN_c h.jN (fun k' i' j' hk => e1 k' i' j' ?_ ?_), JD_c h.jD (fun k' i' j' hk => e1 k' i' j' ?_ ?_) (fun k' i' j' hk => e2 k' i' j' ?_ ?_), JO_c h.jO (fun k' i' j' hk => e1 k' i' j' ?_ ?_) (fun j _ => ?_)⟩
  case refine_15 =>
    rw [rS_3, tk_ref]
    show (if 0 = 17 ∧ 0 = 0 ∧ j = 4 then (21, b) else S.2.2 0 0 j) = _
    rw [if_neg (by omega)]
  all_goals simp only [kT, kB, kBl, kN, kD, kDl, kO] at hk
  all_goals omega
theorem JN_n {m : Nat} (h : JN S n) (hm : n ≤ m) : JN S m := by
  obtain ⟨⟨w1, w2, w3, w4, w5, w6⟩, hN⟩ := h
  exact ⟨⟨w1, w2, w3, w4, w5, fun k hk => ⟨(w6 k hk).1, by have := (w6 k hk).2; omega⟩⟩, hN⟩
theorem JD_n {m : Nat} (h : JD S n r u) (hm : n ≤ m) : JD S m r u := by
  obtain ⟨⟨d1, d2, d3, d4, d5⟩, h2⟩ := h
  exact ⟨⟨d1, by omega, d3, d4, d5⟩, h2⟩
def takN (S : pS) (n b L : Nat) : Nat := if takG S n b L = true then n + nN (tka S b L).1 else n
theorem rf_take {L : Nat} : rfE S (takC S n b L).2 := by
  unfold takC
  repeat' split
  all_goals first | exact rfE_0 S | exact rf_tk | skip
  intro k hk
  have h1 := rf_tk (S := S) (n := n) (b := b) (L := L) (k := nN (tka S b L).1) (i := 0) (d := S.1 21 b) (ρ := (tka S b L).2) (ρ2 := tk3 S n b L) k hk
  refine ⟨?_, h1.2⟩
  funext i j
  show (if k = 10 ∧ _ then _ else if k = 4 ∧ i = 0 ∧ j = 1 then _ else _) = _
  rw [if_neg (by omega), if_neg (by omega), h1.1]
theorem J_take {L : Nat} {X : pS} (h : J S n b c r u) (hX : ∃ a1 b1 a2 b2, X = aS (takM (aS (t0 (takC S n b L).2) a1 b1) S n b L) a2 b2) : J X (takN S n b L) b c r u := by
  obtain ⟨a1, b1, a2, b2, rfl⟩ := hX
  refine J_aS ?_
  have hn := h.jB.B.2.1
  cases hG : takG S n b L with
  | false =>
    rw [takM_n hG]
    unfold takN
    rw [hG, if_neg (by decide)]
    refine J_aS (J_t0 ?_)
    unfold takC
    by_cases g1 : ¬ S.1 11 0 1 = 0
    · rw [if_pos g1]; exact h
    rw [if_neg g1]
    by_cases g2 : S.1 20 b 0 = 0
    · rw [if_pos g2]; exact h
    rw [if_neg g2]
    by_cases g3 : (tk3 S n b L).2.1 = true
    · rw [if_pos g3]; exact J_tk h
    rw [if_neg g3]
    by_cases g4 : 60 - n < nN (tka S b L).1
    · rw [if_pos g4]; exact J_tk h
    · exfalso
      unfold takG at hG
      have := of_decide_eq_false hG
      exact this ⟨Classical.not_not.mp g1, g2, nf2 g3, by omega⟩
  | true =>
    rw [takM_y hG]
    unfold takN
    rw [if_pos hG]
    unfold takG at hG
    obtain ⟨g1, g2, g3, g4⟩ := of_decide_eq_true hG
    obtain ⟨m, hm⟩ : ∃ m, nN (tka S b L).1 = m := ⟨_, rfl⟩
    have hf1 : (tk1 S n b L).2.2.1 = false := by
      have h2 : (tk2 S n b L).2.1 = false := by
        have h9 := g3
        unfold tk3 at h9
        simp only [Bool.or_eq_false_iff] at h9
        exact h9.1
      exact xpc_f h2
    have eC : (takC S n b L).2 = arG (rS (tk1 S n b L).1 (tk3 S n b L)) n m 0 := by
      unfold takC
      rw [if_neg (fun z => z g1), if_neg g2, if_neg (by rw [g3]; decide), if_neg (by omega), hm]
    rw [eC, hm]
    rw [hm] at g4
    have hrel := tk_rel (n := n) (k := m) (i := 0) (S := tkS0 S b L) (T := aS (t0 (arG (rS (tk1 S n b L).1 (tk3 S n b L)) n m 0)) a1 b1) (d := S.1 21 b) (e := L) (ρ := (tka S b L).2) (by omega) (by unfold tk1 at hf1; rw [hm] at hf1; exact hf1) (fun z hz => by omega)
    have eX1 : (tk1 S n b L).1 = (tk n (S.1 21 b) L m 0 (tkS0 S b L) (tka S b L).2).1 := by rw [← hm]
    obtain ⟨X1, hX1⟩ : ∃ X1, (tk n (S.1 21 b) L m 0 (tkS0 S b L) (tka S b L).2).1 = X1 := ⟨_, rfl⟩
    rw [eX1] at hrel ⊢
    obtain ⟨ρ3, hρ3⟩ : ∃ ρ, tk3 S n b L = ρ := ⟨_, rfl⟩
    rw [hρ3] at hrel ⊢
    have a1' := fun k' f j' (hf : f < n ∨ 60 < f) => (tk_at (d := S.1 21 b) (e := L) (n := n) (k := m) (i := 0) (S := tkS0 S b L) (ρ := (tka S b L).2) (f := f) hf hn).1 k' j'
    have a2' := fun k' f j' (hf : f < n ∨ 60 < f) => (tk_at (d := S.1 21 b) (e := L) (n := n) (k := m) (i := 0) (S := tkS0 S b L) (ρ := (tka S b L).2) (f := f) hf hn).2 k' j'
    have a3' := fun k' i' j' (hk : ¬ k' = 6) => tk_2o (d := S.1 21 b) (e := L) (n := n) (k := m) (i := 0) (S := tkS0 S b L) (ρ := (tka S b L).2) (k' := k') (i' := i') (j' := j') hk
    have a4' := fun k' (hk : k' < 6 ∨ 10 < k') => tk_oth (d := S.1 21 b) (e := L) (n := n) (k' := k') (k := m) (i := 0) (S := tkS0 S b L) (ρ := (tka S b L).2) hk
    have a5' := tk_ref (d := S.1 21 b) (e := L) (n := n) (k := m) (i := 0) (S := tkS0 S b L) (ρ := (tka S b L).2)
    rw [hX1] at hrel a1' a2' a3' a4' a5' ⊢
    obtain ⟨S1, hS1⟩ : ∃ S1, arG (rS X1 ρ3) n m 0 = S1 := ⟨_, rfl⟩
    rw [hS1] at hrel ⊢
    -- the class's state
    have s1 : ∀ k' i' j', ¬ k' = 17 → S1.1 k' i' j' = if k' = 10 ∧ n ≤ i' ∧ i' < n + m ∧ j' < fcC X1 i' then X1.1 10 i' j' + nI n else if k' = 4 ∧ i' = 0 ∧ j' = 1 then nI (n + m) else X1.1 k' i' j' := by
      intro k' i' j' h17
      rw [← hS1]
      have hfc : fcC (rS X1 ρ3) i' = fcC X1 i' := by
        unfold fcC
        rw [rS_1]
        simp
      show (if k' = 10 ∧ ((n ≤ i' ∧ i' < n + m ∧ j' < fcC (rS X1 ρ3) i') ∨ (i' = n + m ∧ j' < 0)) then (rS X1 ρ3).1 10 i' j' + nI n else if k' = 4 ∧ i' = 0 ∧ j' = 1 then nI (n + m) else (rS X1 ρ3).1 k' i' j') = _
      rw [hfc, rS_1, rS_1]
      by_cases q1 : k' = 10 ∧ n ≤ i' ∧ i' < n + m ∧ j' < fcC X1 i'
      · rw [if_pos q1, if_pos ⟨q1.1, Or.inl q1.2⟩]
        simp
      · rw [if_neg q1, if_neg (by omega)]
        by_cases q2 : k' = 4 ∧ i' = 0 ∧ j' = 1
        · rw [if_pos q2, if_pos q2]
        · rw [if_neg q2, if_neg q2, if_neg (by omega), if_neg (by omega)]
    have s2 : ∀ k' i' j', ¬ k' = 17 → S1.2.1 k' i' j' = X1.2.1 k' i' j' := by
      intro k' i' j' h17
      rw [← hS1]
      show (rS X1 ρ3).2.1 k' i' j' = _
      rw [rS_2, if_neg (by omega)]
    have s3 : ∀ j', S1.2.2 0 0 j' = S.2.2 0 0 j' := by
      intro j'
      rw [← hS1]
      show X1.2.2 0 0 j' = _
      rw [a5']
      show (if 0 = 17 ∧ 0 = 0 ∧ j' = 4 then (21, b) else S.2.2 0 0 j') = _
      rw [if_neg (by omega)]
    have z1 : ∀ k' i' j', ¬ k' = 17 → (tkS0 S b L).1 k' i' j' = S.1 k' i' j' := by
      intro k' i' j' h17
      simp only [u_1]
      rw [if_neg (by omega)]
    have t1 : ∀ k' i' j', ¬ k' = 17 → (k' < 6 ∨ 10 < k' ∨ i' < n ∨ 60 < i') → ¬ (k' = 4 ∧ i' = 0 ∧ j' = 1) → S1.1 k' i' j' = S.1 k' i' j' := by
      intro k' i' j' h17 hk h4
      rw [s1 k' i' j' h17, if_neg (by omega), if_neg h4]
      by_cases hk2 : k' < 6 ∨ 10 < k'
      · rw [a4' k' hk2, z1 k' i' j' h17]
      · rw [a1' k' i' j' (by omega), z1 k' i' j' h17]
    have t2 : ∀ k' i' j', ¬ k' = 17 → (¬ k' = 6 ∨ i' < n ∨ 60 < i') → S1.2.1 k' i' j' = S.2.1 k' i' j' := by
      intro k' i' j' h17 hk
      rw [s2 k' i' j' h17]
      by_cases hk2 : ¬ k' = 6
      · rw [a3' k' i' j' hk2]
        rfl
      · rw [a2' k' i' j' (by omega)]
        rfl
    -- and the reference's
    obtain ⟨Y, hY⟩ : ∃ Y, tkT n (S.1 21 b) L m 0 (aS (t0 S1) a1 b1) (tka S b L).2 = Y := ⟨_, rfl⟩
    have y1 : ∀ k' i' j', (¬ (35 ≤ k' ∧ k' ≤ 44) ∨ ((k' = 35 ∨ k' = 37 ∨ k' = 41 ∨ k' = 43 ∨ k' = 44) ∧ j' < n) ∨ ((k' = 38 ∨ k' = 39 ∨ k' = 40) ∧ j' < 4 * n) ∨ (k' = 42 ∧ j' < 3 * n) ∨ k' = 36) → ¬ (k' = 30 ∧ i' = 0 ∧ (j' = 0 ∨ j' = 32 ∨ j' = 41)) → Y.1 k' i' j' = S1.1 k' i' j' := by
      intro k' i' j' hk h30
      rw [← hY, tkT_lo (by omega), aS_1]
      rw [if_neg (by omega), if_neg (by omega)]
      simp only [u_1]
      rw [if_neg (by omega)]
    have y2 : ∀ k' i' j', (¬ k' = 36 ∨ j' < n) → Y.2.1 k' i' j' = S1.2.1 k' i' j' := by
      intro k' i' j' hk
      rw [← hY, tkT_l2 (by omega)]
      rfl
    have y3 : Y.2.2 = S1.2.2 := by rw [← hY, tkT_3]; rfl
    rw [hY] at hrel ⊢
    obtain ⟨Z, hZ⟩ : ∃ Z, uI Y 30 0 3 (nI (n + m)) = Z := ⟨_, rfl⟩
    have zz1 : ∀ k' i' j', ¬ (k' = 30 ∧ i' = 0 ∧ j' = 3) → Z.1 k' i' j' = Y.1 k' i' j' := by
      intro k' i' j' hk
      rw [← hZ]
      simp only [u_1]
      rw [if_neg hk]
    have zz2 : Z.2 = Y.2 := by rw [← hZ]; rfl
    rw [hZ]
    have u1 : ∀ k' i' j', ¬ k' = 17 → (k' < 6 ∨ 10 < k' ∨ i' < n ∨ 60 < i') → ¬ (k' = 4 ∧ i' = 0 ∧ j' = 1) → (¬ (35 ≤ k' ∧ k' ≤ 44) ∨ ((k' = 35 ∨ k' = 37 ∨ k' = 41 ∨ k' = 43 ∨ k' = 44) ∧ j' < n) ∨ ((k' = 38 ∨ k' = 39 ∨ k' = 40) ∧ j' < 4 * n) ∨ (k' = 42 ∧ j' < 3 * n) ∨ k' = 36) → ¬ (k' = 30 ∧ i' = 0 ∧ (j' = 0 ∨ j' = 32 ∨ j' = 41 ∨ j' = 3)) → Z.1 k' i' j' = S.1 k' i' j' := by
      intro k' i' j' c1 c2 c3 c4 c5
      rw [zz1 k' i' j' (by omega), y1 k' i' j' c4 (by omega), t1 k' i' j' c1 c2 c3]
    have u2 : ∀ k' i' j', ¬ k' = 17 → (¬ k' = 6 ∨ i' < n ∨ 60 < i') → (¬ k' = 36 ∨ j' < n) → Z.2.1 k' i' j' = S.2.1 k' i' j' := by
      intro k' i' j' c1 c2 c3
      rw [zz2, y2 k' i' j' c3, t2 k' i' j' c1 c2]
    refine ⟨JT_c h.jT (fun k' i' j' hk => ?_), JB_ext h.jB (by omega) (fun k' i' j' hk => ?_) (fun k' i' j' hk => ?_) ?_ ?_ (fun F hF1 hF2 => ?_), JN_c (JN_n h.jN (by omega)) (fun k' i' j' hk => ?_), ?_, JO_c h.jO (fun k' i' j' hk => ?_) (fun j _ => ?_)⟩
    · unfold kT at hk
      exact u1 k' i' j' (by omega) (by omega) (by omega) (by omega) (by omega)
    · unfold kE at hk
      exact u1 k' i' j' (by omega) (by omega) (by omega) (by omega) (by omega)
    · unfold kEl at hk
      exact u2 k' i' j' (by omega) (by omega) (by omega)
    · rw [zz1 4 0 1 (by omega), y1 4 0 1 (by omega) (by omega), s1 4 0 1 (by omega)]
      simp
    · rw [← hZ]
      simp [u_1]
    · obtain ⟨ρz, v1, v2, v3⟩ := hrel (F - n) (by omega)
      rw [show n + (F - n) = F by omega] at v2 v3
      obtain ⟨a, t, f, ha, ea, ht, et, e4, hth, hf3, ef, e6, hon⟩ := row_v (by omega) v1
      obtain ⟨x0, xv, x2, x3, x4, x8, xt, xo⟩ := v2
      obtain ⟨r0, rv, r2, r3, r4, r8, rt, ro⟩ := v3
      rw [e4] at x4 xt rt
      rw [e6] at x8 xo ro
      have k6 : ∀ j, Z.1 6 F j = X1.1 6 F j := fun j => by
        rw [zz1 6 F j (by omega), y1 6 F j (by omega) (by omega), s1 6 F j (by omega), if_neg (by omega), if_neg (by omega)]
      have k789 : ∀ k' j, (k' = 7 ∨ k' = 8 ∨ k' = 9) → Z.1 k' F j = X1.1 k' F j := fun k' j hk => by
        rw [zz1 k' F j (by omega), y1 k' F j (by omega) (by omega), s1 k' F j (by omega), if_neg (by omega), if_neg (by omega)]
      have hfX : fcC X1 F = f := by unfold fcC; rw [x8, nN_nI (by omega)]
      have k10 : ∀ j, j < f → Z.1 10 F j = X1.1 10 F j + nI n := fun j hj => by
        rw [zz1 10 F j (by omega), y1 10 F j (by omega) (by omega), s1 10 F j (by omega), if_pos ⟨rfl, by omega, by omega, by omega⟩]
      have kl : ∀ j, Z.2.1 6 F j = X1.2.1 6 F j := fun j => by rw [zz2, y2 6 F j (by omega), s2 6 F j (by omega)]
      have kT' : ∀ k' j, (35 ≤ k' ∧ k' ≤ 44) → Z.1 k' 0 j = Y.1 k' 0 j := fun k' j hk => zz1 k' 0 j (by omega)
      have kTl : ∀ j, Z.2.1 36 0 j = Y.2.1 36 0 j := fun j => by rw [zz2]
      have etc : tcC Z F = t := by unfold tcC; rw [k6, x4, nN_nI (by omega)]
      have efc : fcC Z F = f := by unfold fcC; rw [k6, x8, nN_nI (by omega)]
      refine ⟨⟨?_, ?_, ?_, ?_, ?_, ?_⟩, ⟨?_, ?_, ?_, ?_, ?_, ?_, ?_, ?_⟩, ?_, a, ha, ?_⟩
      · rw [etc, k6, x4]
      · rw [etc]; exact ht
      · rw [efc, k6, x8]
      · rw [efc]; exact hf3
      · rw [etc]
        intro k hk
        obtain ⟨q, hq, eq⟩ := hth k hk
        have e7 : Z.1 7 F k = nI q := by rw [k789 7 k (by omega), (xt k hk).1, eq]
        unfold thC
        rw [e7, nN_nI (by omega)]
        exact ⟨rfl, hq⟩
      · rw [efc]
        intro k hk
        obtain ⟨q, hq, eq⟩ := hon k hk
        have e7 : Z.1 10 F k = nI (q + n) := by rw [k10 k hk, xo k hk, eq, nI_add]
        unfold onC
        rw [e7, nN_nI (by omega)]
        exact ⟨rfl, by omega⟩
      · rw [kT' 35 F (by omega), r0, k6, x0]
      · rw [kTl, rv, kl, xv]
      · rw [kT' 37 F (by omega), r4, et, k6, x4]
      · rw [etc]
        intro k hk
        rw [kT' 38 _ (by omega), kT' 39 _ (by omega), kT' 40 _ (by omega), (rt k hk).1, (rt k hk).2.1, (rt k hk).2.2, k789 7 k (by omega), k789 8 k (by omega), k789 9 k (by omega), (xt k hk).1, (xt k hk).2.1, (xt k hk).2.2]
        exact ⟨rfl, rfl, rfl⟩
      · rw [kT' 41 F (by omega), r8, ef, k6, x8]
      · rw [efc]
        intro k hk
        rw [kT' 42 _ (by omega), ro k hk, k10 k hk, xo k hk]
      · rw [kT' 43 F (by omega), r2, k6, x2]
      · rw [kT' 44 F (by omega), r3, k6, x3]
      · rw [k6, x2]
      · rw [k6, x0, ea]
    · unfold kN at hk
      exact u1 k' i' j' (by omega) (by omega) (by omega) (by omega) (by omega)
    · exact JD_n (JD_c h.jD (fun k' i' j' hk => by
        unfold kD at hk
        exact u1 k' i' j' (by omega) (by omega) (by omega) (by omega) (by omega)) (fun k' i' j' hk => by
        unfold kDl at hk
        exact u2 k' i' j' (by omega) (by omega) (by omega))) (by omega)
    · unfold kO at hk
      exact u1 k' i' j' (by omega) (by omega) (by omega) (by omega) (by omega)
    · rw [zz2, y3, s3]
end
