/-! the invariant over the calls: pack, save -/
section
variable {S T : pS} {n b c r u : Nat}
theorem wn_g {p : Nat} {bs : List Int32} : wn p false bs = min p bs.length := rfl
theorem rf_wS {X : pS} {qk qi a p : Nat} {cu : Bool} {bs : List Int32} {σ : Int64} (hq : qk < 30) (h : rfE S X) : rfE S (wS X qk qi a p cu bs σ) := by
  intro k hk
  refine ⟨?_, ?_⟩
  · funext i j
    rw [wS_1]
    repeat rw [if_neg (by omega)]
    rw [(h k hk).1]
  · funext i j
    show (if k = 18 ∧ i = 0 ∧ j = 3 then σ else X.2.1 k i j) = _
    rw [if_neg (by omega), (h k hk).2]
theorem rf_pack {x w : Int32} : rfE S (pckC S n b x w).2 := by
  unfold pckC
  repeat' split
  all_goals first | exact rfE_0 S | skip
  all_goals
    unfold pckS
    refine rfE_uI (by omega) (rfE_uI (by omega) (rf_wS (by omega) ?_))
    intro k hk
    refine ⟨?_, rfl⟩
    funext i j
    rw [pkN_1]
    rw [if_neg (by omega)]
    rfl
theorem J_pack {x w : Int32} (h : J S n b c r u) : J (pckM (pckC S n b x w).2 S n x w) n b c r u := by
  have hB := h.jB.B
  have hn := hB.2.1
  unfold pckM pckC
  by_cases h1 : ¬ S.1 11 0 1 = 0
  · rw [if_pos h1, if_pos h1]
    exact J_t0 h
  rw [if_neg h1, if_neg h1]
  by_cases h2 : inr x n = false
  · rw [if_pos h2, if_pos h2]
    exact J_t0 h
  rw [if_neg h2, if_neg h2]
  obtain ⟨f, hf, rfl⟩ := inr_of (by omega) (nft h2)
  rw [nN_nI (by omega)]
  have hlen : (pkA S f).length ≤ 50 * (f + 1) + 1 := pkL_len fun j hj => by
    unfold prw
    rw [rwB_len]
    have h3 := (hB.2.2 j (by omega)).2.1
    have h4 := (hB.2.2 j (by omega)).2.2.2.1
    omega
  have hl2 : (pkB S f).length = (pkA S f).length + 1 := by simp [pkB, nb_len]
  unfold pckS pkU pkT
  obtain ⟨L, hL⟩ : ∃ L, pkB S f = L := ⟨_, rfl⟩
  rw [hL] at hl2 ⊢
  obtain ⟨v, hv⟩ : ∃ v : Int32, (if w = 0 then 1 else 2) = v := ⟨_, rfl⟩
  rw [hv]
  obtain ⟨σ, hσ⟩ : ∃ σ, sws 7 (pkA S f) = σ := ⟨_, rfl⟩
  rw [hσ]
  have hwn : wn 4000 false L = L.length := by rw [wn_g]; omega
  refine J_mS ?_
  obtain ⟨S1, hS1⟩ : ∃ S1, uI (uI (wS (pkN (pk0 S b) (inC S f) (f + 1)) 21 b 0 4000 false L σ) 20 b 0 v) 20 b 1 (nI L.length) = S1 := ⟨_, rfl⟩
  have e1 : ∀ k i j, S1.1 k i j = if k = 20 ∧ i = b ∧ j = 1 then nI L.length else if k = 20 ∧ i = b ∧ j = 0 then v else if k = 21 ∧ i = b ∧ j < L.length then L.getD j 0 else if k = 18 ∨ k = 19 then S1.1 k i j else S.1 k i j := by
    intro k i j
    by_cases hk : k = 18 ∨ k = 19
    · rw [if_neg (by omega), if_neg (by omega), if_neg (by omega), if_pos hk]
    · rw [if_neg hk, ← hS1]
      simp only [u_1]
      rw [wS_1, hwn, pkN_1]
      by_cases a1 : k = 20 ∧ i = b ∧ j = 1
      · rw [if_pos a1, if_pos a1]
      · rw [if_neg a1, if_neg a1]
        by_cases a2 : k = 20 ∧ i = b ∧ j = 0
        · rw [if_pos a2, if_pos a2]
        · rw [if_neg a2, if_neg a2]
          by_cases a3 : k = 21 ∧ i = b ∧ j < L.length
          · rw [if_pos a3, if_pos (by omega), Nat.sub_zero]
          · rw [if_neg a3, if_neg (by omega), if_neg (by omega), if_neg (by omega), if_neg (by omega), if_neg (by omega)]
            rfl
  have e2 : ∀ k i j, ¬ k = 18 → S1.2.1 k i j = S.2.1 k i j := by
    intro k i j hk
    rw [← hS1]
    show (if k = 18 ∧ i = 0 ∧ j = 3 then σ else S.2.1 k i j) = _
    rw [if_neg (by omega)]
  have e3 : ∀ j, S1.2.2 0 0 j = S.2.2 0 0 j := by
    intro j
    rw [← hS1]
    show (if 0 = 18 ∧ 0 = 0 ∧ j = 4 then (21, b) else S.2.2 0 0 j) = _
    rw [if_neg (by omega)]
  show J (uX (uI (uI (uX (uX (t0 (uI (uI (wS (pkN (pk0 S b) (inC S f) (f + 1)) 21 b 0 4000 false L σ) 20 b 0 v) 20 b 1 (nI L.length))) 50 _) 62 _) 30 0 35 v) 30 0 36 (nI L.length)) 68 (cyX L L.length ((uI (uI (wS (pkN (pk0 S b) (inC S f) (f + 1)) 21 b 0 4000 false L σ) 20 b 0 v) 20 b 1 (nI L.length)).1 68 0))) n b c r u
  rw [hS1]
  obtain ⟨⟨o1, o2, o3, o4, o5, ⟨o6, o7⟩, o8, o9⟩, p1, p2, p3, p4, p5, p6⟩ := h.jO
  have o5' : ¬ c = b := fun z => o5 z.symm
  have e20c : ∀ j, S1.1 20 c j = S.1 20 c j := fun j => by rw [e1]; simp [o5']
  have e21c : ∀ j, S1.1 21 c j = S.1 21 c j := fun j => by rw [e1]; simp [o5']
  have e201 : S1.1 20 b 1 = nI L.length := by rw [e1]; simp
  have e200 : S1.1 20 b 0 = v := by rw [e1]; simp
  have e68 : ∀ j, S1.1 68 0 j = S.1 68 0 j := fun j => by rw [e1]; simp
  have e71 : ∀ j, S1.1 71 0 j = S.1 71 0 j := fun j => by rw [e1]; simp
  have e30 : ∀ j, S1.1 30 0 j = S.1 30 0 j := fun j => by rw [e1]; simp
  have e21 : ∀ j, S1.1 21 b j = if j < L.length then L.getD j 0 else S.1 21 b j := fun j => by rw [e1]; simp
  refine JO_only h (fun k i j hk => ?_) (fun k i j hk => ?_) ⟨⟨?_, ?_, o3, o4, o5, ⟨?_, ?_⟩, ?_, ?_⟩, ?_, ?_, ?_, ?_, ?_, ?_⟩
  · simp only [u_1, uX_1]
    repeat rw [if_neg (by omega)]
    rw [e1]
    repeat rw [if_neg (by omega)]
  · exact e2 k i j hk
  · show S1.2.2 0 0 7 = _
    rw [e3]; exact o1
  · show S1.2.2 0 0 8 = _
    rw [e3]; exact o2
  · simp [u_1, uX_1, e201, nN_nI (show L.length < 2147483648 by omega)]
  · simp [u_1, uX_1, e201, nN_nI (show L.length < 2147483648 by omega)]
    omega
  · simpa [u_1, uX_1, e20c] using o8
  · simpa [u_1, uX_1, e20c] using o9
  · simp [u_1, uX_1, e200]
  · simp [u_1, uX_1, e201]
  · intro j hj
    have := p3 j hj
    simp only [u_1, uX_1, cyX, e68, e21]
    by_cases hjL : j < L.length
    · simp [hjL]
    · simpa [hjL] using this
  · simpa [u_1, uX_1, e20c, e30] using p4
  · simpa [u_1, uX_1, e20c, e30] using p5
  · intro j hj
    simpa [u_1, uX_1, e21c, e71] using p6 j hj
/-! save -/
def isBy (x : Int32) : Prop := ∃ v : Nat, v < 256 ∧ x = nI v
def alBy (bs : List Int32) : Prop := ∀ x ∈ bs, isBy x
theorem alBy_app {x y : List Int32} (h1 : alBy x) (h2 : alBy y) : alBy (x ++ y) := fun z hz => (List.mem_append.mp hz).elim (h1 z) (h2 z)
theorem alBy_1 {x : Int32} (h : isBy x) : alBy [x] := fun z hz => by rw [List.mem_singleton.mp hz]; exact h
theorem alBy_nb {v : Int64} : ∀ {k : Nat}, alBy (nb v k)
  | 0 => fun z hz => by cases hz
  | k + 1 => by
    intro z hz
    rcases List.mem_cons.mp hz with h | h
    · obtain ⟨w, hw, -, e⟩ := by_lo (e_ushr v (nI (8 * k)))
      exact ⟨w, hw, by rw [h]; exact e⟩
    · exact alBy_nb z h
theorem alBy_th {th dt ct : Nat → Int32} : ∀ {k : Nat}, (∀ z, z < k → isBy (th z)) → alBy (thB th dt ct k)
  | 0, _ => fun z hz => by cases hz
  | k + 1, h => alBy_app (alBy_th (k := k) (fun z hz => h z (by omega))) (alBy_app (alBy_app (alBy_1 (h k (by omega))) alBy_nb) alBy_nb)
theorem alBy_on {nm : Nat → Int32} : ∀ {k : Nat}, (∀ z, z < k → isBy (nm z)) → alBy (onB nm k)
  | 0, _ => fun z hz => by cases hz
  | k + 1, h => alBy_app (alBy_on (k := k) (fun z hz => h z (by omega))) (alBy_1 (h k (by omega)))
theorem alBy_row {i : Nat} (hw : wfF S i i) (hi : i < 60) (hk : ∃ a : Nat, a < 4 ∧ S.1 6 i 0 = nI a) : alBy (rowC S i) := by
  obtain ⟨w1, w2, w3, w4, w5, w6⟩ := hw
  obtain ⟨a, ha, ea⟩ := hk
  unfold rowC rwB rwA
  refine alBy_app (alBy_app (alBy_app (alBy_app (alBy_app (alBy_1 ⟨a, by omega, ea⟩) alBy_nb) (alBy_1 ⟨tcC S i, by omega, rfl⟩)) (alBy_th fun z hz => ⟨thC S i z, by have := (w5 z hz).2; omega, (w5 z hz).1⟩)) (alBy_1 ⟨fcC S i, by omega, rfl⟩)) (alBy_on fun z hz => ⟨onC S i z, by have := (w6 z hz).2; omega, rfl⟩)
theorem alBy_lg {σ : Int64} (hB : wfB S n) (hk : ∀ i, i < n → ∃ a : Nat, a < 4 ∧ S.1 6 i 0 = nI a) : ∀ k, r + k ≤ n → alBy (lgB (rowC S) σ r k).1
  | 0, _ => fun z hz => by cases hz
  | k + 1, h => alBy_app (alBy_app (alBy_lg hB hk k (by omega)) (alBy_row (hB.2.2 (r + k) (by omega)) (by have := hB.2.1; omega) (hk (r + k) (by omega)))) alBy_nb
theorem alBy_hd {g m : Int32} {σ : Int64} : alBy (hdB g m σ) := alBy_app (alBy_app alBy_nb alBy_nb) alBy_nb
theorem alBy_get {bs : List Int32} {j : Nat} (h : alBy bs) (hj : j < bs.length) : isBy (bs.getD j 0) := by
  rw [List.getD_eq_getElem?_getD, List.getElem?_eq_getElem hj]
  exact h _ (List.getElem_mem hj)
theorem rf_save {x : Int32} : rfE S (savC S n r u x).2 := by
  unfold savC savS
  repeat' split
  all_goals first | exact rfE_0 S | skip
  · exact rfE_uI (by omega) (rf_wS (by omega) (rf_wS (by omega) (rfE_0 S)))
  · exact rfE_uJ (by omega) (rfE_uI (by omega) (rfE_uI (by omega) (rfE_uI (by omega) (rf_wS (by omega) (rf_wS (by omega) (rfE_0 S))))))
/-- rows and used bytes behind 'save' -/
def savR (S : pS) (n r u : Nat) (x : Int32) : Nat × Nat := if S.1 11 0 1 = 0 ∧ ¬ x < 0 ∧ ¬ nN x < (lgC S r (n - r)).1.length + 16 then (n, u + (lgC S r (n - r)).1.length) else (r, u)
theorem J_save {x : Int32} (h : J S n b c r u) : J (savM (savC S n r u x).2 S n r u x) n b c (savR S n r u x).1 (savR S n r u x).2 := by
  have hB := h.jB.B
  have hn := hB.2.1
  obtain ⟨⟨d1, d2, d3, d4, d5⟩, dD, ⟨k1, k2, k3, k4, k5, k6, k7, k8⟩, x4⟩ := h.jD
  unfold savM savC savR
  by_cases h1 : ¬ S.1 11 0 1 = 0
  · rw [if_pos h1, if_pos h1, if_neg (fun z => h1 z.1)]
    exact J_t0 h
  rw [if_neg h1, if_neg h1]
  by_cases h2 : x < 0
  · rw [if_pos h2, if_pos h2, if_neg (fun z => z.2.1 h2)]
    exact J_t0 h
  rw [if_neg h2, if_neg h2]
  obtain ⟨p, hp⟩ : ∃ p, nN x = p := ⟨_, rfl⟩
  rw [hp]
  have hL1 : (lgC S r (n - r)).1.length ≤ 58 * (n - r) := lgB_len (r := r) (σ := S.2.1 11 0 7) hB (n - r) (by omega)
  have hL2 : alBy (lgC S r (n - r)).1 := alBy_lg hB h.jB.x2 (n - r) (by omega)
  obtain ⟨L, hL⟩ : ∃ L, (lgC S r (n - r)).1 = L := ⟨_, rfl⟩
  obtain ⟨σ, hσ⟩ : ∃ σ, (lgC S r (n - r)).2 = σ := ⟨_, rfl⟩
  obtain ⟨hb0, hb1, -, hb3⟩ := hpl_b (S.1 11 0 2 + 1)
  obtain ⟨hp0, ehp⟩ : ∃ q, hpl (S.1 11 0 2 + 1) = q := ⟨_, rfl⟩
  rw [ehp] at hb3
  obtain ⟨H, hH⟩ : ∃ H, hdB (S.1 11 0 2 + 1) (nI n) σ = H := ⟨_, rfl⟩
  have hH1 : H.length = 16 := by rw [← hH]; exact hdB_len
  have hH2 : alBy H := by rw [← hH]; exact alBy_hd
  obtain ⟨X, hX⟩ : ∃ X, sv2 S n r u p = X := ⟨_, rfl⟩
  obtain ⟨w1, hw1⟩ : ∃ w, min p L.length = w := ⟨_, rfl⟩
  obtain ⟨w2, hw2⟩ : ∃ w, (if p < L.length then 0 else min (p - L.length) 16) = w := ⟨_, rfl⟩
  have hXA : ∀ k i j, ¬ k = 18 → X.1 k i j = if k = 12 ∧ i = 0 ∧ hp0 ≤ j ∧ j < hp0 + w2 then H.getD (j - hp0) 0 else if k = 12 ∧ i = 0 ∧ u ≤ j ∧ j < u + w1 then L.getD (j - u) 0 else S.1 k i j := by
    intro k i j hk
    rw [← hX]
    unfold sv2 sv1
    rw [hL, hσ, hH, ehp, wS_1, wS_1]
    have e1 : wn p false L = w1 := hw1
    have e2 : wn (p - w1) (false || decide (p < L.length)) H = w2 := by
      by_cases hpL : p < L.length
      · rw [if_pos hpL] at hw2
        simp [wn, hpL, hw2]
      · rw [if_neg hpL] at hw2
        have : w1 = L.length := by omega
        simp [wn, hpL, hH1, this, hw2]
    rw [e1, e2]
    simp only [hk, false_and, if_false]
    rfl
  have hX12 : ∀ j, X.1 12 0 j = dX (S.1 12 0) u L hp0 H (min p (L.length + 16)) j := by
    intro j
    rw [hXA 12 0 j (by omega)]
    unfold dX
    rw [hL] at hL1
    have m1 : min (min p (L.length + 16)) L.length = w1 := by omega
    have m2 : min p (L.length + 16) - L.length = w2 := by
      by_cases hpL : p < L.length
      · rw [if_pos hpL] at hw2
        omega
      · rw [if_neg hpL] at hw2
        omega
    rw [m1, m2]
    by_cases a1 : u ≤ j ∧ j < u + w1
    · rw [if_neg (by omega), if_pos ⟨rfl, rfl, a1⟩, if_pos a1]
    · rw [if_neg a1]
      by_cases a2 : hp0 ≤ j ∧ j < hp0 + w2
      · rw [if_pos ⟨rfl, rfl, a2⟩, if_pos a2]
      · rw [if_neg (fun z => a2 z.2.2), if_neg (fun z => a1 z.2.2), if_neg a2]
  have hXo : ∀ k i j, ¬ k = 18 → ¬ k = 12 → X.1 k i j = S.1 k i j := by
    intro k i j h18 h12
    rw [hXA k i j h18, if_neg (by omega), if_neg (by omega)]
  have hX2 : ∀ k i j, ¬ k = 18 → X.2.1 k i j = S.2.1 k i j := by
    intro k i j hk
    rw [← hX]
    show (if k = 18 ∧ i = 0 ∧ j = 3 then _ else if k = 18 ∧ i = 0 ∧ j = 3 then _ else S.2.1 k i j) = _
    rw [if_neg (by omega), if_neg (by omega)]
  have hX3 : ∀ j, X.2.2 0 0 j = S.2.2 0 0 j := by
    intro j
    rw [← hX]
    show (if 0 = 18 ∧ 0 = 0 ∧ j = 4 then (12, 0) else S.2.2 0 0 j) = _
    rw [if_neg (by omega)]
  obtain ⟨dd, hdd⟩ : ∃ dd, dX (S.1 12 0) u L hp0 H (min p (L.length + 16)) = dd := ⟨_, rfl⟩
  have hBd : bB dd := by
    intro j hj
    rw [← hdd]
    unfold dX
    rw [hL] at hL1 hL2
    by_cases a1 : u ≤ j ∧ j < u + min (min p (L.length + 16)) L.length
    · rw [if_pos a1]
      exact alBy_get hL2 (by omega)
    · rw [if_neg a1]
      by_cases a2 : hp0 ≤ j ∧ j < hp0 + (min p (L.length + 16) - L.length)
      · rw [if_pos a2]
        exact alBy_get hH2 (by omega)
      · rw [if_neg a2]
        exact x4 j hj
  rw [hdd] at hX12
  unfold savS savT svM svT
  rw [hL] at hL1 ⊢
  rw [hX, hσ, hH, ehp, hdd]
  have hmain : ∀ (Y : pS) (r2 u2 : Nat), (∀ k i j, ¬ k = 18 → ¬ k = 11 → ¬ k = 30 → ¬ k = 52 → ¬ k = 60 → ¬ k = 62 → Y.1 k i j = X.1 k i j) → (∀ k i j, ¬ k = 18 → ¬ k = 11 → ¬ k = 30 → Y.2.1 k i j = S.2.1 k i j) → (∀ j, Y.2.2 0 0 j = S.2.2 0 0 j) → (∀ j, (j = 3 ∨ j = 14 ∨ j = 16 ∨ (35 ≤ j ∧ j ≤ 39)) → Y.1 30 0 j = S.1 30 0 j) → JD Y n r2 u2 → J Y n b c r2 u2 := by
    intro Y r2 u2 y1 y2 y3 y4 yD
    have yk : ∀ k i j, ¬ k = 18 → ¬ k = 11 → ¬ k = 30 → ¬ k = 52 → ¬ k = 60 → ¬ k = 62 → ¬ k = 12 → Y.1 k i j = S.1 k i j := fun k i j a1 a2 a3 a4 a5 a6 a7 => by
      rw [y1 k i j a1 a2 a3 a4 a5 a6, hXo k i j a1 a7]
    have y30 : ∀ i j, (j = 3 ∨ j = 14 ∨ j = 16 ∨ (35 ≤ j ∧ j ≤ 39)) → i = 0 → Y.1 30 i j = S.1 30 i j := fun i j hj hi => by rw [hi]; exact y4 j hj
    exact ⟨JT_c h.jT (fun k i j hk => yk k i j (by unfold kT at hk; omega) (by unfold kT at hk; omega) (by unfold kT at hk; omega) (by unfold kT at hk; omega) (by unfold kT at hk; omega) (by unfold kT at hk; omega) (by unfold kT at hk; omega)), JB_c h.jB (fun k i j hk => by
      by_cases h30 : k = 30
      · unfold kB at hk
        subst h30
        exact y30 i j (by omega) (by omega)
      · unfold kB at hk
        exact yk k i j (by omega) (by omega) h30 (by omega) (by omega) (by omega) (by omega)) (fun k i j hk => by
      unfold kBl at hk
      exact y2 k i j (by omega) (by omega) (by omega)), JN_c h.jN (fun k i j hk => by
      by_cases h30 : k = 30
      · unfold kN at hk
        subst h30
        exact y30 i j (by omega) (by omega)
      · unfold kN at hk
        exact yk k i j (by omega) (by omega) h30 (by omega) (by omega) (by omega) (by omega)), yD, JO_c h.jO (fun k i j hk => by
      by_cases h30 : k = 30
      · unfold kO at hk
        subst h30
        exact y30 i j (by omega) (by omega)
      · unfold kO at hk
        exact yk k i j (by omega) (by omega) h30 (by omega) (by omega) (by omega) (by omega)) (fun j _ => y3 j)⟩
  by_cases hp16 : p < L.length + 16
  · rw [if_pos hp16, if_pos hp16, if_neg (fun z => z.2.2 hp16)]
    refine hmain _ r u (fun k i j a1 a2 a3 a4 a5 a6 => ?_) (fun k i j a1 a2 a3 => ?_) (fun j => ?_) (fun j hj => ?_) ⟨⟨?_, d2, ?_, d4, fun j hj => ?_⟩, ?_, ⟨?_, ?_, ?_, ?_, ?_, ?_, ?_, ?_⟩, ?_⟩
    · simp only [u_1, mS_1, uX_1]
      repeat rw [if_neg (by omega)]
    · exact hX2 k i j a1
    · exact hX3 j
    · simp only [u_1, mS_1, uX_1]
      repeat rw [if_neg (by omega)]
      exact hXo 30 0 j (by omega) (by omega)
    · simpa [u_1, mS_1, uX_1, hXo] using d1
    · simpa [u_1, mS_1, uX_1, hXo] using d3
    · simpa [u_1, mS_1, uX_1, hXo] using d5 j hj
    · unfold rD
      simp [u_1, mS_1, uX_1]
    · funext j
      simp [u_1, mS_1, uX_1, hX12]
    · simpa [u_1, mS_1, uX_1, hXo] using k2
    · simpa [u_1, mS_1, uX_1, hXo] using k3
    · simpa [u_1, mS_1, uX_1, hXo] using k4
    · show X.2.1 30 0 25 = X.2.1 11 0 7
      rw [hX2 30 0 25 (by omega), hX2 11 0 7 (by omega)]
      exact k5
    · simpa [u_1, mS_1, uX_1, hXo] using k6
    · simpa [u_1, mS_1, uX_1, hXo] using k7
    · simpa [u_1, mS_1, uX_1, hXo] using k8
    · intro j hj
      obtain ⟨v, hv, ev⟩ := hBd j hj
      refine ⟨v, hv, ?_⟩
      simpa [u_1, mS_1, uX_1, hX12] using ev
  · rw [if_neg hp16, if_neg hp16, if_pos ⟨Classical.not_not.mp h1, h2, hp16⟩]
    refine hmain _ n (u + L.length) (fun k i j a1 a2 a3 a4 a5 a6 => ?_) (fun k i j a1 a2 a3 => ?_) (fun j => ?_) (fun j hj => ?_) ⟨⟨?_, Nat.le_refl _, ?_, by omega, fun j hj => ?_⟩, ?_, ⟨?_, ?_, ?_, ?_, ?_, ?_, ?_, ?_⟩, ?_⟩
    · simp only [u_1, mS_1, uX_1]
      repeat rw [if_neg (by omega)]
    · simp only [u_1, mS_2, uX_2]
      repeat rw [if_neg (by omega)]
      exact hX2 k i j a1
    · exact hX3 j
    · simp only [u_1, mS_1, uX_1]
      repeat rw [if_neg (by omega)]
      exact hXo 30 0 j (by omega) (by omega)
    · simp [u_1, mS_1, uX_1]
    · simp [u_1, mS_1, uX_1]
    · simpa [u_1, mS_1, uX_1, hXo] using d5 j hj
    · unfold rD at dD ⊢
      simpa [u_1, mS_1, uX_1, hXo] using dD
    · funext j
      simp [u_1, mS_1, uX_1, hX12]
    · simp [u_1, mS_1, uX_1]
    · simp [u_1, mS_1, uX_1]
    · simp [u_1, mS_1, uX_1]
    · simp [u_1, mS_2, uX_2]
    · simpa [u_1, mS_1, uX_1, hXo] using k6
    · simpa [u_1, mS_1, uX_1, hXo] using k7
    · simpa [u_1, mS_1, uX_1, hXo] using k8
    · intro j hj
      obtain ⟨v, hv, ev⟩ := hBd j hj
      refine ⟨v, hv, ?_⟩
      simpa [u_1, mS_1, uX_1, hX12] using ev
end
