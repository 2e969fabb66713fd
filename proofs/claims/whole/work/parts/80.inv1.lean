/-! THE INVARIANT: the class's roles and the reference's, of one state; in groups: facts, next, disk, items, things -/
def JT (S : pS) : Prop := rT S S
def JB (S : pS) (n : Nat) : Prop := (wfB S n) ∧ (rB S S n) ∧ (∀ i, i < n → S.1 6 i 2 = b2i (chC S i)) ∧ (∀ i, i < n → ∃ a : Nat, a < 4 ∧ S.1 6 i 0 = nI a) ∧ (∀ i, i < n → chC S i = true → holdsC S i = true)
theorem JB.B {S : pS} {n : Nat} (h : JB S n) : wfB S n := h.1
theorem JB.hB {S : pS} {n : Nat} (h : JB S n) : rB S S n := h.2.1
theorem JB.x1 {S : pS} {n : Nat} (h : JB S n) : ∀ i, i < n → S.1 6 i 2 = b2i (chC S i) := h.2.2.1
theorem JB.x2 {S : pS} {n : Nat} (h : JB S n) : ∀ i, i < n → ∃ a : Nat, a < 4 ∧ S.1 6 i 0 = nI a := h.2.2.2.1
theorem JB.x3 {S : pS} {n : Nat} (h : JB S n) : ∀ i, i < n → chC S i = true → holdsC S i = true := h.2.2.2.2
def JN (S : pS) (n : Nat) : Prop := (wfF S 61 n) ∧ (rN S S)
theorem JN.N {S : pS} {n : Nat} (h : JN S n) : wfF S 61 n := h.1
theorem JN.hN {S : pS} {n : Nat} (h : JN S n) : rN S S := h.2
def JD (S : pS) (n r u : Nat) : Prop := (wfD S n r u) ∧ (rD S S) ∧ (rK S S) ∧ (bB (S.1 12 0))
theorem JD.D {S : pS} {n r u : Nat} (h : JD S n r u) : wfD S n r u := h.1
theorem JD.hD {S : pS} {n r u : Nat} (h : JD S n r u) : rD S S := h.2.1
theorem JD.hK {S : pS} {n r u : Nat} (h : JD S n r u) : rK S S := h.2.2.1
theorem JD.x4 {S : pS} {n r u : Nat} (h : JD S n r u) : bB (S.1 12 0) := h.2.2.2
def JO (S : pS) (b c : Nat) : Prop := (wfO S b c) ∧ (rO S S b c)
theorem JO.O {S : pS} {b c : Nat} (h : JO S b c) : wfO S b c := h.1
theorem JO.hO {S : pS} {b c : Nat} (h : JO S b c) : rO S S b c := h.2
def J (S : pS) (n b c r u : Nat) : Prop := (JT S) ∧ (JB S n) ∧ (JN S n) ∧ (JD S n r u) ∧ (JO S b c)
theorem J.jT {S : pS} {n b c r u : Nat} (h : J S n b c r u) : JT S := h.1
theorem J.jB {S : pS} {n b c r u : Nat} (h : J S n b c r u) : JB S n := h.2.1
theorem J.jN {S : pS} {n b c r u : Nat} (h : J S n b c r u) : JN S n := h.2.2.1
theorem J.jD {S : pS} {n b c r u : Nat} (h : J S n b c r u) : JD S n r u := h.2.2.2.1
theorem J.jO {S : pS} {n b c r u : Nat} (h : J S n b c r u) : JO S b c := h.2.2.2.2
def kT (k : Nat) : Prop := k = 2 ∨ k = 3 ∨ k = 32 ∨ k = 33
def kB (n k i j : Nat) : Prop := k = 2 ∨ k = 3 ∨ (k = 4 ∧ j = 1) ∨ (6 ≤ k ∧ k ≤ 10 ∧ i < n) ∨ (k = 30 ∧ i = 0 ∧ j = 3) ∨ (35 ≤ k ∧ k ≤ 44)
def kBl (n k i : Nat) : Prop := (k = 6 ∧ i < n) ∨ k = 36
def kN (k i j : Nat) : Prop := (6 ≤ k ∧ k ≤ 10 ∧ i = 61) ∨ (k = 30 ∧ i = 0 ∧ (j = 14 ∨ j = 16)) ∨ k = 46 ∨ k = 48
def kD (k i j : Nat) : Prop := (11 ≤ k ∧ k ≤ 14) ∨ k = 52 ∨ k = 58 ∨ (k = 30 ∧ i = 0 ∧ (j = 18 ∨ (22 ≤ j ∧ j ≤ 28)))
def kDl (k i j : Nat) : Prop := k = 11 ∨ (k = 30 ∧ i = 0 ∧ j = 25)
def kO (k i j : Nat) : Prop := k = 20 ∨ k = 21 ∨ k = 68 ∨ k = 71 ∨ (k = 30 ∧ i = 0 ∧ 35 ≤ j ∧ j ≤ 39)
theorem holdsC_congr {S T : pS} {i : Nat} (h0 : T.1 6 i 0 = S.1 6 i 0) (h4 : T.1 6 i 4 = S.1 6 i 4) (h8 : T.1 6 i 8 = S.1 6 i 8) (h2 : T.1 7 i = S.1 7 i) (h3 : T.1 8 i = S.1 8 i) (h9 : T.1 9 i = S.1 9 i) (h5 : T.1 10 i = S.1 10 i) (h6 : ∀ k, k < tcC S i → T.1 2 0 (thC S i k) = S.1 2 0 (thC S i k)) (h7 : ∀ k, k < tcC S i → T.1 3 0 (thC S i k) = S.1 3 0 (thC S i k)) (hv : T.2.1 6 i 1 = S.2.1 6 i 1) (ho : ∀ k, k < fcC S i → T.2.1 6 (onC S i k) 1 = S.2.1 6 (onC S i k) 1) : holdsC T i = holdsC S i := by
  have e1 : onC T i = onC S i := by funext k; unfold onC; rw [h5]
  have e2 : thC T i = thC S i := by funext k; unfold thC; rw [h2]
  have e3 : tcC T i = tcC S i := by unfold tcC; rw [h4]
  have e4 : fcC T i = fcC S i := by unfold fcC; rw [h8]
  have e7 : ∀ m, m ≤ tcC S i → frs (S.1 6 i 0) (thC S i) (S.1 8 i) (S.1 9 i) (T.1 2 0) (T.1 3 0) m = frs (S.1 6 i 0) (thC S i) (S.1 8 i) (S.1 9 i) (S.1 2 0) (S.1 3 0) m := by
    intro m
    induction m with
    | zero => intro _; rfl
    | succ m ih =>
      intro hm
      unfold frs
      rw [ih (by omega), h6 m (by omega), h7 m (by omega)]
  have e5 : freshC T i = freshC S i := by unfold freshC frsC; rw [e2, e3, h0, h3, h9]; exact e7 _ (Nat.le_refl _)
  have e6 : ∀ m, m ≤ fcC S i → svs (fun j => T.2.1 6 j 1) (onC S i) m = svs (fun j => S.2.1 6 j 1) (onC S i) m := by
    intro m
    induction m with
    | zero => intro _; rfl
    | succ m ih =>
      intro hm
      unfold svs
      rw [ih (by omega), ho m (by omega)]
  unfold holdsC
  rw [h0, hv, e1, e4, e5, e6 _ (Nat.le_refl _)]
theorem wfF_c {S T : pS} {i m : Nat} (h4 : T.1 6 i 4 = S.1 6 i 4) (h8 : T.1 6 i 8 = S.1 6 i 8) (h2 : T.1 7 i = S.1 7 i) (h5 : T.1 10 i = S.1 10 i) (h : wfF S i m) : wfF T i m := by
  unfold wfF tcC fcC thC onC at h ⊢
  rw [h4, h8, h2, h5]
  exact h
theorem JT_c {S T : pS} (h : JT S) (e1 : ∀ k i j, kT k → T.1 k i j = S.1 k i j) : JT T := by
  have f0 : ∀ k, kT k → T.1 k 0 = S.1 k 0 := fun k hk => by funext j; exact e1 k 0 j hk
  unfold JT rT at h ⊢
  rw [f0 32 (by unfold kT; omega), f0 33 (by unfold kT; omega), f0 2 (by unfold kT; omega), f0 3 (by unfold kT; omega)]
  exact h
def kB' (n k i j : Nat) : Prop := (k = 4 ∧ j = 1) ∨ (k = 6 ∧ i < n ∧ ¬ j = 2 ∧ ¬ j = 3) ∨ (7 ≤ k ∧ k ≤ 10 ∧ i < n) ∨ (k = 30 ∧ i = 0 ∧ j = 3) ∨ (35 ≤ k ∧ k ≤ 42)
theorem JB_g {S T : pS} {n : Nat} (h : JB S n) (e1 : ∀ k i j, kB' n k i j → T.1 k i j = S.1 k i j) (e2 : ∀ k i j, kBl n k i → T.2.1 k i j = S.2.1 k i j) (f43 : ∀ i, i < n → T.1 43 0 i = T.1 6 i 2) (f44 : ∀ i, i < n → T.1 44 0 i = T.1 6 i 3) (y1 : ∀ i, i < n → T.1 6 i 2 = b2i (chC T i)) (y3 : ∀ i, i < n → chC T i = true → holdsC T i = true) : JB T n := by
  obtain ⟨B, hB, x1, x2, x3⟩ := h
  have f : ∀ k i, (7 ≤ k ∧ k ≤ 10 ∧ i < n) → T.1 k i = S.1 k i := fun k i hk => by funext j; exact e1 k i j (by unfold kB'; omega)
  have f6 : ∀ i j, i < n → ¬ j = 2 → ¬ j = 3 → T.1 6 i j = S.1 6 i j := fun i j hi h2 h3 => e1 6 i j (by unfold kB'; omega)
  have f0 : ∀ k, (35 ≤ k ∧ k ≤ 42) → T.1 k 0 = S.1 k 0 := fun k hk => by funext j; exact e1 k 0 j (by unfold kB'; omega)
  have g : ∀ i, i < n → T.2.1 6 i = S.2.1 6 i := fun i hi => by funext j; exact e2 6 i j (Or.inl ⟨rfl, hi⟩)
  have g36 : ∀ i j, T.2.1 36 i j = S.2.1 36 i j := fun i j => e2 36 i j (Or.inr rfl)
  have tc : ∀ i, i < n → tcC T i = tcC S i := fun i hi => by unfold tcC; rw [f6 i 4 hi (by omega) (by omega)]
  have fc : ∀ i, i < n → fcC T i = fcC S i := fun i hi => by unfold fcC; rw [f6 i 8 hi (by omega) (by omega)]
  refine ⟨?_, ?_, y1, ?_, y3⟩
  · exact ⟨by rw [e1 4 0 1 (by unfold kB'; omega)]; exact B.1, B.2.1, fun i hi => wfF_c (f6 i 4 hi (by omega) (by omega)) (f6 i 8 hi (by omega) (by omega)) (f 7 i (by omega)) (f 10 i (by omega)) (B.2.2 i hi)⟩
  · refine ⟨by rw [e1 30 0 3 (by unfold kB'; omega)]; exact hB.1, fun i hi => ?_⟩
    obtain ⟨a1, a2, a3, a4, a5, a6, -, -⟩ := hB.2 i hi
    unfold rF
    rw [f43 i hi, f44 i hi, f0 35 (by omega), f0 37 (by omega), f0 38 (by omega), f0 39 (by omega), f0 40 (by omega), f0 41 (by omega), f0 42 (by omega), f6 i 0 hi (by omega) (by omega), f6 i 4 hi (by omega) (by omega), f6 i 8 hi (by omega) (by omega), f 7 i (by omega), f 8 i (by omega), f 9 i (by omega), f 10 i (by omega), tc i (by omega), fc i (by omega), g i (by omega), g36]
    exact ⟨a1, a2, a3, a4, a5, a6, rfl, rfl⟩
  · intro i hi
    rw [f6 i 0 hi (by omega) (by omega)]
    exact x2 i hi
theorem JB_c {S T : pS} {n : Nat} (h : JB S n) (e1 : ∀ k i j, kB n k i j → T.1 k i j = S.1 k i j) (e2 : ∀ k i j, kBl n k i → T.2.1 k i j = S.2.1 k i j) : JB T n := by
  have f : ∀ k i, (6 ≤ k ∧ k ≤ 10 ∧ i < n) → T.1 k i = S.1 k i := fun k i hk => by funext j; exact e1 k i j (by unfold kB; omega)
  have f0 : ∀ k j, (k = 2 ∨ k = 3 ∨ (35 ≤ k ∧ k ≤ 44)) → T.1 k 0 j = S.1 k 0 j := fun k j hk => e1 k 0 j (by unfold kB; omega)
  have g : ∀ i j, i < n → T.2.1 6 i j = S.2.1 6 i j := fun i j hi => e2 6 i j (Or.inl ⟨rfl, hi⟩)
  have hr := h.hB.2
  have ec : ∀ i, i < n → chC T i = chC S i := fun i hi => by unfold chC; rw [f 6 i (by omega)]
  refine JB_g h (fun k i j hk => e1 k i j (by unfold kB' at hk; unfold kB; omega)) e2 (fun i hi => ?_) (fun i hi => ?_) (fun i hi => ?_) (fun i hi hc => ?_)
  · rw [f0 43 i (by omega), f 6 i (by omega)]
    exact (hr i hi).2.2.2.2.2.2.1
  · rw [f0 44 i (by omega), f 6 i (by omega)]
    exact (hr i hi).2.2.2.2.2.2.2
  · rw [ec i hi, f 6 i (by omega)]
    exact h.x1 i hi
  · rw [ec i hi] at hc
    rw [holdsC_congr (S := S) (by rw [f 6 i (by omega)]) (by rw [f 6 i (by omega)]) (by rw [f 6 i (by omega)]) (f 7 i (by omega)) (f 8 i (by omega)) (f 9 i (by omega)) (f 10 i (by omega)) (fun k _ => f0 2 _ (by omega)) (fun k _ => f0 3 _ (by omega)) (g i 1 hi) (fun k hk => g _ 1 (by have := (h.B.2.2 i hi).2.2.2.2.2 k hk; omega))]
    exact h.x3 i hi hc
theorem JN_c {S T : pS} {n : Nat} (h : JN S n) (e1 : ∀ k i j, kN k i j → T.1 k i j = S.1 k i j) : JN T n := by
  obtain ⟨N, hN⟩ := h
  have f : ∀ k, (6 ≤ k ∧ k ≤ 10) → T.1 k 61 = S.1 k 61 := fun k hk => by funext j; exact e1 k 61 j (by unfold kN; omega)
  have f0 : ∀ k, (k = 46 ∨ k = 48) → T.1 k 0 = S.1 k 0 := fun k hk => by funext j; exact e1 k 0 j (by unfold kN; omega)
  refine ⟨wfF_c (by rw [f 6 (by omega)]) (by rw [f 6 (by omega)]) (f 7 (by omega)) (f 10 (by omega)) N, ?_⟩
  unfold rN tcC fcC at hN ⊢
  rw [e1 30 0 14 (by unfold kN; omega), e1 30 0 16 (by unfold kN; omega), f0 46 (by omega), f0 48 (by omega), f 6 (by omega), f 7 (by omega), f 10 (by omega)]
  exact hN
theorem JD_c {S T : pS} {n r u : Nat} (h : JD S n r u) (e1 : ∀ k i j, kD k i j → T.1 k i j = S.1 k i j) (e2 : ∀ k i j, kDl k i j → T.2.1 k i j = S.2.1 k i j) : JD T n r u := by
  obtain ⟨D, hD, hK, x4⟩ := h
  have f0 : ∀ k, ((11 ≤ k ∧ k ≤ 14) ∨ k = 52 ∨ k = 58) → T.1 k 0 = S.1 k 0 := fun k hk => by funext j; exact e1 k 0 j (by unfold kD; omega)
  have a30 : ∀ j, (j = 18 ∨ (22 ≤ j ∧ j ≤ 28)) → T.1 30 0 j = S.1 30 0 j := fun j hj => e1 30 0 j (by unfold kD; omega)
  refine ⟨?_, ?_, ?_, ?_⟩
  · unfold wfD at D ⊢
    rw [f0 11 (by omega), f0 14 (by omega)]
    exact D
  · unfold rD at hD ⊢
    rw [a30 18 (by omega), f0 11 (by omega)]
    exact hD
  · unfold rK at hK ⊢
    rw [a30 22 (by omega), a30 23 (by omega), a30 24 (by omega), a30 26 (by omega), a30 28 (by omega), f0 52 (by omega), f0 58 (by omega), f0 11 (by omega), f0 12 (by omega), f0 13 (by omega), e2 30 0 25 (by unfold kDl; omega), e2 11 0 7 (by unfold kDl; omega)]
    exact hK
  · rw [f0 12 (by omega)]
    exact x4
theorem JO_c {S T : pS} {b c : Nat} (h : JO S b c) (e1 : ∀ k i j, kO k i j → T.1 k i j = S.1 k i j) (e3 : ∀ j, (j = 7 ∨ j = 8) → T.2.2 0 0 j = S.2.2 0 0 j) : JO T b c := by
  obtain ⟨O, hO⟩ := h
  have f0 : ∀ k i, (k = 20 ∨ k = 21 ∨ k = 68 ∨ k = 71) → T.1 k i = S.1 k i := fun k i hk => by funext j; exact e1 k i j (by unfold kO; omega)
  have a30 : ∀ j, (35 ≤ j ∧ j ≤ 39) → T.1 30 0 j = S.1 30 0 j := fun j hj => e1 30 0 j (by unfold kO; omega)
  refine ⟨?_, ?_⟩
  · unfold wfO at O ⊢
    rw [f0 20 b (by omega), f0 20 c (by omega), e3 7 (by omega), e3 8 (by omega)]
    exact O
  · unfold rO at hO ⊢
    rw [a30 35 (by omega), a30 36 (by omega), a30 38 (by omega), a30 39 (by omega), f0 68 0 (by omega), f0 71 0 (by omega), f0 20 b (by omega), f0 20 c (by omega), f0 21 b (by omega), f0 21 c (by omega)]
    exact hO
/-- the reference's roles are the same -/
def rfE (S T : pS) : Prop := ∀ k, 30 ≤ k → T.1 k = S.1 k ∧ T.2.1 k = S.2.1 k
theorem rfE_0 (S : pS) : rfE S S := fun _ _ => ⟨rfl, rfl⟩
section
variable {S T : pS} {n b c r u : Nat}
theorem rfT (h : rfE S T) (j : J S n b c r u) : rT T S := by
  have := j.jT
  unfold JT rT at this
  unfold rT
  rw [(h 32 (by omega)).1, (h 33 (by omega)).1]
  exact this
theorem rfB (h : rfE S T) (j : J S n b c r u) : rB T S n := by
  have := j.jB.hB
  unfold rB rF at this ⊢
  rw [(h 30 (by omega)).1, (h 35 (by omega)).1, (h 36 (by omega)).2, (h 37 (by omega)).1, (h 38 (by omega)).1, (h 39 (by omega)).1, (h 40 (by omega)).1, (h 41 (by omega)).1, (h 42 (by omega)).1, (h 43 (by omega)).1, (h 44 (by omega)).1]
  exact this
theorem rfN (h : rfE S T) (j : J S n b c r u) : rN T S := by
  have := j.jN.hN
  unfold rN at this ⊢
  rw [(h 30 (by omega)).1, (h 46 (by omega)).1, (h 48 (by omega)).1]
  exact this
theorem rfD (h : rfE S T) (j : J S n b c r u) : rD T S := by
  have := j.jD.hD
  unfold rD at this ⊢
  rw [(h 30 (by omega)).1]
  exact this
theorem rfK (h : rfE S T) (j : J S n b c r u) : rK T S := by
  have := j.jD.hK
  unfold rK at this ⊢
  rw [(h 30 (by omega)).1, (h 30 (by omega)).2, (h 52 (by omega)).1, (h 58 (by omega)).1]
  exact this
theorem rfO (h : rfE S T) (j : J S n b c r u) : rO T S b c := by
  have := j.jO.hO
  unfold rO at this ⊢
  rw [(h 30 (by omega)).1, (h 68 (by omega)).1, (h 71 (by omega)).1]
  exact this
theorem rf3 (h : rfE S T) (j : J S n b c r u) : T.1 30 0 3 = nI n := (rfB h j).1
theorem rfE_uI {k i j : Nat} {v : Int32} (hk : k < 30) (h : rfE S T) : rfE S (uI T k i j v) := by
  intro k' hk'
  refine ⟨?_, (h k' hk').2⟩
  funext i' j'
  simp only [u_1]
  rw [if_neg (by omega), (h k' hk').1]
theorem rfE_uJ {k i j : Nat} {v : Int64} (hk : k < 30) (h : rfE S T) : rfE S (uJ T k i j v) := by
  intro k' hk'
  refine ⟨(h k' hk').1, ?_⟩
  funext i' j'
  simp only [u_1]
  rw [if_neg (by omega), (h k' hk').2]
theorem rfE_uQ {k i j : Nat} {v : Nat × Nat} (h : rfE S T) : rfE S (uQ T k i j v) := h
end
