/-! the invariant over the calls: take -/
section
variable {d : Nat → Int32} {e : Nat}
theorem unl_v {m : Int32} {M : Nat} {f : Nat → Int32} {n : Nat} {ρ : pR} (hm : m.toInt = M) (h : (unl d e m f n ρ).2.2.1 = false) : ∃ c : Nat, c ≤ M ∧ (unl d e m f n ρ).1 = nI c := by
  rw [(unl_f h).1]
  exact nxt_nI hm
theorem unl_r {r : Nat} {f : Nat → Int32} {n : Nat} {ρ : pR} (hr : r ≤ 60) (h : (unl d e (nI r - 1) f n ρ).2.2.1 = false) : ∃ c : Nat, c < r ∧ (unl d e (nI r - 1) f n ρ).1 = nI c := by
  have e1 := (unl_f h).1
  rw [e1] at h
  obtain ⟨g1, g2, g3, g4, g5⟩ := nxt_f h
  rw [e1, g5]
  cases r with
  | zero =>
    exfalso
    rw [Int32.lt_iff_toInt_lt] at g3 g4
    have h3 : (nI 0 - 1).toInt = -1 := by decide
    have h4 : (0 : Int32).toInt = 0 := by decide
    omega
  | succ r =>
    rw [nI_pred] at g4
    obtain ⟨c, hc, ec⟩ := nI_of2 (n := r) (M := nI r) (nI_toInt (by omega)) g3 (Int32.not_lt.mp g4)
    exact ⟨c, by omega, ec⟩
theorem pT_v : ∀ {k t : Nat} {th dt ct : Nat → Int32} {ρ : pR}, (pT d e k t th dt ct ρ).2.2.2.2.2.1 = false → (pT d e k t th dt ct ρ).1 = t + k ∧ (∀ z, z < t → (pT d e k t th dt ct ρ).2.1 z = th z) ∧ ∀ z, t ≤ z → z < t + k → ∃ c : Nat, c < 16 ∧ (pT d e k t th dt ct ρ).2.1 z = nI c
  | 0, t, th, dt, ct, ρ, _ => ⟨rfl, fun z _ => rfl, fun z h1 h2 => by omega⟩
  | k + 1, t, th, dt, ct, ρ, h => by
    have hr := pT_f h
    rw [pT_s hr] at h ⊢
    obtain ⟨a1, a2, a3⟩ := pT_v h
    refine ⟨by omega, fun z hz => ?_, fun z h1 h2 => ?_⟩
    · rw [a2 z (by omega), upd_lt hz]
    · by_cases hzt : z = t
      · subst hzt
        obtain ⟨c, hc, ec⟩ := unl_v (m := 15) (M := 15) (by decide) (num_f (num_f (pT_f h)))
        refine ⟨c, by omega, ?_⟩
        rw [a2 z (by omega), upd_eq]
        exact ec
      · exact a3 z (by omega) (by omega)
theorem pF_v {r : Nat} (hr60 : r ≤ 60) : ∀ {k t : Nat} {on : Nat → Int32} {ρ : pR}, (pF d e (nI r - 1) k t on ρ).2.2.2.1 = false → (pF d e (nI r - 1) k t on ρ).1 = t + k ∧ (∀ z, z < t → (pF d e (nI r - 1) k t on ρ).2.1 z = on z) ∧ ∀ z, t ≤ z → z < t + k → ∃ c : Nat, c < r ∧ (pF d e (nI r - 1) k t on ρ).2.1 z = nI c
  | 0, t, on, ρ, _ => ⟨rfl, fun z _ => rfl, fun z h1 h2 => by omega⟩
  | k + 1, t, on, ρ, h => by
    have hr := pF_f h
    rw [pF_s hr] at h ⊢
    obtain ⟨a1, a2, a3⟩ := pF_v hr60 h
    refine ⟨by omega, fun z hz => ?_, fun z h1 h2 => ?_⟩
    · rw [a2 z (by omega), upd_lt hz]
    · by_cases hzt : z = t
      · subst hzt
        obtain ⟨c, hc, ec⟩ := unl_r hr60 (pF_f h)
        refine ⟨c, hc, ?_⟩
        rw [a2 z (by omega), upd_eq]
        exact ec
      · exact a3 z (by omega) (by omega)
/-- a row that was read right: its counts and numbers -/
theorem row_v {r : Nat} {ρ : pR} (hr : r ≤ 60) (h : (rowR d e r ρ).2.1 = false) : ∃ a t f : Nat, a < 4 ∧ (q1 d e ρ).1 = nI a ∧ t ≤ 4 ∧ (q3 d e ρ).1 = nI t ∧ (q4 d e ρ).1 = t ∧ (∀ z, z < t → ∃ c : Nat, c < 16 ∧ (q4 d e ρ).2.1 z = nI c) ∧ f ≤ 3 ∧ (q5 d e ρ).1 = nI f ∧ (q6 d e r ρ).1 = f ∧ ∀ z, z < f → ∃ c : Nat, c < r ∧ (q6 d e r ρ).2.1 z = nI c := by
  obtain ⟨f5, f4, f3, f2, f1⟩ := row_fs h
  obtain ⟨a, ha, ea⟩ := nxt_nI (d := d) (e := e) (m := 3) (M := 3) (ρ := ρ) (by decide)
  obtain ⟨t, ht, et⟩ := nxt_nI (d := d) (e := e) (m := 4) (M := 4) (ρ := (q2 d e ρ).2) (by decide)
  obtain ⟨f, hf, ef⟩ := nxt_nI (d := d) (e := e) (m := 3) (M := 3) (ρ := (q4 d e ρ).2.2.2.2) (by decide)
  have et2 : nN (q3 d e ρ).1 = t := by rw [et, nN_nI (by omega)]
  have ef2 : nN (q5 d e ρ).1 = f := by rw [ef, nN_nI (by omega)]
  obtain ⟨b1, -, b3⟩ := pT_v f4
  obtain ⟨c1, -, c3⟩ := pF_v hr h
  rw [et2] at b1 b3
  rw [ef2] at c1 c3
  refine ⟨a, t, f, by omega, ea, ht, et, by rw [show (q4 d e ρ).1 = _ from by rw [show q4 d e ρ = pT d e (nN (q3 d e ρ).1) 0 zF zF zF (q3 d e ρ).2 from rfl, et2]]; omega, fun z hz => ?_, hf, ef, by rw [show (q6 d e r ρ).1 = _ from by rw [show q6 d e r ρ = pF d e (nI r - 1) (nN (q5 d e ρ).1) 0 zF (q5 d e ρ).2 from rfl, ef2]]; omega, fun z hz => ?_⟩
  · have := b3 z (by omega) (by omega)
    rw [show q4 d e ρ = pT d e (nN (q3 d e ρ).1) 0 zF zF zF (q3 d e ρ).2 from rfl, et2]
    exact this
  · have := c3 z (by omega) (by omega)
    rw [show q6 d e r ρ = pF d e (nI r - 1) (nN (q5 d e ρ).1) 0 zF (q5 d e ρ).2 from rfl, ef2]
    exact this
/-- a row in the class's fact F, and in the reference's -/
def fRow (X : pS) (F : Nat) (d : Nat → Int32) (e r : Nat) (ρ : pR) : Prop := X.1 6 F 0 = (q1 d e ρ).1 ∧ X.2.1 6 F 1 = (q2 d e ρ).1 ∧ X.1 6 F 2 = 0 ∧ X.1 6 F 3 = 0 ∧ X.1 6 F 4 = nI (q4 d e ρ).1 ∧ X.1 6 F 8 = nI (q6 d e r ρ).1 ∧ (∀ z, z < (q4 d e ρ).1 → X.1 7 F z = (q4 d e ρ).2.1 z ∧ X.1 8 F z = (q4 d e ρ).2.2.1 z ∧ X.1 9 F z = (q4 d e ρ).2.2.2.1 z) ∧ ∀ z, z < (q6 d e r ρ).1 → X.1 10 F z = (q6 d e r ρ).2.1 z
def tRow (X : pS) (n F : Nat) (d : Nat → Int32) (e r : Nat) (ρ : pR) : Prop := X.1 35 0 F = (q1 d e ρ).1 ∧ X.2.1 36 0 F = (q2 d e ρ).1 ∧ X.1 43 0 F = 0 ∧ X.1 44 0 F = 0 ∧ X.1 37 0 F = (q3 d e ρ).1 ∧ X.1 41 0 F = (q5 d e ρ).1 ∧ (∀ z, z < (q4 d e ρ).1 → X.1 38 0 (4 * F + z) = (q4 d e ρ).2.1 z ∧ X.1 39 0 (4 * F + z) = (q4 d e ρ).2.2.1 z ∧ X.1 40 0 (4 * F + z) = (q4 d e ρ).2.2.2.1 z) ∧ ∀ z, z < (q6 d e r ρ).1 → X.1 42 0 (3 * F + z) = (q6 d e r ρ).2.1 z + nI n
theorem fRow_F {S : pS} {F r : Nat} {ρ : pR} : fRow (rowF S F d e r ρ) F d e r ρ := by
  unfold fRow
  simp only [rowF, fS_1, fS_2]
  refine ⟨by simp, by simp, by simp, by simp, by simp, by simp, fun z hz => by simp [hz], fun z hz => by simp [hz]⟩
theorem fRow_to {X Y : pS} {F r : Nat} {ρ : pR} (h : fRow X F d e r ρ) (h1 : ∀ k j, Y.1 k F j = X.1 k F j) (h2 : ∀ k j, Y.2.1 k F j = X.2.1 k F j) : fRow Y F d e r ρ := by
  unfold fRow at h ⊢
  simp only [h1, h2]
  exact h
theorem rwT_1 {T : pS} {n F r k i j : Nat} {ρ : pR} : (rwT T n F d e r ρ).1 k i j = if k = 42 ∧ i = 0 ∧ 3 * F ≤ j ∧ j < 3 * F + (q6 d e r ρ).1 then (q6 d e r ρ).2.1 (j - 3 * F) + nI n else if k = 41 ∧ i = 0 ∧ j = F then (q5 d e ρ).1 else if k = 40 ∧ i = 0 ∧ 4 * F ≤ j ∧ j < 4 * F + (q4 d e ρ).1 then (q4 d e ρ).2.2.2.1 (j - 4 * F) else if k = 39 ∧ i = 0 ∧ 4 * F ≤ j ∧ j < 4 * F + (q4 d e ρ).1 then (q4 d e ρ).2.2.1 (j - 4 * F) else if k = 38 ∧ i = 0 ∧ 4 * F ≤ j ∧ j < 4 * F + (q4 d e ρ).1 then (q4 d e ρ).2.1 (j - 4 * F) else if (k = 44 ∨ k = 43) ∧ i = 0 ∧ j = F then 0 else if k = 37 ∧ i = 0 ∧ j = F then (q3 d e ρ).1 else if k = 35 ∧ i = 0 ∧ j = F then (q1 d e ρ).1 else T.1 k i j := by
  generalize hA : (q6 d e r ρ).1 = A
  generalize hB : (q6 d e r ρ).2.1 = B
  generalize hC : (q4 d e ρ).1 = C
  generalize hD : (q4 d e ρ).2.1 = D
  generalize hE : (q4 d e ρ).2.2.1 = E
  generalize hF : (q4 d e ρ).2.2.2.1 = G
  generalize hH : (q5 d e ρ).1 = H
  generalize hI : (q3 d e ρ).1 = I
  generalize hJ : (q1 d e ρ).1 = J9
  unfold rwT nfO rwB0 nfT rwA0
  rw [hA, hB, hC, hD, hE, hF, hH, hI, hJ]
  simp only [u_1, uX_1]
  grind (splits := 60)
theorem rwT_2 {T : pS} {n F r k i j : Nat} {ρ : pR} : (rwT T n F d e r ρ).2.1 k i j = if k = 36 ∧ i = 0 ∧ j = F then (q2 d e ρ).1 else T.2.1 k i j := rfl
theorem rwT_3 {T : pS} {n F r : Nat} {ρ : pR} : (rwT T n F d e r ρ).2.2 = T.2.2 := rfl
theorem tRow_F {T : pS} {n F r : Nat} {ρ : pR} : tRow (rwT T n F d e r ρ) n F d e r ρ := by
  unfold tRow
  simp only [rwT_1, rwT_2]
  refine ⟨by simp, by simp, by simp, by simp, by simp, by simp, fun z hz => by simp [hz], fun z hz => by simp [hz]⟩
theorem tRow_ne {T : pS} {n F F2 r r2 : Nat} {ρ ρ2 : pR} (h : tRow T n F d e r ρ) (hne : ¬ F = F2) (h4 : (q4 d e ρ).1 ≤ 4) (h3 : (q6 d e r ρ).1 ≤ 3) (h42 : (q4 d e ρ2).1 ≤ 4) (h32 : (q6 d e r2 ρ2).1 ≤ 3) : tRow (rwT T n F2 d e r2 ρ2) n F d e r ρ := by
  obtain ⟨a1, a2, a3, a4, a5, a6, a7, a8⟩ := h
  unfold tRow
  refine ⟨?_, ?_, ?_, ?_, ?_, ?_, fun z hz => ⟨?_, ?_, ?_⟩, fun z hz => ?_⟩
  · rw [rwT_1]; repeat rw [if_neg (by omega)]
    exact a1
  · rw [rwT_2]; repeat rw [if_neg (by omega)]
    exact a2
  · rw [rwT_1]; repeat rw [if_neg (by omega)]
    exact a3
  · rw [rwT_1]; repeat rw [if_neg (by omega)]
    exact a4
  · rw [rwT_1]; repeat rw [if_neg (by omega)]
    exact a5
  · rw [rwT_1]; repeat rw [if_neg (by omega)]
    exact a6
  · rw [rwT_1]; repeat rw [if_neg (by omega)]
    exact (a7 z hz).1
  · rw [rwT_1]; repeat rw [if_neg (by omega)]
    exact (a7 z hz).2.1
  · rw [rwT_1]; repeat rw [if_neg (by omega)]
    exact (a7 z hz).2.2
  · rw [rwT_1]; repeat rw [if_neg (by omega)]
    exact a8 z hz
/-- facts that take doesn't touch -/
theorem tk_at {n : Nat} : ∀ {k i : Nat} {S : pS} {ρ : pR} {f : Nat}, (f < n ∨ 60 < f) → n ≤ 60 → (∀ k' j', (tk n d e k i S ρ).1.1 k' f j' = S.1 k' f j') ∧ ∀ k' j', (tk n d e k i S ρ).1.2.1 k' f j' = S.2.1 k' f j'
  | 0, _, _, _, _, _, _ => ⟨fun _ _ => rfl, fun _ _ => rfl⟩
  | k + 1, i, S, ρ, f, h1, h2 => by
    unfold tk
    split
    · exact ⟨fun _ _ => rfl, fun _ _ => rfl⟩
    · have h3 := tk_at (k := k) (i := i + 1) (S := rowF S (fpl n i) d e i ρ) (ρ := rowR d e i ρ) h1 h2
      have h4 : ¬ f = fpl n i := by unfold fpl; split <;> omega
      have h5 := rowF_ne (S := S) (i := fpl n i) (f := f) (d := d) (e := e) (r := i) (ρ := ρ) h4
      exact ⟨fun k' j' => by rw [h3.1, h5.1], fun k' j' => by rw [h3.2, h5.2]⟩
theorem tk_2o {n : Nat} : ∀ {k i : Nat} {S : pS} {ρ : pR} {k' i' j' : Nat}, ¬ k' = 6 → (tk n d e k i S ρ).1.2.1 k' i' j' = S.2.1 k' i' j'
  | 0, _, _, _, _, _, _, _ => rfl
  | k + 1, i, S, ρ, k', i', j', h => by
    unfold tk
    split
    · rfl
    · rw [tk_2o h, rowF, fS_2, if_neg (by omega)]
/-- both have read the same rows -/
theorem tk_rel {n : Nat} : ∀ {k i : Nat} {S T : pS} {ρ : pR}, n + i + k ≤ 60 → (tk n d e k i S ρ).2.2.1 = false → (∀ z, z < i → ∃ ρz, (rowR d e z ρz).2.1 = false ∧ fRow S (n + z) d e z ρz ∧ tRow T n (n + z) d e z ρz) → ∀ z, z < i + k → ∃ ρz, (rowR d e z ρz).2.1 = false ∧ fRow (tk n d e k i S ρ).1 (n + z) d e z ρz ∧ tRow (tkT n d e k i T ρ) n (n + z) d e z ρz
  | 0, i, S, T, ρ, _, _, h, z, hz => h z hz
  | k + 1, i, S, T, ρ, h60, hf, h, z, hz => by
    have hf0 : ρ.2.1 = false := by
      have h9 := hf
      rw [tk_R] at h9
      exact tkR_f h9
    have hn : ¬ ρ.2.1 = true := by rw [hf0]; decide
    have hfp : fpl n i = n + i := by simp [fpl]; omega
    rw [tk, if_neg hn] at hf ⊢
    rw [tkT]
    have hrr : (rowR d e i ρ).2.1 = false := by
      have h9 := hf
      rw [tk_R] at h9
      exact tkR_f h9
    obtain ⟨a, t, f, -, -, ht, -, e4, -, hf3, -, e6, -⟩ := row_v (by omega) hrr
    refine tk_rel (k := k) (i := i + 1) (by omega) hf (fun z hz => ?_) z (by omega)
    by_cases hzi : z = i
    · subst hzi
      rw [hfp]
      exact ⟨ρ, hrr, fRow_F, tRow_F⟩
    · obtain ⟨ρz, g1, g2, g3⟩ := h z (by omega)
      obtain ⟨a', t', f', -, -, ht', -, e4', -, hf3', -, e6', -⟩ := row_v (by omega) g1
      refine ⟨ρz, g1, ?_, tRow_ne g3 (by omega) (by omega) (by omega) (by omega) (by omega)⟩
      have h5 := rowF_ne (S := S) (i := fpl n i) (f := n + z) (d := d) (e := e) (r := i) (ρ := ρ) (by omega)
      exact fRow_to g2 (fun k j => h5.1 k j) (fun k j => h5.2 k j)
theorem tkT_lo {n : Nat} : ∀ {k i : Nat} {T : pS} {ρ : pR} {k' i' j' : Nat}, (¬ (35 ≤ k' ∧ k' ≤ 44) ∨ ((k' = 35 ∨ k' = 37 ∨ k' = 41 ∨ k' = 43 ∨ k' = 44) ∧ j' < n + i) ∨ ((k' = 38 ∨ k' = 39 ∨ k' = 40) ∧ j' < 4 * (n + i)) ∨ (k' = 42 ∧ j' < 3 * (n + i)) ∨ k' = 36) → (tkT n d e k i T ρ).1 k' i' j' = T.1 k' i' j'
  | 0, _, _, _, _, _, _, _ => rfl
  | k + 1, i, T, ρ, k', i', j', h => by
    unfold tkT
    rw [tkT_lo (k := k) (by omega), rwT_1]
    repeat rw [if_neg (by omega)]
theorem tkT_l2 {n : Nat} : ∀ {k i : Nat} {T : pS} {ρ : pR} {k' i' j' : Nat}, (¬ k' = 36 ∨ j' < n + i) → (tkT n d e k i T ρ).2.1 k' i' j' = T.2.1 k' i' j'
  | 0, _, _, _, _, _, _, _ => rfl
  | k + 1, i, T, ρ, k', i', j', h => by
    unfold tkT
    rw [tkT_l2 (k := k) (by omega), rwT_2]
    repeat rw [if_neg (by omega)]
theorem tkT_3 {n : Nat} : ∀ {k i : Nat} {T : pS} {ρ : pR}, (tkT n d e k i T ρ).2.2 = T.2.2
  | 0, _, _, _ => rfl
  | k + 1, i, T, ρ => by
    unfold tkT
    rw [tkT_3, rwT_3]
end
