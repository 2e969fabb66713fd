/-! FactLog.pack -/
theorem wg_mono {on : Nat → Nat → Nat} {fc : Nat → Nat} {j : Nat} : ∀ {i : Nat} {p : Nat → Bool}, p j = true → wgF on fc i p j = true
  | 0, _, h => h
  | i + 1, p, h => by
    unfold wgF
    apply wg_mono
    cases p i <;> simp [h]
theorem wg_high {on : Nat → Nat → Nat} {fc : Nat → Nat} {j : Nat} : ∀ {i : Nat} {p : Nat → Bool}, (∀ i', i' < i → ∀ k, k < fc i' → on i' k < i') → i ≤ j → wgF on fc i p j = p j
  | 0, _, _, _ => rfl
  | i + 1, p, ho, h => by
    unfold wgF
    rw [wg_high (fun i' hi' => ho i' (by omega)) (by omega)]
    have hz : anyB (fun z => decide (z = j)) (on i) (fc i) = false := by
      cases ha : anyB (fun z => decide (z = j)) (on i) (fc i) with
      | false => rfl
      | true =>
        obtain ⟨k, h1, h2⟩ := anyB_iff.mp ha
        have h3 := ho i (by omega) k h1
        have h4 : on i k = j := by simpa using h2
        omega
    cases p i <;> simp [hz]
theorem wg_clo {on : Nat → Nat → Nat} {fc : Nat → Nat} : ∀ {i : Nat} {p : Nat → Bool} {j k : Nat}, (∀ i', i' < i → ∀ k, k < fc i' → on i' k < i') → j < i → wgF on fc i p j = true → k < fc j → wgF on fc i p (on j k) = true
  | 0, _, _, _, _, hj, _, _ => by omega
  | i + 1, p, j, k, ho, hj, h, hk => by
    unfold wgF at h ⊢
    by_cases hji : j < i
    · exact wg_clo (fun i' hi' => ho i' (by omega)) hji h hk
    · have hj2 : j = i := by omega
      subst hj2
      rw [wg_high (fun i' hi' => ho i' (by omega)) (Nat.le_refl _)] at h
      have hpj : p j = true := by
        cases hp : p j with
        | true => rfl
        | false => simp [hp] at h
      apply wg_mono
      have ha : anyB (fun z => decide (z = on j k)) (on j) (fc j) = true := anyB_iff.mpr ⟨k, hk, by simp⟩
      simp [hpj, ha]
/-- the set of facts that a parcel of fact f holds -/
def inC (S : pS) (f : Nat) : Nat → Bool := wgF (onC S) (fcC S) (f + 1) (fun j => decide (j = f))
def pkN (S : pS) (W : Nat → Bool) (i : Nat) : pS := (fun k' i' j' => if k' = 19 ∧ i' = 0 ∧ j' < i ∧ W j' = true then nI (cnt W j') else S.1 k' i' j', S.2)
theorem pkN_1 (S : pS) (W : Nat → Bool) (i k' i' j' : Nat) : (pkN S W i).1 k' i' j' = if k' = 19 ∧ i' = 0 ∧ j' < i ∧ W j' = true then nI (cnt W j') else S.1 k' i' j' := rfl
theorem pkN_2 (S : pS) (W : Nat → Bool) (i : Nat) : (pkN S W i).2 = S.2 := rfl
def prw (S : pS) (W : Nat → Bool) (i : Nat) : List Int32 := rwB (S.1 6 i 0) (S.2.1 6 i 1) (tcC S i) (S.1 7 i) (S.1 8 i) (S.1 9 i) (fcC S i) (fun k => nI (cnt W (onC S i k)))
/-- a parcel's items: m, and the rows of those of the first i that are in -/
def pkL (row : Nat → List Int32) (W : Nat → Bool) (m : Nat) : Nat → List Int32
  | 0 => [nI m]
  | i + 1 => if W i = true then pkL row W m i ++ row i else pkL row W m i
theorem pkL_len {row : Nat → List Int32} {W : Nat → Bool} {m : Nat} : ∀ {i : Nat}, (∀ j, j < i → (row j).length ≤ 50) → (pkL row W m i).length ≤ 50 * i + 1
  | 0, _ => by simp [pkL]
  | i + 1, h => by
    have h1 := h i (by omega)
    have h2 := pkL_len (row := row) (W := W) (m := m) (i := i) (fun j hj => h j (by omega))
    unfold pkL
    split
    · rw [List.length_append]
      omega
    · omega
abbrev pk0 (S : pS) (b : Nat) : pS := uQ S 18 0 4 (21, b)
abbrev pk1 (S : pS) (b f m i : Nat) : pS := wS (pkN (pk0 S b) (inC S f) i) 21 b 0 4000 false (pkL (prw S (inC S f)) (inC S f) m i) (sws 7 (pkL (prw S (inC S f)) (inC S f) m i))
theorem cnt_hi {p : Nat → Bool} {m : Nat} (h : ∀ j, m ≤ j → p j = false) : ∀ {n : Nat}, cnt p (m + n) = cnt p m
  | 0 => rfl
  | n + 1 => by
    rw [← Nat.add_assoc]
    simp only [cnt, h (m + n) (by omega)]
    rw [cnt_hi h]
    rfl
theorem wfF_congr {S T : pS} {i m : Nat} (h6 : T.1 6 i = S.1 6 i) (h7 : T.1 7 i = S.1 7 i) (h10 : T.1 10 i = S.1 10 i) (h : wfF S i m) : wfF T i m := by
  unfold wfF tcC fcC thC onC at h ⊢
  rw [h6, h7, h10]
  exact h
theorem wS_uI {S : pS} {qk qi a p k i j : Nat} {c : Bool} {bs : List Int32} {σ : Int64} {v : Int32} (h : ¬ k = qk) (h2 : ¬ k = 18) : uI (wS S qk qi a p c bs σ) k i j v = wS (uI S k i j v) qk qi a p c bs σ := by
  refine Prod.ext ?_ rfl
  funext k' i' j'
  simp only [u_1, wS_1]
  by_cases h1 : k' = k ∧ i' = i ∧ j' = j
  · obtain ⟨rfl, rfl, rfl⟩ := h1
    simp [h, h2]
  · simp [h1]
theorem pkN_oth {S : pS} {W : Nat → Bool} {i k : Nat} (h : ¬ k = 19) : (pkN S W i).1 k = S.1 k := by
  funext i' j'
  rw [pkN_1]
  simp [h]
theorem pkN_put {S : pS} {W : Nat → Bool} {i : Nat} (h : W i = true) : uI (pkN S W i) 19 0 i (nI (cnt W i)) = pkN S W (i + 1) := by
  refine Prod.ext ?_ rfl
  funext k' i' j'
  simp only [u_1, pkN_1]
  by_cases h1 : k' = 19 ∧ i' = 0 ∧ j' = i
  · obtain ⟨rfl, rfl, rfl⟩ := h1
    simp [h]
  · rw [if_neg h1]
    have : (k' = 19 ∧ i' = 0 ∧ j' < i ∧ W j' = true) ↔ (k' = 19 ∧ i' = 0 ∧ j' < i + 1 ∧ W j' = true) := by
      constructor
      · rintro ⟨a, b, c, d⟩
        exact ⟨a, b, by omega, d⟩
      · rintro ⟨a, b, c, d⟩
        refine ⟨a, b, ?_, d⟩
        have : ¬ j' = i := fun z => h1 ⟨a, b, z⟩
        omega
    simp [this]
section
variable {V : pV} {l : Launch} {A : pA} {post : Option Value → pS → Prop} {S : pS}
set_option maxHeartbeats 4000000 in
set_option maxRecDepth 100000 in
theorem lp_pack (C : e_CX7_pack V l) (Rt : e_RX7_pack V (s_P A post)) {n f b m : Nat} {w : Int32} {r : Int64} (hB : wfB S n) (hf : f < n) (hb : b < 2) (hr : Bits r (inC S f))
    (hx : V 0 0 129 [(0, .ref (ad A 0 0)), (1, .int (nI f)), (2, .int w), (3, .long r), (5, .int (nI (cnt (inC S f) (f + 1)))), (6, .int (nI (f + 1)))] [] (gS A (pk1 S b f m (f + 1)))) : ∀ z i, i + z = f + 1 → V 0 0 72 [(0, .ref (ad A 0 0)), (1, .int (nI f)), (2, .int w), (3, .long r), (5, .int (nI (cnt (inC S f) i))), (6, .int (nI i))] [] (gS A (pk1 S b f m i)) := by
  obtain ⟨hc, hn, hw⟩ := hB
  have ho : ∀ i', i' < f + 1 → ∀ k, k < fcC S i' → onC S i' k < i' := fun i' hi' k hk => ((hw i' (by omega)).2.2.2.2.2 k hk).2
  have hlen : ∀ i, i ≤ f + 1 → (pkL (prw S (inC S f)) (inC S f) m i).length ≤ 50 * i + 1 := fun i hi => pkL_len fun j hj => by
    unfold prw
    rw [rwB_len]
    have h3 := (hw j (by omega)).2.1
    have h4 := (hw j (by omega)).2.2.2.1
    omega
  intro z
  induction z with
  | zero =>
    intro i hi
    have hi2 : i = f + 1 := by omega
    subst hi2
    refine srnX7_pack C Rt [72, 129] 40 ?_
    simp only [k_i, s_go, s_1, e_op, e_pi, e_pl, e_pr, e_p0, e_li, e_ll, e_lr, e_lk, e_ins, e_rm, e_to, e_sw, e_cmp, k_c, k_n, k_f, k_v, k_lg, ↓reduceIte, reduceCtorEq, Nat.reduceAdd, Nat.reduceSub, Nat.reduceMul, Nat.reduceEqDiff, Nat.reduceLT, Nat.reduceLeDiff, Int.reduceAdd, Int.reduceSub, Int.reduceNeg, Int.reduceLE, Int.reduceLT, Int.reduceToNat, Int.reduceEq, Int.cast_ofNat_Int, List.mem_cons, List.not_mem_nil, List.length_cons, List.length_nil, List.set_cons_zero, List.set_cons_succ, List.toList_toArray, eq_self, true_and, and_true, and_self, or_true, true_or, false_or, or_false, or_self, not_true_eq_false, not_false_eq_true, Classical.not_not, true_implies, false_implies, implies_true, forall_const, and_false, false_and, Nat.le_refl, Nat.zero_le, Bool.false_eq_true, lv_args, s_rl_at, s_gf, s_pf, dn_q, kd_q, cl_q, nf_q, ln_q, tg_q, rr_q, cr_q, u_1, e_lsw, k_ti, List.drop_succ_cons, List.drop_zero, List.drop_nil, List.zip_cons_cons, List.zip_nil_right, List.zip_nil_left, List.all_cons, List.all_nil, Bool.and_true, Bool.and_self, decide_true, decide_false, Option.toList, List.cons_append, List.nil_append, List.append_nil, DX7_pack_0, DX7_pack_1, DX7_pack_2, FLX7, LDX7, x_lt (a := f) (b := f + 1) (by omega) (by omega), (show f < f + 1 by omega)]
    exact hx
  | succ z ih =>
    intro i hi
    have hl := hlen i (by omega)
    have hwi := hw i (by omega)
    refine srnX7_pack C Rt [72, 129] 40 ?_
    simp only [k_i, s_go, s_1, e_op, e_pi, e_pl, e_pr, e_p0, e_li, e_ll, e_lr, e_lk, e_ins, e_rm, e_to, e_sw, e_cmp, k_c, k_n, k_f, k_v, k_lg, ↓reduceIte, reduceCtorEq, Nat.reduceAdd, Nat.reduceSub, Nat.reduceMul, Nat.reduceEqDiff, Nat.reduceLT, Nat.reduceLeDiff, Int.reduceAdd, Int.reduceSub, Int.reduceNeg, Int.reduceLE, Int.reduceLT, Int.reduceToNat, Int.reduceEq, Int.cast_ofNat_Int, List.mem_cons, List.not_mem_nil, List.length_cons, List.length_nil, List.set_cons_zero, List.set_cons_succ, List.toList_toArray, eq_self, true_and, and_true, and_self, or_true, true_or, false_or, or_false, or_self, not_true_eq_false, not_false_eq_true, Classical.not_not, true_implies, false_implies, implies_true, forall_const, and_false, false_and, Nat.le_refl, Nat.zero_le, Bool.false_eq_true, lv_args, s_rl_at, s_gf, s_pf, dn_q, kd_q, cl_q, nf_q, ln_q, tg_q, rr_q, cr_q, u_1, e_lsw, k_ti, List.drop_succ_cons, List.drop_zero, List.drop_nil, List.zip_cons_cons, List.zip_nil_right, List.zip_nil_left, List.all_cons, List.all_nil, Bool.and_true, Bool.and_self, decide_true, decide_false, Option.toList, List.cons_append, List.nil_append, List.append_nil, DX7_pack_0, DX7_pack_1, DX7_pack_2, FLX7, LDX7, x_lt (a := f) (b := i) (by omega) (by omega)]
    refine ⟨fun h => by omega, fun _ => ?_⟩
    refine sX7_pack_81 C (m_isIn l _ r (nI i)) (hcat := Nat.le_of_ble_eq_true rfl) (k := ?_)
    rintro v G2 ⟨rfl, rfl⟩
    have hbt := bit_in r (j := i) (by omega)
    rw [hr i (by omega)] at hbt
    cases hW : inC S f i with
    | false =>
      have h0 := hbt.mpr hW
      refine srnX7_pack C Rt [72, 129] 40 ?_
      simp only [k_i, s_go, s_1, e_op, e_pi, e_pl, e_pr, e_p0, e_li, e_ll, e_lr, e_lk, e_ins, e_rm, e_to, e_sw, e_cmp, k_c, k_n, k_f, k_v, k_lg, ↓reduceIte, reduceCtorEq, Nat.reduceAdd, Nat.reduceSub, Nat.reduceMul, Nat.reduceEqDiff, Nat.reduceLT, Nat.reduceLeDiff, Int.reduceAdd, Int.reduceSub, Int.reduceNeg, Int.reduceLE, Int.reduceLT, Int.reduceToNat, Int.reduceEq, Int.cast_ofNat_Int, List.mem_cons, List.not_mem_nil, List.length_cons, List.length_nil, List.set_cons_zero, List.set_cons_succ, List.toList_toArray, eq_self, true_and, and_true, and_self, or_true, true_or, false_or, or_false, or_self, not_true_eq_false, not_false_eq_true, Classical.not_not, true_implies, false_implies, implies_true, forall_const, and_false, false_and, Nat.le_refl, Nat.zero_le, Bool.false_eq_true, lv_args, s_rl_at, s_gf, s_pf, dn_q, kd_q, cl_q, nf_q, ln_q, tg_q, rr_q, cr_q, u_1, e_lsw, k_ti, List.drop_succ_cons, List.drop_zero, List.drop_nil, List.zip_cons_cons, List.zip_nil_right, List.zip_nil_left, List.all_cons, List.all_nil, Bool.and_true, Bool.and_self, decide_true, decide_false, Option.toList, List.cons_append, List.nil_append, List.append_nil, DX7_pack_0, DX7_pack_1, DX7_pack_2, FLX7, LDX7, h0, nI_1]
      have h9 := ih (i + 1) (by omega)
      have e1 : pk1 S b f m (i + 1) = pk1 S b f m i := by
        have e2 : pkN (pk0 S b) (inC S f) (i + 1) = pkN (pk0 S b) (inC S f) i := by
          refine Prod.ext ?_ rfl
          funext k' i' j'
          simp only [pkN_1]
          by_cases hj : j' = i
          · subst hj
            simp [hW]
          · have : (j' < i + 1) ↔ (j' < i) := by omega
            simp [this]
        simp only [pk1, pkL, hW, e2]
        rfl
      have e3 : cnt (inC S f) (i + 1) = cnt (inC S f) i := by simp [cnt, hW]
      rw [e1, e3] at h9
      exact h9
    | true =>
      have h0 : ¬ (e_ushr r (nI i) &&& 1 = 0) := fun z => by rw [hbt.mp z] at hW; cases hW
      refine srnX7_pack C Rt [72, 129] 40 ?_
      simp only [k_i, s_go, s_1, e_op, e_pi, e_pl, e_pr, e_p0, e_li, e_ll, e_lr, e_lk, e_ins, e_rm, e_to, e_sw, e_cmp, k_c, k_n, k_f, k_v, k_lg, ↓reduceIte, reduceCtorEq, Nat.reduceAdd, Nat.reduceSub, Nat.reduceMul, Nat.reduceEqDiff, Nat.reduceLT, Nat.reduceLeDiff, Int.reduceAdd, Int.reduceSub, Int.reduceNeg, Int.reduceLE, Int.reduceLT, Int.reduceToNat, Int.reduceEq, Int.cast_ofNat_Int, List.mem_cons, List.not_mem_nil, List.length_cons, List.length_nil, List.set_cons_zero, List.set_cons_succ, List.toList_toArray, eq_self, true_and, and_true, and_self, or_true, true_or, false_or, or_false, or_self, not_true_eq_false, not_false_eq_true, Classical.not_not, true_implies, false_implies, implies_true, forall_const, and_false, false_and, Nat.le_refl, Nat.zero_le, Bool.false_eq_true, lv_args, s_rl_at, s_gf, s_pf, dn_q, kd_q, cl_q, nf_q, ln_q, tg_q, rr_q, cr_q, u_1, e_lsw, k_ti, List.drop_succ_cons, List.drop_zero, List.drop_nil, List.zip_cons_cons, List.zip_nil_right, List.zip_nil_left, List.all_cons, List.all_nil, Bool.and_true, Bool.and_self, decide_true, decide_false, Option.toList, List.cons_append, List.nil_append, List.append_nil, DX7_pack_0, DX7_pack_1, DX7_pack_2, FLX7, LDX7, h0, nI_1, wS_1, wS_2, wS_3, pkN_1, pkN_2, x_cl (a := i) (by omega), x_in (a := i) (n := 60) (by omega)]
      refine ⟨by omega, by omega, ?_⟩
      rw [wS_uI (by decide) (by decide), pkN_put hW]
      have hQ : wQ (pkN (pk0 S b) (inC S f) (i + 1)) 21 b := ⟨rfl, rfl, by show b < 2; exact hb, by decide, Or.inr rfl⟩
      have hwi2 : wfF (pkN (pk0 S b) (inC S f) (i + 1)) i i := wfF_congr (by rw [pkN_oth (by decide)]; rfl) (by rw [pkN_oth (by decide)]; rfl) (by rw [pkN_oth (by decide)]; rfl) hwi
      have hrow : rwB ((pkN (pk0 S b) (inC S f) (i + 1)).1 6 i 0) ((pkN (pk0 S b) (inC S f) (i + 1)).2.1 6 i 1) (tcC (pkN (pk0 S b) (inC S f) (i + 1)) i) ((pkN (pk0 S b) (inC S f) (i + 1)).1 7 i) ((pkN (pk0 S b) (inC S f) (i + 1)).1 8 i) ((pkN (pk0 S b) (inC S f) (i + 1)).1 9 i) (fcC (pkN (pk0 S b) (inC S f) (i + 1)) i) (fun j => (pkN (pk0 S b) (inC S f) (i + 1)).1 19 0 (onC (pkN (pk0 S b) (inC S f) (i + 1)) i j)) = prw S (inC S f) i := by
        unfold prw rwB tcC fcC onC
        rw [pkN_2, pkN_oth (k := 6) (by decide), pkN_oth (k := 7) (by decide), pkN_oth (k := 8) (by decide), pkN_oth (k := 9) (by decide), pkN_oth (k := 10) (by decide)]
        show _ ++ _ ++ onB _ (fcC S i) = _
        congr 1
        apply onB_congr
        intro j hj
        have h5 := ho i (by omega) j hj
        have h6 := wg_clo (p := fun j => decide (j = f)) (k := j) ho (show i < f + 1 by omega) hW hj
        show (pkN (pk0 S b) (inC S f) (i + 1)).1 19 0 (onC S i j) = _
        rw [pkN_1, if_pos ⟨rfl, rfl, by omega, h6⟩]
        rfl
      refine sX7_pack_120 C (m_X6_putRow l A (pkN (pk0 S b) (inC S f) (i + 1)) (i := i) (m := i) (nk := 19) hQ (by omega) (by omega) hwi2 (by omega) (Or.inr rfl) (by show 0 + _ + 50 ≤ 4000; omega)) (s_obj (show 0 < 1 by decide) rfl) (hcat := Nat.le_of_ble_eq_true rfl) (k := ?_)
      rintro v2 G2 ⟨S2, rfl, rfl, rfl⟩
      rw [hrow]
      refine srnX7_pack C Rt [72, 129] 40 ?_
      simp only [k_i, s_go, s_1, e_op, e_pi, e_pl, e_pr, e_p0, e_li, e_ll, e_lr, e_lk, e_ins, e_rm, e_to, e_sw, e_cmp, k_c, k_n, k_f, k_v, k_lg, ↓reduceIte, reduceCtorEq, Nat.reduceAdd, Nat.reduceSub, Nat.reduceMul, Nat.reduceEqDiff, Nat.reduceLT, Nat.reduceLeDiff, Int.reduceAdd, Int.reduceSub, Int.reduceNeg, Int.reduceLE, Int.reduceLT, Int.reduceToNat, Int.reduceEq, Int.cast_ofNat_Int, List.mem_cons, List.not_mem_nil, List.length_cons, List.length_nil, List.set_cons_zero, List.set_cons_succ, List.toList_toArray, eq_self, true_and, and_true, and_self, or_true, true_or, false_or, or_false, or_self, not_true_eq_false, not_false_eq_true, Classical.not_not, true_implies, false_implies, implies_true, forall_const, and_false, false_and, Nat.le_refl, Nat.zero_le, Bool.false_eq_true, lv_args, s_rl_at, s_gf, s_pf, dn_q, kd_q, cl_q, nf_q, ln_q, tg_q, rr_q, cr_q, u_1, e_lsw, k_ti, List.drop_succ_cons, List.drop_zero, List.drop_nil, List.zip_cons_cons, List.zip_nil_right, List.zip_nil_left, List.all_cons, List.all_nil, Bool.and_true, Bool.and_self, decide_true, decide_false, Option.toList, List.cons_append, List.nil_append, List.append_nil, DX7_pack_0, DX7_pack_1, DX7_pack_2, FLX7, LDX7, nI_1]
      have h9 := ih (i + 1) (by omega)
      have e3 : cnt (inC S f) (i + 1) = cnt (inC S f) i + 1 := by simp [cnt, hW]
      simp only [pk1, pkL, hW, if_true, sws_app, e3] at h9
      exact h9
end
abbrev pkA (S : pS) (f : Nat) : List Int32 := pkL (prw S (inC S f)) (inC S f) (cnt (inC S f) (f + 1)) (f + 1)
abbrev pkB (S : pS) (f : Nat) : List Int32 := pkA S f ++ nb (sws 7 (pkA S f)) 1
def pckS (S : pS) (b f : Nat) (w : Int32) : pS := uI (uI (wS (pkN (pk0 S b) (inC S f) (f + 1)) 21 b 0 4000 false (pkB S f) (sws 7 (pkA S f))) 20 b 0 (if w = 0 then 1 else 2)) 20 b 1 (nI (pkB S f).length)
def pckC (S : pS) (n b : Nat) (x w : Int32) : Int32 × pS := if ¬ S.1 11 0 1 = 0 then (-5, S) else if inr x n = false then (-1, S) else (nI (pkB S (nN x)).length, pckS S b (nN x) w)
set_option maxHeartbeats 4000000 in
set_option maxRecDepth 100000 in
theorem m_pack (l : Launch) (A : pA) (S : pS) {n b c : Nat} (hB : wfB S n) (hO : wfO S b c) (x w : Int32) : e_MX7_pack l [.ref (ad A 0 0), .int x, .int w] (gS A S) (s_P A (isP (pckC S n b x w))) := by
  have hB0 := hB
  obtain ⟨hc, hn, hw⟩ := hB
  obtain ⟨ho, hs, hb, hc2, hne, -, -⟩ := hO
  refine ofX7_pack (Nat.le_of_ble_eq_true rfl) ?_
  intro V C Rt
  refine srnX7_pack C Rt [] 40 ?_
  simp only [k_i, s_go, s_1, e_op, e_pi, e_pl, e_pr, e_p0, e_li, e_ll, e_lr, e_lk, e_ins, e_rm, e_to, e_sw, e_cmp, k_c, k_n, k_f, k_v, k_lg, ↓reduceIte, reduceCtorEq, Nat.reduceAdd, Nat.reduceSub, Nat.reduceMul, Nat.reduceEqDiff, Nat.reduceLT, Nat.reduceLeDiff, Int.reduceAdd, Int.reduceSub, Int.reduceNeg, Int.reduceLE, Int.reduceLT, Int.reduceToNat, Int.reduceEq, Int.cast_ofNat_Int, List.mem_cons, List.not_mem_nil, List.length_cons, List.length_nil, List.set_cons_zero, List.set_cons_succ, List.toList_toArray, eq_self, true_and, and_true, and_self, or_true, true_or, false_or, or_false, or_self, not_true_eq_false, not_false_eq_true, Classical.not_not, true_implies, false_implies, implies_true, forall_const, and_false, false_and, Nat.le_refl, Nat.zero_le, Bool.false_eq_true, lv_args, s_rl_at, s_gf, s_pf, dn_q, kd_q, cl_q, nf_q, ln_q, tg_q, rr_q, cr_q, u_1, e_lsw, k_ti, List.drop_succ_cons, List.drop_zero, List.drop_nil, List.zip_cons_cons, List.zip_nil_right, List.zip_nil_left, List.all_cons, List.all_nil, Bool.and_true, Bool.and_self, decide_true, decide_false, Option.toList, List.cons_append, List.nil_append, List.append_nil, DX7_pack_0, DX7_pack_1, DX7_pack_2, FLX7, LDX7]
  refine ⟨fun hd => ?_, fun hd => by simp [isP, pckC, hd]⟩
  refine sX7_pack_18 C (m_X0_hasNumber l A S hn hc x) (s_obj (show 0 < 1 by decide) rfl) (hcat := Nat.le_of_ble_eq_true rfl) (k := ?_)
  rintro v G2 ⟨S2, rfl, rfl, rfl⟩
  cases hx : inr x n with
  | false =>
    refine srnX7_pack C Rt [] 40 ?_
    simp only [k_i, s_go, s_1, e_op, e_pi, e_pl, e_pr, e_p0, e_li, e_ll, e_lr, e_lk, e_ins, e_rm, e_to, e_sw, e_cmp, k_c, k_n, k_f, k_v, k_lg, ↓reduceIte, reduceCtorEq, Nat.reduceAdd, Nat.reduceSub, Nat.reduceMul, Nat.reduceEqDiff, Nat.reduceLT, Nat.reduceLeDiff, Int.reduceAdd, Int.reduceSub, Int.reduceNeg, Int.reduceLE, Int.reduceLT, Int.reduceToNat, Int.reduceEq, Int.cast_ofNat_Int, List.mem_cons, List.not_mem_nil, List.length_cons, List.length_nil, List.set_cons_zero, List.set_cons_succ, List.toList_toArray, eq_self, true_and, and_true, and_self, or_true, true_or, false_or, or_false, or_self, not_true_eq_false, not_false_eq_true, Classical.not_not, true_implies, false_implies, implies_true, forall_const, and_false, false_and, Nat.le_refl, Nat.zero_le, Bool.false_eq_true, lv_args, s_rl_at, s_gf, s_pf, dn_q, kd_q, cl_q, nf_q, ln_q, tg_q, rr_q, cr_q, u_1, e_lsw, k_ti, List.drop_succ_cons, List.drop_zero, List.drop_nil, List.zip_cons_cons, List.zip_nil_right, List.zip_nil_left, List.all_cons, List.all_nil, Bool.and_true, Bool.and_self, decide_true, decide_false, Option.toList, List.cons_append, List.nil_append, List.append_nil, DX7_pack_0, DX7_pack_1, DX7_pack_2, FLX7, LDX7, b2i_f]
    simp [isP, pckC, hd, hx]
  | true =>
    obtain ⟨f, hf, rfl⟩ := inr_of (by omega) hx
    have eN := nN_nI (show f < 2147483648 by omega)
    have hho : ∀ i', i' < f + 1 → ∀ k, k < fcC S i' → onC S i' k < i' := fun i' hi' k hk => ((hw i' (by omega)).2.2.2.2.2 k hk).2
    have hlen : (pkA S f).length ≤ 50 * (f + 1) + 1 := pkL_len fun j hj => by
      unfold prw
      rw [rwB_len]
      have h3 := (hw j (by omega)).2.1
      have h4 := (hw j (by omega)).2.2.2.1
      omega
    refine srnX7_pack C Rt [] 40 ?_
    simp only [k_i, s_go, s_1, e_op, e_pi, e_pl, e_pr, e_p0, e_li, e_ll, e_lr, e_lk, e_ins, e_rm, e_to, e_sw, e_cmp, k_c, k_n, k_f, k_v, k_lg, ↓reduceIte, reduceCtorEq, Nat.reduceAdd, Nat.reduceSub, Nat.reduceMul, Nat.reduceEqDiff, Nat.reduceLT, Nat.reduceLeDiff, Int.reduceAdd, Int.reduceSub, Int.reduceNeg, Int.reduceLE, Int.reduceLT, Int.reduceToNat, Int.reduceEq, Int.cast_ofNat_Int, List.mem_cons, List.not_mem_nil, List.length_cons, List.length_nil, List.set_cons_zero, List.set_cons_succ, List.toList_toArray, eq_self, true_and, and_true, and_self, or_true, true_or, false_or, or_false, or_self, not_true_eq_false, not_false_eq_true, Classical.not_not, true_implies, false_implies, implies_true, forall_const, and_false, false_and, Nat.le_refl, Nat.zero_le, Bool.false_eq_true, lv_args, s_rl_at, s_gf, s_pf, dn_q, kd_q, cl_q, nf_q, ln_q, tg_q, rr_q, cr_q, u_1, e_lsw, k_ti, List.drop_succ_cons, List.drop_zero, List.drop_nil, List.zip_cons_cons, List.zip_nil_right, List.zip_nil_left, List.all_cons, List.all_nil, Bool.and_true, Bool.and_self, decide_true, decide_false, Option.toList, List.cons_append, List.nil_append, List.append_nil, DX7_pack_0, DX7_pack_1, DX7_pack_2, FLX7, LDX7, b2i_t]
    refine sX7_pack_31 C (m_X0_withGround l A S hB0 hf) (s_obj (show 0 < 1 by decide) rfl) (hcat := Nat.le_of_ble_eq_true rfl) (k := ?_)
    rintro v G2 ⟨S2, rfl, rfl, r, rfl, hr⟩
    refine srnX7_pack C Rt [] 40 ?_
    simp only [k_i, s_go, s_1, e_op, e_pi, e_pl, e_pr, e_p0, e_li, e_ll, e_lr, e_lk, e_ins, e_rm, e_to, e_sw, e_cmp, k_c, k_n, k_f, k_v, k_lg, ↓reduceIte, reduceCtorEq, Nat.reduceAdd, Nat.reduceSub, Nat.reduceMul, Nat.reduceEqDiff, Nat.reduceLT, Nat.reduceLeDiff, Int.reduceAdd, Int.reduceSub, Int.reduceNeg, Int.reduceLE, Int.reduceLT, Int.reduceToNat, Int.reduceEq, Int.cast_ofNat_Int, List.mem_cons, List.not_mem_nil, List.length_cons, List.length_nil, List.set_cons_zero, List.set_cons_succ, List.toList_toArray, eq_self, true_and, and_true, and_self, or_true, true_or, false_or, or_false, or_self, not_true_eq_false, not_false_eq_true, Classical.not_not, true_implies, false_implies, implies_true, forall_const, and_false, false_and, Nat.le_refl, Nat.zero_le, Bool.false_eq_true, lv_args, s_rl_at, s_gf, s_pf, dn_q, kd_q, cl_q, nf_q, ln_q, tg_q, rr_q, cr_q, u_1, e_lsw, k_ti, List.drop_succ_cons, List.drop_zero, List.drop_nil, List.zip_cons_cons, List.zip_nil_right, List.zip_nil_left, List.all_cons, List.all_nil, Bool.and_true, Bool.and_self, decide_true, decide_false, Option.toList, List.cons_append, List.nil_append, List.append_nil, DX7_pack_0, DX7_pack_1, DX7_pack_2, FLX7, LDX7, ho, hb, (show (4000 : Int32) = nI 4000 from rfl)]
    refine sX7_pack_52 C (m_X6_begin l A S (Or.inr rfl) _) (s_obj (show 0 < 1 by decide) rfl) (hcat := Nat.le_of_ble_eq_true rfl) (k := ?_)
    rintro v G2 ⟨S2, rfl, rfl, rfl⟩
    refine srnX7_pack C Rt [] 40 ?_
    simp only [k_i, s_go, s_1, e_op, e_pi, e_pl, e_pr, e_p0, e_li, e_ll, e_lr, e_lk, e_ins, e_rm, e_to, e_sw, e_cmp, k_c, k_n, k_f, k_v, k_lg, ↓reduceIte, reduceCtorEq, Nat.reduceAdd, Nat.reduceSub, Nat.reduceMul, Nat.reduceEqDiff, Nat.reduceLT, Nat.reduceLeDiff, Int.reduceAdd, Int.reduceSub, Int.reduceNeg, Int.reduceLE, Int.reduceLT, Int.reduceToNat, Int.reduceEq, Int.cast_ofNat_Int, List.mem_cons, List.not_mem_nil, List.length_cons, List.length_nil, List.set_cons_zero, List.set_cons_succ, List.toList_toArray, eq_self, true_and, and_true, and_self, or_true, true_or, false_or, or_false, or_self, not_true_eq_false, not_false_eq_true, Classical.not_not, true_implies, false_implies, implies_true, forall_const, and_false, false_and, Nat.le_refl, Nat.zero_le, Bool.false_eq_true, lv_args, s_rl_at, s_gf, s_pf, dn_q, kd_q, cl_q, nf_q, ln_q, tg_q, rr_q, cr_q, u_1, e_lsw, k_ti, List.drop_succ_cons, List.drop_zero, List.drop_nil, List.zip_cons_cons, List.zip_nil_right, List.zip_nil_left, List.all_cons, List.all_nil, Bool.and_true, Bool.and_self, decide_true, decide_false, Option.toList, List.cons_append, List.nil_append, List.append_nil, DX7_pack_0, DX7_pack_1, DX7_pack_2, FLX7, LDX7]
    refine sX7_pack_60 C (m_bitCount l _ r) (hcat := Nat.le_of_ble_eq_true rfl) (k := ?_)
    rintro v G2 ⟨rfl, rfl⟩
    have hcn : cnt (bit r) 64 = cnt (inC S f) (f + 1) := by
      rw [cnt_congr (q := inC S f) (fun j hj => hr j hj)]
      have := cnt_hi (p := inC S f) (m := f + 1) (n := 64 - (f + 1)) (fun j hj => by
        unfold inC
        rw [wg_high hho hj]
        simp
        omega)
      rw [← this]
      congr 1
      omega
    rw [hcn]
    have hQ : wQ (pk0 S b) 21 b := ⟨rfl, rfl, by show b < 2; exact hb, by decide, Or.inr rfl⟩
    refine srnX7_pack C Rt [] 40 ?_
    simp only [k_i, s_go, s_1, e_op, e_pi, e_pl, e_pr, e_p0, e_li, e_ll, e_lr, e_lk, e_ins, e_rm, e_to, e_sw, e_cmp, k_c, k_n, k_f, k_v, k_lg, ↓reduceIte, reduceCtorEq, Nat.reduceAdd, Nat.reduceSub, Nat.reduceMul, Nat.reduceEqDiff, Nat.reduceLT, Nat.reduceLeDiff, Int.reduceAdd, Int.reduceSub, Int.reduceNeg, Int.reduceLE, Int.reduceLT, Int.reduceToNat, Int.reduceEq, Int.cast_ofNat_Int, List.mem_cons, List.not_mem_nil, List.length_cons, List.length_nil, List.set_cons_zero, List.set_cons_succ, List.toList_toArray, eq_self, true_and, and_true, and_self, or_true, true_or, false_or, or_false, or_self, not_true_eq_false, not_false_eq_true, Classical.not_not, true_implies, false_implies, implies_true, forall_const, and_false, false_and, Nat.le_refl, Nat.zero_le, Bool.false_eq_true, lv_args, s_rl_at, s_gf, s_pf, dn_q, kd_q, cl_q, nf_q, ln_q, tg_q, rr_q, cr_q, u_1, e_lsw, k_ti, List.drop_succ_cons, List.drop_zero, List.drop_nil, List.zip_cons_cons, List.zip_nil_right, List.zip_nil_left, List.all_cons, List.all_nil, Bool.and_true, Bool.and_self, decide_true, decide_false, Option.toList, List.cons_append, List.nil_append, List.append_nil, DX7_pack_0, DX7_pack_1, DX7_pack_2, FLX7, LDX7]
    refine sX7_pack_63 C (m_X6_put l A (pk0 S b) hQ (by show 0 + 0 + 1 ≤ 4000; decide) (by decide) _) (s_obj (show 0 < 1 by decide) rfl) (hcat := Nat.le_of_ble_eq_true rfl) (k := ?_)
    rintro v G2 ⟨S2, rfl, rfl, rfl⟩
    refine srnX7_pack C Rt [72, 129] 40 ?_
    simp only [k_i, s_go, s_1, e_op, e_pi, e_pl, e_pr, e_p0, e_li, e_ll, e_lr, e_lk, e_ins, e_rm, e_to, e_sw, e_cmp, k_c, k_n, k_f, k_v, k_lg, ↓reduceIte, reduceCtorEq, Nat.reduceAdd, Nat.reduceSub, Nat.reduceMul, Nat.reduceEqDiff, Nat.reduceLT, Nat.reduceLeDiff, Int.reduceAdd, Int.reduceSub, Int.reduceNeg, Int.reduceLE, Int.reduceLT, Int.reduceToNat, Int.reduceEq, Int.cast_ofNat_Int, List.mem_cons, List.not_mem_nil, List.length_cons, List.length_nil, List.set_cons_zero, List.set_cons_succ, List.toList_toArray, eq_self, true_and, and_true, and_self, or_true, true_or, false_or, or_false, or_self, not_true_eq_false, not_false_eq_true, Classical.not_not, true_implies, false_implies, implies_true, forall_const, and_false, false_and, Nat.le_refl, Nat.zero_le, Bool.false_eq_true, lv_args, s_rl_at, s_gf, s_pf, dn_q, kd_q, cl_q, nf_q, ln_q, tg_q, rr_q, cr_q, u_1, e_lsw, k_ti, List.drop_succ_cons, List.drop_zero, List.drop_nil, List.zip_cons_cons, List.zip_nil_right, List.zip_nil_left, List.all_cons, List.all_nil, Bool.and_true, Bool.and_self, decide_true, decide_false, Option.toList, List.cons_append, List.nil_append, List.append_nil, DX7_pack_0, DX7_pack_1, DX7_pack_2, FLX7, LDX7]
    have e0 : wS (pk0 S b) 21 b 0 4000 false [nI (cnt (inC S f) (f + 1))] (sw 7 (nI (cnt (inC S f) (f + 1)))) = pk1 S b f (cnt (inC S f) (f + 1)) 0 := by
      have : pkN (pk0 S b) (inC S f) 0 = pk0 S b := by
        refine Prod.ext ?_ rfl
        funext k' i' j'
        simp [pkN_1]
      simp only [pk1, this]
      rfl
    rw [e0]
    refine lp_pack C Rt hB0 hf hb hr ?_ (f + 1) 0 (by omega)
    have hQ2 : wQ (pkN (pk0 S b) (inC S f) (f + 1)) 21 b := ⟨rfl, rfl, by show b < 2; exact hb, by decide, Or.inr rfl⟩
    refine srnX7_pack C Rt [] 40 ?_
    simp only [k_i, s_go, s_1, e_op, e_pi, e_pl, e_pr, e_p0, e_li, e_ll, e_lr, e_lk, e_ins, e_rm, e_to, e_sw, e_cmp, k_c, k_n, k_f, k_v, k_lg, ↓reduceIte, reduceCtorEq, Nat.reduceAdd, Nat.reduceSub, Nat.reduceMul, Nat.reduceEqDiff, Nat.reduceLT, Nat.reduceLeDiff, Int.reduceAdd, Int.reduceSub, Int.reduceNeg, Int.reduceLE, Int.reduceLT, Int.reduceToNat, Int.reduceEq, Int.cast_ofNat_Int, List.mem_cons, List.not_mem_nil, List.length_cons, List.length_nil, List.set_cons_zero, List.set_cons_succ, List.toList_toArray, eq_self, true_and, and_true, and_self, or_true, true_or, false_or, or_false, or_self, not_true_eq_false, not_false_eq_true, Classical.not_not, true_implies, false_implies, implies_true, forall_const, and_false, false_and, Nat.le_refl, Nat.zero_le, Bool.false_eq_true, lv_args, s_rl_at, s_gf, s_pf, dn_q, kd_q, cl_q, nf_q, ln_q, tg_q, rr_q, cr_q, u_1, e_lsw, k_ti, List.drop_succ_cons, List.drop_zero, List.drop_nil, List.zip_cons_cons, List.zip_nil_right, List.zip_nil_left, List.all_cons, List.all_nil, Bool.and_true, Bool.and_self, decide_true, decide_false, Option.toList, List.cons_append, List.nil_append, List.append_nil, DX7_pack_0, DX7_pack_1, DX7_pack_2, FLX7, LDX7, wS_1, wS_2, wS_3, (show (1 : Int32) = nI 1 from rfl)]
    refine sX7_pack_141 C (m_X6_putPlain l A (pkN (pk0 S b) (inC S f) (f + 1)) hQ2 (show 1 ≤ 8 by decide) (by show 0 + (pkA S f).length + 1 ≤ 4000; omega) (by decide) _) (s_obj (show 0 < 1 by decide) rfl) (hcat := Nat.le_of_ble_eq_true rfl) (k := ?_)
    rintro v G2 ⟨S2, rfl, rfl, rfl⟩
    have hl2 : (pkB S f).length = (pkA S f).length + 1 := by simp [pkB, nb_len]
    have hwn : wn 4000 false (pkB S f) = (pkB S f).length := by rw [wn_f]; omega
    refine srnX7_pack C Rt [] 60 ?_
    simp only [k_i, s_go, s_1, e_op, e_pi, e_pl, e_pr, e_p0, e_li, e_ll, e_lr, e_lk, e_ins, e_rm, e_to, e_sw, e_cmp, k_c, k_n, k_f, k_v, k_lg, ↓reduceIte, reduceCtorEq, Nat.reduceAdd, Nat.reduceSub, Nat.reduceMul, Nat.reduceEqDiff, Nat.reduceLT, Nat.reduceLeDiff, Int.reduceAdd, Int.reduceSub, Int.reduceNeg, Int.reduceLE, Int.reduceLT, Int.reduceToNat, Int.reduceEq, Int.cast_ofNat_Int, List.mem_cons, List.not_mem_nil, List.length_cons, List.length_nil, List.set_cons_zero, List.set_cons_succ, List.toList_toArray, eq_self, true_and, and_true, and_self, or_true, true_or, false_or, or_false, or_self, not_true_eq_false, not_false_eq_true, Classical.not_not, true_implies, false_implies, implies_true, forall_const, and_false, false_and, Nat.le_refl, Nat.zero_le, Bool.false_eq_true, lv_args, s_rl_at, s_gf, s_pf, dn_q, kd_q, cl_q, nf_q, ln_q, tg_q, rr_q, cr_q, u_1, e_lsw, k_ti, List.drop_succ_cons, List.drop_zero, List.drop_nil, List.zip_cons_cons, List.zip_nil_right, List.zip_nil_left, List.all_cons, List.all_nil, Bool.and_true, Bool.and_self, decide_true, decide_false, Option.toList, List.cons_append, List.nil_append, List.append_nil, DX7_pack_0, DX7_pack_1, DX7_pack_2, FLX7, LDX7, wS_1, wS_2, wS_3, ho, hb, pkN_2, u_1]
    have hwn2 : wn 4000 false (pkL (prw S (inC S f)) (inC S f) (cnt (inC S f) (f + 1)) (f + 1) ++ nb (sws 7 (pkL (prw S (inC S f)) (inC S f) (cnt (inC S f) (f + 1)) (f + 1))) 1) = (pkB S f).length := hwn
    rw [hwn2, Nat.zero_add]
    refine ⟨fun h => ?_, fun h => ?_⟩
    · simp only [isP, pckC, hd, hx, eN, pckS, h]
      exact ⟨rfl, rfl⟩
    · simp only [isP, pckC, hd, hx, eN, pckS, h]
      exact ⟨rfl, rfl⟩
