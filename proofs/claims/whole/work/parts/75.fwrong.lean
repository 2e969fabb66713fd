/-! the reference: bytesAt, firstWrong -/
def oS (T : pS) (a g : Int32) (σ : Int64) : pS := (fun k' i' j' => if k' = 30 ∧ i' = 0 ∧ j' = 32 then a else if k' = 30 ∧ i' = 0 ∧ j' = 33 then g else T.1 k' i' j', fun k' i' j' => if k' = 30 ∧ i' = 0 ∧ j' = 34 then σ else T.2.1 k' i' j', T.2.2)
theorem oS_1 (T : pS) (a g : Int32) (σ : Int64) (k' i' j' : Nat) : (oS T a g σ).1 k' i' j' = if k' = 30 ∧ i' = 0 ∧ j' = 32 then a else if k' = 30 ∧ i' = 0 ∧ j' = 33 then g else T.1 k' i' j' := rfl
theorem oS_2 (T : pS) (a g : Int32) (σ : Int64) (k' i' j' : Nat) : (oS T a g σ).2.1 k' i' j' = if k' = 30 ∧ i' = 0 ∧ j' = 34 then σ else T.2.1 k' i' j' := rfl
theorem oS_3 (T : pS) (a g : Int32) (σ : Int64) : (oS T a g σ).2.2 = T.2.2 := rfl
theorem oS_a {T : pS} {a g x : Int32} {σ : Int64} : uI (oS T a g σ) 30 0 32 x = oS T x g σ := by
  refine Prod.ext ?_ rfl
  funext k' i' j'
  simp only [u_1, oS_1]
  by_cases h : k' = 30 ∧ i' = 0 ∧ j' = 32 <;> simp [h]
theorem oS_g {T : pS} {a g x : Int32} {σ : Int64} : uI (oS T a g σ) 30 0 33 x = oS T a x σ := by
  refine Prod.ext ?_ rfl
  funext k' i' j'
  simp only [u_1, oS_1]
  by_cases h : k' = 30 ∧ i' = 0 ∧ j' = 33
  · obtain ⟨rfl, rfl, rfl⟩ := h
    simp
  · simp [h]
theorem oS_s {T : pS} {a g : Int32} {σ x : Int64} : uJ (oS T a g σ) 30 0 34 x = oS T a g x := by
  refine Prod.ext rfl (Prod.ext ?_ rfl)
  funext k' i' j'
  simp only [u_1, oS_2]
  by_cases h : k' = 30 ∧ i' = 0 ∧ j' = 34 <;> simp [h]
theorem oS_0 {T : pS} {g : Int32} {σ : Int64} : uJ (uI T 30 0 33 g) 30 0 34 σ = oS T (T.1 30 0 32) g σ := by
  refine Prod.ext ?_ (Prod.ext ?_ rfl)
  · funext k' i' j'
    simp only [u_1, oS_1]
    by_cases h : k' = 30 ∧ i' = 0 ∧ j' = 32
    · obtain ⟨rfl, rfl, rfl⟩ := h
      simp
    · simp [h]
  · funext k' i' j'
    simp only [u_1, oS_2]
theorem oS_d {T : pS} {a g : Int32} {σ : Int64} : (oS T a g σ).1 52 0 = T.1 52 0 := rfl
theorem oS_uI {T : pS} {a g v : Int32} {σ : Int64} {k i j : Nat} (h : ¬ k = 30) : uI (oS T a g σ) k i j v = oS (uI T k i j v) a g σ := by
  refine Prod.ext ?_ rfl
  funext k' i' j'
  simp only [u_1, oS_1]
  by_cases h1 : k' = k ∧ i' = i ∧ j' = j
  · obtain ⟨rfl, rfl, rfl⟩ := h1
    simp [h]
  · simp [h1]
theorem by_l {d : Nat → Int32} (hB : bB d) {j M : Nat} (hj : j < 3532) (hM : M < 1000) : (d j ≤ nI M) ↔ dN d j ≤ M := by
  have h := bB_n hB hj
  rw [h.2, x_le (by omega) (by omega)]
section
variable {V : pV} {l : Launch} {A : pA} {post : Option Value → pS → Prop} {T : pS}
set_option maxHeartbeats 4000000 in
set_option maxRecDepth 100000 in
theorem lp_bytesAt (C : e_CX8_bytesAt V l) (Rt : e_RX8_bytesAt V (s_P A post)) {a n : Nat} (ha : a + n ≤ 3532) (hT : T.1 30 0 32 = nI a) (hpo : post (some (.long (nat_ (T.1 52 0) a n))) (uI T 30 0 32 (nI (a + n)))) : ∀ k i, i + k = n → V 0 0 5 [(0, .ref (ad A 30 0)), (1, .int (nI n)), (2, .long (nat_ (T.1 52 0) a i)), (4, .int (nI i))] [] (gS A T) := by
  intro k
  induction k with
  | zero =>
    intro i hi
    have hi2 : i = n := by omega
    subst hi2
    refine srnX8_bytesAt C Rt [5] 40 ?_
    simp only [k_i, s_go, s_1, e_op, e_pi, e_pl, e_pr, e_p0, e_li, e_ll, e_lr, e_lk, e_ins, e_rm, e_to, e_sw, e_cmp, k_c, k_n, k_f, k_v, k_lg, ↓reduceIte, reduceCtorEq, Nat.reduceAdd, Nat.reduceSub, Nat.reduceMul, Nat.reduceEqDiff, Nat.reduceLT, Nat.reduceLeDiff, Int.reduceAdd, Int.reduceSub, Int.reduceNeg, Int.reduceLE, Int.reduceLT, Int.reduceToNat, Int.reduceEq, Int.cast_ofNat_Int, List.mem_cons, List.not_mem_nil, List.length_cons, List.length_nil, List.set_cons_zero, List.set_cons_succ, List.toList_toArray, eq_self, true_and, and_true, and_self, or_true, true_or, false_or, or_false, or_self, not_true_eq_false, not_false_eq_true, Classical.not_not, true_implies, false_implies, implies_true, forall_const, and_false, false_and, Nat.le_refl, Nat.zero_le, Bool.false_eq_true, lv_args, s_rl_at, s_gf, s_pf, dn_q, kd_q, cl_q, nf_q, ln_q, tg_q, rr_q, cr_q, u_1, e_lsw, k_ti, List.drop_succ_cons, List.drop_zero, List.drop_nil, List.zip_cons_cons, List.zip_nil_right, List.zip_nil_left, List.all_cons, List.all_nil, Bool.and_true, Bool.and_self, decide_true, decide_false, Option.toList, List.cons_append, List.nil_append, List.append_nil, DX8_bytesAt_0, FLX8, LDX8, x_le (a := i) (b := i) (by omega) (by omega), hT, nI_add]
    exact hpo
  | succ k ih =>
    intro i hi
    refine srnX8_bytesAt C Rt [5] 40 ?_
    simp only [k_i, s_go, s_1, e_op, e_pi, e_pl, e_pr, e_p0, e_li, e_ll, e_lr, e_lk, e_ins, e_rm, e_to, e_sw, e_cmp, k_c, k_n, k_f, k_v, k_lg, ↓reduceIte, reduceCtorEq, Nat.reduceAdd, Nat.reduceSub, Nat.reduceMul, Nat.reduceEqDiff, Nat.reduceLT, Nat.reduceLeDiff, Int.reduceAdd, Int.reduceSub, Int.reduceNeg, Int.reduceLE, Int.reduceLT, Int.reduceToNat, Int.reduceEq, Int.cast_ofNat_Int, List.mem_cons, List.not_mem_nil, List.length_cons, List.length_nil, List.set_cons_zero, List.set_cons_succ, List.toList_toArray, eq_self, true_and, and_true, and_self, or_true, true_or, false_or, or_false, or_self, not_true_eq_false, not_false_eq_true, Classical.not_not, true_implies, false_implies, implies_true, forall_const, and_false, false_and, Nat.le_refl, Nat.zero_le, Bool.false_eq_true, lv_args, s_rl_at, s_gf, s_pf, dn_q, kd_q, cl_q, nf_q, ln_q, tg_q, rr_q, cr_q, u_1, e_lsw, k_ti, List.drop_succ_cons, List.drop_zero, List.drop_nil, List.zip_cons_cons, List.zip_nil_right, List.zip_nil_left, List.all_cons, List.all_nil, Bool.and_true, Bool.and_self, decide_true, decide_false, Option.toList, List.cons_append, List.nil_append, List.append_nil, DX8_bytesAt_0, FLX8, LDX8, x_le (a := n) (b := i) (by omega) (by omega), hT, nI_add, x_cl (a := a + i) (by omega), x_in (a := a + i) (n := 3532) (by omega), nI_1]
    exact ⟨fun h => by omega, fun _ => ⟨by omega, ih (i + 1) (by omega)⟩⟩
end
set_option maxHeartbeats 4000000 in
set_option maxRecDepth 100000 in
theorem m_X8_bytesAt (l : Launch) (A : pA) (T : pS) {a n : Nat} (ha : a + n ≤ 3532) (hT : T.1 30 0 32 = nI a) : e_MX8_bytesAt l [.ref (ad A 30 0), .int (nI n)] (gS A T) (s_P A (fun v S2 => S2 = uI T 30 0 32 (nI (a + n)) ∧ v = some (.long (nat_ (T.1 52 0) a n)))) := by
  refine ofX8_bytesAt (Nat.le_of_ble_eq_true rfl) ?_
  intro V C Rt
  refine srnX8_bytesAt C Rt [5] 5 ?_
  simp only [k_i, s_go, s_1, e_op, e_pi, e_pl, e_pr, e_p0, e_li, e_ll, e_lr, e_lk, e_ins, e_rm, e_to, e_sw, e_cmp, k_c, k_n, k_f, k_v, k_lg, ↓reduceIte, reduceCtorEq, Nat.reduceAdd, Nat.reduceSub, Nat.reduceMul, Nat.reduceEqDiff, Nat.reduceLT, Nat.reduceLeDiff, Int.reduceAdd, Int.reduceSub, Int.reduceNeg, Int.reduceLE, Int.reduceLT, Int.reduceToNat, Int.reduceEq, Int.cast_ofNat_Int, List.mem_cons, List.not_mem_nil, List.length_cons, List.length_nil, List.set_cons_zero, List.set_cons_succ, List.toList_toArray, eq_self, true_and, and_true, and_self, or_true, true_or, false_or, or_false, or_self, not_true_eq_false, not_false_eq_true, Classical.not_not, true_implies, false_implies, implies_true, forall_const, and_false, false_and, Nat.le_refl, Nat.zero_le, Bool.false_eq_true, lv_args, s_rl_at, s_gf, s_pf, dn_q, kd_q, cl_q, nf_q, ln_q, tg_q, rr_q, cr_q, u_1, e_lsw, k_ti, List.drop_succ_cons, List.drop_zero, List.drop_nil, List.zip_cons_cons, List.zip_nil_right, List.zip_nil_left, List.all_cons, List.all_nil, Bool.and_true, Bool.and_self, decide_true, decide_false, Option.toList, List.cons_append, List.nil_append, List.append_nil, DX8_bytesAt_0, FLX8, LDX8]
  exact lp_bytesAt C Rt ha hT ⟨rfl, rfl⟩ n 0 (by omega)
section
variable {V : pV} {l : Launch} {A : pA} {post : Option Value → pS → Prop} {T : pS}
theorem upd_id {f : Nat → Int32} {j : Nat} : upd f j (f j) = f := by
  funext z
  unfold upd
  by_cases h : z = j
  · rw [if_pos h, h]
  · rw [if_neg h]
set_option maxHeartbeats 4000000 in
set_option maxRecDepth 100000 in
theorem lp_fwT (C : e_CX8_firstWrong V l) (Rt : e_RX8_firstWrong V (s_P A post)) {d : Nat → Int32} {n r f t p : Nat} {a g : Int32} {σ : Int64} (hd : T.1 52 0 = d) (hB : bB d) (hp : p = f + 10 + 9 * t) (hp3 : p < 3500) (hx : okT d (f + 10) 0 t → V 0 0 184 [(0, .ref (ad A 30 0)), (1, .int (nI n)), (2, .int (nI r)), (3, .int (nI f)), (4, .int (nI p))] [] (gS A (oS T a g σ))) (hb : ¬ okT d (f + 10) 0 t → post (some (.int (nI r))) (oS T a g σ)) : ∀ k j seen, j + k = t → seO seen (fun y => d (f + 10 + 9 * y)) j → okT d (f + 10) 0 j → V 0 0 127 [(0, .ref (ad A 30 0)), (1, .int (nI n)), (2, .int (nI r)), (3, .int (nI f)), (4, .int (nI p)), (5, .int seen), (6, .int (nI (f + 10 + 9 * j)))] [] (gS A (oS T a g σ)) := by
  intro k
  induction k with
  | zero =>
    intro j seen hj hs ho
    have hj2 : j = t := by omega
    subst hj2
    have hpq : p ≤ f + 10 + 9 * j := by omega
    refine srnX8_firstWrong C Rt [127, 184] 40 ?_
    simp only [k_i, s_go, s_1, e_op, e_pi, e_pl, e_pr, e_p0, e_li, e_ll, e_lr, e_lk, e_ins, e_rm, e_to, e_sw, e_cmp, k_c, k_n, k_f, k_v, k_lg, ↓reduceIte, reduceCtorEq, Nat.reduceAdd, Nat.reduceSub, Nat.reduceMul, Nat.reduceEqDiff, Nat.reduceLT, Nat.reduceLeDiff, Int.reduceAdd, Int.reduceSub, Int.reduceNeg, Int.reduceLE, Int.reduceLT, Int.reduceToNat, Int.reduceEq, Int.cast_ofNat_Int, List.mem_cons, List.not_mem_nil, List.length_cons, List.length_nil, List.set_cons_zero, List.set_cons_succ, List.toList_toArray, eq_self, true_and, and_true, and_self, or_true, true_or, false_or, or_false, or_self, not_true_eq_false, not_false_eq_true, Classical.not_not, true_implies, false_implies, implies_true, forall_const, and_false, false_and, Nat.le_refl, Nat.zero_le, Bool.false_eq_true, lv_args, s_rl_at, s_gf, s_pf, dn_q, kd_q, cl_q, nf_q, ln_q, tg_q, rr_q, cr_q, u_1, e_lsw, k_ti, List.drop_succ_cons, List.drop_zero, List.drop_nil, List.zip_cons_cons, List.zip_nil_right, List.zip_nil_left, List.all_cons, List.all_nil, Bool.and_true, Bool.and_self, decide_true, decide_false, Option.toList, List.cons_append, List.nil_append, List.append_nil, DX8_firstWrong_0, DX8_firstWrong_1, DX8_firstWrong_2, DX8_firstWrong_3, DX8_firstWrong_4, FLX8, LDX8, x_le (a := p) (b := f + 10 + 9 * j) (by omega) (by omega), hpq]
    exact w_pre C (hx ho)
  | succ k ih =>
    intro j seen hj hs ho
    have hpq : ¬ p ≤ f + 10 + 9 * j := by omega
    have hv := bB_n hB (show f + 10 + 9 * j < 3532 by omega)
    obtain ⟨w, hw⟩ : ∃ w, dN d (f + 10 + 9 * j) = w := ⟨_, rfl⟩
    have h15 := by_m hB (M := 15) (show f + 10 + 9 * j < 3532 by omega) (by omega)
    rw [hw] at hv h15
    have hbit : w ≤ 15 → ((seen >>> (nI w &&& 31) &&& 1 = 1) ↔ am (fun y => d (f + 10 + 9 * y)) (nI w) j = true) := fun h => by rw [shr_I (by omega), hs w (by omega)]
    refine srnX8_firstWrong C Rt [127, 184] 40 ?_
    simp only [k_i, s_go, s_1, e_op, e_pi, e_pl, e_pr, e_p0, e_li, e_ll, e_lr, e_lk, e_ins, e_rm, e_to, e_sw, e_cmp, k_c, k_n, k_f, k_v, k_lg, ↓reduceIte, reduceCtorEq, Nat.reduceAdd, Nat.reduceSub, Nat.reduceMul, Nat.reduceEqDiff, Nat.reduceLT, Nat.reduceLeDiff, Int.reduceAdd, Int.reduceSub, Int.reduceNeg, Int.reduceLE, Int.reduceLT, Int.reduceToNat, Int.reduceEq, Int.cast_ofNat_Int, List.mem_cons, List.not_mem_nil, List.length_cons, List.length_nil, List.set_cons_zero, List.set_cons_succ, List.toList_toArray, eq_self, true_and, and_true, and_self, or_true, true_or, false_or, or_false, or_self, not_true_eq_false, not_false_eq_true, Classical.not_not, true_implies, false_implies, implies_true, forall_const, and_false, false_and, Nat.le_refl, Nat.zero_le, Bool.false_eq_true, lv_args, s_rl_at, s_gf, s_pf, dn_q, kd_q, cl_q, nf_q, ln_q, tg_q, rr_q, cr_q, u_1, e_lsw, k_ti, List.drop_succ_cons, List.drop_zero, List.drop_nil, List.zip_cons_cons, List.zip_nil_right, List.zip_nil_left, List.all_cons, List.all_nil, Bool.and_true, Bool.and_self, decide_true, decide_false, Option.toList, List.cons_append, List.nil_append, List.append_nil, DX8_firstWrong_0, DX8_firstWrong_1, DX8_firstWrong_2, DX8_firstWrong_3, DX8_firstWrong_4, FLX8, LDX8, x_le (a := p) (b := f + 10 + 9 * j) (by omega) (by omega), hpq, oS_1, oS_3, hd, x_cl (a := f + 10 + 9 * j) (by omega), x_in (a := f + 10 + 9 * j) (n := 3532) (by omega)]
    refine ⟨by omega, fun h1 => hb (fun z => ?_), fun h1 => ⟨by omega, fun h2 => ⟨by omega, ?_⟩, fun h2 => hb (fun z => ?_)⟩⟩
    · have h3 := (z j (by omega) (by omega)).1
      have h4 := h15.mp h1
      omega
    · have hw15 : w ≤ 15 := Nat.le_of_not_lt (fun z => h1 (h15.mpr z))
      rw [hv.2] at h2 ⊢
      rw [show (9 : Int32) = nI 9 from rfl, nI_add, show f + 10 + 9 * j + 9 = f + 10 + 9 * (j + 1) by omega]
      refine ih (j + 1) _ (by omega) ?_ ?_
      · have h5 := seO_s (c := w) hs (by omega)
        rw [← hv.2] at h5
        rw [← hv.2]
        rw [upd_id] at h5
        exact h5
      · intro z z1 z2
        by_cases hz : z = j
        · subst hz
          rw [hw, hv.2]
          exact ⟨hw15, nf2 (fun z3 => h2 ((hbit hw15).mpr z3))⟩
        · exact ho z z1 (by omega)
    · have h3 := z j (by omega) (by omega)
      rw [hw, hv.2] at h3
      rw [hv.2] at h2
      rw [(hbit h3.1).mp h2] at h3
      exact absurd h3.2 (by decide)
set_option maxHeartbeats 4000000 in
set_option maxRecDepth 100000 in
theorem lp_fwF (C : e_CX8_firstWrong V l) (Rt : e_RX8_firstWrong V (s_P A post)) {d : Nat → Int32} {n r f t p : Nat} {a g : Int32} {σ : Int64} (hd : T.1 52 0 = d) (hB : bB d) (hr : r < 60) (hp3 : p + 1 + t ≤ 3500) (ht : d p = nI t) (ht3 : t ≤ 3) (hx : okF d (p + 1) r 0 t → V 0 0 251 [(0, .ref (ad A 30 0)), (1, .int (nI n)), (2, .int (nI r)), (3, .int (nI f)), (4, .int (nI p))] [] (gS A (oS T a g σ))) (hb : ¬ okF d (p + 1) r 0 t → post (some (.int (nI r))) (oS T a g σ)) : ∀ k j others, j + k = t → seL others (fun y => d (p + 1 + y)) j → okF d (p + 1) r 0 j → V 0 0 190 [(0, .ref (ad A 30 0)), (1, .int (nI n)), (2, .int (nI r)), (3, .int (nI f)), (4, .int (nI p)), (6, .long others), (8, .int (nI j))] [] (gS A (oS T a g σ)) := by
  intro k
  induction k with
  | zero =>
    intro j others hj hs ho
    have hj2 : j = t := by omega
    subst hj2
    refine srnX8_firstWrong C Rt [190, 251] 40 ?_
    simp only [k_i, s_go, s_1, e_op, e_pi, e_pl, e_pr, e_p0, e_li, e_ll, e_lr, e_lk, e_ins, e_rm, e_to, e_sw, e_cmp, k_c, k_n, k_f, k_v, k_lg, ↓reduceIte, reduceCtorEq, Nat.reduceAdd, Nat.reduceSub, Nat.reduceMul, Nat.reduceEqDiff, Nat.reduceLT, Nat.reduceLeDiff, Int.reduceAdd, Int.reduceSub, Int.reduceNeg, Int.reduceLE, Int.reduceLT, Int.reduceToNat, Int.reduceEq, Int.cast_ofNat_Int, List.mem_cons, List.not_mem_nil, List.length_cons, List.length_nil, List.set_cons_zero, List.set_cons_succ, List.toList_toArray, eq_self, true_and, and_true, and_self, or_true, true_or, false_or, or_false, or_self, not_true_eq_false, not_false_eq_true, Classical.not_not, true_implies, false_implies, implies_true, forall_const, and_false, false_and, Nat.le_refl, Nat.zero_le, Bool.false_eq_true, lv_args, s_rl_at, s_gf, s_pf, dn_q, kd_q, cl_q, nf_q, ln_q, tg_q, rr_q, cr_q, u_1, e_lsw, k_ti, List.drop_succ_cons, List.drop_zero, List.drop_nil, List.zip_cons_cons, List.zip_nil_right, List.zip_nil_left, List.all_cons, List.all_nil, Bool.and_true, Bool.and_self, decide_true, decide_false, Option.toList, List.cons_append, List.nil_append, List.append_nil, DX8_firstWrong_0, DX8_firstWrong_1, DX8_firstWrong_2, DX8_firstWrong_3, DX8_firstWrong_4, FLX8, LDX8, oS_1, oS_3, hd, x_cl (a := p) (by omega), x_in (a := p) (n := 3532) (by omega), ht, x_le (a := j) (b := j) (by omega) (by omega)]
    exact ⟨by omega, w_pre C (hx ho)⟩
  | succ k ih =>
    intro j others hj hs ho
    have hv := bB_n hB (show p + 1 + j < 3532 by omega)
    obtain ⟨w, hw⟩ : ∃ w, dN d (p + 1 + j) = w := ⟨_, rfl⟩
    rw [hw] at hv
    have hbit : w < r → ((others >>> ((nI w).toInt64 &&& 63) &&& 1 = 1) ↔ am (fun y => d (p + 1 + y)) (nI w) j = true) := fun h => by rw [shr_J (by omega), hs w (by omega)]
    refine srnX8_firstWrong C Rt [190, 251] 60 ?_
    simp only [k_i, s_go, s_1, e_op, e_pi, e_pl, e_pr, e_p0, e_li, e_ll, e_lr, e_lk, e_ins, e_rm, e_to, e_sw, e_cmp, k_c, k_n, k_f, k_v, k_lg, ↓reduceIte, reduceCtorEq, Nat.reduceAdd, Nat.reduceSub, Nat.reduceMul, Nat.reduceEqDiff, Nat.reduceLT, Nat.reduceLeDiff, Int.reduceAdd, Int.reduceSub, Int.reduceNeg, Int.reduceLE, Int.reduceLT, Int.reduceToNat, Int.reduceEq, Int.cast_ofNat_Int, List.mem_cons, List.not_mem_nil, List.length_cons, List.length_nil, List.set_cons_zero, List.set_cons_succ, List.toList_toArray, eq_self, true_and, and_true, and_self, or_true, true_or, false_or, or_false, or_self, not_true_eq_false, not_false_eq_true, Classical.not_not, true_implies, false_implies, implies_true, forall_const, and_false, false_and, Nat.le_refl, Nat.zero_le, Bool.false_eq_true, lv_args, s_rl_at, s_gf, s_pf, dn_q, kd_q, cl_q, nf_q, ln_q, tg_q, rr_q, cr_q, u_1, e_lsw, k_ti, List.drop_succ_cons, List.drop_zero, List.drop_nil, List.zip_cons_cons, List.zip_nil_right, List.zip_nil_left, List.all_cons, List.all_nil, Bool.and_true, Bool.and_self, decide_true, decide_false, Option.toList, List.cons_append, List.nil_append, List.append_nil, DX8_firstWrong_0, DX8_firstWrong_1, DX8_firstWrong_2, DX8_firstWrong_3, DX8_firstWrong_4, FLX8, LDX8, oS_1, oS_3, hd, x_cl (a := p) (by omega), x_in (a := p) (n := 3532) (by omega), ht, x_le (a := t) (b := j) (by omega) (by omega), nI_1, nI_add, x_cl (a := p + 1 + j) (by omega), x_in (a := p + 1 + j) (n := 3532) (by omega), hv.2, x_le (a := r) (b := w) (by omega) (by omega)]
    refine ⟨by omega, fun h => by omega, fun _ => ⟨by omega, fun h1 => hb (fun z => ?_), fun h1 => ⟨fun h2 => w_pre C (ih (j + 1) _ (by omega) ?_ ?_), fun h2 => hb (fun z => ?_)⟩⟩⟩
    · have h3 := (z j (by omega) (by omega)).1
      omega
    · have h5 := seL_s (c := w) hs (by omega)
      have h6 := upd_id (f := fun y => d (p + 1 + y)) (j := j)
      rw [← hv.2] at h5 ⊢
      rw [h6] at h5
      exact h5
    · intro z z1 z2
      by_cases hz : z = j
      · subst hz
        rw [hw, hv.2]
        exact ⟨by omega, nf2 (fun z3 => h2 ((hbit (by omega)).mpr z3))⟩
      · exact ho z z1 (by omega)
    · have h3 := z j (by omega) (by omega)
      rw [hw, hv.2] at h3
      rw [(hbit h3.1).mp h2] at h3
      exact absurd h3.2 (by decide)
set_option maxHeartbeats 4000000 in
set_option maxRecDepth 100000 in
theorem lp_fwS (C : e_CX8_firstWrong V l) (Rt : e_RX8_firstWrong V (s_P A post)) {d : Nat → Int32} {n r f e p : Nat} {a g : Int32} {σ s : Int64} (hd : T.1 52 0 = d) (he : e ≤ 3500) (hx : V 0 0 301 [(0, .ref (ad A 30 0)), (1, .int (nI n)), (2, .int (nI r)), (3, .int (nI f)), (4, .int (nI p)), (8, .int (nI e)), (9, .long (swd d f s (e - f)))] [] (gS A (oS T a g σ))) : ∀ k i, i + k = e → f ≤ i → V 0 0 274 [(0, .ref (ad A 30 0)), (1, .int (nI n)), (2, .int (nI r)), (3, .int (nI f)), (4, .int (nI p)), (8, .int (nI e)), (9, .long (swd d f s (i - f))), (11, .int (nI i))] [] (gS A (oS T a g σ)) := by
  intro k
  induction k with
  | zero =>
    intro i hi hf
    have hi2 : i = e := by omega
    subst hi2
    refine srnX8_firstWrong C Rt [274, 301] 40 ?_
    simp only [k_i, s_go, s_1, e_op, e_pi, e_pl, e_pr, e_p0, e_li, e_ll, e_lr, e_lk, e_ins, e_rm, e_to, e_sw, e_cmp, k_c, k_n, k_f, k_v, k_lg, ↓reduceIte, reduceCtorEq, Nat.reduceAdd, Nat.reduceSub, Nat.reduceMul, Nat.reduceEqDiff, Nat.reduceLT, Nat.reduceLeDiff, Int.reduceAdd, Int.reduceSub, Int.reduceNeg, Int.reduceLE, Int.reduceLT, Int.reduceToNat, Int.reduceEq, Int.cast_ofNat_Int, List.mem_cons, List.not_mem_nil, List.length_cons, List.length_nil, List.set_cons_zero, List.set_cons_succ, List.toList_toArray, eq_self, true_and, and_true, and_self, or_true, true_or, false_or, or_false, or_self, not_true_eq_false, not_false_eq_true, Classical.not_not, true_implies, false_implies, implies_true, forall_const, and_false, false_and, Nat.le_refl, Nat.zero_le, Bool.false_eq_true, lv_args, s_rl_at, s_gf, s_pf, dn_q, kd_q, cl_q, nf_q, ln_q, tg_q, rr_q, cr_q, u_1, e_lsw, k_ti, List.drop_succ_cons, List.drop_zero, List.drop_nil, List.zip_cons_cons, List.zip_nil_right, List.zip_nil_left, List.all_cons, List.all_nil, Bool.and_true, Bool.and_self, decide_true, decide_false, Option.toList, List.cons_append, List.nil_append, List.append_nil, DX8_firstWrong_0, DX8_firstWrong_1, DX8_firstWrong_2, DX8_firstWrong_3, DX8_firstWrong_4, FLX8, LDX8, x_le (a := i) (b := i) (by omega) (by omega)]
    exact w_pre C hx
  | succ k ih =>
    intro i hi hf
    refine srnX8_firstWrong C Rt [274, 301] 40 ?_
    simp only [k_i, s_go, s_1, e_op, e_pi, e_pl, e_pr, e_p0, e_li, e_ll, e_lr, e_lk, e_ins, e_rm, e_to, e_sw, e_cmp, k_c, k_n, k_f, k_v, k_lg, ↓reduceIte, reduceCtorEq, Nat.reduceAdd, Nat.reduceSub, Nat.reduceMul, Nat.reduceEqDiff, Nat.reduceLT, Nat.reduceLeDiff, Int.reduceAdd, Int.reduceSub, Int.reduceNeg, Int.reduceLE, Int.reduceLT, Int.reduceToNat, Int.reduceEq, Int.cast_ofNat_Int, List.mem_cons, List.not_mem_nil, List.length_cons, List.length_nil, List.set_cons_zero, List.set_cons_succ, List.toList_toArray, eq_self, true_and, and_true, and_self, or_true, true_or, false_or, or_false, or_self, not_true_eq_false, not_false_eq_true, Classical.not_not, true_implies, false_implies, implies_true, forall_const, and_false, false_and, Nat.le_refl, Nat.zero_le, Bool.false_eq_true, lv_args, s_rl_at, s_gf, s_pf, dn_q, kd_q, cl_q, nf_q, ln_q, tg_q, rr_q, cr_q, u_1, e_lsw, k_ti, List.drop_succ_cons, List.drop_zero, List.drop_nil, List.zip_cons_cons, List.zip_nil_right, List.zip_nil_left, List.all_cons, List.all_nil, Bool.and_true, Bool.and_self, decide_true, decide_false, Option.toList, List.cons_append, List.nil_append, List.append_nil, DX8_firstWrong_0, DX8_firstWrong_1, DX8_firstWrong_2, DX8_firstWrong_3, DX8_firstWrong_4, FLX8, LDX8, oS_1, oS_3, hd, x_le (a := e) (b := i) (by omega) (by omega), x_cl (a := i) (by omega), x_in (a := i) (n := 3532) (by omega)]
    refine ⟨fun h => by omega, fun _ => ⟨by omega, ?_⟩⟩
    refine sX8_firstWrong_290 C (m_X8_sumWith l _ _ _) (hcat := Nat.le_of_ble_eq_true rfl) (k := ?_)
    rintro v2 G2 ⟨rfl, rfl⟩
    refine srnX8_firstWrong C Rt [274, 301] 40 ?_
    simp only [k_i, s_go, s_1, e_op, e_pi, e_pl, e_pr, e_p0, e_li, e_ll, e_lr, e_lk, e_ins, e_rm, e_to, e_sw, e_cmp, k_c, k_n, k_f, k_v, k_lg, ↓reduceIte, reduceCtorEq, Nat.reduceAdd, Nat.reduceSub, Nat.reduceMul, Nat.reduceEqDiff, Nat.reduceLT, Nat.reduceLeDiff, Int.reduceAdd, Int.reduceSub, Int.reduceNeg, Int.reduceLE, Int.reduceLT, Int.reduceToNat, Int.reduceEq, Int.cast_ofNat_Int, List.mem_cons, List.not_mem_nil, List.length_cons, List.length_nil, List.set_cons_zero, List.set_cons_succ, List.toList_toArray, eq_self, true_and, and_true, and_self, or_true, true_or, false_or, or_false, or_self, not_true_eq_false, not_false_eq_true, Classical.not_not, true_implies, false_implies, implies_true, forall_const, and_false, false_and, Nat.le_refl, Nat.zero_le, Bool.false_eq_true, lv_args, s_rl_at, s_gf, s_pf, dn_q, kd_q, cl_q, nf_q, ln_q, tg_q, rr_q, cr_q, u_1, e_lsw, k_ti, List.drop_succ_cons, List.drop_zero, List.drop_nil, List.zip_cons_cons, List.zip_nil_right, List.zip_nil_left, List.all_cons, List.all_nil, Bool.and_true, Bool.and_self, decide_true, decide_false, Option.toList, List.cons_append, List.nil_append, List.append_nil, DX8_firstWrong_0, DX8_firstWrong_1, DX8_firstWrong_2, DX8_firstWrong_3, DX8_firstWrong_4, FLX8, LDX8, nI_1]
    have h9 := ih (i + 1) (by omega) (by omega)
    rw [show i + 1 - f = (i - f) + 1 by omega] at h9
    unfold swd at h9
    rw [show f + (i - f) = i by omega] at h9
    exact h9
set_option maxHeartbeats 4000000 in
set_option maxRecDepth 100000 in
theorem lp_fw (C : e_CX8_firstWrong V l) (Rt : e_RX8_firstWrong V (s_P A post)) {d : Nat → Int32} {n : Nat} (hd : T.1 52 0 = d) (hB : bB d) (hn : n ≤ 60) (hp : ∀ q a, q ≤ n → (∀ i, i < q → rokI d i) → (q < n → ¬ rokI d q) → post (some (.int (nI q))) (oS T a (nI (rwE d q).1) (rwE d q).2)) : ∀ k r a, r + k = n → (∀ i, i < r → rokI d i) → V 0 0 12 [(0, .ref (ad A 30 0)), (1, .int (nI n)), (2, .int (nI r))] [] (gS A (oS T a (nI (rwE d r).1) (rwE d r).2)) := by
  intro k
  induction k with
  | zero =>
    intro r a hr hok
    have hr2 : r = n := by omega
    subst hr2
    refine srnX8_firstWrong C Rt [12] 40 ?_
    simp only [k_i, s_go, s_1, e_op, e_pi, e_pl, e_pr, e_p0, e_li, e_ll, e_lr, e_lk, e_ins, e_rm, e_to, e_sw, e_cmp, k_c, k_n, k_f, k_v, k_lg, ↓reduceIte, reduceCtorEq, Nat.reduceAdd, Nat.reduceSub, Nat.reduceMul, Nat.reduceEqDiff, Nat.reduceLT, Nat.reduceLeDiff, Int.reduceAdd, Int.reduceSub, Int.reduceNeg, Int.reduceLE, Int.reduceLT, Int.reduceToNat, Int.reduceEq, Int.cast_ofNat_Int, List.mem_cons, List.not_mem_nil, List.length_cons, List.length_nil, List.set_cons_zero, List.set_cons_succ, List.toList_toArray, eq_self, true_and, and_true, and_self, or_true, true_or, false_or, or_false, or_self, not_true_eq_false, not_false_eq_true, Classical.not_not, true_implies, false_implies, implies_true, forall_const, and_false, false_and, Nat.le_refl, Nat.zero_le, Bool.false_eq_true, lv_args, s_rl_at, s_gf, s_pf, dn_q, kd_q, cl_q, nf_q, ln_q, tg_q, rr_q, cr_q, u_1, e_lsw, k_ti, List.drop_succ_cons, List.drop_zero, List.drop_nil, List.zip_cons_cons, List.zip_nil_right, List.zip_nil_left, List.all_cons, List.all_nil, Bool.and_true, Bool.and_self, decide_true, decide_false, Option.toList, List.cons_append, List.nil_append, List.append_nil, DX8_firstWrong_0, DX8_firstWrong_1, DX8_firstWrong_2, DX8_firstWrong_3, DX8_firstWrong_4, FLX8, LDX8, x_le (a := r) (b := r) (by omega) (by omega)]
    exact hp r a (by omega) hok (fun h => by omega)
  | succ k ih =>
    intro r a hr hok
    have hf := rwE_le hok
    have hbad : ¬ rokI d r → ∀ a, post (some (.int (nI r))) (oS T a (nI (rwE d r).1) (rwE d r).2) := fun h a => hp r a (by omega) hok (fun _ => h)
    have hnext : ∀ a, rokI d r → V 0 0 12 [(0, .ref (ad A 30 0)), (1, .int (nI n)), (2, .int (nI (r + 1)))] [] (gS A (oS T a (nI (rwE d (r + 1)).1) (rwE d (r + 1)).2)) := fun a h => ih (r + 1) a (by omega) (fun i hi => by
      by_cases hir : i = r
      · rw [hir]; exact h
      · exact hok i (by omega))
    have hrk : rokI d r ↔ rok d r (rwE d r).1 (rwE d r).2 := Iff.rfl
    have hE1 : (rwE d (r + 1)).1 = rE d (rwE d r).1 + 8 := rfl
    have hE2 : (rwE d (r + 1)).2 = rSm d (rwE d r).1 (rwE d r).2 := rfl
    rw [hE1, hE2] at hnext
    rw [hrk] at hbad hnext
    generalize (rwE d r).1 = f at hf hbad hnext ⊢
    generalize (rwE d r).2 = σ at hbad hnext ⊢
    have v0 := bB_n hB (show f < 3532 by omega)
    have v9 := bB_n hB (show f + 9 < 3532 by omega)
    refine srnX8_firstWrong C Rt [12, 57] 60 ?_
    simp only [k_i, s_go, s_1, e_op, e_pi, e_pl, e_pr, e_p0, e_li, e_ll, e_lr, e_lk, e_ins, e_rm, e_to, e_sw, e_cmp, k_c, k_n, k_f, k_v, k_lg, ↓reduceIte, reduceCtorEq, Nat.reduceAdd, Nat.reduceSub, Nat.reduceMul, Nat.reduceEqDiff, Nat.reduceLT, Nat.reduceLeDiff, Int.reduceAdd, Int.reduceSub, Int.reduceNeg, Int.reduceLE, Int.reduceLT, Int.reduceToNat, Int.reduceEq, Int.cast_ofNat_Int, List.mem_cons, List.not_mem_nil, List.length_cons, List.length_nil, List.set_cons_zero, List.set_cons_succ, List.toList_toArray, eq_self, true_and, and_true, and_self, or_true, true_or, false_or, or_false, or_self, not_true_eq_false, not_false_eq_true, Classical.not_not, true_implies, false_implies, implies_true, forall_const, and_false, false_and, Nat.le_refl, Nat.zero_le, Bool.false_eq_true, lv_args, s_rl_at, s_gf, s_pf, dn_q, kd_q, cl_q, nf_q, ln_q, tg_q, rr_q, cr_q, u_1, e_lsw, k_ti, List.drop_succ_cons, List.drop_zero, List.drop_nil, List.zip_cons_cons, List.zip_nil_right, List.zip_nil_left, List.all_cons, List.all_nil, Bool.and_true, Bool.and_self, decide_true, decide_false, Option.toList, List.cons_append, List.nil_append, List.append_nil, DX8_firstWrong_0, DX8_firstWrong_1, DX8_firstWrong_2, DX8_firstWrong_3, DX8_firstWrong_4, FLX8, LDX8, oS_1, oS_2, oS_3, hd, x_le (a := n) (b := r) (by omega) (by omega), (show (10 : Int32) = nI 10 from rfl), (show (9 : Int32) = nI 9 from rfl), (show (3500 : Int32) = nI 3500 from rfl), (show (3 : Int32) = nI 3 from rfl), (show (4 : Int32) = nI 4 from rfl), nI_add, x_lt (a := 3500) (b := f + 10) (by omega) (by omega), x_cl (a := f) (by omega), x_in (a := f) (n := 3532) (by omega), x_cl (a := f + 9) (by omega), x_in (a := f + 9) (n := 3532) (by omega), by_m hB (M := 3) (show f < 3532 by omega) (by omega), by_l hB (M := 4) (show f + 9 < 3532 by omega) (by omega)]
    refine ⟨fun h => by omega, fun _ => ⟨fun h1 => hbad (fun z => by have := z.1.1; omega) a, fun h1 => ⟨by omega, fun h2 => hbad (fun z => by have := z.1.2.1; omega) a, fun h2 => ⟨by omega, fun h3 => ?_, fun h3 => hbad (fun z => by have := z.1.2.2.1; omega) a⟩⟩⟩⟩
    obtain ⟨t, ht⟩ : ∃ t, dN d (f + 9) = t := ⟨_, rfl⟩
    rw [ht] at v9 h3
    obtain ⟨p, hP⟩ : ∃ p, rP d f = p := ⟨_, rfl⟩
    have hP2 : p = f + 10 + 9 * t := by rw [← hP]; unfold rP; rw [ht]
    refine srnX8_firstWrong C Rt [84] 60 ?_
    simp only [k_i, s_go, s_1, e_op, e_pi, e_pl, e_pr, e_p0, e_li, e_ll, e_lr, e_lk, e_ins, e_rm, e_to, e_sw, e_cmp, k_c, k_n, k_f, k_v, k_lg, ↓reduceIte, reduceCtorEq, Nat.reduceAdd, Nat.reduceSub, Nat.reduceMul, Nat.reduceEqDiff, Nat.reduceLT, Nat.reduceLeDiff, Int.reduceAdd, Int.reduceSub, Int.reduceNeg, Int.reduceLE, Int.reduceLT, Int.reduceToNat, Int.reduceEq, Int.cast_ofNat_Int, List.mem_cons, List.not_mem_nil, List.length_cons, List.length_nil, List.set_cons_zero, List.set_cons_succ, List.toList_toArray, eq_self, true_and, and_true, and_self, or_true, true_or, false_or, or_false, or_self, not_true_eq_false, not_false_eq_true, Classical.not_not, true_implies, false_implies, implies_true, forall_const, and_false, false_and, Nat.le_refl, Nat.zero_le, Bool.false_eq_true, lv_args, s_rl_at, s_gf, s_pf, dn_q, kd_q, cl_q, nf_q, ln_q, tg_q, rr_q, cr_q, u_1, e_lsw, k_ti, List.drop_succ_cons, List.drop_zero, List.drop_nil, List.zip_cons_cons, List.zip_nil_right, List.zip_nil_left, List.all_cons, List.all_nil, Bool.and_true, Bool.and_self, decide_true, decide_false, Option.toList, List.cons_append, List.nil_append, List.append_nil, DX8_firstWrong_0, DX8_firstWrong_1, DX8_firstWrong_2, DX8_firstWrong_3, DX8_firstWrong_4, FLX8, LDX8, oS_1, oS_2, oS_3, hd, (show (10 : Int32) = nI 10 from rfl), (show (9 : Int32) = nI 9 from rfl), (show (3500 : Int32) = nI 3500 from rfl), nI_add, x_cl (a := f + 9) (by omega), x_in (a := f + 9) (n := 3532) (by omega), v9.2, pk_mul, x_le (a := 3500) (b := f + 10 + 9 * t) (by omega) (by omega)]
    rw [← hP2]
    refine ⟨by omega, fun h4 => hbad (fun z => by have := z.1.2.2.2.1; omega) a, fun h4 => ?_⟩
    have vp := bB_n hB (show p < 3532 by omega)
    obtain ⟨w, hw⟩ : ∃ w, dN d p = w := ⟨_, rfl⟩
    rw [hw] at vp
    have hE : rE d f = p + 1 + w := by unfold rE; rw [hP, hw]
    have hS : rSm d f σ = swd d f σ (p + 1 + w - f) := by unfold rSm; rw [hE]
    rw [hE, hS] at hnext
    refine srnX8_firstWrong C Rt [118] 60 ?_
    simp only [k_i, s_go, s_1, e_op, e_pi, e_pl, e_pr, e_p0, e_li, e_ll, e_lr, e_lk, e_ins, e_rm, e_to, e_sw, e_cmp, k_c, k_n, k_f, k_v, k_lg, ↓reduceIte, reduceCtorEq, Nat.reduceAdd, Nat.reduceSub, Nat.reduceMul, Nat.reduceEqDiff, Nat.reduceLT, Nat.reduceLeDiff, Int.reduceAdd, Int.reduceSub, Int.reduceNeg, Int.reduceLE, Int.reduceLT, Int.reduceToNat, Int.reduceEq, Int.cast_ofNat_Int, List.mem_cons, List.not_mem_nil, List.length_cons, List.length_nil, List.set_cons_zero, List.set_cons_succ, List.toList_toArray, eq_self, true_and, and_true, and_self, or_true, true_or, false_or, or_false, or_self, not_true_eq_false, not_false_eq_true, Classical.not_not, true_implies, false_implies, implies_true, forall_const, and_false, false_and, Nat.le_refl, Nat.zero_le, Bool.false_eq_true, lv_args, s_rl_at, s_gf, s_pf, dn_q, kd_q, cl_q, nf_q, ln_q, tg_q, rr_q, cr_q, u_1, e_lsw, k_ti, List.drop_succ_cons, List.drop_zero, List.drop_nil, List.zip_cons_cons, List.zip_nil_right, List.zip_nil_left, List.all_cons, List.all_nil, Bool.and_true, Bool.and_self, decide_true, decide_false, Option.toList, List.cons_append, List.nil_append, List.append_nil, DX8_firstWrong_0, DX8_firstWrong_1, DX8_firstWrong_2, DX8_firstWrong_3, DX8_firstWrong_4, FLX8, LDX8, oS_1, oS_2, oS_3, hd, (show (8 : Int32) = nI 8 from rfl), (show (1 : Int32) = nI 1 from rfl), (show (3 : Int32) = nI 3 from rfl), (show (3500 : Int32) = nI 3500 from rfl), nI_add, x_cl (a := p) (by omega), x_in (a := p) (n := 3532) (by omega), vp.2, x_lt (a := 3) (b := w) (by omega) (by omega), x_le (a := p + 1 + w + 8) (b := 3500) (by omega) (by omega)]
    refine ⟨by omega, fun h5 => hbad (fun z => by have := z.1.2.2.2.2.1; rw [hP, hw] at this; omega) a, fun h5 => ⟨by omega, fun h6 => ?_, fun h6 => hbad (fun z => by have := z.1.2.2.2.2.2.1; rw [hE] at this; omega) a⟩⟩
    refine srnX8_firstWrong C Rt [127] 60 ?_
    simp only [k_i, s_go, s_1, e_op, e_pi, e_pl, e_pr, e_p0, e_li, e_ll, e_lr, e_lk, e_ins, e_rm, e_to, e_sw, e_cmp, k_c, k_n, k_f, k_v, k_lg, ↓reduceIte, reduceCtorEq, Nat.reduceAdd, Nat.reduceSub, Nat.reduceMul, Nat.reduceEqDiff, Nat.reduceLT, Nat.reduceLeDiff, Int.reduceAdd, Int.reduceSub, Int.reduceNeg, Int.reduceLE, Int.reduceLT, Int.reduceToNat, Int.reduceEq, Int.cast_ofNat_Int, List.mem_cons, List.not_mem_nil, List.length_cons, List.length_nil, List.set_cons_zero, List.set_cons_succ, List.toList_toArray, eq_self, true_and, and_true, and_self, or_true, true_or, false_or, or_false, or_self, not_true_eq_false, not_false_eq_true, Classical.not_not, true_implies, false_implies, implies_true, forall_const, and_false, false_and, Nat.le_refl, Nat.zero_le, Bool.false_eq_true, lv_args, s_rl_at, s_gf, s_pf, dn_q, kd_q, cl_q, nf_q, ln_q, tg_q, rr_q, cr_q, u_1, e_lsw, k_ti, List.drop_succ_cons, List.drop_zero, List.drop_nil, List.zip_cons_cons, List.zip_nil_right, List.zip_nil_left, List.all_cons, List.all_nil, Bool.and_true, Bool.and_self, decide_true, decide_false, Option.toList, List.cons_append, List.nil_append, List.append_nil, DX8_firstWrong_0, DX8_firstWrong_1, DX8_firstWrong_2, DX8_firstWrong_3, DX8_firstWrong_4, FLX8, LDX8, (show (10 : Int32) = nI 10 from rfl), nI_add]
    have h127 := lp_fwT (n := n) (r := r) (a := a) (g := nI f) (σ := σ) C Rt hd hB hP2 (by omega) (fun hT => ?_) (fun hT => hbad (fun z => hT (by have := z.1.2.2.2.2.2.2.1; rw [ht] at this; exact this)) a) t 0 0 (by omega) seO_0 (fun z z1 z2 => by omega)
    · rw [Nat.mul_zero, Nat.add_zero] at h127
      exact h127
    refine srnX8_firstWrong C Rt [190] 60 ?_
    simp only [k_i, s_go, s_1, e_op, e_pi, e_pl, e_pr, e_p0, e_li, e_ll, e_lr, e_lk, e_ins, e_rm, e_to, e_sw, e_cmp, k_c, k_n, k_f, k_v, k_lg, ↓reduceIte, reduceCtorEq, Nat.reduceAdd, Nat.reduceSub, Nat.reduceMul, Nat.reduceEqDiff, Nat.reduceLT, Nat.reduceLeDiff, Int.reduceAdd, Int.reduceSub, Int.reduceNeg, Int.reduceLE, Int.reduceLT, Int.reduceToNat, Int.reduceEq, Int.cast_ofNat_Int, List.mem_cons, List.not_mem_nil, List.length_cons, List.length_nil, List.set_cons_zero, List.set_cons_succ, List.toList_toArray, eq_self, true_and, and_true, and_self, or_true, true_or, false_or, or_false, or_self, not_true_eq_false, not_false_eq_true, Classical.not_not, true_implies, false_implies, implies_true, forall_const, and_false, false_and, Nat.le_refl, Nat.zero_le, Bool.false_eq_true, lv_args, s_rl_at, s_gf, s_pf, dn_q, kd_q, cl_q, nf_q, ln_q, tg_q, rr_q, cr_q, u_1, e_lsw, k_ti, List.drop_succ_cons, List.drop_zero, List.drop_nil, List.zip_cons_cons, List.zip_nil_right, List.zip_nil_left, List.all_cons, List.all_nil, Bool.and_true, Bool.and_self, decide_true, decide_false, Option.toList, List.cons_append, List.nil_append, List.append_nil, DX8_firstWrong_0, DX8_firstWrong_1, DX8_firstWrong_2, DX8_firstWrong_3, DX8_firstWrong_4, FLX8, LDX8]
    refine lp_fwF (n := n) (r := r) (f := f) (p := p) (t := w) (a := a) (g := nI f) (σ := σ) C Rt hd hB (by omega) (by omega) vp.2 (by omega) (fun hF => ?_) (fun hF => hbad (fun z => hF (by have := z.1.2.2.2.2.2.2.2; rw [hP, hw] at this; exact this)) a) w 0 0 (by omega) seL_0 (fun z z1 z2 => by omega)
    refine srnX8_firstWrong C Rt [274] 60 ?_
    simp only [k_i, s_go, s_1, e_op, e_pi, e_pl, e_pr, e_p0, e_li, e_ll, e_lr, e_lk, e_ins, e_rm, e_to, e_sw, e_cmp, k_c, k_n, k_f, k_v, k_lg, ↓reduceIte, reduceCtorEq, Nat.reduceAdd, Nat.reduceSub, Nat.reduceMul, Nat.reduceEqDiff, Nat.reduceLT, Nat.reduceLeDiff, Int.reduceAdd, Int.reduceSub, Int.reduceNeg, Int.reduceLE, Int.reduceLT, Int.reduceToNat, Int.reduceEq, Int.cast_ofNat_Int, List.mem_cons, List.not_mem_nil, List.length_cons, List.length_nil, List.set_cons_zero, List.set_cons_succ, List.toList_toArray, eq_self, true_and, and_true, and_self, or_true, true_or, false_or, or_false, or_self, not_true_eq_false, not_false_eq_true, Classical.not_not, true_implies, false_implies, implies_true, forall_const, and_false, false_and, Nat.le_refl, Nat.zero_le, Bool.false_eq_true, lv_args, s_rl_at, s_gf, s_pf, dn_q, kd_q, cl_q, nf_q, ln_q, tg_q, rr_q, cr_q, u_1, e_lsw, k_ti, List.drop_succ_cons, List.drop_zero, List.drop_nil, List.zip_cons_cons, List.zip_nil_right, List.zip_nil_left, List.all_cons, List.all_nil, Bool.and_true, Bool.and_self, decide_true, decide_false, Option.toList, List.cons_append, List.nil_append, List.append_nil, DX8_firstWrong_0, DX8_firstWrong_1, DX8_firstWrong_2, DX8_firstWrong_3, DX8_firstWrong_4, FLX8, LDX8, oS_1, oS_2, oS_3, hd, (show (1 : Int32) = nI 1 from rfl), nI_add, x_cl (a := p) (by omega), x_in (a := p) (n := 3532) (by omega), vp.2]
    refine ⟨by omega, ?_⟩
    have h274 := lp_fwS (n := n) (r := r) (f := f) (p := p) (e := p + 1 + w) (a := a) (g := nI f) (σ := σ) (s := σ) C Rt hd (by omega) ?_ (p + 1 + w - f) f (by omega) (by omega)
    · rw [Nat.sub_self] at h274
      exact h274
    refine srnX8_firstWrong C Rt [] 60 ?_
    simp only [k_i, s_go, s_1, e_op, e_pi, e_pl, e_pr, e_p0, e_li, e_ll, e_lr, e_lk, e_ins, e_rm, e_to, e_sw, e_cmp, k_c, k_n, k_f, k_v, k_lg, ↓reduceIte, reduceCtorEq, Nat.reduceAdd, Nat.reduceSub, Nat.reduceMul, Nat.reduceEqDiff, Nat.reduceLT, Nat.reduceLeDiff, Int.reduceAdd, Int.reduceSub, Int.reduceNeg, Int.reduceLE, Int.reduceLT, Int.reduceToNat, Int.reduceEq, Int.cast_ofNat_Int, List.mem_cons, List.not_mem_nil, List.length_cons, List.length_nil, List.set_cons_zero, List.set_cons_succ, List.toList_toArray, eq_self, true_and, and_true, and_self, or_true, true_or, false_or, or_false, or_self, not_true_eq_false, not_false_eq_true, Classical.not_not, true_implies, false_implies, implies_true, forall_const, and_false, false_and, Nat.le_refl, Nat.zero_le, Bool.false_eq_true, lv_args, s_rl_at, s_gf, s_pf, dn_q, kd_q, cl_q, nf_q, ln_q, tg_q, rr_q, cr_q, u_1, e_lsw, k_ti, List.drop_succ_cons, List.drop_zero, List.drop_nil, List.zip_cons_cons, List.zip_nil_right, List.zip_nil_left, List.all_cons, List.all_nil, Bool.and_true, Bool.and_self, decide_true, decide_false, Option.toList, List.cons_append, List.nil_append, List.append_nil, DX8_firstWrong_0, DX8_firstWrong_1, DX8_firstWrong_2, DX8_firstWrong_3, DX8_firstWrong_4, FLX8, LDX8, oS_1, oS_2, oS_3, hd, (show (8 : Int32) = nI 8 from rfl)]
    rw [oS_a]
    refine sX8_firstWrong_310 C (m_X8_bytesAt l A (oS T (nI (p + 1 + w)) (nI f) σ) (a := p + 1 + w) (n := 8) (by omega) rfl) (s_obj (show 0 < 1 by decide) rfl) (hcat := Nat.le_of_ble_eq_true rfl) (k := ?_)
    rintro v2 G2 ⟨S2, rfl, rfl, rfl⟩
    rw [oS_a, oS_d, hd]
    refine srnX8_firstWrong C Rt [12] 60 ?_
    simp only [k_i, s_go, s_1, e_op, e_pi, e_pl, e_pr, e_p0, e_li, e_ll, e_lr, e_lk, e_ins, e_rm, e_to, e_sw, e_cmp, k_c, k_n, k_f, k_v, k_lg, ↓reduceIte, reduceCtorEq, Nat.reduceAdd, Nat.reduceSub, Nat.reduceMul, Nat.reduceEqDiff, Nat.reduceLT, Nat.reduceLeDiff, Int.reduceAdd, Int.reduceSub, Int.reduceNeg, Int.reduceLE, Int.reduceLT, Int.reduceToNat, Int.reduceEq, Int.cast_ofNat_Int, List.mem_cons, List.not_mem_nil, List.length_cons, List.length_nil, List.set_cons_zero, List.set_cons_succ, List.toList_toArray, eq_self, true_and, and_true, and_self, or_true, true_or, false_or, or_false, or_self, not_true_eq_false, not_false_eq_true, Classical.not_not, true_implies, false_implies, implies_true, forall_const, and_false, false_and, Nat.le_refl, Nat.zero_le, Bool.false_eq_true, lv_args, s_rl_at, s_gf, s_pf, dn_q, kd_q, cl_q, nf_q, ln_q, tg_q, rr_q, cr_q, u_1, e_lsw, k_ti, List.drop_succ_cons, List.drop_zero, List.drop_nil, List.zip_cons_cons, List.zip_nil_right, List.zip_nil_left, List.all_cons, List.all_nil, Bool.and_true, Bool.and_self, decide_true, decide_false, Option.toList, List.cons_append, List.nil_append, List.append_nil, DX8_firstWrong_0, DX8_firstWrong_1, DX8_firstWrong_2, DX8_firstWrong_3, DX8_firstWrong_4, FLX8, LDX8, oS_1, oS_2, oS_3, hd, (show (8 : Int32) = nI 8 from rfl), nI_add, nI_1]
    refine ⟨fun h7 => ?_, fun h7 => hbad (fun z => h7 (by have := z.2; rw [hE, hS] at this; exact this)) _⟩
    rw [oS_s, oS_g]
    have h9 := hnext (nI (p + 1 + w + 8)) ⟨⟨by omega, by omega, by rw [ht]; exact h3, by rw [hP]; omega, by rw [hP, hw]; omega, by rw [hE]; omega, by rw [ht]; exact hT, by rw [hP, hw]; exact hF⟩, by rw [hE, hS]; exact h7⟩
    exact w_pre C h9
end
set_option maxHeartbeats 4000000 in
set_option maxRecDepth 100000 in
theorem m_X8_firstWrong (l : Launch) (A : pA) (T : pS) {d : Nat → Int32} {n : Nat} (hd : T.1 52 0 = d) (hB : bB d) (hn : n ≤ 60) : e_MX8_firstWrong l [.ref (ad A 30 0), .int (nI n)] (gS A T) (s_P A (fun v S2 => ∃ q a, (q ≤ n ∧ (∀ i, i < q → rokI d i) ∧ (q < n → ¬ rokI d q)) ∧ S2 = oS T a (nI (rwE d q).1) (rwE d q).2 ∧ v = some (.int (nI q)))) := by
  refine ofX8_firstWrong (Nat.le_of_ble_eq_true rfl) ?_
  intro V C Rt
  refine srnX8_firstWrong C Rt [12] 20 ?_
  simp only [k_i, s_go, s_1, e_op, e_pi, e_pl, e_pr, e_p0, e_li, e_ll, e_lr, e_lk, e_ins, e_rm, e_to, e_sw, e_cmp, k_c, k_n, k_f, k_v, k_lg, ↓reduceIte, reduceCtorEq, Nat.reduceAdd, Nat.reduceSub, Nat.reduceMul, Nat.reduceEqDiff, Nat.reduceLT, Nat.reduceLeDiff, Int.reduceAdd, Int.reduceSub, Int.reduceNeg, Int.reduceLE, Int.reduceLT, Int.reduceToNat, Int.reduceEq, Int.cast_ofNat_Int, List.mem_cons, List.not_mem_nil, List.length_cons, List.length_nil, List.set_cons_zero, List.set_cons_succ, List.toList_toArray, eq_self, true_and, and_true, and_self, or_true, true_or, false_or, or_false, or_self, not_true_eq_false, not_false_eq_true, Classical.not_not, true_implies, false_implies, implies_true, forall_const, and_false, false_and, Nat.le_refl, Nat.zero_le, Bool.false_eq_true, lv_args, s_rl_at, s_gf, s_pf, dn_q, kd_q, cl_q, nf_q, ln_q, tg_q, rr_q, cr_q, u_1, e_lsw, k_ti, List.drop_succ_cons, List.drop_zero, List.drop_nil, List.zip_cons_cons, List.zip_nil_right, List.zip_nil_left, List.all_cons, List.all_nil, Bool.and_true, Bool.and_self, decide_true, decide_false, Option.toList, List.cons_append, List.nil_append, List.append_nil, DX8_firstWrong_0, DX8_firstWrong_1, DX8_firstWrong_2, DX8_firstWrong_3, DX8_firstWrong_4, FLX8, LDX8]
  rw [oS_0]
  exact lp_fw C Rt hd hB hn (fun q a h1 h2 h3 => ⟨q, a, ⟨h1, h2, h3⟩, rfl, rfl⟩) n 0 _ (by omega) (fun i hi => by omega)
