/-! the reference: bytesAt, firstWrong -/
def oS (T : pS) (a g : Int32) (σ : Int64) : pS := (fun k' i' j' => if k' = 30 ∧ i' = 0 ∧ j' = 32 then a else if k' = 30 ∧ i' = 0 ∧ j' = 33 then g else T.1 k' i' j', fun k' i' j' => if k' = 30 ∧ i' = 0 ∧ j' = 34 then σ else T.2.1 k' i' j', T.2.2)
theorem oS_1 (T : pS) (a g : Int32) (σ : Int64) (k' i' j' : Nat) : (oS T a g σ).1 k' i' j' = if k' = 30 ∧ i' = 0 ∧ j' = 32 then a else if k' = 30 ∧ i' = 0 ∧ j' = 33 then g else T.1 k' i' j' := rfl
theorem oS_2 (T : pS) (a g : Int32) (σ : Int64) (k' i' j' : Nat) : (oS T a g σ).2.1 k' i' j' = if k' = 30 ∧ i' = 0 ∧ j' = 34 then σ else T.2.1 k' i' j' := rfl
theorem oS_3 (T : pS) (a g : Int32) (σ : Int64) : (oS T a g σ).2.2 = T.2.2 := rfl
theorem oS_a {T : pS} {a g x : Int32} {σ : Int64} : uI (oS T a g σ) 30 0 32 x = oS T x g σ := by
  refine Prod.ext ?_ rfl
  funext k' i' j'
  simp only [u_1, oS_1]
  by_cases h : k' = 30 ∧ i' = 0 ∧ j' = 32 <;> simp [h]
theorem oS_g {T : pS} {a g x : Int32} {σ : Int64} : uI (oS T a g σ) 30 0 33 x = oS T a x σ := by
  refine Prod.ext ?_ rfl
  funext k' i' j'
  simp only [u_1, oS_1]
  by_cases h : k' = 30 ∧ i' = 0 ∧ j' = 33
  · obtain ⟨rfl, rfl, rfl⟩ := h
    simp
  · simp [h]
theorem oS_s {T : pS} {a g : Int32} {σ x : Int64} : uJ (oS T a g σ) 30 0 34 x = oS T a g x := by
  refine Prod.ext rfl (Prod.ext ?_ rfl)
  funext k' i' j'
  simp only [u_1, oS_2]
  by_cases h : k' = 30 ∧ i' = 0 ∧ j' = 34 <;> simp [h]
theorem oS_0 {T : pS} {g : Int32} {σ : Int64} : uJ (uI T 30 0 33 g) 30 0 34 σ = oS T (T.1 30 0 32) g σ := by
  refine Prod.ext ?_ (Prod.ext ?_ rfl)
  · funext k' i' j'
    simp only [u_1, oS_1]
    by_cases h : k' = 30 ∧ i' = 0 ∧ j' = 32
    · obtain ⟨rfl, rfl, rfl⟩ := h
      simp
    · simp [h]
  · funext k' i' j'
    simp only [u_1, oS_2]
theorem oS_d {T : pS} {a g : Int32} {σ : Int64} : (oS T a g σ).1 52 0 = T.1 52 0 := rfl
theorem oS_uI {T : pS} {a g v : Int32} {σ : Int64} {k i j : Nat} (h : ¬ k = 30) : uI (oS T a g σ) k i j v = oS (uI T k i j v) a g σ := by
  refine Prod.ext ?_ rfl
  funext k' i' j'
  simp only [u_1, oS_1]
  by_cases h1 : k' = k ∧ i' = i ∧ j' = j
  · obtain ⟨rfl, rfl, rfl⟩ := h1
    simp [h]
  · simp [h1]
section
variable {V : pV} {l : Launch} {A : pA} {post : Option Value → pS → Prop} {T : pS}
set_option maxHeartbeats 4000000 in
set_option maxRecDepth 100000 in
theorem lp_bytesAt (C : e_CX8_bytesAt V l) (Rt : e_RX8_bytesAt V (s_P A post)) {a n : Nat} (ha : a + n ≤ 3532) (hT : T.1 30 0 32 = nI a) (hpo : post (some (.long (nat_ (T.1 52 0) a n))) (uI T 30 0 32 (nI (a + n)))) : ∀ k i, i + k = n → V 0 0 5 [(0, .ref (ad A 30 0)), (1, .int (nI n)), (2, .long (nat_ (T.1 52 0) a i)), (4, .int (nI i))] [] (gS A T) := by
  intro k
  induction k with
  | zero =>
    intro i hi
    have hi2 : i = n := by omega
    subst hi2
    refine srnX8_bytesAt C Rt [5] 40 ?_
    simp only [k_i, s_go, s_1, e_op, e_pi, e_pl, e_pr, e_p0, e_li, e_ll, e_lr, e_lk, e_ins, e_rm, e_to, e_sw, e_cmp, k_c, k_n, k_f, k_v, k_lg, ↓reduceIte, reduceCtorEq, Nat.reduceAdd, Nat.reduceSub, Nat.reduceMul, Nat.reduceEqDiff, Nat.reduceLT, Nat.reduceLeDiff, Int.reduceAdd, Int.reduceSub, Int.reduceNeg, Int.reduceLE, Int.reduceLT, Int.reduceToNat, Int.reduceEq, Int.cast_ofNat_Int, List.mem_cons, List.not_mem_nil, List.length_cons, List.length_nil, List.set_cons_zero, List.set_cons_succ, List.toList_toArray, eq_self, true_and, and_true, and_self, or_true, true_or, false_or, or_false, or_self, not_true_eq_false, not_false_eq_true, Classical.not_not, true_implies, false_implies, implies_true, forall_const, and_false, false_and, Nat.le_refl, Nat.zero_le, Bool.false_eq_true, lv_args, s_rl_at, s_gf, s_pf, dn_q, kd_q, cl_q, nf_q, ln_q, tg_q, rr_q, cr_q, u_1, e_lsw, k_ti, List.drop_succ_cons, List.drop_zero, List.drop_nil, List.zip_cons_cons, List.zip_nil_right, List.zip_nil_left, List.all_cons, List.all_nil, Bool.and_true, Bool.and_self, decide_true, decide_false, Option.toList, List.cons_append, List.nil_append, List.append_nil, DX8_bytesAt_0, FLX8, LDX8, x_le (a := i) (b := i) (by omega) (by omega), hT, nI_add]
    exact hpo
  | succ k ih =>
    intro i hi
    refine srnX8_bytesAt C Rt [5] 40 ?_
    simp only [k_i, s_go, s_1, e_op, e_pi, e_pl, e_pr, e_p0, e_li, e_ll, e_lr, e_lk, e_ins, e_rm, e_to, e_sw, e_cmp, k_c, k_n, k_f, k_v, k_lg, ↓reduceIte, reduceCtorEq, Nat.reduceAdd, Nat.reduceSub, Nat.reduceMul, Nat.reduceEqDiff, Nat.reduceLT, Nat.reduceLeDiff, Int.reduceAdd, Int.reduceSub, Int.reduceNeg, Int.reduceLE, Int.reduceLT, Int.reduceToNat, Int.reduceEq, Int.cast_ofNat_Int, List.mem_cons, List.not_mem_nil, List.length_cons, List.length_nil, List.set_cons_zero, List.set_cons_succ, List.toList_toArray, eq_self, true_and, and_true, and_self, or_true, true_or, false_or, or_false, or_self, not_true_eq_false, not_false_eq_true, Classical.not_not, true_implies, false_implies, implies_true, forall_const, and_false, false_and, Nat.le_refl, Nat.zero_le, Bool.false_eq_true, lv_args, s_rl_at, s_gf, s_pf, dn_q, kd_q, cl_q, nf_q, ln_q, tg_q, rr_q, cr_q, u_1, e_lsw, k_ti, List.drop_succ_cons, List.drop_zero, List.drop_nil, List.zip_cons_cons, List.zip_nil_right, List.zip_nil_left, List.all_cons, List.all_nil, Bool.and_true, Bool.and_self, decide_true, decide_false, Option.toList, List.cons_append, List.nil_append, List.append_nil, DX8_bytesAt_0, FLX8, LDX8, x_le (a := n) (b := i) (by omega) (by omega), hT, nI_add, x_cl (a := a + i) (by omega), x_in (a := a + i) (n := 3532) (by omega), nI_1]
    exact ⟨fun h => by omega, fun _ => ⟨by omega, ih (i + 1) (by omega)⟩⟩
end
set_option maxHeartbeats 4000000 in
set_option maxRecDepth 100000 in
theorem m_X8_bytesAt (l : Launch) (A : pA) (T : pS) {a n : Nat} (ha : a + n ≤ 3532) (hT : T.1 30 0 32 = nI a) : e_MX8_bytesAt l [.ref (ad A 30 0), .int (nI n)] (gS A T) (s_P A (fun v S2 => S2 = uI T 30 0 32 (nI (a + n)) ∧ v = some (.long (nat_ (T.1 52 0) a n)))) := by
  refine ofX8_bytesAt (Nat.le_of_ble_eq_true rfl) ?_
  intro V C Rt
  refine srnX8_bytesAt C Rt [5] 5 ?_
  simp only [k_i, s_go, s_1, e_op, e_pi, e_pl, e_pr, e_p0, e_li, e_ll, e_lr, e_lk, e_ins, e_rm, e_to, e_sw, e_cmp, k_c, k_n, k_f, k_v, k_lg, ↓reduceIte, reduceCtorEq, Nat.reduceAdd, Nat.reduceSub, Nat.reduceMul, Nat.reduceEqDiff, Nat.reduceLT, Nat.reduceLeDiff, Int.reduceAdd, Int.reduceSub, Int.reduceNeg, Int.reduceLE, Int.reduceLT, Int.reduceToNat, Int.reduceEq, Int.cast_ofNat_Int, List.mem_cons, List.not_mem_nil, List.length_cons, List.length_nil, List.set_cons_zero, List.set_cons_succ, List.toList_toArray, eq_self, true_and, and_true, and_self, or_true, true_or, false_or, or_false, or_self, not_true_eq_false, not_false_eq_true, Classical.not_not, true_implies, false_implies, implies_true, forall_const, and_false, false_and, Nat.le_refl, Nat.zero_le, Bool.false_eq_true, lv_args, s_rl_at, s_gf, s_pf, dn_q, kd_q, cl_q, nf_q, ln_q, tg_q, rr_q, cr_q, u_1, e_lsw, k_ti, List.drop_succ_cons, List.drop_zero, List.drop_nil, List.zip_cons_cons, List.zip_nil_right, List.zip_nil_left, List.all_cons, List.all_nil, Bool.and_true, Bool.and_self, decide_true, decide_false, Option.toList, List.cons_append, List.nil_append, List.append_nil, DX8_bytesAt_0, FLX8, LDX8]
  exact lp_bytesAt C Rt ha hT ⟨rfl, rfl⟩ n 0 (by omega)
section
variable {V : pV} {l : Launch} {A : pA} {post : Option Value → pS → Prop} {T : pS}
set_option maxHeartbeats 4000000 in
set_option maxRecDepth 100000 in
theorem lp_fwT (C : e_CX8_firstWrong V l) (Rt : e_RX8_firstWrong V (s_P A post)) {d : Nat → Int32} {n r f t p : Nat} {a g : Int32} {σ : Int64} (hd : T.1 52 0 = d) (hB : bB d) (hp : p = f + 10 + 9 * t) (hp3 : p < 3500) (hx : okT d (f + 10) 0 t → V 0 0 184 [(0, .ref (ad A 30 0)), (1, .int (nI n)), (2, .int (nI r)), (3, .int (nI f)), (4, .int (nI p))] [] (gS A (oS T a g σ))) (hb : ¬ okT d (f + 10) 0 t → post (some (.int (nI r))) (oS T a g σ)) : ∀ k j seen, j + k = t → seO seen (fun y => d (f + 10 + 9 * y)) j → okT d (f + 10) 0 j → V 0 0 127 [(0, .ref (ad A 30 0)), (1, .int (nI n)), (2, .int (nI r)), (3, .int (nI f)), (4, .int (nI p)), (5, .int seen), (6, .int (nI (f + 10 + 9 * j)))] [] (gS A (oS T a g σ)) := by
  intro k
  induction k with
  | zero =>
    intro j seen hj hs ho
    have hj2 : j = t := by omega
    subst hj2
    have hpq : p ≤ f + 10 + 9 * j := by omega
    refine srnX8_firstWrong C Rt [127, 184] 40 ?_
    simp only [k_i, s_go, s_1, e_op, e_pi, e_pl, e_pr, e_p0, e_li, e_ll, e_lr, e_lk, e_ins, e_rm, e_to, e_sw, e_cmp, k_c, k_n, k_f, k_v, k_lg, ↓reduceIte, reduceCtorEq, Nat.reduceAdd, Nat.reduceSub, Nat.reduceMul, Nat.reduceEqDiff, Nat.reduceLT, Nat.reduceLeDiff, Int.reduceAdd, Int.reduceSub, Int.reduceNeg, Int.reduceLE, Int.reduceLT, Int.reduceToNat, Int.reduceEq, Int.cast_ofNat_Int, List.mem_cons, List.not_mem_nil, List.length_cons, List.length_nil, List.set_cons_zero, List.set_cons_succ, List.toList_toArray, eq_self, true_and, and_true, and_self, or_true, true_or, false_or, or_false, or_self, not_true_eq_false, not_false_eq_true, Classical.not_not, true_implies, false_implies, implies_true, forall_const, and_false, false_and, Nat.le_refl, Nat.zero_le, Bool.false_eq_true, lv_args, s_rl_at, s_gf, s_pf, dn_q, kd_q, cl_q, nf_q, ln_q, tg_q, rr_q, cr_q, u_1, e_lsw, k_ti, List.drop_succ_cons, List.drop_zero, List.drop_nil, List.zip_cons_cons, List.zip_nil_right, List.zip_nil_left, List.all_cons, List.all_nil, Bool.and_true, Bool.and_self, decide_true, decide_false, Option.toList, List.cons_append, List.nil_append, List.append_nil, DX8_firstWrong_0, DX8_firstWrong_1, DX8_firstWrong_2, DX8_firstWrong_3, DX8_firstWrong_4, FLX8, LDX8, x_le (a := p) (b := f + 10 + 9 * j) (by omega) (by omega), hpq]
    exact w_pre C (hx ho)
  | succ k ih =>
    intro j seen hj hs ho
    have hpq : ¬ p ≤ f + 10 + 9 * j := by omega
    have hv := bB_n hB (show f + 10 + 9 * j < 3532 by omega)
    refine srnX8_firstWrong C Rt [127, 184] 40 ?_
    simp only [k_i, s_go, s_1, e_op, e_pi, e_pl, e_pr, e_p0, e_li, e_ll, e_lr, e_lk, e_ins, e_rm, e_to, e_sw, e_cmp, k_c, k_n, k_f, k_v, k_lg, ↓reduceIte, reduceCtorEq, Nat.reduceAdd, Nat.reduceSub, Nat.reduceMul, Nat.reduceEqDiff, Nat.reduceLT, Nat.reduceLeDiff, Int.reduceAdd, Int.reduceSub, Int.reduceNeg, Int.reduceLE, Int.reduceLT, Int.reduceToNat, Int.reduceEq, Int.cast_ofNat_Int, List.mem_cons, List.not_mem_nil, List.length_cons, List.length_nil, List.set_cons_zero, List.set_cons_succ, List.toList_toArray, eq_self, true_and, and_true, and_self, or_true, true_or, false_or, or_false, or_self, not_true_eq_false, not_false_eq_true, Classical.not_not, true_implies, false_implies, implies_true, forall_const, and_false, false_and, Nat.le_refl, Nat.zero_le, Bool.false_eq_true, lv_args, s_rl_at, s_gf, s_pf, dn_q, kd_q, cl_q, nf_q, ln_q, tg_q, rr_q, cr_q, u_1, e_lsw, k_ti, List.drop_succ_cons, List.drop_zero, List.drop_nil, List.zip_cons_cons, List.zip_nil_right, List.zip_nil_left, List.all_cons, List.all_nil, Bool.and_true, Bool.and_self, decide_true, decide_false, Option.toList, List.cons_append, List.nil_append, List.append_nil, DX8_firstWrong_0, DX8_firstWrong_1, DX8_firstWrong_2, DX8_firstWrong_3, DX8_firstWrong_4, FLX8, LDX8, x_le (a := p) (b := f + 10 + 9 * j) (by omega) (by omega), hpq, oS_1, oS_3, hd, x_cl (a := f + 10 + 9 * j) (by omega), x_in (a := f + 10 + 9 * j) (n := 3532) (by omega)]
    done
end
