/-! FactLog$Things, FactLog$Fact -/
set_option maxHeartbeats 4000000 in
set_option maxRecDepth 100000 in
theorem m_X5_hasNumber (l : Launch) (A : pA) (S : pS) (x : Int32) : e_MX5_hasNumber l [.ref (ad A 1 0), .int x] (gS A S) (s_P A (fun v S2 => S = S2 ∧ v = some (.int (b2i (inr x 16))))) := by
  refine ofX5_hasNumber (Nat.le_of_ble_eq_true rfl) ?_
  intro V C Rt
  refine srnX5_hasNumber C Rt [] 20 ?_
  simp only [k_i, s_go, s_1, e_op, e_pi, e_pl, e_pr, e_p0, e_li, e_ll, e_lr, e_lk, e_ins, e_rm, e_to, e_sw, e_cmp, k_c, k_n, k_f, k_v, k_lg, ↓reduceIte, reduceCtorEq, Nat.reduceAdd, Nat.reduceSub, Nat.reduceMul, Nat.reduceEqDiff, Nat.reduceLT, Nat.reduceLeDiff, Int.reduceAdd, Int.reduceSub, Int.reduceNeg, Int.reduceLE, Int.reduceLT, Int.reduceToNat, Int.reduceEq, Int.cast_ofNat_Int, List.mem_cons, List.not_mem_nil, List.length_cons, List.length_nil, List.set_cons_zero, List.set_cons_succ, List.toList_toArray, eq_self, true_and, and_true, and_self, or_true, true_or, false_or, or_false, or_self, not_true_eq_false, not_false_eq_true, Classical.not_not, true_implies, false_implies, implies_true, forall_const, and_false, false_and, Nat.le_refl, Nat.zero_le, Bool.false_eq_true, lv_args, s_rl_at, s_gf, s_pf, dn_q, kd_q, cl_q, nf_q, ln_q, tg_q, rr_q, cr_q, u_1, e_lsw, k_ti, List.drop_succ_cons, List.drop_zero, List.drop_nil, List.zip_cons_cons, List.zip_nil_right, List.zip_nil_left, List.all_cons, List.all_nil, Bool.and_true, Bool.and_self, decide_true, decide_false, Option.toList, List.cons_append, List.nil_append, List.append_nil, DX5_hasNumber_0, FLX5, LDX5]
  refine ⟨fun h => ?_, fun h => ⟨fun h2 => ?_, fun h2 => ?_⟩⟩
  · rw [inr_lo h]
    rfl
  · rw [inr_hi (by decide) h2]
    rfl
  · rw [inr_in (by decide) h h2]
    rfl
set_option maxHeartbeats 4000000 in
set_option maxRecDepth 100000 in
theorem m_X2_standsWith (l : Launch) (A : pA) (S : pS) {i : Nat} (hi : i < 62) (sm : Bool) (since : Int32) : e_MX2_standsWith l [.ref (ad A 6 i), .int (b2i sm), .int since] (gS A S) (s_P A (fun v S2 => S = S2 ∧ v = some (.int (b2i (stands (S.1 6 i 0) sm since))))) := by
  refine ofX2_standsWith (Nat.le_of_ble_eq_true rfl) ?_
  intro V C Rt
  refine srnX2_standsWith C Rt [] 40 ?_
  simp only [k_i, s_go, s_1, e_op, e_pi, e_pl, e_pr, e_p0, e_li, e_ll, e_lr, e_lk, e_ins, e_rm, e_to, e_sw, e_cmp, k_c, k_n, k_f, k_v, k_lg, ↓reduceIte, reduceCtorEq, Nat.reduceAdd, Nat.reduceSub, Nat.reduceMul, Nat.reduceEqDiff, Nat.reduceLT, Nat.reduceLeDiff, Int.reduceAdd, Int.reduceSub, Int.reduceNeg, Int.reduceLE, Int.reduceLT, Int.reduceToNat, Int.reduceEq, Int.cast_ofNat_Int, List.mem_cons, List.not_mem_nil, List.length_cons, List.length_nil, List.set_cons_zero, List.set_cons_succ, List.toList_toArray, eq_self, true_and, and_true, and_self, or_true, true_or, false_or, or_false, or_self, not_true_eq_false, not_false_eq_true, Classical.not_not, true_implies, false_implies, implies_true, forall_const, and_false, false_and, Nat.le_refl, Nat.zero_le, Bool.false_eq_true, lv_args, s_rl_at, s_gf, s_pf, dn_q, kd_q, cl_q, nf_q, ln_q, tg_q, rr_q, cr_q, u_1, e_lsw, k_ti, List.drop_succ_cons, List.drop_zero, List.drop_nil, List.zip_cons_cons, List.zip_nil_right, List.zip_nil_left, List.all_cons, List.all_nil, Bool.and_true, Bool.and_self, decide_true, decide_false, Option.toList, List.cons_append, List.nil_append, List.append_nil, DX2_standsWith_0, FLX2, LDX2, hi]
  have e1 : ((0 : Int32) ≤ since) ↔ ¬ since < 0 := Int32.not_lt.symm
  have e2 : (since ≤ (2 : Int32)) ↔ ¬ 2 < since := Int32.not_lt.symm
  by_cases h1 : S.1 6 i 0 = 2
  · by_cases h3 : since < 0 <;> by_cases h4 : 2 < since <;> cases sm <;> simp [stands, h1, h3, h4, e1, e2, b2i]
  · by_cases h2 : S.1 6 i 0 = 3 <;> by_cases h5 : since = 0 <;> cases sm <;> simp [stands, h1, h2, h5, b2i, narrow]
section
variable {V : pV} {l : Launch} {A : pA} {post : Option Value → pS → Prop} {S : pS}
set_option maxHeartbeats 4000000 in
set_option maxRecDepth 100000 in
theorem lp_isFresh (C : e_CX2_isFresh V l) (Rt : e_RX2_isFresh V (s_P A post)) {i t : Nat} (hi : i < 62) (ht : t ≤ 4) (w1 : S.1 6 i 4 = nI t) (w5 : ∀ k, k < t → S.1 7 i k = nI (thC S i k) ∧ thC S i k < 16) (hp : post (some (.int (b2i (frsC S i t)))) S) : ∀ k j, j + k = t → frsC S i j = true → V 0 0 2 [(0, .ref (ad A 6 i)), (1, .ref (ad A 1 0)), (2, .int (nI j))] [] (gS A S) := by
  intro k
  induction k with
  | zero =>
    intro j hj ha
    have hj2 : j = t := by omega
    subst hj2
    refine srnX2_isFresh C Rt [2] 60 ?_
    simp only [k_i, s_go, s_1, e_op, e_pi, e_pl, e_pr, e_p0, e_li, e_ll, e_lr, e_lk, e_ins, e_rm, e_to, e_sw, e_cmp, k_c, k_n, k_f, k_v, k_lg, ↓reduceIte, reduceCtorEq, Nat.reduceAdd, Nat.reduceSub, Nat.reduceMul, Nat.reduceEqDiff, Nat.reduceLT, Nat.reduceLeDiff, Int.reduceAdd, Int.reduceSub, Int.reduceNeg, Int.reduceLE, Int.reduceLT, Int.reduceToNat, Int.reduceEq, Int.cast_ofNat_Int, List.mem_cons, List.not_mem_nil, List.length_cons, List.length_nil, List.set_cons_zero, List.set_cons_succ, List.toList_toArray, eq_self, true_and, and_true, and_self, or_true, true_or, false_or, or_false, or_self, not_true_eq_false, not_false_eq_true, Classical.not_not, true_implies, false_implies, implies_true, forall_const, and_false, false_and, Nat.le_refl, Nat.zero_le, Bool.false_eq_true, lv_args, s_rl_at, s_gf, s_pf, dn_q, kd_q, cl_q, nf_q, ln_q, tg_q, rr_q, cr_q, u_1, e_lsw, k_ti, List.drop_succ_cons, List.drop_zero, List.drop_nil, List.zip_cons_cons, List.zip_nil_right, List.zip_nil_left, List.all_cons, List.all_nil, Bool.and_true, Bool.and_self, decide_true, decide_false, Option.toList, List.cons_append, List.nil_append, List.append_nil, DX2_isFresh_0, DX2_isFresh_1, FLX2, LDX2, hi, w1, x_le (a := j) (b := j) (by omega) (by omega)]
    rw [ha] at hp
    exact hp
  | succ k ih =>
    intro j hj ha
    obtain ⟨u, hu⟩ : ∃ u, thC S i j = u := ⟨_, rfl⟩
    have h5 := w5 j (by omega)
    rw [hu] at h5
    obtain ⟨h5, h6⟩ := h5
    refine srnX2_isFresh C Rt [2] 60 ?_
    simp only [k_i, s_go, s_1, e_op, e_pi, e_pl, e_pr, e_p0, e_li, e_ll, e_lr, e_lk, e_ins, e_rm, e_to, e_sw, e_cmp, k_c, k_n, k_f, k_v, k_lg, ↓reduceIte, reduceCtorEq, Nat.reduceAdd, Nat.reduceSub, Nat.reduceMul, Nat.reduceEqDiff, Nat.reduceLT, Nat.reduceLeDiff, Int.reduceAdd, Int.reduceSub, Int.reduceNeg, Int.reduceLE, Int.reduceLT, Int.reduceToNat, Int.reduceEq, Int.cast_ofNat_Int, List.mem_cons, List.not_mem_nil, List.length_cons, List.length_nil, List.set_cons_zero, List.set_cons_succ, List.toList_toArray, eq_self, true_and, and_true, and_self, or_true, true_or, false_or, or_false, or_self, not_true_eq_false, not_false_eq_true, Classical.not_not, true_implies, false_implies, implies_true, forall_const, and_false, false_and, Nat.le_refl, Nat.zero_le, Bool.false_eq_true, lv_args, s_rl_at, s_gf, s_pf, dn_q, kd_q, cl_q, nf_q, ln_q, tg_q, rr_q, cr_q, u_1, e_lsw, k_ti, List.drop_succ_cons, List.drop_zero, List.drop_nil, List.zip_cons_cons, List.zip_nil_right, List.zip_nil_left, List.all_cons, List.all_nil, Bool.and_true, Bool.and_self, decide_true, decide_false, Option.toList, List.cons_append, List.nil_append, List.append_nil, DX2_isFresh_0, DX2_isFresh_1, FLX2, LDX2, hi, w1, h5, x_le (a := t) (b := j) (by omega) (by omega), x_cl (a := j) (by omega), x_in (a := j) (n := 4) (by omega), x_cl (a := u) (by omega), x_in (a := u) (n := 16) (by omega)]
    have key : ∀ sm : Bool, decide (S.1 2 0 u = S.1 8 i j) = sm → V 0 0 59 [(0, .ref (ad A 6 i)), (1, .ref (ad A 1 0)), (2, .int (nI j)), (3, .int (nI u)), (4, .int (b2i sm)), (5, .int (S.1 3 0 u - S.1 9 i j))] [.int (S.1 3 0 u - S.1 9 i j), .int (b2i sm), .ref (ad A 6 i)] (gS A S) := by
      intro sm hsm
      refine sX2_isFresh_59 C (m_X2_standsWith l A S hi sm (S.1 3 0 u - S.1 9 i j)) (s_obj hi rfl) (hcat := Nat.le_of_ble_eq_true rfl) (k := ?_)
      rintro v G2 ⟨S2, rfl, rfl, rfl⟩
      refine srnX2_isFresh C Rt [2] 60 ?_
      simp only [k_i, s_go, s_1, e_op, e_pi, e_pl, e_pr, e_p0, e_li, e_ll, e_lr, e_lk, e_ins, e_rm, e_to, e_sw, e_cmp, k_c, k_n, k_f, k_v, k_lg, ↓reduceIte, reduceCtorEq, Nat.reduceAdd, Nat.reduceSub, Nat.reduceMul, Nat.reduceEqDiff, Nat.reduceLT, Nat.reduceLeDiff, Int.reduceAdd, Int.reduceSub, Int.reduceNeg, Int.reduceLE, Int.reduceLT, Int.reduceToNat, Int.reduceEq, Int.cast_ofNat_Int, List.mem_cons, List.not_mem_nil, List.length_cons, List.length_nil, List.set_cons_zero, List.set_cons_succ, List.toList_toArray, eq_self, true_and, and_true, and_self, or_true, true_or, false_or, or_false, or_self, not_true_eq_false, not_false_eq_true, Classical.not_not, true_implies, false_implies, implies_true, forall_const, and_false, false_and, Nat.le_refl, Nat.zero_le, Bool.false_eq_true, lv_args, s_rl_at, s_gf, s_pf, dn_q, kd_q, cl_q, nf_q, ln_q, tg_q, rr_q, cr_q, u_1, e_lsw, k_ti, List.drop_succ_cons, List.drop_zero, List.drop_nil, List.zip_cons_cons, List.zip_nil_right, List.zip_nil_left, List.all_cons, List.all_nil, Bool.and_true, Bool.and_self, decide_true, decide_false, Option.toList, List.cons_append, List.nil_append, List.append_nil, DX2_isFresh_0, DX2_isFresh_1, FLX2, LDX2, nI_1, b2i_0]
      have hfr : frsC S i (j + 1) = stands (S.1 6 i 0) sm (S.1 3 0 u - S.1 9 i j) := by
        show (frsC S i j && stands (S.1 6 i 0) (decide (S.1 2 0 (thC S i j) = S.1 8 i j)) (S.1 3 0 (thC S i j) - S.1 9 i j)) = _
        rw [ha, hu, hsm, Bool.true_and]
      refine ⟨fun h7 => ?_, fun h7 => ?_⟩
      · exact r_sub C (by simp) (ih (j + 1) (by omega) (by rw [hfr]; simpa using h7))
      · have h8 : frsC S i t = false := frs_mono (by rw [← hfr] at h7; exact h7) (by omega)
        rw [h8] at hp
        exact hp
    refine ⟨fun h => by omega, fun _ => ⟨by omega, by omega, by omega, fun h => ⟨by omega, by omega, ?_⟩, fun h => ⟨by omega, by omega, ?_⟩⟩⟩
    · exact key false (by simp [h])
    · exact key true (by simp [h])
end
set_option maxHeartbeats 4000000 in
set_option maxRecDepth 100000 in
theorem m_X2_isFresh (l : Launch) (A : pA) (S : pS) {i t : Nat} (hi : i < 62) (ht : t ≤ 4) (w1 : S.1 6 i 4 = nI t) (w5 : ∀ k, k < t → S.1 7 i k = nI (thC S i k) ∧ thC S i k < 16) : e_MX2_isFresh l [.ref (ad A 6 i), .ref (ad A 1 0)] (gS A S) (s_P A (fun v S2 => S = S2 ∧ v = some (.int (b2i (frsC S i t))))) := by
  refine ofX2_isFresh (Nat.le_of_ble_eq_true rfl) ?_
  intro V C Rt
  refine srnX2_isFresh C Rt [2] 3 ?_
  simp only [k_i, s_go, s_1, e_op, e_pi, e_pl, e_pr, e_p0, e_li, e_ll, e_lr, e_lk, e_ins, e_rm, e_to, e_sw, e_cmp, k_c, k_n, k_f, k_v, k_lg, ↓reduceIte, reduceCtorEq, Nat.reduceAdd, Nat.reduceSub, Nat.reduceMul, Nat.reduceEqDiff, Nat.reduceLT, Nat.reduceLeDiff, Int.reduceAdd, Int.reduceSub, Int.reduceNeg, Int.reduceLE, Int.reduceLT, Int.reduceToNat, Int.reduceEq, Int.cast_ofNat_Int, List.mem_cons, List.not_mem_nil, List.length_cons, List.length_nil, List.set_cons_zero, List.set_cons_succ, List.toList_toArray, eq_self, true_and, and_true, and_self, or_true, true_or, false_or, or_false, or_self, not_true_eq_false, not_false_eq_true, Classical.not_not, true_implies, false_implies, implies_true, forall_const, and_false, false_and, Nat.le_refl, Nat.zero_le, Bool.false_eq_true, lv_args, s_rl_at, s_gf, s_pf, dn_q, kd_q, cl_q, nf_q, ln_q, tg_q, rr_q, cr_q, u_1, e_lsw, k_ti, List.drop_succ_cons, List.drop_zero, List.drop_nil, List.zip_cons_cons, List.zip_nil_right, List.zip_nil_left, List.all_cons, List.all_nil, Bool.and_true, Bool.and_self, decide_true, decide_false, Option.toList, List.cons_append, List.nil_append, List.append_nil, DX2_isFresh_0, DX2_isFresh_1, FLX2, LDX2]
  exact lp_isFresh C Rt hi ht w1 w5 ⟨rfl, rfl⟩ t 0 (by omega) rfl
def clrF (S : pS) (i : Nat) : pS := uI (uI (uI (uI (uJ (uI S 6 i 0 0) 6 i 1 0) 6 i 2 0) 6 i 3 0) 6 i 4 0) 6 i 8 0
set_option maxHeartbeats 4000000 in
set_option maxRecDepth 100000 in
theorem m_X2_clear (l : Launch) (A : pA) (S : pS) {i : Nat} (hi : i < 62) : e_MX2_clear l [.ref (ad A 6 i)] (gS A S) (s_P A (fun v S2 => S2 = clrF S i ∧ v = none)) := by
  refine ofX2_clear (Nat.le_of_ble_eq_true rfl) ?_
  intro V C Rt
  refine srnX2_clear C Rt [] 30 ?_
  simp only [k_i, s_go, s_1, e_op, e_pi, e_pl, e_pr, e_p0, e_li, e_ll, e_lr, e_lk, e_ins, e_rm, e_to, e_sw, e_cmp, k_c, k_n, k_f, k_v, k_lg, ↓reduceIte, reduceCtorEq, Nat.reduceAdd, Nat.reduceSub, Nat.reduceMul, Nat.reduceEqDiff, Nat.reduceLT, Nat.reduceLeDiff, Int.reduceAdd, Int.reduceSub, Int.reduceNeg, Int.reduceLE, Int.reduceLT, Int.reduceToNat, Int.reduceEq, Int.cast_ofNat_Int, List.mem_cons, List.not_mem_nil, List.length_cons, List.length_nil, List.set_cons_zero, List.set_cons_succ, List.toList_toArray, eq_self, true_and, and_true, and_self, or_true, true_or, false_or, or_false, or_self, not_true_eq_false, not_false_eq_true, Classical.not_not, true_implies, false_implies, implies_true, forall_const, and_false, false_and, Nat.le_refl, Nat.zero_le, Bool.false_eq_true, lv_args, s_rl_at, s_gf, s_pf, dn_q, kd_q, cl_q, nf_q, ln_q, tg_q, rr_q, cr_q, u_1, e_lsw, k_ti, List.drop_succ_cons, List.drop_zero, List.drop_nil, List.zip_cons_cons, List.zip_nil_right, List.zip_nil_left, List.all_cons, List.all_nil, Bool.and_true, Bool.and_self, decide_true, decide_false, Option.toList, List.cons_append, List.nil_append, List.append_nil, DX2_clear_0, FLX2, LDX2, hi]
  rfl
set_option maxHeartbeats 4000000 in
set_option maxRecDepth 100000 in
theorem m_X2_restsOn (l : Launch) (A : pA) (S : pS) {i t : Nat} (hi : i < 62) (ht : t ≤ 4) (w1 : S.1 6 i 4 = nI t) (x : Int32) : e_MX2_restsOn l [.ref (ad A 6 i), .int x] (gS A S) (s_P A (fun v S2 => S = S2 ∧ v = some (.int (b2i (am (S.1 7 i) x t))))) := by
  refine ofX2_restsOn (Nat.le_of_ble_eq_true rfl) ?_
  intro V C Rt
  refine srnX2_restsOn C Rt [] 30 ?_
  simp only [k_i, s_go, s_1, e_op, e_pi, e_pl, e_pr, e_p0, e_li, e_ll, e_lr, e_lk, e_ins, e_rm, e_to, e_sw, e_cmp, k_c, k_n, k_f, k_v, k_lg, ↓reduceIte, reduceCtorEq, Nat.reduceAdd, Nat.reduceSub, Nat.reduceMul, Nat.reduceEqDiff, Nat.reduceLT, Nat.reduceLeDiff, Int.reduceAdd, Int.reduceSub, Int.reduceNeg, Int.reduceLE, Int.reduceLT, Int.reduceToNat, Int.reduceEq, Int.cast_ofNat_Int, List.mem_cons, List.not_mem_nil, List.length_cons, List.length_nil, List.set_cons_zero, List.set_cons_succ, List.toList_toArray, eq_self, true_and, and_true, and_self, or_true, true_or, false_or, or_false, or_self, not_true_eq_false, not_false_eq_true, Classical.not_not, true_implies, false_implies, implies_true, forall_const, and_false, false_and, Nat.le_refl, Nat.zero_le, Bool.false_eq_true, lv_args, s_rl_at, s_gf, s_pf, dn_q, kd_q, cl_q, nf_q, ln_q, tg_q, rr_q, cr_q, u_1, e_lsw, k_ti, List.drop_succ_cons, List.drop_zero, List.drop_nil, List.zip_cons_cons, List.zip_nil_right, List.zip_nil_left, List.all_cons, List.all_nil, Bool.and_true, Bool.and_self, decide_true, decide_false, Option.toList, List.cons_append, List.nil_append, List.append_nil, DX2_restsOn_0, FLX2, LDX2, hi, w1]
  refine sX2_restsOn_9 C (m_isAmong l _ x (s_a2 (A := A) (S := S) (k := 7) hi rfl) ht (by decide)) (hcat := Nat.le_of_ble_eq_true rfl) (k := ?_)
  rintro v G2 ⟨rfl, rfl⟩
  refine srnX2_restsOn C Rt [] 30 ?_
  simp only [k_i, s_go, s_1, e_op, e_pi, e_pl, e_pr, e_p0, e_li, e_ll, e_lr, e_lk, e_ins, e_rm, e_to, e_sw, e_cmp, k_c, k_n, k_f, k_v, k_lg, ↓reduceIte, reduceCtorEq, Nat.reduceAdd, Nat.reduceSub, Nat.reduceMul, Nat.reduceEqDiff, Nat.reduceLT, Nat.reduceLeDiff, Int.reduceAdd, Int.reduceSub, Int.reduceNeg, Int.reduceLE, Int.reduceLT, Int.reduceToNat, Int.reduceEq, Int.cast_ofNat_Int, List.mem_cons, List.not_mem_nil, List.length_cons, List.length_nil, List.set_cons_zero, List.set_cons_succ, List.toList_toArray, eq_self, true_and, and_true, and_self, or_true, true_or, false_or, or_false, or_self, not_true_eq_false, not_false_eq_true, Classical.not_not, true_implies, false_implies, implies_true, forall_const, and_false, false_and, Nat.le_refl, Nat.zero_le, Bool.false_eq_true, lv_args, s_rl_at, s_gf, s_pf, dn_q, kd_q, cl_q, nf_q, ln_q, tg_q, rr_q, cr_q, u_1, e_lsw, k_ti, List.drop_succ_cons, List.drop_zero, List.drop_nil, List.zip_cons_cons, List.zip_nil_right, List.zip_nil_left, List.all_cons, List.all_nil, Bool.and_true, Bool.and_self, decide_true, decide_false, Option.toList, List.cons_append, List.nil_append, List.append_nil, DX2_restsOn_0, FLX2, LDX2, b2i_n]
set_option maxHeartbeats 4000000 in
set_option maxRecDepth 100000 in
theorem m_X2_leansOn (l : Launch) (A : pA) (S : pS) {i t : Nat} (hi : i < 62) (ht : t ≤ 3) (w1 : S.1 6 i 8 = nI t) (x : Int32) : e_MX2_leansOn l [.ref (ad A 6 i), .int x] (gS A S) (s_P A (fun v S2 => S = S2 ∧ v = some (.int (b2i (am (S.1 10 i) x t))))) := by
  refine ofX2_leansOn (Nat.le_of_ble_eq_true rfl) ?_
  intro V C Rt
  refine srnX2_leansOn C Rt [] 30 ?_
  simp only [k_i, s_go, s_1, e_op, e_pi, e_pl, e_pr, e_p0, e_li, e_ll, e_lr, e_lk, e_ins, e_rm, e_to, e_sw, e_cmp, k_c, k_n, k_f, k_v, k_lg, ↓reduceIte, reduceCtorEq, Nat.reduceAdd, Nat.reduceSub, Nat.reduceMul, Nat.reduceEqDiff, Nat.reduceLT, Nat.reduceLeDiff, Int.reduceAdd, Int.reduceSub, Int.reduceNeg, Int.reduceLE, Int.reduceLT, Int.reduceToNat, Int.reduceEq, Int.cast_ofNat_Int, List.mem_cons, List.not_mem_nil, List.length_cons, List.length_nil, List.set_cons_zero, List.set_cons_succ, List.toList_toArray, eq_self, true_and, and_true, and_self, or_true, true_or, false_or, or_false, or_self, not_true_eq_false, not_false_eq_true, Classical.not_not, true_implies, false_implies, implies_true, forall_const, and_false, false_and, Nat.le_refl, Nat.zero_le, Bool.false_eq_true, lv_args, s_rl_at, s_gf, s_pf, dn_q, kd_q, cl_q, nf_q, ln_q, tg_q, rr_q, cr_q, u_1, e_lsw, k_ti, List.drop_succ_cons, List.drop_zero, List.drop_nil, List.zip_cons_cons, List.zip_nil_right, List.zip_nil_left, List.all_cons, List.all_nil, Bool.and_true, Bool.and_self, decide_true, decide_false, Option.toList, List.cons_append, List.nil_append, List.append_nil, DX2_leansOn_0, FLX2, LDX2, hi, w1]
  refine sX2_leansOn_9 C (m_isAmong l _ x (s_a2 (A := A) (S := S) (k := 10) hi rfl) ht (by decide)) (hcat := Nat.le_of_ble_eq_true rfl) (k := ?_)
  rintro v G2 ⟨rfl, rfl⟩
  refine srnX2_leansOn C Rt [] 30 ?_
  simp only [k_i, s_go, s_1, e_op, e_pi, e_pl, e_pr, e_p0, e_li, e_ll, e_lr, e_lk, e_ins, e_rm, e_to, e_sw, e_cmp, k_c, k_n, k_f, k_v, k_lg, ↓reduceIte, reduceCtorEq, Nat.reduceAdd, Nat.reduceSub, Nat.reduceMul, Nat.reduceEqDiff, Nat.reduceLT, Nat.reduceLeDiff, Int.reduceAdd, Int.reduceSub, Int.reduceNeg, Int.reduceLE, Int.reduceLT, Int.reduceToNat, Int.reduceEq, Int.cast_ofNat_Int, List.mem_cons, List.not_mem_nil, List.length_cons, List.length_nil, List.set_cons_zero, List.set_cons_succ, List.toList_toArray, eq_self, true_and, and_true, and_self, or_true, true_or, false_or, or_false, or_self, not_true_eq_false, not_false_eq_true, Classical.not_not, true_implies, false_implies, implies_true, forall_const, and_false, false_and, Nat.le_refl, Nat.zero_le, Bool.false_eq_true, lv_args, s_rl_at, s_gf, s_pf, dn_q, kd_q, cl_q, nf_q, ln_q, tg_q, rr_q, cr_q, u_1, e_lsw, k_ti, List.drop_succ_cons, List.drop_zero, List.drop_nil, List.zip_cons_cons, List.zip_nil_right, List.zip_nil_left, List.all_cons, List.all_nil, Bool.and_true, Bool.and_self, decide_true, decide_false, Option.toList, List.cons_append, List.nil_append, List.append_nil, DX2_leansOn_0, FLX2, LDX2, b2i_n]
def adT (S : pS) (i t : Nat) (x d c : Int32) : pS := uI (uI (uI (uI S 7 i t x) 8 i t d) 9 i t c) 6 i 4 (nI (t + 1))
set_option maxHeartbeats 4000000 in
set_option maxRecDepth 100000 in
theorem m_X2_addThing (l : Launch) (A : pA) (S : pS) {i t : Nat} (hi : i < 62) (ht : t < 4) (w1 : S.1 6 i 4 = nI t) (x d c : Int32) : e_MX2_addThing l [.ref (ad A 6 i), .int x, .int d, .int c] (gS A S) (s_P A (fun v S2 => S2 = adT S i t x d c ∧ v = none)) := by
  refine ofX2_addThing (Nat.le_of_ble_eq_true rfl) ?_
  intro V C Rt
  refine srnX2_addThing C Rt [] 50 ?_
  simp only [k_i, s_go, s_1, e_op, e_pi, e_pl, e_pr, e_p0, e_li, e_ll, e_lr, e_lk, e_ins, e_rm, e_to, e_sw, e_cmp, k_c, k_n, k_f, k_v, k_lg, ↓reduceIte, reduceCtorEq, Nat.reduceAdd, Nat.reduceSub, Nat.reduceMul, Nat.reduceEqDiff, Nat.reduceLT, Nat.reduceLeDiff, Int.reduceAdd, Int.reduceSub, Int.reduceNeg, Int.reduceLE, Int.reduceLT, Int.reduceToNat, Int.reduceEq, Int.cast_ofNat_Int, List.mem_cons, List.not_mem_nil, List.length_cons, List.length_nil, List.set_cons_zero, List.set_cons_succ, List.toList_toArray, eq_self, true_and, and_true, and_self, or_true, true_or, false_or, or_false, or_self, not_true_eq_false, not_false_eq_true, Classical.not_not, true_implies, false_implies, implies_true, forall_const, and_false, false_and, Nat.le_refl, Nat.zero_le, Bool.false_eq_true, lv_args, s_rl_at, s_gf, s_pf, dn_q, kd_q, cl_q, nf_q, ln_q, tg_q, rr_q, cr_q, u_1, e_lsw, k_ti, List.drop_succ_cons, List.drop_zero, List.drop_nil, List.zip_cons_cons, List.zip_nil_right, List.zip_nil_left, List.all_cons, List.all_nil, Bool.and_true, Bool.and_self, decide_true, decide_false, Option.toList, List.cons_append, List.nil_append, List.append_nil, DX2_addThing_0, FLX2, LDX2, hi, w1, x_lt (a := t) (b := 4) (by omega) (by omega), x_cl (a := t) (by omega), x_in (a := t) (n := 4) (by omega), nI_1, (show (4 : Int32) = nI 4 from rfl), ht]
  rfl
def adF (S : pS) (i t : Nat) (x : Int32) : pS := uI (uI S 10 i t x) 6 i 8 (nI (t + 1))
set_option maxHeartbeats 4000000 in
set_option maxRecDepth 100000 in
theorem m_X2_addFact (l : Launch) (A : pA) (S : pS) {i t : Nat} (hi : i < 62) (ht : t < 3) (w1 : S.1 6 i 8 = nI t) (x : Int32) : e_MX2_addFact l [.ref (ad A 6 i), .int x] (gS A S) (s_P A (fun v S2 => S2 = adF S i t x ∧ v = none)) := by
  refine ofX2_addFact (Nat.le_of_ble_eq_true rfl) ?_
  intro V C Rt
  refine srnX2_addFact C Rt [] 50 ?_
  simp only [k_i, s_go, s_1, e_op, e_pi, e_pl, e_pr, e_p0, e_li, e_ll, e_lr, e_lk, e_ins, e_rm, e_to, e_sw, e_cmp, k_c, k_n, k_f, k_v, k_lg, ↓reduceIte, reduceCtorEq, Nat.reduceAdd, Nat.reduceSub, Nat.reduceMul, Nat.reduceEqDiff, Nat.reduceLT, Nat.reduceLeDiff, Int.reduceAdd, Int.reduceSub, Int.reduceNeg, Int.reduceLE, Int.reduceLT, Int.reduceToNat, Int.reduceEq, Int.cast_ofNat_Int, List.mem_cons, List.not_mem_nil, List.length_cons, List.length_nil, List.set_cons_zero, List.set_cons_succ, List.toList_toArray, eq_self, true_and, and_true, and_self, or_true, true_or, false_or, or_false, or_self, not_true_eq_false, not_false_eq_true, Classical.not_not, true_implies, false_implies, implies_true, forall_const, and_false, false_and, Nat.le_refl, Nat.zero_le, Bool.false_eq_true, lv_args, s_rl_at, s_gf, s_pf, dn_q, kd_q, cl_q, nf_q, ln_q, tg_q, rr_q, cr_q, u_1, e_lsw, k_ti, List.drop_succ_cons, List.drop_zero, List.drop_nil, List.zip_cons_cons, List.zip_nil_right, List.zip_nil_left, List.all_cons, List.all_nil, Bool.and_true, Bool.and_self, decide_true, decide_false, Option.toList, List.cons_append, List.nil_append, List.append_nil, DX2_addFact_0, FLX2, LDX2, hi, w1, x_lt (a := t) (b := 3) (by omega) (by omega), x_cl (a := t) (by omega), x_in (a := t) (n := 3) (by omega), nI_1, (show (3 : Int32) = nI 3 from rfl), ht]
  rfl
set_option maxHeartbeats 4000000 in
set_option maxRecDepth 100000 in
theorem m_X2_rowBytes (l : Launch) (A : pA) (S : pS) {i t f : Nat} (hi : i < 62) (w1 : S.1 6 i 4 = nI t) (w3 : S.1 6 i 8 = nI f) : e_MX2_rowBytes l [.ref (ad A 6 i)] (gS A S) (s_P A (fun v S2 => S = S2 ∧ v = some (.int (nI (19 + 9 * t + f))))) := by
  refine ofX2_rowBytes (Nat.le_of_ble_eq_true rfl) ?_
  intro V C Rt
  refine srnX2_rowBytes C Rt [] 50 ?_
  simp only [k_i, s_go, s_1, e_op, e_pi, e_pl, e_pr, e_p0, e_li, e_ll, e_lr, e_lk, e_ins, e_rm, e_to, e_sw, e_cmp, k_c, k_n, k_f, k_v, k_lg, ↓reduceIte, reduceCtorEq, Nat.reduceAdd, Nat.reduceSub, Nat.reduceMul, Nat.reduceEqDiff, Nat.reduceLT, Nat.reduceLeDiff, Int.reduceAdd, Int.reduceSub, Int.reduceNeg, Int.reduceLE, Int.reduceLT, Int.reduceToNat, Int.reduceEq, Int.cast_ofNat_Int, List.mem_cons, List.not_mem_nil, List.length_cons, List.length_nil, List.set_cons_zero, List.set_cons_succ, List.toList_toArray, eq_self, true_and, and_true, and_self, or_true, true_or, false_or, or_false, or_self, not_true_eq_false, not_false_eq_true, Classical.not_not, true_implies, false_implies, implies_true, forall_const, and_false, false_and, Nat.le_refl, Nat.zero_le, Bool.false_eq_true, lv_args, s_rl_at, s_gf, s_pf, dn_q, kd_q, cl_q, nf_q, ln_q, tg_q, rr_q, cr_q, u_1, e_lsw, k_ti, List.drop_succ_cons, List.drop_zero, List.drop_nil, List.zip_cons_cons, List.zip_nil_right, List.zip_nil_left, List.all_cons, List.all_nil, Bool.and_true, Bool.and_self, decide_true, decide_false, Option.toList, List.cons_append, List.nil_append, List.append_nil, DX2_rowBytes_0, FLX2, LDX2, hi, w1, w3, (show (10 : Int32) = nI 10 from rfl), (show (9 : Int32) = nI 9 from rfl), (show (8 : Int32) = nI 8 from rfl), pk_mul, nI_add, nI_1]
  congr 3
  omega
section
variable {V : pV} {l : Launch} {A : pA} {post : Option Value → pS → Prop} {S : pS}
set_option maxHeartbeats 4000000 in
set_option maxRecDepth 100000 in
theorem lp_leanSet (C : e_CX2_leanSet V l) (Rt : e_RX2_leanSet V (s_P A post)) {i t : Nat} (hi : i < 62) (ht : t ≤ 3) (w3 : S.1 6 i 8 = nI t) (w6 : ∀ k, k < t → S.1 10 i k = nI (onC S i k)) (hp : post (some (.long (lset (onC S i) t))) S) : ∀ k j, j + k = t → V 0 0 4 [(0, .ref (ad A 6 i)), (1, .long (lset (onC S i) j)), (3, .int (nI j))] [] (gS A S) := by
  intro k
  induction k with
  | zero =>
    intro j hj
    have hj2 : j = t := by omega
    subst hj2
    refine srnX2_leanSet C Rt [4] 60 ?_
    simp only [k_i, s_go, s_1, e_op, e_pi, e_pl, e_pr, e_p0, e_li, e_ll, e_lr, e_lk, e_ins, e_rm, e_to, e_sw, e_cmp, k_c, k_n, k_f, k_v, k_lg, ↓reduceIte, reduceCtorEq, Nat.reduceAdd, Nat.reduceSub, Nat.reduceMul, Nat.reduceEqDiff, Nat.reduceLT, Nat.reduceLeDiff, Int.reduceAdd, Int.reduceSub, Int.reduceNeg, Int.reduceLE, Int.reduceLT, Int.reduceToNat, Int.reduceEq, Int.cast_ofNat_Int, List.mem_cons, List.not_mem_nil, List.length_cons, List.length_nil, List.set_cons_zero, List.set_cons_succ, List.toList_toArray, eq_self, true_and, and_true, and_self, or_true, true_or, false_or, or_false, or_self, not_true_eq_false, not_false_eq_true, Classical.not_not, true_implies, false_implies, implies_true, forall_const, and_false, false_and, Nat.le_refl, Nat.zero_le, Bool.false_eq_true, lv_args, s_rl_at, s_gf, s_pf, dn_q, kd_q, cl_q, nf_q, ln_q, tg_q, rr_q, cr_q, u_1, e_lsw, k_ti, List.drop_succ_cons, List.drop_zero, List.drop_nil, List.zip_cons_cons, List.zip_nil_right, List.zip_nil_left, List.all_cons, List.all_nil, Bool.and_true, Bool.and_self, decide_true, decide_false, Option.toList, List.cons_append, List.nil_append, List.append_nil, DX2_leanSet_0, FLX2, LDX2, hi, w3, x_le (a := j) (b := j) (by omega) (by omega)]
    exact hp
  | succ k ih =>
    intro j hj
    refine srnX2_leanSet C Rt [4] 60 ?_
    simp only [k_i, s_go, s_1, e_op, e_pi, e_pl, e_pr, e_p0, e_li, e_ll, e_lr, e_lk, e_ins, e_rm, e_to, e_sw, e_cmp, k_c, k_n, k_f, k_v, k_lg, ↓reduceIte, reduceCtorEq, Nat.reduceAdd, Nat.reduceSub, Nat.reduceMul, Nat.reduceEqDiff, Nat.reduceLT, Nat.reduceLeDiff, Int.reduceAdd, Int.reduceSub, Int.reduceNeg, Int.reduceLE, Int.reduceLT, Int.reduceToNat, Int.reduceEq, Int.cast_ofNat_Int, List.mem_cons, List.not_mem_nil, List.length_cons, List.length_nil, List.set_cons_zero, List.set_cons_succ, List.toList_toArray, eq_self, true_and, and_true, and_self, or_true, true_or, false_or, or_false, or_self, not_true_eq_false, not_false_eq_true, Classical.not_not, true_implies, false_implies, implies_true, forall_const, and_false, false_and, Nat.le_refl, Nat.zero_le, Bool.false_eq_true, lv_args, s_rl_at, s_gf, s_pf, dn_q, kd_q, cl_q, nf_q, ln_q, tg_q, rr_q, cr_q, u_1, e_lsw, k_ti, List.drop_succ_cons, List.drop_zero, List.drop_nil, List.zip_cons_cons, List.zip_nil_right, List.zip_nil_left, List.all_cons, List.all_nil, Bool.and_true, Bool.and_self, decide_true, decide_false, Option.toList, List.cons_append, List.nil_append, List.append_nil, DX2_leanSet_0, FLX2, LDX2, hi, w3, w6 j (by omega), x_le (a := t) (b := j) (by omega) (by omega), x_cl (a := j) (by omega), x_in (a := j) (n := 3) (by omega), nI_1]
    exact ⟨fun h => by omega, fun _ => ⟨by omega, ih (j + 1) (by omega)⟩⟩
end
set_option maxHeartbeats 4000000 in
set_option maxRecDepth 100000 in
theorem m_X2_leanSet (l : Launch) (A : pA) (S : pS) {i m : Nat} (hi : i < 62) (hw : wfF S i m) : e_MX2_leanSet l [.ref (ad A 6 i)] (gS A S) (s_P A (fun v S2 => S = S2 ∧ v = some (.long (lset (onC S i) (fcC S i))))) := by
  refine ofX2_leanSet (Nat.le_of_ble_eq_true rfl) ?_
  intro V C Rt
  refine srnX2_leanSet C Rt [4] 5 ?_
  simp only [k_i, s_go, s_1, e_op, e_pi, e_pl, e_pr, e_p0, e_li, e_ll, e_lr, e_lk, e_ins, e_rm, e_to, e_sw, e_cmp, k_c, k_n, k_f, k_v, k_lg, ↓reduceIte, reduceCtorEq, Nat.reduceAdd, Nat.reduceSub, Nat.reduceMul, Nat.reduceEqDiff, Nat.reduceLT, Nat.reduceLeDiff, Int.reduceAdd, Int.reduceSub, Int.reduceNeg, Int.reduceLE, Int.reduceLT, Int.reduceToNat, Int.reduceEq, Int.cast_ofNat_Int, List.mem_cons, List.not_mem_nil, List.length_cons, List.length_nil, List.set_cons_zero, List.set_cons_succ, List.toList_toArray, eq_self, true_and, and_true, and_self, or_true, true_or, false_or, or_false, or_self, not_true_eq_false, not_false_eq_true, Classical.not_not, true_implies, false_implies, implies_true, forall_const, and_false, false_and, Nat.le_refl, Nat.zero_le, Bool.false_eq_true, lv_args, s_rl_at, s_gf, s_pf, dn_q, kd_q, cl_q, nf_q, ln_q, tg_q, rr_q, cr_q, u_1, e_lsw, k_ti, List.drop_succ_cons, List.drop_zero, List.drop_nil, List.zip_cons_cons, List.zip_nil_right, List.zip_nil_left, List.all_cons, List.all_nil, Bool.and_true, Bool.and_self, decide_true, decide_false, Option.toList, List.cons_append, List.nil_append, List.append_nil, DX2_leanSet_0, FLX2, LDX2]
  exact lp_leanSet C Rt hi hw.2.2.2.1 hw.2.2.1 (fun k hk => (hw.2.2.2.2.2 k hk).1) ⟨rfl, rfl⟩ (fcC S i) 0 (by omega)
