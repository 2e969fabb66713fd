/-! THE REFERENCE. Its roles of a state T, beside the class's of a state S -/
def rT (T S : pS) : Prop := T.1 32 0 = S.1 2 0 ∧ T.1 33 0 = S.1 3 0
def rF (T S : pS) (i : Nat) : Prop := T.1 35 0 i = S.1 6 i 0 ∧ T.2.1 36 0 i = S.2.1 6 i 1 ∧ T.1 37 0 i = S.1 6 i 4 ∧ (∀ k, k < tcC S i → T.1 38 0 (4 * i + k) = S.1 7 i k ∧ T.1 39 0 (4 * i + k) = S.1 8 i k ∧ T.1 40 0 (4 * i + k) = S.1 9 i k) ∧ T.1 41 0 i = S.1 6 i 8 ∧ (∀ k, k < fcC S i → T.1 42 0 (3 * i + k) = S.1 10 i k) ∧ T.1 43 0 i = S.1 6 i 2 ∧ T.1 44 0 i = S.1 6 i 3
def rB (T S : pS) (n : Nat) : Prop := T.1 30 0 3 = nI n ∧ ∀ i, i < n → rF T S i
def rN (T S : pS) : Prop := T.1 30 0 14 = S.1 6 61 4 ∧ (∀ k, k < tcC S 61 → T.1 46 0 k = S.1 7 61 k) ∧ T.1 30 0 16 = S.1 6 61 8 ∧ (∀ k, k < fcC S 61 → T.1 48 0 k = S.1 10 61 k)
def rD (T S : pS) : Prop := T.1 30 0 18 = S.1 11 0 1
def rK (T S : pS) : Prop := T.1 52 0 = S.1 12 0 ∧ T.1 30 0 22 = S.1 11 0 2 ∧ T.1 30 0 23 = S.1 11 0 3 ∧ T.1 30 0 24 = S.1 11 0 4 ∧ T.2.1 30 0 25 = S.2.1 11 0 7 ∧ T.1 30 0 26 = S.1 11 0 5 ∧ (T.1 30 0 28 = 0 → S.1 13 0 0 = -4 ∧ S.1 13 0 1 = -4) ∧ (¬ T.1 30 0 28 = 0 → T.1 58 0 0 = S.1 13 0 0 ∧ T.1 58 0 1 = S.1 13 0 1)
def rO (T S : pS) (b c : Nat) : Prop := T.1 30 0 35 = S.1 20 b 0 ∧ T.1 30 0 36 = S.1 20 b 1 ∧ (∀ j, j < 4000 → T.1 68 0 j = S.1 21 b j) ∧ T.1 30 0 38 = S.1 20 c 0 ∧ T.1 30 0 39 = S.1 20 c 1 ∧ (∀ j, j < 4000 → T.1 71 0 j = S.1 21 c j)
abbrev t0 (T : pS) : pS := uI T 30 0 0 0
theorem lg_le {x : Int32} {a : Int64} (h : a.toInt = x.toInt) (y : Int64) : (a ≤ y) ↔ x.toInt ≤ y.toInt := by rw [Int64.le_iff_toInt_le, h]
theorem i64_toInt (x : Int32) : x.toInt64.toInt = x.toInt := Int32.toInt_toInt64 x
set_option maxHeartbeats 4000000 in
set_option maxRecDepth 100000 in
theorem m_X8_in (l : Launch) (G : pH) (v a b : Int64) : e_MX8_in l [.long v, .long a, .long b] G (fun w G2 => G2 = G ∧ w = some (.int (b2i (decide (a ≤ v ∧ v ≤ b))))) := by
  refine ofX8_in (Nat.le_of_ble_eq_true rfl) ?_
  intro V C Rt
  refine runX8_in C Rt [] 20 ?_
  simp only [e_go, e_1, e_op, e_pi, e_pl, e_pr, e_p0, e_li, e_ll, e_lr, e_lk, e_ins, e_rm, e_ob, e_ai, e_aj, e_aq, e_an, e_nth, e_to, e_sw, e_cmp, k_c, k_n, k_f, k_v, k_lg, ↓reduceIte, reduceCtorEq, Nat.reduceAdd, Nat.reduceSub, Nat.reduceMul, Nat.reduceEqDiff, Nat.reduceLT, Nat.reduceLeDiff, Int.reduceAdd, Int.reduceSub, Int.reduceNeg, Int.reduceLE, Int.reduceLT, Int.reduceToNat, Int.reduceEq, Int.cast_ofNat_Int, List.mem_cons, List.not_mem_nil, List.length_cons, List.length_nil, List.set_cons_zero, List.set_cons_succ, List.toList_toArray, eq_self, true_and, and_true, and_self, or_true, true_or, false_or, or_false, or_self, not_true_eq_false, not_false_eq_true, Classical.not_not, true_implies, false_implies, implies_true, forall_const, and_false, false_and, e_up_e, va_rf_s, va_rf_n, Nat.le_refl, Nat.zero_le, Bool.false_eq_true, lv_args, DX8_in_0, FLX8, LDX8]
  refine ⟨fun h => ?_, fun h => ⟨fun h2 => ?_, fun h2 => ?_⟩⟩
  · have : ¬ a ≤ v := Int64.not_le.mpr h
    simp [this, b2i]
  · have : ¬ v ≤ b := Int64.not_le.mpr h2
    simp [this, b2i]
  · have h3 : a ≤ v := Int64.not_lt.mp h
    have h4 : v ≤ b := Int64.not_lt.mp h2
    simp [h3, h4, b2i]
theorem in_inr (x : Int32) {m : Int64} {n : Nat} (hm : m.toInt + 1 = n) : decide ((0 : Int64) ≤ x.toInt64 ∧ x.toInt64 ≤ m) = inr x n := by
  unfold inr
  apply decide_eq_decide.mpr
  rw [Int64.le_iff_toInt_le, Int64.le_iff_toInt_le, i64_toInt]
  have : ((0 : Int64)).toInt = 0 := by decide
  omega
set_option maxHeartbeats 4000000 in
set_option maxRecDepth 100000 in
theorem m_inr (l : Launch) (G : pH) (x : Int32) {m : Int64} {n : Nat} (hm : m.toInt + 1 = n) : e_MX8_in l [.long x.toInt64, .long 0, .long m] G (fun w G2 => G2 = G ∧ w = some (.int (b2i (inr x n)))) := by
  have := m_X8_in l G x.toInt64 0 m
  rw [in_inr x hm] at this
  exact this
set_option maxHeartbeats 4000000 in
set_option maxRecDepth 100000 in
theorem m_X8_isFact (l : Launch) (A : pA) (T : pS) {n : Nat} (hn : n ≤ 60) (hT : T.1 30 0 3 = nI n) (x : Int32) : e_MX8_isFact l [.ref (ad A 30 0), .int x] (gS A T) (s_P A (fun v S2 => T = S2 ∧ v = some (.int (b2i (inr x n))))) := by
  refine ofX8_isFact (Nat.le_of_ble_eq_true rfl) ?_
  intro V C Rt
  refine srnX8_isFact C Rt [] 20 ?_
  simp only [k_i, s_go, s_1, e_op, e_pi, e_pl, e_pr, e_p0, e_li, e_ll, e_lr, e_lk, e_ins, e_rm, e_to, e_sw, e_cmp, k_c, k_n, k_f, k_v, k_lg, ↓reduceIte, reduceCtorEq, Nat.reduceAdd, Nat.reduceSub, Nat.reduceMul, Nat.reduceEqDiff, Nat.reduceLT, Nat.reduceLeDiff, Int.reduceAdd, Int.reduceSub, Int.reduceNeg, Int.reduceLE, Int.reduceLT, Int.reduceToNat, Int.reduceEq, Int.cast_ofNat_Int, List.mem_cons, List.not_mem_nil, List.length_cons, List.length_nil, List.set_cons_zero, List.set_cons_succ, List.toList_toArray, eq_self, true_and, and_true, and_self, or_true, true_or, false_or, or_false, or_self, not_true_eq_false, not_false_eq_true, Classical.not_not, true_implies, false_implies, implies_true, forall_const, and_false, false_and, Nat.le_refl, Nat.zero_le, Bool.false_eq_true, lv_args, s_rl_at, s_gf, s_pf, dn_q, kd_q, cl_q, nf_q, ln_q, tg_q, rr_q, cr_q, u_1, e_lsw, k_ti, List.drop_succ_cons, List.drop_zero, List.drop_nil, List.zip_cons_cons, List.zip_nil_right, List.zip_nil_left, List.all_cons, List.all_nil, Bool.and_true, Bool.and_self, decide_true, decide_false, Option.toList, List.cons_append, List.nil_append, List.append_nil, DX8_isFact_0, FLX8, LDX8, hT]
  have hm : ((nI n - 1).toInt64).toInt + 1 = n := by
    rw [i64_toInt]
    cases n with
    | zero => decide
    | succ n =>
      rw [nI_pred, nI_toInt (by omega)]
      omega
  refine sX8_isFact_10 C (m_inr l _ x hm) (hcat := Nat.le_of_ble_eq_true rfl) (k := ?_)
  rintro v2 G2 ⟨rfl, rfl⟩
  refine srnX8_isFact C Rt [] 20 ?_
  simp only [k_i, s_go, s_1, e_op, e_pi, e_pl, e_pr, e_p0, e_li, e_ll, e_lr, e_lk, e_ins, e_rm, e_to, e_sw, e_cmp, k_c, k_n, k_f, k_v, k_lg, ↓reduceIte, reduceCtorEq, Nat.reduceAdd, Nat.reduceSub, Nat.reduceMul, Nat.reduceEqDiff, Nat.reduceLT, Nat.reduceLeDiff, Int.reduceAdd, Int.reduceSub, Int.reduceNeg, Int.reduceLE, Int.reduceLT, Int.reduceToNat, Int.reduceEq, Int.cast_ofNat_Int, List.mem_cons, List.not_mem_nil, List.length_cons, List.length_nil, List.set_cons_zero, List.set_cons_succ, List.toList_toArray, eq_self, true_and, and_true, and_self, or_true, true_or, false_or, or_false, or_self, not_true_eq_false, not_false_eq_true, Classical.not_not, true_implies, false_implies, implies_true, forall_const, and_false, false_and, Nat.le_refl, Nat.zero_le, Bool.false_eq_true, lv_args, s_rl_at, s_gf, s_pf, dn_q, kd_q, cl_q, nf_q, ln_q, tg_q, rr_q, cr_q, u_1, e_lsw, k_ti, List.drop_succ_cons, List.drop_zero, List.drop_nil, List.zip_cons_cons, List.zip_nil_right, List.zip_nil_left, List.all_cons, List.all_nil, Bool.and_true, Bool.and_self, decide_true, decide_false, Option.toList, List.cons_append, List.nil_append, List.append_nil, DX8_isFact_0, FLX8, LDX8, b2i_n]
set_option maxHeartbeats 4000000 in
set_option maxRecDepth 100000 in
theorem m_X8_thrown (l : Launch) (A : pA) (T : pS) : e_MX8_thrown l [.ref (ad A 30 0)] (gS A T) (s_P A (fun v S2 => T = S2 ∧ v = some (.int (T.1 30 0 0)))) := by
  refine ofX8_thrown (Nat.le_of_ble_eq_true rfl) ?_
  intro V C Rt
  refine srnX8_thrown C Rt [] 20 ?_
  simp only [k_i, s_go, s_1, e_op, e_pi, e_pl, e_pr, e_p0, e_li, e_ll, e_lr, e_lk, e_ins, e_rm, e_to, e_sw, e_cmp, k_c, k_n, k_f, k_v, k_lg, ↓reduceIte, reduceCtorEq, Nat.reduceAdd, Nat.reduceSub, Nat.reduceMul, Nat.reduceEqDiff, Nat.reduceLT, Nat.reduceLeDiff, Int.reduceAdd, Int.reduceSub, Int.reduceNeg, Int.reduceLE, Int.reduceLT, Int.reduceToNat, Int.reduceEq, Int.cast_ofNat_Int, List.mem_cons, List.not_mem_nil, List.length_cons, List.length_nil, List.set_cons_zero, List.set_cons_succ, List.toList_toArray, eq_self, true_and, and_true, and_self, or_true, true_or, false_or, or_false, or_self, not_true_eq_false, not_false_eq_true, Classical.not_not, true_implies, false_implies, implies_true, forall_const, and_false, false_and, Nat.le_refl, Nat.zero_le, Bool.false_eq_true, lv_args, s_rl_at, s_gf, s_pf, dn_q, kd_q, cl_q, nf_q, ln_q, tg_q, rr_q, cr_q, u_1, e_lsw, k_ti, List.drop_succ_cons, List.drop_zero, List.drop_nil, List.zip_cons_cons, List.zip_nil_right, List.zip_nil_left, List.all_cons, List.all_nil, Bool.and_true, Bool.and_self, decide_true, decide_false, Option.toList, List.cons_append, List.nil_append, List.append_nil, DX8_thrown_0, FLX8, LDX8]
set_option maxHeartbeats 4000000 in
set_option maxRecDepth 100000 in
theorem m_X8_thing (l : Launch) (A : pA) (T S : pS) (hD : rD T S) (hT : rT T S) (x w : Int32) : e_MX8_thing l [.ref (ad A 30 0), .int x, .int w] (gS A T) (s_P A (isP (thgC S x w, t0 T))) := by
  obtain ⟨ht1, ht2⟩ := hT
  refine ofX8_thing (Nat.le_of_ble_eq_true rfl) ?_
  intro V C Rt
  unfold rD at hD
  refine srnX8_thing C Rt [] 20 ?_
  simp only [k_i, s_go, s_1, e_op, e_pi, e_pl, e_pr, e_p0, e_li, e_ll, e_lr, e_lk, e_ins, e_rm, e_to, e_sw, e_cmp, k_c, k_n, k_f, k_v, k_lg, ↓reduceIte, reduceCtorEq, Nat.reduceAdd, Nat.reduceSub, Nat.reduceMul, Nat.reduceEqDiff, Nat.reduceLT, Nat.reduceLeDiff, Int.reduceAdd, Int.reduceSub, Int.reduceNeg, Int.reduceLE, Int.reduceLT, Int.reduceToNat, Int.reduceEq, Int.cast_ofNat_Int, List.mem_cons, List.not_mem_nil, List.length_cons, List.length_nil, List.set_cons_zero, List.set_cons_succ, List.toList_toArray, eq_self, true_and, and_true, and_self, or_true, true_or, false_or, or_false, or_self, not_true_eq_false, not_false_eq_true, Classical.not_not, true_implies, false_implies, implies_true, forall_const, and_false, false_and, Nat.le_refl, Nat.zero_le, Bool.false_eq_true, lv_args, s_rl_at, s_gf, s_pf, dn_q, kd_q, cl_q, nf_q, ln_q, tg_q, rr_q, cr_q, u_1, e_lsw, k_ti, List.drop_succ_cons, List.drop_zero, List.drop_nil, List.zip_cons_cons, List.zip_nil_right, List.zip_nil_left, List.all_cons, List.all_nil, Bool.and_true, Bool.and_self, decide_true, decide_false, Option.toList, List.cons_append, List.nil_append, List.append_nil, DX8_thing_0, FLX8, LDX8, hD]
  refine ⟨fun hd => ?_, fun hd => by simp [isP, thgC, hd]⟩
  refine sX8_thing_21 C (m_inr l _ x (n := 16) (by decide)) (hcat := Nat.le_of_ble_eq_true rfl) (k := ?_)
  rintro v2 G2 ⟨rfl, rfl⟩
  cases hx : inr x 16 with
  | false =>
    refine srnX8_thing C Rt [] 40 ?_
    simp only [k_i, s_go, s_1, e_op, e_pi, e_pl, e_pr, e_p0, e_li, e_ll, e_lr, e_lk, e_ins, e_rm, e_to, e_sw, e_cmp, k_c, k_n, k_f, k_v, k_lg, ↓reduceIte, reduceCtorEq, Nat.reduceAdd, Nat.reduceSub, Nat.reduceMul, Nat.reduceEqDiff, Nat.reduceLT, Nat.reduceLeDiff, Int.reduceAdd, Int.reduceSub, Int.reduceNeg, Int.reduceLE, Int.reduceLT, Int.reduceToNat, Int.reduceEq, Int.cast_ofNat_Int, List.mem_cons, List.not_mem_nil, List.length_cons, List.length_nil, List.set_cons_zero, List.set_cons_succ, List.toList_toArray, eq_self, true_and, and_true, and_self, or_true, true_or, false_or, or_false, or_self, not_true_eq_false, not_false_eq_true, Classical.not_not, true_implies, false_implies, implies_true, forall_const, and_false, false_and, Nat.le_refl, Nat.zero_le, Bool.false_eq_true, lv_args, s_rl_at, s_gf, s_pf, dn_q, kd_q, cl_q, nf_q, ln_q, tg_q, rr_q, cr_q, u_1, e_lsw, k_ti, List.drop_succ_cons, List.drop_zero, List.drop_nil, List.zip_cons_cons, List.zip_nil_right, List.zip_nil_left, List.all_cons, List.all_nil, Bool.and_true, Bool.and_self, decide_true, decide_false, Option.toList, List.cons_append, List.nil_append, List.append_nil, DX8_thing_0, FLX8, LDX8, b2i_f]
    simp [isP, thgC, hd, hx]
  | true =>
    obtain ⟨j, hj, rfl⟩ := inr_of (by omega) hx
    have eN := nN_nI (show j < 2147483648 by omega)
    refine srnX8_thing C Rt [] 40 ?_
    simp only [k_i, s_go, s_1, e_op, e_pi, e_pl, e_pr, e_p0, e_li, e_ll, e_lr, e_lk, e_ins, e_rm, e_to, e_sw, e_cmp, k_c, k_n, k_f, k_v, k_lg, ↓reduceIte, reduceCtorEq, Nat.reduceAdd, Nat.reduceSub, Nat.reduceMul, Nat.reduceEqDiff, Nat.reduceLT, Nat.reduceLeDiff, Int.reduceAdd, Int.reduceSub, Int.reduceNeg, Int.reduceLE, Int.reduceLT, Int.reduceToNat, Int.reduceEq, Int.cast_ofNat_Int, List.mem_cons, List.not_mem_nil, List.length_cons, List.length_nil, List.set_cons_zero, List.set_cons_succ, List.toList_toArray, eq_self, true_and, and_true, and_self, or_true, true_or, false_or, or_false, or_self, not_true_eq_false, not_false_eq_true, Classical.not_not, true_implies, false_implies, implies_true, forall_const, and_false, false_and, Nat.le_refl, Nat.zero_le, Bool.false_eq_true, lv_args, s_rl_at, s_gf, s_pf, dn_q, kd_q, cl_q, nf_q, ln_q, tg_q, rr_q, cr_q, u_1, e_lsw, k_ti, List.drop_succ_cons, List.drop_zero, List.drop_nil, List.zip_cons_cons, List.zip_nil_right, List.zip_nil_left, List.all_cons, List.all_nil, Bool.and_true, Bool.and_self, decide_true, decide_false, Option.toList, List.cons_append, List.nil_append, List.append_nil, DX8_thing_0, FLX8, LDX8, b2i_t]
    refine sX8_thing_31 C (m_inr l _ w (n := 2) (by decide)) (hcat := Nat.le_of_ble_eq_true rfl) (k := ?_)
    rintro v2 G2 ⟨rfl, rfl⟩
    cases hw : inr w 2 with
    | false =>
      refine srnX8_thing C Rt [] 40 ?_
      simp only [k_i, s_go, s_1, e_op, e_pi, e_pl, e_pr, e_p0, e_li, e_ll, e_lr, e_lk, e_ins, e_rm, e_to, e_sw, e_cmp, k_c, k_n, k_f, k_v, k_lg, ↓reduceIte, reduceCtorEq, Nat.reduceAdd, Nat.reduceSub, Nat.reduceMul, Nat.reduceEqDiff, Nat.reduceLT, Nat.reduceLeDiff, Int.reduceAdd, Int.reduceSub, Int.reduceNeg, Int.reduceLE, Int.reduceLT, Int.reduceToNat, Int.reduceEq, Int.cast_ofNat_Int, List.mem_cons, List.not_mem_nil, List.length_cons, List.length_nil, List.set_cons_zero, List.set_cons_succ, List.toList_toArray, eq_self, true_and, and_true, and_self, or_true, true_or, false_or, or_false, or_self, not_true_eq_false, not_false_eq_true, Classical.not_not, true_implies, false_implies, implies_true, forall_const, and_false, false_and, Nat.le_refl, Nat.zero_le, Bool.false_eq_true, lv_args, s_rl_at, s_gf, s_pf, dn_q, kd_q, cl_q, nf_q, ln_q, tg_q, rr_q, cr_q, u_1, e_lsw, k_ti, List.drop_succ_cons, List.drop_zero, List.drop_nil, List.zip_cons_cons, List.zip_nil_right, List.zip_nil_left, List.all_cons, List.all_nil, Bool.and_true, Bool.and_self, decide_true, decide_false, Option.toList, List.cons_append, List.nil_append, List.append_nil, DX8_thing_0, FLX8, LDX8, b2i_f]
      have h0 : ¬ w = 0 := fun z => by rw [z] at hw; exact absurd hw (by decide)
      have h1 : ¬ w = 1 := fun z => by rw [z] at hw; exact absurd hw (by decide)
      simp [isP, thgC, hd, hx, h0, h1]
    | true =>
      refine srnX8_thing C Rt [] 40 ?_
      simp only [k_i, s_go, s_1, e_op, e_pi, e_pl, e_pr, e_p0, e_li, e_ll, e_lr, e_lk, e_ins, e_rm, e_to, e_sw, e_cmp, k_c, k_n, k_f, k_v, k_lg, ↓reduceIte, reduceCtorEq, Nat.reduceAdd, Nat.reduceSub, Nat.reduceMul, Nat.reduceEqDiff, Nat.reduceLT, Nat.reduceLeDiff, Int.reduceAdd, Int.reduceSub, Int.reduceNeg, Int.reduceLE, Int.reduceLT, Int.reduceToNat, Int.reduceEq, Int.cast_ofNat_Int, List.mem_cons, List.not_mem_nil, List.length_cons, List.length_nil, List.set_cons_zero, List.set_cons_succ, List.toList_toArray, eq_self, true_and, and_true, and_self, or_true, true_or, false_or, or_false, or_self, not_true_eq_false, not_false_eq_true, Classical.not_not, true_implies, false_implies, implies_true, forall_const, and_false, false_and, Nat.le_refl, Nat.zero_le, Bool.false_eq_true, lv_args, s_rl_at, s_gf, s_pf, dn_q, kd_q, cl_q, nf_q, ln_q, tg_q, rr_q, cr_q, u_1, e_lsw, k_ti, List.drop_succ_cons, List.drop_zero, List.drop_nil, List.zip_cons_cons, List.zip_nil_right, List.zip_nil_left, List.all_cons, List.all_nil, Bool.and_true, Bool.and_self, decide_true, decide_false, Option.toList, List.cons_append, List.nil_append, List.append_nil, DX8_thing_0, FLX8, LDX8, b2i_t, x_cl (a := j) (by omega), x_in (a := j) (n := 16) (by omega), ht1, ht2]
      obtain ⟨z, hz, rfl⟩ := inr_of (by omega) hw
      have : z = 0 ∨ z = 1 := by omega
      rcases this with rfl | rfl
      · simp [isP, thgC, hd, hx, eN, nI_0, hj]
      · simp [isP, thgC, hd, hx, eN, (show nI 1 = 1 from rfl), hj]
