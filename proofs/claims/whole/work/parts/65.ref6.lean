/-! the reference: fact -/
def nfT (T : pS) (n : Nat) (th dt ct : Nat → Int32) (k : Nat) : pS := uX (uX (uX T 38 (fun j => if 4 * n ≤ j ∧ j < 4 * n + k then th (j - 4 * n) else T.1 38 0 j)) 39 (fun j => if 4 * n ≤ j ∧ j < 4 * n + k then dt (j - 4 * n) else T.1 39 0 j)) 40 (fun j => if 4 * n ≤ j ∧ j < 4 * n + k then ct (j - 4 * n) else T.1 40 0 j)
theorem nfT_oth {T : pS} {n k k2 : Nat} {th dt ct : Nat → Int32} (h : ¬ k2 = 38) (h2 : ¬ k2 = 39) (h3 : ¬ k2 = 40) : (nfT T n th dt ct k).1 k2 = T.1 k2 := by
  unfold nfT
  rw [uX_oth (by omega), uX_oth (by omega), uX_oth (by omega)]
theorem up_st {f g : Nat → Int32} {a k : Nat} {v : Int32} (hv : v = f k) : (fun j => if j = a + k then v else if a ≤ j ∧ j < a + k then f (j - a) else g j) = (fun j => if a ≤ j ∧ j < a + (k + 1) then f (j - a) else g j) := by
  funext j
  by_cases h1 : j = a + k
  · subst h1
    rw [if_pos rfl, if_pos (by omega), Nat.add_sub_cancel_left, hv]
  · rw [if_neg h1]
    have : (a ≤ j ∧ j < a + k) ↔ (a ≤ j ∧ j < a + (k + 1)) := by omega
    simp [this]
theorem nfT_s {T : pS} {n k : Nat} {th dt ct : Nat → Int32} : uI (uI (uI (nfT T n th dt ct k) 38 0 (4 * n + k) (th k)) 39 0 (4 * n + k) (dt k)) 40 0 (4 * n + k) (ct k) = nfT T n th dt ct (k + 1) := by
  unfold nfT
  rw [uX_c (k := 40) (by decide), uX_c (k := 39) (by decide), uX_s, uX_c (k := 40) (by decide), uX_s, uX_s, up_st rfl, up_st rfl, up_st rfl]
def nfO (T : pS) (n : Nat) (on : Nat → Int32) (k : Nat) : pS := uX T 42 (fun j => if 3 * n ≤ j ∧ j < 3 * n + k then on (j - 3 * n) else T.1 42 0 j)
theorem nfO_s {T : pS} {n k : Nat} {on : Nat → Int32} : uI (nfO T n on k) 42 0 (3 * n + k) (on k) = nfO T n on (k + 1) := by
  unfold nfO
  rw [uX_s, up_st rfl]
section
variable {V : pV} {l : Launch} {A : pA} {post : Option Value → pS → Prop} {T S : pS}
set_option maxHeartbeats 4000000 in
set_option maxRecDepth 100000 in
theorem lp_X8_fact1 (C : e_CX8_fact V l) (Rt : e_RX8_fact V (s_P A post)) {n m : Nat} {kind : Int32} {value : Int64} (hn : n < 60) (hw : wfF S 61 m) (hN : rN T S) (hT : rT T S)
    (hx : V 0 0 159 [(0, .ref (ad A 30 0)), (1, .int kind), (2, .long value), (4, .int (nI n)), (5, .int (nI (tcC S 61)))] [] (gS A (nfT T n (S.1 7 61) (fun k => S.1 2 0 (thC S 61 k)) (fun k => S.1 3 0 (thC S 61 k)) (tcC S 61)))) : ∀ z k, k + z = tcC S 61 → V 0 0 77 [(0, .ref (ad A 30 0)), (1, .int kind), (2, .long value), (4, .int (nI n)), (5, .int (nI k))] [] (gS A (nfT T n (S.1 7 61) (fun k => S.1 2 0 (thC S 61 k)) (fun k => S.1 3 0 (thC S 61 k)) k)) := by
  obtain ⟨n1, n2, n3, n4⟩ := hN
  obtain ⟨w1, w2, w3, w4, w5, w6⟩ := hw
  obtain ⟨t1, t2⟩ := hT
  rw [w1] at n1
  intro z
  induction z with
  | zero =>
    intro k hk
    have hk2 : k = tcC S 61 := by omega
    rw [hk2]
    refine srnX8_fact C Rt [77, 159] 40 ?_
    simp only [k_i, s_go, s_1, e_op, e_pi, e_pl, e_pr, e_p0, e_li, e_ll, e_lr, e_lk, e_ins, e_rm, e_to, e_sw, e_cmp, k_c, k_n, k_f, k_v, k_lg, ↓reduceIte, reduceCtorEq, Nat.reduceAdd, Nat.reduceSub, Nat.reduceMul, Nat.reduceEqDiff, Nat.reduceLT, Nat.reduceLeDiff, Int.reduceAdd, Int.reduceSub, Int.reduceNeg, Int.reduceLE, Int.reduceLT, Int.reduceToNat, Int.reduceEq, Int.cast_ofNat_Int, List.mem_cons, List.not_mem_nil, List.length_cons, List.length_nil, List.set_cons_zero, List.set_cons_succ, List.toList_toArray, eq_self, true_and, and_true, and_self, or_true, true_or, false_or, or_false, or_self, not_true_eq_false, not_false_eq_true, Classical.not_not, true_implies, false_implies, implies_true, forall_const, and_false, false_and, Nat.le_refl, Nat.zero_le, Bool.false_eq_true, lv_args, s_rl_at, s_gf, s_pf, dn_q, kd_q, cl_q, nf_q, ln_q, tg_q, rr_q, cr_q, u_1, e_lsw, k_ti, List.drop_succ_cons, List.drop_zero, List.drop_nil, List.zip_cons_cons, List.zip_nil_right, List.zip_nil_left, List.all_cons, List.all_nil, Bool.and_true, Bool.and_self, decide_true, decide_false, Option.toList, List.cons_append, List.nil_append, List.append_nil, DX8_fact_0, DX8_fact_1, DX8_fact_2, DX8_fact_3, FLX8, LDX8, nfT_oth (k2 := 30) (by decide) (by decide) (by decide), n1, x_le (a := tcC S 61) (b := tcC S 61) (by omega) (by omega)]
    exact hx
  | succ z ih =>
    intro k hk
    obtain ⟨w7, w8⟩ := w5 k (by omega)
    have g1 := n2 k (by omega)
    rw [w7] at g1
    have h9 := ih (k + 1) (by omega)
    rw [← nfT_s, w7] at h9
    refine srnX8_fact C Rt [77, 159] 60 ?_
    simp only [k_i, s_go, s_1, e_op, e_pi, e_pl, e_pr, e_p0, e_li, e_ll, e_lr, e_lk, e_ins, e_rm, e_to, e_sw, e_cmp, k_c, k_n, k_f, k_v, k_lg, ↓reduceIte, reduceCtorEq, Nat.reduceAdd, Nat.reduceSub, Nat.reduceMul, Nat.reduceEqDiff, Nat.reduceLT, Nat.reduceLeDiff, Int.reduceAdd, Int.reduceSub, Int.reduceNeg, Int.reduceLE, Int.reduceLT, Int.reduceToNat, Int.reduceEq, Int.cast_ofNat_Int, List.mem_cons, List.not_mem_nil, List.length_cons, List.length_nil, List.set_cons_zero, List.set_cons_succ, List.toList_toArray, eq_self, true_and, and_true, and_self, or_true, true_or, false_or, or_false, or_self, not_true_eq_false, not_false_eq_true, Classical.not_not, true_implies, false_implies, implies_true, forall_const, and_false, false_and, Nat.le_refl, Nat.zero_le, Bool.false_eq_true, lv_args, s_rl_at, s_gf, s_pf, dn_q, kd_q, cl_q, nf_q, ln_q, tg_q, rr_q, cr_q, u_1, e_lsw, k_ti, List.drop_succ_cons, List.drop_zero, List.drop_nil, List.zip_cons_cons, List.zip_nil_right, List.zip_nil_left, List.all_cons, List.all_nil, Bool.and_true, Bool.and_self, decide_true, decide_false, Option.toList, List.cons_append, List.nil_append, List.append_nil, DX8_fact_0, DX8_fact_1, DX8_fact_2, DX8_fact_3, FLX8, LDX8, nfT_oth (k2 := 30) (by decide) (by decide) (by decide), nfT_oth (k2 := 46) (by decide) (by decide) (by decide), nfT_oth (k2 := 32) (by decide) (by decide) (by decide), nfT_oth (k2 := 33) (by decide) (by decide) (by decide), n1, x_le (a := tcC S 61) (b := k) (by omega) (by omega), (show (4 : Int32) = nI 4 from rfl), pk_mul, nI_add, x_cl (a := 4 * n + k) (by omega), x_in (a := 4 * n + k) (n := 240) (by omega), x_cl (a := k) (by omega), x_in (a := k) (n := 4) (by omega), g1, x_cl (a := thC S 61 k) (by omega), x_in (a := thC S 61 k) (n := 16) (by omega), t1, t2, nI_1]
    exact ⟨fun h => by omega, fun _ => ⟨by omega, by omega, by omega, w8, by omega, by omega, w8, by omega, h9⟩⟩
set_option maxHeartbeats 4000000 in
set_option maxRecDepth 100000 in
theorem lp_X8_fact2 (C : e_CX8_fact V l) (Rt : e_RX8_fact V (s_P A post)) {n m : Nat} {kind : Int32} {value : Int64} (hn : n < 60) (hw : wfF S 61 m) (hN : rN T S)
    (hx : V 0 0 207 [(0, .ref (ad A 30 0)), (1, .int kind), (2, .long value), (4, .int (nI n)), (5, .int (nI (fcC S 61)))] [] (gS A (nfO T n (S.1 10 61) (fcC S 61)))) : ∀ z k, k + z = fcC S 61 → V 0 0 173 [(0, .ref (ad A 30 0)), (1, .int kind), (2, .long value), (4, .int (nI n)), (5, .int (nI k))] [] (gS A (nfO T n (S.1 10 61) k)) := by
  obtain ⟨n1, n2, n3, n4⟩ := hN
  obtain ⟨w1, w2, w3, w4, w5, w6⟩ := hw
  rw [w3] at n3
  have h0 : ∀ k k2, ¬ k2 = 42 → (nfO T n (S.1 10 61) k).1 k2 = T.1 k2 := fun k k2 h => by unfold nfO; rw [uX_oth h]
  intro z
  induction z with
  | zero =>
    intro k hk
    have hk2 : k = fcC S 61 := by omega
    rw [hk2]
    refine srnX8_fact C Rt [173, 207] 40 ?_
    simp only [k_i, s_go, s_1, e_op, e_pi, e_pl, e_pr, e_p0, e_li, e_ll, e_lr, e_lk, e_ins, e_rm, e_to, e_sw, e_cmp, k_c, k_n, k_f, k_v, k_lg, ↓reduceIte, reduceCtorEq, Nat.reduceAdd, Nat.reduceSub, Nat.reduceMul, Nat.reduceEqDiff, Nat.reduceLT, Nat.reduceLeDiff, Int.reduceAdd, Int.reduceSub, Int.reduceNeg, Int.reduceLE, Int.reduceLT, Int.reduceToNat, Int.reduceEq, Int.cast_ofNat_Int, List.mem_cons, List.not_mem_nil, List.length_cons, List.length_nil, List.set_cons_zero, List.set_cons_succ, List.toList_toArray, eq_self, true_and, and_true, and_self, or_true, true_or, false_or, or_false, or_self, not_true_eq_false, not_false_eq_true, Classical.not_not, true_implies, false_implies, implies_true, forall_const, and_false, false_and, Nat.le_refl, Nat.zero_le, Bool.false_eq_true, lv_args, s_rl_at, s_gf, s_pf, dn_q, kd_q, cl_q, nf_q, ln_q, tg_q, rr_q, cr_q, u_1, e_lsw, k_ti, List.drop_succ_cons, List.drop_zero, List.drop_nil, List.zip_cons_cons, List.zip_nil_right, List.zip_nil_left, List.all_cons, List.all_nil, Bool.and_true, Bool.and_self, decide_true, decide_false, Option.toList, List.cons_append, List.nil_append, List.append_nil, DX8_fact_0, DX8_fact_1, DX8_fact_2, DX8_fact_3, FLX8, LDX8, h0 _ 30 (by decide), n3, x_le (a := fcC S 61) (b := fcC S 61) (by omega) (by omega)]
    exact hx
  | succ z ih =>
    intro k hk
    have g1 := n4 k (by omega)
    have h9 := ih (k + 1) (by omega)
    rw [← nfO_s] at h9
    refine srnX8_fact C Rt [173, 207] 60 ?_
    simp only [k_i, s_go, s_1, e_op, e_pi, e_pl, e_pr, e_p0, e_li, e_ll, e_lr, e_lk, e_ins, e_rm, e_to, e_sw, e_cmp, k_c, k_n, k_f, k_v, k_lg, ↓reduceIte, reduceCtorEq, Nat.reduceAdd, Nat.reduceSub, Nat.reduceMul, Nat.reduceEqDiff, Nat.reduceLT, Nat.reduceLeDiff, Int.reduceAdd, Int.reduceSub, Int.reduceNeg, Int.reduceLE, Int.reduceLT, Int.reduceToNat, Int.reduceEq, Int.cast_ofNat_Int, List.mem_cons, List.not_mem_nil, List.length_cons, List.length_nil, List.set_cons_zero, List.set_cons_succ, List.toList_toArray, eq_self, true_and, and_true, and_self, or_true, true_or, false_or, or_false, or_self, not_true_eq_false, not_false_eq_true, Classical.not_not, true_implies, false_implies, implies_true, forall_const, and_false, false_and, Nat.le_refl, Nat.zero_le, Bool.false_eq_true, lv_args, s_rl_at, s_gf, s_pf, dn_q, kd_q, cl_q, nf_q, ln_q, tg_q, rr_q, cr_q, u_1, e_lsw, k_ti, List.drop_succ_cons, List.drop_zero, List.drop_nil, List.zip_cons_cons, List.zip_nil_right, List.zip_nil_left, List.all_cons, List.all_nil, Bool.and_true, Bool.and_self, decide_true, decide_false, Option.toList, List.cons_append, List.nil_append, List.append_nil, DX8_fact_0, DX8_fact_1, DX8_fact_2, DX8_fact_3, FLX8, LDX8, h0 _ 30 (by decide), h0 _ 48 (by decide), n3, x_le (a := fcC S 61) (b := k) (by omega) (by omega), (show (3 : Int32) = nI 3 from rfl), pk_mul, nI_add, x_cl (a := 3 * n + k) (by omega), x_in (a := 3 * n + k) (n := 180) (by omega), x_cl (a := k) (by omega), x_in (a := k) (n := 3) (by omega), g1, nI_1]
    exact ⟨fun h => by omega, fun _ => ⟨by omega, by omega, h9⟩⟩
end
abbrev fcA (T S : pS) (n : Nat) (kind : Int32) (value : Int64) : pS := uI (uJ (uI (t0 T) 35 0 n kind) 36 0 n value) 37 0 n (nI (tcC S 61))
abbrev fcB (T S : pS) (n : Nat) (kind : Int32) (value : Int64) : pS := uI (nfT (fcA T S n kind value) n (S.1 7 61) (fun k => S.1 2 0 (thC S 61 k)) (fun k => S.1 3 0 (thC S 61 k)) (tcC S 61)) 41 0 n (nI (fcC S 61))
abbrev fcD (T S : pS) (n : Nat) (kind : Int32) (value : Int64) : pS := nfO (fcB T S n kind value) n (S.1 10 61) (fcC S 61)
abbrev fcT (T S : pS) (n : Nat) (kind : Int32) (value : Int64) : pS := uI (uI (uI (uI (uI (fcD T S n kind value) 43 0 n 0) 44 0 n 0) 30 0 14 0) 30 0 16 0) 30 0 3 (nI (n + 1))
def fctM (T S : pS) (n : Nat) (kind : Int32) (value : Int64) : pS := if ¬ S.1 11 0 1 = 0 then t0 T else if inr kind 4 = false then t0 T else if 60 ≤ n then t0 T else fcT T S n kind value
set_option maxHeartbeats 4000000 in
set_option maxRecDepth 100000 in
theorem m_X8_fact (l : Launch) (A : pA) (T S : pS) {n m : Nat} (hn : n ≤ 60) (hw : wfF S 61 m) (hD : rD T S) (hT : rT T S) (hB : T.1 30 0 3 = nI n) (hN : rN T S) (kind : Int32) (value : Int64) : e_MX8_fact l [.ref (ad A 30 0), .int kind, .long value] (gS A T) (s_P A (isP ((fctC S n kind value).1, fctM T S n kind value))) := by
  have hw0 := hw
  have hN0 := hN
  obtain ⟨w1, w2, w3, w4, w5, w6⟩ := hw
  obtain ⟨n1, n2, n3, n4⟩ := hN
  rw [w1] at n1
  rw [w3] at n3
  refine ofX8_fact (Nat.le_of_ble_eq_true rfl) ?_
  intro V C Rt
  unfold rD at hD
  refine srnX8_fact C Rt [] 20 ?_
  simp only [k_i, s_go, s_1, e_op, e_pi, e_pl, e_pr, e_p0, e_li, e_ll, e_lr, e_lk, e_ins, e_rm, e_to, e_sw, e_cmp, k_c, k_n, k_f, k_v, k_lg, ↓reduceIte, reduceCtorEq, Nat.reduceAdd, Nat.reduceSub, Nat.reduceMul, Nat.reduceEqDiff, Nat.reduceLT, Nat.reduceLeDiff, Int.reduceAdd, Int.reduceSub, Int.reduceNeg, Int.reduceLE, Int.reduceLT, Int.reduceToNat, Int.reduceEq, Int.cast_ofNat_Int, List.mem_cons, List.not_mem_nil, List.length_cons, List.length_nil, List.set_cons_zero, List.set_cons_succ, List.toList_toArray, eq_self, true_and, and_true, and_self, or_true, true_or, false_or, or_false, or_self, not_true_eq_false, not_false_eq_true, Classical.not_not, true_implies, false_implies, implies_true, forall_const, and_false, false_and, Nat.le_refl, Nat.zero_le, Bool.false_eq_true, lv_args, s_rl_at, s_gf, s_pf, dn_q, kd_q, cl_q, nf_q, ln_q, tg_q, rr_q, cr_q, u_1, e_lsw, k_ti, List.drop_succ_cons, List.drop_zero, List.drop_nil, List.zip_cons_cons, List.zip_nil_right, List.zip_nil_left, List.all_cons, List.all_nil, Bool.and_true, Bool.and_self, decide_true, decide_false, Option.toList, List.cons_append, List.nil_append, List.append_nil, DX8_fact_0, DX8_fact_1, DX8_fact_2, DX8_fact_3, FLX8, LDX8, hD]
  refine ⟨fun hd => ?_, fun hd => by simp [isP, fctC, fctM, hd]⟩
  refine sX8_fact_21 C (m_inr l _ kind (n := 4) (by decide)) (hcat := Nat.le_of_ble_eq_true rfl) (k := ?_)
  rintro v2 G2 ⟨rfl, rfl⟩
  cases hx : inr kind 4 with
  | false =>
    refine srnX8_fact C Rt [] 40 ?_
    simp only [k_i, s_go, s_1, e_op, e_pi, e_pl, e_pr, e_p0, e_li, e_ll, e_lr, e_lk, e_ins, e_rm, e_to, e_sw, e_cmp, k_c, k_n, k_f, k_v, k_lg, ↓reduceIte, reduceCtorEq, Nat.reduceAdd, Nat.reduceSub, Nat.reduceMul, Nat.reduceEqDiff, Nat.reduceLT, Nat.reduceLeDiff, Int.reduceAdd, Int.reduceSub, Int.reduceNeg, Int.reduceLE, Int.reduceLT, Int.reduceToNat, Int.reduceEq, Int.cast_ofNat_Int, List.mem_cons, List.not_mem_nil, List.length_cons, List.length_nil, List.set_cons_zero, List.set_cons_succ, List.toList_toArray, eq_self, true_and, and_true, and_self, or_true, true_or, false_or, or_false, or_self, not_true_eq_false, not_false_eq_true, Classical.not_not, true_implies, false_implies, implies_true, forall_const, and_false, false_and, Nat.le_refl, Nat.zero_le, Bool.false_eq_true, lv_args, s_rl_at, s_gf, s_pf, dn_q, kd_q, cl_q, nf_q, ln_q, tg_q, rr_q, cr_q, u_1, e_lsw, k_ti, List.drop_succ_cons, List.drop_zero, List.drop_nil, List.zip_cons_cons, List.zip_nil_right, List.zip_nil_left, List.all_cons, List.all_nil, Bool.and_true, Bool.and_self, decide_true, decide_false, Option.toList, List.cons_append, List.nil_append, List.append_nil, DX8_fact_0, DX8_fact_1, DX8_fact_2, DX8_fact_3, FLX8, LDX8, b2i_f]
    simp [isP, fctC, fctM, hd, hx]
  | true =>
    by_cases h60 : 60 ≤ n
    · have hn60 : n = 60 := by omega
      subst hn60
      refine srnX8_fact C Rt [] 40 ?_
      simp only [k_i, s_go, s_1, e_op, e_pi, e_pl, e_pr, e_p0, e_li, e_ll, e_lr, e_lk, e_ins, e_rm, e_to, e_sw, e_cmp, k_c, k_n, k_f, k_v, k_lg, ↓reduceIte, reduceCtorEq, Nat.reduceAdd, Nat.reduceSub, Nat.reduceMul, Nat.reduceEqDiff, Nat.reduceLT, Nat.reduceLeDiff, Int.reduceAdd, Int.reduceSub, Int.reduceNeg, Int.reduceLE, Int.reduceLT, Int.reduceToNat, Int.reduceEq, Int.cast_ofNat_Int, List.mem_cons, List.not_mem_nil, List.length_cons, List.length_nil, List.set_cons_zero, List.set_cons_succ, List.toList_toArray, eq_self, true_and, and_true, and_self, or_true, true_or, false_or, or_false, or_self, not_true_eq_false, not_false_eq_true, Classical.not_not, true_implies, false_implies, implies_true, forall_const, and_false, false_and, Nat.le_refl, Nat.zero_le, Bool.false_eq_true, lv_args, s_rl_at, s_gf, s_pf, dn_q, kd_q, cl_q, nf_q, ln_q, tg_q, rr_q, cr_q, u_1, e_lsw, k_ti, List.drop_succ_cons, List.drop_zero, List.drop_nil, List.zip_cons_cons, List.zip_nil_right, List.zip_nil_left, List.all_cons, List.all_nil, Bool.and_true, Bool.and_self, decide_true, decide_false, Option.toList, List.cons_append, List.nil_append, List.append_nil, DX8_fact_0, DX8_fact_1, DX8_fact_2, DX8_fact_3, FLX8, LDX8, b2i_t, hB, (show (60 : Int32) = nI 60 from rfl)]
      simp [isP, fctC, fctM, hd, hx]
    · have hne : (nI n = (60 : Int32)) = False := by
        rw [show (60 : Int32) = nI 60 from rfl, x_eq (by omega) (by omega)]
        simp
        omega
      refine srnX8_fact C Rt [77] 40 ?_
      simp only [k_i, s_go, s_1, e_op, e_pi, e_pl, e_pr, e_p0, e_li, e_ll, e_lr, e_lk, e_ins, e_rm, e_to, e_sw, e_cmp, k_c, k_n, k_f, k_v, k_lg, ↓reduceIte, reduceCtorEq, Nat.reduceAdd, Nat.reduceSub, Nat.reduceMul, Nat.reduceEqDiff, Nat.reduceLT, Nat.reduceLeDiff, Int.reduceAdd, Int.reduceSub, Int.reduceNeg, Int.reduceLE, Int.reduceLT, Int.reduceToNat, Int.reduceEq, Int.cast_ofNat_Int, List.mem_cons, List.not_mem_nil, List.length_cons, List.length_nil, List.set_cons_zero, List.set_cons_succ, List.toList_toArray, eq_self, true_and, and_true, and_self, or_true, true_or, false_or, or_false, or_self, not_true_eq_false, not_false_eq_true, Classical.not_not, true_implies, false_implies, implies_true, forall_const, and_false, false_and, Nat.le_refl, Nat.zero_le, Bool.false_eq_true, lv_args, s_rl_at, s_gf, s_pf, dn_q, kd_q, cl_q, nf_q, ln_q, tg_q, rr_q, cr_q, u_1, e_lsw, k_ti, List.drop_succ_cons, List.drop_zero, List.drop_nil, List.zip_cons_cons, List.zip_nil_right, List.zip_nil_left, List.all_cons, List.all_nil, Bool.and_true, Bool.and_self, decide_true, decide_false, Option.toList, List.cons_append, List.nil_append, List.append_nil, DX8_fact_0, DX8_fact_1, DX8_fact_2, DX8_fact_3, FLX8, LDX8, b2i_t, hB, hne, x_cl (a := n) (by omega), x_in (a := n) (n := 60) (by omega), n1]
      refine ⟨by omega, by omega, by omega, ?_⟩
      have h9 := lp_X8_fact1 (T := fcA T S n kind value) (S := S) (kind := kind) (value := value) C Rt (show n < 60 by omega) hw0 hN0 hT ?_ (tcC S 61) 0 (by omega)
      · have e0 : nfT (fcA T S n kind value) n (S.1 7 61) (fun k => S.1 2 0 (thC S 61 k)) (fun k => S.1 3 0 (thC S 61 k)) 0 = fcA T S n kind value := by
          unfold nfT
          rw [uX_id (fun j => by rw [uX_oth (by decide), uX_oth (by decide), if_neg (by omega)]), uX_id (fun j => by rw [uX_oth (by decide), if_neg (by omega)]), uX_id (fun j => by rw [if_neg (by omega)])]
        rw [e0] at h9
        exact h9
      · refine srnX8_fact C Rt [173] 40 ?_
        simp only [k_i, s_go, s_1, e_op, e_pi, e_pl, e_pr, e_p0, e_li, e_ll, e_lr, e_lk, e_ins, e_rm, e_to, e_sw, e_cmp, k_c, k_n, k_f, k_v, k_lg, ↓reduceIte, reduceCtorEq, Nat.reduceAdd, Nat.reduceSub, Nat.reduceMul, Nat.reduceEqDiff, Nat.reduceLT, Nat.reduceLeDiff, Int.reduceAdd, Int.reduceSub, Int.reduceNeg, Int.reduceLE, Int.reduceLT, Int.reduceToNat, Int.reduceEq, Int.cast_ofNat_Int, List.mem_cons, List.not_mem_nil, List.length_cons, List.length_nil, List.set_cons_zero, List.set_cons_succ, List.toList_toArray, eq_self, true_and, and_true, and_self, or_true, true_or, false_or, or_false, or_self, not_true_eq_false, not_false_eq_true, Classical.not_not, true_implies, false_implies, implies_true, forall_const, and_false, false_and, Nat.le_refl, Nat.zero_le, Bool.false_eq_true, lv_args, s_rl_at, s_gf, s_pf, dn_q, kd_q, cl_q, nf_q, ln_q, tg_q, rr_q, cr_q, u_1, e_lsw, k_ti, List.drop_succ_cons, List.drop_zero, List.drop_nil, List.zip_cons_cons, List.zip_nil_right, List.zip_nil_left, List.all_cons, List.all_nil, Bool.and_true, Bool.and_self, decide_true, decide_false, Option.toList, List.cons_append, List.nil_append, List.append_nil, DX8_fact_0, DX8_fact_1, DX8_fact_2, DX8_fact_3, FLX8, LDX8, nfT_oth (k2 := 30) (by decide) (by decide) (by decide), n3, x_cl (a := n) (by omega), x_in (a := n) (n := 60) (by omega)]
        refine ⟨by omega, ?_⟩
        have hN2 : rN (fcB T S n kind value) S := by
          unfold rN
          have e : ∀ k2, ¬ k2 = 41 → ¬ k2 = 38 → ¬ k2 = 39 → ¬ k2 = 40 → (fcB T S n kind value).1 k2 = (fcA T S n kind value).1 k2 := fun k2 h1 h2 h3 h4 => by
            funext i' j'
            simp only [u_1, h1, false_and, if_false]
            rw [nfT_oth h2 h3 h4]
            simp only [u_1]
          rw [e 30 (by decide) (by decide) (by decide) (by decide), e 46 (by decide) (by decide) (by decide) (by decide), e 48 (by decide) (by decide) (by decide) (by decide)]
          exact hN0
        have h8 := lp_X8_fact2 (T := fcB T S n kind value) (S := S) (kind := kind) (value := value) C Rt (show n < 60 by omega) hw0 hN2 ?_ (fcC S 61) 0 (by omega)
        · have e0 : nfO (fcB T S n kind value) n (S.1 10 61) 0 = fcB T S n kind value := by
            unfold nfO
            rw [uX_id (fun j => by rw [if_neg (by omega)])]
          rw [e0] at h8
          exact h8
        · have e30 : (fcD T S n kind value).1 30 = (t0 T).1 30 := by
            show (uX (fcB T S n kind value) 42 _).1 30 = _
            rw [uX_oth (by decide)]
            funext i' j'
            simp only [u_1, false_and, if_false, show ¬ ((30 : Nat) = 41) by decide]
            rw [nfT_oth (by decide) (by decide) (by decide)]
            simp only [u_1, false_and, if_false, show ¬ ((30 : Nat) = 37) by decide, show ¬ ((30 : Nat) = 35) by decide]
          refine srnX8_fact C Rt [] 60 ?_
          simp only [k_i, s_go, s_1, e_op, e_pi, e_pl, e_pr, e_p0, e_li, e_ll, e_lr, e_lk, e_ins, e_rm, e_to, e_sw, e_cmp, k_c, k_n, k_f, k_v, k_lg, ↓reduceIte, reduceCtorEq, Nat.reduceAdd, Nat.reduceSub, Nat.reduceMul, Nat.reduceEqDiff, Nat.reduceLT, Nat.reduceLeDiff, Int.reduceAdd, Int.reduceSub, Int.reduceNeg, Int.reduceLE, Int.reduceLT, Int.reduceToNat, Int.reduceEq, Int.cast_ofNat_Int, List.mem_cons, List.not_mem_nil, List.length_cons, List.length_nil, List.set_cons_zero, List.set_cons_succ, List.toList_toArray, eq_self, true_and, and_true, and_self, or_true, true_or, false_or, or_false, or_self, not_true_eq_false, not_false_eq_true, Classical.not_not, true_implies, false_implies, implies_true, forall_const, and_false, false_and, Nat.le_refl, Nat.zero_le, Bool.false_eq_true, lv_args, s_rl_at, s_gf, s_pf, dn_q, kd_q, cl_q, nf_q, ln_q, tg_q, rr_q, cr_q, u_1, e_lsw, k_ti, List.drop_succ_cons, List.drop_zero, List.drop_nil, List.zip_cons_cons, List.zip_nil_right, List.zip_nil_left, List.all_cons, List.all_nil, Bool.and_true, Bool.and_self, decide_true, decide_false, Option.toList, List.cons_append, List.nil_append, List.append_nil, DX8_fact_0, DX8_fact_1, DX8_fact_2, DX8_fact_3, FLX8, LDX8, e30, hB, x_cl (a := n) (by omega), x_in (a := n) (n := 60) (by omega), nI_1]
          simp [isP, fctC, fctM, hd, hx, h60]
          omega
