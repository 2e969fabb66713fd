/-! FactLog$Disk: opening -/
/-- a number of k bytes from place p on -/
def nat_ (d : Nat → Int32) (p : Nat) : Nat → Int64
  | 0 => 0
  | k + 1 => nat_ d p k <<< ((8 : Int32).toInt64 &&& 63) ||| (d (p + k)).toInt64
section
variable {V : pV} {l : Launch} {A : pA} {post : Option Value → pS → Prop} {S : pS}
set_option maxHeartbeats 4000000 in
set_option maxRecDepth 100000 in
theorem lp_numberAt (C : e_CX1_numberAt V l) (Rt : e_RX1_numberAt V (s_P A post)) {p n : Nat} (hp : p + n ≤ 3532) (hpo : post (some (.long (nat_ (S.1 12 0) p n))) S) : ∀ k i, i + k = n → V 0 0 5 [(0, .ref (ad A 11 0)), (1, .int (nI p)), (2, .int (nI n)), (3, .long (nat_ (S.1 12 0) p i)), (5, .int (nI i))] [] (gS A S) := by
  intro k
  induction k with
  | zero =>
    intro i hi
    have hi2 : i = n := by omega
    subst hi2
    refine srnX1_numberAt C Rt [5] 40 ?_
    simp only [k_i, s_go, s_1, e_op, e_pi, e_pl, e_pr, e_p0, e_li, e_ll, e_lr, e_lk, e_ins, e_rm, e_to, e_sw, e_cmp, k_c, k_n, k_f, k_v, k_lg, ↓reduceIte, reduceCtorEq, Nat.reduceAdd, Nat.reduceSub, Nat.reduceMul, Nat.reduceEqDiff, Nat.reduceLT, Nat.reduceLeDiff, Int.reduceAdd, Int.reduceSub, Int.reduceNeg, Int.reduceLE, Int.reduceLT, Int.reduceToNat, Int.reduceEq, Int.cast_ofNat_Int, List.mem_cons, List.not_mem_nil, List.length_cons, List.length_nil, List.set_cons_zero, List.set_cons_succ, List.toList_toArray, eq_self, true_and, and_true, and_self, or_true, true_or, false_or, or_false, or_self, not_true_eq_false, not_false_eq_true, Classical.not_not, true_implies, false_implies, implies_true, forall_const, and_false, false_and, Nat.le_refl, Nat.zero_le, Bool.false_eq_true, lv_args, s_rl_at, s_gf, s_pf, dn_q, kd_q, cl_q, nf_q, ln_q, tg_q, rr_q, cr_q, u_1, e_lsw, k_ti, List.drop_succ_cons, List.drop_zero, List.drop_nil, List.zip_cons_cons, List.zip_nil_right, List.zip_nil_left, List.all_cons, List.all_nil, Bool.and_true, Bool.and_self, decide_true, decide_false, Option.toList, List.cons_append, List.nil_append, List.append_nil, DX1_numberAt_0, FLX1, LDX1, x_le (a := i) (b := i) (by omega) (by omega)]
    exact hpo
  | succ k ih =>
    intro i hi
    refine srnX1_numberAt C Rt [5] 40 ?_
    simp only [k_i, s_go, s_1, e_op, e_pi, e_pl, e_pr, e_p0, e_li, e_ll, e_lr, e_lk, e_ins, e_rm, e_to, e_sw, e_cmp, k_c, k_n, k_f, k_v, k_lg, ↓reduceIte, reduceCtorEq, Nat.reduceAdd, Nat.reduceSub, Nat.reduceMul, Nat.reduceEqDiff, Nat.reduceLT, Nat.reduceLeDiff, Int.reduceAdd, Int.reduceSub, Int.reduceNeg, Int.reduceLE, Int.reduceLT, Int.reduceToNat, Int.reduceEq, Int.cast_ofNat_Int, List.mem_cons, List.not_mem_nil, List.length_cons, List.length_nil, List.set_cons_zero, List.set_cons_succ, List.toList_toArray, eq_self, true_and, and_true, and_self, or_true, true_or, false_or, or_false, or_self, not_true_eq_false, not_false_eq_true, Classical.not_not, true_implies, false_implies, implies_true, forall_const, and_false, false_and, Nat.le_refl, Nat.zero_le, Bool.false_eq_true, lv_args, s_rl_at, s_gf, s_pf, dn_q, kd_q, cl_q, nf_q, ln_q, tg_q, rr_q, cr_q, u_1, e_lsw, k_ti, List.drop_succ_cons, List.drop_zero, List.drop_nil, List.zip_cons_cons, List.zip_nil_right, List.zip_nil_left, List.all_cons, List.all_nil, Bool.and_true, Bool.and_self, decide_true, decide_false, Option.toList, List.cons_append, List.nil_append, List.append_nil, DX1_numberAt_0, FLX1, LDX1, x_le (a := n) (b := i) (by omega) (by omega), nI_add, x_cl (a := p + i) (by omega), x_in (a := p + i) (n := 3532) (by omega), nI_1]
    exact ⟨fun h => by omega, fun _ => ⟨by omega, ih (i + 1) (by omega)⟩⟩
end
set_option maxHeartbeats 4000000 in
set_option maxRecDepth 100000 in
theorem m_X1_numberAt (l : Launch) (A : pA) (S : pS) {p n : Nat} (hp : p + n ≤ 3532) : e_MX1_numberAt l [.ref (ad A 11 0), .int (nI p), .int (nI n)] (gS A S) (s_P A (fun v S2 => S = S2 ∧ v = some (.long (nat_ (S.1 12 0) p n)))) := by
  refine ofX1_numberAt (Nat.le_of_ble_eq_true rfl) ?_
  intro V C Rt
  refine srnX1_numberAt C Rt [5] 5 ?_
  simp only [k_i, s_go, s_1, e_op, e_pi, e_pl, e_pr, e_p0, e_li, e_ll, e_lr, e_lk, e_ins, e_rm, e_to, e_sw, e_cmp, k_c, k_n, k_f, k_v, k_lg, ↓reduceIte, reduceCtorEq, Nat.reduceAdd, Nat.reduceSub, Nat.reduceMul, Nat.reduceEqDiff, Nat.reduceLT, Nat.reduceLeDiff, Int.reduceAdd, Int.reduceSub, Int.reduceNeg, Int.reduceLE, Int.reduceLT, Int.reduceToNat, Int.reduceEq, Int.cast_ofNat_Int, List.mem_cons, List.not_mem_nil, List.length_cons, List.length_nil, List.set_cons_zero, List.set_cons_succ, List.toList_toArray, eq_self, true_and, and_true, and_self, or_true, true_or, false_or, or_false, or_self, not_true_eq_false, not_false_eq_true, Classical.not_not, true_implies, false_implies, implies_true, forall_const, and_false, false_and, Nat.le_refl, Nat.zero_le, Bool.false_eq_true, lv_args, s_rl_at, s_gf, s_pf, dn_q, kd_q, cl_q, nf_q, ln_q, tg_q, rr_q, cr_q, u_1, e_lsw, k_ti, List.drop_succ_cons, List.drop_zero, List.drop_nil, List.zip_cons_cons, List.zip_nil_right, List.zip_nil_left, List.all_cons, List.all_nil, Bool.and_true, Bool.and_self, decide_true, decide_false, Option.toList, List.cons_append, List.nil_append, List.append_nil, DX1_numberAt_0, FLX1, LDX1]
  exact lp_numberAt C Rt hp ⟨rfl, rfl⟩ n 0 (by omega)
abbrev gnO (d : Nat → Int32) (h : Nat) : Int32 := (nat_ d (3500 + h * 16) 4).toInt32
abbrev rwO (d : Nat → Int32) (h : Nat) : Int32 := (nat_ d (3500 + h * 16 + 4) 4).toInt32
set_option maxHeartbeats 4000000 in
set_option maxRecDepth 100000 in
theorem m_X1_generationOf (l : Launch) (A : pA) (S : pS) {h : Nat} (hh : h < 2) : e_MX1_generationOf l [.ref (ad A 11 0), .int (nI h)] (gS A S) (s_P A (fun v S2 => S = S2 ∧ v = some (.int (gnO (S.1 12 0) h)))) := by
  refine ofX1_generationOf (Nat.le_of_ble_eq_true rfl) ?_
  intro V C Rt
  refine srnX1_generationOf C Rt [] 20 ?_
  simp only [k_i, s_go, s_1, e_op, e_pi, e_pl, e_pr, e_p0, e_li, e_ll, e_lr, e_lk, e_ins, e_rm, e_to, e_sw, e_cmp, k_c, k_n, k_f, k_v, k_lg, ↓reduceIte, reduceCtorEq, Nat.reduceAdd, Nat.reduceSub, Nat.reduceMul, Nat.reduceEqDiff, Nat.reduceLT, Nat.reduceLeDiff, Int.reduceAdd, Int.reduceSub, Int.reduceNeg, Int.reduceLE, Int.reduceLT, Int.reduceToNat, Int.reduceEq, Int.cast_ofNat_Int, List.mem_cons, List.not_mem_nil, List.length_cons, List.length_nil, List.set_cons_zero, List.set_cons_succ, List.toList_toArray, eq_self, true_and, and_true, and_self, or_true, true_or, false_or, or_false, or_self, not_true_eq_false, not_false_eq_true, Classical.not_not, true_implies, false_implies, implies_true, forall_const, and_false, false_and, Nat.le_refl, Nat.zero_le, Bool.false_eq_true, lv_args, s_rl_at, s_gf, s_pf, dn_q, kd_q, cl_q, nf_q, ln_q, tg_q, rr_q, cr_q, u_1, e_lsw, k_ti, List.drop_succ_cons, List.drop_zero, List.drop_nil, List.zip_cons_cons, List.zip_nil_right, List.zip_nil_left, List.all_cons, List.all_nil, Bool.and_true, Bool.and_self, decide_true, decide_false, Option.toList, List.cons_append, List.nil_append, List.append_nil, DX1_generationOf_0, FLX1, LDX1]
  refine sX1_generationOf_2 C (m_X1_headPlace l _ h) (hcat := Nat.le_of_ble_eq_true rfl) (k := ?_)
  rintro v2 G2 ⟨rfl, rfl⟩
  refine srnX1_generationOf C Rt [] 20 ?_
  simp only [k_i, s_go, s_1, e_op, e_pi, e_pl, e_pr, e_p0, e_li, e_ll, e_lr, e_lk, e_ins, e_rm, e_to, e_sw, e_cmp, k_c, k_n, k_f, k_v, k_lg, ↓reduceIte, reduceCtorEq, Nat.reduceAdd, Nat.reduceSub, Nat.reduceMul, Nat.reduceEqDiff, Nat.reduceLT, Nat.reduceLeDiff, Int.reduceAdd, Int.reduceSub, Int.reduceNeg, Int.reduceLE, Int.reduceLT, Int.reduceToNat, Int.reduceEq, Int.cast_ofNat_Int, List.mem_cons, List.not_mem_nil, List.length_cons, List.length_nil, List.set_cons_zero, List.set_cons_succ, List.toList_toArray, eq_self, true_and, and_true, and_self, or_true, true_or, false_or, or_false, or_self, not_true_eq_false, not_false_eq_true, Classical.not_not, true_implies, false_implies, implies_true, forall_const, and_false, false_and, Nat.le_refl, Nat.zero_le, Bool.false_eq_true, lv_args, s_rl_at, s_gf, s_pf, dn_q, kd_q, cl_q, nf_q, ln_q, tg_q, rr_q, cr_q, u_1, e_lsw, k_ti, List.drop_succ_cons, List.drop_zero, List.drop_nil, List.zip_cons_cons, List.zip_nil_right, List.zip_nil_left, List.all_cons, List.all_nil, Bool.and_true, Bool.and_self, decide_true, decide_false, Option.toList, List.cons_append, List.nil_append, List.append_nil, DX1_generationOf_0, FLX1, LDX1, (show (4 : Int32) = nI 4 from rfl)]
  refine sX1_generationOf_6 C (m_X1_numberAt l A S (show 3500 + h * 16 + 4 ≤ 3532 by omega)) (s_obj (show 0 < 1 by decide) rfl) (hcat := Nat.le_of_ble_eq_true rfl) (k := ?_)
  rintro v2 G2 ⟨S2, rfl, rfl, rfl⟩
  refine srnX1_generationOf C Rt [] 20 ?_
  simp only [k_i, s_go, s_1, e_op, e_pi, e_pl, e_pr, e_p0, e_li, e_ll, e_lr, e_lk, e_ins, e_rm, e_to, e_sw, e_cmp, k_c, k_n, k_f, k_v, k_lg, ↓reduceIte, reduceCtorEq, Nat.reduceAdd, Nat.reduceSub, Nat.reduceMul, Nat.reduceEqDiff, Nat.reduceLT, Nat.reduceLeDiff, Int.reduceAdd, Int.reduceSub, Int.reduceNeg, Int.reduceLE, Int.reduceLT, Int.reduceToNat, Int.reduceEq, Int.cast_ofNat_Int, List.mem_cons, List.not_mem_nil, List.length_cons, List.length_nil, List.set_cons_zero, List.set_cons_succ, List.toList_toArray, eq_self, true_and, and_true, and_self, or_true, true_or, false_or, or_false, or_self, not_true_eq_false, not_false_eq_true, Classical.not_not, true_implies, false_implies, implies_true, forall_const, and_false, false_and, Nat.le_refl, Nat.zero_le, Bool.false_eq_true, lv_args, s_rl_at, s_gf, s_pf, dn_q, kd_q, cl_q, nf_q, ln_q, tg_q, rr_q, cr_q, u_1, e_lsw, k_ti, List.drop_succ_cons, List.drop_zero, List.drop_nil, List.zip_cons_cons, List.zip_nil_right, List.zip_nil_left, List.all_cons, List.all_nil, Bool.and_true, Bool.and_self, decide_true, decide_false, Option.toList, List.cons_append, List.nil_append, List.append_nil, DX1_generationOf_0, FLX1, LDX1]
set_option maxHeartbeats 4000000 in
set_option maxRecDepth 100000 in
theorem m_X1_rowsOf (l : Launch) (A : pA) (S : pS) {h : Nat} (hh : h < 2) : e_MX1_rowsOf l [.ref (ad A 11 0), .int (nI h)] (gS A S) (s_P A (fun v S2 => S = S2 ∧ v = some (.int (rwO (S.1 12 0) h)))) := by
  refine ofX1_rowsOf (Nat.le_of_ble_eq_true rfl) ?_
  intro V C Rt
  refine srnX1_rowsOf C Rt [] 20 ?_
  simp only [k_i, s_go, s_1, e_op, e_pi, e_pl, e_pr, e_p0, e_li, e_ll, e_lr, e_lk, e_ins, e_rm, e_to, e_sw, e_cmp, k_c, k_n, k_f, k_v, k_lg, ↓reduceIte, reduceCtorEq, Nat.reduceAdd, Nat.reduceSub, Nat.reduceMul, Nat.reduceEqDiff, Nat.reduceLT, Nat.reduceLeDiff, Int.reduceAdd, Int.reduceSub, Int.reduceNeg, Int.reduceLE, Int.reduceLT, Int.reduceToNat, Int.reduceEq, Int.cast_ofNat_Int, List.mem_cons, List.not_mem_nil, List.length_cons, List.length_nil, List.set_cons_zero, List.set_cons_succ, List.toList_toArray, eq_self, true_and, and_true, and_self, or_true, true_or, false_or, or_false, or_self, not_true_eq_false, not_false_eq_true, Classical.not_not, true_implies, false_implies, implies_true, forall_const, and_false, false_and, Nat.le_refl, Nat.zero_le, Bool.false_eq_true, lv_args, s_rl_at, s_gf, s_pf, dn_q, kd_q, cl_q, nf_q, ln_q, tg_q, rr_q, cr_q, u_1, e_lsw, k_ti, List.drop_succ_cons, List.drop_zero, List.drop_nil, List.zip_cons_cons, List.zip_nil_right, List.zip_nil_left, List.all_cons, List.all_nil, Bool.and_true, Bool.and_self, decide_true, decide_false, Option.toList, List.cons_append, List.nil_append, List.append_nil, DX1_rowsOf_0, FLX1, LDX1]
  refine sX1_rowsOf_2 C (m_X1_headPlace l _ h) (hcat := Nat.le_of_ble_eq_true rfl) (k := ?_)
  rintro v2 G2 ⟨rfl, rfl⟩
  refine srnX1_rowsOf C Rt [] 20 ?_
  simp only [k_i, s_go, s_1, e_op, e_pi, e_pl, e_pr, e_p0, e_li, e_ll, e_lr, e_lk, e_ins, e_rm, e_to, e_sw, e_cmp, k_c, k_n, k_f, k_v, k_lg, ↓reduceIte, reduceCtorEq, Nat.reduceAdd, Nat.reduceSub, Nat.reduceMul, Nat.reduceEqDiff, Nat.reduceLT, Nat.reduceLeDiff, Int.reduceAdd, Int.reduceSub, Int.reduceNeg, Int.reduceLE, Int.reduceLT, Int.reduceToNat, Int.reduceEq, Int.cast_ofNat_Int, List.mem_cons, List.not_mem_nil, List.length_cons, List.length_nil, List.set_cons_zero, List.set_cons_succ, List.toList_toArray, eq_self, true_and, and_true, and_self, or_true, true_or, false_or, or_false, or_self, not_true_eq_false, not_false_eq_true, Classical.not_not, true_implies, false_implies, implies_true, forall_const, and_false, false_and, Nat.le_refl, Nat.zero_le, Bool.false_eq_true, lv_args, s_rl_at, s_gf, s_pf, dn_q, kd_q, cl_q, nf_q, ln_q, tg_q, rr_q, cr_q, u_1, e_lsw, k_ti, List.drop_succ_cons, List.drop_zero, List.drop_nil, List.zip_cons_cons, List.zip_nil_right, List.zip_nil_left, List.all_cons, List.all_nil, Bool.and_true, Bool.and_self, decide_true, decide_false, Option.toList, List.cons_append, List.nil_append, List.append_nil, DX1_rowsOf_0, FLX1, LDX1, (show (4 : Int32) = nI 4 from rfl), nI_add]
  refine sX1_rowsOf_8 C (m_X1_numberAt l A S (show 3500 + h * 16 + 4 + 4 ≤ 3532 by omega)) (s_obj (show 0 < 1 by decide) rfl) (hcat := Nat.le_of_ble_eq_true rfl) (k := ?_)
  rintro v2 G2 ⟨S2, rfl, rfl, rfl⟩
  refine srnX1_rowsOf C Rt [] 20 ?_
  simp only [k_i, s_go, s_1, e_op, e_pi, e_pl, e_pr, e_p0, e_li, e_ll, e_lr, e_lk, e_ins, e_rm, e_to, e_sw, e_cmp, k_c, k_n, k_f, k_v, k_lg, ↓reduceIte, reduceCtorEq, Nat.reduceAdd, Nat.reduceSub, Nat.reduceMul, Nat.reduceEqDiff, Nat.reduceLT, Nat.reduceLeDiff, Int.reduceAdd, Int.reduceSub, Int.reduceNeg, Int.reduceLE, Int.reduceLT, Int.reduceToNat, Int.reduceEq, Int.cast_ofNat_Int, List.mem_cons, List.not_mem_nil, List.length_cons, List.length_nil, List.set_cons_zero, List.set_cons_succ, List.toList_toArray, eq_self, true_and, and_true, and_self, or_true, true_or, false_or, or_false, or_self, not_true_eq_false, not_false_eq_true, Classical.not_not, true_implies, false_implies, implies_true, forall_const, and_false, false_and, Nat.le_refl, Nat.zero_le, Bool.false_eq_true, lv_args, s_rl_at, s_gf, s_pf, dn_q, kd_q, cl_q, nf_q, ln_q, tg_q, rr_q, cr_q, u_1, e_lsw, k_ti, List.drop_succ_cons, List.drop_zero, List.drop_nil, List.zip_cons_cons, List.zip_nil_right, List.zip_nil_left, List.all_cons, List.all_nil, Bool.and_true, Bool.and_self, decide_true, decide_false, Option.toList, List.cons_append, List.nil_append, List.append_nil, DX1_rowsOf_0, FLX1, LDX1]
/-- the first row of a head that is not so -/
def wrO (x : Int32) (right : Nat) : Int32 := if x < 0 ∨ 60 < x then 60 else if nI right < x then nI right else -4
set_option maxHeartbeats 4000000 in
set_option maxRecDepth 100000 in
theorem m_X1_firstWrongRow (l : Launch) (A : pA) (S : pS) {h right : Nat} (hh : h < 2) : e_MX1_firstWrongRow l [.ref (ad A 11 0), .int (nI h), .int (nI right)] (gS A S) (s_P A (fun v S2 => S = S2 ∧ v = some (.int (wrO (rwO (S.1 12 0) h) right)))) := by
  refine ofX1_firstWrongRow (Nat.le_of_ble_eq_true rfl) ?_
  intro V C Rt
  refine srnX1_firstWrongRow C Rt [] 20 ?_
  simp only [k_i, s_go, s_1, e_op, e_pi, e_pl, e_pr, e_p0, e_li, e_ll, e_lr, e_lk, e_ins, e_rm, e_to, e_sw, e_cmp, k_c, k_n, k_f, k_v, k_lg, ↓reduceIte, reduceCtorEq, Nat.reduceAdd, Nat.reduceSub, Nat.reduceMul, Nat.reduceEqDiff, Nat.reduceLT, Nat.reduceLeDiff, Int.reduceAdd, Int.reduceSub, Int.reduceNeg, Int.reduceLE, Int.reduceLT, Int.reduceToNat, Int.reduceEq, Int.cast_ofNat_Int, List.mem_cons, List.not_mem_nil, List.length_cons, List.length_nil, List.set_cons_zero, List.set_cons_succ, List.toList_toArray, eq_self, true_and, and_true, and_self, or_true, true_or, false_or, or_false, or_self, not_true_eq_false, not_false_eq_true, Classical.not_not, true_implies, false_implies, implies_true, forall_const, and_false, false_and, Nat.le_refl, Nat.zero_le, Bool.false_eq_true, lv_args, s_rl_at, s_gf, s_pf, dn_q, kd_q, cl_q, nf_q, ln_q, tg_q, rr_q, cr_q, u_1, e_lsw, k_ti, List.drop_succ_cons, List.drop_zero, List.drop_nil, List.zip_cons_cons, List.zip_nil_right, List.zip_nil_left, List.all_cons, List.all_nil, Bool.and_true, Bool.and_self, decide_true, decide_false, Option.toList, List.cons_append, List.nil_append, List.append_nil, DX1_firstWrongRow_0, FLX1, LDX1]
  refine sX1_firstWrongRow_2 C (m_X1_rowsOf l A S hh) (s_obj (show 0 < 1 by decide) rfl) (hcat := Nat.le_of_ble_eq_true rfl) (k := ?_)
  rintro v2 G2 ⟨S2, rfl, rfl, rfl⟩
  refine srnX1_firstWrongRow C Rt [] 40 ?_
  simp only [k_i, s_go, s_1, e_op, e_pi, e_pl, e_pr, e_p0, e_li, e_ll, e_lr, e_lk, e_ins, e_rm, e_to, e_sw, e_cmp, k_c, k_n, k_f, k_v, k_lg, ↓reduceIte, reduceCtorEq, Nat.reduceAdd, Nat.reduceSub, Nat.reduceMul, Nat.reduceEqDiff, Nat.reduceLT, Nat.reduceLeDiff, Int.reduceAdd, Int.reduceSub, Int.reduceNeg, Int.reduceLE, Int.reduceLT, Int.reduceToNat, Int.reduceEq, Int.cast_ofNat_Int, List.mem_cons, List.not_mem_nil, List.length_cons, List.length_nil, List.set_cons_zero, List.set_cons_succ, List.toList_toArray, eq_self, true_and, and_true, and_self, or_true, true_or, false_or, or_false, or_self, not_true_eq_false, not_false_eq_true, Classical.not_not, true_implies, false_implies, implies_true, forall_const, and_false, false_and, Nat.le_refl, Nat.zero_le, Bool.false_eq_true, lv_args, s_rl_at, s_gf, s_pf, dn_q, kd_q, cl_q, nf_q, ln_q, tg_q, rr_q, cr_q, u_1, e_lsw, k_ti, List.drop_succ_cons, List.drop_zero, List.drop_nil, List.zip_cons_cons, List.zip_nil_right, List.zip_nil_left, List.all_cons, List.all_nil, Bool.and_true, Bool.and_self, decide_true, decide_false, Option.toList, List.cons_append, List.nil_append, List.append_nil, DX1_firstWrongRow_0, FLX1, LDX1]
  refine ⟨fun h1 => by simp [wrO, h1], fun h1 => ⟨fun h2 => ⟨fun h3 => ?_, fun h3 => ?_⟩, fun h2 => ?_⟩⟩
  · have h4 : ¬ (60 : Int32) < rwO (S.1 12 0) h := Int32.not_lt.mpr h2
    simp [wrO, h1, h4, h3]
  · have h4 : ¬ (60 : Int32) < rwO (S.1 12 0) h := Int32.not_lt.mpr h2
    simp [wrO, h1, h4, h3]
  · have h4 : (60 : Int32) < rwO (S.1 12 0) h := Int32.not_le.mp h2
    simp [wrO, h4]
/-- the sum of k bytes from place p on -/
def swd (d : Nat → Int32) (p : Nat) (σ : Int64) : Nat → Int64
  | 0 => σ
  | k + 1 => sw (swd d p σ k) (d (p + k))
section
variable {V : pV} {l : Launch} {A : pA} {post : Option Value → pS → Prop} {S : pS}
set_option maxHeartbeats 4000000 in
set_option maxRecDepth 100000 in
theorem lp_isWhole (C : e_CX1_isWhole V l) (Rt : e_RX1_isWhole V (s_P A post)) {h : Nat} {σ : Int64} (hh : h < 2) {X Y : Int64} (hX : swd (S.1 12 0) (3500 + h * 16) σ 8 = X) (hY : nat_ (S.1 12 0) (3500 + h * 16 + 8) 8 = Y) (hpo : post (some (.int (b2i (decide (X = Y))))) S) : ∀ k i, i + k = 8 → V 0 0 32 [(0, .ref (ad A 11 0)), (1, .int (nI h)), (2, .int (nI (3500 + h * 16))), (3, .long (swd (S.1 12 0) (3500 + h * 16) σ i)), (5, .int (nI i))] [] (gS A S) := by
  intro k
  induction k with
  | zero =>
    intro i hi
    have hi2 : i = 8 := by omega
    rw [hi2, hX]
    refine srnX1_isWhole C Rt [32] 40 ?_
    simp only [k_i, s_go, s_1, e_op, e_pi, e_pl, e_pr, e_p0, e_li, e_ll, e_lr, e_lk, e_ins, e_rm, e_to, e_sw, e_cmp, k_c, k_n, k_f, k_v, k_lg, ↓reduceIte, reduceCtorEq, Nat.reduceAdd, Nat.reduceSub, Nat.reduceMul, Nat.reduceEqDiff, Nat.reduceLT, Nat.reduceLeDiff, Int.reduceAdd, Int.reduceSub, Int.reduceNeg, Int.reduceLE, Int.reduceLT, Int.reduceToNat, Int.reduceEq, Int.cast_ofNat_Int, List.mem_cons, List.not_mem_nil, List.length_cons, List.length_nil, List.set_cons_zero, List.set_cons_succ, List.toList_toArray, eq_self, true_and, and_true, and_self, or_true, true_or, false_or, or_false, or_self, not_true_eq_false, not_false_eq_true, Classical.not_not, true_implies, false_implies, implies_true, forall_const, and_false, false_and, Nat.le_refl, Nat.zero_le, Bool.false_eq_true, lv_args, s_rl_at, s_gf, s_pf, dn_q, kd_q, cl_q, nf_q, ln_q, tg_q, rr_q, cr_q, u_1, e_lsw, k_ti, List.drop_succ_cons, List.drop_zero, List.drop_nil, List.zip_cons_cons, List.zip_nil_right, List.zip_nil_left, List.all_cons, List.all_nil, Bool.and_true, Bool.and_self, decide_true, decide_false, Option.toList, List.cons_append, List.nil_append, List.append_nil, DX1_isWhole_0, DX1_isWhole_1, FLX1, LDX1, (show (8 : Int32) = nI 8 from rfl), x_le (a := 8) (b := 8) (by omega) (by omega), nI_add]
    have hN := m_X1_numberAt l A S (show 3500 + h * 16 + 8 + 8 ≤ 3532 by omega)
    rw [hY] at hN
    refine sX1_isWhole_67 C hN (s_obj (show 0 < 1 by decide) rfl) (hcat := Nat.le_of_ble_eq_true rfl) (k := ?_)
    rintro v2 G2 ⟨S2, rfl, rfl, rfl⟩
    refine srnX1_isWhole C Rt [32] 40 ?_
    simp only [k_i, s_go, s_1, e_op, e_pi, e_pl, e_pr, e_p0, e_li, e_ll, e_lr, e_lk, e_ins, e_rm, e_to, e_sw, e_cmp, k_c, k_n, k_f, k_v, k_lg, ↓reduceIte, reduceCtorEq, Nat.reduceAdd, Nat.reduceSub, Nat.reduceMul, Nat.reduceEqDiff, Nat.reduceLT, Nat.reduceLeDiff, Int.reduceAdd, Int.reduceSub, Int.reduceNeg, Int.reduceLE, Int.reduceLT, Int.reduceToNat, Int.reduceEq, Int.cast_ofNat_Int, List.mem_cons, List.not_mem_nil, List.length_cons, List.length_nil, List.set_cons_zero, List.set_cons_succ, List.toList_toArray, eq_self, true_and, and_true, and_self, or_true, true_or, false_or, or_false, or_self, not_true_eq_false, not_false_eq_true, Classical.not_not, true_implies, false_implies, implies_true, forall_const, and_false, false_and, Nat.le_refl, Nat.zero_le, Bool.false_eq_true, lv_args, s_rl_at, s_gf, s_pf, dn_q, kd_q, cl_q, nf_q, ln_q, tg_q, rr_q, cr_q, u_1, e_lsw, k_ti, List.drop_succ_cons, List.drop_zero, List.drop_nil, List.zip_cons_cons, List.zip_nil_right, List.zip_nil_left, List.all_cons, List.all_nil, Bool.and_true, Bool.and_self, decide_true, decide_false, Option.toList, List.cons_append, List.nil_append, List.append_nil, DX1_isWhole_0, DX1_isWhole_1, FLX1, LDX1]
    refine ⟨fun h1 => ?_, fun h1 => ?_⟩
    · simpa [h1, b2i] using hpo
    · simpa [h1, b2i] using hpo
  | succ k ih =>
    intro i hi
    refine srnX1_isWhole C Rt [32] 40 ?_
    simp only [k_i, s_go, s_1, e_op, e_pi, e_pl, e_pr, e_p0, e_li, e_ll, e_lr, e_lk, e_ins, e_rm, e_to, e_sw, e_cmp, k_c, k_n, k_f, k_v, k_lg, ↓reduceIte, reduceCtorEq, Nat.reduceAdd, Nat.reduceSub, Nat.reduceMul, Nat.reduceEqDiff, Nat.reduceLT, Nat.reduceLeDiff, Int.reduceAdd, Int.reduceSub, Int.reduceNeg, Int.reduceLE, Int.reduceLT, Int.reduceToNat, Int.reduceEq, Int.cast_ofNat_Int, List.mem_cons, List.not_mem_nil, List.length_cons, List.length_nil, List.set_cons_zero, List.set_cons_succ, List.toList_toArray, eq_self, true_and, and_true, and_self, or_true, true_or, false_or, or_false, or_self, not_true_eq_false, not_false_eq_true, Classical.not_not, true_implies, false_implies, implies_true, forall_const, and_false, false_and, Nat.le_refl, Nat.zero_le, Bool.false_eq_true, lv_args, s_rl_at, s_gf, s_pf, dn_q, kd_q, cl_q, nf_q, ln_q, tg_q, rr_q, cr_q, u_1, e_lsw, k_ti, List.drop_succ_cons, List.drop_zero, List.drop_nil, List.zip_cons_cons, List.zip_nil_right, List.zip_nil_left, List.all_cons, List.all_nil, Bool.and_true, Bool.and_self, decide_true, decide_false, Option.toList, List.cons_append, List.nil_append, List.append_nil, DX1_isWhole_0, DX1_isWhole_1, FLX1, LDX1, (show (8 : Int32) = nI 8 from rfl), x_le (a := 8) (b := i) (by omega) (by omega), nI_add, x_cl (a := 3500 + h * 16 + i) (by omega), x_in (a := 3500 + h * 16 + i) (n := 3532) (by omega)]
    refine ⟨fun h => by omega, fun _ => ⟨by omega, ?_⟩⟩
    refine sX1_isWhole_49 C (m_sumWith l _ _ _) (hcat := Nat.le_of_ble_eq_true rfl) (k := ?_)
    rintro v2 G2 ⟨rfl, rfl⟩
    refine srnX1_isWhole C Rt [32] 40 ?_
    simp only [k_i, s_go, s_1, e_op, e_pi, e_pl, e_pr, e_p0, e_li, e_ll, e_lr, e_lk, e_ins, e_rm, e_to, e_sw, e_cmp, k_c, k_n, k_f, k_v, k_lg, ↓reduceIte, reduceCtorEq, Nat.reduceAdd, Nat.reduceSub, Nat.reduceMul, Nat.reduceEqDiff, Nat.reduceLT, Nat.reduceLeDiff, Int.reduceAdd, Int.reduceSub, Int.reduceNeg, Int.reduceLE, Int.reduceLT, Int.reduceToNat, Int.reduceEq, Int.cast_ofNat_Int, List.mem_cons, List.not_mem_nil, List.length_cons, List.length_nil, List.set_cons_zero, List.set_cons_succ, List.toList_toArray, eq_self, true_and, and_true, and_self, or_true, true_or, false_or, or_false, or_self, not_true_eq_false, not_false_eq_true, Classical.not_not, true_implies, false_implies, implies_true, forall_const, and_false, false_and, Nat.le_refl, Nat.zero_le, Bool.false_eq_true, lv_args, s_rl_at, s_gf, s_pf, dn_q, kd_q, cl_q, nf_q, ln_q, tg_q, rr_q, cr_q, u_1, e_lsw, k_ti, List.drop_succ_cons, List.drop_zero, List.drop_nil, List.zip_cons_cons, List.zip_nil_right, List.zip_nil_left, List.all_cons, List.all_nil, Bool.and_true, Bool.and_self, decide_true, decide_false, Option.toList, List.cons_append, List.nil_append, List.append_nil, DX1_isWhole_0, DX1_isWhole_1, FLX1, LDX1, nI_1]
    exact ih (i + 1) (by omega)
end
set_option maxHeartbeats 4000000 in
set_option maxRecDepth 100000 in
theorem m_X1_isWhole (l : Launch) (A : pA) (S : pS) {h : Nat} (hh : h < 2) (hr : S.1 13 0 h = -4 → ∃ q : Nat, q ≤ 60 ∧ rwO (S.1 12 0) h = nI q) : e_MX1_isWhole l [.ref (ad A 11 0), .int (nI h)] (gS A S) (s_P A (fun v S2 => S = S2 ∧ v = some (.int (b2i (decide (S.1 13 0 h = -4 ∧ swd (S.1 12 0) (3500 + h * 16) (S.2.1 16 0 (nN (rwO (S.1 12 0) h))) 8 = nat_ (S.1 12 0) (3500 + h * 16 + 8) 8)))))) := by
  refine ofX1_isWhole (Nat.le_of_ble_eq_true rfl) ?_
  intro V C Rt
  refine srnX1_isWhole C Rt [] 40 ?_
  simp only [k_i, s_go, s_1, e_op, e_pi, e_pl, e_pr, e_p0, e_li, e_ll, e_lr, e_lk, e_ins, e_rm, e_to, e_sw, e_cmp, k_c, k_n, k_f, k_v, k_lg, ↓reduceIte, reduceCtorEq, Nat.reduceAdd, Nat.reduceSub, Nat.reduceMul, Nat.reduceEqDiff, Nat.reduceLT, Nat.reduceLeDiff, Int.reduceAdd, Int.reduceSub, Int.reduceNeg, Int.reduceLE, Int.reduceLT, Int.reduceToNat, Int.reduceEq, Int.cast_ofNat_Int, List.mem_cons, List.not_mem_nil, List.length_cons, List.length_nil, List.set_cons_zero, List.set_cons_succ, List.toList_toArray, eq_self, true_and, and_true, and_self, or_true, true_or, false_or, or_false, or_self, not_true_eq_false, not_false_eq_true, Classical.not_not, true_implies, false_implies, implies_true, forall_const, and_false, false_and, Nat.le_refl, Nat.zero_le, Bool.false_eq_true, lv_args, s_rl_at, s_gf, s_pf, dn_q, kd_q, cl_q, nf_q, ln_q, tg_q, rr_q, cr_q, u_1, e_lsw, k_ti, List.drop_succ_cons, List.drop_zero, List.drop_nil, List.zip_cons_cons, List.zip_nil_right, List.zip_nil_left, List.all_cons, List.all_nil, Bool.and_true, Bool.and_self, decide_true, decide_false, Option.toList, List.cons_append, List.nil_append, List.append_nil, DX1_isWhole_0, DX1_isWhole_1, FLX1, LDX1, x_cl (a := h) (by omega), x_in (a := h) (n := 2) (by omega)]
  refine ⟨by omega, fun h4 => ?_, fun h4 => by simp [h4, b2i]⟩
  obtain ⟨q, hq, eq⟩ := hr h4
  refine sX1_isWhole_14 C (m_X1_headPlace l _ h) (hcat := Nat.le_of_ble_eq_true rfl) (k := ?_)
  rintro v2 G2 ⟨rfl, rfl⟩
  refine srnX1_isWhole C Rt [] 40 ?_
  simp only [k_i, s_go, s_1, e_op, e_pi, e_pl, e_pr, e_p0, e_li, e_ll, e_lr, e_lk, e_ins, e_rm, e_to, e_sw, e_cmp, k_c, k_n, k_f, k_v, k_lg, ↓reduceIte, reduceCtorEq, Nat.reduceAdd, Nat.reduceSub, Nat.reduceMul, Nat.reduceEqDiff, Nat.reduceLT, Nat.reduceLeDiff, Int.reduceAdd, Int.reduceSub, Int.reduceNeg, Int.reduceLE, Int.reduceLT, Int.reduceToNat, Int.reduceEq, Int.cast_ofNat_Int, List.mem_cons, List.not_mem_nil, List.length_cons, List.length_nil, List.set_cons_zero, List.set_cons_succ, List.toList_toArray, eq_self, true_and, and_true, and_self, or_true, true_or, false_or, or_false, or_self, not_true_eq_false, not_false_eq_true, Classical.not_not, true_implies, false_implies, implies_true, forall_const, and_false, false_and, Nat.le_refl, Nat.zero_le, Bool.false_eq_true, lv_args, s_rl_at, s_gf, s_pf, dn_q, kd_q, cl_q, nf_q, ln_q, tg_q, rr_q, cr_q, u_1, e_lsw, k_ti, List.drop_succ_cons, List.drop_zero, List.drop_nil, List.zip_cons_cons, List.zip_nil_right, List.zip_nil_left, List.all_cons, List.all_nil, Bool.and_true, Bool.and_self, decide_true, decide_false, Option.toList, List.cons_append, List.nil_append, List.append_nil, DX1_isWhole_0, DX1_isWhole_1, FLX1, LDX1]
  refine sX1_isWhole_24 C (m_X1_rowsOf l A S hh) (s_obj (show 0 < 1 by decide) rfl) (hcat := Nat.le_of_ble_eq_true rfl) (k := ?_)
  rintro v2 G2 ⟨S2, rfl, rfl, rfl⟩
  rw [eq]
  refine srnX1_isWhole C Rt [32] 40 ?_
  simp only [k_i, s_go, s_1, e_op, e_pi, e_pl, e_pr, e_p0, e_li, e_ll, e_lr, e_lk, e_ins, e_rm, e_to, e_sw, e_cmp, k_c, k_n, k_f, k_v, k_lg, ↓reduceIte, reduceCtorEq, Nat.reduceAdd, Nat.reduceSub, Nat.reduceMul, Nat.reduceEqDiff, Nat.reduceLT, Nat.reduceLeDiff, Int.reduceAdd, Int.reduceSub, Int.reduceNeg, Int.reduceLE, Int.reduceLT, Int.reduceToNat, Int.reduceEq, Int.cast_ofNat_Int, List.mem_cons, List.not_mem_nil, List.length_cons, List.length_nil, List.set_cons_zero, List.set_cons_succ, List.toList_toArray, eq_self, true_and, and_true, and_self, or_true, true_or, false_or, or_false, or_self, not_true_eq_false, not_false_eq_true, Classical.not_not, true_implies, false_implies, implies_true, forall_const, and_false, false_and, Nat.le_refl, Nat.zero_le, Bool.false_eq_true, lv_args, s_rl_at, s_gf, s_pf, dn_q, kd_q, cl_q, nf_q, ln_q, tg_q, rr_q, cr_q, u_1, e_lsw, k_ti, List.drop_succ_cons, List.drop_zero, List.drop_nil, List.zip_cons_cons, List.zip_nil_right, List.zip_nil_left, List.all_cons, List.all_nil, Bool.and_true, Bool.and_self, decide_true, decide_false, Option.toList, List.cons_append, List.nil_append, List.append_nil, DX1_isWhole_0, DX1_isWhole_1, FLX1, LDX1, x_cl (a := q) (by omega), x_in (a := q) (n := 61) (by omega)]
  refine ⟨by omega, ?_⟩
  have e9 : nN (rwO (S.1 12 0) h) = q := by rw [eq, nN_nI (by omega)]
  rw [e9] at Rt
  obtain ⟨X, hX⟩ : ∃ X, swd (S.1 12 0) (3500 + h * 16) (S.2.1 16 0 q) 8 = X := ⟨_, rfl⟩
  obtain ⟨Y, hY⟩ : ∃ Y, nat_ (S.1 12 0) (3500 + h * 16 + 8) 8 = Y := ⟨_, rfl⟩
  rw [hX, hY] at Rt
  exact lp_isWhole (σ := S.2.1 16 0 q) C Rt hh hX hY ⟨rfl, by simp [h4]⟩ 8 0 (by omega)
/-- a row with its sum -/
def rowX (d : Nat → Int32) (e r : Nat) (ρ : pR) : pR := xps d e (rowR d e r ρ).2.2 8 (rowR d e r ρ)
theorem rowX_le {d : Nat → Int32} {e r : Nat} {ρ : pR} (h : ρ.1 ≤ e) : (rowX d e r ρ).1 ≤ e := xps_le (rowR_le h)
/-- rows are read, from the row on, k at most: the state, how many are right, the reader -/
def rrw (d : Nat → Int32) : Nat → Nat → pS → pR → pS × Nat × pR
  | 0, r, S, ρ => (S, r, ρ)
  | k + 1, r, S, ρ => if (rowX d 3500 r ρ).2.1 = true then (rowF S r d 3500 r ρ, r, rowX d 3500 r ρ) else rrw d k (r + 1) (uJ (uI (rowF S r d 3500 r ρ) 15 0 (r + 1) (nI (rowX d 3500 r ρ).1)) 16 0 (r + 1) (rowX d 3500 r ρ).2.2) (rowX d 3500 r ρ)
theorem rS_uI {S : pS} {ρ : pR} {k i j : Nat} {v : Int32} (h : ¬ k = 17) : uI (rS S ρ) k i j v = rS (uI S k i j v) ρ := by
  refine Prod.ext ?_ rfl
  funext k' i' j'
  simp only [u_1, rS_1]
  by_cases h1 : k' = k ∧ i' = i ∧ j' = j
  · obtain ⟨rfl, rfl, rfl⟩ := h1
    simp [h]
  · simp [h1]
theorem rS_uJ {S : pS} {ρ : pR} {k i j : Nat} {v : Int64} (h : ¬ k = 17) : uJ (rS S ρ) k i j v = rS (uJ S k i j v) ρ := by
  refine Prod.ext rfl (Prod.ext ?_ rfl)
  funext k' i' j'
  simp only [u_1, rS_2]
  by_cases h1 : k' = k ∧ i' = i ∧ j' = j
  · obtain ⟨rfl, rfl, rfl⟩ := h1
    simp [h]
  · simp [h1]
section
variable {V : pV} {l : Launch} {A : pA} {post : Option Value → pS → Prop}
set_option maxHeartbeats 4000000 in
set_option maxRecDepth 100000 in
theorem lp_readRows (C : e_CX1_readRows V l) (Rt : e_RX1_readRows V (s_P A post)) {d : Nat → Int32} : ∀ k r S ρ, r + k = 60 → S.1 12 0 = d → S.2.2 17 0 4 = (12, 0) → S.1 17 0 3 = nI 3500 → ρ.1 ≤ 3500 → post (some (.int (nI (rrw d k r S ρ).2.1))) (rS (rrw d k r S ρ).1 (rrw d k r S ρ).2.2) → V 0 0 28 [(0, .ref (ad A 11 0)), (1, .ref (ad A 4 0)), (2, .ref (ad A 17 0)), (3, .int (nI r))] [] (gS A (rS S ρ)) := by
  intro k
  induction k with
  | zero =>
    intro r S ρ hr hd hq he ha hpo
    have hr2 : r = 60 := by omega
    subst hr2
    refine srnX1_readRows C Rt [28] 40 ?_
    simp only [k_i, s_go, s_1, e_op, e_pi, e_pl, e_pr, e_p0, e_li, e_ll, e_lr, e_lk, e_ins, e_rm, e_to, e_sw, e_cmp, k_c, k_n, k_f, k_v, k_lg, ↓reduceIte, reduceCtorEq, Nat.reduceAdd, Nat.reduceSub, Nat.reduceMul, Nat.reduceEqDiff, Nat.reduceLT, Nat.reduceLeDiff, Int.reduceAdd, Int.reduceSub, Int.reduceNeg, Int.reduceLE, Int.reduceLT, Int.reduceToNat, Int.reduceEq, Int.cast_ofNat_Int, List.mem_cons, List.not_mem_nil, List.length_cons, List.length_nil, List.set_cons_zero, List.set_cons_succ, List.toList_toArray, eq_self, true_and, and_true, and_self, or_true, true_or, false_or, or_false, or_self, not_true_eq_false, not_false_eq_true, Classical.not_not, true_implies, false_implies, implies_true, forall_const, and_false, false_and, Nat.le_refl, Nat.zero_le, Bool.false_eq_true, lv_args, s_rl_at, s_gf, s_pf, dn_q, kd_q, cl_q, nf_q, ln_q, tg_q, rr_q, cr_q, u_1, e_lsw, k_ti, List.drop_succ_cons, List.drop_zero, List.drop_nil, List.zip_cons_cons, List.zip_nil_right, List.zip_nil_left, List.all_cons, List.all_nil, Bool.and_true, Bool.and_self, decide_true, decide_false, Option.toList, List.cons_append, List.nil_append, List.append_nil, DX1_readRows_0, DX1_readRows_1, FLX1, LDX1, (show (60 : Int32) = nI 60 from rfl), x_le (a := 60) (b := 60) (by omega) (by omega)]
    exact hpo
  | succ k ih =>
    intro r S ρ hr hd hq he ha hpo
    have hQ : rQ S 12 0 3500 := ⟨hq, rfl, by decide, by decide, Or.inl rfl, he, by decide⟩
    have hQ2 : rQ (rowF S r d 3500 r ρ) 12 0 3500 := hQ
    have hd2 : (rowF S r d 3500 r ρ).1 12 0 = d := by rw [rowF_oth (by omega)]; exact hd
    refine srnX1_readRows C Rt [28] 40 ?_
    simp only [k_i, s_go, s_1, e_op, e_pi, e_pl, e_pr, e_p0, e_li, e_ll, e_lr, e_lk, e_ins, e_rm, e_to, e_sw, e_cmp, k_c, k_n, k_f, k_v, k_lg, ↓reduceIte, reduceCtorEq, Nat.reduceAdd, Nat.reduceSub, Nat.reduceMul, Nat.reduceEqDiff, Nat.reduceLT, Nat.reduceLeDiff, Int.reduceAdd, Int.reduceSub, Int.reduceNeg, Int.reduceLE, Int.reduceLT, Int.reduceToNat, Int.reduceEq, Int.cast_ofNat_Int, List.mem_cons, List.not_mem_nil, List.length_cons, List.length_nil, List.set_cons_zero, List.set_cons_succ, List.toList_toArray, eq_self, true_and, and_true, and_self, or_true, true_or, false_or, or_false, or_self, not_true_eq_false, not_false_eq_true, Classical.not_not, true_implies, false_implies, implies_true, forall_const, and_false, false_and, Nat.le_refl, Nat.zero_le, Bool.false_eq_true, lv_args, s_rl_at, s_gf, s_pf, dn_q, kd_q, cl_q, nf_q, ln_q, tg_q, rr_q, cr_q, u_1, e_lsw, k_ti, List.drop_succ_cons, List.drop_zero, List.drop_nil, List.zip_cons_cons, List.zip_nil_right, List.zip_nil_left, List.all_cons, List.all_nil, Bool.and_true, Bool.and_self, decide_true, decide_false, Option.toList, List.cons_append, List.nil_append, List.append_nil, DX1_readRows_0, DX1_readRows_1, FLX1, LDX1, (show (60 : Int32) = nI 60 from rfl), x_le (a := 60) (b := r) (by omega) (by omega), x_cl (a := r) (by omega), x_in (a := r) (n := 60) (by omega)]
    refine ⟨fun h => by omega, fun _ => ⟨by omega, ?_⟩⟩
    refine sX1_readRows_42 C (m_X4_nextRow l A S (r := r) hQ ha (show r < 62 by omega)) (s_obj (show 0 < 1 by decide) rfl) (hcat := Nat.le_of_ble_eq_true rfl) (k := ?_)
    rintro v2 G2 ⟨S2, rfl, rfl, rfl⟩
    rw [rowS_eq, hd]
    refine srnX1_readRows C Rt [28] 40 ?_
    simp only [k_i, s_go, s_1, e_op, e_pi, e_pl, e_pr, e_p0, e_li, e_ll, e_lr, e_lk, e_ins, e_rm, e_to, e_sw, e_cmp, k_c, k_n, k_f, k_v, k_lg, ↓reduceIte, reduceCtorEq, Nat.reduceAdd, Nat.reduceSub, Nat.reduceMul, Nat.reduceEqDiff, Nat.reduceLT, Nat.reduceLeDiff, Int.reduceAdd, Int.reduceSub, Int.reduceNeg, Int.reduceLE, Int.reduceLT, Int.reduceToNat, Int.reduceEq, Int.cast_ofNat_Int, List.mem_cons, List.not_mem_nil, List.length_cons, List.length_nil, List.set_cons_zero, List.set_cons_succ, List.toList_toArray, eq_self, true_and, and_true, and_self, or_true, true_or, false_or, or_false, or_self, not_true_eq_false, not_false_eq_true, Classical.not_not, true_implies, false_implies, implies_true, forall_const, and_false, false_and, Nat.le_refl, Nat.zero_le, Bool.false_eq_true, lv_args, s_rl_at, s_gf, s_pf, dn_q, kd_q, cl_q, nf_q, ln_q, tg_q, rr_q, cr_q, u_1, e_lsw, k_ti, List.drop_succ_cons, List.drop_zero, List.drop_nil, List.zip_cons_cons, List.zip_nil_right, List.zip_nil_left, List.all_cons, List.all_nil, Bool.and_true, Bool.and_self, decide_true, decide_false, Option.toList, List.cons_append, List.nil_append, List.append_nil, DX1_readRows_0, DX1_readRows_1, FLX1, LDX1]
    refine sX1_readRows_46 C (m_X4_expectSum l A _ hQ2 (rowR_le ha)) (s_obj (show 0 < 1 by decide) rfl) (hcat := Nat.le_of_ble_eq_true rfl) (k := ?_)
    rintro v2 G2 ⟨S2, rfl, rfl, rfl⟩
    rw [hd2, show xps d 3500 (rowR d 3500 r ρ).2.2 8 (rowR d 3500 r ρ) = rowX d 3500 r ρ from rfl]
    cases hf : (rowX d 3500 r ρ).2.1 with
    | true =>
      refine srnX1_readRows C Rt [28] 40 ?_
      simp only [k_i, s_go, s_1, e_op, e_pi, e_pl, e_pr, e_p0, e_li, e_ll, e_lr, e_lk, e_ins, e_rm, e_to, e_sw, e_cmp, k_c, k_n, k_f, k_v, k_lg, ↓reduceIte, reduceCtorEq, Nat.reduceAdd, Nat.reduceSub, Nat.reduceMul, Nat.reduceEqDiff, Nat.reduceLT, Nat.reduceLeDiff, Int.reduceAdd, Int.reduceSub, Int.reduceNeg, Int.reduceLE, Int.reduceLT, Int.reduceToNat, Int.reduceEq, Int.cast_ofNat_Int, List.mem_cons, List.not_mem_nil, List.length_cons, List.length_nil, List.set_cons_zero, List.set_cons_succ, List.toList_toArray, eq_self, true_and, and_true, and_self, or_true, true_or, false_or, or_false, or_self, not_true_eq_false, not_false_eq_true, Classical.not_not, true_implies, false_implies, implies_true, forall_const, and_false, false_and, Nat.le_refl, Nat.zero_le, Bool.false_eq_true, lv_args, s_rl_at, s_gf, s_pf, dn_q, kd_q, cl_q, nf_q, ln_q, tg_q, rr_q, cr_q, u_1, e_lsw, k_ti, List.drop_succ_cons, List.drop_zero, List.drop_nil, List.zip_cons_cons, List.zip_nil_right, List.zip_nil_left, List.all_cons, List.all_nil, Bool.and_true, Bool.and_self, decide_true, decide_false, Option.toList, List.cons_append, List.nil_append, List.append_nil, DX1_readRows_0, DX1_readRows_1, FLX1, LDX1, rS_1, hf, b2i_t]
      rw [rrw, if_pos hf] at hpo
      exact hpo
    | false =>
      have hf2 : ¬ (rowX d 3500 r ρ).2.1 = true := by rw [hf]; decide
      refine srnX1_readRows C Rt [28] 60 ?_
      simp only [k_i, s_go, s_1, e_op, e_pi, e_pl, e_pr, e_p0, e_li, e_ll, e_lr, e_lk, e_ins, e_rm, e_to, e_sw, e_cmp, k_c, k_n, k_f, k_v, k_lg, ↓reduceIte, reduceCtorEq, Nat.reduceAdd, Nat.reduceSub, Nat.reduceMul, Nat.reduceEqDiff, Nat.reduceLT, Nat.reduceLeDiff, Int.reduceAdd, Int.reduceSub, Int.reduceNeg, Int.reduceLE, Int.reduceLT, Int.reduceToNat, Int.reduceEq, Int.cast_ofNat_Int, List.mem_cons, List.not_mem_nil, List.length_cons, List.length_nil, List.set_cons_zero, List.set_cons_succ, List.toList_toArray, eq_self, true_and, and_true, and_self, or_true, true_or, false_or, or_false, or_self, not_true_eq_false, not_false_eq_true, Classical.not_not, true_implies, false_implies, implies_true, forall_const, and_false, false_and, Nat.le_refl, Nat.zero_le, Bool.false_eq_true, lv_args, s_rl_at, s_gf, s_pf, dn_q, kd_q, cl_q, nf_q, ln_q, tg_q, rr_q, cr_q, u_1, e_lsw, k_ti, List.drop_succ_cons, List.drop_zero, List.drop_nil, List.zip_cons_cons, List.zip_nil_right, List.zip_nil_left, List.all_cons, List.all_nil, Bool.and_true, Bool.and_self, decide_true, decide_false, Option.toList, List.cons_append, List.nil_append, List.append_nil, DX1_readRows_0, DX1_readRows_1, FLX1, LDX1, rS_1, rS_2, hf, b2i_f, nI_1, x_cl (a := r + 1) (by omega), x_in (a := r + 1) (n := 61) (by omega)]
      refine ⟨by omega, by omega, ?_⟩
      rw [rS_uI (by decide), rS_uJ (by decide)]
      refine ih (r + 1) _ _ (by omega) ?_ hq ?_ (rowX_le ha) ?_
      · exact hd2
      · exact he
      · rw [rrw, if_neg hf2] at hpo
        exact hpo
end
abbrev op0 (S : pS) : pS := uJ (uI (uI (uQ S 17 0 4 (12, 0)) 17 0 3 (nI 3500)) 15 0 0 0) 16 0 0 1
abbrev op1 (S : pS) : pS × Nat × pR := rrw (S.1 12 0) 60 0 (op0 S) (0, false, 1)
set_option maxHeartbeats 4000000 in
set_option maxRecDepth 100000 in
theorem m_X1_readRows (l : Launch) (A : pA) (S : pS) : e_MX1_readRows l [.ref (ad A 11 0), .ref (ad A 4 0), .ref (ad A 17 0)] (gS A S) (s_P A (isP (nI (op1 S).2.1, rS (op1 S).1 (op1 S).2.2))) := by
  refine ofX1_readRows (Nat.le_of_ble_eq_true rfl) ?_
  intro V C Rt
  refine srnX1_readRows C Rt [28] 40 ?_
  simp only [k_i, s_go, s_1, e_op, e_pi, e_pl, e_pr, e_p0, e_li, e_ll, e_lr, e_lk, e_ins, e_rm, e_to, e_sw, e_cmp, k_c, k_n, k_f, k_v, k_lg, ↓reduceIte, reduceCtorEq, Nat.reduceAdd, Nat.reduceSub, Nat.reduceMul, Nat.reduceEqDiff, Nat.reduceLT, Nat.reduceLeDiff, Int.reduceAdd, Int.reduceSub, Int.reduceNeg, Int.reduceLE, Int.reduceLT, Int.reduceToNat, Int.reduceEq, Int.cast_ofNat_Int, List.mem_cons, List.not_mem_nil, List.length_cons, List.length_nil, List.set_cons_zero, List.set_cons_succ, List.toList_toArray, eq_self, true_and, and_true, and_self, or_true, true_or, false_or, or_false, or_self, not_true_eq_false, not_false_eq_true, Classical.not_not, true_implies, false_implies, implies_true, forall_const, and_false, false_and, Nat.le_refl, Nat.zero_le, Bool.false_eq_true, lv_args, s_rl_at, s_gf, s_pf, dn_q, kd_q, cl_q, nf_q, ln_q, tg_q, rr_q, cr_q, u_1, e_lsw, k_ti, List.drop_succ_cons, List.drop_zero, List.drop_nil, List.zip_cons_cons, List.zip_nil_right, List.zip_nil_left, List.all_cons, List.all_nil, Bool.and_true, Bool.and_self, decide_true, decide_false, Option.toList, List.cons_append, List.nil_append, List.append_nil, DX1_readRows_0, DX1_readRows_1, FLX1, LDX1, (show (3500 : Int32) = nI 3500 from rfl)]
  refine sX1_readRows_9 C (m_X4_begin l A S (qk := 12) (qi := 0) (e := 3500) (Or.inl rfl) (by decide) (by decide) 1) (s_obj (show 0 < 1 by decide) rfl) (hcat := Nat.le_of_ble_eq_true rfl) (k := ?_)
  rintro v2 G2 ⟨S2, rfl, rfl, rfl⟩
  refine srnX1_readRows C Rt [28] 40 ?_
  simp only [k_i, s_go, s_1, e_op, e_pi, e_pl, e_pr, e_p0, e_li, e_ll, e_lr, e_lk, e_ins, e_rm, e_to, e_sw, e_cmp, k_c, k_n, k_f, k_v, k_lg, ↓reduceIte, reduceCtorEq, Nat.reduceAdd, Nat.reduceSub, Nat.reduceMul, Nat.reduceEqDiff, Nat.reduceLT, Nat.reduceLeDiff, Int.reduceAdd, Int.reduceSub, Int.reduceNeg, Int.reduceLE, Int.reduceLT, Int.reduceToNat, Int.reduceEq, Int.cast_ofNat_Int, List.mem_cons, List.not_mem_nil, List.length_cons, List.length_nil, List.set_cons_zero, List.set_cons_succ, List.toList_toArray, eq_self, true_and, and_true, and_self, or_true, true_or, false_or, or_false, or_self, not_true_eq_false, not_false_eq_true, Classical.not_not, true_implies, false_implies, implies_true, forall_const, and_false, false_and, Nat.le_refl, Nat.zero_le, Bool.false_eq_true, lv_args, s_rl_at, s_gf, s_pf, dn_q, kd_q, cl_q, nf_q, ln_q, tg_q, rr_q, cr_q, u_1, e_lsw, k_ti, List.drop_succ_cons, List.drop_zero, List.drop_nil, List.zip_cons_cons, List.zip_nil_right, List.zip_nil_left, List.all_cons, List.all_nil, Bool.and_true, Bool.and_self, decide_true, decide_false, Option.toList, List.cons_append, List.nil_append, List.append_nil, DX1_readRows_0, DX1_readRows_1, FLX1, LDX1, (show (0 : Int32).toNatClampNeg = 0 by decide), (show vp_in 0 61 from vp_in_iff.mpr (by decide))]
  rw [rS_uI (by decide), rS_uJ (by decide)]
  exact lp_readRows C Rt 60 0 _ _ (by omega) rfl rfl rfl (Nat.zero_le _) ⟨rfl, rfl⟩
