/-! the reference: of -/
def pofC (S : pS) (f : Nat) (w : Int32) : Int32 := if w = 0 then S.1 6 f 0 else if w = 1 then b2i (chC S f) else if w = 2 then b2i (drC S f) else if w = 3 then b2i (freshC S f) else if w = 4 then nI (tcC S f) else if w = 5 then nI (fcC S f) else if w = 6 then b2i (decide (¬ S.1 11 0 3 ≤ nI f)) else -1
set_option maxHeartbeats 4000000 in
set_option maxRecDepth 100000 in
theorem m_X8_plainOf (l : Launch) (A : pA) (T S : pS) {f m : Nat} (hf : f < 60) (hw : wfF S f m) (hT : rT T S) (hF : rF T S f) (hK : rK T S) (w : Int32) : e_MX8_plainOf l [.ref (ad A 30 0), .int (nI f), .int w] (gS A T) (s_P A (fun v S2 => T = S2 ∧ v = some (.int (pofC S f w)))) := by
  obtain ⟨f1, f2, f3, f4, f5, f6, f7, f8⟩ := hF
  obtain ⟨k1, k2, k3, k4, k5, k6, k7, k8⟩ := hK
  refine ofX8_plainOf (Nat.le_of_ble_eq_true rfl) ?_
  intro V C Rt
  refine srnX8_plainOf C Rt [] 40 ?_
  simp only [k_i, s_go, s_1, e_op, e_pi, e_pl, e_pr, e_p0, e_li, e_ll, e_lr, e_lk, e_ins, e_rm, e_to, e_sw, e_cmp, k_c, k_n, k_f, k_v, k_lg, ↓reduceIte, reduceCtorEq, Nat.reduceAdd, Nat.reduceSub, Nat.reduceMul, Nat.reduceEqDiff, Nat.reduceLT, Nat.reduceLeDiff, Int.reduceAdd, Int.reduceSub, Int.reduceNeg, Int.reduceLE, Int.reduceLT, Int.reduceToNat, Int.reduceEq, Int.cast_ofNat_Int, List.mem_cons, List.not_mem_nil, List.length_cons, List.length_nil, List.set_cons_zero, List.set_cons_succ, List.toList_toArray, eq_self, true_and, and_true, and_self, or_true, true_or, false_or, or_false, or_self, not_true_eq_false, not_false_eq_true, Classical.not_not, true_implies, false_implies, implies_true, forall_const, and_false, false_and, Nat.le_refl, Nat.zero_le, Bool.false_eq_true, lv_args, s_rl_at, s_gf, s_pf, dn_q, kd_q, cl_q, nf_q, ln_q, tg_q, rr_q, cr_q, u_1, e_lsw, k_ti, List.drop_succ_cons, List.drop_zero, List.drop_nil, List.zip_cons_cons, List.zip_nil_right, List.zip_nil_left, List.all_cons, List.all_nil, Bool.and_true, Bool.and_self, decide_true, decide_false, Option.toList, List.cons_append, List.nil_append, List.append_nil, DX8_plainOf_0, DX8_plainOf_1, FLX8, LDX8, x_cl (a := f) (by omega), x_in (a := f) (n := 60) (by omega), f1, f3, f5, f7, f8, k3, hw.1, hw.2.2.1]
  refine ⟨fun h0 => ⟨hf, by simp [pofC, h0]⟩, fun h0 => ⟨fun h1 => ⟨hf, fun h => by simp [pofC, h1, chC, h, b2i], fun h => by simp [pofC, h1, chC, h, b2i]⟩, fun h1 => ⟨fun h2 => ⟨hf, fun h => by simp [pofC, h2, drC, h, b2i], fun h => by simp [pofC, h2, drC, h, b2i]⟩, fun h2 => ⟨fun h3 => ?_, fun h3 => ⟨fun h4 => ⟨hf, by simp [pofC, h4]⟩, fun h4 => ⟨fun h5 => ⟨hf, by simp [pofC, h5]⟩, fun h5 => ⟨fun h6 => ⟨fun h => by simp [pofC, h6, h, b2i], fun h => by simp [pofC, h6, h, b2i]⟩, fun h6 => by simp [pofC, h0, h1, h2, h3, h4, h5, h6]⟩⟩⟩⟩⟩⟩⟩
  refine sX8_plainOf_83 C (m_X8_isFresh l A T S hf hw hT ⟨f1, f2, f3, f4, f5, f6, f7, f8⟩) (s_obj (show 0 < 1 by decide) rfl) (hcat := Nat.le_of_ble_eq_true rfl) (k := ?_)
  rintro v2 G2 ⟨S2, rfl, rfl, rfl⟩
  refine srnX8_plainOf C Rt [] 40 ?_
  simp only [k_i, s_go, s_1, e_op, e_pi, e_pl, e_pr, e_p0, e_li, e_ll, e_lr, e_lk, e_ins, e_rm, e_to, e_sw, e_cmp, k_c, k_n, k_f, k_v, k_lg, ↓reduceIte, reduceCtorEq, Nat.reduceAdd, Nat.reduceSub, Nat.reduceMul, Nat.reduceEqDiff, Nat.reduceLT, Nat.reduceLeDiff, Int.reduceAdd, Int.reduceSub, Int.reduceNeg, Int.reduceLE, Int.reduceLT, Int.reduceToNat, Int.reduceEq, Int.cast_ofNat_Int, List.mem_cons, List.not_mem_nil, List.length_cons, List.length_nil, List.set_cons_zero, List.set_cons_succ, List.toList_toArray, eq_self, true_and, and_true, and_self, or_true, true_or, false_or, or_false, or_self, not_true_eq_false, not_false_eq_true, Classical.not_not, true_implies, false_implies, implies_true, forall_const, and_false, false_and, Nat.le_refl, Nat.zero_le, Bool.false_eq_true, lv_args, s_rl_at, s_gf, s_pf, dn_q, kd_q, cl_q, nf_q, ln_q, tg_q, rr_q, cr_q, u_1, e_lsw, k_ti, List.drop_succ_cons, List.drop_zero, List.drop_nil, List.zip_cons_cons, List.zip_nil_right, List.zip_nil_left, List.all_cons, List.all_nil, Bool.and_true, Bool.and_self, decide_true, decide_false, Option.toList, List.cons_append, List.nil_append, List.append_nil, DX8_plainOf_0, DX8_plainOf_1, FLX8, LDX8, b2i_0]
  refine ⟨fun h => by simp [pofC, h3, h, b2i], fun h => by simp [pofC, h3, nft h, b2i]⟩
theorem ofC_p {S : pS} {n f : Nat} {w : Int32} (hd : S.1 11 0 1 = 0) (hx : inr (nI f) n = true) (hf : f < 2147483648) (hw : w < 10) : ofC S n (nI f) w = pofC S f w := by
  unfold ofC pofC grd
  rw [nN_nI hf, hx]
  simp [hd, hw]
set_option maxHeartbeats 4000000 in
set_option maxRecDepth 100000 in
theorem m_X8_of (l : Launch) (A : pA) (T S : pS) {n : Nat} (hB : wfB S n) (hD : rD T S) (hT : rT T S) (hR : rB T S n) (hK : rK T S) (x w : Int32) : e_MX8_of l [.ref (ad A 30 0), .int x, .int w] (gS A T) (s_P A (isP (ofC S n x w, t0 T))) := by
  have hn := hB.2.1
  refine ofX8_of (Nat.le_of_ble_eq_true rfl) ?_
  intro V C Rt
  unfold rD at hD
  refine srnX8_of C Rt [] 20 ?_
  simp only [k_i, s_go, s_1, e_op, e_pi, e_pl, e_pr, e_p0, e_li, e_ll, e_lr, e_lk, e_ins, e_rm, e_to, e_sw, e_cmp, k_c, k_n, k_f, k_v, k_lg, ↓reduceIte, reduceCtorEq, Nat.reduceAdd, Nat.reduceSub, Nat.reduceMul, Nat.reduceEqDiff, Nat.reduceLT, Nat.reduceLeDiff, Int.reduceAdd, Int.reduceSub, Int.reduceNeg, Int.reduceLE, Int.reduceLT, Int.reduceToNat, Int.reduceEq, Int.cast_ofNat_Int, List.mem_cons, List.not_mem_nil, List.length_cons, List.length_nil, List.set_cons_zero, List.set_cons_succ, List.toList_toArray, eq_self, true_and, and_true, and_self, or_true, true_or, false_or, or_false, or_self, not_true_eq_false, not_false_eq_true, Classical.not_not, true_implies, false_implies, implies_true, forall_const, and_false, false_and, Nat.le_refl, Nat.zero_le, Bool.false_eq_true, lv_args, s_rl_at, s_gf, s_pf, dn_q, kd_q, cl_q, nf_q, ln_q, tg_q, rr_q, cr_q, u_1, e_lsw, k_ti, List.drop_succ_cons, List.drop_zero, List.drop_nil, List.zip_cons_cons, List.zip_nil_right, List.zip_nil_left, List.all_cons, List.all_nil, Bool.and_true, Bool.and_self, decide_true, decide_false, Option.toList, List.cons_append, List.nil_append, List.append_nil, DX8_of_0, DX8_of_1, DX8_of_2, FLX8, LDX8, hD]
  refine ⟨fun hd => ?_, fun hd => by simp [isP, ofC, hd]⟩
  refine sX8_of_17 C (m_X8_isFact l A (t0 T) hn hR.1 x) (s_obj (show 0 < 1 by decide) rfl) (hcat := Nat.le_of_ble_eq_true rfl) (k := ?_)
  rintro v2 G2 ⟨S2, rfl, rfl, rfl⟩
  cases hx : inr x n with
  | false =>
    refine srnX8_of C Rt [] 40 ?_
    simp only [k_i, s_go, s_1, e_op, e_pi, e_pl, e_pr, e_p0, e_li, e_ll, e_lr, e_lk, e_ins, e_rm, e_to, e_sw, e_cmp, k_c, k_n, k_f, k_v, k_lg, ↓reduceIte, reduceCtorEq, Nat.reduceAdd, Nat.reduceSub, Nat.reduceMul, Nat.reduceEqDiff, Nat.reduceLT, Nat.reduceLeDiff, Int.reduceAdd, Int.reduceSub, Int.reduceNeg, Int.reduceLE, Int.reduceLT, Int.reduceToNat, Int.reduceEq, Int.cast_ofNat_Int, List.mem_cons, List.not_mem_nil, List.length_cons, List.length_nil, List.set_cons_zero, List.set_cons_succ, List.toList_toArray, eq_self, true_and, and_true, and_self, or_true, true_or, false_or, or_false, or_self, not_true_eq_false, not_false_eq_true, Classical.not_not, true_implies, false_implies, implies_true, forall_const, and_false, false_and, Nat.le_refl, Nat.zero_le, Bool.false_eq_true, lv_args, s_rl_at, s_gf, s_pf, dn_q, kd_q, cl_q, nf_q, ln_q, tg_q, rr_q, cr_q, u_1, e_lsw, k_ti, List.drop_succ_cons, List.drop_zero, List.drop_nil, List.zip_cons_cons, List.zip_nil_right, List.zip_nil_left, List.all_cons, List.all_nil, Bool.and_true, Bool.and_self, decide_true, decide_false, Option.toList, List.cons_append, List.nil_append, List.append_nil, DX8_of_0, DX8_of_1, DX8_of_2, FLX8, LDX8, b2i_f]
    simp [isP, ofC, hd, hx]
  | true =>
    obtain ⟨f, hf, rfl⟩ := inr_of (by omega) hx
    have eN := nN_nI (show f < 2147483648 by omega)
    have hwf := hB.2.2 f hf
    obtain ⟨w1, w2, w3, w4, w5, w6⟩ := hwf
    have hFf := hR.2 f hf
    obtain ⟨f1, f2, f3, f4, f5, f6, f7, f8⟩ := hFf
    rw [w1] at f3
    rw [w3] at f5
    have hdz : ¬ (10 : Int32) = 0 := by decide
    by_cases hw0 : w < 0
    · have h0 : ¬ (0 : Int32) ≤ w := fun z => Int32.not_lt.mpr z hw0
      refine srnX8_of C Rt [] 40 ?_
      simp only [k_i, s_go, s_1, e_op, e_pi, e_pl, e_pr, e_p0, e_li, e_ll, e_lr, e_lk, e_ins, e_rm, e_to, e_sw, e_cmp, k_c, k_n, k_f, k_v, k_lg, ↓reduceIte, reduceCtorEq, Nat.reduceAdd, Nat.reduceSub, Nat.reduceMul, Nat.reduceEqDiff, Nat.reduceLT, Nat.reduceLeDiff, Int.reduceAdd, Int.reduceSub, Int.reduceNeg, Int.reduceLE, Int.reduceLT, Int.reduceToNat, Int.reduceEq, Int.cast_ofNat_Int, List.mem_cons, List.not_mem_nil, List.length_cons, List.length_nil, List.set_cons_zero, List.set_cons_succ, List.toList_toArray, eq_self, true_and, and_true, and_self, or_true, true_or, false_or, or_false, or_self, not_true_eq_false, not_false_eq_true, Classical.not_not, true_implies, false_implies, implies_true, forall_const, and_false, false_and, Nat.le_refl, Nat.zero_le, Bool.false_eq_true, lv_args, s_rl_at, s_gf, s_pf, dn_q, kd_q, cl_q, nf_q, ln_q, tg_q, rr_q, cr_q, u_1, e_lsw, k_ti, List.drop_succ_cons, List.drop_zero, List.drop_nil, List.zip_cons_cons, List.zip_nil_right, List.zip_nil_left, List.all_cons, List.all_nil, Bool.and_true, Bool.and_self, decide_true, decide_false, Option.toList, List.cons_append, List.nil_append, List.append_nil, DX8_of_0, DX8_of_1, DX8_of_2, FLX8, LDX8, b2i_t, h0]
      have h10 : w < 10 := Int32.lt_of_lt_of_le hw0 (by decide)
      have e : pofC S f w = -1 := by
        have : ∀ z : Int32, (0 : Int32) ≤ z → ¬ w = z := fun z hz h => h0 (h ▸ hz)
        simp [pofC, this 0 (by decide), this 1 (by decide), this 2 (by decide), this 3 (by decide), this 4 (by decide), this 5 (by decide), this 6 (by decide)]
      rw [ofC_p hd hx (by omega) h10, e]
      exact ⟨rfl, rfl⟩
    · have h0 : (0 : Int32) ≤ w := Int32.not_lt.mp hw0
      by_cases h10 : (10 : Int32) ≤ w
      · obtain ⟨j, q, hj, e1, e2, hq, hq0⟩ := rem10 h10
        have e4 : w - nI q * 10 = nI j := by rw [← e2]; exact e1
        have eg : ofC S n (nI f) w = if j < tcC S f ∧ nI q = 1 then S.1 7 f j else if j < tcC S f ∧ nI q = 2 then S.1 8 f j else if j < tcC S f ∧ nI q = 3 then S.1 9 f j else if j < fcC S f ∧ nI q = 4 then S.1 10 f j else -1 := by
          have : ∀ z : Int32, z < 10 → ¬ w = z := fun z hz h => Int32.not_lt.mpr h10 (h ▸ hz)
          unfold ofC grd
          rw [eN, hx, e1, e2, nN_nI (by omega)]
          simp [hd, Int32.not_lt.mpr h10, this 0 (by decide), this 1 (by decide), this 2 (by decide), this 3 (by decide), this 4 (by decide), this 5 (by decide), this 6 (by decide)]
        rw [eg] at Rt
        have hq1 : ¬ nI q = 0 := by
          rw [show (0 : Int32) = nI 0 from rfl, x_eq (by omega) (by omega)]
          omega
        have g1 : j < tcC S f → T.1 38 0 (4 * f + j) = S.1 7 f j := fun h => (f4 j h).1
        have g2 : j < tcC S f → T.1 39 0 (4 * f + j) = S.1 8 f j := fun h => (f4 j h).2.1
        have g3 : j < tcC S f → T.1 40 0 (4 * f + j) = S.1 9 f j := fun h => (f4 j h).2.2
        refine srnX8_of C Rt [] 60 ?_
        simp only [k_i, s_go, s_1, e_op, e_pi, e_pl, e_pr, e_p0, e_li, e_ll, e_lr, e_lk, e_ins, e_rm, e_to, e_sw, e_cmp, k_c, k_n, k_f, k_v, k_lg, ↓reduceIte, reduceCtorEq, Nat.reduceAdd, Nat.reduceSub, Nat.reduceMul, Nat.reduceEqDiff, Nat.reduceLT, Nat.reduceLeDiff, Int.reduceAdd, Int.reduceSub, Int.reduceNeg, Int.reduceLE, Int.reduceLT, Int.reduceToNat, Int.reduceEq, Int.cast_ofNat_Int, List.mem_cons, List.not_mem_nil, List.length_cons, List.length_nil, List.set_cons_zero, List.set_cons_succ, List.toList_toArray, eq_self, true_and, and_true, and_self, or_true, true_or, false_or, or_false, or_self, not_true_eq_false, not_false_eq_true, Classical.not_not, true_implies, false_implies, implies_true, forall_const, and_false, false_and, Nat.le_refl, Nat.zero_le, Bool.false_eq_true, lv_args, s_rl_at, s_gf, s_pf, dn_q, kd_q, cl_q, nf_q, ln_q, tg_q, rr_q, cr_q, u_1, e_lsw, k_ti, List.drop_succ_cons, List.drop_zero, List.drop_nil, List.zip_cons_cons, List.zip_nil_right, List.zip_nil_left, List.all_cons, List.all_nil, Bool.and_true, Bool.and_self, decide_true, decide_false, Option.toList, List.cons_append, List.nil_append, List.append_nil, DX8_of_0, DX8_of_1, DX8_of_2, FLX8, LDX8, b2i_t, h0, hdz, e2, e4, hq1, (show (4 : Int32) = nI 4 from rfl), (show (3 : Int32) = nI 3 from rfl), pk_mul, nI_add, x_cl (a := f) (by omega), x_in (a := f) (n := 60) (by omega), f3, f5, x_le (a := tcC S f) (b := j) (by omega) (by omega), x_le (a := fcC S f) (b := j) (by omega) (by omega), x_cl (a := 4 * f + j) (by omega), x_in (a := 4 * f + j) (n := 240) (by omega), x_cl (a := 3 * f + j) (by omega), x_in (a := 3 * f + j) (n := 180) (by omega)]
        have q1 : (nI q = 1) ↔ q = 1 := x_eq (b := 1) (by omega) (by omega)
        have q2 : (nI q = 2) ↔ q = 2 := x_eq (b := 2) (by omega) (by omega)
        have q3 : (nI q = nI 3) ↔ q = 3 := x_eq (b := 3) (by omega) (by omega)
        have q4 : (nI q = nI 4) ↔ q = 4 := x_eq (b := 4) (by omega) (by omega)
        simp only [q1, q2, q3, q4]
        refine ⟨fun h => ⟨by omega, fun h2 => ?_, fun h2 => ⟨by omega, ?_⟩⟩, fun h => ⟨fun h3 => ⟨by omega, fun h2 => ?_, fun h2 => ⟨by omega, ?_⟩⟩, fun h3 => ⟨fun h4 => ⟨by omega, fun h2 => ?_, fun h2 => ⟨by omega, ?_⟩⟩, fun h4 => ⟨fun h5 => ⟨by omega, fun h2 => ?_, fun h2 => ⟨by omega, ?_⟩⟩, fun h5 => ?_⟩⟩⟩⟩
        · have : ¬ j < tcC S f := by omega
          simp [isP, this, h]
        · have : j < tcC S f := by omega
          simp [isP, this, h, g1 this]
        · have : ¬ j < tcC S f := by omega
          simp [isP, this, h3]
        · have : j < tcC S f := by omega
          simp [isP, this, h3, g2 this]
        · have : ¬ j < tcC S f := by omega
          simp [isP, this, h4]
        · have : j < tcC S f := by omega
          simp [isP, this, h4, g3 this]
        · have : ¬ j < fcC S f := by omega
          simp [isP, this, h5]
        · have : j < fcC S f := by omega
          simp [isP, this, h5, f6 j this]
        · simp [isP, h, h3, h4, h5]
      · have hlt : w < 10 := Int32.not_le.mp h10
        obtain ⟨a, ha, rfl⟩ := nI_of hw0
        have ha10 : a < 10 := by
          have := Int32.lt_iff_toInt_lt.mp hlt
          rw [nI_toInt ha] at this
          have h9 : ((10 : Int32)).toInt = 10 := by decide
          omega
        have e2 : nI a / 10 = 0 := by
          rw [show (10 : Int32) = nI 10 from rfl, pk_div ha (by omega) (by omega), show a / 10 = 0 by omega]
          rfl
        refine srnX8_of C Rt [] 60 ?_
        simp only [k_i, s_go, s_1, e_op, e_pi, e_pl, e_pr, e_p0, e_li, e_ll, e_lr, e_lk, e_ins, e_rm, e_to, e_sw, e_cmp, k_c, k_n, k_f, k_v, k_lg, ↓reduceIte, reduceCtorEq, Nat.reduceAdd, Nat.reduceSub, Nat.reduceMul, Nat.reduceEqDiff, Nat.reduceLT, Nat.reduceLeDiff, Int.reduceAdd, Int.reduceSub, Int.reduceNeg, Int.reduceLE, Int.reduceLT, Int.reduceToNat, Int.reduceEq, Int.cast_ofNat_Int, List.mem_cons, List.not_mem_nil, List.length_cons, List.length_nil, List.set_cons_zero, List.set_cons_succ, List.toList_toArray, eq_self, true_and, and_true, and_self, or_true, true_or, false_or, or_false, or_self, not_true_eq_false, not_false_eq_true, Classical.not_not, true_implies, false_implies, implies_true, forall_const, and_false, false_and, Nat.le_refl, Nat.zero_le, Bool.false_eq_true, lv_args, s_rl_at, s_gf, s_pf, dn_q, kd_q, cl_q, nf_q, ln_q, tg_q, rr_q, cr_q, u_1, e_lsw, k_ti, List.drop_succ_cons, List.drop_zero, List.drop_nil, List.zip_cons_cons, List.zip_nil_right, List.zip_nil_left, List.all_cons, List.all_nil, Bool.and_true, Bool.and_self, decide_true, decide_false, Option.toList, List.cons_append, List.nil_append, List.append_nil, DX8_of_0, DX8_of_1, DX8_of_2, FLX8, LDX8, b2i_t, h0, hdz, e2]
        refine sX8_of_83 C (m_X8_plainOf l A (t0 T) S (by omega) (hB.2.2 f hf) hT (hR.2 f hf) hK (nI a)) (s_obj (show 0 < 1 by decide) rfl) (hcat := Nat.le_of_ble_eq_true rfl) (k := ?_)
        rintro v2 G2 ⟨S2, rfl, rfl, rfl⟩
        refine srnX8_of C Rt [] 40 ?_
        simp only [k_i, s_go, s_1, e_op, e_pi, e_pl, e_pr, e_p0, e_li, e_ll, e_lr, e_lk, e_ins, e_rm, e_to, e_sw, e_cmp, k_c, k_n, k_f, k_v, k_lg, ↓reduceIte, reduceCtorEq, Nat.reduceAdd, Nat.reduceSub, Nat.reduceMul, Nat.reduceEqDiff, Nat.reduceLT, Nat.reduceLeDiff, Int.reduceAdd, Int.reduceSub, Int.reduceNeg, Int.reduceLE, Int.reduceLT, Int.reduceToNat, Int.reduceEq, Int.cast_ofNat_Int, List.mem_cons, List.not_mem_nil, List.length_cons, List.length_nil, List.set_cons_zero, List.set_cons_succ, List.toList_toArray, eq_self, true_and, and_true, and_self, or_true, true_or, false_or, or_false, or_self, not_true_eq_false, not_false_eq_true, Classical.not_not, true_implies, false_implies, implies_true, forall_const, and_false, false_and, Nat.le_refl, Nat.zero_le, Bool.false_eq_true, lv_args, s_rl_at, s_gf, s_pf, dn_q, kd_q, cl_q, nf_q, ln_q, tg_q, rr_q, cr_q, u_1, e_lsw, k_ti, List.drop_succ_cons, List.drop_zero, List.drop_nil, List.zip_cons_cons, List.zip_nil_right, List.zip_nil_left, List.all_cons, List.all_nil, Bool.and_true, Bool.and_self, decide_true, decide_false, Option.toList, List.cons_append, List.nil_append, List.append_nil, DX8_of_0, DX8_of_1, DX8_of_2, FLX8, LDX8]
        rw [ofC_p hd hx (by omega) hlt]
        exact ⟨rfl, rfl⟩
