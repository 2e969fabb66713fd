/-! the reference: open -/
/-- the reference's state behind open, over the class's old state S -/
def roP (T S X : pS) (n : Nat) : Prop := (n ≤ 60) ∧ (opN S = nI n) ∧ (∀ i, i < n → rokI (S.1 12 0) i) ∧ (∀ i, i < n → kRef (S.1 12 0) i X) ∧ (X.1 30 0 3 = nI n) ∧ (X.1 30 0 18 = 0) ∧ (X.1 30 0 28 = 1) ∧ (X.1 30 0 26 = opH S) ∧ (X.1 30 0 14 = 0) ∧ (X.1 30 0 16 = 0) ∧ (X.1 30 0 23 = nI n) ∧ (X.1 30 0 24 = nI (rwE (S.1 12 0) n).1) ∧ (X.2.1 30 0 25 = (rwE (S.1 12 0) n).2) ∧ (X.1 30 0 22 = opG S) ∧ (X.1 58 0 0 = opw S 0) ∧ (X.1 58 0 1 = opw S 1) ∧ (∀ k i j, ¬ (35 ≤ k ∧ k ≤ 44) → ¬ k = 30 → ¬ k = 58 → X.1 k i j = T.1 k i j) ∧ (∀ j, 35 ≤ j → j ≤ 39 → X.1 30 0 j = T.1 30 0 j) ∧ (∀ k i j, ¬ k = 36 → ¬ k = 30 → X.2.1 k i j = T.2.1 k i j) ∧ (X.2.2 = T.2.2)
theorem roP.n60 {T S X : pS} {n : Nat} (h : roP T S X n) : n ≤ 60 := h.1
theorem roP.eN {T S X : pS} {n : Nat} (h : roP T S X n) : opN S = nI n := h.2.1
theorem roP.rk {T S X : pS} {n : Nat} (h : roP T S X n) : ∀ i, i < n → rokI (S.1 12 0) i := h.2.2.1
theorem roP.fa {T S X : pS} {n : Nat} (h : roP T S X n) : ∀ i, i < n → kRef (S.1 12 0) i X := h.2.2.2.1
theorem roP.f3 {T S X : pS} {n : Nat} (h : roP T S X n) : X.1 30 0 3 = nI n := h.2.2.2.2.1
theorem roP.f18 {T S X : pS} {n : Nat} (h : roP T S X n) : X.1 30 0 18 = 0 := h.2.2.2.2.2.1
theorem roP.f28 {T S X : pS} {n : Nat} (h : roP T S X n) : X.1 30 0 28 = 1 := h.2.2.2.2.2.2.1
theorem roP.f26 {T S X : pS} {n : Nat} (h : roP T S X n) : X.1 30 0 26 = opH S := h.2.2.2.2.2.2.2.1
theorem roP.f14 {T S X : pS} {n : Nat} (h : roP T S X n) : X.1 30 0 14 = 0 := h.2.2.2.2.2.2.2.2.1
theorem roP.f16 {T S X : pS} {n : Nat} (h : roP T S X n) : X.1 30 0 16 = 0 := h.2.2.2.2.2.2.2.2.2.1
theorem roP.f23 {T S X : pS} {n : Nat} (h : roP T S X n) : X.1 30 0 23 = nI n := h.2.2.2.2.2.2.2.2.2.2.1
theorem roP.f24 {T S X : pS} {n : Nat} (h : roP T S X n) : X.1 30 0 24 = nI (rwE (S.1 12 0) n).1 := h.2.2.2.2.2.2.2.2.2.2.2.1
theorem roP.f25 {T S X : pS} {n : Nat} (h : roP T S X n) : X.2.1 30 0 25 = (rwE (S.1 12 0) n).2 := h.2.2.2.2.2.2.2.2.2.2.2.2.1
theorem roP.f22 {T S X : pS} {n : Nat} (h : roP T S X n) : X.1 30 0 22 = opG S := h.2.2.2.2.2.2.2.2.2.2.2.2.2.1
theorem roP.w0 {T S X : pS} {n : Nat} (h : roP T S X n) : X.1 58 0 0 = opw S 0 := h.2.2.2.2.2.2.2.2.2.2.2.2.2.2.1
theorem roP.w1 {T S X : pS} {n : Nat} (h : roP T S X n) : X.1 58 0 1 = opw S 1 := h.2.2.2.2.2.2.2.2.2.2.2.2.2.2.2.1
theorem roP.o1 {T S X : pS} {n : Nat} (h : roP T S X n) : ∀ k i j, ¬ (35 ≤ k ∧ k ≤ 44) → ¬ k = 30 → ¬ k = 58 → X.1 k i j = T.1 k i j := h.2.2.2.2.2.2.2.2.2.2.2.2.2.2.2.2.1
theorem roP.o2 {T S X : pS} {n : Nat} (h : roP T S X n) : ∀ j, 35 ≤ j → j ≤ 39 → X.1 30 0 j = T.1 30 0 j := h.2.2.2.2.2.2.2.2.2.2.2.2.2.2.2.2.2.1
theorem roP.o3 {T S X : pS} {n : Nat} (h : roP T S X n) : ∀ k i j, ¬ k = 36 → ¬ k = 30 → X.2.1 k i j = T.2.1 k i j := h.2.2.2.2.2.2.2.2.2.2.2.2.2.2.2.2.2.2.1
theorem roP.o4 {T S X : pS} {n : Nat} (h : roP T S X n) : X.2.2 = T.2.2 := h.2.2.2.2.2.2.2.2.2.2.2.2.2.2.2.2.2.2.2
theorem opW_q {S : pS} {h : Nat} (hK : opK S) (hW : opW S h = true) : ∃ q : Nat, q ≤ 60 ∧ q ≤ (op1 S).2.1 ∧ rwO (S.1 12 0) h = nI q := by
  unfold opW at hW
  have h1 := (of_decide_eq_true hW).1
  obtain ⟨q, hq, eq⟩ := wrO_q hK.1 h1
  refine ⟨q, hq, ?_, eq⟩
  unfold opw at h1
  rw [eq] at h1
  unfold wrO at h1
  have hR := hK.1
  rw [if_neg] at h1
  · refine Nat.le_of_not_lt (fun z => ?_)
    rw [if_pos ((x_lt (by omega) (by omega)).mpr z)] at h1
    have z3 := congrArg Int32.toInt h1
    rw [nI_toInt (by omega)] at z3
    have z4 : ((-4 : Int32)).toInt = -4 := by decide
    omega
  · rintro (z | z)
    · exact nI_pos (by omega) z
    · exact nI_nlt (a := 60) (b := q) hq (by omega) z
set_option maxHeartbeats 8000000 in
set_option maxRecDepth 100000 in
theorem m_X8_open (l : Launch) (A : pA) (T S : pS) (hd : T.1 52 0 = S.1 12 0) (hB : bB (S.1 12 0)) : e_MX8_open l [.ref (ad A 30 0)] (gS A T) (s_P A (fun v X => (∃ n, roP T S X n) ∧ v = some (.int (opN S)))) := by
  have hK := op_K hB
  obtain ⟨w0, hw0⟩ : ∃ w, opw S 0 = w := ⟨_, rfl⟩
  obtain ⟨w1, hw1⟩ : ∃ w, opw S 1 = w := ⟨_, rfl⟩
  obtain ⟨g0, hg0⟩ : ∃ w, gnO (S.1 12 0) 0 = w := ⟨_, rfl⟩
  obtain ⟨g1, hg1⟩ : ∃ w, gnO (S.1 12 0) 1 = w := ⟨_, rfl⟩
  obtain ⟨W0, hW0⟩ : ∃ w, opW S 0 = w := ⟨_, rfl⟩
  obtain ⟨W1, hW1⟩ : ∃ w, opW S 1 = w := ⟨_, rfl⟩
  have eH : opH S = if W0 = true then (if W1 = true ∧ g0 < g1 then 1 else 0) else if W1 = true then 1 else -4 := by unfold opH; rw [hW0, hW1, hg0, hg1]
  refine ofX8_open (Nat.le_of_ble_eq_true rfl) ?_
  intro V C Rt
  have tail : ∀ H a g s, opH S = H → (H = -4 ∨ ∃ h, h < 2 ∧ H = nI h ∧ opW S h = true) → V 0 0 63 [(0, .ref (ad A 30 0)), (1, .int (b2i W0)), (2, .int (b2i W1))] [.int H, .ref (ad A 30 0)] (gS A (oS (uI (uI (uI (uI (uI T 30 0 0 0) 30 0 18 0) 30 0 28 1) 58 0 0 w0) 58 0 1 w1) a g s)) := by
    intro H a g s hH hc
    rcases hc with rfl | ⟨h, hh, rfl, hW⟩
    · refine srnX8_open C Rt [] 80 ?_
      simp only [k_i, s_go, s_1, e_op, e_pi, e_pl, e_pr, e_p0, e_li, e_ll, e_lr, e_lk, e_ins, e_rm, e_to, e_sw, e_cmp, k_c, k_n, k_f, k_v, k_lg, ↓reduceIte, reduceCtorEq, Nat.reduceAdd, Nat.reduceSub, Nat.reduceMul, Nat.reduceEqDiff, Nat.reduceLT, Nat.reduceLeDiff, Int.reduceAdd, Int.reduceSub, Int.reduceNeg, Int.reduceLE, Int.reduceLT, Int.reduceToNat, Int.reduceEq, Int.cast_ofNat_Int, List.mem_cons, List.not_mem_nil, List.length_cons, List.length_nil, List.set_cons_zero, List.set_cons_succ, List.toList_toArray, eq_self, true_and, and_true, and_self, or_true, true_or, false_or, or_false, or_self, not_true_eq_false, not_false_eq_true, Classical.not_not, true_implies, false_implies, implies_true, forall_const, and_false, false_and, Nat.le_refl, Nat.zero_le, Bool.false_eq_true, lv_args, s_rl_at, s_gf, s_pf, dn_q, kd_q, cl_q, nf_q, ln_q, tg_q, rr_q, cr_q, u_1, e_lsw, k_ti, List.drop_succ_cons, List.drop_zero, List.drop_nil, List.zip_cons_cons, List.zip_nil_right, List.zip_nil_left, List.all_cons, List.all_nil, Bool.and_true, Bool.and_self, decide_true, decide_false, Option.toList, List.cons_append, List.nil_append, List.append_nil, DX8_open_0, DX8_open_1, DX8_open_2, FLX8, LDX8]
      have eN : opN S = 0 := by unfold opN; rw [if_pos hH]
      have eG : opG S = 0 := by unfold opG; rw [if_pos hH]
      refine ⟨⟨0, by omega, eN, fun i hi => by omega, fun i hi => by omega, by simp [u_1]; rfl, by simp [u_1, oS_1], by simp [u_1, oS_1], by simp [u_1, oS_1, hH], by simp [u_1, oS_1], by simp [u_1, oS_1], by simp [u_1]; rfl, by simp [u_1]; rfl, by simp [u_1]; rfl, by simp [u_1, eG], by simp [u_1, oS_1, hw0], by simp [u_1, oS_1, hw1], fun k i j h1 h2 h3 => ?_, fun j h1 h2 => ?_, fun k i j h1 h2 => ?_, rfl⟩, by rw [eN]⟩
      · simp only [u_1, oS_1]
        repeat rw [if_neg (by omega)]
      · simp only [u_1, oS_1]
        repeat rw [if_neg (by omega)]
      · simp only [u_1, oS_2]
        repeat rw [if_neg (by omega)]
    · have hneg : (nI h = (-4 : Int32)) = False := eq_false (fun z => by
        have z3 := congrArg Int32.toInt z
        rw [nI_toInt (by omega)] at z3
        have z4 : ((-4 : Int32)).toInt = -4 := by decide
        omega)
      have e16 : 16 * h = h * 16 := Nat.mul_comm _ _
      refine srnX8_open C Rt [] 80 ?_
      simp only [k_i, s_go, s_1, e_op, e_pi, e_pl, e_pr, e_p0, e_li, e_ll, e_lr, e_lk, e_ins, e_rm, e_to, e_sw, e_cmp, k_c, k_n, k_f, k_v, k_lg, ↓reduceIte, reduceCtorEq, Nat.reduceAdd, Nat.reduceSub, Nat.reduceMul, Nat.reduceEqDiff, Nat.reduceLT, Nat.reduceLeDiff, Int.reduceAdd, Int.reduceSub, Int.reduceNeg, Int.reduceLE, Int.reduceLT, Int.reduceToNat, Int.reduceEq, Int.cast_ofNat_Int, List.mem_cons, List.not_mem_nil, List.length_cons, List.length_nil, List.set_cons_zero, List.set_cons_succ, List.toList_toArray, eq_self, true_and, and_true, and_self, or_true, true_or, false_or, or_false, or_self, not_true_eq_false, not_false_eq_true, Classical.not_not, true_implies, false_implies, implies_true, forall_const, and_false, false_and, Nat.le_refl, Nat.zero_le, Bool.false_eq_true, lv_args, s_rl_at, s_gf, s_pf, dn_q, kd_q, cl_q, nf_q, ln_q, tg_q, rr_q, cr_q, u_1, e_lsw, k_ti, List.drop_succ_cons, List.drop_zero, List.drop_nil, List.zip_cons_cons, List.zip_nil_right, List.zip_nil_left, List.all_cons, List.all_nil, Bool.and_true, Bool.and_self, decide_true, decide_false, Option.toList, List.cons_append, List.nil_append, List.append_nil, DX8_open_0, DX8_open_1, DX8_open_2, FLX8, LDX8, hneg, (show (3500 : Int32) = nI 3500 from rfl), (show (16 : Int32) = nI 16 from rfl), pk_mul, nI_add, e16]
      obtain ⟨q, hq60, hqR, eq⟩ := opW_q hK hW
      have hR : ∀ i, i < q → rokI (S.1 12 0) i := fun i hi => (hK.2.2.1 i (by omega)).1
      have eN : opN S = nI q := by
        unfold opN
        rw [hH, if_neg (by rw [hneg]; exact fun z => z)]
        have : h = 0 ∨ h = 1 := by omega
        rcases this with rfl | rfl
        · rw [if_pos nI_0, eq]
        · rw [if_neg (by decide), eq]
      have eG : opG S = gnO (S.1 12 0) h := by
        unfold opG
        rw [hH, if_neg (by rw [hneg]; exact fun z => z)]
        have : h = 0 ∨ h = 1 := by omega
        rcases this with rfl | rfl
        · rw [if_pos nI_0]
        · rw [if_neg (by decide)]
      refine sX8_open_128 C (m_bA l A _ (a := 3500 + h * 16) (n := 4) hd (by omega) rfl) (s_obj (show 0 < 1 by decide) rfl) (hcat := Nat.le_of_ble_eq_true rfl) (k := ?_)
      rintro v2 G2 ⟨S2, rfl, rfl, rfl⟩
      refine srnX8_open C Rt [] 80 ?_
      simp only [k_i, s_go, s_1, e_op, e_pi, e_pl, e_pr, e_p0, e_li, e_ll, e_lr, e_lk, e_ins, e_rm, e_to, e_sw, e_cmp, k_c, k_n, k_f, k_v, k_lg, ↓reduceIte, reduceCtorEq, Nat.reduceAdd, Nat.reduceSub, Nat.reduceMul, Nat.reduceEqDiff, Nat.reduceLT, Nat.reduceLeDiff, Int.reduceAdd, Int.reduceSub, Int.reduceNeg, Int.reduceLE, Int.reduceLT, Int.reduceToNat, Int.reduceEq, Int.cast_ofNat_Int, List.mem_cons, List.not_mem_nil, List.length_cons, List.length_nil, List.set_cons_zero, List.set_cons_succ, List.toList_toArray, eq_self, true_and, and_true, and_self, or_true, true_or, false_or, or_false, or_self, not_true_eq_false, not_false_eq_true, Classical.not_not, true_implies, false_implies, implies_true, forall_const, and_false, false_and, Nat.le_refl, Nat.zero_le, Bool.false_eq_true, lv_args, s_rl_at, s_gf, s_pf, dn_q, kd_q, cl_q, nf_q, ln_q, tg_q, rr_q, cr_q, u_1, e_lsw, k_ti, List.drop_succ_cons, List.drop_zero, List.drop_nil, List.zip_cons_cons, List.zip_nil_right, List.zip_nil_left, List.all_cons, List.all_nil, Bool.and_true, Bool.and_self, decide_true, decide_false, Option.toList, List.cons_append, List.nil_append, List.append_nil, DX8_open_0, DX8_open_1, DX8_open_2, FLX8, LDX8]
      refine sX8_open_137 C (m_bA l A _ (a := 3500 + h * 16 + 4) (n := 4) hd (by omega) rfl) (s_obj (show 0 < 1 by decide) rfl) (hcat := Nat.le_of_ble_eq_true rfl) (k := ?_)
      rintro v2 G2 ⟨S2, rfl, rfl, rfl⟩
      refine srnX8_open C Rt [] 80 ?_
      simp only [k_i, s_go, s_1, e_op, e_pi, e_pl, e_pr, e_p0, e_li, e_ll, e_lr, e_lk, e_ins, e_rm, e_to, e_sw, e_cmp, k_c, k_n, k_f, k_v, k_lg, ↓reduceIte, reduceCtorEq, Nat.reduceAdd, Nat.reduceSub, Nat.reduceMul, Nat.reduceEqDiff, Nat.reduceLT, Nat.reduceLeDiff, Int.reduceAdd, Int.reduceSub, Int.reduceNeg, Int.reduceLE, Int.reduceLT, Int.reduceToNat, Int.reduceEq, Int.cast_ofNat_Int, List.mem_cons, List.not_mem_nil, List.length_cons, List.length_nil, List.set_cons_zero, List.set_cons_succ, List.toList_toArray, eq_self, true_and, and_true, and_self, or_true, true_or, false_or, or_false, or_self, not_true_eq_false, not_false_eq_true, Classical.not_not, true_implies, false_implies, implies_true, forall_const, and_false, false_and, Nat.le_refl, Nat.zero_le, Bool.false_eq_true, lv_args, s_rl_at, s_gf, s_pf, dn_q, kd_q, cl_q, nf_q, ln_q, tg_q, rr_q, cr_q, u_1, e_lsw, k_ti, List.drop_succ_cons, List.drop_zero, List.drop_nil, List.zip_cons_cons, List.zip_nil_right, List.zip_nil_left, List.all_cons, List.all_nil, Bool.and_true, Bool.and_self, decide_true, decide_false, Option.toList, List.cons_append, List.nil_append, List.append_nil, DX8_open_0, DX8_open_1, DX8_open_2, FLX8, LDX8]
      rw [show (nat_ (S.1 12 0) (3500 + h * 16 + 4) 4).toInt32 = nI q from eq]
      refine sX8_open_144 C (m_X8_firstWrong l A _ (d := S.1 12 0) (n := q) hd hB hq60) (s_obj (show 0 < 1 by decide) rfl) (hcat := Nat.le_of_ble_eq_true rfl) (k := ?_)
      rintro v2 G2 ⟨S2, rfl, q2, a2, ⟨h1, h2, h3⟩, rfl, rfl⟩
      have hq2 : q2 = q := by
        by_cases hlt : q2 < q
        · exact absurd (hR q2 hlt) (h3 hlt)
        · omega
      subst hq2
      refine srnX8_open C Rt [] 80 ?_
      simp only [k_i, s_go, s_1, e_op, e_pi, e_pl, e_pr, e_p0, e_li, e_ll, e_lr, e_lk, e_ins, e_rm, e_to, e_sw, e_cmp, k_c, k_n, k_f, k_v, k_lg, ↓reduceIte, reduceCtorEq, Nat.reduceAdd, Nat.reduceSub, Nat.reduceMul, Nat.reduceEqDiff, Nat.reduceLT, Nat.reduceLeDiff, Int.reduceAdd, Int.reduceSub, Int.reduceNeg, Int.reduceLE, Int.reduceLT, Int.reduceToNat, Int.reduceEq, Int.cast_ofNat_Int, List.mem_cons, List.not_mem_nil, List.length_cons, List.length_nil, List.set_cons_zero, List.set_cons_succ, List.toList_toArray, eq_self, true_and, and_true, and_self, or_true, true_or, false_or, or_false, or_self, not_true_eq_false, not_false_eq_true, Classical.not_not, true_implies, false_implies, implies_true, forall_const, and_false, false_and, Nat.le_refl, Nat.zero_le, Bool.false_eq_true, lv_args, s_rl_at, s_gf, s_pf, dn_q, kd_q, cl_q, nf_q, ln_q, tg_q, rr_q, cr_q, u_1, e_lsw, k_ti, List.drop_succ_cons, List.drop_zero, List.drop_nil, List.zip_cons_cons, List.zip_nil_right, List.zip_nil_left, List.all_cons, List.all_nil, Bool.and_true, Bool.and_self, decide_true, decide_false, Option.toList, List.cons_append, List.nil_append, List.append_nil, DX8_open_0, DX8_open_1, DX8_open_2, FLX8, LDX8, oS_1, oS_2, oS_3]
      refine sX8_open_166 C (m_X8_reads l A _ (d := S.1 12 0) (n := q2) hd hB hq60 hR) (s_obj (show 0 < 1 by decide) rfl) (hcat := Nat.le_of_ble_eq_true rfl) (k := ?_)
      rintro v2 G2 ⟨S2, rfl, Z, hZ, rfl, rfl⟩
      refine srnX8_open C Rt [] 80 ?_
      simp only [k_i, s_go, s_1, e_op, e_pi, e_pl, e_pr, e_p0, e_li, e_ll, e_lr, e_lk, e_ins, e_rm, e_to, e_sw, e_cmp, k_c, k_n, k_f, k_v, k_lg, ↓reduceIte, reduceCtorEq, Nat.reduceAdd, Nat.reduceSub, Nat.reduceMul, Nat.reduceEqDiff, Nat.reduceLT, Nat.reduceLeDiff, Int.reduceAdd, Int.reduceSub, Int.reduceNeg, Int.reduceLE, Int.reduceLT, Int.reduceToNat, Int.reduceEq, Int.cast_ofNat_Int, List.mem_cons, List.not_mem_nil, List.length_cons, List.length_nil, List.set_cons_zero, List.set_cons_succ, List.toList_toArray, eq_self, true_and, and_true, and_self, or_true, true_or, false_or, or_false, or_self, not_true_eq_false, not_false_eq_true, Classical.not_not, true_implies, false_implies, implies_true, forall_const, and_false, false_and, Nat.le_refl, Nat.zero_le, Bool.false_eq_true, lv_args, s_rl_at, s_gf, s_pf, dn_q, kd_q, cl_q, nf_q, ln_q, tg_q, rr_q, cr_q, u_1, e_lsw, k_ti, List.drop_succ_cons, List.drop_zero, List.drop_nil, List.zip_cons_cons, List.zip_nil_right, List.zip_nil_left, List.all_cons, List.all_nil, Bool.and_true, Bool.and_self, decide_true, decide_false, Option.toList, List.cons_append, List.nil_append, List.append_nil, DX8_open_0, DX8_open_1, DX8_open_2, FLX8, LDX8]
      obtain ⟨⟨z1, z2, z3⟩, z4⟩ := hZ
      have z30 : ∀ j, ¬ j = 32 → Z.1 30 0 j = _ := fun j hj => z1 30 0 j (by omega) (by omega)
      refine ⟨⟨q2, hq60, eN, hR, fun i hi => ?_, by simp [u_1], ?_, ?_, ?_, ?_, ?_, by simp [u_1], ?_, ?_, ?_, ?_, ?_, fun k i j h1 h2 h3 => ?_, fun j h1 h2 => ?_, fun k i j h1 h2 => ?_, ?_⟩, by rw [eN]⟩
      · have hr := (hR i hi).1
        exact kRef_u (kRef_u (z4 i hi) (by omega) hr.2.2.1 hr.2.2.2.2.1) (by omega) hr.2.2.1 hr.2.2.2.2.1
      · simp [u_1, z30, oS_1]
      · simp [u_1, z30, oS_1]
      · simp [u_1, z30, oS_1, hH]
      · simp [u_1, z30, oS_1]
      · simp [u_1, z30, oS_1]
      · simp [u_1, z30, oS_1]
      · have := z2 30 0 25 (by omega)
        simp only [u_1] at this ⊢
        rw [this]
        simp
      · simp [u_1, z30, oS_1, eG]
      · have := z1 58 0 0 (by omega) (by omega)
        simp only [u_1] at this ⊢
        simp [this, oS_1, u_1, hw0]
      · have := z1 58 0 1 (by omega) (by omega)
        simp only [u_1] at this ⊢
        simp [this, oS_1, u_1, hw1]
      · have := z1 k i j h1 (by omega)
        simp only [u_1] at this ⊢
        rw [if_neg (by omega), if_neg (by omega), this]
        simp only [oS_1, u_1]
        repeat rw [if_neg (by omega)]
      · have := z30 j (by omega)
        simp only [u_1] at this ⊢
        rw [if_neg (by omega), if_neg (by omega), this]
        simp only [oS_1, u_1]
        repeat rw [if_neg (by omega)]
      · have := z2 k i j h1
        simp only [u_1] at this ⊢
        rw [this]
        simp only [oS_2, u_1]
        repeat rw [if_neg (by omega)]
      · exact z3
  refine srnX8_open C Rt [] 40 ?_
  simp only [k_i, s_go, s_1, e_op, e_pi, e_pl, e_pr, e_p0, e_li, e_ll, e_lr, e_lk, e_ins, e_rm, e_to, e_sw, e_cmp, k_c, k_n, k_f, k_v, k_lg, ↓reduceIte, reduceCtorEq, Nat.reduceAdd, Nat.reduceSub, Nat.reduceMul, Nat.reduceEqDiff, Nat.reduceLT, Nat.reduceLeDiff, Int.reduceAdd, Int.reduceSub, Int.reduceNeg, Int.reduceLE, Int.reduceLT, Int.reduceToNat, Int.reduceEq, Int.cast_ofNat_Int, List.mem_cons, List.not_mem_nil, List.length_cons, List.length_nil, List.set_cons_zero, List.set_cons_succ, List.toList_toArray, eq_self, true_and, and_true, and_self, or_true, true_or, false_or, or_false, or_self, not_true_eq_false, not_false_eq_true, Classical.not_not, true_implies, false_implies, implies_true, forall_const, and_false, false_and, Nat.le_refl, Nat.zero_le, Bool.false_eq_true, lv_args, s_rl_at, s_gf, s_pf, dn_q, kd_q, cl_q, nf_q, ln_q, tg_q, rr_q, cr_q, u_1, e_lsw, k_ti, List.drop_succ_cons, List.drop_zero, List.drop_nil, List.zip_cons_cons, List.zip_nil_right, List.zip_nil_left, List.all_cons, List.all_nil, Bool.and_true, Bool.and_self, decide_true, decide_false, Option.toList, List.cons_append, List.nil_append, List.append_nil, DX8_open_0, DX8_open_1, DX8_open_2, FLX8, LDX8]
  refine sX8_open_17 C (m_X8_isWhole l A (uI (uI (uI T 30 0 0 0) 30 0 18 0) 30 0 28 1) S (h := 0) hd hB (by decide)) (s_obj (show 0 < 1 by decide) rfl) (hcat := Nat.le_of_ble_eq_true rfl) (k := ?_)
  rintro v2 G2 ⟨S2, rfl, a, g, s, rfl, rfl⟩
  refine srnX8_open C Rt [] 40 ?_
  simp only [k_i, s_go, s_1, e_op, e_pi, e_pl, e_pr, e_p0, e_li, e_ll, e_lr, e_lk, e_ins, e_rm, e_to, e_sw, e_cmp, k_c, k_n, k_f, k_v, k_lg, ↓reduceIte, reduceCtorEq, Nat.reduceAdd, Nat.reduceSub, Nat.reduceMul, Nat.reduceEqDiff, Nat.reduceLT, Nat.reduceLeDiff, Int.reduceAdd, Int.reduceSub, Int.reduceNeg, Int.reduceLE, Int.reduceLT, Int.reduceToNat, Int.reduceEq, Int.cast_ofNat_Int, List.mem_cons, List.not_mem_nil, List.length_cons, List.length_nil, List.set_cons_zero, List.set_cons_succ, List.toList_toArray, eq_self, true_and, and_true, and_self, or_true, true_or, false_or, or_false, or_self, not_true_eq_false, not_false_eq_true, Classical.not_not, true_implies, false_implies, implies_true, forall_const, and_false, false_and, Nat.le_refl, Nat.zero_le, Bool.false_eq_true, lv_args, s_rl_at, s_gf, s_pf, dn_q, kd_q, cl_q, nf_q, ln_q, tg_q, rr_q, cr_q, u_1, e_lsw, k_ti, List.drop_succ_cons, List.drop_zero, List.drop_nil, List.zip_cons_cons, List.zip_nil_right, List.zip_nil_left, List.all_cons, List.all_nil, Bool.and_true, Bool.and_self, decide_true, decide_false, Option.toList, List.cons_append, List.nil_append, List.append_nil, DX8_open_0, DX8_open_1, DX8_open_2, FLX8, LDX8]
  refine sX8_open_23 C (m_X8_isWhole l A (oS (uI (uI (uI (uI T 30 0 0 0) 30 0 18 0) 30 0 28 1) 58 0 0 (opw S 0)) a g s) S (h := 1) hd hB (by decide)) (s_obj (show 0 < 1 by decide) rfl) (hcat := Nat.le_of_ble_eq_true rfl) (k := ?_)
  rintro v2 G2 ⟨S2, rfl, a2, g2, s2, rfl, rfl⟩
  rw [oS_uI (by decide), oS_oS, hw0, hw1, hW0, hW1]
  have f0 : opH S = 0 → W0 = true → ∀ a g s, V 0 0 63 [(0, .ref (ad A 30 0)), (1, .int (b2i W0)), (2, .int (b2i W1))] [.int 0, .ref (ad A 30 0)] (gS A (oS (uI (uI (uI (uI (uI T 30 0 0 0) 30 0 18 0) 30 0 28 1) 58 0 0 w0) 58 0 1 w1) a g s)) := fun h1 h2 a g s => tail 0 a g s h1 (Or.inr ⟨0, by decide, rfl, by rw [hW0, h2]⟩)
  have f1 : opH S = 1 → W1 = true → ∀ a g s, V 0 0 63 [(0, .ref (ad A 30 0)), (1, .int (b2i W0)), (2, .int (b2i W1))] [.int 1, .ref (ad A 30 0)] (gS A (oS (uI (uI (uI (uI (uI T 30 0 0 0) 30 0 18 0) 30 0 28 1) 58 0 0 w0) 58 0 1 w1) a g s)) := fun h1 h2 a g s => tail 1 a g s h1 (Or.inr ⟨1, by decide, rfl, by rw [hW1, h2]⟩)
  cases hc0 : W0 with
  | false =>
    rw [hc0] at f1 tail eH
    cases hc1 : W1 with
    | false =>
      rw [hc1] at tail eH
      refine srnX8_open C Rt [63] 40 ?_
      simp only [k_i, s_go, s_1, e_op, e_pi, e_pl, e_pr, e_p0, e_li, e_ll, e_lr, e_lk, e_ins, e_rm, e_to, e_sw, e_cmp, k_c, k_n, k_f, k_v, k_lg, ↓reduceIte, reduceCtorEq, Nat.reduceAdd, Nat.reduceSub, Nat.reduceMul, Nat.reduceEqDiff, Nat.reduceLT, Nat.reduceLeDiff, Int.reduceAdd, Int.reduceSub, Int.reduceNeg, Int.reduceLE, Int.reduceLT, Int.reduceToNat, Int.reduceEq, Int.cast_ofNat_Int, List.mem_cons, List.not_mem_nil, List.length_cons, List.length_nil, List.set_cons_zero, List.set_cons_succ, List.toList_toArray, eq_self, true_and, and_true, and_self, or_true, true_or, false_or, or_false, or_self, not_true_eq_false, not_false_eq_true, Classical.not_not, true_implies, false_implies, implies_true, forall_const, and_false, false_and, Nat.le_refl, Nat.zero_le, Bool.false_eq_true, lv_args, s_rl_at, s_gf, s_pf, dn_q, kd_q, cl_q, nf_q, ln_q, tg_q, rr_q, cr_q, u_1, e_lsw, k_ti, List.drop_succ_cons, List.drop_zero, List.drop_nil, List.zip_cons_cons, List.zip_nil_right, List.zip_nil_left, List.all_cons, List.all_nil, Bool.and_true, Bool.and_self, decide_true, decide_false, Option.toList, List.cons_append, List.nil_append, List.append_nil, DX8_open_0, DX8_open_1, DX8_open_2, FLX8, LDX8, b2i_f]
      exact tail (-4) _ _ _ eH (Or.inl rfl)
    | true =>
      rw [hc1] at f1 eH
      refine srnX8_open C Rt [63] 40 ?_
      simp only [k_i, s_go, s_1, e_op, e_pi, e_pl, e_pr, e_p0, e_li, e_ll, e_lr, e_lk, e_ins, e_rm, e_to, e_sw, e_cmp, k_c, k_n, k_f, k_v, k_lg, ↓reduceIte, reduceCtorEq, Nat.reduceAdd, Nat.reduceSub, Nat.reduceMul, Nat.reduceEqDiff, Nat.reduceLT, Nat.reduceLeDiff, Int.reduceAdd, Int.reduceSub, Int.reduceNeg, Int.reduceLE, Int.reduceLT, Int.reduceToNat, Int.reduceEq, Int.cast_ofNat_Int, List.mem_cons, List.not_mem_nil, List.length_cons, List.length_nil, List.set_cons_zero, List.set_cons_succ, List.toList_toArray, eq_self, true_and, and_true, and_self, or_true, true_or, false_or, or_false, or_self, not_true_eq_false, not_false_eq_true, Classical.not_not, true_implies, false_implies, implies_true, forall_const, and_false, false_and, Nat.le_refl, Nat.zero_le, Bool.false_eq_true, lv_args, s_rl_at, s_gf, s_pf, dn_q, kd_q, cl_q, nf_q, ln_q, tg_q, rr_q, cr_q, u_1, e_lsw, k_ti, List.drop_succ_cons, List.drop_zero, List.drop_nil, List.zip_cons_cons, List.zip_nil_right, List.zip_nil_left, List.all_cons, List.all_nil, Bool.and_true, Bool.and_self, decide_true, decide_false, Option.toList, List.cons_append, List.nil_append, List.append_nil, DX8_open_0, DX8_open_1, DX8_open_2, FLX8, LDX8, b2i_f, b2i_t]
      exact f1 eH rfl _ _ _
  | true =>
    rw [hc0] at f0 f1 eH
    cases hc1 : W1 with
    | false =>
      rw [hc1] at f0 eH
      refine srnX8_open C Rt [63] 40 ?_
      simp only [k_i, s_go, s_1, e_op, e_pi, e_pl, e_pr, e_p0, e_li, e_ll, e_lr, e_lk, e_ins, e_rm, e_to, e_sw, e_cmp, k_c, k_n, k_f, k_v, k_lg, ↓reduceIte, reduceCtorEq, Nat.reduceAdd, Nat.reduceSub, Nat.reduceMul, Nat.reduceEqDiff, Nat.reduceLT, Nat.reduceLeDiff, Int.reduceAdd, Int.reduceSub, Int.reduceNeg, Int.reduceLE, Int.reduceLT, Int.reduceToNat, Int.reduceEq, Int.cast_ofNat_Int, List.mem_cons, List.not_mem_nil, List.length_cons, List.length_nil, List.set_cons_zero, List.set_cons_succ, List.toList_toArray, eq_self, true_and, and_true, and_self, or_true, true_or, false_or, or_false, or_self, not_true_eq_false, not_false_eq_true, Classical.not_not, true_implies, false_implies, implies_true, forall_const, and_false, false_and, Nat.le_refl, Nat.zero_le, Bool.false_eq_true, lv_args, s_rl_at, s_gf, s_pf, dn_q, kd_q, cl_q, nf_q, ln_q, tg_q, rr_q, cr_q, u_1, e_lsw, k_ti, List.drop_succ_cons, List.drop_zero, List.drop_nil, List.zip_cons_cons, List.zip_nil_right, List.zip_nil_left, List.all_cons, List.all_nil, Bool.and_true, Bool.and_self, decide_true, decide_false, Option.toList, List.cons_append, List.nil_append, List.append_nil, DX8_open_0, DX8_open_1, DX8_open_2, FLX8, LDX8, b2i_f, b2i_t]
      exact f0 (by rw [eH]; simp) rfl _ _ _
    | true =>
      rw [hc1] at f0 f1 eH
      refine srnX8_open C Rt [63] 40 ?_
      simp only [k_i, s_go, s_1, e_op, e_pi, e_pl, e_pr, e_p0, e_li, e_ll, e_lr, e_lk, e_ins, e_rm, e_to, e_sw, e_cmp, k_c, k_n, k_f, k_v, k_lg, ↓reduceIte, reduceCtorEq, Nat.reduceAdd, Nat.reduceSub, Nat.reduceMul, Nat.reduceEqDiff, Nat.reduceLT, Nat.reduceLeDiff, Int.reduceAdd, Int.reduceSub, Int.reduceNeg, Int.reduceLE, Int.reduceLT, Int.reduceToNat, Int.reduceEq, Int.cast_ofNat_Int, List.mem_cons, List.not_mem_nil, List.length_cons, List.length_nil, List.set_cons_zero, List.set_cons_succ, List.toList_toArray, eq_self, true_and, and_true, and_self, or_true, true_or, false_or, or_false, or_self, not_true_eq_false, not_false_eq_true, Classical.not_not, true_implies, false_implies, implies_true, forall_const, and_false, false_and, Nat.le_refl, Nat.zero_le, Bool.false_eq_true, lv_args, s_rl_at, s_gf, s_pf, dn_q, kd_q, cl_q, nf_q, ln_q, tg_q, rr_q, cr_q, u_1, e_lsw, k_ti, List.drop_succ_cons, List.drop_zero, List.drop_nil, List.zip_cons_cons, List.zip_nil_right, List.zip_nil_left, List.all_cons, List.all_nil, Bool.and_true, Bool.and_self, decide_true, decide_false, Option.toList, List.cons_append, List.nil_append, List.append_nil, DX8_open_0, DX8_open_1, DX8_open_2, FLX8, LDX8, b2i_t]
      refine sX8_open_38 C (m_X8_generationOf l A _ (d := S.1 12 0) (h := 0) hd (by decide)) (s_obj (show 0 < 1 by decide) rfl) (hcat := Nat.le_of_ble_eq_true rfl) (k := ?_)
      rintro v2 G2 ⟨S2, rfl, rfl, rfl⟩
      rw [oS_a, hg0]
      refine srnX8_open C Rt [63] 40 ?_
      simp only [k_i, s_go, s_1, e_op, e_pi, e_pl, e_pr, e_p0, e_li, e_ll, e_lr, e_lk, e_ins, e_rm, e_to, e_sw, e_cmp, k_c, k_n, k_f, k_v, k_lg, ↓reduceIte, reduceCtorEq, Nat.reduceAdd, Nat.reduceSub, Nat.reduceMul, Nat.reduceEqDiff, Nat.reduceLT, Nat.reduceLeDiff, Int.reduceAdd, Int.reduceSub, Int.reduceNeg, Int.reduceLE, Int.reduceLT, Int.reduceToNat, Int.reduceEq, Int.cast_ofNat_Int, List.mem_cons, List.not_mem_nil, List.length_cons, List.length_nil, List.set_cons_zero, List.set_cons_succ, List.toList_toArray, eq_self, true_and, and_true, and_self, or_true, true_or, false_or, or_false, or_self, not_true_eq_false, not_false_eq_true, Classical.not_not, true_implies, false_implies, implies_true, forall_const, and_false, false_and, Nat.le_refl, Nat.zero_le, Bool.false_eq_true, lv_args, s_rl_at, s_gf, s_pf, dn_q, kd_q, cl_q, nf_q, ln_q, tg_q, rr_q, cr_q, u_1, e_lsw, k_ti, List.drop_succ_cons, List.drop_zero, List.drop_nil, List.zip_cons_cons, List.zip_nil_right, List.zip_nil_left, List.all_cons, List.all_nil, Bool.and_true, Bool.and_self, decide_true, decide_false, Option.toList, List.cons_append, List.nil_append, List.append_nil, DX8_open_0, DX8_open_1, DX8_open_2, FLX8, LDX8]
      refine sX8_open_43 C (m_X8_generationOf l A _ (d := S.1 12 0) (h := 1) hd (by decide)) (s_obj (show 0 < 1 by decide) rfl) (hcat := Nat.le_of_ble_eq_true rfl) (k := ?_)
      rintro v2 G2 ⟨S2, rfl, rfl, rfl⟩
      rw [oS_a, hg1]
      refine srnX8_open C Rt [63] 40 ?_
      simp only [k_i, s_go, s_1, e_op, e_pi, e_pl, e_pr, e_p0, e_li, e_ll, e_lr, e_lk, e_ins, e_rm, e_to, e_sw, e_cmp, k_c, k_n, k_f, k_v, k_lg, ↓reduceIte, reduceCtorEq, Nat.reduceAdd, Nat.reduceSub, Nat.reduceMul, Nat.reduceEqDiff, Nat.reduceLT, Nat.reduceLeDiff, Int.reduceAdd, Int.reduceSub, Int.reduceNeg, Int.reduceLE, Int.reduceLT, Int.reduceToNat, Int.reduceEq, Int.cast_ofNat_Int, List.mem_cons, List.not_mem_nil, List.length_cons, List.length_nil, List.set_cons_zero, List.set_cons_succ, List.toList_toArray, eq_self, true_and, and_true, and_self, or_true, true_or, false_or, or_false, or_self, not_true_eq_false, not_false_eq_true, Classical.not_not, true_implies, false_implies, implies_true, forall_const, and_false, false_and, Nat.le_refl, Nat.zero_le, Bool.false_eq_true, lv_args, s_rl_at, s_gf, s_pf, dn_q, kd_q, cl_q, nf_q, ln_q, tg_q, rr_q, cr_q, u_1, e_lsw, k_ti, List.drop_succ_cons, List.drop_zero, List.drop_nil, List.zip_cons_cons, List.zip_nil_right, List.zip_nil_left, List.all_cons, List.all_nil, Bool.and_true, Bool.and_self, decide_true, decide_false, Option.toList, List.cons_append, List.nil_append, List.append_nil, DX8_open_0, DX8_open_1, DX8_open_2, FLX8, LDX8, b2i_t]
      refine ⟨fun h5 => f1 (by rw [eH]; simp [h5]) rfl _ _ _, fun h5 => f0 (by rw [eH]; simp [h5]) rfl _ _ _⟩
