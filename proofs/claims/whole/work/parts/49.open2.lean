/-! FactLog$Disk.readAll, FactLog.open -/
theorem rrw_oth {d : Nat → Int32} {k' : Nat} (h : k' < 6 ∨ 10 < k') (h2 : ¬ k' = 15) : ∀ {k r : Nat} {S : pS} {ρ : pR}, (rrw d k r S ρ).1.1 k' = S.1 k'
  | 0, _, _, _ => rfl
  | k + 1, r, S, ρ => by
    unfold rrw
    split
    · exact rowF_oth h
    · rw [rrw_oth h h2]
      show (uI (rowF S r d 3500 r ρ) 15 0 (r + 1) _).1 k' = S.1 k'
      funext i' j'
      simp only [u_1]
      rw [rowF_oth h]
      simp [h2]
theorem rrw_le {d : Nat → Int32} : ∀ {k r : Nat} {S : pS} {ρ : pR}, r ≤ (rrw d k r S ρ).2.1 ∧ (rrw d k r S ρ).2.1 ≤ r + k
  | 0, _, _, _ => ⟨Nat.le_refl _, Nat.le_refl _⟩
  | k + 1, r, S, ρ => by
    unfold rrw
    split
    · exact ⟨Nat.le_refl _, by show r ≤ _; omega⟩
    · have h := rrw_le (d := d) (k := k) (r := r + 1) (S := uJ (uI (rowF S r d 3500 r ρ) 15 0 (r + 1) (nI (rowX d 3500 r ρ).1)) 16 0 (r + 1) (rowX d 3500 r ρ).2.2) (ρ := rowX d 3500 r ρ)
      exact ⟨by omega, by omega⟩
theorem wrO_q {x : Int32} {right : Nat} (hr : right ≤ 60) (h : wrO x right = -4) : ∃ q : Nat, q ≤ 60 ∧ x = nI q := by
  unfold wrO at h
  split at h
  · exact absurd h (by decide)
  · rename_i h1
    have h2 : ¬ x < 0 := fun z => h1 (Or.inl z)
    have h3 : ¬ 60 < x := fun z => h1 (Or.inr z)
    exact nI_of2 (by decide) h2 (Int32.not_lt.mp h3)
abbrev opR (S : pS) : pS := rS (op1 S).1 (op1 S).2.2
abbrev opw (S : pS) (h : Nat) : Int32 := wrO (rwO (S.1 12 0) h) (op1 S).2.1
/-- a head is whole -/
def opW (S : pS) (h : Nat) : Bool := decide (opw S h = -4 ∧ swd (S.1 12 0) (3500 + h * 16) ((op1 S).1.2.1 16 0 (nN (rwO (S.1 12 0) h))) 8 = nat_ (S.1 12 0) (3500 + h * 16 + 8) 8)
def opH (S : pS) : Int32 := if opW S 0 = true then (if opW S 1 = true ∧ gnO (S.1 12 0) 0 < gnO (S.1 12 0) 1 then 1 else 0) else if opW S 1 = true then 1 else -4
def opG (S : pS) : Int32 := if opH S = -4 then 0 else if opH S = 0 then gnO (S.1 12 0) 0 else gnO (S.1 12 0) 1
def opN (S : pS) : Int32 := if opH S = -4 then 0 else if opH S = 0 then rwO (S.1 12 0) 0 else rwO (S.1 12 0) 1
def opE (R : pS) (op w0 w1 g n u : Int32) (σ : Int64) : pS := uI (uI (uJ (uI (uI (uI (uI (uI (uI R 11 0 5 op) 13 0 0 w0) 13 0 1 w1) 11 0 2 g) 11 0 3 n) 11 0 4 u) 11 0 7 σ) 4 0 1 n) 11 0 1 0
def opnS (S : pS) : pS := opE (opR S) (opH S) (opw S 0) (opw S 1) (opG S) (opN S) ((op1 S).1.1 15 0 (nN (opN S))) ((op1 S).1.2.1 16 0 (nN (opN S)))
theorem u_55 {R : pS} {a b w : Int32} : uI (uI (uI R 11 0 5 a) 13 0 0 w) 11 0 5 b = uI (uI R 11 0 5 b) 13 0 0 w := by
  refine Prod.ext ?_ rfl
  funext k i j
  simp only [u_1]
  grind
theorem u_56 {R : pS} {a b w x : Int32} : uI (uI (uI (uI R 11 0 5 a) 13 0 0 w) 13 0 1 x) 11 0 5 b = uI (uI (uI R 11 0 5 b) 13 0 0 w) 13 0 1 x := by
  refine Prod.ext ?_ rfl
  funext k i j
  simp only [u_1]
  grind
set_option maxHeartbeats 4000000 in
set_option maxRecDepth 100000 in
theorem m_X1_readAll (l : Launch) (A : pA) (S : pS) : e_MX1_readAll l [.ref (ad A 11 0), .ref (ad A 4 0), .ref (ad A 17 0)] (gS A S) (s_P A (fun v S2 => S2 = opnS S ∧ v = none)) := by
  have hri : (op1 S).2.1 ≤ 60 := by have := (rrw_le (d := S.1 12 0) (k := 60) (r := 0) (S := op0 S) (ρ := (0, false, 1))).2; exact this
  have hd : ∀ T : pS, T.1 12 0 = (opR S).1 12 0 → T.1 12 0 = S.1 12 0 := fun T h => by
    rw [h]
    show (op1 S).1.1 12 0 = _
    rw [rrw_oth (by omega) (by omega)]
    rfl
  obtain ⟨w0, hw0⟩ : ∃ w, opw S 0 = w := ⟨_, rfl⟩
  obtain ⟨w1, hw1⟩ : ∃ w, opw S 1 = w := ⟨_, rfl⟩
  obtain ⟨g0, hg0⟩ : ∃ w, gnO (S.1 12 0) 0 = w := ⟨_, rfl⟩
  obtain ⟨g1, hg1⟩ : ∃ w, gnO (S.1 12 0) 1 = w := ⟨_, rfl⟩
  obtain ⟨r0, hr0⟩ : ∃ w, rwO (S.1 12 0) 0 = w := ⟨_, rfl⟩
  obtain ⟨r1, hr1⟩ : ∃ w, rwO (S.1 12 0) 1 = w := ⟨_, rfl⟩
  obtain ⟨W0, hW0⟩ : ∃ w, opW S 0 = w := ⟨_, rfl⟩
  obtain ⟨W1, hW1⟩ : ∃ w, opW S 1 = w := ⟨_, rfl⟩
  obtain ⟨ri, hri2⟩ : ∃ w, (op1 S).2.1 = w := ⟨_, rfl⟩
  have cF : ∀ (T : pS) (h : Nat), h < 2 → T.1 12 0 = (opR S).1 12 0 → e_MX1_firstWrongRow l [.ref (ad A 11 0), .int (nI h), .int (nI ri)] (gS A T) (s_P A (fun v S2 => T = S2 ∧ v = some (.int (opw S h)))) := by
    intro T h hh hT
    have := m_X1_firstWrongRow l A T (h := h) (right := ri) hh
    rw [hd T hT] at this
    rw [← hri2] at this ⊢
    exact this
  have cG : ∀ (T : pS) (h : Nat), h < 2 → T.1 12 0 = (opR S).1 12 0 → e_MX1_generationOf l [.ref (ad A 11 0), .int (nI h)] (gS A T) (s_P A (fun v S2 => T = S2 ∧ v = some (.int (gnO (S.1 12 0) h)))) := by
    intro T h hh hT
    have := m_X1_generationOf l A T (h := h) hh
    rw [hd T hT] at this
    exact this
  have cR : ∀ (T : pS) (h : Nat), h < 2 → T.1 12 0 = (opR S).1 12 0 → e_MX1_rowsOf l [.ref (ad A 11 0), .int (nI h)] (gS A T) (s_P A (fun v S2 => T = S2 ∧ v = some (.int (rwO (S.1 12 0) h)))) := by
    intro T h hh hT
    have := m_X1_rowsOf l A T (h := h) hh
    rw [hd T hT] at this
    exact this
  have cW : ∀ (T : pS) (h : Nat), h < 2 → T.1 12 0 = (opR S).1 12 0 → T.2.1 16 0 = (op1 S).1.2.1 16 0 → T.1 13 0 h = opw S h → e_MX1_isWhole l [.ref (ad A 11 0), .int (nI h)] (gS A T) (s_P A (fun v S2 => T = S2 ∧ v = some (.int (b2i (opW S h))))) := by
    intro T h hh hT h16 h13
    have := m_X1_isWhole l A T (h := h) hh (fun z => by rw [hd T hT]; exact wrO_q hri (h13.symm.trans z))
    rw [hd T hT, h16, h13] at this
    exact this
  have hq0 : W0 = true → ∃ q : Nat, q ≤ 60 ∧ r0 = nI q := fun h => by
    rw [← hW0] at h
    simp only [opW, decide_eq_true_eq] at h
    rw [← hr0]
    exact wrO_q hri h.1
  have hq1 : W1 = true → ∃ q : Nat, q ≤ 60 ∧ r1 = nI q := fun h => by
    rw [← hW1] at h
    simp only [opW, decide_eq_true_eq] at h
    rw [← hr1]
    exact wrO_q hri h.1
  have hrs := m_X1_readRows l A S
  rw [hri2] at hrs
  refine ofX1_readAll (Nat.le_of_ble_eq_true rfl) ?_
  intro V C Rt
  refine srnX1_readAll C Rt [] 40 ?_
  simp only [k_i, s_go, s_1, e_op, e_pi, e_pl, e_pr, e_p0, e_li, e_ll, e_lr, e_lk, e_ins, e_rm, e_to, e_sw, e_cmp, k_c, k_n, k_f, k_v, k_lg, ↓reduceIte, reduceCtorEq, Nat.reduceAdd, Nat.reduceSub, Nat.reduceMul, Nat.reduceEqDiff, Nat.reduceLT, Nat.reduceLeDiff, Int.reduceAdd, Int.reduceSub, Int.reduceNeg, Int.reduceLE, Int.reduceLT, Int.reduceToNat, Int.reduceEq, Int.cast_ofNat_Int, List.mem_cons, List.not_mem_nil, List.length_cons, List.length_nil, List.set_cons_zero, List.set_cons_succ, List.toList_toArray, eq_self, true_and, and_true, and_self, or_true, true_or, false_or, or_false, or_self, not_true_eq_false, not_false_eq_true, Classical.not_not, true_implies, false_implies, implies_true, forall_const, and_false, false_and, Nat.le_refl, Nat.zero_le, Bool.false_eq_true, lv_args, s_rl_at, s_gf, s_pf, dn_q, kd_q, cl_q, nf_q, ln_q, tg_q, rr_q, cr_q, u_1, e_lsw, k_ti, List.drop_succ_cons, List.drop_zero, List.drop_nil, List.zip_cons_cons, List.zip_nil_right, List.zip_nil_left, List.all_cons, List.all_nil, Bool.and_true, Bool.and_self, decide_true, decide_false, Option.toList, List.cons_append, List.nil_append, List.append_nil, DX1_readAll_0, DX1_readAll_1, DX1_readAll_2, FLX1, LDX1]
  refine sX1_readAll_3 C hrs (s_obj (show 0 < 1 by decide) rfl) (hcat := Nat.le_of_ble_eq_true rfl) (k := ?_)
  rintro v2 G2 ⟨S2, rfl, rfl, rfl⟩
  obtain ⟨R, hR⟩ : ∃ R, opR S = R := ⟨_, rfl⟩
  have h16 : R.2.1 16 0 = (op1 S).1.2.1 16 0 := by rw [← hR]; rfl
  have h15 : R.1 15 0 = (op1 S).1.1 15 0 := by rw [← hR]; rfl
  have h12 : ∀ T : pS, T.1 12 0 = R.1 12 0 → T.1 12 0 = (opR S).1 12 0 := fun T h => by rw [h, hR]
  have fin : ∀ (op : Int32) (nq : Nat), nq ≤ 60 → opH S = op → opN S = nI nq → (op = -4 ∨ op = nI 0 ∨ op = nI 1) → V 0 0 86 [(0, .ref (ad A 11 0)), (1, .ref (ad A 4 0)), (2, .ref (ad A 17 0)), (3, .int (nI ri)), (4, .int (nI 2))] [] (gS A (uI (uI (uI R 11 0 5 op) 13 0 0 w0) 13 0 1 w1)) := by
    intro op nq hnq hop hN hcase
    have e9 : opnS S = opE R op w0 w1 (opG S) (nI nq) (R.1 15 0 nq) (R.2.1 16 0 nq) := by
      unfold opnS
      rw [hR, hop, hw0, hw1, hN, nN_nI (by omega), ← h15, ← h16]
    rcases hcase with rfl | rfl | rfl
    · have hn0 : nq = 0 := by
        have : opN S = 0 := by simp [opN, hop]
        rw [this] at hN
        exact ((x_eq (a := 0) (b := nq) (by omega) (by omega)).mp hN).symm
      subst hn0
      have hg : opG S = 0 := by simp [opG, hop]
      refine srnX1_readAll C Rt [] 80 ?_
      simp only [k_i, s_go, s_1, e_op, e_pi, e_pl, e_pr, e_p0, e_li, e_ll, e_lr, e_lk, e_ins, e_rm, e_to, e_sw, e_cmp, k_c, k_n, k_f, k_v, k_lg, ↓reduceIte, reduceCtorEq, Nat.reduceAdd, Nat.reduceSub, Nat.reduceMul, Nat.reduceEqDiff, Nat.reduceLT, Nat.reduceLeDiff, Int.reduceAdd, Int.reduceSub, Int.reduceNeg, Int.reduceLE, Int.reduceLT, Int.reduceToNat, Int.reduceEq, Int.cast_ofNat_Int, List.mem_cons, List.not_mem_nil, List.length_cons, List.length_nil, List.set_cons_zero, List.set_cons_succ, List.toList_toArray, eq_self, true_and, and_true, and_self, or_true, true_or, false_or, or_false, or_self, not_true_eq_false, not_false_eq_true, Classical.not_not, true_implies, false_implies, implies_true, forall_const, and_false, false_and, Nat.le_refl, Nat.zero_le, Bool.false_eq_true, lv_args, s_rl_at, s_gf, s_pf, dn_q, kd_q, cl_q, nf_q, ln_q, tg_q, rr_q, cr_q, u_1, e_lsw, k_ti, List.drop_succ_cons, List.drop_zero, List.drop_nil, List.zip_cons_cons, List.zip_nil_right, List.zip_nil_left, List.all_cons, List.all_nil, Bool.and_true, Bool.and_self, decide_true, decide_false, Option.toList, List.cons_append, List.nil_append, List.append_nil, DX1_readAll_0, DX1_readAll_1, DX1_readAll_2, FLX1, LDX1]
      refine ⟨vp_in_iff.mpr (by decide), vp_in_iff.mpr (by decide), ?_⟩
      rw [e9, hg]
      rfl
    · have hg : opG S = g0 := by simp only [opG, hop, hg0]; rw [if_neg (by decide), if_pos (by decide)]
      have hn : r0 = nI nq := by rw [← hN]; simp only [opN, hop, hr0]; rw [if_neg (by decide), if_pos (by decide)]
      refine srnX1_readAll C Rt [] 20 ?_
      simp only [k_i, s_go, s_1, e_op, e_pi, e_pl, e_pr, e_p0, e_li, e_ll, e_lr, e_lk, e_ins, e_rm, e_to, e_sw, e_cmp, k_c, k_n, k_f, k_v, k_lg, ↓reduceIte, reduceCtorEq, Nat.reduceAdd, Nat.reduceSub, Nat.reduceMul, Nat.reduceEqDiff, Nat.reduceLT, Nat.reduceLeDiff, Int.reduceAdd, Int.reduceSub, Int.reduceNeg, Int.reduceLE, Int.reduceLT, Int.reduceToNat, Int.reduceEq, Int.cast_ofNat_Int, List.mem_cons, List.not_mem_nil, List.length_cons, List.length_nil, List.set_cons_zero, List.set_cons_succ, List.toList_toArray, eq_self, true_and, and_true, and_self, or_true, true_or, false_or, or_false, or_self, not_true_eq_false, not_false_eq_true, Classical.not_not, true_implies, false_implies, implies_true, forall_const, and_false, false_and, Nat.le_refl, Nat.zero_le, Bool.false_eq_true, lv_args, s_rl_at, s_gf, s_pf, dn_q, kd_q, cl_q, nf_q, ln_q, tg_q, rr_q, cr_q, u_1, e_lsw, k_ti, List.drop_succ_cons, List.drop_zero, List.drop_nil, List.zip_cons_cons, List.zip_nil_right, List.zip_nil_left, List.all_cons, List.all_nil, Bool.and_true, Bool.and_self, decide_true, decide_false, Option.toList, List.cons_append, List.nil_append, List.append_nil, DX1_readAll_0, DX1_readAll_1, DX1_readAll_2, FLX1, LDX1, (show (nI 0 = (-4 : Int32)) = False by decide)]
      refine sX1_readAll_105 C (cG _ 0 (by omega) (h12 _ rfl)) (s_obj (show 0 < 1 by decide) rfl) (hcat := Nat.le_of_ble_eq_true rfl) (k := ?_)
      rintro v2 G2 ⟨S2, rfl, rfl, rfl⟩
      rw [hg0]
      refine srnX1_readAll C Rt [] 20 ?_
      simp only [k_i, s_go, s_1, e_op, e_pi, e_pl, e_pr, e_p0, e_li, e_ll, e_lr, e_lk, e_ins, e_rm, e_to, e_sw, e_cmp, k_c, k_n, k_f, k_v, k_lg, ↓reduceIte, reduceCtorEq, Nat.reduceAdd, Nat.reduceSub, Nat.reduceMul, Nat.reduceEqDiff, Nat.reduceLT, Nat.reduceLeDiff, Int.reduceAdd, Int.reduceSub, Int.reduceNeg, Int.reduceLE, Int.reduceLT, Int.reduceToNat, Int.reduceEq, Int.cast_ofNat_Int, List.mem_cons, List.not_mem_nil, List.length_cons, List.length_nil, List.set_cons_zero, List.set_cons_succ, List.toList_toArray, eq_self, true_and, and_true, and_self, or_true, true_or, false_or, or_false, or_self, not_true_eq_false, not_false_eq_true, Classical.not_not, true_implies, false_implies, implies_true, forall_const, and_false, false_and, Nat.le_refl, Nat.zero_le, Bool.false_eq_true, lv_args, s_rl_at, s_gf, s_pf, dn_q, kd_q, cl_q, nf_q, ln_q, tg_q, rr_q, cr_q, u_1, e_lsw, k_ti, List.drop_succ_cons, List.drop_zero, List.drop_nil, List.zip_cons_cons, List.zip_nil_right, List.zip_nil_left, List.all_cons, List.all_nil, Bool.and_true, Bool.and_self, decide_true, decide_false, Option.toList, List.cons_append, List.nil_append, List.append_nil, DX1_readAll_0, DX1_readAll_1, DX1_readAll_2, FLX1, LDX1, (show (nI 0 = (-4 : Int32)) = False by decide)]
      refine sX1_readAll_130 C (cR _ 0 (by omega) (h12 _ rfl)) (s_obj (show 0 < 1 by decide) rfl) (hcat := Nat.le_of_ble_eq_true rfl) (k := ?_)
      rintro v2 G2 ⟨S2, rfl, rfl, rfl⟩
      rw [hr0, hn]
      refine srnX1_readAll C Rt [] 40 ?_
      simp only [k_i, s_go, s_1, e_op, e_pi, e_pl, e_pr, e_p0, e_li, e_ll, e_lr, e_lk, e_ins, e_rm, e_to, e_sw, e_cmp, k_c, k_n, k_f, k_v, k_lg, ↓reduceIte, reduceCtorEq, Nat.reduceAdd, Nat.reduceSub, Nat.reduceMul, Nat.reduceEqDiff, Nat.reduceLT, Nat.reduceLeDiff, Int.reduceAdd, Int.reduceSub, Int.reduceNeg, Int.reduceLE, Int.reduceLT, Int.reduceToNat, Int.reduceEq, Int.cast_ofNat_Int, List.mem_cons, List.not_mem_nil, List.length_cons, List.length_nil, List.set_cons_zero, List.set_cons_succ, List.toList_toArray, eq_self, true_and, and_true, and_self, or_true, true_or, false_or, or_false, or_self, not_true_eq_false, not_false_eq_true, Classical.not_not, true_implies, false_implies, implies_true, forall_const, and_false, false_and, Nat.le_refl, Nat.zero_le, Bool.false_eq_true, lv_args, s_rl_at, s_gf, s_pf, dn_q, kd_q, cl_q, nf_q, ln_q, tg_q, rr_q, cr_q, u_1, e_lsw, k_ti, List.drop_succ_cons, List.drop_zero, List.drop_nil, List.zip_cons_cons, List.zip_nil_right, List.zip_nil_left, List.all_cons, List.all_nil, Bool.and_true, Bool.and_self, decide_true, decide_false, Option.toList, List.cons_append, List.nil_append, List.append_nil, DX1_readAll_0, DX1_readAll_1, DX1_readAll_2, FLX1, LDX1, x_cl (a := nq) (by omega), x_in (a := nq) (n := 61) (by omega)]
      refine ⟨by omega, by omega, ?_⟩
      rw [e9, hg]
      rfl
    · have hg : opG S = g1 := by simp only [opG, hop, hg1]; rw [if_neg (by decide), if_neg (by decide)]
      have hn : r1 = nI nq := by rw [← hN]; simp only [opN, hop, hr1]; rw [if_neg (by decide), if_neg (by decide)]
      refine srnX1_readAll C Rt [] 20 ?_
      simp only [k_i, s_go, s_1, e_op, e_pi, e_pl, e_pr, e_p0, e_li, e_ll, e_lr, e_lk, e_ins, e_rm, e_to, e_sw, e_cmp, k_c, k_n, k_f, k_v, k_lg, ↓reduceIte, reduceCtorEq, Nat.reduceAdd, Nat.reduceSub, Nat.reduceMul, Nat.reduceEqDiff, Nat.reduceLT, Nat.reduceLeDiff, Int.reduceAdd, Int.reduceSub, Int.reduceNeg, Int.reduceLE, Int.reduceLT, Int.reduceToNat, Int.reduceEq, Int.cast_ofNat_Int, List.mem_cons, List.not_mem_nil, List.length_cons, List.length_nil, List.set_cons_zero, List.set_cons_succ, List.toList_toArray, eq_self, true_and, and_true, and_self, or_true, true_or, false_or, or_false, or_self, not_true_eq_false, not_false_eq_true, Classical.not_not, true_implies, false_implies, implies_true, forall_const, and_false, false_and, Nat.le_refl, Nat.zero_le, Bool.false_eq_true, lv_args, s_rl_at, s_gf, s_pf, dn_q, kd_q, cl_q, nf_q, ln_q, tg_q, rr_q, cr_q, u_1, e_lsw, k_ti, List.drop_succ_cons, List.drop_zero, List.drop_nil, List.zip_cons_cons, List.zip_nil_right, List.zip_nil_left, List.all_cons, List.all_nil, Bool.and_true, Bool.and_self, decide_true, decide_false, Option.toList, List.cons_append, List.nil_append, List.append_nil, DX1_readAll_0, DX1_readAll_1, DX1_readAll_2, FLX1, LDX1, (show (nI 1 = (-4 : Int32)) = False by decide)]
      refine sX1_readAll_105 C (cG _ 1 (by omega) (h12 _ rfl)) (s_obj (show 0 < 1 by decide) rfl) (hcat := Nat.le_of_ble_eq_true rfl) (k := ?_)
      rintro v2 G2 ⟨S2, rfl, rfl, rfl⟩
      rw [hg1]
      refine srnX1_readAll C Rt [] 20 ?_
      simp only [k_i, s_go, s_1, e_op, e_pi, e_pl, e_pr, e_p0, e_li, e_ll, e_lr, e_lk, e_ins, e_rm, e_to, e_sw, e_cmp, k_c, k_n, k_f, k_v, k_lg, ↓reduceIte, reduceCtorEq, Nat.reduceAdd, Nat.reduceSub, Nat.reduceMul, Nat.reduceEqDiff, Nat.reduceLT, Nat.reduceLeDiff, Int.reduceAdd, Int.reduceSub, Int.reduceNeg, Int.reduceLE, Int.reduceLT, Int.reduceToNat, Int.reduceEq, Int.cast_ofNat_Int, List.mem_cons, List.not_mem_nil, List.length_cons, List.length_nil, List.set_cons_zero, List.set_cons_succ, List.toList_toArray, eq_self, true_and, and_true, and_self, or_true, true_or, false_or, or_false, or_self, not_true_eq_false, not_false_eq_true, Classical.not_not, true_implies, false_implies, implies_true, forall_const, and_false, false_and, Nat.le_refl, Nat.zero_le, Bool.false_eq_true, lv_args, s_rl_at, s_gf, s_pf, dn_q, kd_q, cl_q, nf_q, ln_q, tg_q, rr_q, cr_q, u_1, e_lsw, k_ti, List.drop_succ_cons, List.drop_zero, List.drop_nil, List.zip_cons_cons, List.zip_nil_right, List.zip_nil_left, List.all_cons, List.all_nil, Bool.and_true, Bool.and_self, decide_true, decide_false, Option.toList, List.cons_append, List.nil_append, List.append_nil, DX1_readAll_0, DX1_readAll_1, DX1_readAll_2, FLX1, LDX1, (show (nI 1 = (-4 : Int32)) = False by decide)]
      refine sX1_readAll_130 C (cR _ 1 (by omega) (h12 _ rfl)) (s_obj (show 0 < 1 by decide) rfl) (hcat := Nat.le_of_ble_eq_true rfl) (k := ?_)
      rintro v2 G2 ⟨S2, rfl, rfl, rfl⟩
      rw [hr1, hn]
      refine srnX1_readAll C Rt [] 40 ?_
      simp only [k_i, s_go, s_1, e_op, e_pi, e_pl, e_pr, e_p0, e_li, e_ll, e_lr, e_lk, e_ins, e_rm, e_to, e_sw, e_cmp, k_c, k_n, k_f, k_v, k_lg, ↓reduceIte, reduceCtorEq, Nat.reduceAdd, Nat.reduceSub, Nat.reduceMul, Nat.reduceEqDiff, Nat.reduceLT, Nat.reduceLeDiff, Int.reduceAdd, Int.reduceSub, Int.reduceNeg, Int.reduceLE, Int.reduceLT, Int.reduceToNat, Int.reduceEq, Int.cast_ofNat_Int, List.mem_cons, List.not_mem_nil, List.length_cons, List.length_nil, List.set_cons_zero, List.set_cons_succ, List.toList_toArray, eq_self, true_and, and_true, and_self, or_true, true_or, false_or, or_false, or_self, not_true_eq_false, not_false_eq_true, Classical.not_not, true_implies, false_implies, implies_true, forall_const, and_false, false_and, Nat.le_refl, Nat.zero_le, Bool.false_eq_true, lv_args, s_rl_at, s_gf, s_pf, dn_q, kd_q, cl_q, nf_q, ln_q, tg_q, rr_q, cr_q, u_1, e_lsw, k_ti, List.drop_succ_cons, List.drop_zero, List.drop_nil, List.zip_cons_cons, List.zip_nil_right, List.zip_nil_left, List.all_cons, List.all_nil, Bool.and_true, Bool.and_self, decide_true, decide_false, Option.toList, List.cons_append, List.nil_append, List.append_nil, DX1_readAll_0, DX1_readAll_1, DX1_readAll_2, FLX1, LDX1, x_cl (a := nq) (by omega), x_in (a := nq) (n := 61) (by omega)]
      refine ⟨by omega, by omega, ?_⟩
      rw [e9, hg]
      rfl
  have z0 : (0 : Int32).toNatClampNeg = 0 := by decide
  have z1 : (1 : Int32).toNatClampNeg = 1 := by decide
  have i0 : vp_in 0 2 := vp_in_iff.mpr (by decide)
  have i1 : vp_in 1 2 := vp_in_iff.mpr (by decide)
  have l0 : ((2 : Int32) ≤ 0) = False := by decide
  have l1 : ((2 : Int32) ≤ 1) = False := by decide
  simp only [hR]
  refine srnX1_readAll C Rt [] 40 ?_
  simp only [k_i, s_go, s_1, e_op, e_pi, e_pl, e_pr, e_p0, e_li, e_ll, e_lr, e_lk, e_ins, e_rm, e_to, e_sw, e_cmp, k_c, k_n, k_f, k_v, k_lg, ↓reduceIte, reduceCtorEq, Nat.reduceAdd, Nat.reduceSub, Nat.reduceMul, Nat.reduceEqDiff, Nat.reduceLT, Nat.reduceLeDiff, Int.reduceAdd, Int.reduceSub, Int.reduceNeg, Int.reduceLE, Int.reduceLT, Int.reduceToNat, Int.reduceEq, Int.cast_ofNat_Int, List.mem_cons, List.not_mem_nil, List.length_cons, List.length_nil, List.set_cons_zero, List.set_cons_succ, List.toList_toArray, eq_self, true_and, and_true, and_self, or_true, true_or, false_or, or_false, or_self, not_true_eq_false, not_false_eq_true, Classical.not_not, true_implies, false_implies, implies_true, forall_const, and_false, false_and, Nat.le_refl, Nat.zero_le, Bool.false_eq_true, lv_args, s_rl_at, s_gf, s_pf, dn_q, kd_q, cl_q, nf_q, ln_q, tg_q, rr_q, cr_q, u_1, e_lsw, k_ti, List.drop_succ_cons, List.drop_zero, List.drop_nil, List.zip_cons_cons, List.zip_nil_right, List.zip_nil_left, List.all_cons, List.all_nil, Bool.and_true, Bool.and_self, decide_true, decide_false, Option.toList, List.cons_append, List.nil_append, List.append_nil, DX1_readAll_0, DX1_readAll_1, DX1_readAll_2, FLX1, LDX1, l0]
  refine sX1_readAll_32 C (cF _ 0 (by omega) (h12 _ rfl)) (s_obj (show 0 < 1 by decide) rfl) (hcat := Nat.le_of_ble_eq_true rfl) (k := ?_)
  rintro v2 G2 ⟨S2, rfl, rfl, rfl⟩
  rw [hw0]
  refine srnX1_readAll C Rt [16] 20 ?_
  simp only [k_i, s_go, s_1, e_op, e_pi, e_pl, e_pr, e_p0, e_li, e_ll, e_lr, e_lk, e_ins, e_rm, e_to, e_sw, e_cmp, k_c, k_n, k_f, k_v, k_lg, ↓reduceIte, reduceCtorEq, Nat.reduceAdd, Nat.reduceSub, Nat.reduceMul, Nat.reduceEqDiff, Nat.reduceLT, Nat.reduceLeDiff, Int.reduceAdd, Int.reduceSub, Int.reduceNeg, Int.reduceLE, Int.reduceLT, Int.reduceToNat, Int.reduceEq, Int.cast_ofNat_Int, List.mem_cons, List.not_mem_nil, List.length_cons, List.length_nil, List.set_cons_zero, List.set_cons_succ, List.toList_toArray, eq_self, true_and, and_true, and_self, or_true, true_or, false_or, or_false, or_self, not_true_eq_false, not_false_eq_true, Classical.not_not, true_implies, false_implies, implies_true, forall_const, and_false, false_and, Nat.le_refl, Nat.zero_le, Bool.false_eq_true, lv_args, s_rl_at, s_gf, s_pf, dn_q, kd_q, cl_q, nf_q, ln_q, tg_q, rr_q, cr_q, u_1, e_lsw, k_ti, List.drop_succ_cons, List.drop_zero, List.drop_nil, List.zip_cons_cons, List.zip_nil_right, List.zip_nil_left, List.all_cons, List.all_nil, Bool.and_true, Bool.and_self, decide_true, decide_false, Option.toList, List.cons_append, List.nil_append, List.append_nil, DX1_readAll_0, DX1_readAll_1, DX1_readAll_2, FLX1, LDX1, z0, i0]
  refine sX1_readAll_39 C (cW _ 0 (by omega) (h12 _ rfl) h16 hw0.symm) (s_obj (show 0 < 1 by decide) rfl) (hcat := Nat.le_of_ble_eq_true rfl) (k := ?_)
  rintro v2 G2 ⟨S2, rfl, rfl, rfl⟩
  rw [hW0]
  have tail : ∀ op : Int32, ((op = -4 ∧ W0 = false) ∨ (op = 0 ∧ W0 = true)) → V 0 0 16 [(0, .ref (ad A 11 0)), (1, .ref (ad A 4 0)), (2, .ref (ad A 17 0)), (3, .int (nI ri)), (4, .int 1)] [] (gS A (uI (uI R 11 0 5 op) 13 0 0 w0)) := by
    intro op hop
    refine srnX1_readAll C Rt [16] 20 ?_
    simp only [k_i, s_go, s_1, e_op, e_pi, e_pl, e_pr, e_p0, e_li, e_ll, e_lr, e_lk, e_ins, e_rm, e_to, e_sw, e_cmp, k_c, k_n, k_f, k_v, k_lg, ↓reduceIte, reduceCtorEq, Nat.reduceAdd, Nat.reduceSub, Nat.reduceMul, Nat.reduceEqDiff, Nat.reduceLT, Nat.reduceLeDiff, Int.reduceAdd, Int.reduceSub, Int.reduceNeg, Int.reduceLE, Int.reduceLT, Int.reduceToNat, Int.reduceEq, Int.cast_ofNat_Int, List.mem_cons, List.not_mem_nil, List.length_cons, List.length_nil, List.set_cons_zero, List.set_cons_succ, List.toList_toArray, eq_self, true_and, and_true, and_self, or_true, true_or, false_or, or_false, or_self, not_true_eq_false, not_false_eq_true, Classical.not_not, true_implies, false_implies, implies_true, forall_const, and_false, false_and, Nat.le_refl, Nat.zero_le, Bool.false_eq_true, lv_args, s_rl_at, s_gf, s_pf, dn_q, kd_q, cl_q, nf_q, ln_q, tg_q, rr_q, cr_q, u_1, e_lsw, k_ti, List.drop_succ_cons, List.drop_zero, List.drop_nil, List.zip_cons_cons, List.zip_nil_right, List.zip_nil_left, List.all_cons, List.all_nil, Bool.and_true, Bool.and_self, decide_true, decide_false, Option.toList, List.cons_append, List.nil_append, List.append_nil, DX1_readAll_0, DX1_readAll_1, DX1_readAll_2, FLX1, LDX1, l1]
    refine sX1_readAll_32 C (cF _ 1 (by omega) (h12 _ rfl)) (s_obj (show 0 < 1 by decide) rfl) (hcat := Nat.le_of_ble_eq_true rfl) (k := ?_)
    rintro v2 G2 ⟨S2, rfl, rfl, rfl⟩
    rw [hw1]
    refine srnX1_readAll C Rt [16] 20 ?_
    simp only [k_i, s_go, s_1, e_op, e_pi, e_pl, e_pr, e_p0, e_li, e_ll, e_lr, e_lk, e_ins, e_rm, e_to, e_sw, e_cmp, k_c, k_n, k_f, k_v, k_lg, ↓reduceIte, reduceCtorEq, Nat.reduceAdd, Nat.reduceSub, Nat.reduceMul, Nat.reduceEqDiff, Nat.reduceLT, Nat.reduceLeDiff, Int.reduceAdd, Int.reduceSub, Int.reduceNeg, Int.reduceLE, Int.reduceLT, Int.reduceToNat, Int.reduceEq, Int.cast_ofNat_Int, List.mem_cons, List.not_mem_nil, List.length_cons, List.length_nil, List.set_cons_zero, List.set_cons_succ, List.toList_toArray, eq_self, true_and, and_true, and_self, or_true, true_or, false_or, or_false, or_self, not_true_eq_false, not_false_eq_true, Classical.not_not, true_implies, false_implies, implies_true, forall_const, and_false, false_and, Nat.le_refl, Nat.zero_le, Bool.false_eq_true, lv_args, s_rl_at, s_gf, s_pf, dn_q, kd_q, cl_q, nf_q, ln_q, tg_q, rr_q, cr_q, u_1, e_lsw, k_ti, List.drop_succ_cons, List.drop_zero, List.drop_nil, List.zip_cons_cons, List.zip_nil_right, List.zip_nil_left, List.all_cons, List.all_nil, Bool.and_true, Bool.and_self, decide_true, decide_false, Option.toList, List.cons_append, List.nil_append, List.append_nil, DX1_readAll_0, DX1_readAll_1, DX1_readAll_2, FLX1, LDX1, z1, i1]
    refine sX1_readAll_39 C (cW _ 1 (by omega) (h12 _ rfl) h16 hw1.symm) (s_obj (show 0 < 1 by decide) rfl) (hcat := Nat.le_of_ble_eq_true rfl) (k := ?_)
    rintro v2 G2 ⟨S2, rfl, rfl, rfl⟩
    rw [hW1]
    have l2 : ((2 : Int32) ≤ 1 + 1) = True := by decide
    have eH : opH S = if W0 = true then (if W1 = true ∧ g0 < g1 then 1 else 0) else if W1 = true then 1 else -4 := by unfold opH; rw [hW0, hW1, hg0, hg1]
    have f0 : opH S = 0 → W0 = true → V 0 0 86 [(0, .ref (ad A 11 0)), (1, .ref (ad A 4 0)), (2, .ref (ad A 17 0)), (3, .int (nI ri)), (4, .int (nI 2))] [] (gS A (uI (uI (uI R 11 0 5 0) 13 0 0 w0) 13 0 1 w1)) := by
      intro h1 h2
      obtain ⟨q, hq, eq⟩ := hq0 h2
      refine fin 0 q hq h1 ?_ (Or.inr (Or.inl rfl))
      simp only [opN, h1, hr0, eq]
      rw [if_neg (by decide), if_pos trivial]
    have f1 : opH S = 1 → W1 = true → V 0 0 86 [(0, .ref (ad A 11 0)), (1, .ref (ad A 4 0)), (2, .ref (ad A 17 0)), (3, .int (nI ri)), (4, .int (nI 2))] [] (gS A (uI (uI (uI R 11 0 5 1) 13 0 0 w0) 13 0 1 w1)) := by
      intro h1 h2
      obtain ⟨q, hq, eq⟩ := hq1 h2
      refine fin 1 q hq h1 ?_ (Or.inr (Or.inr rfl))
      simp only [opN, h1, hr1, eq]
      rw [if_neg (by decide), if_neg (by decide)]
    cases hw : W1 with
    | false =>
      refine srnX1_readAll C Rt [86] 20 ?_
      simp only [k_i, s_go, s_1, e_op, e_pi, e_pl, e_pr, e_p0, e_li, e_ll, e_lr, e_lk, e_ins, e_rm, e_to, e_sw, e_cmp, k_c, k_n, k_f, k_v, k_lg, ↓reduceIte, reduceCtorEq, Nat.reduceAdd, Nat.reduceSub, Nat.reduceMul, Nat.reduceEqDiff, Nat.reduceLT, Nat.reduceLeDiff, Int.reduceAdd, Int.reduceSub, Int.reduceNeg, Int.reduceLE, Int.reduceLT, Int.reduceToNat, Int.reduceEq, Int.cast_ofNat_Int, List.mem_cons, List.not_mem_nil, List.length_cons, List.length_nil, List.set_cons_zero, List.set_cons_succ, List.toList_toArray, eq_self, true_and, and_true, and_self, or_true, true_or, false_or, or_false, or_self, not_true_eq_false, not_false_eq_true, Classical.not_not, true_implies, false_implies, implies_true, forall_const, and_false, false_and, Nat.le_refl, Nat.zero_le, Bool.false_eq_true, lv_args, s_rl_at, s_gf, s_pf, dn_q, kd_q, cl_q, nf_q, ln_q, tg_q, rr_q, cr_q, u_1, e_lsw, k_ti, List.drop_succ_cons, List.drop_zero, List.drop_nil, List.zip_cons_cons, List.zip_nil_right, List.zip_nil_left, List.all_cons, List.all_nil, Bool.and_true, Bool.and_self, decide_true, decide_false, Option.toList, List.cons_append, List.nil_append, List.append_nil, DX1_readAll_0, DX1_readAll_1, DX1_readAll_2, FLX1, LDX1, b2i_f, l2]
      rcases hop with ⟨rfl, h0⟩ | ⟨rfl, h0⟩
      · refine fin (-4) 0 (by omega) ?_ ?_ (Or.inl rfl)
        · rw [eH, h0, hw]; rfl
        · have : opH S = -4 := by rw [eH, h0, hw]; rfl
          simp only [opN, this]
          rfl
      · exact f0 (by rw [eH, h0, hw]; rfl) h0
    | true =>
      refine srnX1_readAll C Rt [86] 20 ?_
      simp only [k_i, s_go, s_1, e_op, e_pi, e_pl, e_pr, e_p0, e_li, e_ll, e_lr, e_lk, e_ins, e_rm, e_to, e_sw, e_cmp, k_c, k_n, k_f, k_v, k_lg, ↓reduceIte, reduceCtorEq, Nat.reduceAdd, Nat.reduceSub, Nat.reduceMul, Nat.reduceEqDiff, Nat.reduceLT, Nat.reduceLeDiff, Int.reduceAdd, Int.reduceSub, Int.reduceNeg, Int.reduceLE, Int.reduceLT, Int.reduceToNat, Int.reduceEq, Int.cast_ofNat_Int, List.mem_cons, List.not_mem_nil, List.length_cons, List.length_nil, List.set_cons_zero, List.set_cons_succ, List.toList_toArray, eq_self, true_and, and_true, and_self, or_true, true_or, false_or, or_false, or_self, not_true_eq_false, not_false_eq_true, Classical.not_not, true_implies, false_implies, implies_true, forall_const, and_false, false_and, Nat.le_refl, Nat.zero_le, Bool.false_eq_true, lv_args, s_rl_at, s_gf, s_pf, dn_q, kd_q, cl_q, nf_q, ln_q, tg_q, rr_q, cr_q, u_1, e_lsw, k_ti, List.drop_succ_cons, List.drop_zero, List.drop_nil, List.zip_cons_cons, List.zip_nil_right, List.zip_nil_left, List.all_cons, List.all_nil, Bool.and_true, Bool.and_self, decide_true, decide_false, Option.toList, List.cons_append, List.nil_append, List.append_nil, DX1_readAll_0, DX1_readAll_1, DX1_readAll_2, FLX1, LDX1, b2i_t, l2]
      refine ⟨fun h4 => ?_, fun h4 => ?_⟩
      · subst h4
        rcases hop with ⟨_, h0⟩ | ⟨h, h0⟩
        · rw [u_56]
          exact f1 (by rw [eH, h0, hw]; rfl) hw
        · exact absurd h (by decide)
      · rcases hop with ⟨h, h0⟩ | ⟨rfl, h0⟩
        · exact absurd h h4
        refine sX1_readAll_60 C (cG _ 1 (by omega) (h12 _ rfl)) (s_obj (show 0 < 1 by decide) rfl) (hcat := Nat.le_of_ble_eq_true rfl) (k := ?_)
        rintro v2 G2 ⟨S2, rfl, rfl, rfl⟩
        rw [hg1]
        refine srnX1_readAll C Rt [86] 20 ?_
        simp only [k_i, s_go, s_1, e_op, e_pi, e_pl, e_pr, e_p0, e_li, e_ll, e_lr, e_lk, e_ins, e_rm, e_to, e_sw, e_cmp, k_c, k_n, k_f, k_v, k_lg, ↓reduceIte, reduceCtorEq, Nat.reduceAdd, Nat.reduceSub, Nat.reduceMul, Nat.reduceEqDiff, Nat.reduceLT, Nat.reduceLeDiff, Int.reduceAdd, Int.reduceSub, Int.reduceNeg, Int.reduceLE, Int.reduceLT, Int.reduceToNat, Int.reduceEq, Int.cast_ofNat_Int, List.mem_cons, List.not_mem_nil, List.length_cons, List.length_nil, List.set_cons_zero, List.set_cons_succ, List.toList_toArray, eq_self, true_and, and_true, and_self, or_true, true_or, false_or, or_false, or_self, not_true_eq_false, not_false_eq_true, Classical.not_not, true_implies, false_implies, implies_true, forall_const, and_false, false_and, Nat.le_refl, Nat.zero_le, Bool.false_eq_true, lv_args, s_rl_at, s_gf, s_pf, dn_q, kd_q, cl_q, nf_q, ln_q, tg_q, rr_q, cr_q, u_1, e_lsw, k_ti, List.drop_succ_cons, List.drop_zero, List.drop_nil, List.zip_cons_cons, List.zip_nil_right, List.zip_nil_left, List.all_cons, List.all_nil, Bool.and_true, Bool.and_self, decide_true, decide_false, Option.toList, List.cons_append, List.nil_append, List.append_nil, DX1_readAll_0, DX1_readAll_1, DX1_readAll_2, FLX1, LDX1]
        refine sX1_readAll_68 C (cG _ 0 (by omega) (h12 _ rfl)) (s_obj (show 0 < 1 by decide) rfl) (hcat := Nat.le_of_ble_eq_true rfl) (k := ?_)
        rintro v2 G2 ⟨S2, rfl, rfl, rfl⟩
        rw [hg0]
        refine srnX1_readAll C Rt [86] 20 ?_
        simp only [k_i, s_go, s_1, e_op, e_pi, e_pl, e_pr, e_p0, e_li, e_ll, e_lr, e_lk, e_ins, e_rm, e_to, e_sw, e_cmp, k_c, k_n, k_f, k_v, k_lg, ↓reduceIte, reduceCtorEq, Nat.reduceAdd, Nat.reduceSub, Nat.reduceMul, Nat.reduceEqDiff, Nat.reduceLT, Nat.reduceLeDiff, Int.reduceAdd, Int.reduceSub, Int.reduceNeg, Int.reduceLE, Int.reduceLT, Int.reduceToNat, Int.reduceEq, Int.cast_ofNat_Int, List.mem_cons, List.not_mem_nil, List.length_cons, List.length_nil, List.set_cons_zero, List.set_cons_succ, List.toList_toArray, eq_self, true_and, and_true, and_self, or_true, true_or, false_or, or_false, or_self, not_true_eq_false, not_false_eq_true, Classical.not_not, true_implies, false_implies, implies_true, forall_const, and_false, false_and, Nat.le_refl, Nat.zero_le, Bool.false_eq_true, lv_args, s_rl_at, s_gf, s_pf, dn_q, kd_q, cl_q, nf_q, ln_q, tg_q, rr_q, cr_q, u_1, e_lsw, k_ti, List.drop_succ_cons, List.drop_zero, List.drop_nil, List.zip_cons_cons, List.zip_nil_right, List.zip_nil_left, List.all_cons, List.all_nil, Bool.and_true, Bool.and_self, decide_true, decide_false, Option.toList, List.cons_append, List.nil_append, List.append_nil, DX1_readAll_0, DX1_readAll_1, DX1_readAll_2, FLX1, LDX1, l2]
        refine ⟨fun h5 => ?_, fun h5 => ?_⟩
        · have h6 : ¬ g0 < g1 := Int32.not_lt.mpr h5
          exact f0 (by rw [eH, h0, hw]; simp [h6]) h0
        · have h6 : g0 < g1 := Int32.not_le.mp h5
          rw [u_56]
          exact f1 (by rw [eH, h0, hw]; simp [h6]) hw
  cases hw : W0 with
  | false =>
    refine srnX1_readAll C Rt [16] 20 ?_
    simp only [k_i, s_go, s_1, e_op, e_pi, e_pl, e_pr, e_p0, e_li, e_ll, e_lr, e_lk, e_ins, e_rm, e_to, e_sw, e_cmp, k_c, k_n, k_f, k_v, k_lg, ↓reduceIte, reduceCtorEq, Nat.reduceAdd, Nat.reduceSub, Nat.reduceMul, Nat.reduceEqDiff, Nat.reduceLT, Nat.reduceLeDiff, Int.reduceAdd, Int.reduceSub, Int.reduceNeg, Int.reduceLE, Int.reduceLT, Int.reduceToNat, Int.reduceEq, Int.cast_ofNat_Int, List.mem_cons, List.not_mem_nil, List.length_cons, List.length_nil, List.set_cons_zero, List.set_cons_succ, List.toList_toArray, eq_self, true_and, and_true, and_self, or_true, true_or, false_or, or_false, or_self, not_true_eq_false, not_false_eq_true, Classical.not_not, true_implies, false_implies, implies_true, forall_const, and_false, false_and, Nat.le_refl, Nat.zero_le, Bool.false_eq_true, lv_args, s_rl_at, s_gf, s_pf, dn_q, kd_q, cl_q, nf_q, ln_q, tg_q, rr_q, cr_q, u_1, e_lsw, k_ti, List.drop_succ_cons, List.drop_zero, List.drop_nil, List.zip_cons_cons, List.zip_nil_right, List.zip_nil_left, List.all_cons, List.all_nil, Bool.and_true, Bool.and_self, decide_true, decide_false, Option.toList, List.cons_append, List.nil_append, List.append_nil, DX1_readAll_0, DX1_readAll_1, DX1_readAll_2, FLX1, LDX1, b2i_f]
    exact tail (-4) (Or.inl ⟨rfl, hw⟩)
  | true =>
    refine srnX1_readAll C Rt [16] 20 ?_
    simp only [k_i, s_go, s_1, e_op, e_pi, e_pl, e_pr, e_p0, e_li, e_ll, e_lr, e_lk, e_ins, e_rm, e_to, e_sw, e_cmp, k_c, k_n, k_f, k_v, k_lg, ↓reduceIte, reduceCtorEq, Nat.reduceAdd, Nat.reduceSub, Nat.reduceMul, Nat.reduceEqDiff, Nat.reduceLT, Nat.reduceLeDiff, Int.reduceAdd, Int.reduceSub, Int.reduceNeg, Int.reduceLE, Int.reduceLT, Int.reduceToNat, Int.reduceEq, Int.cast_ofNat_Int, List.mem_cons, List.not_mem_nil, List.length_cons, List.length_nil, List.set_cons_zero, List.set_cons_succ, List.toList_toArray, eq_self, true_and, and_true, and_self, or_true, true_or, false_or, or_false, or_self, not_true_eq_false, not_false_eq_true, Classical.not_not, true_implies, false_implies, implies_true, forall_const, and_false, false_and, Nat.le_refl, Nat.zero_le, Bool.false_eq_true, lv_args, s_rl_at, s_gf, s_pf, dn_q, kd_q, cl_q, nf_q, ln_q, tg_q, rr_q, cr_q, u_1, e_lsw, k_ti, List.drop_succ_cons, List.drop_zero, List.drop_nil, List.zip_cons_cons, List.zip_nil_right, List.zip_nil_left, List.all_cons, List.all_nil, Bool.and_true, Bool.and_self, decide_true, decide_false, Option.toList, List.cons_append, List.nil_append, List.append_nil, DX1_readAll_0, DX1_readAll_1, DX1_readAll_2, FLX1, LDX1, b2i_t]
    rw [u_55]
    exact tail 0 (Or.inr ⟨rfl, hw⟩)
abbrev opeS (S : pS) : pS := clrF (opnS S) 61
set_option maxHeartbeats 4000000 in
set_option maxRecDepth 100000 in
theorem m_open (l : Launch) (A : pA) (S : pS) : e_MX7_open l [.ref (ad A 0 0)] (gS A S) (s_P A (isP (opN S, opeS S))) := by
  refine ofX7_open (Nat.le_of_ble_eq_true rfl) ?_
  intro V C Rt
  refine srnX7_open C Rt [] 20 ?_
  simp only [k_i, s_go, s_1, e_op, e_pi, e_pl, e_pr, e_p0, e_li, e_ll, e_lr, e_lk, e_ins, e_rm, e_to, e_sw, e_cmp, k_c, k_n, k_f, k_v, k_lg, ↓reduceIte, reduceCtorEq, Nat.reduceAdd, Nat.reduceSub, Nat.reduceMul, Nat.reduceEqDiff, Nat.reduceLT, Nat.reduceLeDiff, Int.reduceAdd, Int.reduceSub, Int.reduceNeg, Int.reduceLE, Int.reduceLT, Int.reduceToNat, Int.reduceEq, Int.cast_ofNat_Int, List.mem_cons, List.not_mem_nil, List.length_cons, List.length_nil, List.set_cons_zero, List.set_cons_succ, List.toList_toArray, eq_self, true_and, and_true, and_self, or_true, true_or, false_or, or_false, or_self, not_true_eq_false, not_false_eq_true, Classical.not_not, true_implies, false_implies, implies_true, forall_const, and_false, false_and, Nat.le_refl, Nat.zero_le, Bool.false_eq_true, lv_args, s_rl_at, s_gf, s_pf, dn_q, kd_q, cl_q, nf_q, ln_q, tg_q, rr_q, cr_q, u_1, e_lsw, k_ti, List.drop_succ_cons, List.drop_zero, List.drop_nil, List.zip_cons_cons, List.zip_nil_right, List.zip_nil_left, List.all_cons, List.all_nil, Bool.and_true, Bool.and_self, decide_true, decide_false, Option.toList, List.cons_append, List.nil_append, List.append_nil, DX7_open_0, FLX7, LDX7]
  refine sX7_open_12 C (m_X1_readAll l A S) (s_obj (show 0 < 1 by decide) rfl) (hcat := Nat.le_of_ble_eq_true rfl) (k := ?_)
  rintro v2 G2 ⟨S2, rfl, rfl, rfl⟩
  refine srnX7_open C Rt [] 20 ?_
  simp only [k_i, s_go, s_1, e_op, e_pi, e_pl, e_pr, e_p0, e_li, e_ll, e_lr, e_lk, e_ins, e_rm, e_to, e_sw, e_cmp, k_c, k_n, k_f, k_v, k_lg, ↓reduceIte, reduceCtorEq, Nat.reduceAdd, Nat.reduceSub, Nat.reduceMul, Nat.reduceEqDiff, Nat.reduceLT, Nat.reduceLeDiff, Int.reduceAdd, Int.reduceSub, Int.reduceNeg, Int.reduceLE, Int.reduceLT, Int.reduceToNat, Int.reduceEq, Int.cast_ofNat_Int, List.mem_cons, List.not_mem_nil, List.length_cons, List.length_nil, List.set_cons_zero, List.set_cons_succ, List.toList_toArray, eq_self, true_and, and_true, and_self, or_true, true_or, false_or, or_false, or_self, not_true_eq_false, not_false_eq_true, Classical.not_not, true_implies, false_implies, implies_true, forall_const, and_false, false_and, Nat.le_refl, Nat.zero_le, Bool.false_eq_true, lv_args, s_rl_at, s_gf, s_pf, dn_q, kd_q, cl_q, nf_q, ln_q, tg_q, rr_q, cr_q, u_1, e_lsw, k_ti, List.drop_succ_cons, List.drop_zero, List.drop_nil, List.zip_cons_cons, List.zip_nil_right, List.zip_nil_left, List.all_cons, List.all_nil, Bool.and_true, Bool.and_self, decide_true, decide_false, Option.toList, List.cons_append, List.nil_append, List.append_nil, DX7_open_0, FLX7, LDX7]
  refine sX7_open_19 C (m_X2_clear l A _ (show 61 < 62 by decide)) (s_obj (show 61 < 62 by decide) rfl) (hcat := Nat.le_of_ble_eq_true rfl) (k := ?_)
  rintro v2 G2 ⟨S2, rfl, rfl, rfl⟩
  refine srnX7_open C Rt [] 20 ?_
  simp only [k_i, s_go, s_1, e_op, e_pi, e_pl, e_pr, e_p0, e_li, e_ll, e_lr, e_lk, e_ins, e_rm, e_to, e_sw, e_cmp, k_c, k_n, k_f, k_v, k_lg, ↓reduceIte, reduceCtorEq, Nat.reduceAdd, Nat.reduceSub, Nat.reduceMul, Nat.reduceEqDiff, Nat.reduceLT, Nat.reduceLeDiff, Int.reduceAdd, Int.reduceSub, Int.reduceNeg, Int.reduceLE, Int.reduceLT, Int.reduceToNat, Int.reduceEq, Int.cast_ofNat_Int, List.mem_cons, List.not_mem_nil, List.length_cons, List.length_nil, List.set_cons_zero, List.set_cons_succ, List.toList_toArray, eq_self, true_and, and_true, and_self, or_true, true_or, false_or, or_false, or_self, not_true_eq_false, not_false_eq_true, Classical.not_not, true_implies, false_implies, implies_true, forall_const, and_false, false_and, Nat.le_refl, Nat.zero_le, Bool.false_eq_true, lv_args, s_rl_at, s_gf, s_pf, dn_q, kd_q, cl_q, nf_q, ln_q, tg_q, rr_q, cr_q, u_1, e_lsw, k_ti, List.drop_succ_cons, List.drop_zero, List.drop_nil, List.zip_cons_cons, List.zip_nil_right, List.zip_nil_left, List.all_cons, List.all_nil, Bool.and_true, Bool.and_self, decide_true, decide_false, Option.toList, List.cons_append, List.nil_append, List.append_nil, DX7_open_0, FLX7, LDX7]
  exact ⟨rfl, rfl⟩
