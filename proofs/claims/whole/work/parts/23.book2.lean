/-! FactLog$Book: what is usable, what holds, what a fact rests on -/
theorem usF_at {good : Nat → Bool} {on : Nat → Nat → Nat} {fc : Nat → Nat} {i : Nat} : usF good on fc (i + 1) i = (good i && allB (usF good on fc i) (on i) (fc i)) := by simp [usF]
theorem usF_lo {good : Nat → Bool} {on : Nat → Nat → Nat} {fc : Nat → Nat} {i j : Nat} (h : ¬ j = i) : usF good on fc (i + 1) j = usF good on fc i j := by simp [usF, h]
theorem usF_hi {good : Nat → Bool} {on : Nat → Nat → Nat} {fc : Nat → Nat} {j : Nat} : ∀ m, m ≤ j → usF good on fc m j = false
  | 0, _ => rfl
  | m + 1, h => by rw [usF_lo (by omega)]; exact usF_hi m (by omega)
abbrev UC (S : pS) : Nat → Nat → Bool := usF (goodC S) (onC S) (fcC S)
theorem wf_on {S : pS} {i m b : Nat} (h : wfF S i m) (hb : m ≤ b) : ∀ k, k < fcC S i → onC S i k < b := fun k hk => Nat.lt_of_lt_of_le (h.2.2.2.2.2 k hk).2 hb
section
variable {V : pV} {l : Launch} {A : pA} {post : Option Value → pS → Prop} {S : pS}
set_option maxHeartbeats 4000000 in
set_option maxRecDepth 100000 in
theorem lp_usable (C : e_CX0_usableUpTo V l) (Rt : e_RX0_usableUpTo V (s_P A post)) {n m : Nat} {last : Int32} (hB : wfB S n) (hm : m ≤ n) (hl : ∀ i : Nat, i ≤ 60 → ((last < nI i) ↔ m ≤ i)) (hp : ∀ r, Bits r (UC S m) → post (some (.long r)) S) : ∀ k i r, i + k = m → Bits r (UC S i) → V 0 0 5 [(0, .ref (ad A 4 0)), (1, .int last), (2, .ref (ad A 1 0)), (3, .long r), (5, .int (nI i))] [] (gS A S) := by
  obtain ⟨hc, hn, hw⟩ := hB
  intro k
  induction k with
  | zero =>
    intro i r hi hr
    have hj2 : i = m := by omega
    subst hj2
    refine srnX0_usableUpTo C Rt [5] 60 ?_
    simp only [k_i, s_go, s_1, e_op, e_pi, e_pl, e_pr, e_p0, e_li, e_ll, e_lr, e_lk, e_ins, e_rm, e_to, e_sw, e_cmp, k_c, k_n, k_f, k_v, k_lg, ↓reduceIte, reduceCtorEq, Nat.reduceAdd, Nat.reduceSub, Nat.reduceMul, Nat.reduceEqDiff, Nat.reduceLT, Nat.reduceLeDiff, Int.reduceAdd, Int.reduceSub, Int.reduceNeg, Int.reduceLE, Int.reduceLT, Int.reduceToNat, Int.reduceEq, Int.cast_ofNat_Int, List.mem_cons, List.not_mem_nil, List.length_cons, List.length_nil, List.set_cons_zero, List.set_cons_succ, List.toList_toArray, eq_self, true_and, and_true, and_self, or_true, true_or, false_or, or_false, or_self, not_true_eq_false, not_false_eq_true, Classical.not_not, true_implies, false_implies, implies_true, forall_const, and_false, false_and, Nat.le_refl, Nat.zero_le, Bool.false_eq_true, lv_args, s_rl_at, s_gf, s_pf, dn_q, kd_q, cl_q, nf_q, ln_q, tg_q, rr_q, cr_q, u_1, e_lsw, k_ti, List.drop_succ_cons, List.drop_zero, List.drop_nil, List.zip_cons_cons, List.zip_nil_right, List.zip_nil_left, List.all_cons, List.all_nil, Bool.and_true, Bool.and_self, decide_true, decide_false, Option.toList, List.cons_append, List.nil_append, List.append_nil, DX0_usableUpTo_0, DX0_usableUpTo_1, FLX0, LDX0, hl i (by omega), hc]
    exact hp r hr
  | succ k ih =>
    intro i r hi hr
    have hwi := hw i (by omega)
    have h62 : i < 62 := by omega
    have e0 : UC S (i + 1) i = (goodC S i && allB (UC S i) (onC S i) (fcC S i)) := usF_at
    have fin0 : UC S (i + 1) i = false → Bits r (UC S (i + 1)) := fun hf => Bits_to hr (fun j => by
      by_cases hj : j = i
      · subst hj
        rw [hf]
        exact usF_hi j (Nat.le_refl _)
      · exact (usF_lo hj).symm)
    have fin1 : UC S (i + 1) i = true → Bits (r ||| (1 : Int64) <<< ((nI i).toInt64 &&& 63)) (UC S (i + 1)) := fun hf => Bits_to (Bits_put hr (by omega)) (fun j => by
      by_cases hj : j = i
      · subst hj
        simp [hf]
      · simp [hj, usF_lo hj])
    have end0 : UC S (i + 1) i = false → ∀ lv2, lv2 = [(0, Value.ref (ad A 4 0)), (1, .int last), (2, .ref (ad A 1 0)), (3, .long r), (5, .int (nI (i + 1)))] → V 0 0 5 lv2 [] (gS A S) := fun hf lv2 e => by
      rw [e]
      exact ih (i + 1) r (by omega) (fin0 hf)
    have key1 : goodC S i = true → V 0 0 66 [(0, .ref (ad A 4 0)), (1, .int last), (2, .ref (ad A 1 0)), (3, .long r), (5, .int (nI i)), (6, .ref (ad A 6 i)), (7, .int 1)] [] (gS A S) := by
      intro hg
      refine srnX0_usableUpTo C Rt [5] 3 ?_
      simp only [k_i, s_go, s_1, e_op, e_pi, e_pl, e_pr, e_p0, e_li, e_ll, e_lr, e_lk, e_ins, e_rm, e_to, e_sw, e_cmp, k_c, k_n, k_f, k_v, k_lg, ↓reduceIte, reduceCtorEq, Nat.reduceAdd, Nat.reduceSub, Nat.reduceMul, Nat.reduceEqDiff, Nat.reduceLT, Nat.reduceLeDiff, Int.reduceAdd, Int.reduceSub, Int.reduceNeg, Int.reduceLE, Int.reduceLT, Int.reduceToNat, Int.reduceEq, Int.cast_ofNat_Int, List.mem_cons, List.not_mem_nil, List.length_cons, List.length_nil, List.set_cons_zero, List.set_cons_succ, List.toList_toArray, eq_self, true_and, and_true, and_self, or_true, true_or, false_or, or_false, or_self, not_true_eq_false, not_false_eq_true, Classical.not_not, true_implies, false_implies, implies_true, forall_const, and_false, false_and, Nat.le_refl, Nat.zero_le, Bool.false_eq_true, lv_args, s_rl_at, s_gf, s_pf, dn_q, kd_q, cl_q, nf_q, ln_q, tg_q, rr_q, cr_q, u_1, e_lsw, k_ti, List.drop_succ_cons, List.drop_zero, List.drop_nil, List.zip_cons_cons, List.zip_nil_right, List.zip_nil_left, List.all_cons, List.all_nil, Bool.and_true, Bool.and_self, decide_true, decide_false, Option.toList, List.cons_append, List.nil_append, List.append_nil, DX0_usableUpTo_0, DX0_usableUpTo_1, FLX0, LDX0]
      refine sX0_usableUpTo_68 C (m_X2_leanSet l A S h62 hwi) (s_obj h62 rfl) (hcat := Nat.le_of_ble_eq_true rfl) (k := ?_)
      rintro v G2 ⟨S2, rfl, rfl, rfl⟩
      have hall : (lset (onC S i) (fcC S i) &&& (r ^^^ (-1)) = 0) ↔ allB (UC S i) (onC S i) (fcC S i) = true := Bits_all hr (wf_on hwi (by omega))
      refine srnX0_usableUpTo C Rt [5] 60 ?_
      simp only [k_i, s_go, s_1, e_op, e_pi, e_pl, e_pr, e_p0, e_li, e_ll, e_lr, e_lk, e_ins, e_rm, e_to, e_sw, e_cmp, k_c, k_n, k_f, k_v, k_lg, ↓reduceIte, reduceCtorEq, Nat.reduceAdd, Nat.reduceSub, Nat.reduceMul, Nat.reduceEqDiff, Nat.reduceLT, Nat.reduceLeDiff, Int.reduceAdd, Int.reduceSub, Int.reduceNeg, Int.reduceLE, Int.reduceLT, Int.reduceToNat, Int.reduceEq, Int.cast_ofNat_Int, List.mem_cons, List.not_mem_nil, List.length_cons, List.length_nil, List.set_cons_zero, List.set_cons_succ, List.toList_toArray, eq_self, true_and, and_true, and_self, or_true, true_or, false_or, or_false, or_self, not_true_eq_false, not_false_eq_true, Classical.not_not, true_implies, false_implies, implies_true, forall_const, and_false, false_and, Nat.le_refl, Nat.zero_le, Bool.false_eq_true, lv_args, s_rl_at, s_gf, s_pf, dn_q, kd_q, cl_q, nf_q, ln_q, tg_q, rr_q, cr_q, u_1, e_lsw, k_ti, List.drop_succ_cons, List.drop_zero, List.drop_nil, List.zip_cons_cons, List.zip_nil_right, List.zip_nil_left, List.all_cons, List.all_nil, Bool.and_true, Bool.and_self, decide_true, decide_false, Option.toList, List.cons_append, List.nil_append, List.append_nil, DX0_usableUpTo_0, DX0_usableUpTo_1, FLX0, LDX0, hall, nI_1]
      refine ⟨fun h5 => ?_, fun h5 => ?_⟩
      · have hf : UC S (i + 1) i = false := by rw [e0, hg]; simpa using h5
        exact r_sub C (by simp) (end0 hf _ rfl)
      · have hf : UC S (i + 1) i = true := by rw [e0, hg, h5]; rfl
        exact r_sub C (by simp) (ih (i + 1) _ (by omega) (fin1 hf))
    have key0 : goodC S i = false → V 0 0 89 [(0, .ref (ad A 4 0)), (1, .int last), (2, .ref (ad A 1 0)), (3, .long r), (5, .int (nI i)), (6, .ref (ad A 6 i)), (7, .int 0)] [] (gS A S) := by
      intro hg
      refine srnX0_usableUpTo C Rt [5] 60 ?_
      simp only [k_i, s_go, s_1, e_op, e_pi, e_pl, e_pr, e_p0, e_li, e_ll, e_lr, e_lk, e_ins, e_rm, e_to, e_sw, e_cmp, k_c, k_n, k_f, k_v, k_lg, ↓reduceIte, reduceCtorEq, Nat.reduceAdd, Nat.reduceSub, Nat.reduceMul, Nat.reduceEqDiff, Nat.reduceLT, Nat.reduceLeDiff, Int.reduceAdd, Int.reduceSub, Int.reduceNeg, Int.reduceLE, Int.reduceLT, Int.reduceToNat, Int.reduceEq, Int.cast_ofNat_Int, List.mem_cons, List.not_mem_nil, List.length_cons, List.length_nil, List.set_cons_zero, List.set_cons_succ, List.toList_toArray, eq_self, true_and, and_true, and_self, or_true, true_or, false_or, or_false, or_self, not_true_eq_false, not_false_eq_true, Classical.not_not, true_implies, false_implies, implies_true, forall_const, and_false, false_and, Nat.le_refl, Nat.zero_le, Bool.false_eq_true, lv_args, s_rl_at, s_gf, s_pf, dn_q, kd_q, cl_q, nf_q, ln_q, tg_q, rr_q, cr_q, u_1, e_lsw, k_ti, List.drop_succ_cons, List.drop_zero, List.drop_nil, List.zip_cons_cons, List.zip_nil_right, List.zip_nil_left, List.all_cons, List.all_nil, Bool.and_true, Bool.and_self, decide_true, decide_false, Option.toList, List.cons_append, List.nil_append, List.append_nil, DX0_usableUpTo_0, DX0_usableUpTo_1, FLX0, LDX0, nI_1]
      have hf : UC S (i + 1) i = false := by rw [e0, hg]; rfl
      exact r_sub C (by simp) (end0 hf _ rfl)
    refine srnX0_usableUpTo C Rt [5, 66, 89] 60 ?_
    simp only [k_i, s_go, s_1, e_op, e_pi, e_pl, e_pr, e_p0, e_li, e_ll, e_lr, e_lk, e_ins, e_rm, e_to, e_sw, e_cmp, k_c, k_n, k_f, k_v, k_lg, ↓reduceIte, reduceCtorEq, Nat.reduceAdd, Nat.reduceSub, Nat.reduceMul, Nat.reduceEqDiff, Nat.reduceLT, Nat.reduceLeDiff, Int.reduceAdd, Int.reduceSub, Int.reduceNeg, Int.reduceLE, Int.reduceLT, Int.reduceToNat, Int.reduceEq, Int.cast_ofNat_Int, List.mem_cons, List.not_mem_nil, List.length_cons, List.length_nil, List.set_cons_zero, List.set_cons_succ, List.toList_toArray, eq_self, true_and, and_true, and_self, or_true, true_or, false_or, or_false, or_self, not_true_eq_false, not_false_eq_true, Classical.not_not, true_implies, false_implies, implies_true, forall_const, and_false, false_and, Nat.le_refl, Nat.zero_le, Bool.false_eq_true, lv_args, s_rl_at, s_gf, s_pf, dn_q, kd_q, cl_q, nf_q, ln_q, tg_q, rr_q, cr_q, u_1, e_lsw, k_ti, List.drop_succ_cons, List.drop_zero, List.drop_nil, List.zip_cons_cons, List.zip_nil_right, List.zip_nil_left, List.all_cons, List.all_nil, Bool.and_true, Bool.and_self, decide_true, decide_false, Option.toList, List.cons_append, List.nil_append, List.append_nil, DX0_usableUpTo_0, DX0_usableUpTo_1, FLX0, LDX0, hc, hl i (by omega), x_le (a := n) (b := i) (by omega) (by omega), x_cl (a := i) (by omega), x_in (a := i) (n := 60) (by omega), h62]
    refine ⟨fun h => by omega, fun _ => ⟨fun h => by omega, fun _ => ⟨by omega, fun h => ?_, fun h => ⟨fun h2 => ?_, fun h2 => ?_⟩⟩⟩⟩
    · exact key0 (by simp [goodC, drC, h])
    · exact key1 (by simp [goodC, drC, chC, h, h2])
    · refine sX0_usableUpTo_48 C (m_X2_isFresh l A S h62 hwi.2.1 hwi.1 (fun k hk => hwi.2.2.2.2.1 k hk)) (s_obj h62 rfl) (hcat := Nat.le_of_ble_eq_true rfl) (k := ?_)
      rintro v G2 ⟨S2, rfl, rfl, rfl⟩
      refine srnX0_usableUpTo C Rt [5, 66, 89] 60 ?_
      simp only [k_i, s_go, s_1, e_op, e_pi, e_pl, e_pr, e_p0, e_li, e_ll, e_lr, e_lk, e_ins, e_rm, e_to, e_sw, e_cmp, k_c, k_n, k_f, k_v, k_lg, ↓reduceIte, reduceCtorEq, Nat.reduceAdd, Nat.reduceSub, Nat.reduceMul, Nat.reduceEqDiff, Nat.reduceLT, Nat.reduceLeDiff, Int.reduceAdd, Int.reduceSub, Int.reduceNeg, Int.reduceLE, Int.reduceLT, Int.reduceToNat, Int.reduceEq, Int.cast_ofNat_Int, List.mem_cons, List.not_mem_nil, List.length_cons, List.length_nil, List.set_cons_zero, List.set_cons_succ, List.toList_toArray, eq_self, true_and, and_true, and_self, or_true, true_or, false_or, or_false, or_self, not_true_eq_false, not_false_eq_true, Classical.not_not, true_implies, false_implies, implies_true, forall_const, and_false, false_and, Nat.le_refl, Nat.zero_le, Bool.false_eq_true, lv_args, s_rl_at, s_gf, s_pf, dn_q, kd_q, cl_q, nf_q, ln_q, tg_q, rr_q, cr_q, u_1, e_lsw, k_ti, List.drop_succ_cons, List.drop_zero, List.drop_nil, List.zip_cons_cons, List.zip_nil_right, List.zip_nil_left, List.all_cons, List.all_nil, Bool.and_true, Bool.and_self, decide_true, decide_false, Option.toList, List.cons_append, List.nil_append, List.append_nil, DX0_usableUpTo_0, DX0_usableUpTo_1, FLX0, LDX0, b2i_0]
      refine ⟨fun h3 => ?_, fun h3 => ?_⟩
      · exact key0 (by simp [goodC, drC, chC, freshC, h, h2, h3])
      · exact key1 (by simp [goodC, drC, chC, freshC, h, h2]; simpa using h3)
end
set_option maxHeartbeats 4000000 in
set_option maxRecDepth 100000 in
theorem m_X0_usableUpTo (l : Launch) (A : pA) (S : pS) {n m : Nat} {last : Int32} (hB : wfB S n) (hm : m ≤ n) (hl : ∀ i : Nat, i ≤ 60 → ((last < nI i) ↔ m ≤ i)) : e_MX0_usableUpTo l [.ref (ad A 4 0), .int last, .ref (ad A 1 0)] (gS A S) (s_P A (fun v S2 => S = S2 ∧ ∃ r, v = some (.long r) ∧ Bits r (UC S m))) := by
  refine ofX0_usableUpTo (Nat.le_of_ble_eq_true rfl) ?_
  intro V C Rt
  refine srnX0_usableUpTo C Rt [5] 5 ?_
  simp only [k_i, s_go, s_1, e_op, e_pi, e_pl, e_pr, e_p0, e_li, e_ll, e_lr, e_lk, e_ins, e_rm, e_to, e_sw, e_cmp, k_c, k_n, k_f, k_v, k_lg, ↓reduceIte, reduceCtorEq, Nat.reduceAdd, Nat.reduceSub, Nat.reduceMul, Nat.reduceEqDiff, Nat.reduceLT, Nat.reduceLeDiff, Int.reduceAdd, Int.reduceSub, Int.reduceNeg, Int.reduceLE, Int.reduceLT, Int.reduceToNat, Int.reduceEq, Int.cast_ofNat_Int, List.mem_cons, List.not_mem_nil, List.length_cons, List.length_nil, List.set_cons_zero, List.set_cons_succ, List.toList_toArray, eq_self, true_and, and_true, and_self, or_true, true_or, false_or, or_false, or_self, not_true_eq_false, not_false_eq_true, Classical.not_not, true_implies, false_implies, implies_true, forall_const, and_false, false_and, Nat.le_refl, Nat.zero_le, Bool.false_eq_true, lv_args, s_rl_at, s_gf, s_pf, dn_q, kd_q, cl_q, nf_q, ln_q, tg_q, rr_q, cr_q, u_1, e_lsw, k_ti, List.drop_succ_cons, List.drop_zero, List.drop_nil, List.zip_cons_cons, List.zip_nil_right, List.zip_nil_left, List.all_cons, List.all_nil, Bool.and_true, Bool.and_self, decide_true, decide_false, Option.toList, List.cons_append, List.nil_append, List.append_nil, DX0_usableUpTo_0, DX0_usableUpTo_1, FLX0, LDX0]
  exact lp_usable C Rt hB hm hl (fun r hr => ⟨rfl, r, rfl, hr⟩) m 0 0 (by omega) Bits_0
theorem lt_pred {f i : Nat} (hf : f < 1000) (hi : i ≤ 60) : (nI f - 1 < nI i) ↔ f ≤ i := by
  cases f with
  | zero =>
    have h1 : (nI 0 - 1 : Int32) = -1 := by decide
    rw [h1]
    have h2 : (-1 : Int32) < nI i := by
      rw [Int32.lt_iff_toInt_lt, nI_toInt (by omega)]
      have : ((-1 : Int32)).toInt = -1 := by decide
      omega
    exact ⟨fun _ => Nat.zero_le _, fun _ => h2⟩
  | succ f =>
    rw [nI_pred, nI_ltI (by omega) (by omega)]
    omega
set_option maxHeartbeats 4000000 in
set_option maxRecDepth 100000 in
theorem m_X0_groundIsUsable (l : Launch) (A : pA) (S : pS) {n f : Nat} (hB : wfB S n) (hf : f < n) : e_MX0_groundIsUsable l [.ref (ad A 4 0), .int (nI f), .ref (ad A 1 0)] (gS A S) (s_P A (fun v S2 => S = S2 ∧ v = some (.int (b2i (allB (UC S f) (onC S f) (fcC S f)))))) := by
  have hn := hB.2.1
  have hwf := hB.2.2 f hf
  have h62 : f < 62 := by omega
  refine ofX0_groundIsUsable (Nat.le_of_ble_eq_true rfl) ?_
  intro V C Rt
  refine srnX0_groundIsUsable C Rt [] 60 ?_
  simp only [k_i, s_go, s_1, e_op, e_pi, e_pl, e_pr, e_p0, e_li, e_ll, e_lr, e_lk, e_ins, e_rm, e_to, e_sw, e_cmp, k_c, k_n, k_f, k_v, k_lg, ↓reduceIte, reduceCtorEq, Nat.reduceAdd, Nat.reduceSub, Nat.reduceMul, Nat.reduceEqDiff, Nat.reduceLT, Nat.reduceLeDiff, Int.reduceAdd, Int.reduceSub, Int.reduceNeg, Int.reduceLE, Int.reduceLT, Int.reduceToNat, Int.reduceEq, Int.cast_ofNat_Int, List.mem_cons, List.not_mem_nil, List.length_cons, List.length_nil, List.set_cons_zero, List.set_cons_succ, List.toList_toArray, eq_self, true_and, and_true, and_self, or_true, true_or, false_or, or_false, or_self, not_true_eq_false, not_false_eq_true, Classical.not_not, true_implies, false_implies, implies_true, forall_const, and_false, false_and, Nat.le_refl, Nat.zero_le, Bool.false_eq_true, lv_args, s_rl_at, s_gf, s_pf, dn_q, kd_q, cl_q, nf_q, ln_q, tg_q, rr_q, cr_q, u_1, e_lsw, k_ti, List.drop_succ_cons, List.drop_zero, List.drop_nil, List.zip_cons_cons, List.zip_nil_right, List.zip_nil_left, List.all_cons, List.all_nil, Bool.and_true, Bool.and_self, decide_true, decide_false, Option.toList, List.cons_append, List.nil_append, List.append_nil, DX0_groundIsUsable_0, FLX0, LDX0, x_cl (a := f) (by omega), x_in (a := f) (n := 60) (by omega)]
  refine ⟨by omega, ?_⟩
  refine sX0_groundIsUsable_6 C (m_X2_leanSet l A S h62 hwf) (s_obj h62 rfl) (hcat := Nat.le_of_ble_eq_true rfl) (k := ?_)
  rintro v G2 ⟨S2, rfl, rfl, rfl⟩
  refine srnX0_groundIsUsable C Rt [] 60 ?_
  simp only [k_i, s_go, s_1, e_op, e_pi, e_pl, e_pr, e_p0, e_li, e_ll, e_lr, e_lk, e_ins, e_rm, e_to, e_sw, e_cmp, k_c, k_n, k_f, k_v, k_lg, ↓reduceIte, reduceCtorEq, Nat.reduceAdd, Nat.reduceSub, Nat.reduceMul, Nat.reduceEqDiff, Nat.reduceLT, Nat.reduceLeDiff, Int.reduceAdd, Int.reduceSub, Int.reduceNeg, Int.reduceLE, Int.reduceLT, Int.reduceToNat, Int.reduceEq, Int.cast_ofNat_Int, List.mem_cons, List.not_mem_nil, List.length_cons, List.length_nil, List.set_cons_zero, List.set_cons_succ, List.toList_toArray, eq_self, true_and, and_true, and_self, or_true, true_or, false_or, or_false, or_self, not_true_eq_false, not_false_eq_true, Classical.not_not, true_implies, false_implies, implies_true, forall_const, and_false, false_and, Nat.le_refl, Nat.zero_le, Bool.false_eq_true, lv_args, s_rl_at, s_gf, s_pf, dn_q, kd_q, cl_q, nf_q, ln_q, tg_q, rr_q, cr_q, u_1, e_lsw, k_ti, List.drop_succ_cons, List.drop_zero, List.drop_nil, List.zip_cons_cons, List.zip_nil_right, List.zip_nil_left, List.all_cons, List.all_nil, Bool.and_true, Bool.and_self, decide_true, decide_false, Option.toList, List.cons_append, List.nil_append, List.append_nil, DX0_groundIsUsable_0, FLX0, LDX0]
  refine sX0_groundIsUsable_14 C (m_X0_usableUpTo l A S hB (show f ≤ n by omega) (fun i hi => lt_pred (by omega) hi)) (s_obj (show 0 < 1 by decide) rfl) (hcat := Nat.le_of_ble_eq_true rfl) (k := ?_)
  rintro v G2 ⟨S2, rfl, rfl, r, rfl, hr⟩
  have hall : (lset (onC S f) (fcC S f) &&& (r ^^^ (-1)) = 0) ↔ allB (UC S f) (onC S f) (fcC S f) = true := Bits_all hr (wf_on hwf (by omega))
  refine srnX0_groundIsUsable C Rt [] 60 ?_
  simp only [k_i, s_go, s_1, e_op, e_pi, e_pl, e_pr, e_p0, e_li, e_ll, e_lr, e_lk, e_ins, e_rm, e_to, e_sw, e_cmp, k_c, k_n, k_f, k_v, k_lg, ↓reduceIte, reduceCtorEq, Nat.reduceAdd, Nat.reduceSub, Nat.reduceMul, Nat.reduceEqDiff, Nat.reduceLT, Nat.reduceLeDiff, Int.reduceAdd, Int.reduceSub, Int.reduceNeg, Int.reduceLE, Int.reduceLT, Int.reduceToNat, Int.reduceEq, Int.cast_ofNat_Int, List.mem_cons, List.not_mem_nil, List.length_cons, List.length_nil, List.set_cons_zero, List.set_cons_succ, List.toList_toArray, eq_self, true_and, and_true, and_self, or_true, true_or, false_or, or_false, or_self, not_true_eq_false, not_false_eq_true, Classical.not_not, true_implies, false_implies, implies_true, forall_const, and_false, false_and, Nat.le_refl, Nat.zero_le, Bool.false_eq_true, lv_args, s_rl_at, s_gf, s_pf, dn_q, kd_q, cl_q, nf_q, ln_q, tg_q, rr_q, cr_q, u_1, e_lsw, k_ti, List.drop_succ_cons, List.drop_zero, List.drop_nil, List.zip_cons_cons, List.zip_nil_right, List.zip_nil_left, List.all_cons, List.all_nil, Bool.and_true, Bool.and_self, decide_true, decide_false, Option.toList, List.cons_append, List.nil_append, List.append_nil, DX0_groundIsUsable_0, FLX0, LDX0, hall]
  refine ⟨fun h => ?_, fun h => ?_⟩
  · have h2 : allB (UC S f) (onC S f) (fcC S f) = false := by simpa using h
    rw [h2]
    rfl
  · rw [h]
    rfl
def svs (val : Nat → Int64) (on : Nat → Nat) : Nat → Int64
  | 0 => 0
  | k + 1 => svs val on k + val (on k)
def holdsC (S : pS) (i : Nat) : Bool := if S.1 6 i 0 = 1 then decide (svs (fun j => S.2.1 6 j 1) (onC S i) (fcC S i) = S.2.1 6 i 1) else freshC S i
section
variable {V : pV} {l : Launch} {A : pA} {post : Option Value → pS → Prop} {S : pS}
set_option maxHeartbeats 4000000 in
set_option maxRecDepth 100000 in
theorem lp_holds (C : e_CX0_holds V l) (Rt : e_RX0_holds V (s_P A post)) {i : Nat} (hi : i < 60) (hw : wfF S i i) (hp : post (some (.int (b2i (decide (svs (fun j => S.2.1 6 j 1) (onC S i) (fcC S i) = S.2.1 6 i 1))))) S) : ∀ k j, j + k = fcC S i → V 0 0 19 [(0, .ref (ad A 4 0)), (1, .ref (ad A 6 i)), (2, .ref (ad A 1 0)), (3, .long (svs (fun j => S.2.1 6 j 1) (onC S i) j)), (5, .int (nI j))] [] (gS A S) := by
  obtain ⟨w1, w2, w3, w4, w5, w6⟩ := hw
  intro k
  induction k with
  | zero =>
    intro j hj
    have hj2 : j = fcC S i := by omega
    rw [hj2]
    refine srnX0_holds C Rt [19] 60 ?_
    simp only [k_i, s_go, s_1, e_op, e_pi, e_pl, e_pr, e_p0, e_li, e_ll, e_lr, e_lk, e_ins, e_rm, e_to, e_sw, e_cmp, k_c, k_n, k_f, k_v, k_lg, ↓reduceIte, reduceCtorEq, Nat.reduceAdd, Nat.reduceSub, Nat.reduceMul, Nat.reduceEqDiff, Nat.reduceLT, Nat.reduceLeDiff, Int.reduceAdd, Int.reduceSub, Int.reduceNeg, Int.reduceLE, Int.reduceLT, Int.reduceToNat, Int.reduceEq, Int.cast_ofNat_Int, List.mem_cons, List.not_mem_nil, List.length_cons, List.length_nil, List.set_cons_zero, List.set_cons_succ, List.toList_toArray, eq_self, true_and, and_true, and_self, or_true, true_or, false_or, or_false, or_self, not_true_eq_false, not_false_eq_true, Classical.not_not, true_implies, false_implies, implies_true, forall_const, and_false, false_and, Nat.le_refl, Nat.zero_le, Bool.false_eq_true, lv_args, s_rl_at, s_gf, s_pf, dn_q, kd_q, cl_q, nf_q, ln_q, tg_q, rr_q, cr_q, u_1, e_lsw, k_ti, List.drop_succ_cons, List.drop_zero, List.drop_nil, List.zip_cons_cons, List.zip_nil_right, List.zip_nil_left, List.all_cons, List.all_nil, Bool.and_true, Bool.and_self, decide_true, decide_false, Option.toList, List.cons_append, List.nil_append, List.append_nil, DX0_holds_0, FLX0, LDX0, w3, x_le (a := fcC S i) (b := fcC S i) (by omega) (by omega), (show i < 62 by omega)]
    refine ⟨fun h => ?_, fun h => ?_⟩
    · simpa [h, b2i] using hp
    · simpa [h, b2i] using hp
  | succ k ih =>
    intro j hj
    obtain ⟨h6, h7⟩ := w6 j (by omega)
    refine srnX0_holds C Rt [19] 60 ?_
    simp only [k_i, s_go, s_1, e_op, e_pi, e_pl, e_pr, e_p0, e_li, e_ll, e_lr, e_lk, e_ins, e_rm, e_to, e_sw, e_cmp, k_c, k_n, k_f, k_v, k_lg, ↓reduceIte, reduceCtorEq, Nat.reduceAdd, Nat.reduceSub, Nat.reduceMul, Nat.reduceEqDiff, Nat.reduceLT, Nat.reduceLeDiff, Int.reduceAdd, Int.reduceSub, Int.reduceNeg, Int.reduceLE, Int.reduceLT, Int.reduceToNat, Int.reduceEq, Int.cast_ofNat_Int, List.mem_cons, List.not_mem_nil, List.length_cons, List.length_nil, List.set_cons_zero, List.set_cons_succ, List.toList_toArray, eq_self, true_and, and_true, and_self, or_true, true_or, false_or, or_false, or_self, not_true_eq_false, not_false_eq_true, Classical.not_not, true_implies, false_implies, implies_true, forall_const, and_false, false_and, Nat.le_refl, Nat.zero_le, Bool.false_eq_true, lv_args, s_rl_at, s_gf, s_pf, dn_q, kd_q, cl_q, nf_q, ln_q, tg_q, rr_q, cr_q, u_1, e_lsw, k_ti, List.drop_succ_cons, List.drop_zero, List.drop_nil, List.zip_cons_cons, List.zip_nil_right, List.zip_nil_left, List.all_cons, List.all_nil, Bool.and_true, Bool.and_self, decide_true, decide_false, Option.toList, List.cons_append, List.nil_append, List.append_nil, DX0_holds_0, FLX0, LDX0, w3, h6, x_le (a := fcC S i) (b := j) (by omega) (by omega), (show i < 62 by omega), x_cl (a := j) (by omega), x_in (a := j) (n := 3) (by omega), x_cl (a := onC S i j) (by omega), x_in (a := onC S i j) (n := 60) (by omega), nI_1, (show onC S i j < 62 by omega)]
    exact ⟨fun h => by omega, fun _ => ⟨by omega, by omega, ih (j + 1) (by omega)⟩⟩
end
set_option maxHeartbeats 4000000 in
set_option maxRecDepth 100000 in
theorem m_X0_holds (l : Launch) (A : pA) (S : pS) {n i : Nat} (hB : wfB S n) (hi : i < n) : e_MX0_holds l [.ref (ad A 4 0), .ref (ad A 6 i), .ref (ad A 1 0)] (gS A S) (s_P A (fun v S2 => S = S2 ∧ v = some (.int (b2i (holdsC S i))))) := by
  have hn := hB.2.1
  have hwi := hB.2.2 i hi
  have h62 : i < 62 := by omega
  refine ofX0_holds (Nat.le_of_ble_eq_true rfl) ?_
  intro V C Rt
  refine srnX0_holds C Rt [19] 60 ?_
  simp only [k_i, s_go, s_1, e_op, e_pi, e_pl, e_pr, e_p0, e_li, e_ll, e_lr, e_lk, e_ins, e_rm, e_to, e_sw, e_cmp, k_c, k_n, k_f, k_v, k_lg, ↓reduceIte, reduceCtorEq, Nat.reduceAdd, Nat.reduceSub, Nat.reduceMul, Nat.reduceEqDiff, Nat.reduceLT, Nat.reduceLeDiff, Int.reduceAdd, Int.reduceSub, Int.reduceNeg, Int.reduceLE, Int.reduceLT, Int.reduceToNat, Int.reduceEq, Int.cast_ofNat_Int, List.mem_cons, List.not_mem_nil, List.length_cons, List.length_nil, List.set_cons_zero, List.set_cons_succ, List.toList_toArray, eq_self, true_and, and_true, and_self, or_true, true_or, false_or, or_false, or_self, not_true_eq_false, not_false_eq_true, Classical.not_not, true_implies, false_implies, implies_true, forall_const, and_false, false_and, Nat.le_refl, Nat.zero_le, Bool.false_eq_true, lv_args, s_rl_at, s_gf, s_pf, dn_q, kd_q, cl_q, nf_q, ln_q, tg_q, rr_q, cr_q, u_1, e_lsw, k_ti, List.drop_succ_cons, List.drop_zero, List.drop_nil, List.zip_cons_cons, List.zip_nil_right, List.zip_nil_left, List.all_cons, List.all_nil, Bool.and_true, Bool.and_self, decide_true, decide_false, Option.toList, List.cons_append, List.nil_append, List.append_nil, DX0_holds_0, FLX0, LDX0, h62]
  refine ⟨fun h => ?_, fun h => ?_⟩
  · have e1 : holdsC S i = decide (svs (fun j => S.2.1 6 j 1) (onC S i) (fcC S i) = S.2.1 6 i 1) := by simp [holdsC, h]
    exact lp_holds C Rt (by omega) hwi ⟨rfl, by rw [e1]⟩ (fcC S i) 0 (by omega)
  · have e1 : holdsC S i = freshC S i := by simp [holdsC, h]
    refine sX0_holds_10 C (m_X2_isFresh l A S h62 hwi.2.1 hwi.1 (fun k hk => hwi.2.2.2.2.1 k hk)) (s_obj h62 rfl) (hcat := Nat.le_of_ble_eq_true rfl) (k := ?_)
    rintro v G2 ⟨S2, rfl, rfl, rfl⟩
    refine srnX0_holds C Rt [19] 60 ?_
    simp only [k_i, s_go, s_1, e_op, e_pi, e_pl, e_pr, e_p0, e_li, e_ll, e_lr, e_lk, e_ins, e_rm, e_to, e_sw, e_cmp, k_c, k_n, k_f, k_v, k_lg, ↓reduceIte, reduceCtorEq, Nat.reduceAdd, Nat.reduceSub, Nat.reduceMul, Nat.reduceEqDiff, Nat.reduceLT, Nat.reduceLeDiff, Int.reduceAdd, Int.reduceSub, Int.reduceNeg, Int.reduceLE, Int.reduceLT, Int.reduceToNat, Int.reduceEq, Int.cast_ofNat_Int, List.mem_cons, List.not_mem_nil, List.length_cons, List.length_nil, List.set_cons_zero, List.set_cons_succ, List.toList_toArray, eq_self, true_and, and_true, and_self, or_true, true_or, false_or, or_false, or_self, not_true_eq_false, not_false_eq_true, Classical.not_not, true_implies, false_implies, implies_true, forall_const, and_false, false_and, Nat.le_refl, Nat.zero_le, Bool.false_eq_true, lv_args, s_rl_at, s_gf, s_pf, dn_q, kd_q, cl_q, nf_q, ln_q, tg_q, rr_q, cr_q, u_1, e_lsw, k_ti, List.drop_succ_cons, List.drop_zero, List.drop_nil, List.zip_cons_cons, List.zip_nil_right, List.zip_nil_left, List.all_cons, List.all_nil, Bool.and_true, Bool.and_self, decide_true, decide_false, Option.toList, List.cons_append, List.nil_append, List.append_nil, DX0_holds_0, FLX0, LDX0, b2i_n, e1, freshC]
