/-! FactLog$Book -/
set_option maxHeartbeats 4000000 in
set_option maxRecDepth 100000 in
theorem m_X0_hasNumber (l : Launch) (A : pA) (S : pS) {n : Nat} (hn : n ≤ 60) (hc : S.1 4 0 1 = nI n) (x : Int32) : e_MX0_hasNumber l [.ref (ad A 4 0), .int x] (gS A S) (s_P A (fun v S2 => S = S2 ∧ v = some (.int (b2i (inr x n))))) := by
  refine ofX0_hasNumber (Nat.le_of_ble_eq_true rfl) ?_
  intro V C Rt
  refine srnX0_hasNumber C Rt [] 20 ?_
  simp only [k_i, s_go, s_1, e_op, e_pi, e_pl, e_pr, e_p0, e_li, e_ll, e_lr, e_lk, e_ins, e_rm, e_to, e_sw, e_cmp, k_c, k_n, k_f, k_v, k_lg, ↓reduceIte, reduceCtorEq, Nat.reduceAdd, Nat.reduceSub, Nat.reduceMul, Nat.reduceEqDiff, Nat.reduceLT, Nat.reduceLeDiff, Int.reduceAdd, Int.reduceSub, Int.reduceNeg, Int.reduceLE, Int.reduceLT, Int.reduceToNat, Int.reduceEq, Int.cast_ofNat_Int, List.mem_cons, List.not_mem_nil, List.length_cons, List.length_nil, List.set_cons_zero, List.set_cons_succ, List.toList_toArray, eq_self, true_and, and_true, and_self, or_true, true_or, false_or, or_false, or_self, not_true_eq_false, not_false_eq_true, Classical.not_not, true_implies, false_implies, implies_true, forall_const, and_false, false_and, Nat.le_refl, Nat.zero_le, Bool.false_eq_true, lv_args, s_rl_at, s_gf, s_pf, dn_q, kd_q, cl_q, nf_q, ln_q, tg_q, rr_q, cr_q, u_1, e_lsw, k_ti, List.drop_succ_cons, List.drop_zero, List.drop_nil, List.zip_cons_cons, List.zip_nil_right, List.zip_nil_left, List.all_cons, List.all_nil, Bool.and_true, Bool.and_self, decide_true, decide_false, Option.toList, List.cons_append, List.nil_append, List.append_nil, DX0_hasNumber_0, FLX0, LDX0, hc]
  refine ⟨fun h => ?_, fun h => ⟨fun h2 => ?_, fun h2 => ?_⟩⟩
  · rw [inr_lo h]
    rfl
  · rw [inr_hi (nI_toInt (by omega)) h2]
    rfl
  · rw [inr_in (nI_toInt (by omega)) h h2]
    rfl
/-- checked no more, those of the first m that R has -/
def unS (S : pS) (R : Nat → Bool) (m : Nat) : pS := (fun k' i' j' => if k' = 6 ∧ j' = 2 ∧ i' < m ∧ R i' = true then 0 else S.1 k' i' j', S.2)
theorem unS_1 (S : pS) (R : Nat → Bool) (m k' i' j' : Nat) : (unS S R m).1 k' i' j' = if k' = 6 ∧ j' = 2 ∧ i' < m ∧ R i' = true then 0 else S.1 k' i' j' := rfl
theorem unS_2 (S : pS) (R : Nat → Bool) (m : Nat) : (unS S R m).2 = S.2 := rfl
theorem unS_t {S : pS} {R R' : Nat → Bool} {i : Nat} (h1 : R' i = true) (h2 : ∀ j, j < i → R' j = R j) : uI (unS S R i) 6 i 2 0 = unS S R' (i + 1) := by
  apply Prod.ext
  · funext k' i' j'
    simp only [unS_1, u_1]
    by_cases hi : i' = i
    · subst hi
      by_cases hk : k' = 6 <;> by_cases hj : j' = 2 <;> simp [hk, hj, h1]
    · by_cases hl : i' < i
      · have : i' < i + 1 := by omega
        simp [hi, hl, this, h2 i' hl]
      · have : ¬ i' < i + 1 := by omega
        simp [hi, hl, this]
  · rfl
theorem unS_f {S : pS} {R R' : Nat → Bool} {i : Nat} (h1 : R' i = false) (h2 : ∀ j, j < i → R' j = R j) : unS S R i = unS S R' (i + 1) := by
  apply Prod.ext
  · funext k' i' j'
    simp only [unS_1]
    by_cases hi : i' = i
    · subst hi
      simp [h1]
    · by_cases hl : i' < i
      · have : i' < i + 1 := by omega
        simp [hl, this, h2 i' hl]
      · have : ¬ i' < i + 1 := by omega
        simp [hl, this]
  · rfl
abbrev RU (S : pS) (x : Int32) : Nat → Nat → Bool := rsF (fun i => am (S.1 7 i) x (tcC S i)) (onC S) (fcC S)
def cntU (S : pS) (x : Int32) : Nat → Nat
  | 0 => 0
  | i + 1 => cntU S x i + if RU S x (i + 1) i && chC S i then 1 else 0
theorem cntU_le (S : pS) (x : Int32) : ∀ n, cntU S x n ≤ n
  | 0 => Nat.le_refl _
  | n + 1 => by
    have := cntU_le S x n
    simp only [cntU]
    split <;> omega
theorem rsF_at {base : Nat → Bool} {on : Nat → Nat → Nat} {fc : Nat → Nat} {i : Nat} : rsF base on fc (i + 1) i = (base i || anyB (rsF base on fc i) (on i) (fc i)) := by simp [rsF]
theorem rsF_lo {base : Nat → Bool} {on : Nat → Nat → Nat} {fc : Nat → Nat} {i j : Nat} (h : ¬ j = i) : rsF base on fc (i + 1) j = rsF base on fc i j := by simp [rsF, h]
theorem wfF_un {S : pS} {R : Nat → Bool} {m i b : Nat} (h : wfF S i b) : wfF (unS S R m) i b := h
section
variable {V : pV} {l : Launch} {A : pA} {post : Option Value → pS → Prop} {S : pS}
set_option maxHeartbeats 4000000 in
set_option maxRecDepth 100000 in
theorem lp_unck (C : e_CX0_uncheckAllOn V l) (Rt : e_RX0_uncheckAllOn V (s_P A post)) {n : Nat} {x : Int32} (hB : wfB S n) (hp : post (some (.int (nI (cntU S x n)))) (unS S (RU S x n) n)) : ∀ k i r, i + k = n → Bits r (RU S x i) → V 0 0 8 [(0, .ref (ad A 4 0)), (1, .int x), (2, .long r), (4, .int (nI (cntU S x i))), (5, .int (nI i))] [] (gS A (unS S (RU S x i) i)) := by
  obtain ⟨hc, hn, hw⟩ := hB
  intro k
  induction k with
  | zero =>
    intro i r hi hr
    have hj2 : i = n := by omega
    subst hj2
    refine srnX0_uncheckAllOn C Rt [8] 60 ?_
    simp only [k_i, s_go, s_1, e_op, e_pi, e_pl, e_pr, e_p0, e_li, e_ll, e_lr, e_lk, e_ins, e_rm, e_to, e_sw, e_cmp, k_c, k_n, k_f, k_v, k_lg, ↓reduceIte, reduceCtorEq, Nat.reduceAdd, Nat.reduceSub, Nat.reduceMul, Nat.reduceEqDiff, Nat.reduceLT, Nat.reduceLeDiff, Int.reduceAdd, Int.reduceSub, Int.reduceNeg, Int.reduceLE, Int.reduceLT, Int.reduceToNat, Int.reduceEq, Int.cast_ofNat_Int, List.mem_cons, List.not_mem_nil, List.length_cons, List.length_nil, List.set_cons_zero, List.set_cons_succ, List.toList_toArray, eq_self, true_and, and_true, and_self, or_true, true_or, false_or, or_false, or_self, not_true_eq_false, not_false_eq_true, Classical.not_not, true_implies, false_implies, implies_true, forall_const, and_false, false_and, Nat.le_refl, Nat.zero_le, Bool.false_eq_true, lv_args, s_rl_at, s_gf, s_pf, dn_q, kd_q, cl_q, nf_q, ln_q, tg_q, rr_q, cr_q, u_1, e_lsw, k_ti, List.drop_succ_cons, List.drop_zero, List.drop_nil, List.zip_cons_cons, List.zip_nil_right, List.zip_nil_left, List.all_cons, List.all_nil, Bool.and_true, Bool.and_self, decide_true, decide_false, Option.toList, List.cons_append, List.nil_append, List.append_nil, DX0_uncheckAllOn_0, DX0_uncheckAllOn_1, FLX0, LDX0, unS_1, unS_2, hc, x_le (a := i) (b := i) (by omega) (by omega)]
    exact hp
  | succ k ih =>
    intro i r hi hr
    have hwi := hw i (by omega)
    have w1 : S.1 6 i 4 = nI (tcC S i) := hwi.1
    have hcl := cntU_le S x i
    have e0 : RU S x (i + 1) i = (am (S.1 7 i) x (tcC S i) || anyB (RU S x i) (onC S i) (fcC S i)) := rsF_at
    have e1 : ∀ j, j < i → RU S x (i + 1) j = RU S x i j := fun j hj => rsF_lo (by omega)
    have e2 : ∀ b, RU S x (i + 1) i = b → ∀ j, (if j = i then b else RU S x i j) = RU S x (i + 1) j := by
      intro b hb j
      by_cases hj : j = i
      · subst hj
        simp [hb]
      · simp [hj, rsF_lo hj]
    refine srnX0_uncheckAllOn C Rt [8] 60 ?_
    simp only [k_i, s_go, s_1, e_op, e_pi, e_pl, e_pr, e_p0, e_li, e_ll, e_lr, e_lk, e_ins, e_rm, e_to, e_sw, e_cmp, k_c, k_n, k_f, k_v, k_lg, ↓reduceIte, reduceCtorEq, Nat.reduceAdd, Nat.reduceSub, Nat.reduceMul, Nat.reduceEqDiff, Nat.reduceLT, Nat.reduceLeDiff, Int.reduceAdd, Int.reduceSub, Int.reduceNeg, Int.reduceLE, Int.reduceLT, Int.reduceToNat, Int.reduceEq, Int.cast_ofNat_Int, List.mem_cons, List.not_mem_nil, List.length_cons, List.length_nil, List.set_cons_zero, List.set_cons_succ, List.toList_toArray, eq_self, true_and, and_true, and_self, or_true, true_or, false_or, or_false, or_self, not_true_eq_false, not_false_eq_true, Classical.not_not, true_implies, false_implies, implies_true, forall_const, and_false, false_and, Nat.le_refl, Nat.zero_le, Bool.false_eq_true, lv_args, s_rl_at, s_gf, s_pf, dn_q, kd_q, cl_q, nf_q, ln_q, tg_q, rr_q, cr_q, u_1, e_lsw, k_ti, List.drop_succ_cons, List.drop_zero, List.drop_nil, List.zip_cons_cons, List.zip_nil_right, List.zip_nil_left, List.all_cons, List.all_nil, Bool.and_true, Bool.and_self, decide_true, decide_false, Option.toList, List.cons_append, List.nil_append, List.append_nil, DX0_uncheckAllOn_0, DX0_uncheckAllOn_1, FLX0, LDX0, unS_1, unS_2, hc, x_le (a := n) (b := i) (by omega) (by omega), x_cl (a := i) (by omega), x_in (a := i) (n := 60) (by omega)]
    refine ⟨fun h => by omega, fun _ => ⟨by omega, ?_⟩⟩
    have key : RU S x (i + 1) i = true → V 0 0 50 [(0, .ref (ad A 4 0)), (1, .int x), (2, .long r), (4, .int (nI (cntU S x i))), (5, .int (nI i)), (6, .ref (ad A 6 i))] [] (gS A (unS S (RU S x i) i)) := by
      intro hR
      have hb2 : Bits (r ||| (1 : Int64) <<< ((nI i).toInt64 &&& 63)) (RU S x (i + 1)) := Bits_to (Bits_put hr (by omega)) (e2 true hR)
      refine srnX0_uncheckAllOn C Rt [8] 60 ?_
      simp only [k_i, s_go, s_1, e_op, e_pi, e_pl, e_pr, e_p0, e_li, e_ll, e_lr, e_lk, e_ins, e_rm, e_to, e_sw, e_cmp, k_c, k_n, k_f, k_v, k_lg, ↓reduceIte, reduceCtorEq, Nat.reduceAdd, Nat.reduceSub, Nat.reduceMul, Nat.reduceEqDiff, Nat.reduceLT, Nat.reduceLeDiff, Int.reduceAdd, Int.reduceSub, Int.reduceNeg, Int.reduceLE, Int.reduceLT, Int.reduceToNat, Int.reduceEq, Int.cast_ofNat_Int, List.mem_cons, List.not_mem_nil, List.length_cons, List.length_nil, List.set_cons_zero, List.set_cons_succ, List.toList_toArray, eq_self, true_and, and_true, and_self, or_true, true_or, false_or, or_false, or_self, not_true_eq_false, not_false_eq_true, Classical.not_not, true_implies, false_implies, implies_true, forall_const, and_false, false_and, Nat.le_refl, Nat.zero_le, Bool.false_eq_true, lv_args, s_rl_at, s_gf, s_pf, dn_q, kd_q, cl_q, nf_q, ln_q, tg_q, rr_q, cr_q, u_1, e_lsw, k_ti, List.drop_succ_cons, List.drop_zero, List.drop_nil, List.zip_cons_cons, List.zip_nil_right, List.zip_nil_left, List.all_cons, List.all_nil, Bool.and_true, Bool.and_self, decide_true, decide_false, Option.toList, List.cons_append, List.nil_append, List.append_nil, DX0_uncheckAllOn_0, DX0_uncheckAllOn_1, FLX0, LDX0, unS_1, unS_2, (show i < 62 by omega), Nat.lt_irrefl, nI_1]
      rw [unS_t hR e1]
      refine ⟨fun h => ?_, fun h => ?_⟩
      · have e3 : cntU S x (i + 1) = cntU S x i := by simp [cntU, chC, h]
        have h9 := ih (i + 1) _ (by omega) hb2
        rw [e3] at h9
        exact r_sub C (by simp) h9
      · have e3 : cntU S x (i + 1) = cntU S x i + 1 := by simp [cntU, chC, h, hR]
        have h9 := ih (i + 1) _ (by omega) hb2
        rw [e3] at h9
        exact r_sub C (by simp) h9
    refine sX0_uncheckAllOn_29 C (m_X2_restsOn l A (unS S (RU S x i) i) (show i < 62 by omega) hwi.2.1 w1 x) (s_obj (show i < 62 by omega) rfl) (hcat := Nat.le_of_ble_eq_true rfl) (k := ?_)
    rintro v G2 ⟨S2, rfl, rfl, rfl⟩
    refine srnX0_uncheckAllOn C Rt [8, 50] 60 ?_
    simp only [k_i, s_go, s_1, e_op, e_pi, e_pl, e_pr, e_p0, e_li, e_ll, e_lr, e_lk, e_ins, e_rm, e_to, e_sw, e_cmp, k_c, k_n, k_f, k_v, k_lg, ↓reduceIte, reduceCtorEq, Nat.reduceAdd, Nat.reduceSub, Nat.reduceMul, Nat.reduceEqDiff, Nat.reduceLT, Nat.reduceLeDiff, Int.reduceAdd, Int.reduceSub, Int.reduceNeg, Int.reduceLE, Int.reduceLT, Int.reduceToNat, Int.reduceEq, Int.cast_ofNat_Int, List.mem_cons, List.not_mem_nil, List.length_cons, List.length_nil, List.set_cons_zero, List.set_cons_succ, List.toList_toArray, eq_self, true_and, and_true, and_self, or_true, true_or, false_or, or_false, or_self, not_true_eq_false, not_false_eq_true, Classical.not_not, true_implies, false_implies, implies_true, forall_const, and_false, false_and, Nat.le_refl, Nat.zero_le, Bool.false_eq_true, lv_args, s_rl_at, s_gf, s_pf, dn_q, kd_q, cl_q, nf_q, ln_q, tg_q, rr_q, cr_q, u_1, e_lsw, k_ti, List.drop_succ_cons, List.drop_zero, List.drop_nil, List.zip_cons_cons, List.zip_nil_right, List.zip_nil_left, List.all_cons, List.all_nil, Bool.and_true, Bool.and_self, decide_true, decide_false, Option.toList, List.cons_append, List.nil_append, List.append_nil, DX0_uncheckAllOn_0, DX0_uncheckAllOn_1, FLX0, LDX0, b2i_0]
    refine ⟨fun h => key ?_, fun h => ?_⟩
    · have h3 : am (S.1 7 i) x (tcC S i) = true := by
        cases h4 : am (S.1 7 i) x (tcC S i) with
        | true => rfl
        | false => exact absurd h4 h
      rw [e0, h3, Bool.true_or]
    · have h3 : am (S.1 7 i) x (tcC S i) = false := h
      refine sX0_uncheckAllOn_37 C (m_X2_leanSet l A (unS S (RU S x i) i) (show i < 62 by omega) (wfF_un hwi)) (s_obj (show i < 62 by omega) rfl) (hcat := Nat.le_of_ble_eq_true rfl) (k := ?_)
      rintro v G2 ⟨S2, rfl, rfl, rfl⟩
      have hany : (lset (onC (unS S (RU S x i) i) i) (fcC (unS S (RU S x i) i) i) &&& r = 0) ↔ anyB (RU S x i) (onC S i) (fcC S i) = false := Bits_any hr (fun k hk => Nat.lt_of_lt_of_le (hwi.2.2.2.2.2 k hk).2 (by omega))
      refine srnX0_uncheckAllOn C Rt [8, 50] 60 ?_
      simp only [k_i, s_go, s_1, e_op, e_pi, e_pl, e_pr, e_p0, e_li, e_ll, e_lr, e_lk, e_ins, e_rm, e_to, e_sw, e_cmp, k_c, k_n, k_f, k_v, k_lg, ↓reduceIte, reduceCtorEq, Nat.reduceAdd, Nat.reduceSub, Nat.reduceMul, Nat.reduceEqDiff, Nat.reduceLT, Nat.reduceLeDiff, Int.reduceAdd, Int.reduceSub, Int.reduceNeg, Int.reduceLE, Int.reduceLT, Int.reduceToNat, Int.reduceEq, Int.cast_ofNat_Int, List.mem_cons, List.not_mem_nil, List.length_cons, List.length_nil, List.set_cons_zero, List.set_cons_succ, List.toList_toArray, eq_self, true_and, and_true, and_self, or_true, true_or, false_or, or_false, or_self, not_true_eq_false, not_false_eq_true, Classical.not_not, true_implies, false_implies, implies_true, forall_const, and_false, false_and, Nat.le_refl, Nat.zero_le, Bool.false_eq_true, lv_args, s_rl_at, s_gf, s_pf, dn_q, kd_q, cl_q, nf_q, ln_q, tg_q, rr_q, cr_q, u_1, e_lsw, k_ti, List.drop_succ_cons, List.drop_zero, List.drop_nil, List.zip_cons_cons, List.zip_nil_right, List.zip_nil_left, List.all_cons, List.all_nil, Bool.and_true, Bool.and_self, decide_true, decide_false, Option.toList, List.cons_append, List.nil_append, List.append_nil, DX0_uncheckAllOn_0, DX0_uncheckAllOn_1, FLX0, LDX0, hany, nI_1]
      refine ⟨fun h5 => key ?_, fun h5 => ?_⟩
      · rw [e0, h3, Bool.false_or]
        simpa using h5
      · have hR : RU S x (i + 1) i = false := by rw [e0, h3, h5]; rfl
        have hb2 : Bits r (RU S x (i + 1)) := Bits_to hr (fun j => by
          by_cases hj : j = i
          · subst hj
            rw [hR]
            have : ∀ m, m ≤ j → RU S x m j = false := by
              intro m
              induction m with
              | zero => intro _; rfl
              | succ m ihm => intro hm; rw [show RU S x (m + 1) j = RU S x m j from rsF_lo (by omega)]; exact ihm (by omega)
            exact this j (Nat.le_refl _)
          · exact (rsF_lo hj).symm)
        rw [unS_f hR e1]
        have e3 : cntU S x (i + 1) = cntU S x i := by simp [cntU, hR]
        have h9 := ih (i + 1) _ (by omega) hb2
        rw [e3] at h9
        exact r_sub C (by simp) h9
end
set_option maxHeartbeats 4000000 in
set_option maxRecDepth 100000 in
theorem m_X0_uncheckAllOn (l : Launch) (A : pA) (S : pS) {n : Nat} (hB : wfB S n) (x : Int32) : e_MX0_uncheckAllOn l [.ref (ad A 4 0), .int x] (gS A S) (s_P A (fun v S2 => S2 = unS S (RU S x n) n ∧ v = some (.int (nI (cntU S x n))))) := by
  refine ofX0_uncheckAllOn (Nat.le_of_ble_eq_true rfl) ?_
  intro V C Rt
  refine srnX0_uncheckAllOn C Rt [8] 7 ?_
  simp only [k_i, s_go, s_1, e_op, e_pi, e_pl, e_pr, e_p0, e_li, e_ll, e_lr, e_lk, e_ins, e_rm, e_to, e_sw, e_cmp, k_c, k_n, k_f, k_v, k_lg, ↓reduceIte, reduceCtorEq, Nat.reduceAdd, Nat.reduceSub, Nat.reduceMul, Nat.reduceEqDiff, Nat.reduceLT, Nat.reduceLeDiff, Int.reduceAdd, Int.reduceSub, Int.reduceNeg, Int.reduceLE, Int.reduceLT, Int.reduceToNat, Int.reduceEq, Int.cast_ofNat_Int, List.mem_cons, List.not_mem_nil, List.length_cons, List.length_nil, List.set_cons_zero, List.set_cons_succ, List.toList_toArray, eq_self, true_and, and_true, and_self, or_true, true_or, false_or, or_false, or_self, not_true_eq_false, not_false_eq_true, Classical.not_not, true_implies, false_implies, implies_true, forall_const, and_false, false_and, Nat.le_refl, Nat.zero_le, Bool.false_eq_true, lv_args, s_rl_at, s_gf, s_pf, dn_q, kd_q, cl_q, nf_q, ln_q, tg_q, rr_q, cr_q, u_1, e_lsw, k_ti, List.drop_succ_cons, List.drop_zero, List.drop_nil, List.zip_cons_cons, List.zip_nil_right, List.zip_nil_left, List.all_cons, List.all_nil, Bool.and_true, Bool.and_self, decide_true, decide_false, Option.toList, List.cons_append, List.nil_append, List.append_nil, DX0_uncheckAllOn_0, DX0_uncheckAllOn_1, FLX0, LDX0]
  have h0 : gS A S = gS A (unS S (RU S x 0) 0) := congrArg _ (Prod.ext (by funext k' i' j'; simp [unS_1]) rfl)
  rw [h0]
  exact lp_unck C Rt hB ⟨rfl, rfl⟩ n 0 0 (by omega) Bits_0
