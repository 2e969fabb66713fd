/-! FactLog$Writer: a list of bytes is written from place a on, with power p, cut (c) or not; σ the sum -/
def wn (p : Nat) (c : Bool) (bs : List Int32) : Nat := if c = true then 0 else min p bs.length
def wS (S : pS) (qk qi a p : Nat) (c : Bool) (bs : List Int32) (σ : Int64) : pS := (fun k' i' j' => if k' = qk ∧ i' = qi ∧ a ≤ j' ∧ j' < a + wn p c bs then bs.getD (j' - a) 0 else if k' = 18 ∧ i' = 0 ∧ j' = 0 then nI (a + wn p c bs) else if k' = 18 ∧ i' = 0 ∧ j' = 1 then nI (p - wn p c bs) else if k' = 18 ∧ i' = 0 ∧ j' = 2 then b2i (c || decide (p < bs.length)) else S.1 k' i' j', fun k' i' j' => if k' = 18 ∧ i' = 0 ∧ j' = 3 then σ else S.2.1 k' i' j', S.2.2)
theorem wS_1 (S : pS) (qk qi a p : Nat) (c : Bool) (bs : List Int32) (σ : Int64) (k' i' j' : Nat) : (wS S qk qi a p c bs σ).1 k' i' j' = if k' = qk ∧ i' = qi ∧ a ≤ j' ∧ j' < a + wn p c bs then bs.getD (j' - a) 0 else if k' = 18 ∧ i' = 0 ∧ j' = 0 then nI (a + wn p c bs) else if k' = 18 ∧ i' = 0 ∧ j' = 1 then nI (p - wn p c bs) else if k' = 18 ∧ i' = 0 ∧ j' = 2 then b2i (c || decide (p < bs.length)) else S.1 k' i' j' := rfl
theorem wS_2 (S : pS) (qk qi a p : Nat) (c : Bool) (bs : List Int32) (σ : Int64) (k' i' j' : Nat) : (wS S qk qi a p c bs σ).2.1 k' i' j' = if k' = 18 ∧ i' = 0 ∧ j' = 3 then σ else S.2.1 k' i' j' := rfl
theorem wS_3 (S : pS) (qk qi a p : Nat) (c : Bool) (bs : List Int32) (σ : Int64) : (wS S qk qi a p c bs σ).2.2 = S.2.2 := rfl
theorem x_le0 {m : Nat} (h : m < 2147483648) : (nI m ≤ 0) ↔ m = 0 := by
  have := nI_leI (a := m) (b := 0) h (by decide)
  rw [show nI 0 = 0 from rfl] at this
  exact this.trans (by omega)
theorem x_ltN {a b : Nat} (ha : a < 2147483648) (hb : b < 2147483648) : (nI a < Int32.ofNat b) ↔ a < b := nI_ltI ha hb
theorem x_s1 {m : Nat} (h : 0 < m) : nI m - 1 = nI (m - 1) := by
  obtain ⟨k, rfl⟩ : ∃ k, m = k + 1 := ⟨m - 1, by omega⟩
  exact nI_pred k
theorem wS_cut {S : pS} {qk qi a p : Nat} {c : Bool} {bs : List Int32} {σ : Int64} {b : Int32} (hne : ¬ 18 = qk) (h : c = true ∨ p < bs.length ∨ p = bs.length) : uI (wS S qk qi a p c bs σ) 18 0 2 1 = wS S qk qi a p c (bs ++ [b]) σ := by
  have hw : wn p c (bs ++ [b]) = wn p c bs := by
    cases c
    · simp only [wn, List.length_append, List.length_cons, List.length_nil]
      have : p ≤ bs.length := by rcases h with h | h | h <;> first | (cases h; done) | omega
      simp
      omega
    · rfl
  have hc : (c || decide (p < (bs ++ [b]).length)) = true := by
    cases c
    · have : p < bs.length + 1 := by rcases h with h | h | h <;> first | (cases h; done) | omega
      simp [this]
    · rfl
  apply Prod.ext
  · funext k' i' j'
    simp only [wS_1, u_1, hw, hc]
    have hg : a ≤ j' → j' < a + wn p c bs → (bs ++ [b]).getD (j' - a) 0 = bs.getD (j' - a) 0 := by
      intro h1 h2
      have h3 : j' - a < bs.length := by
        have : wn p c bs ≤ bs.length := by cases c <;> simp [wn]; omega
        omega
      simp [List.getD_eq_getElem?_getD, List.getElem?_append_left h3]
    by_cases h1 : k' = qk ∧ i' = qi ∧ a ≤ j' ∧ j' < a + wn p c bs
    · have h2 : ¬ (k' = 18 ∧ i' = 0 ∧ j' = 2) := fun z => hne (z.1.symm.trans h1.1)
      rw [if_pos h1, if_neg h2, if_pos h1, hg h1.2.2.1 h1.2.2.2]
    · by_cases h2 : k' = 18 ∧ i' = 0 ∧ j' = 2
      · obtain ⟨rfl, rfl, rfl⟩ := h2
        simp [b2i, hne]
      · rw [if_neg h2, if_neg h1, if_neg h1]
        by_cases h3 : k' = 18 ∧ i' = 0 ∧ j' = 0 <;> by_cases h4 : k' = 18 ∧ i' = 0 ∧ j' = 1 <;> simp [h2, h3, h4]
  · rfl
theorem wS_put {S : pS} {qk qi a p : Nat} {bs : List Int32} {σ : Int64} {b : Int32} (hne : ¬ 18 = qk) (h : bs.length < p) : uI (uI (uI (wS S qk qi a p false bs σ) qk qi (a + bs.length) b) 18 0 0 (nI (a + bs.length + 1))) 18 0 1 (nI (p - bs.length - 1)) = wS S qk qi a p false (bs ++ [b]) σ := by
  have hw : wn p false bs = bs.length := by simp [wn]; omega
  have hw2 : wn p false (bs ++ [b]) = bs.length + 1 := by simp [wn]; omega
  have hc : (false || decide (p < (bs ++ [b]).length)) = false := by simp; omega
  have hc2 : (false || decide (p < bs.length)) = false := by simp; omega
  apply Prod.ext
  · funext k' i' j'
    simp only [wS_1, u_1, hw, hw2, hc, hc2]
    by_cases h1 : k' = 18 ∧ i' = 0 ∧ j' = 1
    · obtain ⟨rfl, rfl, rfl⟩ := h1
      simp [hne, Nat.sub_sub]
    · rw [if_neg h1]
      by_cases h2 : k' = 18 ∧ i' = 0 ∧ j' = 0
      · obtain ⟨rfl, rfl, rfl⟩ := h2
        simp [hne, Nat.add_assoc]
      · rw [if_neg h2]
        by_cases h3 : k' = qk ∧ i' = qi ∧ j' = a + bs.length
        · obtain ⟨rfl, rfl, rfl⟩ := h3
          rw [if_pos ⟨rfl, rfl, rfl⟩, if_pos ⟨rfl, rfl, by omega, by omega⟩]
          simp [List.getD_eq_getElem?_getD]
        · rw [if_neg h3]
          by_cases h4 : k' = qk ∧ i' = qi ∧ a ≤ j' ∧ j' < a + bs.length
          · have h5 : j' - a < bs.length := by omega
            rw [if_pos h4, if_pos ⟨h4.1, h4.2.1, h4.2.2.1, by omega⟩]
            simp [List.getD_eq_getElem?_getD, List.getElem?_append_left h5]
          · have h6 : ¬ (k' = qk ∧ i' = qi ∧ a ≤ j' ∧ j' < a + (bs.length + 1)) := fun z => by
              by_cases hj : j' = a + bs.length
              · exact h3 ⟨z.1, z.2.1, hj⟩
              · exact h4 ⟨z.1, z.2.1, z.2.2.1, by omega⟩
            rw [if_neg h4, if_neg h6]
            simp [h1, h2]
  · rfl
/-- what the writer needs of the array that it writes into -/
def wQ (S : pS) (qk qi : Nat) : Prop := S.2.2 18 0 4 = (qk, qi) ∧ kd qk = 2 ∧ qi < dn qk ∧ ln qk ≤ 4000 ∧ (qk = 12 ∨ qk = 21)
set_option maxHeartbeats 4000000 in
set_option maxRecDepth 100000 in
theorem m_X6_putOne (l : Launch) (A : pA) (S : pS) {qk qi a p : Nat} {c : Bool} {bs : List Int32} {σ : Int64} (hQ : wQ S qk qi) (hb : a + bs.length + 1 ≤ ln qk) (hp : p < 2147483648) (b : Int32) : e_MX6_putOne l [.ref (ad A 18 0), .int b] (gS A (wS S qk qi a p c bs σ)) (s_P A (fun v S2 => S2 = wS S qk qi a p c (bs ++ [b]) σ ∧ v = none)) := by
  obtain ⟨hq, hk, hi, hln, hor⟩ := hQ
  have hne : ¬ 18 = qk := by omega
  refine ofX6_putOne (Nat.le_of_ble_eq_true rfl) ?_
  intro V C Rt
  by_cases hcut : c = true ∨ p < bs.length
  · have hcc : (c || decide (p < bs.length)) = true := by
      rcases hcut with h | h
      · simp [h]
      · simp [h]
    refine srnX6_putOne C Rt [] 60 ?_
    simp only [k_i, s_go, s_1, e_op, e_pi, e_pl, e_pr, e_p0, e_li, e_ll, e_lr, e_lk, e_ins, e_rm, e_to, e_sw, e_cmp, k_c, k_n, k_f, k_v, k_lg, ↓reduceIte, reduceCtorEq, Nat.reduceAdd, Nat.reduceSub, Nat.reduceMul, Nat.reduceEqDiff, Nat.reduceLT, Nat.reduceLeDiff, Int.reduceAdd, Int.reduceSub, Int.reduceNeg, Int.reduceLE, Int.reduceLT, Int.reduceToNat, Int.reduceEq, Int.cast_ofNat_Int, List.mem_cons, List.not_mem_nil, List.length_cons, List.length_nil, List.set_cons_zero, List.set_cons_succ, List.toList_toArray, eq_self, true_and, and_true, and_self, or_true, true_or, false_or, or_false, or_self, not_true_eq_false, not_false_eq_true, Classical.not_not, true_implies, false_implies, implies_true, forall_const, and_false, false_and, Nat.le_refl, Nat.zero_le, Bool.false_eq_true, lv_args, s_rl_at, s_gf, s_pf, dn_q, kd_q, cl_q, nf_q, ln_q, tg_q, rr_q, cr_q, u_1, e_lsw, k_ti, List.drop_succ_cons, List.drop_zero, List.drop_nil, List.zip_cons_cons, List.zip_nil_right, List.zip_nil_left, List.all_cons, List.all_nil, Bool.and_true, Bool.and_self, decide_true, decide_false, Option.toList, List.cons_append, List.nil_append, List.append_nil, DX6_putOne_0, FLX6, LDX6, wS_1, wS_2, wS_3, hq, hk, hi, hne, hcc, b2i_t]
    exact wS_cut hne (hcut.elim Or.inl (fun h => Or.inr (Or.inl h)))
  · have hc0 : c = false := by
      cases c
      · rfl
      · exact absurd (Or.inl rfl) hcut
    subst hc0
    have hpl : ¬ p < bs.length := fun z => hcut (Or.inr z)
    have hw : wn p false bs = bs.length := by simp [wn]; omega
    have hcc : (false || decide (p < bs.length)) = false := by simp; omega
    refine srnX6_putOne C Rt [] 60 ?_
    simp only [k_i, s_go, s_1, e_op, e_pi, e_pl, e_pr, e_p0, e_li, e_ll, e_lr, e_lk, e_ins, e_rm, e_to, e_sw, e_cmp, k_c, k_n, k_f, k_v, k_lg, ↓reduceIte, reduceCtorEq, Nat.reduceAdd, Nat.reduceSub, Nat.reduceMul, Nat.reduceEqDiff, Nat.reduceLT, Nat.reduceLeDiff, Int.reduceAdd, Int.reduceSub, Int.reduceNeg, Int.reduceLE, Int.reduceLT, Int.reduceToNat, Int.reduceEq, Int.cast_ofNat_Int, List.mem_cons, List.not_mem_nil, List.length_cons, List.length_nil, List.set_cons_zero, List.set_cons_succ, List.toList_toArray, eq_self, true_and, and_true, and_self, or_true, true_or, false_or, or_false, or_self, not_true_eq_false, not_false_eq_true, Classical.not_not, true_implies, false_implies, implies_true, forall_const, and_false, false_and, Nat.le_refl, Nat.zero_le, Bool.false_eq_true, lv_args, s_rl_at, s_gf, s_pf, dn_q, kd_q, cl_q, nf_q, ln_q, tg_q, rr_q, cr_q, u_1, e_lsw, k_ti, List.drop_succ_cons, List.drop_zero, List.drop_nil, List.zip_cons_cons, List.zip_nil_right, List.zip_nil_left, List.all_cons, List.all_nil, Bool.and_true, Bool.and_self, decide_true, decide_false, Option.toList, List.cons_append, List.nil_append, List.append_nil, DX6_putOne_0, FLX6, LDX6, wS_1, wS_2, wS_3, hq, hk, hi, hne, hcc, b2i_f, hw, x_le0 (m := p - bs.length) (by omega), (show ¬ nI (a + bs.length) < 0 from nI_pos (by omega)), x_ltN (a := a + bs.length) (b := ln qk) (by omega) (by omega), x_cl (a := a + bs.length) (by omega), x_in (a := a + bs.length) (n := ln qk) (by omega), nI_1]
    refine ⟨fun h => ?_, fun h => ⟨fun _ => ⟨by omega, ?_⟩, fun h2 => by omega⟩⟩
    · exact wS_cut hne (Or.inr (Or.inr (by omega)))
    · rw [x_s1 (by omega)]
      exact wS_put hne (by omega)
set_option maxHeartbeats 4000000 in
set_option maxRecDepth 100000 in
theorem m_X6_put (l : Launch) (A : pA) (S : pS) {qk qi a p : Nat} {c : Bool} {bs : List Int32} {σ : Int64} (hQ : wQ S qk qi) (hb : a + bs.length + 1 ≤ ln qk) (hp : p < 2147483648) (b : Int32) : e_MX6_put l [.ref (ad A 18 0), .int b] (gS A (wS S qk qi a p c bs σ)) (s_P A (fun v S2 => S2 = wS S qk qi a p c (bs ++ [b]) (sw σ b) ∧ v = none)) := by
  refine ofX6_put (Nat.le_of_ble_eq_true rfl) ?_
  intro V C Rt
  refine srnX6_put C Rt [] 60 ?_
  simp only [k_i, s_go, s_1, e_op, e_pi, e_pl, e_pr, e_p0, e_li, e_ll, e_lr, e_lk, e_ins, e_rm, e_to, e_sw, e_cmp, k_c, k_n, k_f, k_v, k_lg, ↓reduceIte, reduceCtorEq, Nat.reduceAdd, Nat.reduceSub, Nat.reduceMul, Nat.reduceEqDiff, Nat.reduceLT, Nat.reduceLeDiff, Int.reduceAdd, Int.reduceSub, Int.reduceNeg, Int.reduceLE, Int.reduceLT, Int.reduceToNat, Int.reduceEq, Int.cast_ofNat_Int, List.mem_cons, List.not_mem_nil, List.length_cons, List.length_nil, List.set_cons_zero, List.set_cons_succ, List.toList_toArray, eq_self, true_and, and_true, and_self, or_true, true_or, false_or, or_false, or_self, not_true_eq_false, not_false_eq_true, Classical.not_not, true_implies, false_implies, implies_true, forall_const, and_false, false_and, Nat.le_refl, Nat.zero_le, Bool.false_eq_true, lv_args, s_rl_at, s_gf, s_pf, dn_q, kd_q, cl_q, nf_q, ln_q, tg_q, rr_q, cr_q, u_1, e_lsw, k_ti, List.drop_succ_cons, List.drop_zero, List.drop_nil, List.zip_cons_cons, List.zip_nil_right, List.zip_nil_left, List.all_cons, List.all_nil, Bool.and_true, Bool.and_self, decide_true, decide_false, Option.toList, List.cons_append, List.nil_append, List.append_nil, DX6_put_0, FLX6, LDX6, wS_2]
  refine sX6_put_6 C (m_sumWith l _ σ b) (hcat := Nat.le_of_ble_eq_true rfl) (k := ?_)
  rintro v G2 ⟨rfl, rfl⟩
  refine srnX6_put C Rt [] 60 ?_
  simp only [k_i, s_go, s_1, e_op, e_pi, e_pl, e_pr, e_p0, e_li, e_ll, e_lr, e_lk, e_ins, e_rm, e_to, e_sw, e_cmp, k_c, k_n, k_f, k_v, k_lg, ↓reduceIte, reduceCtorEq, Nat.reduceAdd, Nat.reduceSub, Nat.reduceMul, Nat.reduceEqDiff, Nat.reduceLT, Nat.reduceLeDiff, Int.reduceAdd, Int.reduceSub, Int.reduceNeg, Int.reduceLE, Int.reduceLT, Int.reduceToNat, Int.reduceEq, Int.cast_ofNat_Int, List.mem_cons, List.not_mem_nil, List.length_cons, List.length_nil, List.set_cons_zero, List.set_cons_succ, List.toList_toArray, eq_self, true_and, and_true, and_self, or_true, true_or, false_or, or_false, or_self, not_true_eq_false, not_false_eq_true, Classical.not_not, true_implies, false_implies, implies_true, forall_const, and_false, false_and, Nat.le_refl, Nat.zero_le, Bool.false_eq_true, lv_args, s_rl_at, s_gf, s_pf, dn_q, kd_q, cl_q, nf_q, ln_q, tg_q, rr_q, cr_q, u_1, e_lsw, k_ti, List.drop_succ_cons, List.drop_zero, List.drop_nil, List.zip_cons_cons, List.zip_nil_right, List.zip_nil_left, List.all_cons, List.all_nil, Bool.and_true, Bool.and_self, decide_true, decide_false, Option.toList, List.cons_append, List.nil_append, List.append_nil, DX6_put_0, FLX6, LDX6]
  have e1 : uJ (wS S qk qi a p c bs σ) 18 0 3 (sw σ b) = wS S qk qi a p c bs (sw σ b) := by
    refine Prod.ext rfl (Prod.ext ?_ rfl)
    funext k' i' j'
    show (if k' = 18 ∧ i' = 0 ∧ j' = 3 then sw σ b else if k' = 18 ∧ i' = 0 ∧ j' = 3 then σ else S.2.1 k' i' j') = (if k' = 18 ∧ i' = 0 ∧ j' = 3 then sw σ b else S.2.1 k' i' j')
    by_cases h : k' = 18 ∧ i' = 0 ∧ j' = 3 <;> simp [h]
  rw [e1]
  refine sX6_put_14 C (m_X6_putOne l A S hQ hb hp b) (s_obj (show 0 < 1 by decide) rfl) (hcat := Nat.le_of_ble_eq_true rfl) (k := ?_)
  rintro v G2 ⟨S2, rfl, rfl, rfl⟩
  refine srnX6_put C Rt [] 60 ?_
  simp only [k_i, s_go, s_1, e_op, e_pi, e_pl, e_pr, e_p0, e_li, e_ll, e_lr, e_lk, e_ins, e_rm, e_to, e_sw, e_cmp, k_c, k_n, k_f, k_v, k_lg, ↓reduceIte, reduceCtorEq, Nat.reduceAdd, Nat.reduceSub, Nat.reduceMul, Nat.reduceEqDiff, Nat.reduceLT, Nat.reduceLeDiff, Int.reduceAdd, Int.reduceSub, Int.reduceNeg, Int.reduceLE, Int.reduceLT, Int.reduceToNat, Int.reduceEq, Int.cast_ofNat_Int, List.mem_cons, List.not_mem_nil, List.length_cons, List.length_nil, List.set_cons_zero, List.set_cons_succ, List.toList_toArray, eq_self, true_and, and_true, and_self, or_true, true_or, false_or, or_false, or_self, not_true_eq_false, not_false_eq_true, Classical.not_not, true_implies, false_implies, implies_true, forall_const, and_false, false_and, Nat.le_refl, Nat.zero_le, Bool.false_eq_true, lv_args, s_rl_at, s_gf, s_pf, dn_q, kd_q, cl_q, nf_q, ln_q, tg_q, rr_q, cr_q, u_1, e_lsw, k_ti, List.drop_succ_cons, List.drop_zero, List.drop_nil, List.zip_cons_cons, List.zip_nil_right, List.zip_nil_left, List.all_cons, List.all_nil, Bool.and_true, Bool.and_self, decide_true, decide_false, Option.toList, List.cons_append, List.nil_append, List.append_nil, DX6_put_0, FLX6, LDX6]
