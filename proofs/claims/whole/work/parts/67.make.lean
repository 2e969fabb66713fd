/-! the reference: make, makeRow -/
set_option maxHeartbeats 4000000 in
set_option maxRecDepth 100000 in
theorem m_X8_sumWith (l : Launch) (G : pH) (x : Int64) (b : Int32) : e_MX8_sumWith l [.long x, .int b] G (fun v G2 => G2 = G ∧ v = some (.long (sw x b))) := by
  refine ofX8_sumWith (Nat.le_of_ble_eq_true rfl) ?_
  intro V C Rt
  refine runX8_sumWith C Rt [] 30 ?_
  simp only [e_go, e_1, e_op, e_pi, e_pl, e_pr, e_p0, e_li, e_ll, e_lr, e_lk, e_ins, e_rm, e_ob, e_ai, e_aj, e_aq, e_an, e_nth, e_to, e_sw, e_cmp, k_c, k_n, k_f, k_v, k_lg, ↓reduceIte, reduceCtorEq, Nat.reduceAdd, Nat.reduceSub, Nat.reduceMul, Nat.reduceEqDiff, Nat.reduceLT, Nat.reduceLeDiff, Int.reduceAdd, Int.reduceSub, Int.reduceNeg, Int.reduceLE, Int.reduceLT, Int.reduceToNat, Int.reduceEq, Int.cast_ofNat_Int, List.mem_cons, List.not_mem_nil, List.length_cons, List.length_nil, List.set_cons_zero, List.set_cons_succ, List.toList_toArray, eq_self, true_and, and_true, and_self, or_true, true_or, false_or, or_false, or_self, not_true_eq_false, not_false_eq_true, Classical.not_not, true_implies, false_implies, implies_true, forall_const, and_false, false_and, e_up_e, va_rf_s, va_rf_n, Nat.le_refl, Nat.zero_le, Bool.false_eq_true, lv_args, DX8_sumWith_0, FLX8, LDX8]
  rfl
def mS (T : pS) (bs : List Int32) : pS := (fun k' i' j' => if k' = 60 ∧ i' = 0 ∧ j' < bs.length then bs.getD j' 0 else if k' = 30 ∧ i' = 0 ∧ j' = 30 then nI bs.length else T.1 k' i' j', T.2)
theorem mS_1 (T : pS) (bs : List Int32) (k' i' j' : Nat) : (mS T bs).1 k' i' j' = if k' = 60 ∧ i' = 0 ∧ j' < bs.length then bs.getD j' 0 else if k' = 30 ∧ i' = 0 ∧ j' = 30 then nI bs.length else T.1 k' i' j' := rfl
theorem mS_2 (T : pS) (bs : List Int32) : (mS T bs).2 = T.2 := rfl
theorem mS_oth {T : pS} {bs : List Int32} {k : Nat} (h : ¬ k = 60) (h2 : ¬ k = 30) : (mS T bs).1 k = T.1 k := by
  funext i' j'
  rw [mS_1]
  simp [h, h2]
theorem mS_n {T : pS} {bs : List Int32} : (mS T bs).1 30 0 30 = nI bs.length := by
  rw [mS_1]
  simp
theorem mS_s {T : pS} {bs : List Int32} {b : Int32} : uI (uI (mS T bs) 60 0 bs.length b) 30 0 30 (nI (bs.length + 1)) = mS T (bs ++ [b]) := by
  refine Prod.ext ?_ rfl
  funext k' i' j'
  simp only [u_1, mS_1, List.length_append, List.length_cons, List.length_nil]
  by_cases h1 : k' = 30 ∧ i' = 0 ∧ j' = 30
  · obtain ⟨rfl, rfl, rfl⟩ := h1
    simp
  · rw [if_neg h1]
    by_cases h2 : k' = 60 ∧ i' = 0 ∧ j' = bs.length
    · obtain ⟨rfl, rfl, rfl⟩ := h2
      rw [if_pos ⟨rfl, rfl, rfl⟩, if_pos ⟨rfl, rfl, by omega⟩]
      simp [List.getD_eq_getElem?_getD]
    · rw [if_neg h2]
      by_cases h3 : k' = 60 ∧ i' = 0 ∧ j' < bs.length
      · rw [if_pos h3, if_pos ⟨h3.1, h3.2.1, by omega⟩]
        simp [List.getD_eq_getElem?_getD, List.getElem?_append_left h3.2.2]
      · have h4 : ¬ (k' = 60 ∧ i' = 0 ∧ j' < bs.length + (0 + 1)) := fun z => by
          by_cases hj : j' = bs.length
          · exact h2 ⟨z.1, z.2.1, hj⟩
          · exact h3 ⟨z.1, z.2.1, by omega⟩
        rw [if_neg h3, if_neg h4, if_neg h1, if_neg h1]
section
variable {V : pV} {l : Launch} {A : pA} {post : Option Value → pS → Prop} {T : pS}
set_option maxHeartbeats 4000000 in
set_option maxRecDepth 100000 in
theorem lp_X8_make (C : e_CX8_make V l) (Rt : e_RX8_make V (s_P A post)) {n : Nat} {v : Int64} : ∀ k (bs : List Int32), k ≤ 8 → bs.length + k ≤ 4000 → post none (mS T (bs ++ nb v k)) → V 0 0 5 [(0, .ref (ad A 30 0)), (1, .long v), (3, .int (nI n)), (4, .int (nI k - 1))] [] (gS A (mS T bs)) := by
  intro k
  induction k with
  | zero =>
    intro bs h8 hb hp
    refine srnX8_make C Rt [5] 40 ?_
    simp only [k_i, s_go, s_1, e_op, e_pi, e_pl, e_pr, e_p0, e_li, e_ll, e_lr, e_lk, e_ins, e_rm, e_to, e_sw, e_cmp, k_c, k_n, k_f, k_v, k_lg, ↓reduceIte, reduceCtorEq, Nat.reduceAdd, Nat.reduceSub, Nat.reduceMul, Nat.reduceEqDiff, Nat.reduceLT, Nat.reduceLeDiff, Int.reduceAdd, Int.reduceSub, Int.reduceNeg, Int.reduceLE, Int.reduceLT, Int.reduceToNat, Int.reduceEq, Int.cast_ofNat_Int, List.mem_cons, List.not_mem_nil, List.length_cons, List.length_nil, List.set_cons_zero, List.set_cons_succ, List.toList_toArray, eq_self, true_and, and_true, and_self, or_true, true_or, false_or, or_false, or_self, not_true_eq_false, not_false_eq_true, Classical.not_not, true_implies, false_implies, implies_true, forall_const, and_false, false_and, Nat.le_refl, Nat.zero_le, Bool.false_eq_true, lv_args, s_rl_at, s_gf, s_pf, dn_q, kd_q, cl_q, nf_q, ln_q, tg_q, rr_q, cr_q, u_1, e_lsw, k_ti, List.drop_succ_cons, List.drop_zero, List.drop_nil, List.zip_cons_cons, List.zip_nil_right, List.zip_nil_left, List.all_cons, List.all_nil, Bool.and_true, Bool.and_self, decide_true, decide_false, Option.toList, List.cons_append, List.nil_append, List.append_nil, DX8_make_0, FLX8, LDX8, (show nI 0 - 1 < 0 by decide)]
    simpa [nb] using hp
  | succ k ih =>
    intro bs h8 hb hp
    refine srnX8_make C Rt [5] 40 ?_
    simp only [k_i, s_go, s_1, e_op, e_pi, e_pl, e_pr, e_p0, e_li, e_ll, e_lr, e_lk, e_ins, e_rm, e_to, e_sw, e_cmp, k_c, k_n, k_f, k_v, k_lg, ↓reduceIte, reduceCtorEq, Nat.reduceAdd, Nat.reduceSub, Nat.reduceMul, Nat.reduceEqDiff, Nat.reduceLT, Nat.reduceLeDiff, Int.reduceAdd, Int.reduceSub, Int.reduceNeg, Int.reduceLE, Int.reduceLT, Int.reduceToNat, Int.reduceEq, Int.cast_ofNat_Int, List.mem_cons, List.not_mem_nil, List.length_cons, List.length_nil, List.set_cons_zero, List.set_cons_succ, List.toList_toArray, eq_self, true_and, and_true, and_self, or_true, true_or, false_or, or_false, or_self, not_true_eq_false, not_false_eq_true, Classical.not_not, true_implies, false_implies, implies_true, forall_const, and_false, false_and, Nat.le_refl, Nat.zero_le, Bool.false_eq_true, lv_args, s_rl_at, s_gf, s_pf, dn_q, kd_q, cl_q, nf_q, ln_q, tg_q, rr_q, cr_q, u_1, e_lsw, k_ti, List.drop_succ_cons, List.drop_zero, List.drop_nil, List.zip_cons_cons, List.zip_nil_right, List.zip_nil_left, List.all_cons, List.all_nil, Bool.and_true, Bool.and_self, decide_true, decide_false, Option.toList, List.cons_append, List.nil_append, List.append_nil, DX8_make_0, FLX8, LDX8, nI_pred, (show ¬ nI k < 0 from nI_pos (by omega)), (show (8 : Int32) = nI 8 from rfl), pk_mul, mS_1, mS_2, x_cl (a := bs.length) (by omega), x_in (a := bs.length) (n := 4000) (by omega), m1_eq, nI_1]
    refine ⟨by omega, ?_⟩
    rw [mS_s]
    refine ih _ (by omega) (by simp; omega) ?_
    simpa [nb, List.append_assoc] using hp
end
set_option maxHeartbeats 4000000 in
set_option maxRecDepth 100000 in
theorem m_X8_make (l : Launch) (A : pA) (T : pS) {n : Nat} {bs : List Int32} (hn : n ≤ 8) (hb : bs.length + n ≤ 4000) (v : Int64) : e_MX8_make l [.ref (ad A 30 0), .long v, .int (nI n)] (gS A (mS T bs)) (s_P A (fun w S2 => S2 = mS T (bs ++ nb v n) ∧ w = none)) := by
  refine ofX8_make (Nat.le_of_ble_eq_true rfl) ?_
  intro V C Rt
  refine srnX8_make C Rt [5] 5 ?_
  simp only [k_i, s_go, s_1, e_op, e_pi, e_pl, e_pr, e_p0, e_li, e_ll, e_lr, e_lk, e_ins, e_rm, e_to, e_sw, e_cmp, k_c, k_n, k_f, k_v, k_lg, ↓reduceIte, reduceCtorEq, Nat.reduceAdd, Nat.reduceSub, Nat.reduceMul, Nat.reduceEqDiff, Nat.reduceLT, Nat.reduceLeDiff, Int.reduceAdd, Int.reduceSub, Int.reduceNeg, Int.reduceLE, Int.reduceLT, Int.reduceToNat, Int.reduceEq, Int.cast_ofNat_Int, List.mem_cons, List.not_mem_nil, List.length_cons, List.length_nil, List.set_cons_zero, List.set_cons_succ, List.toList_toArray, eq_self, true_and, and_true, and_self, or_true, true_or, false_or, or_false, or_self, not_true_eq_false, not_false_eq_true, Classical.not_not, true_implies, false_implies, implies_true, forall_const, and_false, false_and, Nat.le_refl, Nat.zero_le, Bool.false_eq_true, lv_args, s_rl_at, s_gf, s_pf, dn_q, kd_q, cl_q, nf_q, ln_q, tg_q, rr_q, cr_q, u_1, e_lsw, k_ti, List.drop_succ_cons, List.drop_zero, List.drop_nil, List.zip_cons_cons, List.zip_nil_right, List.zip_nil_left, List.all_cons, List.all_nil, Bool.and_true, Bool.and_self, decide_true, decide_false, Option.toList, List.cons_append, List.nil_append, List.append_nil, DX8_make_0, FLX8, LDX8]
  exact lp_X8_make C Rt n bs hn hb ⟨rfl, rfl⟩
theorem nb_1 : ∀ a : Nat, a < 256 → nb (nI a).toInt64 1 = [nI a] := by decide +kernel
/-- a byte -/
theorem nb_b {x : Int32} {a : Nat} (ha : a < 256) (hx : x = nI a) : nb x.toInt64 1 = [x] := by rw [hx, nb_1 a ha]
theorem m_X8_make1 (l : Launch) (A : pA) (T : pS) {bs : List Int32} (hb : bs.length + 1 ≤ 4000) {x : Int32} {a : Nat} (ha : a < 256) (hx : x = nI a) : e_MX8_make l [.ref (ad A 30 0), .long x.toInt64, .int 1] (gS A (mS T bs)) (s_P A (fun w S2 => S2 = mS T (bs ++ [x]) ∧ w = none)) := by
  have h := m_X8_make l A T (n := 1) (by decide) hb x.toInt64
  rw [nb_b ha hx] at h
  exact h
section
variable {V : pV} {l : Launch} {A : pA} {post : Option Value → pS → Prop} {T S : pS}
set_option maxHeartbeats 4000000 in
set_option maxRecDepth 100000 in
theorem lp_X8_makeRow2 (C : e_CX8_makeRow V l) (Rt : e_RX8_makeRow V (s_P A post)) {f m : Nat} {bs : List Int32} {nm : Nat → Nat} (hf : f < 60) (hm : m ≤ 60) (hw : wfF S f m) (hF : rF T S f) (hnm : ∀ k, k < fcC S f → T.1 62 0 (onC S f k) = nI (nm k) ∧ nm k < 256) (hb : bs.length + 3 ≤ 4000) (hp : post none (mS T (bs ++ onB (fun k => nI (nm k)) (fcC S f)))) : ∀ z k, k + z = fcC S f → V 0 0 110 [(0, .ref (ad A 30 0)), (1, .int (nI f)), (2, .int (nI k))] [] (gS A (mS T (bs ++ onB (fun k => nI (nm k)) k))) := by
  obtain ⟨w1, w2, w3, w4, w5, w6⟩ := hw
  obtain ⟨f1, f2, f3, f4, f5, f6, f7, f8⟩ := hF
  rw [w3] at f5
  intro z
  induction z with
  | zero =>
    intro k hk
    have hk2 : k = fcC S f := by omega
    rw [hk2]
    refine srnX8_makeRow C Rt [110] 40 ?_
    simp only [k_i, s_go, s_1, e_op, e_pi, e_pl, e_pr, e_p0, e_li, e_ll, e_lr, e_lk, e_ins, e_rm, e_to, e_sw, e_cmp, k_c, k_n, k_f, k_v, k_lg, ↓reduceIte, reduceCtorEq, Nat.reduceAdd, Nat.reduceSub, Nat.reduceMul, Nat.reduceEqDiff, Nat.reduceLT, Nat.reduceLeDiff, Int.reduceAdd, Int.reduceSub, Int.reduceNeg, Int.reduceLE, Int.reduceLT, Int.reduceToNat, Int.reduceEq, Int.cast_ofNat_Int, List.mem_cons, List.not_mem_nil, List.length_cons, List.length_nil, List.set_cons_zero, List.set_cons_succ, List.toList_toArray, eq_self, true_and, and_true, and_self, or_true, true_or, false_or, or_false, or_self, not_true_eq_false, not_false_eq_true, Classical.not_not, true_implies, false_implies, implies_true, forall_const, and_false, false_and, Nat.le_refl, Nat.zero_le, Bool.false_eq_true, lv_args, s_rl_at, s_gf, s_pf, dn_q, kd_q, cl_q, nf_q, ln_q, tg_q, rr_q, cr_q, u_1, e_lsw, k_ti, List.drop_succ_cons, List.drop_zero, List.drop_nil, List.zip_cons_cons, List.zip_nil_right, List.zip_nil_left, List.all_cons, List.all_nil, Bool.and_true, Bool.and_self, decide_true, decide_false, Option.toList, List.cons_append, List.nil_append, List.append_nil, DX8_makeRow_0, DX8_makeRow_1, DX8_makeRow_2, FLX8, LDX8, mS_1, mS_2, f5, x_cl (a := f) (by omega), x_in (a := f) (n := 60) (by omega), x_le (a := fcC S f) (b := fcC S f) (by omega) (by omega)]
    exact ⟨hf, hp⟩
  | succ z ih =>
    intro k hk
    obtain ⟨w7, w8⟩ := w6 k (by omega)
    have g1 := f6 k (by omega)
    rw [w7] at g1
    obtain ⟨g2, g3⟩ := hnm k (by omega)
    refine srnX8_makeRow C Rt [110] 40 ?_
    simp only [k_i, s_go, s_1, e_op, e_pi, e_pl, e_pr, e_p0, e_li, e_ll, e_lr, e_lk, e_ins, e_rm, e_to, e_sw, e_cmp, k_c, k_n, k_f, k_v, k_lg, ↓reduceIte, reduceCtorEq, Nat.reduceAdd, Nat.reduceSub, Nat.reduceMul, Nat.reduceEqDiff, Nat.reduceLT, Nat.reduceLeDiff, Int.reduceAdd, Int.reduceSub, Int.reduceNeg, Int.reduceLE, Int.reduceLT, Int.reduceToNat, Int.reduceEq, Int.cast_ofNat_Int, List.mem_cons, List.not_mem_nil, List.length_cons, List.length_nil, List.set_cons_zero, List.set_cons_succ, List.toList_toArray, eq_self, true_and, and_true, and_self, or_true, true_or, false_or, or_false, or_self, not_true_eq_false, not_false_eq_true, Classical.not_not, true_implies, false_implies, implies_true, forall_const, and_false, false_and, Nat.le_refl, Nat.zero_le, Bool.false_eq_true, lv_args, s_rl_at, s_gf, s_pf, dn_q, kd_q, cl_q, nf_q, ln_q, tg_q, rr_q, cr_q, u_1, e_lsw, k_ti, List.drop_succ_cons, List.drop_zero, List.drop_nil, List.zip_cons_cons, List.zip_nil_right, List.zip_nil_left, List.all_cons, List.all_nil, Bool.and_true, Bool.and_self, decide_true, decide_false, Option.toList, List.cons_append, List.nil_append, List.append_nil, DX8_makeRow_0, DX8_makeRow_1, DX8_makeRow_2, FLX8, LDX8, mS_1, mS_2, f5, x_cl (a := f) (by omega), x_in (a := f) (n := 60) (by omega), x_le (a := fcC S f) (b := k) (by omega) (by omega), (show (3 : Int32) = nI 3 from rfl), pk_mul, nI_add, x_cl (a := 3 * f + k) (by omega), x_in (a := 3 * f + k) (n := 180) (by omega), g1, x_cl (a := onC S f k) (by omega), x_in (a := onC S f k) (n := 60) (by omega), g2]
    refine ⟨hf, fun h => by omega, fun _ => ⟨by omega, by omega, ?_⟩⟩
    refine sX8_makeRow_138 C (m_X8_make1 l A T (by simp [onB_len]; omega) g3 rfl) (s_obj (show 0 < 1 by decide) rfl) (hcat := Nat.le_of_ble_eq_true rfl) (k := ?_)
    rintro v2 G2 ⟨S2, rfl, rfl, rfl⟩
    refine srnX8_makeRow C Rt [110] 40 ?_
    simp only [k_i, s_go, s_1, e_op, e_pi, e_pl, e_pr, e_p0, e_li, e_ll, e_lr, e_lk, e_ins, e_rm, e_to, e_sw, e_cmp, k_c, k_n, k_f, k_v, k_lg, ↓reduceIte, reduceCtorEq, Nat.reduceAdd, Nat.reduceSub, Nat.reduceMul, Nat.reduceEqDiff, Nat.reduceLT, Nat.reduceLeDiff, Int.reduceAdd, Int.reduceSub, Int.reduceNeg, Int.reduceLE, Int.reduceLT, Int.reduceToNat, Int.reduceEq, Int.cast_ofNat_Int, List.mem_cons, List.not_mem_nil, List.length_cons, List.length_nil, List.set_cons_zero, List.set_cons_succ, List.toList_toArray, eq_self, true_and, and_true, and_self, or_true, true_or, false_or, or_false, or_self, not_true_eq_false, not_false_eq_true, Classical.not_not, true_implies, false_implies, implies_true, forall_const, and_false, false_and, Nat.le_refl, Nat.zero_le, Bool.false_eq_true, lv_args, s_rl_at, s_gf, s_pf, dn_q, kd_q, cl_q, nf_q, ln_q, tg_q, rr_q, cr_q, u_1, e_lsw, k_ti, List.drop_succ_cons, List.drop_zero, List.drop_nil, List.zip_cons_cons, List.zip_nil_right, List.zip_nil_left, List.all_cons, List.all_nil, Bool.and_true, Bool.and_self, decide_true, decide_false, Option.toList, List.cons_append, List.nil_append, List.append_nil, DX8_makeRow_0, DX8_makeRow_1, DX8_makeRow_2, FLX8, LDX8, nI_1]
    have h9 := ih (k + 1) (by omega)
    simp only [onB] at h9
    rw [List.append_assoc]
    exact h9
set_option maxHeartbeats 4000000 in
set_option maxRecDepth 100000 in
theorem lp_X8_makeRow1 (C : e_CX8_makeRow V l) (Rt : e_RX8_makeRow V (s_P A post)) {f m : Nat} {bs : List Int32} {nm : Nat → Nat} (hf : f < 60) (hm : m ≤ 60) (hw : wfF S f m) (hF : rF T S f) (hnm : ∀ k, k < fcC S f → T.1 62 0 (onC S f k) = nI (nm k) ∧ nm k < 256) (hb : bs.length + 40 ≤ 4000) (hp : post none (mS T (bs ++ thB (S.1 7 f) (S.1 8 f) (S.1 9 f) (tcC S f) ++ [nI (fcC S f)] ++ onB (fun k => nI (nm k)) (fcC S f)))) : ∀ z k, k + z = tcC S f → V 0 0 40 [(0, .ref (ad A 30 0)), (1, .int (nI f)), (2, .int (nI (4 * f + k)))] [] (gS A (mS T (bs ++ thB (S.1 7 f) (S.1 8 f) (S.1 9 f) k))) := by
  have hw0 := hw
  have hF0 := hF
  obtain ⟨w1, w2, w3, w4, w5, w6⟩ := hw
  obtain ⟨f1, f2, f3, f4, f5, f6, f7, f8⟩ := hF
  rw [w1] at f3
  rw [w3] at f5
  have e4 : (4 : Int32) = nI 4 := rfl
  intro z
  induction z with
  | zero =>
    intro k hk
    have hk2 : k = tcC S f := by omega
    rw [hk2]
    refine srnX8_makeRow C Rt [40, 110] 40 ?_
    simp only [k_i, s_go, s_1, e_op, e_pi, e_pl, e_pr, e_p0, e_li, e_ll, e_lr, e_lk, e_ins, e_rm, e_to, e_sw, e_cmp, k_c, k_n, k_f, k_v, k_lg, ↓reduceIte, reduceCtorEq, Nat.reduceAdd, Nat.reduceSub, Nat.reduceMul, Nat.reduceEqDiff, Nat.reduceLT, Nat.reduceLeDiff, Int.reduceAdd, Int.reduceSub, Int.reduceNeg, Int.reduceLE, Int.reduceLT, Int.reduceToNat, Int.reduceEq, Int.cast_ofNat_Int, List.mem_cons, List.not_mem_nil, List.length_cons, List.length_nil, List.set_cons_zero, List.set_cons_succ, List.toList_toArray, eq_self, true_and, and_true, and_self, or_true, true_or, false_or, or_false, or_self, not_true_eq_false, not_false_eq_true, Classical.not_not, true_implies, false_implies, implies_true, forall_const, and_false, false_and, Nat.le_refl, Nat.zero_le, Bool.false_eq_true, lv_args, s_rl_at, s_gf, s_pf, dn_q, kd_q, cl_q, nf_q, ln_q, tg_q, rr_q, cr_q, u_1, e_lsw, k_ti, List.drop_succ_cons, List.drop_zero, List.drop_nil, List.zip_cons_cons, List.zip_nil_right, List.zip_nil_left, List.all_cons, List.all_nil, Bool.and_true, Bool.and_self, decide_true, decide_false, Option.toList, List.cons_append, List.nil_append, List.append_nil, DX8_makeRow_0, DX8_makeRow_1, DX8_makeRow_2, FLX8, LDX8, mS_1, mS_2, e4, pk_mul, nI_add, f3, f5, x_cl (a := f) (by omega), x_in (a := f) (n := 60) (by omega), x_le (a := 4 * f + tcC S f) (b := 4 * f + tcC S f) (by omega) (by omega)]
    refine ⟨hf, hf, ?_⟩
    refine sX8_makeRow_105 C (m_X8_make1 l A T (by simp [thB_len]; omega) (show fcC S f < 256 by omega) rfl) (s_obj (show 0 < 1 by decide) rfl) (hcat := Nat.le_of_ble_eq_true rfl) (k := ?_)
    rintro v2 G2 ⟨S2, rfl, rfl, rfl⟩
    refine srnX8_makeRow C Rt [110] 40 ?_
    simp only [k_i, s_go, s_1, e_op, e_pi, e_pl, e_pr, e_p0, e_li, e_ll, e_lr, e_lk, e_ins, e_rm, e_to, e_sw, e_cmp, k_c, k_n, k_f, k_v, k_lg, ↓reduceIte, reduceCtorEq, Nat.reduceAdd, Nat.reduceSub, Nat.reduceMul, Nat.reduceEqDiff, Nat.reduceLT, Nat.reduceLeDiff, Int.reduceAdd, Int.reduceSub, Int.reduceNeg, Int.reduceLE, Int.reduceLT, Int.reduceToNat, Int.reduceEq, Int.cast_ofNat_Int, List.mem_cons, List.not_mem_nil, List.length_cons, List.length_nil, List.set_cons_zero, List.set_cons_succ, List.toList_toArray, eq_self, true_and, and_true, and_self, or_true, true_or, false_or, or_false, or_self, not_true_eq_false, not_false_eq_true, Classical.not_not, true_implies, false_implies, implies_true, forall_const, and_false, false_and, Nat.le_refl, Nat.zero_le, Bool.false_eq_true, lv_args, s_rl_at, s_gf, s_pf, dn_q, kd_q, cl_q, nf_q, ln_q, tg_q, rr_q, cr_q, u_1, e_lsw, k_ti, List.drop_succ_cons, List.drop_zero, List.drop_nil, List.zip_cons_cons, List.zip_nil_right, List.zip_nil_left, List.all_cons, List.all_nil, Bool.and_true, Bool.and_self, decide_true, decide_false, Option.toList, List.cons_append, List.nil_append, List.append_nil, DX8_makeRow_0, DX8_makeRow_1, DX8_makeRow_2, FLX8, LDX8]
    have h9 := lp_X8_makeRow2 (T := T) (S := S) (bs := bs ++ thB (S.1 7 f) (S.1 8 f) (S.1 9 f) (tcC S f) ++ [nI (fcC S f)]) C Rt hf hm hw0 hF0 hnm (by simp [thB_len]; omega) hp (fcC S f) 0 (by omega)
    simpa [onB, nI_0] using h9
  | succ z ih =>
    intro k hk
    obtain ⟨w7, w8⟩ := w5 k (by omega)
    obtain ⟨g1, g2, g3⟩ := f4 k (by omega)
    refine srnX8_makeRow C Rt [40, 110] 40 ?_
    simp only [k_i, s_go, s_1, e_op, e_pi, e_pl, e_pr, e_p0, e_li, e_ll, e_lr, e_lk, e_ins, e_rm, e_to, e_sw, e_cmp, k_c, k_n, k_f, k_v, k_lg, ↓reduceIte, reduceCtorEq, Nat.reduceAdd, Nat.reduceSub, Nat.reduceMul, Nat.reduceEqDiff, Nat.reduceLT, Nat.reduceLeDiff, Int.reduceAdd, Int.reduceSub, Int.reduceNeg, Int.reduceLE, Int.reduceLT, Int.reduceToNat, Int.reduceEq, Int.cast_ofNat_Int, List.mem_cons, List.not_mem_nil, List.length_cons, List.length_nil, List.set_cons_zero, List.set_cons_succ, List.toList_toArray, eq_self, true_and, and_true, and_self, or_true, true_or, false_or, or_false, or_self, not_true_eq_false, not_false_eq_true, Classical.not_not, true_implies, false_implies, implies_true, forall_const, and_false, false_and, Nat.le_refl, Nat.zero_le, Bool.false_eq_true, lv_args, s_rl_at, s_gf, s_pf, dn_q, kd_q, cl_q, nf_q, ln_q, tg_q, rr_q, cr_q, u_1, e_lsw, k_ti, List.drop_succ_cons, List.drop_zero, List.drop_nil, List.zip_cons_cons, List.zip_nil_right, List.zip_nil_left, List.all_cons, List.all_nil, Bool.and_true, Bool.and_self, decide_true, decide_false, Option.toList, List.cons_append, List.nil_append, List.append_nil, DX8_makeRow_0, DX8_makeRow_1, DX8_makeRow_2, FLX8, LDX8, mS_1, mS_2, e4, pk_mul, nI_add, f3, x_cl (a := f) (by omega), x_in (a := f) (n := 60) (by omega), x_le (a := 4 * f + tcC S f) (b := 4 * f + k) (by omega) (by omega), x_cl (a := 4 * f + k) (by omega), x_in (a := 4 * f + k) (n := 240) (by omega), g1]
    refine ⟨hf, fun h => by omega, fun _ => ⟨by omega, ?_⟩⟩
    refine sX8_makeRow_63 C (m_X8_make1 l A T (by simp [thB_len]; omega) (show thC S f k < 256 by omega) w7) (s_obj (show 0 < 1 by decide) rfl) (hcat := Nat.le_of_ble_eq_true rfl) (k := ?_)
    rintro v2 G2 ⟨S2, rfl, rfl, rfl⟩
    refine srnX8_makeRow C Rt [40, 110] 40 ?_
    simp only [k_i, s_go, s_1, e_op, e_pi, e_pl, e_pr, e_p0, e_li, e_ll, e_lr, e_lk, e_ins, e_rm, e_to, e_sw, e_cmp, k_c, k_n, k_f, k_v, k_lg, ↓reduceIte, reduceCtorEq, Nat.reduceAdd, Nat.reduceSub, Nat.reduceMul, Nat.reduceEqDiff, Nat.reduceLT, Nat.reduceLeDiff, Int.reduceAdd, Int.reduceSub, Int.reduceNeg, Int.reduceLE, Int.reduceLT, Int.reduceToNat, Int.reduceEq, Int.cast_ofNat_Int, List.mem_cons, List.not_mem_nil, List.length_cons, List.length_nil, List.set_cons_zero, List.set_cons_succ, List.toList_toArray, eq_self, true_and, and_true, and_self, or_true, true_or, false_or, or_false, or_self, not_true_eq_false, not_false_eq_true, Classical.not_not, true_implies, false_implies, implies_true, forall_const, and_false, false_and, Nat.le_refl, Nat.zero_le, Bool.false_eq_true, lv_args, s_rl_at, s_gf, s_pf, dn_q, kd_q, cl_q, nf_q, ln_q, tg_q, rr_q, cr_q, u_1, e_lsw, k_ti, List.drop_succ_cons, List.drop_zero, List.drop_nil, List.zip_cons_cons, List.zip_nil_right, List.zip_nil_left, List.all_cons, List.all_nil, Bool.and_true, Bool.and_self, decide_true, decide_false, Option.toList, List.cons_append, List.nil_append, List.append_nil, DX8_makeRow_0, DX8_makeRow_1, DX8_makeRow_2, FLX8, LDX8, mS_1, mS_2, e4, x_cl (a := 4 * f + k) (by omega), x_in (a := 4 * f + k) (n := 240) (by omega), g2]
    refine ⟨by omega, ?_⟩
    refine sX8_makeRow_75 C (m_X8_make l A T (n := 4) (by decide) (by simp [thB_len]; omega) _) (s_obj (show 0 < 1 by decide) rfl) (hcat := Nat.le_of_ble_eq_true rfl) (k := ?_)
    rintro v2 G2 ⟨S2, rfl, rfl, rfl⟩
    refine srnX8_makeRow C Rt [40, 110] 40 ?_
    simp only [k_i, s_go, s_1, e_op, e_pi, e_pl, e_pr, e_p0, e_li, e_ll, e_lr, e_lk, e_ins, e_rm, e_to, e_sw, e_cmp, k_c, k_n, k_f, k_v, k_lg, ↓reduceIte, reduceCtorEq, Nat.reduceAdd, Nat.reduceSub, Nat.reduceMul, Nat.reduceEqDiff, Nat.reduceLT, Nat.reduceLeDiff, Int.reduceAdd, Int.reduceSub, Int.reduceNeg, Int.reduceLE, Int.reduceLT, Int.reduceToNat, Int.reduceEq, Int.cast_ofNat_Int, List.mem_cons, List.not_mem_nil, List.length_cons, List.length_nil, List.set_cons_zero, List.set_cons_succ, List.toList_toArray, eq_self, true_and, and_true, and_self, or_true, true_or, false_or, or_false, or_self, not_true_eq_false, not_false_eq_true, Classical.not_not, true_implies, false_implies, implies_true, forall_const, and_false, false_and, Nat.le_refl, Nat.zero_le, Bool.false_eq_true, lv_args, s_rl_at, s_gf, s_pf, dn_q, kd_q, cl_q, nf_q, ln_q, tg_q, rr_q, cr_q, u_1, e_lsw, k_ti, List.drop_succ_cons, List.drop_zero, List.drop_nil, List.zip_cons_cons, List.zip_nil_right, List.zip_nil_left, List.all_cons, List.all_nil, Bool.and_true, Bool.and_self, decide_true, decide_false, Option.toList, List.cons_append, List.nil_append, List.append_nil, DX8_makeRow_0, DX8_makeRow_1, DX8_makeRow_2, FLX8, LDX8, mS_1, mS_2, e4, x_cl (a := 4 * f + k) (by omega), x_in (a := 4 * f + k) (n := 240) (by omega), g3]
    refine ⟨by omega, ?_⟩
    refine sX8_makeRow_87 C (m_X8_make l A T (n := 4) (by decide) (by simp [thB_len, nb_len]; omega) _) (s_obj (show 0 < 1 by decide) rfl) (hcat := Nat.le_of_ble_eq_true rfl) (k := ?_)
    rintro v2 G2 ⟨S2, rfl, rfl, rfl⟩
    refine srnX8_makeRow C Rt [40, 110] 40 ?_
    simp only [k_i, s_go, s_1, e_op, e_pi, e_pl, e_pr, e_p0, e_li, e_ll, e_lr, e_lk, e_ins, e_rm, e_to, e_sw, e_cmp, k_c, k_n, k_f, k_v, k_lg, ↓reduceIte, reduceCtorEq, Nat.reduceAdd, Nat.reduceSub, Nat.reduceMul, Nat.reduceEqDiff, Nat.reduceLT, Nat.reduceLeDiff, Int.reduceAdd, Int.reduceSub, Int.reduceNeg, Int.reduceLE, Int.reduceLT, Int.reduceToNat, Int.reduceEq, Int.cast_ofNat_Int, List.mem_cons, List.not_mem_nil, List.length_cons, List.length_nil, List.set_cons_zero, List.set_cons_succ, List.toList_toArray, eq_self, true_and, and_true, and_self, or_true, true_or, false_or, or_false, or_self, not_true_eq_false, not_false_eq_true, Classical.not_not, true_implies, false_implies, implies_true, forall_const, and_false, false_and, Nat.le_refl, Nat.zero_le, Bool.false_eq_true, lv_args, s_rl_at, s_gf, s_pf, dn_q, kd_q, cl_q, nf_q, ln_q, tg_q, rr_q, cr_q, u_1, e_lsw, k_ti, List.drop_succ_cons, List.drop_zero, List.drop_nil, List.zip_cons_cons, List.zip_nil_right, List.zip_nil_left, List.all_cons, List.all_nil, Bool.and_true, Bool.and_self, decide_true, decide_false, Option.toList, List.cons_append, List.nil_append, List.append_nil, DX8_makeRow_0, DX8_makeRow_1, DX8_makeRow_2, FLX8, LDX8, nI_1]
    have h9 := ih (k + 1) (by omega)
    simpa [thB, Nat.add_assoc] using h9
end
set_option maxHeartbeats 4000000 in
set_option maxRecDepth 100000 in
theorem m_X8_makeRow (l : Launch) (A : pA) (T S : pS) {f m kd0 : Nat} {bs : List Int32} {nm : Nat → Nat} (hf : f < 60) (hm : m ≤ 60) (hw : wfF S f m) (hF : rF T S f) (hk : S.1 6 f 0 = nI kd0) (hk2 : kd0 < 4) (hnm : ∀ k, k < fcC S f → T.1 62 0 (onC S f k) = nI (nm k) ∧ nm k < 256) (hb : bs.length + 50 ≤ 4000) : e_MX8_makeRow l [.ref (ad A 30 0), .int (nI f)] (gS A (mS T bs)) (s_P A (fun w S2 => S2 = mS T (bs ++ rwB (S.1 6 f 0) (S.2.1 6 f 1) (tcC S f) (S.1 7 f) (S.1 8 f) (S.1 9 f) (fcC S f) (fun k => nI (nm k))) ∧ w = none)) := by
  have hw0 := hw
  have hF0 := hF
  obtain ⟨w1, w2, w3, w4, w5, w6⟩ := hw
  obtain ⟨f1, f2, f3, f4, f5, f6, f7, f8⟩ := hF
  rw [w1] at f3
  refine ofX8_makeRow (Nat.le_of_ble_eq_true rfl) ?_
  intro V C Rt
  refine srnX8_makeRow C Rt [40, 110] 40 ?_
  simp only [k_i, s_go, s_1, e_op, e_pi, e_pl, e_pr, e_p0, e_li, e_ll, e_lr, e_lk, e_ins, e_rm, e_to, e_sw, e_cmp, k_c, k_n, k_f, k_v, k_lg, ↓reduceIte, reduceCtorEq, Nat.reduceAdd, Nat.reduceSub, Nat.reduceMul, Nat.reduceEqDiff, Nat.reduceLT, Nat.reduceLeDiff, Int.reduceAdd, Int.reduceSub, Int.reduceNeg, Int.reduceLE, Int.reduceLT, Int.reduceToNat, Int.reduceEq, Int.cast_ofNat_Int, List.mem_cons, List.not_mem_nil, List.length_cons, List.length_nil, List.set_cons_zero, List.set_cons_succ, List.toList_toArray, eq_self, true_and, and_true, and_self, or_true, true_or, false_or, or_false, or_self, not_true_eq_false, not_false_eq_true, Classical.not_not, true_implies, false_implies, implies_true, forall_const, and_false, false_and, Nat.le_refl, Nat.zero_le, Bool.false_eq_true, lv_args, s_rl_at, s_gf, s_pf, dn_q, kd_q, cl_q, nf_q, ln_q, tg_q, rr_q, cr_q, u_1, e_lsw, k_ti, List.drop_succ_cons, List.drop_zero, List.drop_nil, List.zip_cons_cons, List.zip_nil_right, List.zip_nil_left, List.all_cons, List.all_nil, Bool.and_true, Bool.and_self, decide_true, decide_false, Option.toList, List.cons_append, List.nil_append, List.append_nil, DX8_makeRow_0, DX8_makeRow_1, DX8_makeRow_2, FLX8, LDX8, mS_1, mS_2, x_cl (a := f) (by omega), x_in (a := f) (n := 60) (by omega), f1]
  refine ⟨hf, ?_⟩
  refine sX8_makeRow_9 C (m_X8_make1 l A T (by omega) (show kd0 < 256 by omega) hk) (s_obj (show 0 < 1 by decide) rfl) (hcat := Nat.le_of_ble_eq_true rfl) (k := ?_)
  rintro v2 G2 ⟨S2, rfl, rfl, rfl⟩
  refine srnX8_makeRow C Rt [40, 110] 40 ?_
  simp only [k_i, s_go, s_1, e_op, e_pi, e_pl, e_pr, e_p0, e_li, e_ll, e_lr, e_lk, e_ins, e_rm, e_to, e_sw, e_cmp, k_c, k_n, k_f, k_v, k_lg, ↓reduceIte, reduceCtorEq, Nat.reduceAdd, Nat.reduceSub, Nat.reduceMul, Nat.reduceEqDiff, Nat.reduceLT, Nat.reduceLeDiff, Int.reduceAdd, Int.reduceSub, Int.reduceNeg, Int.reduceLE, Int.reduceLT, Int.reduceToNat, Int.reduceEq, Int.cast_ofNat_Int, List.mem_cons, List.not_mem_nil, List.length_cons, List.length_nil, List.set_cons_zero, List.set_cons_succ, List.toList_toArray, eq_self, true_and, and_true, and_self, or_true, true_or, false_or, or_false, or_self, not_true_eq_false, not_false_eq_true, Classical.not_not, true_implies, false_implies, implies_true, forall_const, and_false, false_and, Nat.le_refl, Nat.zero_le, Bool.false_eq_true, lv_args, s_rl_at, s_gf, s_pf, dn_q, kd_q, cl_q, nf_q, ln_q, tg_q, rr_q, cr_q, u_1, e_lsw, k_ti, List.drop_succ_cons, List.drop_zero, List.drop_nil, List.zip_cons_cons, List.zip_nil_right, List.zip_nil_left, List.all_cons, List.all_nil, Bool.and_true, Bool.and_self, decide_true, decide_false, Option.toList, List.cons_append, List.nil_append, List.append_nil, DX8_makeRow_0, DX8_makeRow_1, DX8_makeRow_2, FLX8, LDX8, mS_1, mS_2, x_cl (a := f) (by omega), x_in (a := f) (n := 60) (by omega), f2, (show (8 : Int32) = nI 8 from rfl)]
  refine ⟨hf, ?_⟩
  refine sX8_makeRow_21 C (m_X8_make l A T (n := 8) (by decide) (by simp; omega) _) (s_obj (show 0 < 1 by decide) rfl) (hcat := Nat.le_of_ble_eq_true rfl) (k := ?_)
  rintro v2 G2 ⟨S2, rfl, rfl, rfl⟩
  refine srnX8_makeRow C Rt [40, 110] 40 ?_
  simp only [k_i, s_go, s_1, e_op, e_pi, e_pl, e_pr, e_p0, e_li, e_ll, e_lr, e_lk, e_ins, e_rm, e_to, e_sw, e_cmp, k_c, k_n, k_f, k_v, k_lg, ↓reduceIte, reduceCtorEq, Nat.reduceAdd, Nat.reduceSub, Nat.reduceMul, Nat.reduceEqDiff, Nat.reduceLT, Nat.reduceLeDiff, Int.reduceAdd, Int.reduceSub, Int.reduceNeg, Int.reduceLE, Int.reduceLT, Int.reduceToNat, Int.reduceEq, Int.cast_ofNat_Int, List.mem_cons, List.not_mem_nil, List.length_cons, List.length_nil, List.set_cons_zero, List.set_cons_succ, List.toList_toArray, eq_self, true_and, and_true, and_self, or_true, true_or, false_or, or_false, or_self, not_true_eq_false, not_false_eq_true, Classical.not_not, true_implies, false_implies, implies_true, forall_const, and_false, false_and, Nat.le_refl, Nat.zero_le, Bool.false_eq_true, lv_args, s_rl_at, s_gf, s_pf, dn_q, kd_q, cl_q, nf_q, ln_q, tg_q, rr_q, cr_q, u_1, e_lsw, k_ti, List.drop_succ_cons, List.drop_zero, List.drop_nil, List.zip_cons_cons, List.zip_nil_right, List.zip_nil_left, List.all_cons, List.all_nil, Bool.and_true, Bool.and_self, decide_true, decide_false, Option.toList, List.cons_append, List.nil_append, List.append_nil, DX8_makeRow_0, DX8_makeRow_1, DX8_makeRow_2, FLX8, LDX8, mS_1, mS_2, x_cl (a := f) (by omega), x_in (a := f) (n := 60) (by omega), f3]
  refine ⟨hf, ?_⟩
  refine sX8_makeRow_33 C (m_X8_make1 l A T (by simp [nb_len]; omega) (show tcC S f < 256 by omega) rfl) (s_obj (show 0 < 1 by decide) rfl) (hcat := Nat.le_of_ble_eq_true rfl) (k := ?_)
  rintro v2 G2 ⟨S2, rfl, rfl, rfl⟩
  refine srnX8_makeRow C Rt [40, 110] 40 ?_
  simp only [k_i, s_go, s_1, e_op, e_pi, e_pl, e_pr, e_p0, e_li, e_ll, e_lr, e_lk, e_ins, e_rm, e_to, e_sw, e_cmp, k_c, k_n, k_f, k_v, k_lg, ↓reduceIte, reduceCtorEq, Nat.reduceAdd, Nat.reduceSub, Nat.reduceMul, Nat.reduceEqDiff, Nat.reduceLT, Nat.reduceLeDiff, Int.reduceAdd, Int.reduceSub, Int.reduceNeg, Int.reduceLE, Int.reduceLT, Int.reduceToNat, Int.reduceEq, Int.cast_ofNat_Int, List.mem_cons, List.not_mem_nil, List.length_cons, List.length_nil, List.set_cons_zero, List.set_cons_succ, List.toList_toArray, eq_self, true_and, and_true, and_self, or_true, true_or, false_or, or_false, or_self, not_true_eq_false, not_false_eq_true, Classical.not_not, true_implies, false_implies, implies_true, forall_const, and_false, false_and, Nat.le_refl, Nat.zero_le, Bool.false_eq_true, lv_args, s_rl_at, s_gf, s_pf, dn_q, kd_q, cl_q, nf_q, ln_q, tg_q, rr_q, cr_q, u_1, e_lsw, k_ti, List.drop_succ_cons, List.drop_zero, List.drop_nil, List.zip_cons_cons, List.zip_nil_right, List.zip_nil_left, List.all_cons, List.all_nil, Bool.and_true, Bool.and_self, decide_true, decide_false, Option.toList, List.cons_append, List.nil_append, List.append_nil, DX8_makeRow_0, DX8_makeRow_1, DX8_makeRow_2, FLX8, LDX8, (show (4 : Int32) = nI 4 from rfl), pk_mul]
  have h9 := lp_X8_makeRow1 (T := T) (S := S) (bs := bs ++ [S.1 6 f 0] ++ nb (S.2.1 6 f 1) 8 ++ [nI (tcC S f)]) C Rt hf hm hw0 hF0 hnm (by simp [nb_len]; omega) ⟨by simp [rwB, rwA], rfl⟩ (tcC S f) 0 (by omega)
  simpa [thB] using h9
