/-! leaves: the static helpers of FactLog -/
set_option maxHeartbeats 4000000 in
set_option maxRecDepth 100000 in
theorem m_oneIf (l : Launch) (G : pH) (x : Int32) : e_MX7_oneIf l [.int x] G (fun v G2 => G2 = G ∧ v = some (.int (if x = 0 then 0 else 1))) := by
  refine ofX7_oneIf (Nat.le_of_ble_eq_true rfl) ?_
  intro V C Rt
  refine runX7_oneIf C Rt [] 20 ?_
  simp only [e_go, e_1, e_op, e_pi, e_pl, e_pr, e_p0, e_li, e_ll, e_lr, e_lk, e_ins, e_rm, e_ob, e_ai, e_aj, e_aq, e_an, e_nth, e_to, e_sw, e_cmp, k_c, k_n, k_f, k_v, k_lg, ↓reduceIte, reduceCtorEq, Nat.reduceAdd, Nat.reduceSub, Nat.reduceMul, Nat.reduceEqDiff, Nat.reduceLT, Nat.reduceLeDiff, Int.reduceAdd, Int.reduceSub, Int.reduceNeg, Int.reduceLE, Int.reduceLT, Int.reduceToNat, Int.reduceEq, Int.cast_ofNat_Int, List.mem_cons, List.not_mem_nil, List.length_cons, List.length_nil, List.set_cons_zero, List.set_cons_succ, List.toList_toArray, eq_self, true_and, and_true, and_self, or_true, true_or, false_or, or_false, or_self, not_true_eq_false, not_false_eq_true, Classical.not_not, true_implies, false_implies, implies_true, forall_const, and_false, false_and, e_up_e, va_rf_s, va_rf_n, Nat.le_refl, Nat.zero_le, Bool.false_eq_true, lv_args, DX7_oneIf_0, FLX7, LDX7]
  refine ⟨fun h => ?_, fun h => ?_⟩
  · simp [h]
  · simp [h]
set_option maxHeartbeats 4000000 in
set_option maxRecDepth 100000 in
theorem m_lowestByte (l : Launch) (G : pH) (x : Int64) : e_MX7_lowestByte l [.long x] G (fun v G2 => G2 = G ∧ v = some (.int (x &&& 255).toInt32)) := by
  refine ofX7_lowestByte (Nat.le_of_ble_eq_true rfl) ?_
  intro V C Rt
  refine runX7_lowestByte C Rt [] 20 ?_
  simp only [e_go, e_1, e_op, e_pi, e_pl, e_pr, e_p0, e_li, e_ll, e_lr, e_lk, e_ins, e_rm, e_ob, e_ai, e_aj, e_aq, e_an, e_nth, e_to, e_sw, e_cmp, k_c, k_n, k_f, k_v, k_lg, ↓reduceIte, reduceCtorEq, Nat.reduceAdd, Nat.reduceSub, Nat.reduceMul, Nat.reduceEqDiff, Nat.reduceLT, Nat.reduceLeDiff, Int.reduceAdd, Int.reduceSub, Int.reduceNeg, Int.reduceLE, Int.reduceLT, Int.reduceToNat, Int.reduceEq, Int.cast_ofNat_Int, List.mem_cons, List.not_mem_nil, List.length_cons, List.length_nil, List.set_cons_zero, List.set_cons_succ, List.toList_toArray, eq_self, true_and, and_true, and_self, or_true, true_or, false_or, or_false, or_self, not_true_eq_false, not_false_eq_true, Classical.not_not, true_implies, false_implies, implies_true, forall_const, and_false, false_and, e_up_e, va_rf_s, va_rf_n, Nat.le_refl, Nat.zero_le, Bool.false_eq_true, lv_args, DX7_lowestByte_0, FLX7, LDX7]
set_option maxHeartbeats 4000000 in
set_option maxRecDepth 100000 in
theorem m_sumWith (l : Launch) (G : pH) (x : Int64) (b : Int32) : e_MX7_sumWith l [.long x, .int b] G (fun v G2 => G2 = G ∧ v = some (.long (sw x b))) := by
  refine ofX7_sumWith (Nat.le_of_ble_eq_true rfl) ?_
  intro V C Rt
  refine runX7_sumWith C Rt [] 30 ?_
  simp only [e_go, e_1, e_op, e_pi, e_pl, e_pr, e_p0, e_li, e_ll, e_lr, e_lk, e_ins, e_rm, e_ob, e_ai, e_aj, e_aq, e_an, e_nth, e_to, e_sw, e_cmp, k_c, k_n, k_f, k_v, k_lg, ↓reduceIte, reduceCtorEq, Nat.reduceAdd, Nat.reduceSub, Nat.reduceMul, Nat.reduceEqDiff, Nat.reduceLT, Nat.reduceLeDiff, Int.reduceAdd, Int.reduceSub, Int.reduceNeg, Int.reduceLE, Int.reduceLT, Int.reduceToNat, Int.reduceEq, Int.cast_ofNat_Int, List.mem_cons, List.not_mem_nil, List.length_cons, List.length_nil, List.set_cons_zero, List.set_cons_succ, List.toList_toArray, eq_self, true_and, and_true, and_self, or_true, true_or, false_or, or_false, or_self, not_true_eq_false, not_false_eq_true, Classical.not_not, true_implies, false_implies, implies_true, forall_const, and_false, false_and, e_up_e, va_rf_s, va_rf_n, Nat.le_refl, Nat.zero_le, Bool.false_eq_true, lv_args, DX7_sumWith_0, FLX7, LDX7]
  rfl
set_option maxHeartbeats 4000000 in
set_option maxRecDepth 100000 in
theorem m_isIn (l : Launch) (G : pH) (x : Int64) (n : Int32) : e_MX7_isIn l [.long x, .int n] G (fun v G2 => G2 = G ∧ v = some (.int (if (e_ushr x n &&& 1) = 0 then 0 else 1))) := by
  refine ofX7_isIn (Nat.le_of_ble_eq_true rfl) ?_
  intro V C Rt
  refine runX7_isIn C Rt [] 30 ?_
  simp only [e_go, e_1, e_op, e_pi, e_pl, e_pr, e_p0, e_li, e_ll, e_lr, e_lk, e_ins, e_rm, e_ob, e_ai, e_aj, e_aq, e_an, e_nth, e_to, e_sw, e_cmp, k_c, k_n, k_f, k_v, k_lg, ↓reduceIte, reduceCtorEq, Nat.reduceAdd, Nat.reduceSub, Nat.reduceMul, Nat.reduceEqDiff, Nat.reduceLT, Nat.reduceLeDiff, Int.reduceAdd, Int.reduceSub, Int.reduceNeg, Int.reduceLE, Int.reduceLT, Int.reduceToNat, Int.reduceEq, Int.cast_ofNat_Int, List.mem_cons, List.not_mem_nil, List.length_cons, List.length_nil, List.set_cons_zero, List.set_cons_succ, List.toList_toArray, eq_self, true_and, and_true, and_self, or_true, true_or, false_or, or_false, or_self, not_true_eq_false, not_false_eq_true, Classical.not_not, true_implies, false_implies, implies_true, forall_const, and_false, false_and, e_up_e, va_rf_s, va_rf_n, Nat.le_refl, Nat.zero_le, Bool.false_eq_true, lv_args, DX7_isIn_0, FLX7, LDX7]
  refine ⟨fun h => ?_, fun h => ?_⟩
  · simp [h]
  · simp [h]
section
variable {V : pV} {l : Launch} {post : Option Value → pH → Prop} {G : pH}
set_option maxHeartbeats 4000000 in
set_option maxRecDepth 100000 in
theorem lp_isAmong (C : e_CX7_isAmong V l) (Rt : e_RX7_isAmong V post) {a N cn : Nat} {f : Nat → Int32} {x : Int32} (hg : G a = some (.inl (0, N, .inl f))) (hc : cn ≤ N) (hN : N < 2147483648) (hp : post (some (.int (b2i (am f x cn)))) G) : ∀ k i, i + k = cn → am f x i = false → V 0 0 2 [(0, .int x), (1, .ref a), (2, .int (nI cn)), (3, .int (nI i))] [] G := by
  intro k
  induction k with
  | zero =>
    intro i hi ha
    have hi2 : i = cn := by omega
    subst hi2
    refine runX7_isAmong C Rt [2] 40 ?_
    simp only [e_go, e_1, e_op, e_pi, e_pl, e_pr, e_p0, e_li, e_ll, e_lr, e_lk, e_ins, e_rm, e_ob, e_ai, e_aj, e_aq, e_an, e_nth, e_to, e_sw, e_cmp, k_c, k_n, k_f, k_v, k_lg, ↓reduceIte, reduceCtorEq, Nat.reduceAdd, Nat.reduceSub, Nat.reduceMul, Nat.reduceEqDiff, Nat.reduceLT, Nat.reduceLeDiff, Int.reduceAdd, Int.reduceSub, Int.reduceNeg, Int.reduceLE, Int.reduceLT, Int.reduceToNat, Int.reduceEq, Int.cast_ofNat_Int, List.mem_cons, List.not_mem_nil, List.length_cons, List.length_nil, List.set_cons_zero, List.set_cons_succ, List.toList_toArray, eq_self, true_and, and_true, and_self, or_true, true_or, false_or, or_false, or_self, not_true_eq_false, not_false_eq_true, Classical.not_not, true_implies, false_implies, implies_true, forall_const, and_false, false_and, e_up_e, va_rf_s, va_rf_n, Nat.le_refl, Nat.zero_le, Bool.false_eq_true, lv_args, DX7_isAmong_0, FLX7, LDX7, hg, x_le (a := i) (b := i) (by omega) (by omega)]
    rw [ha] at hp
    exact hp
  | succ k ih =>
    intro i hi ha
    refine runX7_isAmong C Rt [2] 40 ?_
    simp only [e_go, e_1, e_op, e_pi, e_pl, e_pr, e_p0, e_li, e_ll, e_lr, e_lk, e_ins, e_rm, e_ob, e_ai, e_aj, e_aq, e_an, e_nth, e_to, e_sw, e_cmp, k_c, k_n, k_f, k_v, k_lg, ↓reduceIte, reduceCtorEq, Nat.reduceAdd, Nat.reduceSub, Nat.reduceMul, Nat.reduceEqDiff, Nat.reduceLT, Nat.reduceLeDiff, Int.reduceAdd, Int.reduceSub, Int.reduceNeg, Int.reduceLE, Int.reduceLT, Int.reduceToNat, Int.reduceEq, Int.cast_ofNat_Int, List.mem_cons, List.not_mem_nil, List.length_cons, List.length_nil, List.set_cons_zero, List.set_cons_succ, List.toList_toArray, eq_self, true_and, and_true, and_self, or_true, true_or, false_or, or_false, or_self, not_true_eq_false, not_false_eq_true, Classical.not_not, true_implies, false_implies, implies_true, forall_const, and_false, false_and, e_up_e, va_rf_s, va_rf_n, Nat.le_refl, Nat.zero_le, Bool.false_eq_true, lv_args, DX7_isAmong_0, FLX7, LDX7, hg, x_le (a := cn) (b := i) (by omega) (by omega), x_leN (a := N) (b := i) (by omega) (by omega), x_in (a := i) (n := N) (by omega), x_cl (a := i) (by omega), nI_1]
    refine ⟨fun h => by omega, fun _ => ⟨fun h => by omega, fun _ => ⟨by omega, fun h => ?_, fun h => ?_⟩⟩⟩
    · exact ih (i + 1) (by omega) (by simp [am, ha, h])
    · have : am f x cn = true := am_iff.mpr ⟨i, by omega, h⟩
      rw [this] at hp
      exact hp
end
set_option maxHeartbeats 4000000 in
set_option maxRecDepth 100000 in
theorem m_isAmong (l : Launch) (G : pH) {a N cn : Nat} {f : Nat → Int32} (x : Int32) (hg : G a = some (.inl (0, N, .inl f))) (hc : cn ≤ N) (hN : N < 2147483648) : e_MX7_isAmong l [.int x, .ref a, .int (nI cn)] G (fun v G2 => G2 = G ∧ v = some (.int (b2i (am f x cn)))) := by
  refine ofX7_isAmong (Nat.le_of_ble_eq_true rfl) ?_
  intro V C Rt
  refine runX7_isAmong C Rt [2] 3 ?_
  simp only [e_go, e_1, e_op, e_pi, e_pl, e_pr, e_p0, e_li, e_ll, e_lr, e_lk, e_ins, e_rm, e_ob, e_ai, e_aj, e_aq, e_an, e_nth, e_to, e_sw, e_cmp, k_c, k_n, k_f, k_v, k_lg, ↓reduceIte, reduceCtorEq, Nat.reduceAdd, Nat.reduceSub, Nat.reduceMul, Nat.reduceEqDiff, Nat.reduceLT, Nat.reduceLeDiff, Int.reduceAdd, Int.reduceSub, Int.reduceNeg, Int.reduceLE, Int.reduceLT, Int.reduceToNat, Int.reduceEq, Int.cast_ofNat_Int, List.mem_cons, List.not_mem_nil, List.length_cons, List.length_nil, List.set_cons_zero, List.set_cons_succ, List.toList_toArray, eq_self, true_and, and_true, and_self, or_true, true_or, false_or, or_false, or_self, not_true_eq_false, not_false_eq_true, Classical.not_not, true_implies, false_implies, implies_true, forall_const, and_false, false_and, e_up_e, va_rf_s, va_rf_n, Nat.le_refl, Nat.zero_le, Bool.false_eq_true, lv_args, DX7_isAmong_0, FLX7, LDX7]
  exact lp_isAmong C Rt hg hc hN ⟨rfl, rfl⟩ cn 0 (by omega) rfl
