/-! FactLog$Book.addRead; FactLog$Fact: restAsTold, groundAt -/
/-- the parcel's numbers become the book's: of i facts behind n, and of the next one's first k -/
def arG (S : pS) (n i k : Nat) : pS := (fun k' i' j' => if k' = 10 ∧ ((n ≤ i' ∧ i' < n + i ∧ j' < fcC S i') ∨ (i' = n + i ∧ j' < k)) then S.1 10 i' j' + nI n else if k' = 4 ∧ i' = 0 ∧ j' = 1 then nI (n + i) else S.1 k' i' j', S.2)
theorem arG_1 (S : pS) (n i k k' i' j' : Nat) : (arG S n i k).1 k' i' j' = if k' = 10 ∧ ((n ≤ i' ∧ i' < n + i ∧ j' < fcC S i') ∨ (i' = n + i ∧ j' < k)) then S.1 10 i' j' + nI n else if k' = 4 ∧ i' = 0 ∧ j' = 1 then nI (n + i) else S.1 k' i' j' := rfl
theorem arG_2 (S : pS) (n i k : Nat) : (arG S n i k).2 = S.2 := rfl
theorem arG_k {S : pS} {n i k : Nat} : uI (arG S n i k) 10 (n + i) k (S.1 10 (n + i) k + nI n) = arG S n i (k + 1) := by
  apply Prod.ext
  · funext k' i' j'
    simp only [arG_1, u_1]
    grind (splits := 30)
  · rfl
theorem arG_i {S : pS} {n i : Nat} : uI (arG S n i (fcC S (n + i))) 4 0 1 (nI (n + (i + 1))) = arG S n (i + 1) 0 := by
  apply Prod.ext
  · funext k' i' j'
    simp only [arG_1, u_1]
    grind (splits := 30)
  · rfl
section
variable {V : pV} {l : Launch} {A : pA} {post : Option Value → pS → Prop} {S : pS}
set_option maxHeartbeats 4000000 in
set_option maxRecDepth 100000 in
theorem lp_addRead1 (C : e_CX0_addRead V l) (Rt : e_RX0_addRead V (s_P A post)) {n r i f : Nat} (hr : n + r ≤ 60) (hi : i < r) (hf : f ≤ 3) (w3 : S.1 6 (n + i) 8 = nI f)
    (hx : V 0 0 63 [(0, .ref (ad A 4 0)), (1, .int (nI r)), (2, .int (nI n)), (3, .int (nI i)), (4, .ref (ad A 6 (n + i))), (5, .int (nI f))] [] (gS A (arG S n i f))) : ∀ m k, k + m = f → V 0 0 35 [(0, .ref (ad A 4 0)), (1, .int (nI r)), (2, .int (nI n)), (3, .int (nI i)), (4, .ref (ad A 6 (n + i))), (5, .int (nI k))] [] (gS A (arG S n i k)) := by
  intro m
  induction m with
  | zero =>
    intro k hk
    have hk2 : k = f := by omega
    subst hk2
    refine srnX0_addRead C Rt [35, 63] 60 ?_
    simp only [k_i, s_go, s_1, e_op, e_pi, e_pl, e_pr, e_p0, e_li, e_ll, e_lr, e_lk, e_ins, e_rm, e_to, e_sw, e_cmp, k_c, k_n, k_f, k_v, k_lg, ↓reduceIte, reduceCtorEq, Nat.reduceAdd, Nat.reduceSub, Nat.reduceMul, Nat.reduceEqDiff, Nat.reduceLT, Nat.reduceLeDiff, Int.reduceAdd, Int.reduceSub, Int.reduceNeg, Int.reduceLE, Int.reduceLT, Int.reduceToNat, Int.reduceEq, Int.cast_ofNat_Int, List.mem_cons, List.not_mem_nil, List.length_cons, List.length_nil, List.set_cons_zero, List.set_cons_succ, List.toList_toArray, eq_self, true_and, and_true, and_self, or_true, true_or, false_or, or_false, or_self, not_true_eq_false, not_false_eq_true, Classical.not_not, true_implies, false_implies, implies_true, forall_const, and_false, false_and, Nat.le_refl, Nat.zero_le, Bool.false_eq_true, lv_args, s_rl_at, s_gf, s_pf, dn_q, kd_q, cl_q, nf_q, ln_q, tg_q, rr_q, cr_q, u_1, e_lsw, k_ti, List.drop_succ_cons, List.drop_zero, List.drop_nil, List.zip_cons_cons, List.zip_nil_right, List.zip_nil_left, List.all_cons, List.all_nil, Bool.and_true, Bool.and_self, decide_true, decide_false, Option.toList, List.cons_append, List.nil_append, List.append_nil, DX0_addRead_0, DX0_addRead_1, FLX0, LDX0, arG_1, arG_2, w3, x_le (a := k) (b := k) (by omega) (by omega), (show n + i < 62 by omega)]
    exact hx
  | succ m ih =>
    intro k hk
    refine srnX0_addRead C Rt [35, 63] 60 ?_
    simp only [k_i, s_go, s_1, e_op, e_pi, e_pl, e_pr, e_p0, e_li, e_ll, e_lr, e_lk, e_ins, e_rm, e_to, e_sw, e_cmp, k_c, k_n, k_f, k_v, k_lg, ↓reduceIte, reduceCtorEq, Nat.reduceAdd, Nat.reduceSub, Nat.reduceMul, Nat.reduceEqDiff, Nat.reduceLT, Nat.reduceLeDiff, Int.reduceAdd, Int.reduceSub, Int.reduceNeg, Int.reduceLE, Int.reduceLT, Int.reduceToNat, Int.reduceEq, Int.cast_ofNat_Int, List.mem_cons, List.not_mem_nil, List.length_cons, List.length_nil, List.set_cons_zero, List.set_cons_succ, List.toList_toArray, eq_self, true_and, and_true, and_self, or_true, true_or, false_or, or_false, or_self, not_true_eq_false, not_false_eq_true, Classical.not_not, true_implies, false_implies, implies_true, forall_const, and_false, false_and, Nat.le_refl, Nat.zero_le, Bool.false_eq_true, lv_args, s_rl_at, s_gf, s_pf, dn_q, kd_q, cl_q, nf_q, ln_q, tg_q, rr_q, cr_q, u_1, e_lsw, k_ti, List.drop_succ_cons, List.drop_zero, List.drop_nil, List.zip_cons_cons, List.zip_nil_right, List.zip_nil_left, List.all_cons, List.all_nil, Bool.and_true, Bool.and_self, decide_true, decide_false, Option.toList, List.cons_append, List.nil_append, List.append_nil, DX0_addRead_0, DX0_addRead_1, FLX0, LDX0, arG_1, arG_2, w3, x_le (a := f) (b := k) (by omega) (by omega), (show n + i < 62 by omega), x_cl (a := k) (by omega), x_in (a := k) (n := 3) (by omega), nI_1, Nat.lt_irrefl]
    refine ⟨fun h => by omega, fun _ => ⟨by omega, ?_⟩⟩
    have h9 := ih (k + 1) (by omega)
    rw [← arG_k] at h9
    exact ⟨by omega, h9⟩
set_option maxHeartbeats 4000000 in
set_option maxRecDepth 100000 in
theorem lp_addRead (C : e_CX0_addRead V l) (Rt : e_RX0_addRead V (s_P A post)) {n r : Nat} (hr : n + r ≤ 60) (hw : ∀ i, i < r → S.1 6 (n + i) 8 = nI (fcC S (n + i)) ∧ fcC S (n + i) ≤ 3) (hp : post none (arG S n r 0)) : ∀ m i, i + m = r → V 0 0 7 [(0, .ref (ad A 4 0)), (1, .int (nI r)), (2, .int (nI n)), (3, .int (nI i))] [] (gS A (arG S n i 0)) := by
  intro m
  induction m with
  | zero =>
    intro i hi
    have hi2 : i = r := by omega
    subst hi2
    refine srnX0_addRead C Rt [7] 60 ?_
    simp only [k_i, s_go, s_1, e_op, e_pi, e_pl, e_pr, e_p0, e_li, e_ll, e_lr, e_lk, e_ins, e_rm, e_to, e_sw, e_cmp, k_c, k_n, k_f, k_v, k_lg, ↓reduceIte, reduceCtorEq, Nat.reduceAdd, Nat.reduceSub, Nat.reduceMul, Nat.reduceEqDiff, Nat.reduceLT, Nat.reduceLeDiff, Int.reduceAdd, Int.reduceSub, Int.reduceNeg, Int.reduceLE, Int.reduceLT, Int.reduceToNat, Int.reduceEq, Int.cast_ofNat_Int, List.mem_cons, List.not_mem_nil, List.length_cons, List.length_nil, List.set_cons_zero, List.set_cons_succ, List.toList_toArray, eq_self, true_and, and_true, and_self, or_true, true_or, false_or, or_false, or_self, not_true_eq_false, not_false_eq_true, Classical.not_not, true_implies, false_implies, implies_true, forall_const, and_false, false_and, Nat.le_refl, Nat.zero_le, Bool.false_eq_true, lv_args, s_rl_at, s_gf, s_pf, dn_q, kd_q, cl_q, nf_q, ln_q, tg_q, rr_q, cr_q, u_1, e_lsw, k_ti, List.drop_succ_cons, List.drop_zero, List.drop_nil, List.zip_cons_cons, List.zip_nil_right, List.zip_nil_left, List.all_cons, List.all_nil, Bool.and_true, Bool.and_self, decide_true, decide_false, Option.toList, List.cons_append, List.nil_append, List.append_nil, DX0_addRead_0, DX0_addRead_1, FLX0, LDX0, x_le (a := i) (b := i) (by omega) (by omega)]
    exact hp
  | succ m ih =>
    intro i hi
    obtain ⟨w3, hf⟩ := hw i (by omega)
    refine srnX0_addRead C Rt [7, 35] 60 ?_
    simp only [k_i, s_go, s_1, e_op, e_pi, e_pl, e_pr, e_p0, e_li, e_ll, e_lr, e_lk, e_ins, e_rm, e_to, e_sw, e_cmp, k_c, k_n, k_f, k_v, k_lg, ↓reduceIte, reduceCtorEq, Nat.reduceAdd, Nat.reduceSub, Nat.reduceMul, Nat.reduceEqDiff, Nat.reduceLT, Nat.reduceLeDiff, Int.reduceAdd, Int.reduceSub, Int.reduceNeg, Int.reduceLE, Int.reduceLT, Int.reduceToNat, Int.reduceEq, Int.cast_ofNat_Int, List.mem_cons, List.not_mem_nil, List.length_cons, List.length_nil, List.set_cons_zero, List.set_cons_succ, List.toList_toArray, eq_self, true_and, and_true, and_self, or_true, true_or, false_or, or_false, or_self, not_true_eq_false, not_false_eq_true, Classical.not_not, true_implies, false_implies, implies_true, forall_const, and_false, false_and, Nat.le_refl, Nat.zero_le, Bool.false_eq_true, lv_args, s_rl_at, s_gf, s_pf, dn_q, kd_q, cl_q, nf_q, ln_q, tg_q, rr_q, cr_q, u_1, e_lsw, k_ti, List.drop_succ_cons, List.drop_zero, List.drop_nil, List.zip_cons_cons, List.zip_nil_right, List.zip_nil_left, List.all_cons, List.all_nil, Bool.and_true, Bool.and_self, decide_true, decide_false, Option.toList, List.cons_append, List.nil_append, List.append_nil, DX0_addRead_0, DX0_addRead_1, FLX0, LDX0, arG_1, arG_2, x_le (a := r) (b := i) (by omega) (by omega), (show (60 : Int32) = nI 60 from rfl), x_le (a := 60) (b := n + i) (by omega) (by omega), x_cl (a := n + i) (by omega), x_in (a := n + i) (n := 60) (by omega)]
    refine ⟨fun h => by omega, fun _ => ⟨fun h => by omega, fun _ => ⟨by omega, ?_⟩⟩⟩
    refine lp_addRead1 C Rt hr (by omega) hf w3 ?_ (fcC S (n + i)) 0 (by omega)
    refine srnX0_addRead C Rt [7] 60 ?_
    simp only [k_i, s_go, s_1, e_op, e_pi, e_pl, e_pr, e_p0, e_li, e_ll, e_lr, e_lk, e_ins, e_rm, e_to, e_sw, e_cmp, k_c, k_n, k_f, k_v, k_lg, ↓reduceIte, reduceCtorEq, Nat.reduceAdd, Nat.reduceSub, Nat.reduceMul, Nat.reduceEqDiff, Nat.reduceLT, Nat.reduceLeDiff, Int.reduceAdd, Int.reduceSub, Int.reduceNeg, Int.reduceLE, Int.reduceLT, Int.reduceToNat, Int.reduceEq, Int.cast_ofNat_Int, List.mem_cons, List.not_mem_nil, List.length_cons, List.length_nil, List.set_cons_zero, List.set_cons_succ, List.toList_toArray, eq_self, true_and, and_true, and_self, or_true, true_or, false_or, or_false, or_self, not_true_eq_false, not_false_eq_true, Classical.not_not, true_implies, false_implies, implies_true, forall_const, and_false, false_and, Nat.le_refl, Nat.zero_le, Bool.false_eq_true, lv_args, s_rl_at, s_gf, s_pf, dn_q, kd_q, cl_q, nf_q, ln_q, tg_q, rr_q, cr_q, u_1, e_lsw, k_ti, List.drop_succ_cons, List.drop_zero, List.drop_nil, List.zip_cons_cons, List.zip_nil_right, List.zip_nil_left, List.all_cons, List.all_nil, Bool.and_true, Bool.and_self, decide_true, decide_false, Option.toList, List.cons_append, List.nil_append, List.append_nil, DX0_addRead_0, DX0_addRead_1, FLX0, LDX0, arG_1, arG_2, nI_1, Nat.add_assoc]
    rw [arG_i]
    exact r_sub C (by simp) (ih (i + 1) (by omega))
end
set_option maxHeartbeats 4000000 in
set_option maxRecDepth 100000 in
theorem m_X0_addRead (l : Launch) (A : pA) (S : pS) {n r : Nat} (hc : S.1 4 0 1 = nI n) (hr : n + r ≤ 60) (hw : ∀ i, i < r → S.1 6 (n + i) 8 = nI (fcC S (n + i)) ∧ fcC S (n + i) ≤ 3) : e_MX0_addRead l [.ref (ad A 4 0), .int (nI r)] (gS A S) (s_P A (fun v S2 => S2 = arG S n r 0 ∧ v = none)) := by
  refine ofX0_addRead (Nat.le_of_ble_eq_true rfl) ?_
  intro V C Rt
  refine srnX0_addRead C Rt [7] 5 ?_
  simp only [k_i, s_go, s_1, e_op, e_pi, e_pl, e_pr, e_p0, e_li, e_ll, e_lr, e_lk, e_ins, e_rm, e_to, e_sw, e_cmp, k_c, k_n, k_f, k_v, k_lg, ↓reduceIte, reduceCtorEq, Nat.reduceAdd, Nat.reduceSub, Nat.reduceMul, Nat.reduceEqDiff, Nat.reduceLT, Nat.reduceLeDiff, Int.reduceAdd, Int.reduceSub, Int.reduceNeg, Int.reduceLE, Int.reduceLT, Int.reduceToNat, Int.reduceEq, Int.cast_ofNat_Int, List.mem_cons, List.not_mem_nil, List.length_cons, List.length_nil, List.set_cons_zero, List.set_cons_succ, List.toList_toArray, eq_self, true_and, and_true, and_self, or_true, true_or, false_or, or_false, or_self, not_true_eq_false, not_false_eq_true, Classical.not_not, true_implies, false_implies, implies_true, forall_const, and_false, false_and, Nat.le_refl, Nat.zero_le, Bool.false_eq_true, lv_args, s_rl_at, s_gf, s_pf, dn_q, kd_q, cl_q, nf_q, ln_q, tg_q, rr_q, cr_q, u_1, e_lsw, k_ti, List.drop_succ_cons, List.drop_zero, List.drop_nil, List.zip_cons_cons, List.zip_nil_right, List.zip_nil_left, List.all_cons, List.all_nil, Bool.and_true, Bool.and_self, decide_true, decide_false, Option.toList, List.cons_append, List.nil_append, List.append_nil, DX0_addRead_0, DX0_addRead_1, FLX0, LDX0, hc]
  have h0 : gS A S = gS A (arG S n 0 0) := congrArg _ (Prod.ext (by funext k' i' j'; simp only [arG_1]; grind) rfl)
  rw [h0]
  exact lp_addRead C Rt hr hw ⟨rfl, rfl⟩ r 0 (by omega)
/-- fact i rests on the first a things and b facts that were told (61), as they are now -/
def raS (S : pS) (i a b : Nat) : pS := (fun k' i' j' => if i' = i then (if k' = 6 ∧ j' = 4 then nI a else if k' = 6 ∧ j' = 8 then nI b else if k' = 7 ∧ j' < a then S.1 7 61 j' else if k' = 8 ∧ j' < a then S.1 2 0 (thC S 61 j') else if k' = 9 ∧ j' < a then S.1 3 0 (thC S 61 j') else if k' = 10 ∧ j' < b then S.1 10 61 j' else S.1 k' i' j') else S.1 k' i' j', S.2)
theorem raS_1 (S : pS) (i a b k' i' j' : Nat) : (raS S i a b).1 k' i' j' = if i' = i then (if k' = 6 ∧ j' = 4 then nI a else if k' = 6 ∧ j' = 8 then nI b else if k' = 7 ∧ j' < a then S.1 7 61 j' else if k' = 8 ∧ j' < a then S.1 2 0 (thC S 61 j') else if k' = 9 ∧ j' < a then S.1 3 0 (thC S 61 j') else if k' = 10 ∧ j' < b then S.1 10 61 j' else S.1 k' i' j') else S.1 k' i' j' := rfl
theorem raS_2 (S : pS) (i a b : Nat) : (raS S i a b).2 = S.2 := rfl
theorem raS_t {S : pS} {i a b : Nat} : adT (raS S i a b) i a (S.1 7 61 a) (S.1 2 0 (thC S 61 a)) (S.1 3 0 (thC S 61 a)) = raS S i (a + 1) b := by
  apply Prod.ext
  · funext k' i' j'
    simp only [adT, raS_1, u_1]
    grind (splits := 30)
  · rfl
theorem raS_f {S : pS} {i a b : Nat} : adF (raS S i a b) i b (S.1 10 61 b) = raS S i a (b + 1) := by
  apply Prod.ext
  · funext k' i' j'
    simp only [adF, raS_1, u_1]
    grind (splits := 30)
  · rfl
section
variable {V : pV} {l : Launch} {A : pA} {post : Option Value → pS → Prop} {S : pS}
set_option maxHeartbeats 4000000 in
set_option maxRecDepth 100000 in
theorem lp_rat2 (C : e_CX2_restAsTold V l) (Rt : e_RX2_restAsTold V (s_P A post)) {i a n : Nat} (hi : i < 60) (hw : wfF S 61 n) (hp : post none (raS S i a (fcC S 61))) : ∀ m b, b + m = fcC S 61 → V 0 0 46 [(0, .ref (ad A 6 i)), (1, .ref (ad A 6 61)), (2, .ref (ad A 1 0)), (3, .int (nI b))] [] (gS A (raS S i a b)) := by
  obtain ⟨w1, w2, w3, w4, w5, w6⟩ := hw
  have hne : ¬ 61 = i := by omega
  intro m
  induction m with
  | zero =>
    intro b hb
    have hb2 : b = fcC S 61 := by omega
    rw [hb2]
    refine srnX2_restAsTold C Rt [46] 60 ?_
    simp only [k_i, s_go, s_1, e_op, e_pi, e_pl, e_pr, e_p0, e_li, e_ll, e_lr, e_lk, e_ins, e_rm, e_to, e_sw, e_cmp, k_c, k_n, k_f, k_v, k_lg, ↓reduceIte, reduceCtorEq, Nat.reduceAdd, Nat.reduceSub, Nat.reduceMul, Nat.reduceEqDiff, Nat.reduceLT, Nat.reduceLeDiff, Int.reduceAdd, Int.reduceSub, Int.reduceNeg, Int.reduceLE, Int.reduceLT, Int.reduceToNat, Int.reduceEq, Int.cast_ofNat_Int, List.mem_cons, List.not_mem_nil, List.length_cons, List.length_nil, List.set_cons_zero, List.set_cons_succ, List.toList_toArray, eq_self, true_and, and_true, and_self, or_true, true_or, false_or, or_false, or_self, not_true_eq_false, not_false_eq_true, Classical.not_not, true_implies, false_implies, implies_true, forall_const, and_false, false_and, Nat.le_refl, Nat.zero_le, Bool.false_eq_true, lv_args, s_rl_at, s_gf, s_pf, dn_q, kd_q, cl_q, nf_q, ln_q, tg_q, rr_q, cr_q, u_1, e_lsw, k_ti, List.drop_succ_cons, List.drop_zero, List.drop_nil, List.zip_cons_cons, List.zip_nil_right, List.zip_nil_left, List.all_cons, List.all_nil, Bool.and_true, Bool.and_self, decide_true, decide_false, Option.toList, List.cons_append, List.nil_append, List.append_nil, DX2_restAsTold_0, FLX2, LDX2, raS_1, raS_2, hne, w3, x_le (a := fcC S 61) (b := fcC S 61) (by omega) (by omega)]
    exact hp
  | succ m ih =>
    intro b hb
    refine srnX2_restAsTold C Rt [46] 60 ?_
    simp only [k_i, s_go, s_1, e_op, e_pi, e_pl, e_pr, e_p0, e_li, e_ll, e_lr, e_lk, e_ins, e_rm, e_to, e_sw, e_cmp, k_c, k_n, k_f, k_v, k_lg, ↓reduceIte, reduceCtorEq, Nat.reduceAdd, Nat.reduceSub, Nat.reduceMul, Nat.reduceEqDiff, Nat.reduceLT, Nat.reduceLeDiff, Int.reduceAdd, Int.reduceSub, Int.reduceNeg, Int.reduceLE, Int.reduceLT, Int.reduceToNat, Int.reduceEq, Int.cast_ofNat_Int, List.mem_cons, List.not_mem_nil, List.length_cons, List.length_nil, List.set_cons_zero, List.set_cons_succ, List.toList_toArray, eq_self, true_and, and_true, and_self, or_true, true_or, false_or, or_false, or_self, not_true_eq_false, not_false_eq_true, Classical.not_not, true_implies, false_implies, implies_true, forall_const, and_false, false_and, Nat.le_refl, Nat.zero_le, Bool.false_eq_true, lv_args, s_rl_at, s_gf, s_pf, dn_q, kd_q, cl_q, nf_q, ln_q, tg_q, rr_q, cr_q, u_1, e_lsw, k_ti, List.drop_succ_cons, List.drop_zero, List.drop_nil, List.zip_cons_cons, List.zip_nil_right, List.zip_nil_left, List.all_cons, List.all_nil, Bool.and_true, Bool.and_self, decide_true, decide_false, Option.toList, List.cons_append, List.nil_append, List.append_nil, DX2_restAsTold_0, FLX2, LDX2, raS_1, raS_2, hne, w3, x_le (a := fcC S 61) (b := b) (by omega) (by omega), x_cl (a := b) (by omega), x_in (a := b) (n := 3) (by omega)]
    refine ⟨fun h => by omega, fun _ => ⟨by omega, ?_⟩⟩
    refine sX2_restAsTold_61 C (m_X2_addFact l A (raS S i a b) (show i < 62 by omega) (show b < 3 by omega) (show (raS S i a b).1 6 i 8 = nI b by simp [raS_1]) (S.1 10 61 b)) (s_obj (show i < 62 by omega) rfl) (hcat := Nat.le_of_ble_eq_true rfl) (k := ?_)
    rintro v G2 ⟨S2, rfl, rfl, rfl⟩
    rw [raS_f]
    refine srnX2_restAsTold C Rt [46] 60 ?_
    simp only [k_i, s_go, s_1, e_op, e_pi, e_pl, e_pr, e_p0, e_li, e_ll, e_lr, e_lk, e_ins, e_rm, e_to, e_sw, e_cmp, k_c, k_n, k_f, k_v, k_lg, ↓reduceIte, reduceCtorEq, Nat.reduceAdd, Nat.reduceSub, Nat.reduceMul, Nat.reduceEqDiff, Nat.reduceLT, Nat.reduceLeDiff, Int.reduceAdd, Int.reduceSub, Int.reduceNeg, Int.reduceLE, Int.reduceLT, Int.reduceToNat, Int.reduceEq, Int.cast_ofNat_Int, List.mem_cons, List.not_mem_nil, List.length_cons, List.length_nil, List.set_cons_zero, List.set_cons_succ, List.toList_toArray, eq_self, true_and, and_true, and_self, or_true, true_or, false_or, or_false, or_self, not_true_eq_false, not_false_eq_true, Classical.not_not, true_implies, false_implies, implies_true, forall_const, and_false, false_and, Nat.le_refl, Nat.zero_le, Bool.false_eq_true, lv_args, s_rl_at, s_gf, s_pf, dn_q, kd_q, cl_q, nf_q, ln_q, tg_q, rr_q, cr_q, u_1, e_lsw, k_ti, List.drop_succ_cons, List.drop_zero, List.drop_nil, List.zip_cons_cons, List.zip_nil_right, List.zip_nil_left, List.all_cons, List.all_nil, Bool.and_true, Bool.and_self, decide_true, decide_false, Option.toList, List.cons_append, List.nil_append, List.append_nil, DX2_restAsTold_0, FLX2, LDX2, nI_1]
    exact ih (b + 1) (by omega)
set_option maxHeartbeats 4000000 in
set_option maxRecDepth 100000 in
theorem lp_rat1 (C : e_CX2_restAsTold V l) (Rt : e_RX2_restAsTold V (s_P A post)) {i n : Nat} (hi : i < 60) (hw : wfF S 61 n) (hp : post none (raS S i (tcC S 61) (fcC S 61))) : ∀ m a, a + m = tcC S 61 → V 0 0 2 [(0, .ref (ad A 6 i)), (1, .ref (ad A 6 61)), (2, .ref (ad A 1 0)), (3, .int (nI a))] [] (gS A (raS S i a 0)) := by
  have hw0 := hw
  obtain ⟨w1, w2, w3, w4, w5, w6⟩ := hw
  have hne : ¬ 61 = i := by omega
  intro m
  induction m with
  | zero =>
    intro a ha
    have ha2 : a = tcC S 61 := by omega
    rw [ha2]
    refine srnX2_restAsTold C Rt [2, 46] 60 ?_
    simp only [k_i, s_go, s_1, e_op, e_pi, e_pl, e_pr, e_p0, e_li, e_ll, e_lr, e_lk, e_ins, e_rm, e_to, e_sw, e_cmp, k_c, k_n, k_f, k_v, k_lg, ↓reduceIte, reduceCtorEq, Nat.reduceAdd, Nat.reduceSub, Nat.reduceMul, Nat.reduceEqDiff, Nat.reduceLT, Nat.reduceLeDiff, Int.reduceAdd, Int.reduceSub, Int.reduceNeg, Int.reduceLE, Int.reduceLT, Int.reduceToNat, Int.reduceEq, Int.cast_ofNat_Int, List.mem_cons, List.not_mem_nil, List.length_cons, List.length_nil, List.set_cons_zero, List.set_cons_succ, List.toList_toArray, eq_self, true_and, and_true, and_self, or_true, true_or, false_or, or_false, or_self, not_true_eq_false, not_false_eq_true, Classical.not_not, true_implies, false_implies, implies_true, forall_const, and_false, false_and, Nat.le_refl, Nat.zero_le, Bool.false_eq_true, lv_args, s_rl_at, s_gf, s_pf, dn_q, kd_q, cl_q, nf_q, ln_q, tg_q, rr_q, cr_q, u_1, e_lsw, k_ti, List.drop_succ_cons, List.drop_zero, List.drop_nil, List.zip_cons_cons, List.zip_nil_right, List.zip_nil_left, List.all_cons, List.all_nil, Bool.and_true, Bool.and_self, decide_true, decide_false, Option.toList, List.cons_append, List.nil_append, List.append_nil, DX2_restAsTold_0, FLX2, LDX2, raS_1, raS_2, hne, w1, x_le (a := tcC S 61) (b := tcC S 61) (by omega) (by omega)]
    exact lp_rat2 C Rt hi hw0 hp (fcC S 61) 0 (by omega)
  | succ m ih =>
    intro a ha
    obtain ⟨h5, h6⟩ := w5 a (by omega)
    refine srnX2_restAsTold C Rt [2, 46] 60 ?_
    simp only [k_i, s_go, s_1, e_op, e_pi, e_pl, e_pr, e_p0, e_li, e_ll, e_lr, e_lk, e_ins, e_rm, e_to, e_sw, e_cmp, k_c, k_n, k_f, k_v, k_lg, ↓reduceIte, reduceCtorEq, Nat.reduceAdd, Nat.reduceSub, Nat.reduceMul, Nat.reduceEqDiff, Nat.reduceLT, Nat.reduceLeDiff, Int.reduceAdd, Int.reduceSub, Int.reduceNeg, Int.reduceLE, Int.reduceLT, Int.reduceToNat, Int.reduceEq, Int.cast_ofNat_Int, List.mem_cons, List.not_mem_nil, List.length_cons, List.length_nil, List.set_cons_zero, List.set_cons_succ, List.toList_toArray, eq_self, true_and, and_true, and_self, or_true, true_or, false_or, or_false, or_self, not_true_eq_false, not_false_eq_true, Classical.not_not, true_implies, false_implies, implies_true, forall_const, and_false, false_and, Nat.le_refl, Nat.zero_le, Bool.false_eq_true, lv_args, s_rl_at, s_gf, s_pf, dn_q, kd_q, cl_q, nf_q, ln_q, tg_q, rr_q, cr_q, u_1, e_lsw, k_ti, List.drop_succ_cons, List.drop_zero, List.drop_nil, List.zip_cons_cons, List.zip_nil_right, List.zip_nil_left, List.all_cons, List.all_nil, Bool.and_true, Bool.and_self, decide_true, decide_false, Option.toList, List.cons_append, List.nil_append, List.append_nil, DX2_restAsTold_0, FLX2, LDX2, raS_1, raS_2, hne, w1, h5, x_le (a := tcC S 61) (b := a) (by omega) (by omega), x_cl (a := a) (by omega), x_in (a := a) (n := 4) (by omega), x_cl (a := thC S 61 a) (by omega), x_in (a := thC S 61 a) (n := 16) (by omega), ite_self]
    refine ⟨fun h => by omega, fun _ => ⟨by omega, by omega, by omega, ?_⟩⟩
    have e1 : (raS S i a 0).1 2 0 (thC S 61 a) = S.1 2 0 (thC S 61 a) := by simp [raS_1]
    have e2 : (raS S i a 0).1 3 0 (thC S 61 a) = S.1 3 0 (thC S 61 a) := by simp [raS_1]
    refine sX2_restAsTold_35 C (m_X2_addThing l A (raS S i a 0) (show i < 62 by omega) (show a < 4 by omega) (show (raS S i a 0).1 6 i 4 = nI a by simp [raS_1]) _ _ _) (s_obj (show i < 62 by omega) rfl) (hcat := Nat.le_of_ble_eq_true rfl) (k := ?_)
    rintro v G2 ⟨S2, rfl, rfl, rfl⟩
    have e3 : adT (raS S i a 0) i a (nI (thC S 61 a)) (S.1 2 0 (thC S 61 a)) (S.1 3 0 (thC S 61 a)) = raS S i (a + 1) 0 := by rw [← h5]; exact raS_t
    rw [e3]
    refine srnX2_restAsTold C Rt [2] 60 ?_
    simp only [k_i, s_go, s_1, e_op, e_pi, e_pl, e_pr, e_p0, e_li, e_ll, e_lr, e_lk, e_ins, e_rm, e_to, e_sw, e_cmp, k_c, k_n, k_f, k_v, k_lg, ↓reduceIte, reduceCtorEq, Nat.reduceAdd, Nat.reduceSub, Nat.reduceMul, Nat.reduceEqDiff, Nat.reduceLT, Nat.reduceLeDiff, Int.reduceAdd, Int.reduceSub, Int.reduceNeg, Int.reduceLE, Int.reduceLT, Int.reduceToNat, Int.reduceEq, Int.cast_ofNat_Int, List.mem_cons, List.not_mem_nil, List.length_cons, List.length_nil, List.set_cons_zero, List.set_cons_succ, List.toList_toArray, eq_self, true_and, and_true, and_self, or_true, true_or, false_or, or_false, or_self, not_true_eq_false, not_false_eq_true, Classical.not_not, true_implies, false_implies, implies_true, forall_const, and_false, false_and, Nat.le_refl, Nat.zero_le, Bool.false_eq_true, lv_args, s_rl_at, s_gf, s_pf, dn_q, kd_q, cl_q, nf_q, ln_q, tg_q, rr_q, cr_q, u_1, e_lsw, k_ti, List.drop_succ_cons, List.drop_zero, List.drop_nil, List.zip_cons_cons, List.zip_nil_right, List.zip_nil_left, List.all_cons, List.all_nil, Bool.and_true, Bool.and_self, decide_true, decide_false, Option.toList, List.cons_append, List.nil_append, List.append_nil, DX2_restAsTold_0, FLX2, LDX2, nI_1]
    exact r_sub C (by simp) (ih (a + 1) (by omega))
end
set_option maxHeartbeats 4000000 in
set_option maxRecDepth 100000 in
theorem m_X2_restAsTold (l : Launch) (A : pA) (S : pS) {i n : Nat} (hi : i < 60) (hw : wfF S 61 n) (h1 : S.1 6 i 4 = 0) (h2 : S.1 6 i 8 = 0) : e_MX2_restAsTold l [.ref (ad A 6 i), .ref (ad A 6 61), .ref (ad A 1 0)] (gS A S) (s_P A (fun v S2 => S2 = raS S i (tcC S 61) (fcC S 61) ∧ v = none)) := by
  refine ofX2_restAsTold (Nat.le_of_ble_eq_true rfl) ?_
  intro V C Rt
  refine srnX2_restAsTold C Rt [2] 3 ?_
  simp only [k_i, s_go, s_1, e_op, e_pi, e_pl, e_pr, e_p0, e_li, e_ll, e_lr, e_lk, e_ins, e_rm, e_to, e_sw, e_cmp, k_c, k_n, k_f, k_v, k_lg, ↓reduceIte, reduceCtorEq, Nat.reduceAdd, Nat.reduceSub, Nat.reduceMul, Nat.reduceEqDiff, Nat.reduceLT, Nat.reduceLeDiff, Int.reduceAdd, Int.reduceSub, Int.reduceNeg, Int.reduceLE, Int.reduceLT, Int.reduceToNat, Int.reduceEq, Int.cast_ofNat_Int, List.mem_cons, List.not_mem_nil, List.length_cons, List.length_nil, List.set_cons_zero, List.set_cons_succ, List.toList_toArray, eq_self, true_and, and_true, and_self, or_true, true_or, false_or, or_false, or_self, not_true_eq_false, not_false_eq_true, Classical.not_not, true_implies, false_implies, implies_true, forall_const, and_false, false_and, Nat.le_refl, Nat.zero_le, Bool.false_eq_true, lv_args, s_rl_at, s_gf, s_pf, dn_q, kd_q, cl_q, nf_q, ln_q, tg_q, rr_q, cr_q, u_1, e_lsw, k_ti, List.drop_succ_cons, List.drop_zero, List.drop_nil, List.zip_cons_cons, List.zip_nil_right, List.zip_nil_left, List.all_cons, List.all_nil, Bool.and_true, Bool.and_self, decide_true, decide_false, Option.toList, List.cons_append, List.nil_append, List.append_nil, DX2_restAsTold_0, FLX2, LDX2]
  have h0 : gS A S = gS A (raS S i 0 0) := congrArg _ (Prod.ext (by funext k' i' j'; simp only [raS_1]; by_cases hi9 : i' = i <;> by_cases hk : k' = 6 <;> by_cases hj : j' = 4 <;> by_cases hj2 : j' = 8 <;> simp [hi9, hk, hj, hj2, h1, h2, nI_0]) rfl)
  rw [h0]
  exact lp_rat1 C Rt hi hw ⟨rfl, rfl⟩ (tcC S 61) 0 (by omega)
/-- of() from 10 on -/
def grd (what : Int32) (tc fc : Nat) (th dt ct on : Nat → Int32) : Int32 := if what < 10 then -1 else if nN (what - what / 10 * 10) < tc ∧ what / 10 = 1 then th (nN (what - what / 10 * 10)) else if nN (what - what / 10 * 10) < tc ∧ what / 10 = 2 then dt (nN (what - what / 10 * 10)) else if nN (what - what / 10 * 10) < tc ∧ what / 10 = 3 then ct (nN (what - what / 10 * 10)) else if nN (what - what / 10 * 10) < fc ∧ what / 10 = 4 then on (nN (what - what / 10 * 10)) else -1
theorem rem10 {x : Int32} (h : (10 : Int32) ≤ x) : ∃ j q : Nat, j < 10 ∧ x - x / 10 * 10 = nI j ∧ x / 10 = nI q ∧ q < 214748365 ∧ 0 < q := by
  have h1 := Int32.le_iff_toInt_le.mp h
  have h2 : ((10 : Int32)).toInt = 10 := by decide
  have h3 : ((0 : Int32)).toInt = 0 := by decide
  obtain ⟨n, hn, rfl⟩ := nI_of (x := x) (by rw [Int32.lt_iff_toInt_lt]; omega)
  rw [nI_toInt hn] at h1
  refine ⟨n % 10, n / 10, by omega, pk_rem (d := 10) hn (by omega) (by omega), pk_div (d := 10) hn (by omega) (by omega), by omega, by omega⟩
set_option maxHeartbeats 4000000 in
set_option maxRecDepth 100000 in
theorem m_X2_groundAt (l : Launch) (A : pA) (S : pS) {i m : Nat} (hi : i < 62) (hw : wfF S i m) (x : Int32) : e_MX2_groundAt l [.ref (ad A 6 i), .int x] (gS A S) (s_P A (fun v S2 => S = S2 ∧ v = some (.int (grd x (tcC S i) (fcC S i) (S.1 7 i) (S.1 8 i) (S.1 9 i) (S.1 10 i))))) := by
  obtain ⟨w1, w2, w3, w4, w5, w6⟩ := hw
  refine ofX2_groundAt (Nat.le_of_ble_eq_true rfl) ?_
  intro V C Rt
  have hd : ¬ (10 : Int32) = 0 := by decide
  by_cases h10 : (10 : Int32) ≤ x
  · obtain ⟨j, q, hj, e1, e2, hq, hq0⟩ := rem10 h10
    have e3 : ∀ z : Int, ((nI q).toInt = z) ↔ ((q : Int) = z) := fun z => by rw [nI_toInt (by omega)]
    have e4 : x - nI q * 10 = nI j := by rw [← e2]; exact e1
    refine srnX2_groundAt C Rt [] 40 ?_
    simp only [k_i, s_go, s_1, e_op, e_pi, e_pl, e_pr, e_p0, e_li, e_ll, e_lr, e_lk, e_ins, e_rm, e_to, e_sw, e_cmp, k_c, k_n, k_f, k_v, k_lg, ↓reduceIte, reduceCtorEq, Nat.reduceAdd, Nat.reduceSub, Nat.reduceMul, Nat.reduceEqDiff, Nat.reduceLT, Nat.reduceLeDiff, Int.reduceAdd, Int.reduceSub, Int.reduceNeg, Int.reduceLE, Int.reduceLT, Int.reduceToNat, Int.reduceEq, Int.cast_ofNat_Int, List.mem_cons, List.not_mem_nil, List.length_cons, List.length_nil, List.set_cons_zero, List.set_cons_succ, List.toList_toArray, eq_self, true_and, and_true, and_self, or_true, true_or, false_or, or_false, or_self, not_true_eq_false, not_false_eq_true, Classical.not_not, true_implies, false_implies, implies_true, forall_const, and_false, false_and, Nat.le_refl, Nat.zero_le, Bool.false_eq_true, lv_args, s_rl_at, s_gf, s_pf, dn_q, kd_q, cl_q, nf_q, ln_q, tg_q, rr_q, cr_q, u_1, e_lsw, k_ti, List.drop_succ_cons, List.drop_zero, List.drop_nil, List.zip_cons_cons, List.zip_nil_right, List.zip_nil_left, List.all_cons, List.all_nil, Bool.and_true, Bool.and_self, decide_true, decide_false, Option.toList, List.cons_append, List.nil_append, List.append_nil, DX2_groundAt_0, DX2_groundAt_1, FLX2, LDX2, hi, hd, h10, w1, w3, e2, e4, x_le (a := tcC S i) (b := j) (by omega) (by omega), x_le (a := fcC S i) (b := j) (by omega) (by omega), x_cl (a := j) (by omega), x_in (a := j) (n := 4) (by omega), x_in (a := j) (n := 3) (by omega)]
    have hg : grd x (tcC S i) (fcC S i) (S.1 7 i) (S.1 8 i) (S.1 9 i) (S.1 10 i) = if j < tcC S i ∧ nI q = 1 then S.1 7 i j else if j < tcC S i ∧ nI q = 2 then S.1 8 i j else if j < tcC S i ∧ nI q = 3 then S.1 9 i j else if j < fcC S i ∧ nI q = 4 then S.1 10 i j else -1 := by
      unfold grd
      rw [if_neg (Int32.not_lt.mpr h10), e1, e2, nN_nI (by omega)]
    rw [hg]
    refine ⟨fun h => ⟨fun h2 => ?_, fun h2 => ⟨by omega, ?_⟩⟩, fun h => ⟨fun h3 => ⟨fun h2 => ?_, fun h2 => ⟨by omega, ?_⟩⟩, fun h3 => ⟨fun h4 => ⟨fun h2 => ?_, fun h2 => ⟨by omega, ?_⟩⟩, fun h4 => ⟨fun h5 => ⟨fun h2 => ?_, fun h2 => ⟨by omega, ?_⟩⟩, fun h5 => ?_⟩⟩⟩⟩
    · have : ¬ j < tcC S i := by omega
      simp [this, h]
    · have : j < tcC S i := by omega
      simp [this, h]
    · have : ¬ j < tcC S i := by omega
      simp [this, h3]
    · have : j < tcC S i := by omega
      simp [this, h3]
    · have : ¬ j < tcC S i := by omega
      simp [this, h4]
    · have : j < tcC S i := by omega
      simp [this, h4]
    · have : ¬ j < fcC S i := by omega
      simp [this, h5]
    · have : j < fcC S i := by omega
      simp [this, h5]
    · simp [h, h3, h4, h5]
  · refine srnX2_groundAt C Rt [] 40 ?_
    simp only [k_i, s_go, s_1, e_op, e_pi, e_pl, e_pr, e_p0, e_li, e_ll, e_lr, e_lk, e_ins, e_rm, e_to, e_sw, e_cmp, k_c, k_n, k_f, k_v, k_lg, ↓reduceIte, reduceCtorEq, Nat.reduceAdd, Nat.reduceSub, Nat.reduceMul, Nat.reduceEqDiff, Nat.reduceLT, Nat.reduceLeDiff, Int.reduceAdd, Int.reduceSub, Int.reduceNeg, Int.reduceLE, Int.reduceLT, Int.reduceToNat, Int.reduceEq, Int.cast_ofNat_Int, List.mem_cons, List.not_mem_nil, List.length_cons, List.length_nil, List.set_cons_zero, List.set_cons_succ, List.toList_toArray, eq_self, true_and, and_true, and_self, or_true, true_or, false_or, or_false, or_self, not_true_eq_false, not_false_eq_true, Classical.not_not, true_implies, false_implies, implies_true, forall_const, and_false, false_and, Nat.le_refl, Nat.zero_le, Bool.false_eq_true, lv_args, s_rl_at, s_gf, s_pf, dn_q, kd_q, cl_q, nf_q, ln_q, tg_q, rr_q, cr_q, u_1, e_lsw, k_ti, List.drop_succ_cons, List.drop_zero, List.drop_nil, List.zip_cons_cons, List.zip_nil_right, List.zip_nil_left, List.all_cons, List.all_nil, Bool.and_true, Bool.and_self, decide_true, decide_false, Option.toList, List.cons_append, List.nil_append, List.append_nil, DX2_groundAt_0, DX2_groundAt_1, FLX2, LDX2, hi, hd, h10]
    have h11 : x < 10 := Int32.not_le.mp h10
    simp [grd, h11]
