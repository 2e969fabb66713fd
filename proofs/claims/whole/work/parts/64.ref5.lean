/-! the reference: change -/
theorem cntU_S {S S2 : pS} {x : Int32} (h6 : S2.1 6 = S.1 6) (h7 : S2.1 7 = S.1 7) (h10 : S2.1 10 = S.1 10) : ∀ n, cntU S2 x n = cntU S x n ∧ RU S2 x n = RU S x n := by
  have hb : (fun i => am (S2.1 7 i) x (tcC S2 i)) = (fun i => am (S.1 7 i) x (tcC S i)) := by
    unfold tcC
    rw [h6, h7]
  have ho : onC S2 = onC S := by
    unfold onC
    rw [h10]
  have hf : fcC S2 = fcC S := by
    unfold fcC
    rw [h6]
  have hR : RU S2 x = RU S x := by
    unfold RU
    rw [hb, ho, hf]
  have hc : chC S2 = chC S := by
    unfold chC
    rw [h6]
  intro n
  refine ⟨?_, by rw [hR]⟩
  induction n with
  | zero => rfl
  | succ n ih =>
    unfold cntU
    rw [ih, hR, hc]
section
variable {V : pV} {l : Launch} {A : pA} {post : Option Value → pS → Prop} {T S : pS}
set_option maxHeartbeats 4000000 in
set_option maxRecDepth 100000 in
theorem lp_X8_change1 (C : e_CX8_change V l) (Rt : e_RX8_change V (s_P A post)) {i : Nat} {x d c : Int32} {q : Nat → Int32} (hi : i < 60) (hw : wfF S i i) (hF : rF T S i) (hx : V 0 0 127 [(0, .ref (ad A 30 0)), (1, .int x), (2, .int d), (3, .int c), (4, .int (nI i)), (5, .int (nI (tcC S i)))] [] (gS A (uX T 50 (fun j => if j = i then b2i (am (S.1 7 i) x (tcC S i)) else q j)))) : ∀ z k, k + z = tcC S i → V 0 0 71 [(0, .ref (ad A 30 0)), (1, .int x), (2, .int d), (3, .int c), (4, .int (nI i)), (5, .int (nI k))] [] (gS A (uX T 50 (fun j => if j = i then b2i (am (S.1 7 i) x k) else q j))) := by
  obtain ⟨w1, w2, w3, w4, w5, w6⟩ := hw
  obtain ⟨f1, f2, f3, f4, f5, f6, f7, f8⟩ := hF
  rw [w1] at f3
  intro z
  induction z with
  | zero =>
    intro k hk
    have hk2 : k = tcC S i := by omega
    rw [hk2]
    refine srnX8_change C Rt [71, 127] 40 ?_
    simp only [k_i, s_go, s_1, e_op, e_pi, e_pl, e_pr, e_p0, e_li, e_ll, e_lr, e_lk, e_ins, e_rm, e_to, e_sw, e_cmp, k_c, k_n, k_f, k_v, k_lg, ↓reduceIte, reduceCtorEq, Nat.reduceAdd, Nat.reduceSub, Nat.reduceMul, Nat.reduceEqDiff, Nat.reduceLT, Nat.reduceLeDiff, Int.reduceAdd, Int.reduceSub, Int.reduceNeg, Int.reduceLE, Int.reduceLT, Int.reduceToNat, Int.reduceEq, Int.cast_ofNat_Int, List.mem_cons, List.not_mem_nil, List.length_cons, List.length_nil, List.set_cons_zero, List.set_cons_succ, List.toList_toArray, eq_self, true_and, and_true, and_self, or_true, true_or, false_or, or_false, or_self, not_true_eq_false, not_false_eq_true, Classical.not_not, true_implies, false_implies, implies_true, forall_const, and_false, false_and, Nat.le_refl, Nat.zero_le, Bool.false_eq_true, lv_args, s_rl_at, s_gf, s_pf, dn_q, kd_q, cl_q, nf_q, ln_q, tg_q, rr_q, cr_q, u_1, e_lsw, k_ti, List.drop_succ_cons, List.drop_zero, List.drop_nil, List.zip_cons_cons, List.zip_nil_right, List.zip_nil_left, List.all_cons, List.all_nil, Bool.and_true, Bool.and_self, decide_true, decide_false, Option.toList, List.cons_append, List.nil_append, List.append_nil, DX8_change_0, DX8_change_1, DX8_change_2, DX8_change_3, FLX8, LDX8, uX_1, uX_2, f3, x_cl (a := i) (by omega), x_in (a := i) (n := 60) (by omega), x_le (a := tcC S i) (b := tcC S i) (by omega) (by omega)]
    exact ⟨hi, hx⟩
  | succ z ih =>
    intro k hk
    obtain ⟨g1, g2, g3⟩ := f4 k (by omega)
    have h9 := ih (k + 1) (by omega)
    refine srnX8_change C Rt [71, 127] 40 ?_
    simp only [k_i, s_go, s_1, e_op, e_pi, e_pl, e_pr, e_p0, e_li, e_ll, e_lr, e_lk, e_ins, e_rm, e_to, e_sw, e_cmp, k_c, k_n, k_f, k_v, k_lg, ↓reduceIte, reduceCtorEq, Nat.reduceAdd, Nat.reduceSub, Nat.reduceMul, Nat.reduceEqDiff, Nat.reduceLT, Nat.reduceLeDiff, Int.reduceAdd, Int.reduceSub, Int.reduceNeg, Int.reduceLE, Int.reduceLT, Int.reduceToNat, Int.reduceEq, Int.cast_ofNat_Int, List.mem_cons, List.not_mem_nil, List.length_cons, List.length_nil, List.set_cons_zero, List.set_cons_succ, List.toList_toArray, eq_self, true_and, and_true, and_self, or_true, true_or, false_or, or_false, or_self, not_true_eq_false, not_false_eq_true, Classical.not_not, true_implies, false_implies, implies_true, forall_const, and_false, false_and, Nat.le_refl, Nat.zero_le, Bool.false_eq_true, lv_args, s_rl_at, s_gf, s_pf, dn_q, kd_q, cl_q, nf_q, ln_q, tg_q, rr_q, cr_q, u_1, e_lsw, k_ti, List.drop_succ_cons, List.drop_zero, List.drop_nil, List.zip_cons_cons, List.zip_nil_right, List.zip_nil_left, List.all_cons, List.all_nil, Bool.and_true, Bool.and_self, decide_true, decide_false, Option.toList, List.cons_append, List.nil_append, List.append_nil, DX8_change_0, DX8_change_1, DX8_change_2, DX8_change_3, FLX8, LDX8, uX_1, uX_2, f3, x_cl (a := i) (by omega), x_in (a := i) (n := 60) (by omega), x_le (a := tcC S i) (b := k) (by omega) (by omega), (show (4 : Int32) = nI 4 from rfl), pk_mul, nI_add, x_cl (a := 4 * i + k) (by omega), x_in (a := 4 * i + k) (n := 240) (by omega), g1, nI_1, b2i_0]
    refine ⟨hi, fun h => by omega, fun _ => ⟨hi, fun h => ⟨hi, ?_⟩, fun h => ⟨by omega, fun h2 => ⟨hi, ?_⟩, fun h2 => ⟨hi, ?_⟩⟩⟩⟩
    · rw [uX_s2]
      rw [am, nft h] at h9
      exact h9
    · rw [uX_s2]
      have h3 : decide (S.1 7 i k = x) = false := by simp [h2]
      rw [am, h, h3] at h9
      exact h9
    · rw [uX_s2]
      have h3 : decide (S.1 7 i k = x) = true := by simp [h2]
      rw [am, h, h3] at h9
      exact h9
set_option maxHeartbeats 4000000 in
set_option maxRecDepth 100000 in
theorem lp_X8_change2 (C : e_CX8_change V l) (Rt : e_RX8_change V (s_P A post)) {i : Nat} {x d c : Int32} {g : Nat → Int32} (hi : i < 60) (hw : wfF S i i) (hF : rF T S i) (p : Nat → Bool) (gd : Bool) (hx : V 0 0 190 [(0, .ref (ad A 30 0)), (1, .int x), (2, .int d), (3, .int c), (4, .int (nI i)), (5, .int (nI (fcC S i)))] [] (gS A (uX T 50 (fun j => if j = i then b2i (gd || anyB p (onC S i) (fcC S i)) else bX p i g j)))) : ∀ z k, k + z = fcC S i → V 0 0 130 [(0, .ref (ad A 30 0)), (1, .int x), (2, .int d), (3, .int c), (4, .int (nI i)), (5, .int (nI k))] [] (gS A (uX T 50 (fun j => if j = i then b2i (gd || anyB p (onC S i) k) else bX p i g j))) := by
  obtain ⟨w1, w2, w3, w4, w5, w6⟩ := hw
  obtain ⟨f1, f2, f3, f4, f5, f6, f7, f8⟩ := hF
  rw [w3] at f5
  intro z
  induction z with
  | zero =>
    intro k hk
    have hk2 : k = fcC S i := by omega
    rw [hk2]
    refine srnX8_change C Rt [130, 190] 40 ?_
    simp only [k_i, s_go, s_1, e_op, e_pi, e_pl, e_pr, e_p0, e_li, e_ll, e_lr, e_lk, e_ins, e_rm, e_to, e_sw, e_cmp, k_c, k_n, k_f, k_v, k_lg, ↓reduceIte, reduceCtorEq, Nat.reduceAdd, Nat.reduceSub, Nat.reduceMul, Nat.reduceEqDiff, Nat.reduceLT, Nat.reduceLeDiff, Int.reduceAdd, Int.reduceSub, Int.reduceNeg, Int.reduceLE, Int.reduceLT, Int.reduceToNat, Int.reduceEq, Int.cast_ofNat_Int, List.mem_cons, List.not_mem_nil, List.length_cons, List.length_nil, List.set_cons_zero, List.set_cons_succ, List.toList_toArray, eq_self, true_and, and_true, and_self, or_true, true_or, false_or, or_false, or_self, not_true_eq_false, not_false_eq_true, Classical.not_not, true_implies, false_implies, implies_true, forall_const, and_false, false_and, Nat.le_refl, Nat.zero_le, Bool.false_eq_true, lv_args, s_rl_at, s_gf, s_pf, dn_q, kd_q, cl_q, nf_q, ln_q, tg_q, rr_q, cr_q, u_1, e_lsw, k_ti, List.drop_succ_cons, List.drop_zero, List.drop_nil, List.zip_cons_cons, List.zip_nil_right, List.zip_nil_left, List.all_cons, List.all_nil, Bool.and_true, Bool.and_self, decide_true, decide_false, Option.toList, List.cons_append, List.nil_append, List.append_nil, DX8_change_0, DX8_change_1, DX8_change_2, DX8_change_3, FLX8, LDX8, uX_1, uX_2, f5, x_cl (a := i) (by omega), x_in (a := i) (n := 60) (by omega), x_le (a := fcC S i) (b := fcC S i) (by omega) (by omega)]
    exact ⟨hi, hx⟩
  | succ z ih =>
    intro k hk
    obtain ⟨w7, w8⟩ := w6 k (by omega)
    have g1 := f6 k (by omega)
    rw [w7] at g1
    have hb : (if onC S i k = i then b2i (gd || anyB p (onC S i) k) else bX p i g (onC S i k)) = b2i (p (onC S i k)) := by
      rw [if_neg (by omega)]
      simp [bX, w8]
    have h9 := ih (k + 1) (by omega)
    refine srnX8_change C Rt [130, 190] 40 ?_
    simp only [k_i, s_go, s_1, e_op, e_pi, e_pl, e_pr, e_p0, e_li, e_ll, e_lr, e_lk, e_ins, e_rm, e_to, e_sw, e_cmp, k_c, k_n, k_f, k_v, k_lg, ↓reduceIte, reduceCtorEq, Nat.reduceAdd, Nat.reduceSub, Nat.reduceMul, Nat.reduceEqDiff, Nat.reduceLT, Nat.reduceLeDiff, Int.reduceAdd, Int.reduceSub, Int.reduceNeg, Int.reduceLE, Int.reduceLT, Int.reduceToNat, Int.reduceEq, Int.cast_ofNat_Int, List.mem_cons, List.not_mem_nil, List.length_cons, List.length_nil, List.set_cons_zero, List.set_cons_succ, List.toList_toArray, eq_self, true_and, and_true, and_self, or_true, true_or, false_or, or_false, or_self, not_true_eq_false, not_false_eq_true, Classical.not_not, true_implies, false_implies, implies_true, forall_const, and_false, false_and, Nat.le_refl, Nat.zero_le, Bool.false_eq_true, lv_args, s_rl_at, s_gf, s_pf, dn_q, kd_q, cl_q, nf_q, ln_q, tg_q, rr_q, cr_q, u_1, e_lsw, k_ti, List.drop_succ_cons, List.drop_zero, List.drop_nil, List.zip_cons_cons, List.zip_nil_right, List.zip_nil_left, List.all_cons, List.all_nil, Bool.and_true, Bool.and_self, decide_true, decide_false, Option.toList, List.cons_append, List.nil_append, List.append_nil, DX8_change_0, DX8_change_1, DX8_change_2, DX8_change_3, FLX8, LDX8, uX_1, uX_2, f5, x_cl (a := i) (by omega), x_in (a := i) (n := 60) (by omega), x_le (a := fcC S i) (b := k) (by omega) (by omega), (show (3 : Int32) = nI 3 from rfl), pk_mul, nI_add, x_cl (a := 3 * i + k) (by omega), x_in (a := 3 * i + k) (n := 180) (by omega), g1, x_cl (a := onC S i k) (by omega), x_in (a := onC S i k) (n := 60) (by omega), nI_1, hb, b2i_0]
    refine ⟨hi, fun h => by omega, fun _ => ⟨hi, fun h => ⟨hi, ?_⟩, fun h => ⟨by omega, by omega, fun h2 => ⟨hi, ?_⟩, fun h2 => ⟨hi, ?_⟩⟩⟩⟩
    · rw [uX_s2]
      rw [anyB, ← Bool.or_assoc, nft h] at h9
      exact h9
    · rw [uX_s2]
      rw [anyB, ← Bool.or_assoc, h, h2] at h9
      exact h9
    · rw [uX_s2]
      rw [anyB, ← Bool.or_assoc, h, nft h2] at h9
      exact h9
end
theorem rF_uI {T S : pS} {i k a b : Nat} {v : Int32} (h : k < 35 ∨ 44 < k) (hF : rF T S i) : rF (uI T k a b v) S i := rF_of (T := T) (fun k2 h1 h2 => by
  funext j
  simp only [u_1]
  rw [if_neg (by omega)]) rfl hF
theorem rF_43 {T S : pS} {i : Nat} {f : Nat → Int32} (h : f i = T.1 43 0 i) (hF : rF T S i) : rF (uX T 43 f) S i := by
  obtain ⟨f1, f2, f3, f4, f5, f6, f7, f8⟩ := hF
  refine ⟨f1, f2, f3, f4, f5, f6, ?_, f8⟩
  rw [uX_1, if_pos ⟨rfl, rfl⟩, h, f7]
theorem uX_c {T : pS} {k k2 j : Nat} {f : Nat → Int32} {v : Int32} (h : ¬ k = k2) : uI (uX T k f) k2 0 j v = uX (uI T k2 0 j v) k f := by
  refine Prod.ext ?_ rfl
  funext k' i' j'
  simp only [u_1, uX_1]
  by_cases h1 : k' = k2
  · subst h1
    have : ¬ k' = k := fun z => h z.symm
    simp [this]
  · simp [h1]
def ckX (R : Nat → Bool) (i : Nat) (g : Nat → Int32) : Nat → Int32 := fun j => if j < i ∧ R j = true then 0 else g j
section
variable {V : pV} {l : Launch} {A : pA} {post : Option Value → pS → Prop} {T S : pS}
set_option maxHeartbeats 4000000 in
set_option maxRecDepth 100000 in
theorem lp_X8_change (C : e_CX8_change V l) (Rt : e_RX8_change V (s_P A post)) {n : Nat} {x d : Int32} (hB : wfB S n) (hR : rB T S n) (hc : ∀ i, i < n → S.1 6 i 2 = b2i (chC S i)) (hp : post (some (.int (nI (cntU S x n)))) (uX (uX T 43 (ckX (RU S x n) n (T.1 43 0))) 50 (bX (RU S x n) n (T.1 50 0)))) : ∀ z i, i + z = n → V 0 0 51 [(0, .ref (ad A 30 0)), (1, .int x), (2, .int d), (3, .int (nI (cntU S x i))), (4, .int (nI i))] [] (gS A (uX (uX T 43 (ckX (RU S x i) i (T.1 43 0))) 50 (bX (RU S x i) i (T.1 50 0)))) := by
  obtain ⟨b1, b2, b3⟩ := hB
  obtain ⟨r1, r2⟩ := hR
  intro z
  induction z with
  | zero =>
    intro i hi
    have hi2 : i = n := by omega
    rw [hi2]
    refine srnX8_change C Rt [51] 40 ?_
    simp only [k_i, s_go, s_1, e_op, e_pi, e_pl, e_pr, e_p0, e_li, e_ll, e_lr, e_lk, e_ins, e_rm, e_to, e_sw, e_cmp, k_c, k_n, k_f, k_v, k_lg, ↓reduceIte, reduceCtorEq, Nat.reduceAdd, Nat.reduceSub, Nat.reduceMul, Nat.reduceEqDiff, Nat.reduceLT, Nat.reduceLeDiff, Int.reduceAdd, Int.reduceSub, Int.reduceNeg, Int.reduceLE, Int.reduceLT, Int.reduceToNat, Int.reduceEq, Int.cast_ofNat_Int, List.mem_cons, List.not_mem_nil, List.length_cons, List.length_nil, List.set_cons_zero, List.set_cons_succ, List.toList_toArray, eq_self, true_and, and_true, and_self, or_true, true_or, false_or, or_false, or_self, not_true_eq_false, not_false_eq_true, Classical.not_not, true_implies, false_implies, implies_true, forall_const, and_false, false_and, Nat.le_refl, Nat.zero_le, Bool.false_eq_true, lv_args, s_rl_at, s_gf, s_pf, dn_q, kd_q, cl_q, nf_q, ln_q, tg_q, rr_q, cr_q, u_1, e_lsw, k_ti, List.drop_succ_cons, List.drop_zero, List.drop_nil, List.zip_cons_cons, List.zip_nil_right, List.zip_nil_left, List.all_cons, List.all_nil, Bool.and_true, Bool.and_self, decide_true, decide_false, Option.toList, List.cons_append, List.nil_append, List.append_nil, DX8_change_0, DX8_change_1, DX8_change_2, DX8_change_3, FLX8, LDX8, uX_1, uX_2, r1, x_le (a := n) (b := n) (by omega) (by omega)]
    exact hp
  | succ z ih =>
    intro i hi
    have hi60 : i < 60 := by omega
    have hwi := b3 i (by omega)
    have hFi := r2 i (by omega)
    have hck : ckX (RU S x i) i (T.1 43 0) i = b2i (chC S i) := by
      unfold ckX
      rw [if_neg (by omega), hFi.2.2.2.2.2.2.1, hc i (by omega)]
    have hF2 : rF (uX T 43 (ckX (RU S x i) i (T.1 43 0))) S i := rF_43 (by unfold ckX; rw [if_neg (by omega)]) hFi
    have h9 := ih (i + 1) (by omega)
    refine srnX8_change C Rt [51, 71] 40 ?_
    simp only [k_i, s_go, s_1, e_op, e_pi, e_pl, e_pr, e_p0, e_li, e_ll, e_lr, e_lk, e_ins, e_rm, e_to, e_sw, e_cmp, k_c, k_n, k_f, k_v, k_lg, ↓reduceIte, reduceCtorEq, Nat.reduceAdd, Nat.reduceSub, Nat.reduceMul, Nat.reduceEqDiff, Nat.reduceLT, Nat.reduceLeDiff, Int.reduceAdd, Int.reduceSub, Int.reduceNeg, Int.reduceLE, Int.reduceLT, Int.reduceToNat, Int.reduceEq, Int.cast_ofNat_Int, List.mem_cons, List.not_mem_nil, List.length_cons, List.length_nil, List.set_cons_zero, List.set_cons_succ, List.toList_toArray, eq_self, true_and, and_true, and_self, or_true, true_or, false_or, or_false, or_self, not_true_eq_false, not_false_eq_true, Classical.not_not, true_implies, false_implies, implies_true, forall_const, and_false, false_and, Nat.le_refl, Nat.zero_le, Bool.false_eq_true, lv_args, s_rl_at, s_gf, s_pf, dn_q, kd_q, cl_q, nf_q, ln_q, tg_q, rr_q, cr_q, u_1, e_lsw, k_ti, List.drop_succ_cons, List.drop_zero, List.drop_nil, List.zip_cons_cons, List.zip_nil_right, List.zip_nil_left, List.all_cons, List.all_nil, Bool.and_true, Bool.and_self, decide_true, decide_false, Option.toList, List.cons_append, List.nil_append, List.append_nil, DX8_change_0, DX8_change_1, DX8_change_2, DX8_change_3, FLX8, LDX8, uX_1, uX_2, r1, x_le (a := n) (b := i) (by omega) (by omega), x_cl (a := i) (by omega), x_in (a := i) (n := 60) (by omega)]
    refine ⟨fun h => by omega, fun _ => ⟨hi60, ?_⟩⟩
    rw [uX_s]
    refine lp_X8_change1 (T := uX T 43 (ckX (RU S x i) i (T.1 43 0))) (S := S) C Rt hi60 hwi hF2 ?_ (tcC S i) 0 (by omega)
    refine srnX8_change C Rt [130] 40 ?_
    simp only [k_i, s_go, s_1, e_op, e_pi, e_pl, e_pr, e_p0, e_li, e_ll, e_lr, e_lk, e_ins, e_rm, e_to, e_sw, e_cmp, k_c, k_n, k_f, k_v, k_lg, ↓reduceIte, reduceCtorEq, Nat.reduceAdd, Nat.reduceSub, Nat.reduceMul, Nat.reduceEqDiff, Nat.reduceLT, Nat.reduceLeDiff, Int.reduceAdd, Int.reduceSub, Int.reduceNeg, Int.reduceLE, Int.reduceLT, Int.reduceToNat, Int.reduceEq, Int.cast_ofNat_Int, List.mem_cons, List.not_mem_nil, List.length_cons, List.length_nil, List.set_cons_zero, List.set_cons_succ, List.toList_toArray, eq_self, true_and, and_true, and_self, or_true, true_or, false_or, or_false, or_self, not_true_eq_false, not_false_eq_true, Classical.not_not, true_implies, false_implies, implies_true, forall_const, and_false, false_and, Nat.le_refl, Nat.zero_le, Bool.false_eq_true, lv_args, s_rl_at, s_gf, s_pf, dn_q, kd_q, cl_q, nf_q, ln_q, tg_q, rr_q, cr_q, u_1, e_lsw, k_ti, List.drop_succ_cons, List.drop_zero, List.drop_nil, List.zip_cons_cons, List.zip_nil_right, List.zip_nil_left, List.all_cons, List.all_nil, Bool.and_true, Bool.and_self, decide_true, decide_false, Option.toList, List.cons_append, List.nil_append, List.append_nil, DX8_change_0, DX8_change_1, DX8_change_2, DX8_change_3, FLX8, LDX8]
    have h190 : V 0 0 190 [(0, .ref (ad A 30 0)), (1, .int x), (2, .int d), (3, .int (nI (cntU S x i))), (4, .int (nI i)), (5, .int (nI (fcC S i)))] [] (gS A (uX (uX T 43 (ckX (RU S x i) i (T.1 43 0))) 50 (fun j => if j = i then b2i (am (S.1 7 i) x (tcC S i) || anyB (RU S x i) (onC S i) (fcC S i)) else bX (RU S x i) i (T.1 50 0) j))) := by
      have e1 : (am (S.1 7 i) x (tcC S i) || anyB (RU S x i) (onC S i) (fcC S i)) = RU S x (i + 1) i := (rsF_at (base := fun i => am (S.1 7 i) x (tcC S i)) (on := onC S) (fc := fcC S) (i := i)).symm
      rw [e1]
      have e2 : (fun j => if j = i then b2i (RU S x (i + 1) i) else bX (RU S x i) i (T.1 50 0) j) = bX (RU S x (i + 1)) (i + 1) (T.1 50 0) := by
        funext j
        unfold bX
        by_cases h1 : j = i
        · subst h1
          simp
        · have : (j < i + 1) ↔ (j < i) := by omega
          simp [h1, this, rsF_lo h1]
      rw [e2]
      have hb : bX (RU S x (i + 1)) (i + 1) (T.1 50 0) i = b2i (RU S x (i + 1) i) := by simp [bX]
      have key : ∀ v : Int32, v = (if RU S x (i + 1) i = true then 0 else b2i (chC S i)) → uI (uX (uX T 43 (ckX (RU S x i) i (T.1 43 0))) 50 (bX (RU S x (i + 1)) (i + 1) (T.1 50 0))) 43 0 i v = uX (uX T 43 (ckX (RU S x (i + 1)) (i + 1) (T.1 43 0))) 50 (bX (RU S x (i + 1)) (i + 1) (T.1 50 0)) := by
        intro v hv
        rw [uX_c (by decide), uX_s]
        congr 2
        funext j
        unfold ckX
        by_cases h1 : j = i
        · subst h1
          have h4 : T.1 43 0 j = b2i (chC S j) := by rw [hFi.2.2.2.2.2.2.1, hc j (by omega)]
          simp [hv, h4]
        · have : (j < i + 1) ↔ (j < i) := by omega
          simp [h1, this, rsF_lo h1]
      refine srnX8_change C Rt [51] 60 ?_
      simp only [k_i, s_go, s_1, e_op, e_pi, e_pl, e_pr, e_p0, e_li, e_ll, e_lr, e_lk, e_ins, e_rm, e_to, e_sw, e_cmp, k_c, k_n, k_f, k_v, k_lg, ↓reduceIte, reduceCtorEq, Nat.reduceAdd, Nat.reduceSub, Nat.reduceMul, Nat.reduceEqDiff, Nat.reduceLT, Nat.reduceLeDiff, Int.reduceAdd, Int.reduceSub, Int.reduceNeg, Int.reduceLE, Int.reduceLT, Int.reduceToNat, Int.reduceEq, Int.cast_ofNat_Int, List.mem_cons, List.not_mem_nil, List.length_cons, List.length_nil, List.set_cons_zero, List.set_cons_succ, List.toList_toArray, eq_self, true_and, and_true, and_self, or_true, true_or, false_or, or_false, or_self, not_true_eq_false, not_false_eq_true, Classical.not_not, true_implies, false_implies, implies_true, forall_const, and_false, false_and, Nat.le_refl, Nat.zero_le, Bool.false_eq_true, lv_args, s_rl_at, s_gf, s_pf, dn_q, kd_q, cl_q, nf_q, ln_q, tg_q, rr_q, cr_q, u_1, e_lsw, k_ti, List.drop_succ_cons, List.drop_zero, List.drop_nil, List.zip_cons_cons, List.zip_nil_right, List.zip_nil_left, List.all_cons, List.all_nil, Bool.and_true, Bool.and_self, decide_true, decide_false, Option.toList, List.cons_append, List.nil_append, List.append_nil, DX8_change_0, DX8_change_1, DX8_change_2, DX8_change_3, FLX8, LDX8, uX_1, uX_2, x_cl (a := i) (by omega), x_in (a := i) (n := 60) (by omega), hb, hck, b2i_0, nI_1, Int32.add_zero]
      have fin : ∀ (m : Nat) (v : Int32), m = cntU S x (i + 1) → v = (if RU S x (i + 1) i = true then 0 else b2i (chC S i)) → V 0 0 51 [(0, .ref (ad A 30 0)), (1, .int x), (2, .int d), (3, .int (nI m)), (4, .int (nI (i + 1))), (5, .int (nI (fcC S i)))] [] (gS A (uI (uX (uX T 43 (ckX (RU S x i) i (T.1 43 0))) 50 (bX (RU S x (i + 1)) (i + 1) (T.1 50 0))) 43 0 i v)) := by
        intro m v hm hv
        rw [key v hv, hm]
        exact w_pre C h9
      cases hr : RU S x (i + 1) i <;> cases hcc : chC S i <;> simp only [hi60, true_and, not_true_eq_false, not_false_eq_true, false_implies, true_implies, forall_const, and_true, Bool.true_eq_false, reduceCtorEq]
      · exact fin _ _ (by simp [cntU, hr, hcc]) (by simp [hr, hcc, b2i])
      · exact fin _ _ (by simp [cntU, hr, hcc]) (by simp [hr, hcc, b2i])
      · exact fin _ _ (by simp [cntU, hr, hcc]) (by simp [hr, hcc, b2i])
      · exact fin _ _ (by simp [cntU, hr, hcc]) (by simp [hr, hcc, b2i])
    have h8 := lp_X8_change2 (T := uX T 43 (ckX (RU S x i) i (T.1 43 0))) (S := S) (g := T.1 50 0) (x := x) (d := d) C Rt hi60 hwi hF2 (RU S x i) (am (S.1 7 i) x (tcC S i)) h190 (fcC S i) 0 (by omega)
    simp only [anyB, Bool.or_false] at h8
    exact h8
end
abbrev chT (T S : pS) (x d : Int32) : pS := uI (uI (t0 T) 32 0 (nN x) d) 33 0 (nN x) (S.1 3 0 (nN x) + 1)
def chgM (T S : pS) (n : Nat) (x d : Int32) : pS := if ¬ S.1 11 0 1 = 0 then t0 T else if inr x 16 = false then t0 T else uX (uX (chT T S x d) 43 (ckX (RU S x n) n (T.1 43 0))) 50 (bX (RU S x n) n (T.1 50 0))
set_option maxHeartbeats 4000000 in
set_option maxRecDepth 100000 in
theorem m_X8_change (l : Launch) (A : pA) (T S : pS) {n : Nat} (hB : wfB S n) (hD : rD T S) (hT : rT T S) (hR : rB T S n) (hc : ∀ i, i < n → S.1 6 i 2 = b2i (chC S i)) (x d : Int32) : e_MX8_change l [.ref (ad A 30 0), .int x, .int d] (gS A T) (s_P A (isP ((chgC S n x d).1, chgM T S n x d))) := by
  obtain ⟨t1, t2⟩ := hT
  refine ofX8_change (Nat.le_of_ble_eq_true rfl) ?_
  intro V C Rt
  unfold rD at hD
  refine srnX8_change C Rt [] 20 ?_
  simp only [k_i, s_go, s_1, e_op, e_pi, e_pl, e_pr, e_p0, e_li, e_ll, e_lr, e_lk, e_ins, e_rm, e_to, e_sw, e_cmp, k_c, k_n, k_f, k_v, k_lg, ↓reduceIte, reduceCtorEq, Nat.reduceAdd, Nat.reduceSub, Nat.reduceMul, Nat.reduceEqDiff, Nat.reduceLT, Nat.reduceLeDiff, Int.reduceAdd, Int.reduceSub, Int.reduceNeg, Int.reduceLE, Int.reduceLT, Int.reduceToNat, Int.reduceEq, Int.cast_ofNat_Int, List.mem_cons, List.not_mem_nil, List.length_cons, List.length_nil, List.set_cons_zero, List.set_cons_succ, List.toList_toArray, eq_self, true_and, and_true, and_self, or_true, true_or, false_or, or_false, or_self, not_true_eq_false, not_false_eq_true, Classical.not_not, true_implies, false_implies, implies_true, forall_const, and_false, false_and, Nat.le_refl, Nat.zero_le, Bool.false_eq_true, lv_args, s_rl_at, s_gf, s_pf, dn_q, kd_q, cl_q, nf_q, ln_q, tg_q, rr_q, cr_q, u_1, e_lsw, k_ti, List.drop_succ_cons, List.drop_zero, List.drop_nil, List.zip_cons_cons, List.zip_nil_right, List.zip_nil_left, List.all_cons, List.all_nil, Bool.and_true, Bool.and_self, decide_true, decide_false, Option.toList, List.cons_append, List.nil_append, List.append_nil, DX8_change_0, DX8_change_1, DX8_change_2, DX8_change_3, FLX8, LDX8, hD]
  refine ⟨fun hd => ?_, fun hd => by simp [isP, chgC, chgM, hd]⟩
  refine sX8_change_21 C (m_inr l _ x (n := 16) (by decide)) (hcat := Nat.le_of_ble_eq_true rfl) (k := ?_)
  rintro v2 G2 ⟨rfl, rfl⟩
  cases hx : inr x 16 with
  | false =>
    refine srnX8_change C Rt [] 40 ?_
    simp only [k_i, s_go, s_1, e_op, e_pi, e_pl, e_pr, e_p0, e_li, e_ll, e_lr, e_lk, e_ins, e_rm, e_to, e_sw, e_cmp, k_c, k_n, k_f, k_v, k_lg, ↓reduceIte, reduceCtorEq, Nat.reduceAdd, Nat.reduceSub, Nat.reduceMul, Nat.reduceEqDiff, Nat.reduceLT, Nat.reduceLeDiff, Int.reduceAdd, Int.reduceSub, Int.reduceNeg, Int.reduceLE, Int.reduceLT, Int.reduceToNat, Int.reduceEq, Int.cast_ofNat_Int, List.mem_cons, List.not_mem_nil, List.length_cons, List.length_nil, List.set_cons_zero, List.set_cons_succ, List.toList_toArray, eq_self, true_and, and_true, and_self, or_true, true_or, false_or, or_false, or_self, not_true_eq_false, not_false_eq_true, Classical.not_not, true_implies, false_implies, implies_true, forall_const, and_false, false_and, Nat.le_refl, Nat.zero_le, Bool.false_eq_true, lv_args, s_rl_at, s_gf, s_pf, dn_q, kd_q, cl_q, nf_q, ln_q, tg_q, rr_q, cr_q, u_1, e_lsw, k_ti, List.drop_succ_cons, List.drop_zero, List.drop_nil, List.zip_cons_cons, List.zip_nil_right, List.zip_nil_left, List.all_cons, List.all_nil, Bool.and_true, Bool.and_self, decide_true, decide_false, Option.toList, List.cons_append, List.nil_append, List.append_nil, DX8_change_0, DX8_change_1, DX8_change_2, DX8_change_3, FLX8, LDX8, b2i_f]
    simp [isP, chgC, chgM, hd, hx]
  | true =>
    obtain ⟨j, hj, rfl⟩ := inr_of (by omega) hx
    have eN := nN_nI (show j < 2147483648 by omega)
    refine srnX8_change C Rt [51] 40 ?_
    simp only [k_i, s_go, s_1, e_op, e_pi, e_pl, e_pr, e_p0, e_li, e_ll, e_lr, e_lk, e_ins, e_rm, e_to, e_sw, e_cmp, k_c, k_n, k_f, k_v, k_lg, ↓reduceIte, reduceCtorEq, Nat.reduceAdd, Nat.reduceSub, Nat.reduceMul, Nat.reduceEqDiff, Nat.reduceLT, Nat.reduceLeDiff, Int.reduceAdd, Int.reduceSub, Int.reduceNeg, Int.reduceLE, Int.reduceLT, Int.reduceToNat, Int.reduceEq, Int.cast_ofNat_Int, List.mem_cons, List.not_mem_nil, List.length_cons, List.length_nil, List.set_cons_zero, List.set_cons_succ, List.toList_toArray, eq_self, true_and, and_true, and_self, or_true, true_or, false_or, or_false, or_self, not_true_eq_false, not_false_eq_true, Classical.not_not, true_implies, false_implies, implies_true, forall_const, and_false, false_and, Nat.le_refl, Nat.zero_le, Bool.false_eq_true, lv_args, s_rl_at, s_gf, s_pf, dn_q, kd_q, cl_q, nf_q, ln_q, tg_q, rr_q, cr_q, u_1, e_lsw, k_ti, List.drop_succ_cons, List.drop_zero, List.drop_nil, List.zip_cons_cons, List.zip_nil_right, List.zip_nil_left, List.all_cons, List.all_nil, Bool.and_true, Bool.and_self, decide_true, decide_false, Option.toList, List.cons_append, List.nil_append, List.append_nil, DX8_change_0, DX8_change_1, DX8_change_2, DX8_change_3, FLX8, LDX8, b2i_t, x_cl (a := j) (by omega), x_in (a := j) (n := 16) (by omega), t2]
    refine ⟨hj, hj, hj, ?_⟩
    have hR2 : rB (uI (uI (t0 T) 32 0 j d) 33 0 j (S.1 3 0 j + 1)) S n := ⟨hR.1, fun i hi => rF_uI (by omega) (rF_uI (by omega) (rF_uI (by omega) (hR.2 i hi)))⟩
    have h9 := lp_X8_change (T := uI (uI (t0 T) 32 0 j d) 33 0 j (S.1 3 0 j + 1)) (S := S) (d := d) (x := nI j) C Rt hB hR2 hc ?_ n 0 (by omega)
    · rw [uX_id (T := uX _ _ _) (fun p => by simp [bX, uX_1]), uX_id (fun p => by simp [ckX])] at h9
      exact h9
    · have h8 := cntU_S (S := S) (S2 := uI (uI S 2 0 j d) 3 0 j (S.1 3 0 j + 1)) (x := nI j) rfl rfl rfl n
      simp only [isP, chgC, chgM, chT, hd, hx, eN, h8.1]
      exact ⟨rfl, rfl⟩
