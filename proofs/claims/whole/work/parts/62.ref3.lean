/-! the reference: told, item, set, shelf, swap, move, disk, poke -/
def uX (T : pS) (k : Nat) (f : Nat → Int32) : pS := (fun k' i' j' => if k' = k ∧ i' = 0 then f j' else T.1 k' i' j', T.2)
theorem uX_1 (T : pS) (k : Nat) (f : Nat → Int32) (k' i' j' : Nat) : (uX T k f).1 k' i' j' = if k' = k ∧ i' = 0 then f j' else T.1 k' i' j' := rfl
theorem uX_2 (T : pS) (k : Nat) (f : Nat → Int32) : (uX T k f).2 = T.2 := rfl
theorem uX_s {T : pS} {k j : Nat} {f : Nat → Int32} {v : Int32} : uI (uX T k f) k 0 j v = uX T k (fun j' => if j' = j then v else f j') := by
  refine Prod.ext ?_ rfl
  funext k' i' j'
  simp only [u_1, uX_1]
  by_cases h : k' = k ∧ i' = 0
  · obtain ⟨rfl, rfl⟩ := h
    simp
  · have h2 : ¬ (k' = k ∧ i' = 0 ∧ j' = j) := fun z => h ⟨z.1, z.2.1⟩
    simp [h, h2]
theorem uX_id {T : pS} {k : Nat} {f : Nat → Int32} (h : ∀ j, f j = T.1 k 0 j) : uX T k f = T := by
  refine Prod.ext ?_ rfl
  funext k' i' j'
  rw [uX_1]
  by_cases h1 : k' = k ∧ i' = 0
  · obtain ⟨rfl, rfl⟩ := h1
    simp [h]
  · simp [h1]
set_option maxHeartbeats 4000000 in
set_option maxRecDepth 100000 in
theorem m_X8_told (l : Launch) (A : pA) (T S : pS) {n : Nat} (hD : rD T S) (hK : rK T S) (hB : T.1 30 0 3 = nI n) (hc : S.1 4 0 1 = nI n) (w : Int32) : e_MX8_told l [.ref (ad A 30 0), .int w] (gS A T) (s_P A (isP (tldC S w, t0 T))) := by
  obtain ⟨k1, k2, k3, k4, k5, k6, k7, k8⟩ := hK
  refine ofX8_told (Nat.le_of_ble_eq_true rfl) ?_
  intro V C Rt
  unfold rD at hD
  refine srnX8_told C Rt [] 40 ?_
  simp only [k_i, s_go, s_1, e_op, e_pi, e_pl, e_pr, e_p0, e_li, e_ll, e_lr, e_lk, e_ins, e_rm, e_to, e_sw, e_cmp, k_c, k_n, k_f, k_v, k_lg, ↓reduceIte, reduceCtorEq, Nat.reduceAdd, Nat.reduceSub, Nat.reduceMul, Nat.reduceEqDiff, Nat.reduceLT, Nat.reduceLeDiff, Int.reduceAdd, Int.reduceSub, Int.reduceNeg, Int.reduceLE, Int.reduceLT, Int.reduceToNat, Int.reduceEq, Int.cast_ofNat_Int, List.mem_cons, List.not_mem_nil, List.length_cons, List.length_nil, List.set_cons_zero, List.set_cons_succ, List.toList_toArray, eq_self, true_and, and_true, and_self, or_true, true_or, false_or, or_false, or_self, not_true_eq_false, not_false_eq_true, Classical.not_not, true_implies, false_implies, implies_true, forall_const, and_false, false_and, Nat.le_refl, Nat.zero_le, Bool.false_eq_true, lv_args, s_rl_at, s_gf, s_pf, dn_q, kd_q, cl_q, nf_q, ln_q, tg_q, rr_q, cr_q, u_1, e_lsw, k_ti, List.drop_succ_cons, List.drop_zero, List.drop_nil, List.zip_cons_cons, List.zip_nil_right, List.zip_nil_left, List.all_cons, List.all_nil, Bool.and_true, Bool.and_self, decide_true, decide_false, Option.toList, List.cons_append, List.nil_append, List.append_nil, DX8_told_0, DX8_told_1, FLX8, LDX8, hD, hB, k2, k3, k4, k6]
  refine ⟨fun h0 => ?_, fun h0 => ⟨fun h1 => ?_, fun h1 => ⟨fun h2 => ?_, fun h2 => ⟨fun h3 => ?_, fun h3 => ⟨fun h4 => ?_, fun h4 => ⟨fun h5 => ?_, fun h5 => ⟨fun h6 => ?_, fun h6 => ⟨fun h7 => ?_, fun h7 => ?_⟩⟩⟩⟩⟩⟩⟩⟩
  · simp [isP, tldC, h0, hc]
  · simp [isP, tldC, h1]
  · simp [isP, tldC, h2]
  · simp [isP, tldC, h3]
  · simp [isP, tldC, h4]
  · refine ⟨fun h => ?_, fun h => ?_⟩ <;> simp [isP, tldC, h5, h]
  · subst h6
    refine ⟨fun h => ?_, fun h => ?_⟩
    · simp [isP, tldC, (k7 h).1]
    · refine ⟨vp_in_iff.mpr (by decide), ?_⟩
      have := (k8 h).1
      simp [isP, tldC, ← this]
  · subst h7
    refine ⟨fun h => ?_, fun h => ?_⟩
    · simp [isP, tldC, (k7 h).2]
    · refine ⟨vp_in_iff.mpr (by decide), ?_⟩
      have := (k8 h).2
      simp [isP, tldC, ← this]
  · simp [isP, tldC, h0, h1, h2, h3, h4, h5, h6, h7]
theorem spn_1 {i : Int32} {L : Nat} (hL : L ≤ 4000) : spn i 1 L = inr i L := by
  unfold spn inr
  apply decide_eq_decide.mpr
  have h9 : ((1 : Int32)).toInt = 1 := by decide
  omega
theorem hm_L {L : Nat} (hL : L ≤ 4000) : ((nI L - 1).toInt64).toInt + 1 = L := by
  rw [i64_toInt]
  cases L with
  | zero => decide
  | succ n =>
    rw [nI_pred, nI_toInt (by omega)]
    omega
set_option maxHeartbeats 4000000 in
set_option maxRecDepth 100000 in
theorem m_X8_item (l : Launch) (A : pA) (T S : pS) {b c : Nat} (hD : rD T S) (hw : wfO S b c) (hO : rO T S b c) (i : Int32) : e_MX8_item l [.ref (ad A 30 0), .int i] (gS A T) (s_P A (isP (itmC S b i, t0 T))) := by
  obtain ⟨o1, o2, o3, o4, o5, o6⟩ := hO
  obtain ⟨-, -, hb, hc, hne, ⟨hl, hL⟩, -⟩ := hw
  rw [hl] at o2
  refine ofX8_item (Nat.le_of_ble_eq_true rfl) ?_
  intro V C Rt
  unfold rD at hD
  refine srnX8_item C Rt [] 40 ?_
  simp only [k_i, s_go, s_1, e_op, e_pi, e_pl, e_pr, e_p0, e_li, e_ll, e_lr, e_lk, e_ins, e_rm, e_to, e_sw, e_cmp, k_c, k_n, k_f, k_v, k_lg, ↓reduceIte, reduceCtorEq, Nat.reduceAdd, Nat.reduceSub, Nat.reduceMul, Nat.reduceEqDiff, Nat.reduceLT, Nat.reduceLeDiff, Int.reduceAdd, Int.reduceSub, Int.reduceNeg, Int.reduceLE, Int.reduceLT, Int.reduceToNat, Int.reduceEq, Int.cast_ofNat_Int, List.mem_cons, List.not_mem_nil, List.length_cons, List.length_nil, List.set_cons_zero, List.set_cons_succ, List.toList_toArray, eq_self, true_and, and_true, and_self, or_true, true_or, false_or, or_false, or_self, not_true_eq_false, not_false_eq_true, Classical.not_not, true_implies, false_implies, implies_true, forall_const, and_false, false_and, Nat.le_refl, Nat.zero_le, Bool.false_eq_true, lv_args, s_rl_at, s_gf, s_pf, dn_q, kd_q, cl_q, nf_q, ln_q, tg_q, rr_q, cr_q, u_1, e_lsw, k_ti, List.drop_succ_cons, List.drop_zero, List.drop_nil, List.zip_cons_cons, List.zip_nil_right, List.zip_nil_left, List.all_cons, List.all_nil, Bool.and_true, Bool.and_self, decide_true, decide_false, Option.toList, List.cons_append, List.nil_append, List.append_nil, DX8_item_0, FLX8, LDX8, hD, o1, o2]
  refine ⟨fun hd => ⟨fun h => ⟨fun h2 => ?_, fun h2 => ?_⟩, fun h => by simp [isP, itmC, hd, h]⟩, fun hd => by simp [isP, itmC, hd]⟩
  · refine sX8_item_47 C (m_inr l _ i (hm_L hL)) (hcat := Nat.le_of_ble_eq_true rfl) (k := ?_)
    rintro v2 G2 ⟨rfl, rfl⟩
    cases hx : inr i (nN (S.1 20 b 1)) with
    | false =>
      refine srnX8_item C Rt [] 40 ?_
      simp only [k_i, s_go, s_1, e_op, e_pi, e_pl, e_pr, e_p0, e_li, e_ll, e_lr, e_lk, e_ins, e_rm, e_to, e_sw, e_cmp, k_c, k_n, k_f, k_v, k_lg, ↓reduceIte, reduceCtorEq, Nat.reduceAdd, Nat.reduceSub, Nat.reduceMul, Nat.reduceEqDiff, Nat.reduceLT, Nat.reduceLeDiff, Int.reduceAdd, Int.reduceSub, Int.reduceNeg, Int.reduceLE, Int.reduceLT, Int.reduceToNat, Int.reduceEq, Int.cast_ofNat_Int, List.mem_cons, List.not_mem_nil, List.length_cons, List.length_nil, List.set_cons_zero, List.set_cons_succ, List.toList_toArray, eq_self, true_and, and_true, and_self, or_true, true_or, false_or, or_false, or_self, not_true_eq_false, not_false_eq_true, Classical.not_not, true_implies, false_implies, implies_true, forall_const, and_false, false_and, Nat.le_refl, Nat.zero_le, Bool.false_eq_true, lv_args, s_rl_at, s_gf, s_pf, dn_q, kd_q, cl_q, nf_q, ln_q, tg_q, rr_q, cr_q, u_1, e_lsw, k_ti, List.drop_succ_cons, List.drop_zero, List.drop_nil, List.zip_cons_cons, List.zip_nil_right, List.zip_nil_left, List.all_cons, List.all_nil, Bool.and_true, Bool.and_self, decide_true, decide_false, Option.toList, List.cons_append, List.nil_append, List.append_nil, DX8_item_0, FLX8, LDX8, b2i_f]
      simp [isP, itmC, hd, h, h2, spn_1 hL, hx]
    | true =>
      obtain ⟨j, hj, rfl⟩ := inr_of (by omega) hx
      refine srnX8_item C Rt [] 40 ?_
      simp only [k_i, s_go, s_1, e_op, e_pi, e_pl, e_pr, e_p0, e_li, e_ll, e_lr, e_lk, e_ins, e_rm, e_to, e_sw, e_cmp, k_c, k_n, k_f, k_v, k_lg, ↓reduceIte, reduceCtorEq, Nat.reduceAdd, Nat.reduceSub, Nat.reduceMul, Nat.reduceEqDiff, Nat.reduceLT, Nat.reduceLeDiff, Int.reduceAdd, Int.reduceSub, Int.reduceNeg, Int.reduceLE, Int.reduceLT, Int.reduceToNat, Int.reduceEq, Int.cast_ofNat_Int, List.mem_cons, List.not_mem_nil, List.length_cons, List.length_nil, List.set_cons_zero, List.set_cons_succ, List.toList_toArray, eq_self, true_and, and_true, and_self, or_true, true_or, false_or, or_false, or_self, not_true_eq_false, not_false_eq_true, Classical.not_not, true_implies, false_implies, implies_true, forall_const, and_false, false_and, Nat.le_refl, Nat.zero_le, Bool.false_eq_true, lv_args, s_rl_at, s_gf, s_pf, dn_q, kd_q, cl_q, nf_q, ln_q, tg_q, rr_q, cr_q, u_1, e_lsw, k_ti, List.drop_succ_cons, List.drop_zero, List.drop_nil, List.zip_cons_cons, List.zip_nil_right, List.zip_nil_left, List.all_cons, List.all_nil, Bool.and_true, Bool.and_self, decide_true, decide_false, Option.toList, List.cons_append, List.nil_append, List.append_nil, DX8_item_0, FLX8, LDX8, b2i_t, x_cl (a := j) (by omega), x_in (a := j) (n := 4000) (by omega), o3 j (by omega)]
      refine ⟨by omega, ?_⟩
      simp [isP, itmC, hd, h, h2, spn_1 hL, hx, nN_nI (show j < 2147483648 by omega)]
  · simp [isP, itmC, hd, h, h2, ← hl]
def setM (T S : pS) (b : Nat) (i v : Int32) : pS := if ¬ S.1 11 0 1 = 0 then t0 T else if S.1 20 b 0 = 0 then t0 T else if spn i 1 (nN (S.1 20 b 1)) = false then t0 T else uI (t0 T) 68 0 (nN i) (if S.1 20 b 0 = 1 then v &&& 255 else v)
set_option maxHeartbeats 4000000 in
set_option maxRecDepth 100000 in
theorem m_X8_set (l : Launch) (A : pA) (T S : pS) {b c : Nat} (hD : rD T S) (hw : wfO S b c) (hO : rO T S b c) (i v : Int32) : e_MX8_set l [.ref (ad A 30 0), .int i, .int v] (gS A T) (s_P A (isP ((setC S b i v).1, setM T S b i v))) := by
  obtain ⟨o1, o2, o3, o4, o5, o6⟩ := hO
  obtain ⟨-, -, hb, hc, hne, ⟨hl, hL⟩, -⟩ := hw
  rw [hl] at o2
  refine ofX8_set (Nat.le_of_ble_eq_true rfl) ?_
  intro V C Rt
  unfold rD at hD
  refine srnX8_set C Rt [] 40 ?_
  simp only [k_i, s_go, s_1, e_op, e_pi, e_pl, e_pr, e_p0, e_li, e_ll, e_lr, e_lk, e_ins, e_rm, e_to, e_sw, e_cmp, k_c, k_n, k_f, k_v, k_lg, ↓reduceIte, reduceCtorEq, Nat.reduceAdd, Nat.reduceSub, Nat.reduceMul, Nat.reduceEqDiff, Nat.reduceLT, Nat.reduceLeDiff, Int.reduceAdd, Int.reduceSub, Int.reduceNeg, Int.reduceLE, Int.reduceLT, Int.reduceToNat, Int.reduceEq, Int.cast_ofNat_Int, List.mem_cons, List.not_mem_nil, List.length_cons, List.length_nil, List.set_cons_zero, List.set_cons_succ, List.toList_toArray, eq_self, true_and, and_true, and_self, or_true, true_or, false_or, or_false, or_self, not_true_eq_false, not_false_eq_true, Classical.not_not, true_implies, false_implies, implies_true, forall_const, and_false, false_and, Nat.le_refl, Nat.zero_le, Bool.false_eq_true, lv_args, s_rl_at, s_gf, s_pf, dn_q, kd_q, cl_q, nf_q, ln_q, tg_q, rr_q, cr_q, u_1, e_lsw, k_ti, List.drop_succ_cons, List.drop_zero, List.drop_nil, List.zip_cons_cons, List.zip_nil_right, List.zip_nil_left, List.all_cons, List.all_nil, Bool.and_true, Bool.and_self, decide_true, decide_false, Option.toList, List.cons_append, List.nil_append, List.append_nil, DX8_set_0, FLX8, LDX8, hD, o1, o2]
  refine ⟨fun hd => ⟨fun h => ?_, fun h => by simp [isP, setC, setM, hd, h]⟩, fun hd => by simp [isP, setC, setM, hd]⟩
  refine sX8_set_35 C (m_inr l _ i (hm_L hL)) (hcat := Nat.le_of_ble_eq_true rfl) (k := ?_)
  rintro v2 G2 ⟨rfl, rfl⟩
  cases hx : inr i (nN (S.1 20 b 1)) with
  | false =>
    refine srnX8_set C Rt [] 40 ?_
    simp only [k_i, s_go, s_1, e_op, e_pi, e_pl, e_pr, e_p0, e_li, e_ll, e_lr, e_lk, e_ins, e_rm, e_to, e_sw, e_cmp, k_c, k_n, k_f, k_v, k_lg, ↓reduceIte, reduceCtorEq, Nat.reduceAdd, Nat.reduceSub, Nat.reduceMul, Nat.reduceEqDiff, Nat.reduceLT, Nat.reduceLeDiff, Int.reduceAdd, Int.reduceSub, Int.reduceNeg, Int.reduceLE, Int.reduceLT, Int.reduceToNat, Int.reduceEq, Int.cast_ofNat_Int, List.mem_cons, List.not_mem_nil, List.length_cons, List.length_nil, List.set_cons_zero, List.set_cons_succ, List.toList_toArray, eq_self, true_and, and_true, and_self, or_true, true_or, false_or, or_false, or_self, not_true_eq_false, not_false_eq_true, Classical.not_not, true_implies, false_implies, implies_true, forall_const, and_false, false_and, Nat.le_refl, Nat.zero_le, Bool.false_eq_true, lv_args, s_rl_at, s_gf, s_pf, dn_q, kd_q, cl_q, nf_q, ln_q, tg_q, rr_q, cr_q, u_1, e_lsw, k_ti, List.drop_succ_cons, List.drop_zero, List.drop_nil, List.zip_cons_cons, List.zip_nil_right, List.zip_nil_left, List.all_cons, List.all_nil, Bool.and_true, Bool.and_self, decide_true, decide_false, Option.toList, List.cons_append, List.nil_append, List.append_nil, DX8_set_0, FLX8, LDX8, b2i_f]
    simp [isP, setC, setM, hd, h, spn_1 hL, hx]
  | true =>
    obtain ⟨j, hj, rfl⟩ := inr_of (by omega) hx
    refine srnX8_set C Rt [] 40 ?_
    simp only [k_i, s_go, s_1, e_op, e_pi, e_pl, e_pr, e_p0, e_li, e_ll, e_lr, e_lk, e_ins, e_rm, e_to, e_sw, e_cmp, k_c, k_n, k_f, k_v, k_lg, ↓reduceIte, reduceCtorEq, Nat.reduceAdd, Nat.reduceSub, Nat.reduceMul, Nat.reduceEqDiff, Nat.reduceLT, Nat.reduceLeDiff, Int.reduceAdd, Int.reduceSub, Int.reduceNeg, Int.reduceLE, Int.reduceLT, Int.reduceToNat, Int.reduceEq, Int.cast_ofNat_Int, List.mem_cons, List.not_mem_nil, List.length_cons, List.length_nil, List.set_cons_zero, List.set_cons_succ, List.toList_toArray, eq_self, true_and, and_true, and_self, or_true, true_or, false_or, or_false, or_self, not_true_eq_false, not_false_eq_true, Classical.not_not, true_implies, false_implies, implies_true, forall_const, and_false, false_and, Nat.le_refl, Nat.zero_le, Bool.false_eq_true, lv_args, s_rl_at, s_gf, s_pf, dn_q, kd_q, cl_q, nf_q, ln_q, tg_q, rr_q, cr_q, u_1, e_lsw, k_ti, List.drop_succ_cons, List.drop_zero, List.drop_nil, List.zip_cons_cons, List.zip_nil_right, List.zip_nil_left, List.all_cons, List.all_nil, Bool.and_true, Bool.and_self, decide_true, decide_false, Option.toList, List.cons_append, List.nil_append, List.append_nil, DX8_set_0, FLX8, LDX8, b2i_t, x_cl (a := j) (by omega), x_in (a := j) (n := 4000) (by omega), o1]
    refine ⟨fun h4 => ⟨by omega, ?_⟩, fun h4 => ⟨by omega, ?_⟩⟩
    · simp [isP, setC, setM, hd, h, spn_1 hL, hx, h4, nN_nI (show j < 2147483648 by omega)]
    · simp [isP, setC, setM, hd, h, spn_1 hL, hx, h4, nN_nI (show j < 2147483648 by omega)]
def shfM (T S : pS) (k n : Int32) : pS := if ¬ S.1 11 0 1 = 0 then t0 T else if inr k 2 = false ∨ ¬ n ≤ 4000 then t0 T else if n < 0 then t0 T else uX (uI (uI (t0 T) 30 0 38 (if k = 0 then 1 else 2)) 30 0 39 n) 71 (fun j => if j < nN n then 0 else T.1 71 0 j)
theorem sw_st {T : pS} {f g : Nat → Int32} {i : Nat} : uX (uX T 68 (fun j => if j < i + 1 then g j else f j)) 71 (fun j => if j < i + 1 then f j else g j) = uI (uI (uX (uX T 68 (fun j => if j < i then g j else f j)) 71 (fun j => if j < i then f j else g j)) 68 0 i (if i < i then f i else g i)) 71 0 i (if i < i then g i else f i) := by
  refine Prod.ext ?_ rfl
  funext k' i' j'
  simp only [u_1, uX_1]
  by_cases h1 : j' = i
  · subst h1
    by_cases hi : i' = 0
    · by_cases h2 : k' = 71
      · simp [h2, hi]
      · by_cases h3 : k' = 68
        · simp [h3, hi]
        · simp [h2, h3]
    · simp [hi]
  · have : (j' < i + 1) ↔ (j' < i) := by omega
    simp [h1, this]
section
variable {V : pV} {l : Launch} {A : pA} {post : Option Value → pS → Prop} {T : pS}
set_option maxHeartbeats 4000000 in
set_option maxRecDepth 100000 in
theorem lp_X8_shelf (C : e_CX8_shelf V l) (Rt : e_RX8_shelf V (s_P A post)) {k : Int32} {n : Nat} {f : Nat → Int32} (hn : n ≤ 4000) (hp : post (some (.int (nI n))) (uX T 71 (fun j => if j < n then 0 else f j))) : ∀ z i, i + z = n → V 0 0 55 [(0, .ref (ad A 30 0)), (1, .int k), (2, .int (nI n)), (3, .int (nI i))] [] (gS A (uX T 71 (fun j => if j < i then 0 else f j))) := by
  intro z
  induction z with
  | zero =>
    intro i hi
    have hi2 : i = n := by omega
    subst hi2
    refine srnX8_shelf C Rt [55] 40 ?_
    simp only [k_i, s_go, s_1, e_op, e_pi, e_pl, e_pr, e_p0, e_li, e_ll, e_lr, e_lk, e_ins, e_rm, e_to, e_sw, e_cmp, k_c, k_n, k_f, k_v, k_lg, ↓reduceIte, reduceCtorEq, Nat.reduceAdd, Nat.reduceSub, Nat.reduceMul, Nat.reduceEqDiff, Nat.reduceLT, Nat.reduceLeDiff, Int.reduceAdd, Int.reduceSub, Int.reduceNeg, Int.reduceLE, Int.reduceLT, Int.reduceToNat, Int.reduceEq, Int.cast_ofNat_Int, List.mem_cons, List.not_mem_nil, List.length_cons, List.length_nil, List.set_cons_zero, List.set_cons_succ, List.toList_toArray, eq_self, true_and, and_true, and_self, or_true, true_or, false_or, or_false, or_self, not_true_eq_false, not_false_eq_true, Classical.not_not, true_implies, false_implies, implies_true, forall_const, and_false, false_and, Nat.le_refl, Nat.zero_le, Bool.false_eq_true, lv_args, s_rl_at, s_gf, s_pf, dn_q, kd_q, cl_q, nf_q, ln_q, tg_q, rr_q, cr_q, u_1, e_lsw, k_ti, List.drop_succ_cons, List.drop_zero, List.drop_nil, List.zip_cons_cons, List.zip_nil_right, List.zip_nil_left, List.all_cons, List.all_nil, Bool.and_true, Bool.and_self, decide_true, decide_false, Option.toList, List.cons_append, List.nil_append, List.append_nil, DX8_shelf_0, DX8_shelf_1, FLX8, LDX8, x_le (a := i) (b := i) (by omega) (by omega)]
    exact hp
  | succ z ih =>
    intro i hi
    refine srnX8_shelf C Rt [55] 40 ?_
    simp only [k_i, s_go, s_1, e_op, e_pi, e_pl, e_pr, e_p0, e_li, e_ll, e_lr, e_lk, e_ins, e_rm, e_to, e_sw, e_cmp, k_c, k_n, k_f, k_v, k_lg, ↓reduceIte, reduceCtorEq, Nat.reduceAdd, Nat.reduceSub, Nat.reduceMul, Nat.reduceEqDiff, Nat.reduceLT, Nat.reduceLeDiff, Int.reduceAdd, Int.reduceSub, Int.reduceNeg, Int.reduceLE, Int.reduceLT, Int.reduceToNat, Int.reduceEq, Int.cast_ofNat_Int, List.mem_cons, List.not_mem_nil, List.length_cons, List.length_nil, List.set_cons_zero, List.set_cons_succ, List.toList_toArray, eq_self, true_and, and_true, and_self, or_true, true_or, false_or, or_false, or_self, not_true_eq_false, not_false_eq_true, Classical.not_not, true_implies, false_implies, implies_true, forall_const, and_false, false_and, Nat.le_refl, Nat.zero_le, Bool.false_eq_true, lv_args, s_rl_at, s_gf, s_pf, dn_q, kd_q, cl_q, nf_q, ln_q, tg_q, rr_q, cr_q, u_1, e_lsw, k_ti, List.drop_succ_cons, List.drop_zero, List.drop_nil, List.zip_cons_cons, List.zip_nil_right, List.zip_nil_left, List.all_cons, List.all_nil, Bool.and_true, Bool.and_self, decide_true, decide_false, Option.toList, List.cons_append, List.nil_append, List.append_nil, DX8_shelf_0, DX8_shelf_1, FLX8, LDX8, x_le (a := n) (b := i) (by omega) (by omega), uX_1, uX_2, x_cl (a := i) (by omega), x_in (a := i) (n := 4000) (by omega), nI_1]
    refine ⟨fun h => by omega, fun _ => ⟨by omega, ?_⟩⟩
    rw [uX_s]
    have h9 := ih (i + 1) (by omega)
    have e : (fun j' => if j' = i then (0 : Int32) else if j' < i then 0 else f j') = (fun j => if j < i + 1 then 0 else f j) := by
      funext j'
      by_cases h1 : j' = i
      · simp [h1]
      · have : (j' < i + 1) ↔ (j' < i) := by omega
        simp [h1, this]
    rw [e]
    exact h9
set_option maxHeartbeats 4000000 in
set_option maxRecDepth 100000 in
theorem lp_X8_swap (C : e_CX8_swap V l) (Rt : e_RX8_swap V (s_P A post)) {f g : Nat → Int32} (hx : ∀ q : Int32, V 0 0 56 [(0, .ref (ad A 30 0)), (1, .int (nI 4000)), (2, .int q)] [] (gS A (uX (uX T 68 (fun j => if j < 4000 then g j else f j)) 71 (fun j => if j < 4000 then f j else g j)))) : ∀ z i, i + z = 4000 → ∀ q : Int32, V 0 0 17 [(0, .ref (ad A 30 0)), (1, .int (nI i)), (2, .int q)] [] (gS A (uX (uX T 68 (fun j => if j < i then g j else f j)) 71 (fun j => if j < i then f j else g j))) := by
  intro z
  induction z with
  | zero =>
    intro i hi q
    have hi2 : i = 4000 := by omega
    subst hi2
    refine srnX8_swap C Rt [17, 56] 40 ?_
    simp only [k_i, s_go, s_1, e_op, e_pi, e_pl, e_pr, e_p0, e_li, e_ll, e_lr, e_lk, e_ins, e_rm, e_to, e_sw, e_cmp, k_c, k_n, k_f, k_v, k_lg, ↓reduceIte, reduceCtorEq, Nat.reduceAdd, Nat.reduceSub, Nat.reduceMul, Nat.reduceEqDiff, Nat.reduceLT, Nat.reduceLeDiff, Int.reduceAdd, Int.reduceSub, Int.reduceNeg, Int.reduceLE, Int.reduceLT, Int.reduceToNat, Int.reduceEq, Int.cast_ofNat_Int, List.mem_cons, List.not_mem_nil, List.length_cons, List.length_nil, List.set_cons_zero, List.set_cons_succ, List.toList_toArray, eq_self, true_and, and_true, and_self, or_true, true_or, false_or, or_false, or_self, not_true_eq_false, not_false_eq_true, Classical.not_not, true_implies, false_implies, implies_true, forall_const, and_false, false_and, Nat.le_refl, Nat.zero_le, Bool.false_eq_true, lv_args, s_rl_at, s_gf, s_pf, dn_q, kd_q, cl_q, nf_q, ln_q, tg_q, rr_q, cr_q, u_1, e_lsw, k_ti, List.drop_succ_cons, List.drop_zero, List.drop_nil, List.zip_cons_cons, List.zip_nil_right, List.zip_nil_left, List.all_cons, List.all_nil, Bool.and_true, Bool.and_self, decide_true, decide_false, Option.toList, List.cons_append, List.nil_append, List.append_nil, DX8_swap_0, DX8_swap_1, FLX8, LDX8, (show (4000 : Int32) = nI 4000 from rfl), x_le (a := 4000) (b := 4000) (by omega) (by omega)]
    exact hx q
  | succ z ih =>
    intro i hi q
    refine srnX8_swap C Rt [17, 56] 40 ?_
    simp only [k_i, s_go, s_1, e_op, e_pi, e_pl, e_pr, e_p0, e_li, e_ll, e_lr, e_lk, e_ins, e_rm, e_to, e_sw, e_cmp, k_c, k_n, k_f, k_v, k_lg, ↓reduceIte, reduceCtorEq, Nat.reduceAdd, Nat.reduceSub, Nat.reduceMul, Nat.reduceEqDiff, Nat.reduceLT, Nat.reduceLeDiff, Int.reduceAdd, Int.reduceSub, Int.reduceNeg, Int.reduceLE, Int.reduceLT, Int.reduceToNat, Int.reduceEq, Int.cast_ofNat_Int, List.mem_cons, List.not_mem_nil, List.length_cons, List.length_nil, List.set_cons_zero, List.set_cons_succ, List.toList_toArray, eq_self, true_and, and_true, and_self, or_true, true_or, false_or, or_false, or_self, not_true_eq_false, not_false_eq_true, Classical.not_not, true_implies, false_implies, implies_true, forall_const, and_false, false_and, Nat.le_refl, Nat.zero_le, Bool.false_eq_true, lv_args, s_rl_at, s_gf, s_pf, dn_q, kd_q, cl_q, nf_q, ln_q, tg_q, rr_q, cr_q, u_1, e_lsw, k_ti, List.drop_succ_cons, List.drop_zero, List.drop_nil, List.zip_cons_cons, List.zip_nil_right, List.zip_nil_left, List.all_cons, List.all_nil, Bool.and_true, Bool.and_self, decide_true, decide_false, Option.toList, List.cons_append, List.nil_append, List.append_nil, DX8_swap_0, DX8_swap_1, FLX8, LDX8, (show (4000 : Int32) = nI 4000 from rfl), x_le (a := 4000) (b := i) (by omega) (by omega), uX_1, uX_2, x_cl (a := i) (by omega), x_in (a := i) (n := 4000) (by omega), nI_1]
    refine ⟨fun h => by omega, fun _ => ⟨by omega, by omega, by omega, by omega, ?_⟩⟩
    have h9 := ih (i + 1) (by omega) (if i < i then g i else f i)
    rw [sw_st] at h9
    exact h9
end
def swpM (T S : pS) : pS := if ¬ S.1 11 0 1 = 0 then t0 T else uI (uI (uI (uI (uX (uX (t0 T) 68 (fun j => if j < 4000 then T.1 71 0 j else T.1 68 0 j)) 71 (fun j => if j < 4000 then T.1 68 0 j else T.1 71 0 j)) 30 0 35 (T.1 30 0 38)) 30 0 38 (T.1 30 0 35)) 30 0 36 (T.1 30 0 39)) 30 0 39 (T.1 30 0 36)
set_option maxHeartbeats 4000000 in
set_option maxRecDepth 100000 in
theorem m_X8_swap (l : Launch) (A : pA) (T S : pS) {b c : Nat} (hD : rD T S) (hO : rO T S b c) : e_MX8_swap l [.ref (ad A 30 0)] (gS A T) (s_P A (isP ((swpC S b c).1, swpM T S))) := by
  obtain ⟨o1, o2, o3, o4, o5, o6⟩ := hO
  refine ofX8_swap (Nat.le_of_ble_eq_true rfl) ?_
  intro V C Rt
  unfold rD at hD
  refine srnX8_swap C Rt [17] 20 ?_
  simp only [k_i, s_go, s_1, e_op, e_pi, e_pl, e_pr, e_p0, e_li, e_ll, e_lr, e_lk, e_ins, e_rm, e_to, e_sw, e_cmp, k_c, k_n, k_f, k_v, k_lg, ↓reduceIte, reduceCtorEq, Nat.reduceAdd, Nat.reduceSub, Nat.reduceMul, Nat.reduceEqDiff, Nat.reduceLT, Nat.reduceLeDiff, Int.reduceAdd, Int.reduceSub, Int.reduceNeg, Int.reduceLE, Int.reduceLT, Int.reduceToNat, Int.reduceEq, Int.cast_ofNat_Int, List.mem_cons, List.not_mem_nil, List.length_cons, List.length_nil, List.set_cons_zero, List.set_cons_succ, List.toList_toArray, eq_self, true_and, and_true, and_self, or_true, true_or, false_or, or_false, or_self, not_true_eq_false, not_false_eq_true, Classical.not_not, true_implies, false_implies, implies_true, forall_const, and_false, false_and, Nat.le_refl, Nat.zero_le, Bool.false_eq_true, lv_args, s_rl_at, s_gf, s_pf, dn_q, kd_q, cl_q, nf_q, ln_q, tg_q, rr_q, cr_q, u_1, e_lsw, k_ti, List.drop_succ_cons, List.drop_zero, List.drop_nil, List.zip_cons_cons, List.zip_nil_right, List.zip_nil_left, List.all_cons, List.all_nil, Bool.and_true, Bool.and_self, decide_true, decide_false, Option.toList, List.cons_append, List.nil_append, List.append_nil, DX8_swap_0, DX8_swap_1, FLX8, LDX8, hD]
  refine ⟨fun hd => ?_, fun hd => by simp [isP, swpC, swpM, hd]⟩
  have hl := lp_X8_swap (T := t0 T) (f := T.1 68 0) (g := T.1 71 0) C Rt (fun q => ?_) 3999 1 rfl (T.1 68 0 0)
  · have e0 : (1 : Nat) = 0 + 1 := rfl
    rw [e0, sw_st, uX_id (T := uX (t0 T) 68 _) (fun j => by rw [uX_1]; simp; rfl), uX_id (fun j => by simp; rfl)] at hl
    refine srnX8_swap C Rt [17] 40 ?_
    simp only [k_i, s_go, s_1, e_op, e_pi, e_pl, e_pr, e_p0, e_li, e_ll, e_lr, e_lk, e_ins, e_rm, e_to, e_sw, e_cmp, k_c, k_n, k_f, k_v, k_lg, ↓reduceIte, reduceCtorEq, Nat.reduceAdd, Nat.reduceSub, Nat.reduceMul, Nat.reduceEqDiff, Nat.reduceLT, Nat.reduceLeDiff, Int.reduceAdd, Int.reduceSub, Int.reduceNeg, Int.reduceLE, Int.reduceLT, Int.reduceToNat, Int.reduceEq, Int.cast_ofNat_Int, List.mem_cons, List.not_mem_nil, List.length_cons, List.length_nil, List.set_cons_zero, List.set_cons_succ, List.toList_toArray, eq_self, true_and, and_true, and_self, or_true, true_or, false_or, or_false, or_self, not_true_eq_false, not_false_eq_true, Classical.not_not, true_implies, false_implies, implies_true, forall_const, and_false, false_and, Nat.le_refl, Nat.zero_le, Bool.false_eq_true, lv_args, s_rl_at, s_gf, s_pf, dn_q, kd_q, cl_q, nf_q, ln_q, tg_q, rr_q, cr_q, u_1, e_lsw, k_ti, List.drop_succ_cons, List.drop_zero, List.drop_nil, List.zip_cons_cons, List.zip_nil_right, List.zip_nil_left, List.all_cons, List.all_nil, Bool.and_true, Bool.and_self, decide_true, decide_false, Option.toList, List.cons_append, List.nil_append, List.append_nil, DX8_swap_0, DX8_swap_1, FLX8, LDX8, (show (0 : Int32).toNatClampNeg = 0 by decide), (show ((4000 : Int32) ≤ 0) = False by decide), (show vp_in 0 4000 from vp_in_iff.mpr (by decide))]
    exact hl
  · refine srnX8_swap C Rt [] 40 ?_
    simp only [k_i, s_go, s_1, e_op, e_pi, e_pl, e_pr, e_p0, e_li, e_ll, e_lr, e_lk, e_ins, e_rm, e_to, e_sw, e_cmp, k_c, k_n, k_f, k_v, k_lg, ↓reduceIte, reduceCtorEq, Nat.reduceAdd, Nat.reduceSub, Nat.reduceMul, Nat.reduceEqDiff, Nat.reduceLT, Nat.reduceLeDiff, Int.reduceAdd, Int.reduceSub, Int.reduceNeg, Int.reduceLE, Int.reduceLT, Int.reduceToNat, Int.reduceEq, Int.cast_ofNat_Int, List.mem_cons, List.not_mem_nil, List.length_cons, List.length_nil, List.set_cons_zero, List.set_cons_succ, List.toList_toArray, eq_self, true_and, and_true, and_self, or_true, true_or, false_or, or_false, or_self, not_true_eq_false, not_false_eq_true, Classical.not_not, true_implies, false_implies, implies_true, forall_const, and_false, false_and, Nat.le_refl, Nat.zero_le, Bool.false_eq_true, lv_args, s_rl_at, s_gf, s_pf, dn_q, kd_q, cl_q, nf_q, ln_q, tg_q, rr_q, cr_q, u_1, e_lsw, k_ti, List.drop_succ_cons, List.drop_zero, List.drop_nil, List.zip_cons_cons, List.zip_nil_right, List.zip_nil_left, List.all_cons, List.all_nil, Bool.and_true, Bool.and_self, decide_true, decide_false, Option.toList, List.cons_append, List.nil_append, List.append_nil, DX8_swap_0, DX8_swap_1, FLX8, LDX8, uX_1, uX_2]
    simp [isP, swpC, swpM, hd, o4]
def cpX (f g : Nat → Int32) (i j n : Nat) : Nat → Int32 := fun p => if j ≤ p ∧ p < j + n then f (i + (p - j)) else g p
section
variable {V : pV} {l : Launch} {A : pA} {post : Option Value → pS → Prop} {T : pS}
set_option maxHeartbeats 4000000 in
set_option maxRecDepth 100000 in
theorem lp_X8_move (C : e_CX8_move V l) (Rt : e_RX8_move V (s_P A post)) {i j n : Nat} {g : Nat → Int32} (hi : i + n ≤ 4000) (hj : j + n ≤ 4000) (hp : post (some (.int (nI n))) (uX T 71 (cpX (T.1 68 0) g i j n))) : ∀ z k, k + z = n → V 0 0 92 [(0, .ref (ad A 30 0)), (1, .int (nI i)), (2, .int (nI j)), (3, .int (nI n)), (4, .int (nI k))] [] (gS A (uX T 71 (cpX (T.1 68 0) g i j k))) := by
  intro z
  induction z with
  | zero =>
    intro k hk
    have hk2 : k = n := by omega
    subst hk2
    refine srnX8_move C Rt [92] 40 ?_
    simp only [k_i, s_go, s_1, e_op, e_pi, e_pl, e_pr, e_p0, e_li, e_ll, e_lr, e_lk, e_ins, e_rm, e_to, e_sw, e_cmp, k_c, k_n, k_f, k_v, k_lg, ↓reduceIte, reduceCtorEq, Nat.reduceAdd, Nat.reduceSub, Nat.reduceMul, Nat.reduceEqDiff, Nat.reduceLT, Nat.reduceLeDiff, Int.reduceAdd, Int.reduceSub, Int.reduceNeg, Int.reduceLE, Int.reduceLT, Int.reduceToNat, Int.reduceEq, Int.cast_ofNat_Int, List.mem_cons, List.not_mem_nil, List.length_cons, List.length_nil, List.set_cons_zero, List.set_cons_succ, List.toList_toArray, eq_self, true_and, and_true, and_self, or_true, true_or, false_or, or_false, or_self, not_true_eq_false, not_false_eq_true, Classical.not_not, true_implies, false_implies, implies_true, forall_const, and_false, false_and, Nat.le_refl, Nat.zero_le, Bool.false_eq_true, lv_args, s_rl_at, s_gf, s_pf, dn_q, kd_q, cl_q, nf_q, ln_q, tg_q, rr_q, cr_q, u_1, e_lsw, k_ti, List.drop_succ_cons, List.drop_zero, List.drop_nil, List.zip_cons_cons, List.zip_nil_right, List.zip_nil_left, List.all_cons, List.all_nil, Bool.and_true, Bool.and_self, decide_true, decide_false, Option.toList, List.cons_append, List.nil_append, List.append_nil, DX8_move_0, DX8_move_1, FLX8, LDX8, x_le (a := k) (b := k) (by omega) (by omega)]
    exact hp
  | succ z ih =>
    intro k hk
    refine srnX8_move C Rt [92] 40 ?_
    simp only [k_i, s_go, s_1, e_op, e_pi, e_pl, e_pr, e_p0, e_li, e_ll, e_lr, e_lk, e_ins, e_rm, e_to, e_sw, e_cmp, k_c, k_n, k_f, k_v, k_lg, ↓reduceIte, reduceCtorEq, Nat.reduceAdd, Nat.reduceSub, Nat.reduceMul, Nat.reduceEqDiff, Nat.reduceLT, Nat.reduceLeDiff, Int.reduceAdd, Int.reduceSub, Int.reduceNeg, Int.reduceLE, Int.reduceLT, Int.reduceToNat, Int.reduceEq, Int.cast_ofNat_Int, List.mem_cons, List.not_mem_nil, List.length_cons, List.length_nil, List.set_cons_zero, List.set_cons_succ, List.toList_toArray, eq_self, true_and, and_true, and_self, or_true, true_or, false_or, or_false, or_self, not_true_eq_false, not_false_eq_true, Classical.not_not, true_implies, false_implies, implies_true, forall_const, and_false, false_and, Nat.le_refl, Nat.zero_le, Bool.false_eq_true, lv_args, s_rl_at, s_gf, s_pf, dn_q, kd_q, cl_q, nf_q, ln_q, tg_q, rr_q, cr_q, u_1, e_lsw, k_ti, List.drop_succ_cons, List.drop_zero, List.drop_nil, List.zip_cons_cons, List.zip_nil_right, List.zip_nil_left, List.all_cons, List.all_nil, Bool.and_true, Bool.and_self, decide_true, decide_false, Option.toList, List.cons_append, List.nil_append, List.append_nil, DX8_move_0, DX8_move_1, FLX8, LDX8, x_le (a := n) (b := k) (by omega) (by omega), uX_1, uX_2, nI_add, x_cl (a := i + k) (by omega), x_in (a := i + k) (n := 4000) (by omega), x_cl (a := j + k) (by omega), x_in (a := j + k) (n := 4000) (by omega), nI_1]
    refine ⟨fun h => by omega, fun _ => ⟨by omega, by omega, ?_⟩⟩
    rw [uX_s]
    have h9 := ih (k + 1) (by omega)
    have e : (fun j' => if j' = j + k then T.1 68 0 (i + k) else cpX (T.1 68 0) g i j k j') = cpX (T.1 68 0) g i j (k + 1) := by
      funext p
      unfold cpX
      by_cases h1 : p = j + k
      · subst h1
        rw [if_pos rfl, if_pos (by omega), Nat.add_sub_cancel_left]
      · rw [if_neg h1]
        have : (j ≤ p ∧ p < j + k) ↔ (j ≤ p ∧ p < j + (k + 1)) := by omega
        simp [this]
    rw [e]
    exact h9
end
def movM (T S : pS) (b c : Nat) (i j n : Int32) : pS := if ¬ S.1 11 0 1 = 0 then t0 T else if S.1 20 b 0 = 0 ∨ S.1 20 c 0 = 0 then t0 T else if ¬ S.1 20 b 0 = S.1 20 c 0 then t0 T else if spn i n (nN (S.1 20 b 1)) = false ∨ spn j n (nN (S.1 20 c 1)) = false then t0 T else uX (t0 T) 71 (cpX (T.1 68 0) (T.1 71 0) (nN i) (nN j) (nN n))
theorem spn_lo {i n : Int32} {L : Nat} (h : i < 0 ∨ n < 0) : spn i n L = false := by
  rw [Int32.lt_iff_toInt_lt, Int32.lt_iff_toInt_lt] at h
  have h0 : (0 : Int32).toInt = 0 := by decide
  simp only [spn, decide_eq_false_iff_not]
  omega
theorem spn_gt {i n : Int32} {L : Nat} (hL : L ≤ 4000) (h1 : ¬ i < 0) (h2 : ¬ n < 0) : ((nI L).toInt64 < i.toInt64 + n.toInt64) ↔ spn i n L = false := by
  rw [Int32.lt_iff_toInt_lt] at h1 h2
  have h0 : (0 : Int32).toInt = 0 := by decide
  simp only [spn, decide_eq_false_iff_not]
  have h3 : (i.toInt64 + n.toInt64).toInt = i.toInt + n.toInt := by
    rw [Int64.toInt_add, i64_toInt, i64_toInt]
    have a1 := i.toInt_lt
    have a2 := n.toInt_lt
    rw [Int.bmod_def]
    omega
  rw [Int64.lt_iff_toInt_lt, h3, i64_toInt, nI_toInt (by omega)]
  omega
set_option maxHeartbeats 4000000 in
set_option maxRecDepth 100000 in
theorem m_X8_move (l : Launch) (A : pA) (T S : pS) {b c : Nat} (hD : rD T S) (hw : wfO S b c) (hO : rO T S b c) (i j n : Int32) : e_MX8_move l [.ref (ad A 30 0), .int i, .int j, .int n] (gS A T) (s_P A (isP ((movC S b c i j n).1, movM T S b c i j n))) := by
  obtain ⟨o1, o2, o3, o4, o5, o6⟩ := hO
  obtain ⟨-, -, hb, hc, hne, ⟨hl, hL⟩, ⟨hl2, hL2⟩⟩ := hw
  rw [hl] at o2
  rw [hl2] at o5
  refine ofX8_move (Nat.le_of_ble_eq_true rfl) ?_
  intro V C Rt
  unfold rD at hD
  have fin : S.1 11 0 1 = 0 → ¬ S.1 20 b 0 = 0 → ¬ S.1 20 c 0 = 0 → S.1 20 b 0 = S.1 20 c 0 → spn i n (nN (S.1 20 b 1)) = true → spn j n (nN (S.1 20 c 1)) = true → V 0 0 92 [(0, .ref (ad A 30 0)), (1, .int i), (2, .int j), (3, .int n), (4, .int 0)] [] (gS A (t0 T)) := by
    intro hd h1 h2 h3 hx hy
    obtain ⟨i', n', rfl, rfl, h5⟩ := spn_of hL hx
    obtain ⟨j', n2, rfl, e2, h6⟩ := spn_of hL2 hy
    have hn : n' = n2 := (nI_eq (by omega) (by omega)).mp e2
    subst hn
    have h9 := lp_X8_move (T := t0 T) (g := T.1 71 0) (i := i') (j := j') (n := n') C Rt (by omega) (by omega) ?_ n' 0 (by omega)
    · rw [uX_id (fun p => by unfold cpX; rw [if_neg (by omega)]; rfl)] at h9
      exact h9
    · simp [isP, movC, movM, hd, h1, h2, h3, hx, hy, nN_nI (show i' < 2147483648 by omega), nN_nI (show j' < 2147483648 by omega), nN_nI (show n' < 2147483648 by omega)]
      rfl
  refine srnX8_move C Rt [92] 60 ?_
  simp only [k_i, s_go, s_1, e_op, e_pi, e_pl, e_pr, e_p0, e_li, e_ll, e_lr, e_lk, e_ins, e_rm, e_to, e_sw, e_cmp, k_c, k_n, k_f, k_v, k_lg, ↓reduceIte, reduceCtorEq, Nat.reduceAdd, Nat.reduceSub, Nat.reduceMul, Nat.reduceEqDiff, Nat.reduceLT, Nat.reduceLeDiff, Int.reduceAdd, Int.reduceSub, Int.reduceNeg, Int.reduceLE, Int.reduceLT, Int.reduceToNat, Int.reduceEq, Int.cast_ofNat_Int, List.mem_cons, List.not_mem_nil, List.length_cons, List.length_nil, List.set_cons_zero, List.set_cons_succ, List.toList_toArray, eq_self, true_and, and_true, and_self, or_true, true_or, false_or, or_false, or_self, not_true_eq_false, not_false_eq_true, Classical.not_not, true_implies, false_implies, implies_true, forall_const, and_false, false_and, Nat.le_refl, Nat.zero_le, Bool.false_eq_true, lv_args, s_rl_at, s_gf, s_pf, dn_q, kd_q, cl_q, nf_q, ln_q, tg_q, rr_q, cr_q, u_1, e_lsw, k_ti, List.drop_succ_cons, List.drop_zero, List.drop_nil, List.zip_cons_cons, List.zip_nil_right, List.zip_nil_left, List.all_cons, List.all_nil, Bool.and_true, Bool.and_self, decide_true, decide_false, Option.toList, List.cons_append, List.nil_append, List.append_nil, DX8_move_0, DX8_move_1, FLX8, LDX8, hD, o1, o2, o4, o5]
  refine ⟨fun hd => ⟨fun h => by simp [isP, movC, movM, hd, h], fun h => ⟨fun h2 => ⟨fun h3 => ?_, fun h3 => by simp [isP, movC, movM, hd, h, h2, h3]⟩, fun h2 => by simp [isP, movC, movM, hd, h, h2]⟩⟩, fun hd => by simp [isP, movC, movM, hd]⟩
  have h2' : ¬ S.1 20 c 0 = 0 := h2
  have bad : (spn i n (nN (S.1 20 b 1)) = false ∨ spn j n (nN (S.1 20 c 1)) = false) → isP ((movC S b c i j n).1, movM T S b c i j n) (some (.int (-12))) (t0 T) := by
    intro hb
    simp only [isP, movC, movM, hd, h, h2', h3, hb]
    simp
  refine ⟨fun h4 => bad (Or.inl (spn_lo (Or.inl h4))), fun h4 => ⟨fun h5 => bad (Or.inr (spn_lo (Or.inl h5))), fun h5 => ⟨fun h6 => bad (Or.inl (spn_lo (Or.inr h6))), fun h6 => ⟨fun h7 => bad (Or.inl ((spn_gt hL h4 h6).mp h7)), fun h7 => ⟨fun h8 => ?_, fun h8 => ?_⟩⟩⟩⟩⟩
  · refine fin hd h h2' h3 ?_ ?_
    · cases hx : spn i n (nN (S.1 20 b 1)) with
      | true => rfl
      | false => exact absurd ((spn_gt hL h4 h6).mpr hx) h7
    · cases hx : spn j n (nN (S.1 20 c 1)) with
      | true => rfl
      | false => exact absurd ((spn_gt hL2 h5 h6).mpr hx) (Int64.not_lt.mpr h8)
  · exact bad (Or.inr ((spn_gt hL2 h5 h6).mp (Int64.not_le.mp h8)))
set_option maxHeartbeats 4000000 in
set_option maxRecDepth 100000 in
theorem m_X8_shelf (l : Launch) (A : pA) (T S : pS) {c : Nat} (hD : rD T S) (k n : Int32) : e_MX8_shelf l [.ref (ad A 30 0), .int k, .int n] (gS A T) (s_P A (isP ((shfC S c k n).1, shfM T S k n))) := by
  refine ofX8_shelf (Nat.le_of_ble_eq_true rfl) ?_
  intro V C Rt
  unfold rD at hD
  refine srnX8_shelf C Rt [55] 40 ?_
  simp only [k_i, s_go, s_1, e_op, e_pi, e_pl, e_pr, e_p0, e_li, e_ll, e_lr, e_lk, e_ins, e_rm, e_to, e_sw, e_cmp, k_c, k_n, k_f, k_v, k_lg, ↓reduceIte, reduceCtorEq, Nat.reduceAdd, Nat.reduceSub, Nat.reduceMul, Nat.reduceEqDiff, Nat.reduceLT, Nat.reduceLeDiff, Int.reduceAdd, Int.reduceSub, Int.reduceNeg, Int.reduceLE, Int.reduceLT, Int.reduceToNat, Int.reduceEq, Int.cast_ofNat_Int, List.mem_cons, List.not_mem_nil, List.length_cons, List.length_nil, List.set_cons_zero, List.set_cons_succ, List.toList_toArray, eq_self, true_and, and_true, and_self, or_true, true_or, false_or, or_false, or_self, not_true_eq_false, not_false_eq_true, Classical.not_not, true_implies, false_implies, implies_true, forall_const, and_false, false_and, Nat.le_refl, Nat.zero_le, Bool.false_eq_true, lv_args, s_rl_at, s_gf, s_pf, dn_q, kd_q, cl_q, nf_q, ln_q, tg_q, rr_q, cr_q, u_1, e_lsw, k_ti, List.drop_succ_cons, List.drop_zero, List.drop_nil, List.zip_cons_cons, List.zip_nil_right, List.zip_nil_left, List.all_cons, List.all_nil, Bool.and_true, Bool.and_self, decide_true, decide_false, Option.toList, List.cons_append, List.nil_append, List.append_nil, DX8_shelf_0, DX8_shelf_1, FLX8, LDX8, hD]
  refine ⟨fun hd => ?_, fun hd => by simp [isP, shfC, shfM, hd]⟩
  refine sX8_shelf_19 C (m_inr l _ k (n := 2) (by decide)) (hcat := Nat.le_of_ble_eq_true rfl) (k := ?_)
  rintro v2 G2 ⟨rfl, rfl⟩
  cases hx : inr k 2 with
  | false =>
    refine srnX8_shelf C Rt [] 40 ?_
    simp only [k_i, s_go, s_1, e_op, e_pi, e_pl, e_pr, e_p0, e_li, e_ll, e_lr, e_lk, e_ins, e_rm, e_to, e_sw, e_cmp, k_c, k_n, k_f, k_v, k_lg, ↓reduceIte, reduceCtorEq, Nat.reduceAdd, Nat.reduceSub, Nat.reduceMul, Nat.reduceEqDiff, Nat.reduceLT, Nat.reduceLeDiff, Int.reduceAdd, Int.reduceSub, Int.reduceNeg, Int.reduceLE, Int.reduceLT, Int.reduceToNat, Int.reduceEq, Int.cast_ofNat_Int, List.mem_cons, List.not_mem_nil, List.length_cons, List.length_nil, List.set_cons_zero, List.set_cons_succ, List.toList_toArray, eq_self, true_and, and_true, and_self, or_true, true_or, false_or, or_false, or_self, not_true_eq_false, not_false_eq_true, Classical.not_not, true_implies, false_implies, implies_true, forall_const, and_false, false_and, Nat.le_refl, Nat.zero_le, Bool.false_eq_true, lv_args, s_rl_at, s_gf, s_pf, dn_q, kd_q, cl_q, nf_q, ln_q, tg_q, rr_q, cr_q, u_1, e_lsw, k_ti, List.drop_succ_cons, List.drop_zero, List.drop_nil, List.zip_cons_cons, List.zip_nil_right, List.zip_nil_left, List.all_cons, List.all_nil, Bool.and_true, Bool.and_self, decide_true, decide_false, Option.toList, List.cons_append, List.nil_append, List.append_nil, DX8_shelf_0, DX8_shelf_1, FLX8, LDX8, b2i_f]
    simp [isP, shfC, shfM, hd, hx]
  | true =>
    refine srnX8_shelf C Rt [55] 40 ?_
    simp only [k_i, s_go, s_1, e_op, e_pi, e_pl, e_pr, e_p0, e_li, e_ll, e_lr, e_lk, e_ins, e_rm, e_to, e_sw, e_cmp, k_c, k_n, k_f, k_v, k_lg, ↓reduceIte, reduceCtorEq, Nat.reduceAdd, Nat.reduceSub, Nat.reduceMul, Nat.reduceEqDiff, Nat.reduceLT, Nat.reduceLeDiff, Int.reduceAdd, Int.reduceSub, Int.reduceNeg, Int.reduceLE, Int.reduceLT, Int.reduceToNat, Int.reduceEq, Int.cast_ofNat_Int, List.mem_cons, List.not_mem_nil, List.length_cons, List.length_nil, List.set_cons_zero, List.set_cons_succ, List.toList_toArray, eq_self, true_and, and_true, and_self, or_true, true_or, false_or, or_false, or_self, not_true_eq_false, not_false_eq_true, Classical.not_not, true_implies, false_implies, implies_true, forall_const, and_false, false_and, Nat.le_refl, Nat.zero_le, Bool.false_eq_true, lv_args, s_rl_at, s_gf, s_pf, dn_q, kd_q, cl_q, nf_q, ln_q, tg_q, rr_q, cr_q, u_1, e_lsw, k_ti, List.drop_succ_cons, List.drop_zero, List.drop_nil, List.zip_cons_cons, List.zip_nil_right, List.zip_nil_left, List.all_cons, List.all_nil, Bool.and_true, Bool.and_self, decide_true, decide_false, Option.toList, List.cons_append, List.nil_append, List.append_nil, DX8_shelf_0, DX8_shelf_1, FLX8, LDX8, b2i_t]
    refine ⟨fun h1 => ⟨fun h2 => ?_, fun h2 => ?_⟩, fun h1 => by simp [isP, shfC, shfM, hd, hx, h1]⟩
    · have h0 : ¬ n < 0 := Int32.not_lt.mpr h2
      obtain ⟨j, hj, rfl⟩ := nI_of2 (M := 4000) (n := 4000) (by decide) h0 h1
      have ek : k + 1 = if k = 0 then (1 : Int32) else 2 := by
        obtain ⟨z, hz, rfl⟩ := inr_of (by omega) hx
        have : z = 0 ∨ z = 1 := by omega
        rcases this with rfl | rfl <;> decide
      have h9 := lp_X8_shelf (T := uI (uI (t0 T) 30 0 38 (k + 1)) 30 0 39 (nI j)) (k := k) (f := T.1 71 0) C Rt hj ?_ j 0 (by omega)
      · rw [uX_id (fun p => by simp; rfl)] at h9
        exact h9
      · simp [isP, shfC, shfM, hd, hx, h1, h0, ek, nN_nI (show j < 2147483648 by omega)]
    · have h0 : n < 0 := Int32.not_le.mp h2
      simp [isP, shfC, shfM, hd, hx, h1, h0]
set_option maxHeartbeats 4000000 in
set_option maxRecDepth 100000 in
theorem m_X8_disk (l : Launch) (A : pA) (T S : pS) (hK : rK T S) (x : Int32) : e_MX8_disk l [.ref (ad A 30 0), .int x] (gS A T) (s_P A (isP (if inr x 3532 = true then S.1 12 0 (nN x) else 0, uI T 30 0 0 (if inr x 3532 = true then 0 else 1)))) := by
  obtain ⟨k1, -⟩ := hK
  refine ofX8_disk (Nat.le_of_ble_eq_true rfl) ?_
  intro V C Rt
  refine srnX8_disk C Rt [] 40 ?_
  simp only [k_i, s_go, s_1, e_op, e_pi, e_pl, e_pr, e_p0, e_li, e_ll, e_lr, e_lk, e_ins, e_rm, e_to, e_sw, e_cmp, k_c, k_n, k_f, k_v, k_lg, ↓reduceIte, reduceCtorEq, Nat.reduceAdd, Nat.reduceSub, Nat.reduceMul, Nat.reduceEqDiff, Nat.reduceLT, Nat.reduceLeDiff, Int.reduceAdd, Int.reduceSub, Int.reduceNeg, Int.reduceLE, Int.reduceLT, Int.reduceToNat, Int.reduceEq, Int.cast_ofNat_Int, List.mem_cons, List.not_mem_nil, List.length_cons, List.length_nil, List.set_cons_zero, List.set_cons_succ, List.toList_toArray, eq_self, true_and, and_true, and_self, or_true, true_or, false_or, or_false, or_self, not_true_eq_false, not_false_eq_true, Classical.not_not, true_implies, false_implies, implies_true, forall_const, and_false, false_and, Nat.le_refl, Nat.zero_le, Bool.false_eq_true, lv_args, s_rl_at, s_gf, s_pf, dn_q, kd_q, cl_q, nf_q, ln_q, tg_q, rr_q, cr_q, u_1, e_lsw, k_ti, List.drop_succ_cons, List.drop_zero, List.drop_nil, List.zip_cons_cons, List.zip_nil_right, List.zip_nil_left, List.all_cons, List.all_nil, Bool.and_true, Bool.and_self, decide_true, decide_false, Option.toList, List.cons_append, List.nil_append, List.append_nil, DX8_disk_0, FLX8, LDX8]
  refine sX8_disk_7 C (m_inr l _ x (n := 3532) (by decide)) (hcat := Nat.le_of_ble_eq_true rfl) (k := ?_)
  rintro v2 G2 ⟨rfl, rfl⟩
  cases hx : inr x 3532 with
  | false =>
    refine srnX8_disk C Rt [] 40 ?_
    simp only [k_i, s_go, s_1, e_op, e_pi, e_pl, e_pr, e_p0, e_li, e_ll, e_lr, e_lk, e_ins, e_rm, e_to, e_sw, e_cmp, k_c, k_n, k_f, k_v, k_lg, ↓reduceIte, reduceCtorEq, Nat.reduceAdd, Nat.reduceSub, Nat.reduceMul, Nat.reduceEqDiff, Nat.reduceLT, Nat.reduceLeDiff, Int.reduceAdd, Int.reduceSub, Int.reduceNeg, Int.reduceLE, Int.reduceLT, Int.reduceToNat, Int.reduceEq, Int.cast_ofNat_Int, List.mem_cons, List.not_mem_nil, List.length_cons, List.length_nil, List.set_cons_zero, List.set_cons_succ, List.toList_toArray, eq_self, true_and, and_true, and_self, or_true, true_or, false_or, or_false, or_self, not_true_eq_false, not_false_eq_true, Classical.not_not, true_implies, false_implies, implies_true, forall_const, and_false, false_and, Nat.le_refl, Nat.zero_le, Bool.false_eq_true, lv_args, s_rl_at, s_gf, s_pf, dn_q, kd_q, cl_q, nf_q, ln_q, tg_q, rr_q, cr_q, u_1, e_lsw, k_ti, List.drop_succ_cons, List.drop_zero, List.drop_nil, List.zip_cons_cons, List.zip_nil_right, List.zip_nil_left, List.all_cons, List.all_nil, Bool.and_true, Bool.and_self, decide_true, decide_false, Option.toList, List.cons_append, List.nil_append, List.append_nil, DX8_disk_0, FLX8, LDX8, b2i_f]
    simp [isP, hx]
  | true =>
    obtain ⟨j, hj, rfl⟩ := inr_of (by omega) hx
    refine srnX8_disk C Rt [] 40 ?_
    simp only [k_i, s_go, s_1, e_op, e_pi, e_pl, e_pr, e_p0, e_li, e_ll, e_lr, e_lk, e_ins, e_rm, e_to, e_sw, e_cmp, k_c, k_n, k_f, k_v, k_lg, ↓reduceIte, reduceCtorEq, Nat.reduceAdd, Nat.reduceSub, Nat.reduceMul, Nat.reduceEqDiff, Nat.reduceLT, Nat.reduceLeDiff, Int.reduceAdd, Int.reduceSub, Int.reduceNeg, Int.reduceLE, Int.reduceLT, Int.reduceToNat, Int.reduceEq, Int.cast_ofNat_Int, List.mem_cons, List.not_mem_nil, List.length_cons, List.length_nil, List.set_cons_zero, List.set_cons_succ, List.toList_toArray, eq_self, true_and, and_true, and_self, or_true, true_or, false_or, or_false, or_self, not_true_eq_false, not_false_eq_true, Classical.not_not, true_implies, false_implies, implies_true, forall_const, and_false, false_and, Nat.le_refl, Nat.zero_le, Bool.false_eq_true, lv_args, s_rl_at, s_gf, s_pf, dn_q, kd_q, cl_q, nf_q, ln_q, tg_q, rr_q, cr_q, u_1, e_lsw, k_ti, List.drop_succ_cons, List.drop_zero, List.drop_nil, List.zip_cons_cons, List.zip_nil_right, List.zip_nil_left, List.all_cons, List.all_nil, Bool.and_true, Bool.and_self, decide_true, decide_false, Option.toList, List.cons_append, List.nil_append, List.append_nil, DX8_disk_0, FLX8, LDX8, b2i_t, x_cl (a := j) (by omega), x_in (a := j) (n := 3532) (by omega), k1]
    refine ⟨by omega, ?_⟩
    simp [isP, hx, nN_nI (show j < 2147483648 by omega)]
set_option maxHeartbeats 4000000 in
set_option maxRecDepth 100000 in
theorem m_X8_poke (l : Launch) (A : pA) (T S : pS) (hK : rK T S) (x m : Int32) : e_MX8_poke l [.ref (ad A 30 0), .int x, .int m] (gS A T) (s_P A (isP (if inr x 3532 = true then S.1 12 0 (nN x) ^^^ (m &&& 255) else 0, if inr x 3532 = true then uI (t0 T) 52 0 (nN x) (S.1 12 0 (nN x) ^^^ (m &&& 255)) else uI T 30 0 0 1))) := by
  obtain ⟨k1, -⟩ := hK
  refine ofX8_poke (Nat.le_of_ble_eq_true rfl) ?_
  intro V C Rt
  refine srnX8_poke C Rt [] 40 ?_
  simp only [k_i, s_go, s_1, e_op, e_pi, e_pl, e_pr, e_p0, e_li, e_ll, e_lr, e_lk, e_ins, e_rm, e_to, e_sw, e_cmp, k_c, k_n, k_f, k_v, k_lg, ↓reduceIte, reduceCtorEq, Nat.reduceAdd, Nat.reduceSub, Nat.reduceMul, Nat.reduceEqDiff, Nat.reduceLT, Nat.reduceLeDiff, Int.reduceAdd, Int.reduceSub, Int.reduceNeg, Int.reduceLE, Int.reduceLT, Int.reduceToNat, Int.reduceEq, Int.cast_ofNat_Int, List.mem_cons, List.not_mem_nil, List.length_cons, List.length_nil, List.set_cons_zero, List.set_cons_succ, List.toList_toArray, eq_self, true_and, and_true, and_self, or_true, true_or, false_or, or_false, or_self, not_true_eq_false, not_false_eq_true, Classical.not_not, true_implies, false_implies, implies_true, forall_const, and_false, false_and, Nat.le_refl, Nat.zero_le, Bool.false_eq_true, lv_args, s_rl_at, s_gf, s_pf, dn_q, kd_q, cl_q, nf_q, ln_q, tg_q, rr_q, cr_q, u_1, e_lsw, k_ti, List.drop_succ_cons, List.drop_zero, List.drop_nil, List.zip_cons_cons, List.zip_nil_right, List.zip_nil_left, List.all_cons, List.all_nil, Bool.and_true, Bool.and_self, decide_true, decide_false, Option.toList, List.cons_append, List.nil_append, List.append_nil, DX8_poke_0, FLX8, LDX8]
  refine sX8_poke_7 C (m_inr l _ x (n := 3532) (by decide)) (hcat := Nat.le_of_ble_eq_true rfl) (k := ?_)
  rintro v2 G2 ⟨rfl, rfl⟩
  cases hx : inr x 3532 with
  | false =>
    refine srnX8_poke C Rt [] 40 ?_
    simp only [k_i, s_go, s_1, e_op, e_pi, e_pl, e_pr, e_p0, e_li, e_ll, e_lr, e_lk, e_ins, e_rm, e_to, e_sw, e_cmp, k_c, k_n, k_f, k_v, k_lg, ↓reduceIte, reduceCtorEq, Nat.reduceAdd, Nat.reduceSub, Nat.reduceMul, Nat.reduceEqDiff, Nat.reduceLT, Nat.reduceLeDiff, Int.reduceAdd, Int.reduceSub, Int.reduceNeg, Int.reduceLE, Int.reduceLT, Int.reduceToNat, Int.reduceEq, Int.cast_ofNat_Int, List.mem_cons, List.not_mem_nil, List.length_cons, List.length_nil, List.set_cons_zero, List.set_cons_succ, List.toList_toArray, eq_self, true_and, and_true, and_self, or_true, true_or, false_or, or_false, or_self, not_true_eq_false, not_false_eq_true, Classical.not_not, true_implies, false_implies, implies_true, forall_const, and_false, false_and, Nat.le_refl, Nat.zero_le, Bool.false_eq_true, lv_args, s_rl_at, s_gf, s_pf, dn_q, kd_q, cl_q, nf_q, ln_q, tg_q, rr_q, cr_q, u_1, e_lsw, k_ti, List.drop_succ_cons, List.drop_zero, List.drop_nil, List.zip_cons_cons, List.zip_nil_right, List.zip_nil_left, List.all_cons, List.all_nil, Bool.and_true, Bool.and_self, decide_true, decide_false, Option.toList, List.cons_append, List.nil_append, List.append_nil, DX8_poke_0, FLX8, LDX8, b2i_f]
    simp [isP, hx]
  | true =>
    obtain ⟨j, hj, rfl⟩ := inr_of (by omega) hx
    refine srnX8_poke C Rt [] 40 ?_
    simp only [k_i, s_go, s_1, e_op, e_pi, e_pl, e_pr, e_p0, e_li, e_ll, e_lr, e_lk, e_ins, e_rm, e_to, e_sw, e_cmp, k_c, k_n, k_f, k_v, k_lg, ↓reduceIte, reduceCtorEq, Nat.reduceAdd, Nat.reduceSub, Nat.reduceMul, Nat.reduceEqDiff, Nat.reduceLT, Nat.reduceLeDiff, Int.reduceAdd, Int.reduceSub, Int.reduceNeg, Int.reduceLE, Int.reduceLT, Int.reduceToNat, Int.reduceEq, Int.cast_ofNat_Int, List.mem_cons, List.not_mem_nil, List.length_cons, List.length_nil, List.set_cons_zero, List.set_cons_succ, List.toList_toArray, eq_self, true_and, and_true, and_self, or_true, true_or, false_or, or_false, or_self, not_true_eq_false, not_false_eq_true, Classical.not_not, true_implies, false_implies, implies_true, forall_const, and_false, false_and, Nat.le_refl, Nat.zero_le, Bool.false_eq_true, lv_args, s_rl_at, s_gf, s_pf, dn_q, kd_q, cl_q, nf_q, ln_q, tg_q, rr_q, cr_q, u_1, e_lsw, k_ti, List.drop_succ_cons, List.drop_zero, List.drop_nil, List.zip_cons_cons, List.zip_nil_right, List.zip_nil_left, List.all_cons, List.all_nil, Bool.and_true, Bool.and_self, decide_true, decide_false, Option.toList, List.cons_append, List.nil_append, List.append_nil, DX8_poke_0, FLX8, LDX8, b2i_t, x_cl (a := j) (by omega), x_in (a := j) (n := 3532) (by omega), k1]
    refine ⟨by omega, by omega, ?_⟩
    simp [isP, hx, hj, nN_nI (show j < 2147483648 by omega)]
