/-! FactLog$Writer: numbers and rows -/
/-- the lowest n bytes of a number, the highest first -/
def nb (v : Int64) : Nat → List Int32
  | 0 => []
  | k + 1 => (e_ushr v (nI (8 * k)) &&& 255).toInt32 :: nb v k
theorem nb_len (v : Int64) : ∀ n, (nb v n).length = n
  | 0 => rfl
  | n + 1 => by simp [nb, nb_len v n]
def sws (σ : Int64) (bs : List Int32) : Int64 := bs.foldl sw σ
theorem sws_app (σ : Int64) (x y : List Int32) : sws σ (x ++ y) = sws (sws σ x) y := by simp [sws]
theorem sws_1 (σ : Int64) (x : List Int32) (b : Int32) : sw (sws σ x) b = sws σ (x ++ [b]) := by simp [sws]
theorem m1_eq (k : Nat) : nI k + -1 = nI k - 1 := (Int32.sub_eq_add_neg _ _).symm
section
variable {V : pV} {l : Launch} {A : pA} {post : Option Value → pS → Prop} {S : pS}
set_option maxHeartbeats 4000000 in
set_option maxRecDepth 100000 in
theorem lp_putNumber (C : e_CX6_putNumber V l) (Rt : e_RX6_putNumber V (s_P A post)) {qk qi a p n : Nat} {c : Bool} {v : Int64} (hQ : wQ S qk qi) (hp : p < 2147483648) : ∀ k (bs : List Int32) (σ : Int64), k ≤ 8 → a + bs.length + k ≤ ln qk → post none (wS S qk qi a p c (bs ++ nb v k) (sws σ (nb v k))) → V 0 0 5 [(0, .ref (ad A 18 0)), (1, .long v), (3, .int (nI n)), (4, .int (nI k - 1))] [] (gS A (wS S qk qi a p c bs σ)) := by
  intro k
  induction k with
  | zero =>
    intro bs σ h8 hb hpo
    refine srnX6_putNumber C Rt [5] 40 ?_
    simp only [k_i, s_go, s_1, e_op, e_pi, e_pl, e_pr, e_p0, e_li, e_ll, e_lr, e_lk, e_ins, e_rm, e_to, e_sw, e_cmp, k_c, k_n, k_f, k_v, k_lg, ↓reduceIte, reduceCtorEq, Nat.reduceAdd, Nat.reduceSub, Nat.reduceMul, Nat.reduceEqDiff, Nat.reduceLT, Nat.reduceLeDiff, Int.reduceAdd, Int.reduceSub, Int.reduceNeg, Int.reduceLE, Int.reduceLT, Int.reduceToNat, Int.reduceEq, Int.cast_ofNat_Int, List.mem_cons, List.not_mem_nil, List.length_cons, List.length_nil, List.set_cons_zero, List.set_cons_succ, List.toList_toArray, eq_self, true_and, and_true, and_self, or_true, true_or, false_or, or_false, or_self, not_true_eq_false, not_false_eq_true, Classical.not_not, true_implies, false_implies, implies_true, forall_const, and_false, false_and, Nat.le_refl, Nat.zero_le, Bool.false_eq_true, lv_args, s_rl_at, s_gf, s_pf, dn_q, kd_q, cl_q, nf_q, ln_q, tg_q, rr_q, cr_q, u_1, e_lsw, k_ti, List.drop_succ_cons, List.drop_zero, List.drop_nil, List.zip_cons_cons, List.zip_nil_right, List.zip_nil_left, List.all_cons, List.all_nil, Bool.and_true, Bool.and_self, decide_true, decide_false, Option.toList, List.cons_append, List.nil_append, List.append_nil, DX6_putNumber_0, FLX6, LDX6, (show nI 0 - 1 < 0 by decide)]
    simpa [nb, sws] using hpo
  | succ k ih =>
    intro bs σ h8 hb hpo
    refine srnX6_putNumber C Rt [5] 40 ?_
    simp only [k_i, s_go, s_1, e_op, e_pi, e_pl, e_pr, e_p0, e_li, e_ll, e_lr, e_lk, e_ins, e_rm, e_to, e_sw, e_cmp, k_c, k_n, k_f, k_v, k_lg, ↓reduceIte, reduceCtorEq, Nat.reduceAdd, Nat.reduceSub, Nat.reduceMul, Nat.reduceEqDiff, Nat.reduceLT, Nat.reduceLeDiff, Int.reduceAdd, Int.reduceSub, Int.reduceNeg, Int.reduceLE, Int.reduceLT, Int.reduceToNat, Int.reduceEq, Int.cast_ofNat_Int, List.mem_cons, List.not_mem_nil, List.length_cons, List.length_nil, List.set_cons_zero, List.set_cons_succ, List.toList_toArray, eq_self, true_and, and_true, and_self, or_true, true_or, false_or, or_false, or_self, not_true_eq_false, not_false_eq_true, Classical.not_not, true_implies, false_implies, implies_true, forall_const, and_false, false_and, Nat.le_refl, Nat.zero_le, Bool.false_eq_true, lv_args, s_rl_at, s_gf, s_pf, dn_q, kd_q, cl_q, nf_q, ln_q, tg_q, rr_q, cr_q, u_1, e_lsw, k_ti, List.drop_succ_cons, List.drop_zero, List.drop_nil, List.zip_cons_cons, List.zip_nil_right, List.zip_nil_left, List.all_cons, List.all_nil, Bool.and_true, Bool.and_self, decide_true, decide_false, Option.toList, List.cons_append, List.nil_append, List.append_nil, DX6_putNumber_0, FLX6, LDX6, nI_pred, (show ¬ nI k < 0 from nI_pos (by omega)), (show (8 : Int32) = nI 8 from rfl), pk_mul]
    refine sX6_putNumber_18 C (m_lowestByte l _ _) (hcat := Nat.le_of_ble_eq_true rfl) (k := ?_)
    rintro v2 G2 ⟨rfl, rfl⟩
    refine srnX6_putNumber C Rt [5] 40 ?_
    simp only [k_i, s_go, s_1, e_op, e_pi, e_pl, e_pr, e_p0, e_li, e_ll, e_lr, e_lk, e_ins, e_rm, e_to, e_sw, e_cmp, k_c, k_n, k_f, k_v, k_lg, ↓reduceIte, reduceCtorEq, Nat.reduceAdd, Nat.reduceSub, Nat.reduceMul, Nat.reduceEqDiff, Nat.reduceLT, Nat.reduceLeDiff, Int.reduceAdd, Int.reduceSub, Int.reduceNeg, Int.reduceLE, Int.reduceLT, Int.reduceToNat, Int.reduceEq, Int.cast_ofNat_Int, List.mem_cons, List.not_mem_nil, List.length_cons, List.length_nil, List.set_cons_zero, List.set_cons_succ, List.toList_toArray, eq_self, true_and, and_true, and_self, or_true, true_or, false_or, or_false, or_self, not_true_eq_false, not_false_eq_true, Classical.not_not, true_implies, false_implies, implies_true, forall_const, and_false, false_and, Nat.le_refl, Nat.zero_le, Bool.false_eq_true, lv_args, s_rl_at, s_gf, s_pf, dn_q, kd_q, cl_q, nf_q, ln_q, tg_q, rr_q, cr_q, u_1, e_lsw, k_ti, List.drop_succ_cons, List.drop_zero, List.drop_nil, List.zip_cons_cons, List.zip_nil_right, List.zip_nil_left, List.all_cons, List.all_nil, Bool.and_true, Bool.and_self, decide_true, decide_false, Option.toList, List.cons_append, List.nil_append, List.append_nil, DX6_putNumber_0, FLX6, LDX6]
    refine sX6_putNumber_21 C (m_X6_put l A S (bs := bs) hQ (by omega) hp _) (s_obj (show 0 < 1 by decide) rfl) (hcat := Nat.le_of_ble_eq_true rfl) (k := ?_)
    rintro v2 G2 ⟨S2, rfl, rfl, rfl⟩
    refine srnX6_putNumber C Rt [5] 40 ?_
    simp only [k_i, s_go, s_1, e_op, e_pi, e_pl, e_pr, e_p0, e_li, e_ll, e_lr, e_lk, e_ins, e_rm, e_to, e_sw, e_cmp, k_c, k_n, k_f, k_v, k_lg, ↓reduceIte, reduceCtorEq, Nat.reduceAdd, Nat.reduceSub, Nat.reduceMul, Nat.reduceEqDiff, Nat.reduceLT, Nat.reduceLeDiff, Int.reduceAdd, Int.reduceSub, Int.reduceNeg, Int.reduceLE, Int.reduceLT, Int.reduceToNat, Int.reduceEq, Int.cast_ofNat_Int, List.mem_cons, List.not_mem_nil, List.length_cons, List.length_nil, List.set_cons_zero, List.set_cons_succ, List.toList_toArray, eq_self, true_and, and_true, and_self, or_true, true_or, false_or, or_false, or_self, not_true_eq_false, not_false_eq_true, Classical.not_not, true_implies, false_implies, implies_true, forall_const, and_false, false_and, Nat.le_refl, Nat.zero_le, Bool.false_eq_true, lv_args, s_rl_at, s_gf, s_pf, dn_q, kd_q, cl_q, nf_q, ln_q, tg_q, rr_q, cr_q, u_1, e_lsw, k_ti, List.drop_succ_cons, List.drop_zero, List.drop_nil, List.zip_cons_cons, List.zip_nil_right, List.zip_nil_left, List.all_cons, List.all_nil, Bool.and_true, Bool.and_self, decide_true, decide_false, Option.toList, List.cons_append, List.nil_append, List.append_nil, DX6_putNumber_0, FLX6, LDX6, m1_eq]
    refine ih _ _ (by omega) (by simp; omega) ?_
    simpa [nb, sws, List.append_assoc] using hpo
set_option maxHeartbeats 4000000 in
set_option maxRecDepth 100000 in
theorem lp_putPlain (C : e_CX6_putPlain V l) (Rt : e_RX6_putPlain V (s_P A post)) {qk qi a p n : Nat} {c : Bool} {v σ : Int64} (hQ : wQ S qk qi) (hp : p < 2147483648) : ∀ k (bs : List Int32), k ≤ 8 → a + bs.length + k ≤ ln qk → post none (wS S qk qi a p c (bs ++ nb v k) σ) → V 0 0 5 [(0, .ref (ad A 18 0)), (1, .long v), (3, .int (nI n)), (4, .int (nI k - 1))] [] (gS A (wS S qk qi a p c bs σ)) := by
  intro k
  induction k with
  | zero =>
    intro bs h8 hb hpo
    refine srnX6_putPlain C Rt [5] 40 ?_
    simp only [k_i, s_go, s_1, e_op, e_pi, e_pl, e_pr, e_p0, e_li, e_ll, e_lr, e_lk, e_ins, e_rm, e_to, e_sw, e_cmp, k_c, k_n, k_f, k_v, k_lg, ↓reduceIte, reduceCtorEq, Nat.reduceAdd, Nat.reduceSub, Nat.reduceMul, Nat.reduceEqDiff, Nat.reduceLT, Nat.reduceLeDiff, Int.reduceAdd, Int.reduceSub, Int.reduceNeg, Int.reduceLE, Int.reduceLT, Int.reduceToNat, Int.reduceEq, Int.cast_ofNat_Int, List.mem_cons, List.not_mem_nil, List.length_cons, List.length_nil, List.set_cons_zero, List.set_cons_succ, List.toList_toArray, eq_self, true_and, and_true, and_self, or_true, true_or, false_or, or_false, or_self, not_true_eq_false, not_false_eq_true, Classical.not_not, true_implies, false_implies, implies_true, forall_const, and_false, false_and, Nat.le_refl, Nat.zero_le, Bool.false_eq_true, lv_args, s_rl_at, s_gf, s_pf, dn_q, kd_q, cl_q, nf_q, ln_q, tg_q, rr_q, cr_q, u_1, e_lsw, k_ti, List.drop_succ_cons, List.drop_zero, List.drop_nil, List.zip_cons_cons, List.zip_nil_right, List.zip_nil_left, List.all_cons, List.all_nil, Bool.and_true, Bool.and_self, decide_true, decide_false, Option.toList, List.cons_append, List.nil_append, List.append_nil, DX6_putPlain_0, FLX6, LDX6, (show nI 0 - 1 < 0 by decide)]
    simpa [nb, sws] using hpo
  | succ k ih =>
    intro bs h8 hb hpo
    refine srnX6_putPlain C Rt [5] 40 ?_
    simp only [k_i, s_go, s_1, e_op, e_pi, e_pl, e_pr, e_p0, e_li, e_ll, e_lr, e_lk, e_ins, e_rm, e_to, e_sw, e_cmp, k_c, k_n, k_f, k_v, k_lg, ↓reduceIte, reduceCtorEq, Nat.reduceAdd, Nat.reduceSub, Nat.reduceMul, Nat.reduceEqDiff, Nat.reduceLT, Nat.reduceLeDiff, Int.reduceAdd, Int.reduceSub, Int.reduceNeg, Int.reduceLE, Int.reduceLT, Int.reduceToNat, Int.reduceEq, Int.cast_ofNat_Int, List.mem_cons, List.not_mem_nil, List.length_cons, List.length_nil, List.set_cons_zero, List.set_cons_succ, List.toList_toArray, eq_self, true_and, and_true, and_self, or_true, true_or, false_or, or_false, or_self, not_true_eq_false, not_false_eq_true, Classical.not_not, true_implies, false_implies, implies_true, forall_const, and_false, false_and, Nat.le_refl, Nat.zero_le, Bool.false_eq_true, lv_args, s_rl_at, s_gf, s_pf, dn_q, kd_q, cl_q, nf_q, ln_q, tg_q, rr_q, cr_q, u_1, e_lsw, k_ti, List.drop_succ_cons, List.drop_zero, List.drop_nil, List.zip_cons_cons, List.zip_nil_right, List.zip_nil_left, List.all_cons, List.all_nil, Bool.and_true, Bool.and_self, decide_true, decide_false, Option.toList, List.cons_append, List.nil_append, List.append_nil, DX6_putPlain_0, FLX6, LDX6, nI_pred, (show ¬ nI k < 0 from nI_pos (by omega)), (show (8 : Int32) = nI 8 from rfl), pk_mul]
    refine sX6_putPlain_18 C (m_lowestByte l _ _) (hcat := Nat.le_of_ble_eq_true rfl) (k := ?_)
    rintro v2 G2 ⟨rfl, rfl⟩
    refine srnX6_putPlain C Rt [5] 40 ?_
    simp only [k_i, s_go, s_1, e_op, e_pi, e_pl, e_pr, e_p0, e_li, e_ll, e_lr, e_lk, e_ins, e_rm, e_to, e_sw, e_cmp, k_c, k_n, k_f, k_v, k_lg, ↓reduceIte, reduceCtorEq, Nat.reduceAdd, Nat.reduceSub, Nat.reduceMul, Nat.reduceEqDiff, Nat.reduceLT, Nat.reduceLeDiff, Int.reduceAdd, Int.reduceSub, Int.reduceNeg, Int.reduceLE, Int.reduceLT, Int.reduceToNat, Int.reduceEq, Int.cast_ofNat_Int, List.mem_cons, List.not_mem_nil, List.length_cons, List.length_nil, List.set_cons_zero, List.set_cons_succ, List.toList_toArray, eq_self, true_and, and_true, and_self, or_true, true_or, false_or, or_false, or_self, not_true_eq_false, not_false_eq_true, Classical.not_not, true_implies, false_implies, implies_true, forall_const, and_false, false_and, Nat.le_refl, Nat.zero_le, Bool.false_eq_true, lv_args, s_rl_at, s_gf, s_pf, dn_q, kd_q, cl_q, nf_q, ln_q, tg_q, rr_q, cr_q, u_1, e_lsw, k_ti, List.drop_succ_cons, List.drop_zero, List.drop_nil, List.zip_cons_cons, List.zip_nil_right, List.zip_nil_left, List.all_cons, List.all_nil, Bool.and_true, Bool.and_self, decide_true, decide_false, Option.toList, List.cons_append, List.nil_append, List.append_nil, DX6_putPlain_0, FLX6, LDX6]
    refine sX6_putPlain_21 C (m_X6_putOne l A S (bs := bs) hQ (by omega) hp _) (s_obj (show 0 < 1 by decide) rfl) (hcat := Nat.le_of_ble_eq_true rfl) (k := ?_)
    rintro v2 G2 ⟨S2, rfl, rfl, rfl⟩
    refine srnX6_putPlain C Rt [5] 40 ?_
    simp only [k_i, s_go, s_1, e_op, e_pi, e_pl, e_pr, e_p0, e_li, e_ll, e_lr, e_lk, e_ins, e_rm, e_to, e_sw, e_cmp, k_c, k_n, k_f, k_v, k_lg, ↓reduceIte, reduceCtorEq, Nat.reduceAdd, Nat.reduceSub, Nat.reduceMul, Nat.reduceEqDiff, Nat.reduceLT, Nat.reduceLeDiff, Int.reduceAdd, Int.reduceSub, Int.reduceNeg, Int.reduceLE, Int.reduceLT, Int.reduceToNat, Int.reduceEq, Int.cast_ofNat_Int, List.mem_cons, List.not_mem_nil, List.length_cons, List.length_nil, List.set_cons_zero, List.set_cons_succ, List.toList_toArray, eq_self, true_and, and_true, and_self, or_true, true_or, false_or, or_false, or_self, not_true_eq_false, not_false_eq_true, Classical.not_not, true_implies, false_implies, implies_true, forall_const, and_false, false_and, Nat.le_refl, Nat.zero_le, Bool.false_eq_true, lv_args, s_rl_at, s_gf, s_pf, dn_q, kd_q, cl_q, nf_q, ln_q, tg_q, rr_q, cr_q, u_1, e_lsw, k_ti, List.drop_succ_cons, List.drop_zero, List.drop_nil, List.zip_cons_cons, List.zip_nil_right, List.zip_nil_left, List.all_cons, List.all_nil, Bool.and_true, Bool.and_self, decide_true, decide_false, Option.toList, List.cons_append, List.nil_append, List.append_nil, DX6_putPlain_0, FLX6, LDX6, m1_eq]
    refine ih _ (by omega) (by simp; omega) ?_
    simpa [nb, sws, List.append_assoc] using hpo
end
set_option maxHeartbeats 4000000 in
set_option maxRecDepth 100000 in
theorem m_X6_putNumber (l : Launch) (A : pA) (S : pS) {qk qi a p n : Nat} {c : Bool} {bs : List Int32} {σ : Int64} (hQ : wQ S qk qi) (hn : n ≤ 8) (hb : a + bs.length + n ≤ ln qk) (hp : p < 2147483648) (v : Int64) : e_MX6_putNumber l [.ref (ad A 18 0), .long v, .int (nI n)] (gS A (wS S qk qi a p c bs σ)) (s_P A (fun v2 S2 => S2 = wS S qk qi a p c (bs ++ nb v n) (sws σ (nb v n)) ∧ v2 = none)) := by
  refine ofX6_putNumber (Nat.le_of_ble_eq_true rfl) ?_
  intro V C Rt
  refine srnX6_putNumber C Rt [5] 5 ?_
  simp only [k_i, s_go, s_1, e_op, e_pi, e_pl, e_pr, e_p0, e_li, e_ll, e_lr, e_lk, e_ins, e_rm, e_to, e_sw, e_cmp, k_c, k_n, k_f, k_v, k_lg, ↓reduceIte, reduceCtorEq, Nat.reduceAdd, Nat.reduceSub, Nat.reduceMul, Nat.reduceEqDiff, Nat.reduceLT, Nat.reduceLeDiff, Int.reduceAdd, Int.reduceSub, Int.reduceNeg, Int.reduceLE, Int.reduceLT, Int.reduceToNat, Int.reduceEq, Int.cast_ofNat_Int, List.mem_cons, List.not_mem_nil, List.length_cons, List.length_nil, List.set_cons_zero, List.set_cons_succ, List.toList_toArray, eq_self, true_and, and_true, and_self, or_true, true_or, false_or, or_false, or_self, not_true_eq_false, not_false_eq_true, Classical.not_not, true_implies, false_implies, implies_true, forall_const, and_false, false_and, Nat.le_refl, Nat.zero_le, Bool.false_eq_true, lv_args, s_rl_at, s_gf, s_pf, dn_q, kd_q, cl_q, nf_q, ln_q, tg_q, rr_q, cr_q, u_1, e_lsw, k_ti, List.drop_succ_cons, List.drop_zero, List.drop_nil, List.zip_cons_cons, List.zip_nil_right, List.zip_nil_left, List.all_cons, List.all_nil, Bool.and_true, Bool.and_self, decide_true, decide_false, Option.toList, List.cons_append, List.nil_append, List.append_nil, DX6_putNumber_0, FLX6, LDX6]
  exact lp_putNumber C Rt hQ hp n bs σ hn hb ⟨rfl, rfl⟩
set_option maxHeartbeats 4000000 in
set_option maxRecDepth 100000 in
theorem m_X6_putPlain (l : Launch) (A : pA) (S : pS) {qk qi a p n : Nat} {c : Bool} {bs : List Int32} {σ : Int64} (hQ : wQ S qk qi) (hn : n ≤ 8) (hb : a + bs.length + n ≤ ln qk) (hp : p < 2147483648) (v : Int64) : e_MX6_putPlain l [.ref (ad A 18 0), .long v, .int (nI n)] (gS A (wS S qk qi a p c bs σ)) (s_P A (fun v2 S2 => S2 = wS S qk qi a p c (bs ++ nb v n) σ ∧ v2 = none)) := by
  refine ofX6_putPlain (Nat.le_of_ble_eq_true rfl) ?_
  intro V C Rt
  refine srnX6_putPlain C Rt [5] 5 ?_
  simp only [k_i, s_go, s_1, e_op, e_pi, e_pl, e_pr, e_p0, e_li, e_ll, e_lr, e_lk, e_ins, e_rm, e_to, e_sw, e_cmp, k_c, k_n, k_f, k_v, k_lg, ↓reduceIte, reduceCtorEq, Nat.reduceAdd, Nat.reduceSub, Nat.reduceMul, Nat.reduceEqDiff, Nat.reduceLT, Nat.reduceLeDiff, Int.reduceAdd, Int.reduceSub, Int.reduceNeg, Int.reduceLE, Int.reduceLT, Int.reduceToNat, Int.reduceEq, Int.cast_ofNat_Int, List.mem_cons, List.not_mem_nil, List.length_cons, List.length_nil, List.set_cons_zero, List.set_cons_succ, List.toList_toArray, eq_self, true_and, and_true, and_self, or_true, true_or, false_or, or_false, or_self, not_true_eq_false, not_false_eq_true, Classical.not_not, true_implies, false_implies, implies_true, forall_const, and_false, false_and, Nat.le_refl, Nat.zero_le, Bool.false_eq_true, lv_args, s_rl_at, s_gf, s_pf, dn_q, kd_q, cl_q, nf_q, ln_q, tg_q, rr_q, cr_q, u_1, e_lsw, k_ti, List.drop_succ_cons, List.drop_zero, List.drop_nil, List.zip_cons_cons, List.zip_nil_right, List.zip_nil_left, List.all_cons, List.all_nil, Bool.and_true, Bool.and_self, decide_true, decide_false, Option.toList, List.cons_append, List.nil_append, List.append_nil, DX6_putPlain_0, FLX6, LDX6]
  exact lp_putPlain C Rt hQ hp n bs hn hb ⟨rfl, rfl⟩
/-- a row's parts -/
def thB (th dt ct : Nat → Int32) : Nat → List Int32
  | 0 => []
  | k + 1 => thB th dt ct k ++ ([th k] ++ nb (dt k).toInt64 4 ++ nb (ct k).toInt64 4)
def onB (nm : Nat → Int32) : Nat → List Int32
  | 0 => []
  | k + 1 => onB nm k ++ [nm k]
theorem thB_len {th dt ct : Nat → Int32} : ∀ n, (thB th dt ct n).length = 9 * n
  | 0 => rfl
  | n + 1 => by simp [thB, thB_len n, nb_len]; omega
theorem onB_len {nm : Nat → Int32} : ∀ n, (onB nm n).length = n
  | 0 => rfl
  | n + 1 => by simp [onB, onB_len n]
def rwA (kind : Int32) (value : Int64) (tc : Nat) (th dt ct : Nat → Int32) : List Int32 := [kind] ++ nb value 8 ++ [nI tc] ++ thB th dt ct tc
def rwB (kind : Int32) (value : Int64) (tc : Nat) (th dt ct : Nat → Int32) (fc : Nat) (nm : Nat → Int32) : List Int32 := rwA kind value tc th dt ct ++ [nI fc] ++ onB nm fc
theorem rwA_len {kind : Int32} {value : Int64} {tc : Nat} {th dt ct : Nat → Int32} : (rwA kind value tc th dt ct).length = 10 + 9 * tc := by
  simp [rwA, nb_len, thB_len]
  omega
theorem rwB_len {kind : Int32} {value : Int64} {tc : Nat} {th dt ct : Nat → Int32} {fc : Nat} {nm : Nat → Int32} : (rwB kind value tc th dt ct fc nm).length = 11 + 9 * tc + fc := by
  simp [rwB, rwA_len, onB_len]
  omega
/-- written so far in this row: X -/
abbrev wR (S : pS) (qk qi a p : Nat) (c : Bool) (bs : List Int32) (σ : Int64) (X : List Int32) : pS := wS S qk qi a p c (bs ++ X) (sws σ X)
theorem m_putR (l : Launch) (A : pA) (S : pS) {qk qi a p : Nat} {c : Bool} {bs X : List Int32} {σ : Int64} (hQ : wQ S qk qi) (hb : a + bs.length + X.length + 1 ≤ ln qk) (hp : p < 2147483648) (b : Int32) : e_MX6_put l [.ref (ad A 18 0), .int b] (gS A (wR S qk qi a p c bs σ X)) (s_P A (fun v S2 => S2 = wR S qk qi a p c bs σ (X ++ [b]) ∧ v = none)) := by
  have h := m_X6_put l A S (a := a) (bs := bs ++ X) (c := c) (σ := sws σ X) hQ (by simp; omega) hp b
  rw [List.append_assoc, sws_1] at h
  exact h
theorem m_numR (l : Launch) (A : pA) (S : pS) {qk qi a p n : Nat} {c : Bool} {bs X : List Int32} {σ : Int64} (hQ : wQ S qk qi) (hn : n ≤ 8) (hb : a + bs.length + X.length + n ≤ ln qk) (hp : p < 2147483648) (v : Int64) : e_MX6_putNumber l [.ref (ad A 18 0), .long v, .int (nI n)] (gS A (wR S qk qi a p c bs σ X)) (s_P A (fun v2 S2 => S2 = wR S qk qi a p c bs σ (X ++ nb v n) ∧ v2 = none)) := by
  have h := m_X6_putNumber l A S (a := a) (bs := bs ++ X) (c := c) (σ := sws σ X) hQ hn (by simp; omega) hp v
  rw [List.append_assoc, ← sws_app] at h
  exact h
section
variable {V : pV} {l : Launch} {A : pA} {post : Option Value → pS → Prop} {S : pS}
set_option maxHeartbeats 4000000 in
set_option maxRecDepth 100000 in
theorem lp_putRow2 (C : e_CX6_putRow V l) (Rt : e_RX6_putRow V (s_P A post)) {qk qi a p i m nk : Nat} {c : Bool} {bs X : List Int32} {σ : Int64} (hQ : wQ S qk qi) (hp : p < 2147483648) (hi : i < 60) (hw : wfF S i m) (hm : m ≤ 60) (hnk : nk = 14 ∨ nk = 19) (hb : a + bs.length + X.length + 3 ≤ ln qk)
    (hpo : post none (wR S qk qi a p c bs σ (X ++ onB (fun k => S.1 nk 0 (onC S i k)) (fcC S i)))) : ∀ z k, k + z = fcC S i → V 0 0 86 [(0, .ref (ad A 18 0)), (1, .ref (ad A 6 i)), (2, .ref (ad A nk 0)), (3, .int (nI k))] [] (gS A (wR S qk qi a p c bs σ (X ++ onB (fun k => S.1 nk 0 (onC S i k)) k))) := by
  obtain ⟨w1, w2, w3, w4, w5, w6⟩ := hw
  have hor := hQ.2.2.2.2
  have n6 : ¬ 6 = qk := by omega
  have n10 : ¬ 10 = qk := by omega
  have nn : ¬ nk = qk := by omega
  have nn2 : ¬ nk = 18 := by omega
  have hkd : kd nk = 2 := by rcases hnk with rfl | rfl <;> rfl
  have hdn : 0 < dn nk := by rcases hnk with rfl | rfl <;> decide
  have hln : ln nk = 60 := by rcases hnk with rfl | rfl <;> rfl
  intro z
  induction z with
  | zero =>
    intro k hk
    have hk2 : k = fcC S i := by omega
    rw [hk2]
    refine srnX6_putRow C Rt [86] 40 ?_
    simp only [k_i, s_go, s_1, e_op, e_pi, e_pl, e_pr, e_p0, e_li, e_ll, e_lr, e_lk, e_ins, e_rm, e_to, e_sw, e_cmp, k_c, k_n, k_f, k_v, k_lg, ↓reduceIte, reduceCtorEq, Nat.reduceAdd, Nat.reduceSub, Nat.reduceMul, Nat.reduceEqDiff, Nat.reduceLT, Nat.reduceLeDiff, Int.reduceAdd, Int.reduceSub, Int.reduceNeg, Int.reduceLE, Int.reduceLT, Int.reduceToNat, Int.reduceEq, Int.cast_ofNat_Int, List.mem_cons, List.not_mem_nil, List.length_cons, List.length_nil, List.set_cons_zero, List.set_cons_succ, List.toList_toArray, eq_self, true_and, and_true, and_self, or_true, true_or, false_or, or_false, or_self, not_true_eq_false, not_false_eq_true, Classical.not_not, true_implies, false_implies, implies_true, forall_const, and_false, false_and, Nat.le_refl, Nat.zero_le, Bool.false_eq_true, lv_args, s_rl_at, s_gf, s_pf, dn_q, kd_q, cl_q, nf_q, ln_q, tg_q, rr_q, cr_q, u_1, e_lsw, k_ti, List.drop_succ_cons, List.drop_zero, List.drop_nil, List.zip_cons_cons, List.zip_nil_right, List.zip_nil_left, List.all_cons, List.all_nil, Bool.and_true, Bool.and_self, decide_true, decide_false, Option.toList, List.cons_append, List.nil_append, List.append_nil, DX6_putRow_0, DX6_putRow_1, FLX6, LDX6, wS_1, wS_2, wS_3, n6, w3, (show i < 62 by omega), x_le (a := fcC S i) (b := fcC S i) (by omega) (by omega)]
    exact hpo
  | succ z ih =>
    intro k hk
    obtain ⟨h6, h7⟩ := w6 k (by omega)
    refine srnX6_putRow C Rt [86] 40 ?_
    simp only [k_i, s_go, s_1, e_op, e_pi, e_pl, e_pr, e_p0, e_li, e_ll, e_lr, e_lk, e_ins, e_rm, e_to, e_sw, e_cmp, k_c, k_n, k_f, k_v, k_lg, ↓reduceIte, reduceCtorEq, Nat.reduceAdd, Nat.reduceSub, Nat.reduceMul, Nat.reduceEqDiff, Nat.reduceLT, Nat.reduceLeDiff, Int.reduceAdd, Int.reduceSub, Int.reduceNeg, Int.reduceLE, Int.reduceLT, Int.reduceToNat, Int.reduceEq, Int.cast_ofNat_Int, List.mem_cons, List.not_mem_nil, List.length_cons, List.length_nil, List.set_cons_zero, List.set_cons_succ, List.toList_toArray, eq_self, true_and, and_true, and_self, or_true, true_or, false_or, or_false, or_self, not_true_eq_false, not_false_eq_true, Classical.not_not, true_implies, false_implies, implies_true, forall_const, and_false, false_and, Nat.le_refl, Nat.zero_le, Bool.false_eq_true, lv_args, s_rl_at, s_gf, s_pf, dn_q, kd_q, cl_q, nf_q, ln_q, tg_q, rr_q, cr_q, u_1, e_lsw, k_ti, List.drop_succ_cons, List.drop_zero, List.drop_nil, List.zip_cons_cons, List.zip_nil_right, List.zip_nil_left, List.all_cons, List.all_nil, Bool.and_true, Bool.and_self, decide_true, decide_false, Option.toList, List.cons_append, List.nil_append, List.append_nil, DX6_putRow_0, DX6_putRow_1, FLX6, LDX6, wS_1, wS_2, wS_3, n6, n10, nn, nn2, hkd, hdn, hln, w3, h6, (show i < 62 by omega), x_le (a := fcC S i) (b := k) (by omega) (by omega), x_cl (a := k) (by omega), x_in (a := k) (n := 3) (by omega), x_cl (a := onC S i k) (by omega), x_in (a := onC S i k) (n := 60) (by omega)]
    refine ⟨fun h => by omega, fun _ => ⟨by omega, by omega, ?_⟩⟩
    refine sX6_putRow_103 C (m_putR l A S hQ (by simp [onB_len]; omega) hp _) (s_obj (show 0 < 1 by decide) rfl) (hcat := Nat.le_of_ble_eq_true rfl) (k := ?_)
    rintro v2 G2 ⟨S2, rfl, rfl, rfl⟩
    refine srnX6_putRow C Rt [86] 40 ?_
    simp only [k_i, s_go, s_1, e_op, e_pi, e_pl, e_pr, e_p0, e_li, e_ll, e_lr, e_lk, e_ins, e_rm, e_to, e_sw, e_cmp, k_c, k_n, k_f, k_v, k_lg, ↓reduceIte, reduceCtorEq, Nat.reduceAdd, Nat.reduceSub, Nat.reduceMul, Nat.reduceEqDiff, Nat.reduceLT, Nat.reduceLeDiff, Int.reduceAdd, Int.reduceSub, Int.reduceNeg, Int.reduceLE, Int.reduceLT, Int.reduceToNat, Int.reduceEq, Int.cast_ofNat_Int, List.mem_cons, List.not_mem_nil, List.length_cons, List.length_nil, List.set_cons_zero, List.set_cons_succ, List.toList_toArray, eq_self, true_and, and_true, and_self, or_true, true_or, false_or, or_false, or_self, not_true_eq_false, not_false_eq_true, Classical.not_not, true_implies, false_implies, implies_true, forall_const, and_false, false_and, Nat.le_refl, Nat.zero_le, Bool.false_eq_true, lv_args, s_rl_at, s_gf, s_pf, dn_q, kd_q, cl_q, nf_q, ln_q, tg_q, rr_q, cr_q, u_1, e_lsw, k_ti, List.drop_succ_cons, List.drop_zero, List.drop_nil, List.zip_cons_cons, List.zip_nil_right, List.zip_nil_left, List.all_cons, List.all_nil, Bool.and_true, Bool.and_self, decide_true, decide_false, Option.toList, List.cons_append, List.nil_append, List.append_nil, DX6_putRow_0, DX6_putRow_1, FLX6, LDX6, nI_1]
    have h9 := ih (k + 1) (by omega)
    simp only [onB] at h9
    rw [List.append_assoc]
    exact h9
set_option maxHeartbeats 4000000 in
set_option maxRecDepth 100000 in
theorem lp_putRow1 (C : e_CX6_putRow V l) (Rt : e_RX6_putRow V (s_P A post)) {qk qi a p i m nk : Nat} {c : Bool} {bs X : List Int32} {σ : Int64} (hQ : wQ S qk qi) (hp : p < 2147483648) (hi : i < 60) (hw : wfF S i m) (hm : m ≤ 60) (hnk : nk = 14 ∨ nk = 19) (hb : a + bs.length + X.length + 40 ≤ ln qk)
    (hpo : post none (wR S qk qi a p c bs σ (X ++ thB (S.1 7 i) (S.1 8 i) (S.1 9 i) (tcC S i) ++ [nI (fcC S i)] ++ onB (fun k => S.1 nk 0 (onC S i k)) (fcC S i)))) : ∀ z k, k + z = tcC S i → V 0 0 28 [(0, .ref (ad A 18 0)), (1, .ref (ad A 6 i)), (2, .ref (ad A nk 0)), (3, .int (nI k))] [] (gS A (wR S qk qi a p c bs σ (X ++ thB (S.1 7 i) (S.1 8 i) (S.1 9 i) k))) := by
  have hw0 := hw
  obtain ⟨w1, w2, w3, w4, w5, w6⟩ := hw
  have hor := hQ.2.2.2.2
  have n6 : ¬ 6 = qk := by omega
  have n7 : ¬ 7 = qk := by omega
  have n8 : ¬ 8 = qk := by omega
  have n9 : ¬ 9 = qk := by omega
  intro z
  induction z with
  | zero =>
    intro k hk
    have hk2 : k = tcC S i := by omega
    rw [hk2]
    refine srnX6_putRow C Rt [28, 86] 40 ?_
    simp only [k_i, s_go, s_1, e_op, e_pi, e_pl, e_pr, e_p0, e_li, e_ll, e_lr, e_lk, e_ins, e_rm, e_to, e_sw, e_cmp, k_c, k_n, k_f, k_v, k_lg, ↓reduceIte, reduceCtorEq, Nat.reduceAdd, Nat.reduceSub, Nat.reduceMul, Nat.reduceEqDiff, Nat.reduceLT, Nat.reduceLeDiff, Int.reduceAdd, Int.reduceSub, Int.reduceNeg, Int.reduceLE, Int.reduceLT, Int.reduceToNat, Int.reduceEq, Int.cast_ofNat_Int, List.mem_cons, List.not_mem_nil, List.length_cons, List.length_nil, List.set_cons_zero, List.set_cons_succ, List.toList_toArray, eq_self, true_and, and_true, and_self, or_true, true_or, false_or, or_false, or_self, not_true_eq_false, not_false_eq_true, Classical.not_not, true_implies, false_implies, implies_true, forall_const, and_false, false_and, Nat.le_refl, Nat.zero_le, Bool.false_eq_true, lv_args, s_rl_at, s_gf, s_pf, dn_q, kd_q, cl_q, nf_q, ln_q, tg_q, rr_q, cr_q, u_1, e_lsw, k_ti, List.drop_succ_cons, List.drop_zero, List.drop_nil, List.zip_cons_cons, List.zip_nil_right, List.zip_nil_left, List.all_cons, List.all_nil, Bool.and_true, Bool.and_self, decide_true, decide_false, Option.toList, List.cons_append, List.nil_append, List.append_nil, DX6_putRow_0, DX6_putRow_1, FLX6, LDX6, wS_1, wS_2, wS_3, n6, w1, w3, (show i < 62 by omega), x_le (a := tcC S i) (b := tcC S i) (by omega) (by omega)]
    refine sX6_putRow_81 C (m_putR l A S hQ (by simp [thB_len]; omega) hp _) (s_obj (show 0 < 1 by decide) rfl) (hcat := Nat.le_of_ble_eq_true rfl) (k := ?_)
    rintro v2 G2 ⟨S2, rfl, rfl, rfl⟩
    refine srnX6_putRow C Rt [86] 40 ?_
    simp only [k_i, s_go, s_1, e_op, e_pi, e_pl, e_pr, e_p0, e_li, e_ll, e_lr, e_lk, e_ins, e_rm, e_to, e_sw, e_cmp, k_c, k_n, k_f, k_v, k_lg, ↓reduceIte, reduceCtorEq, Nat.reduceAdd, Nat.reduceSub, Nat.reduceMul, Nat.reduceEqDiff, Nat.reduceLT, Nat.reduceLeDiff, Int.reduceAdd, Int.reduceSub, Int.reduceNeg, Int.reduceLE, Int.reduceLT, Int.reduceToNat, Int.reduceEq, Int.cast_ofNat_Int, List.mem_cons, List.not_mem_nil, List.length_cons, List.length_nil, List.set_cons_zero, List.set_cons_succ, List.toList_toArray, eq_self, true_and, and_true, and_self, or_true, true_or, false_or, or_false, or_self, not_true_eq_false, not_false_eq_true, Classical.not_not, true_implies, false_implies, implies_true, forall_const, and_false, false_and, Nat.le_refl, Nat.zero_le, Bool.false_eq_true, lv_args, s_rl_at, s_gf, s_pf, dn_q, kd_q, cl_q, nf_q, ln_q, tg_q, rr_q, cr_q, u_1, e_lsw, k_ti, List.drop_succ_cons, List.drop_zero, List.drop_nil, List.zip_cons_cons, List.zip_nil_right, List.zip_nil_left, List.all_cons, List.all_nil, Bool.and_true, Bool.and_self, decide_true, decide_false, Option.toList, List.cons_append, List.nil_append, List.append_nil, DX6_putRow_0, DX6_putRow_1, FLX6, LDX6]
    have h9 := lp_putRow2 (X := X ++ thB (S.1 7 i) (S.1 8 i) (S.1 9 i) (tcC S i) ++ [nI (fcC S i)]) C Rt hQ hp hi hw0 hm hnk (by simp [thB_len]; omega) hpo (fcC S i) 0 (by omega)
    simpa [onB, nI_0] using h9
  | succ z ih =>
    intro k hk
    refine srnX6_putRow C Rt [28, 86] 40 ?_
    simp only [k_i, s_go, s_1, e_op, e_pi, e_pl, e_pr, e_p0, e_li, e_ll, e_lr, e_lk, e_ins, e_rm, e_to, e_sw, e_cmp, k_c, k_n, k_f, k_v, k_lg, ↓reduceIte, reduceCtorEq, Nat.reduceAdd, Nat.reduceSub, Nat.reduceMul, Nat.reduceEqDiff, Nat.reduceLT, Nat.reduceLeDiff, Int.reduceAdd, Int.reduceSub, Int.reduceNeg, Int.reduceLE, Int.reduceLT, Int.reduceToNat, Int.reduceEq, Int.cast_ofNat_Int, List.mem_cons, List.not_mem_nil, List.length_cons, List.length_nil, List.set_cons_zero, List.set_cons_succ, List.toList_toArray, eq_self, true_and, and_true, and_self, or_true, true_or, false_or, or_false, or_self, not_true_eq_false, not_false_eq_true, Classical.not_not, true_implies, false_implies, implies_true, forall_const, and_false, false_and, Nat.le_refl, Nat.zero_le, Bool.false_eq_true, lv_args, s_rl_at, s_gf, s_pf, dn_q, kd_q, cl_q, nf_q, ln_q, tg_q, rr_q, cr_q, u_1, e_lsw, k_ti, List.drop_succ_cons, List.drop_zero, List.drop_nil, List.zip_cons_cons, List.zip_nil_right, List.zip_nil_left, List.all_cons, List.all_nil, Bool.and_true, Bool.and_self, decide_true, decide_false, Option.toList, List.cons_append, List.nil_append, List.append_nil, DX6_putRow_0, DX6_putRow_1, FLX6, LDX6, wS_1, wS_2, wS_3, n6, n7, w1, (show i < 62 by omega), x_le (a := tcC S i) (b := k) (by omega) (by omega), x_cl (a := k) (by omega), x_in (a := k) (n := 4) (by omega)]
    refine ⟨fun h => by omega, fun _ => ⟨by omega, ?_⟩⟩
    refine sX6_putRow_43 C (m_putR l A S hQ (by simp [thB_len]; omega) hp _) (s_obj (show 0 < 1 by decide) rfl) (hcat := Nat.le_of_ble_eq_true rfl) (k := ?_)
    rintro v2 G2 ⟨S2, rfl, rfl, rfl⟩
    refine srnX6_putRow C Rt [28, 86] 40 ?_
    simp only [k_i, s_go, s_1, e_op, e_pi, e_pl, e_pr, e_p0, e_li, e_ll, e_lr, e_lk, e_ins, e_rm, e_to, e_sw, e_cmp, k_c, k_n, k_f, k_v, k_lg, ↓reduceIte, reduceCtorEq, Nat.reduceAdd, Nat.reduceSub, Nat.reduceMul, Nat.reduceEqDiff, Nat.reduceLT, Nat.reduceLeDiff, Int.reduceAdd, Int.reduceSub, Int.reduceNeg, Int.reduceLE, Int.reduceLT, Int.reduceToNat, Int.reduceEq, Int.cast_ofNat_Int, List.mem_cons, List.not_mem_nil, List.length_cons, List.length_nil, List.set_cons_zero, List.set_cons_succ, List.toList_toArray, eq_self, true_and, and_true, and_self, or_true, true_or, false_or, or_false, or_self, not_true_eq_false, not_false_eq_true, Classical.not_not, true_implies, false_implies, implies_true, forall_const, and_false, false_and, Nat.le_refl, Nat.zero_le, Bool.false_eq_true, lv_args, s_rl_at, s_gf, s_pf, dn_q, kd_q, cl_q, nf_q, ln_q, tg_q, rr_q, cr_q, u_1, e_lsw, k_ti, List.drop_succ_cons, List.drop_zero, List.drop_nil, List.zip_cons_cons, List.zip_nil_right, List.zip_nil_left, List.all_cons, List.all_nil, Bool.and_true, Bool.and_self, decide_true, decide_false, Option.toList, List.cons_append, List.nil_append, List.append_nil, DX6_putRow_0, DX6_putRow_1, FLX6, LDX6, wS_1, wS_2, wS_3, n8, (show i < 62 by omega), x_cl (a := k) (by omega), x_in (a := k) (n := 4) (by omega), (show (4 : Int32) = nI 4 from rfl)]
    refine ⟨by omega, ?_⟩
    refine sX6_putRow_55 C (m_numR l A S hQ (show 4 ≤ 8 by decide) (by simp [thB_len]; omega) hp _) (s_obj (show 0 < 1 by decide) rfl) (hcat := Nat.le_of_ble_eq_true rfl) (k := ?_)
    rintro v2 G2 ⟨S2, rfl, rfl, rfl⟩
    refine srnX6_putRow C Rt [28, 86] 40 ?_
    simp only [k_i, s_go, s_1, e_op, e_pi, e_pl, e_pr, e_p0, e_li, e_ll, e_lr, e_lk, e_ins, e_rm, e_to, e_sw, e_cmp, k_c, k_n, k_f, k_v, k_lg, ↓reduceIte, reduceCtorEq, Nat.reduceAdd, Nat.reduceSub, Nat.reduceMul, Nat.reduceEqDiff, Nat.reduceLT, Nat.reduceLeDiff, Int.reduceAdd, Int.reduceSub, Int.reduceNeg, Int.reduceLE, Int.reduceLT, Int.reduceToNat, Int.reduceEq, Int.cast_ofNat_Int, List.mem_cons, List.not_mem_nil, List.length_cons, List.length_nil, List.set_cons_zero, List.set_cons_succ, List.toList_toArray, eq_self, true_and, and_true, and_self, or_true, true_or, false_or, or_false, or_self, not_true_eq_false, not_false_eq_true, Classical.not_not, true_implies, false_implies, implies_true, forall_const, and_false, false_and, Nat.le_refl, Nat.zero_le, Bool.false_eq_true, lv_args, s_rl_at, s_gf, s_pf, dn_q, kd_q, cl_q, nf_q, ln_q, tg_q, rr_q, cr_q, u_1, e_lsw, k_ti, List.drop_succ_cons, List.drop_zero, List.drop_nil, List.zip_cons_cons, List.zip_nil_right, List.zip_nil_left, List.all_cons, List.all_nil, Bool.and_true, Bool.and_self, decide_true, decide_false, Option.toList, List.cons_append, List.nil_append, List.append_nil, DX6_putRow_0, DX6_putRow_1, FLX6, LDX6, wS_1, wS_2, wS_3, n9, (show i < 62 by omega), x_cl (a := k) (by omega), x_in (a := k) (n := 4) (by omega), (show (4 : Int32) = nI 4 from rfl)]
    refine ⟨by omega, ?_⟩
    refine sX6_putRow_67 C (m_numR l A S hQ (show 4 ≤ 8 by decide) (by simp [thB_len, nb_len]; omega) hp _) (s_obj (show 0 < 1 by decide) rfl) (hcat := Nat.le_of_ble_eq_true rfl) (k := ?_)
    rintro v2 G2 ⟨S2, rfl, rfl, rfl⟩
    refine srnX6_putRow C Rt [28, 86] 40 ?_
    simp only [k_i, s_go, s_1, e_op, e_pi, e_pl, e_pr, e_p0, e_li, e_ll, e_lr, e_lk, e_ins, e_rm, e_to, e_sw, e_cmp, k_c, k_n, k_f, k_v, k_lg, ↓reduceIte, reduceCtorEq, Nat.reduceAdd, Nat.reduceSub, Nat.reduceMul, Nat.reduceEqDiff, Nat.reduceLT, Nat.reduceLeDiff, Int.reduceAdd, Int.reduceSub, Int.reduceNeg, Int.reduceLE, Int.reduceLT, Int.reduceToNat, Int.reduceEq, Int.cast_ofNat_Int, List.mem_cons, List.not_mem_nil, List.length_cons, List.length_nil, List.set_cons_zero, List.set_cons_succ, List.toList_toArray, eq_self, true_and, and_true, and_self, or_true, true_or, false_or, or_false, or_self, not_true_eq_false, not_false_eq_true, Classical.not_not, true_implies, false_implies, implies_true, forall_const, and_false, false_and, Nat.le_refl, Nat.zero_le, Bool.false_eq_true, lv_args, s_rl_at, s_gf, s_pf, dn_q, kd_q, cl_q, nf_q, ln_q, tg_q, rr_q, cr_q, u_1, e_lsw, k_ti, List.drop_succ_cons, List.drop_zero, List.drop_nil, List.zip_cons_cons, List.zip_nil_right, List.zip_nil_left, List.all_cons, List.all_nil, Bool.and_true, Bool.and_self, decide_true, decide_false, Option.toList, List.cons_append, List.nil_append, List.append_nil, DX6_putRow_0, DX6_putRow_1, FLX6, LDX6, nI_1]
    have h9 := ih (k + 1) (by omega)
    simpa [thB, nI_0] using h9
end
set_option maxHeartbeats 4000000 in
set_option maxRecDepth 100000 in
theorem m_X6_putRow (l : Launch) (A : pA) (S : pS) {qk qi a p i m nk : Nat} {c : Bool} {bs : List Int32} {σ : Int64} (hQ : wQ S qk qi) (hp : p < 2147483648) (hi : i < 60) (hw : wfF S i m) (hm : m ≤ 60) (hnk : nk = 14 ∨ nk = 19) (hb : a + bs.length + 50 ≤ ln qk) : e_MX6_putRow l [.ref (ad A 18 0), .ref (ad A 6 i), .ref (ad A nk 0)] (gS A (wS S qk qi a p c bs σ)) (s_P A (fun v2 S2 => S2 = wR S qk qi a p c bs σ (rwB (S.1 6 i 0) (S.2.1 6 i 1) (tcC S i) (S.1 7 i) (S.1 8 i) (S.1 9 i) (fcC S i) (fun k => S.1 nk 0 (onC S i k))) ∧ v2 = none)) := by
  have hw0 := hw
  obtain ⟨w1, w2, w3, w4, w5, w6⟩ := hw
  have hor := hQ.2.2.2.2
  have n6 : ¬ 6 = qk := by omega
  refine ofX6_putRow (Nat.le_of_ble_eq_true rfl) ?_
  intro V C Rt
  have h0 : gS A (wS S qk qi a p c bs σ) = gS A (wR S qk qi a p c bs σ []) := by simp [wR, sws]
  rw [h0]
  refine srnX6_putRow C Rt [28, 86] 40 ?_
  simp only [k_i, s_go, s_1, e_op, e_pi, e_pl, e_pr, e_p0, e_li, e_ll, e_lr, e_lk, e_ins, e_rm, e_to, e_sw, e_cmp, k_c, k_n, k_f, k_v, k_lg, ↓reduceIte, reduceCtorEq, Nat.reduceAdd, Nat.reduceSub, Nat.reduceMul, Nat.reduceEqDiff, Nat.reduceLT, Nat.reduceLeDiff, Int.reduceAdd, Int.reduceSub, Int.reduceNeg, Int.reduceLE, Int.reduceLT, Int.reduceToNat, Int.reduceEq, Int.cast_ofNat_Int, List.mem_cons, List.not_mem_nil, List.length_cons, List.length_nil, List.set_cons_zero, List.set_cons_succ, List.toList_toArray, eq_self, true_and, and_true, and_self, or_true, true_or, false_or, or_false, or_self, not_true_eq_false, not_false_eq_true, Classical.not_not, true_implies, false_implies, implies_true, forall_const, and_false, false_and, Nat.le_refl, Nat.zero_le, Bool.false_eq_true, lv_args, s_rl_at, s_gf, s_pf, dn_q, kd_q, cl_q, nf_q, ln_q, tg_q, rr_q, cr_q, u_1, e_lsw, k_ti, List.drop_succ_cons, List.drop_zero, List.drop_nil, List.zip_cons_cons, List.zip_nil_right, List.zip_nil_left, List.all_cons, List.all_nil, Bool.and_true, Bool.and_self, decide_true, decide_false, Option.toList, List.cons_append, List.nil_append, List.append_nil, DX6_putRow_0, DX6_putRow_1, FLX6, LDX6, wS_1, wS_2, wS_3, n6, (show i < 62 by omega)]
  refine sX6_putRow_5 C (m_putR l A S hQ (by simp; omega) hp _) (s_obj (show 0 < 1 by decide) rfl) (hcat := Nat.le_of_ble_eq_true rfl) (k := ?_)
  rintro v2 G2 ⟨S2, rfl, rfl, rfl⟩
  refine srnX6_putRow C Rt [28, 86] 40 ?_
  simp only [k_i, s_go, s_1, e_op, e_pi, e_pl, e_pr, e_p0, e_li, e_ll, e_lr, e_lk, e_ins, e_rm, e_to, e_sw, e_cmp, k_c, k_n, k_f, k_v, k_lg, ↓reduceIte, reduceCtorEq, Nat.reduceAdd, Nat.reduceSub, Nat.reduceMul, Nat.reduceEqDiff, Nat.reduceLT, Nat.reduceLeDiff, Int.reduceAdd, Int.reduceSub, Int.reduceNeg, Int.reduceLE, Int.reduceLT, Int.reduceToNat, Int.reduceEq, Int.cast_ofNat_Int, List.mem_cons, List.not_mem_nil, List.length_cons, List.length_nil, List.set_cons_zero, List.set_cons_succ, List.toList_toArray, eq_self, true_and, and_true, and_self, or_true, true_or, false_or, or_false, or_self, not_true_eq_false, not_false_eq_true, Classical.not_not, true_implies, false_implies, implies_true, forall_const, and_false, false_and, Nat.le_refl, Nat.zero_le, Bool.false_eq_true, lv_args, s_rl_at, s_gf, s_pf, dn_q, kd_q, cl_q, nf_q, ln_q, tg_q, rr_q, cr_q, u_1, e_lsw, k_ti, List.drop_succ_cons, List.drop_zero, List.drop_nil, List.zip_cons_cons, List.zip_nil_right, List.zip_nil_left, List.all_cons, List.all_nil, Bool.and_true, Bool.and_self, decide_true, decide_false, Option.toList, List.cons_append, List.nil_append, List.append_nil, DX6_putRow_0, DX6_putRow_1, FLX6, LDX6, wS_1, wS_2, wS_3, n6, (show i < 62 by omega), (show (8 : Int32) = nI 8 from rfl)]
  refine sX6_putRow_15 C (m_numR l A S hQ (show 8 ≤ 8 by decide) (by simp; omega) hp _) (s_obj (show 0 < 1 by decide) rfl) (hcat := Nat.le_of_ble_eq_true rfl) (k := ?_)
  rintro v2 G2 ⟨S2, rfl, rfl, rfl⟩
  refine srnX6_putRow C Rt [28, 86] 40 ?_
  simp only [k_i, s_go, s_1, e_op, e_pi, e_pl, e_pr, e_p0, e_li, e_ll, e_lr, e_lk, e_ins, e_rm, e_to, e_sw, e_cmp, k_c, k_n, k_f, k_v, k_lg, ↓reduceIte, reduceCtorEq, Nat.reduceAdd, Nat.reduceSub, Nat.reduceMul, Nat.reduceEqDiff, Nat.reduceLT, Nat.reduceLeDiff, Int.reduceAdd, Int.reduceSub, Int.reduceNeg, Int.reduceLE, Int.reduceLT, Int.reduceToNat, Int.reduceEq, Int.cast_ofNat_Int, List.mem_cons, List.not_mem_nil, List.length_cons, List.length_nil, List.set_cons_zero, List.set_cons_succ, List.toList_toArray, eq_self, true_and, and_true, and_self, or_true, true_or, false_or, or_false, or_self, not_true_eq_false, not_false_eq_true, Classical.not_not, true_implies, false_implies, implies_true, forall_const, and_false, false_and, Nat.le_refl, Nat.zero_le, Bool.false_eq_true, lv_args, s_rl_at, s_gf, s_pf, dn_q, kd_q, cl_q, nf_q, ln_q, tg_q, rr_q, cr_q, u_1, e_lsw, k_ti, List.drop_succ_cons, List.drop_zero, List.drop_nil, List.zip_cons_cons, List.zip_nil_right, List.zip_nil_left, List.all_cons, List.all_nil, Bool.and_true, Bool.and_self, decide_true, decide_false, Option.toList, List.cons_append, List.nil_append, List.append_nil, DX6_putRow_0, DX6_putRow_1, FLX6, LDX6, wS_1, wS_2, wS_3, n6, (show i < 62 by omega), w1]
  refine sX6_putRow_23 C (m_putR l A S hQ (by simp [nb_len]; omega) hp _) (s_obj (show 0 < 1 by decide) rfl) (hcat := Nat.le_of_ble_eq_true rfl) (k := ?_)
  rintro v2 G2 ⟨S2, rfl, rfl, rfl⟩
  refine srnX6_putRow C Rt [28, 86] 40 ?_
  simp only [k_i, s_go, s_1, e_op, e_pi, e_pl, e_pr, e_p0, e_li, e_ll, e_lr, e_lk, e_ins, e_rm, e_to, e_sw, e_cmp, k_c, k_n, k_f, k_v, k_lg, ↓reduceIte, reduceCtorEq, Nat.reduceAdd, Nat.reduceSub, Nat.reduceMul, Nat.reduceEqDiff, Nat.reduceLT, Nat.reduceLeDiff, Int.reduceAdd, Int.reduceSub, Int.reduceNeg, Int.reduceLE, Int.reduceLT, Int.reduceToNat, Int.reduceEq, Int.cast_ofNat_Int, List.mem_cons, List.not_mem_nil, List.length_cons, List.length_nil, List.set_cons_zero, List.set_cons_succ, List.toList_toArray, eq_self, true_and, and_true, and_self, or_true, true_or, false_or, or_false, or_self, not_true_eq_false, not_false_eq_true, Classical.not_not, true_implies, false_implies, implies_true, forall_const, and_false, false_and, Nat.le_refl, Nat.zero_le, Bool.false_eq_true, lv_args, s_rl_at, s_gf, s_pf, dn_q, kd_q, cl_q, nf_q, ln_q, tg_q, rr_q, cr_q, u_1, e_lsw, k_ti, List.drop_succ_cons, List.drop_zero, List.drop_nil, List.zip_cons_cons, List.zip_nil_right, List.zip_nil_left, List.all_cons, List.all_nil, Bool.and_true, Bool.and_self, decide_true, decide_false, Option.toList, List.cons_append, List.nil_append, List.append_nil, DX6_putRow_0, DX6_putRow_1, FLX6, LDX6]
  have h9 := lp_putRow1 (X := [] ++ [S.1 6 i 0] ++ nb (S.2.1 6 i 1) 8 ++ [nI (tcC S i)]) (bs := bs) (c := c) (σ := σ) C Rt hQ hp hi hw0 hm hnk (by simp [nb_len]; omega) ⟨by simp [rwB, rwA], rfl⟩ (tcC S i) 0 (by omega)
  simpa [thB, nI_0] using h9
