/-! the reference: isFresh, isUsable, usable -/
theorem w_pre {V : pV} {l : Launch} {own : String} {cc : ByteArray} {nL : Nat} {ws : List Cond} {R : Room} {ini : Bool} {cells slots pc : Nat} {lv ex : pL} {st : List Value} {G : pH} (C : e_C V l own cc nL ws R ini) (h : V cells slots pc lv st G) : V cells slots pc (lv ++ ex) st G := by
  obtain ⟨p, e, s, m, args, below, meth, c, D, cs, base, Q, rfl, -⟩ := C
  intro H locs ls h1 h2 h3
  exact h H locs ls h1 h2 ⟨h3.1, h3.2.1, fun q hq => h3.2.2 q (List.mem_append_left _ hq)⟩
def aB (p : Nat → Bool) : Nat → Bool
  | 0 => true
  | n + 1 => aB p n && p n
abbrev smC (S : pS) (i k : Nat) : Bool := decide (S.1 2 0 (thC S i k) = S.1 8 i k)
abbrev snC (S : pS) (i k : Nat) : Int32 := S.1 3 0 (thC S i k) - S.1 9 i k
abbrev fwC (S : pS) (i k : Nat) : Bool := smC S i k || decide (0 ≤ snC S i k ∧ snC S i k ≤ 2)
abbrev nnC (S : pS) (i k : Nat) : Bool := decide (snC S i k = 0)
theorem frs_aB {S : pS} {i : Nat} : ∀ {n : Nat}, frsC S i n = if S.1 6 i 0 = 2 then aB (fwC S i) n else if S.1 6 i 0 = 3 then aB (smC S i) n && aB (nnC S i) n else aB (smC S i) n
  | 0 => by simp [frs, aB]
  | n + 1 => by
    have h := frs_aB (S := S) (i := i) (n := n)
    unfold frsC at h ⊢
    rw [frs, h]
    by_cases h2 : S.1 6 i 0 = 2
    · simp [h2, stands, aB, fwC]
    · by_cases h3 : S.1 6 i 0 = 3
      · simp only [h3, stands, aB, if_neg (show ¬ ((3 : Int32) = 2) by decide), if_true]
        cases aB (smC S i) n <;> cases aB (nnC S i) n <;> simp
      · simp [h2, h3, stands, aB]
theorem nft {b : Bool} (h : ¬ b = false) : b = true := by cases b <;> simp at h ⊢
theorem in_2 (x : Int32) : decide ((0 : Int64) ≤ x.toInt64 ∧ x.toInt64 ≤ 2) = decide (0 ≤ x ∧ x ≤ 2) := by
  apply decide_eq_decide.mpr
  rw [Int64.le_iff_toInt_le, Int64.le_iff_toInt_le, i64_toInt, Int32.le_iff_toInt_le, Int32.le_iff_toInt_le]
  have h1 : ((0 : Int64)).toInt = 0 := by decide
  have h2 : ((2 : Int64)).toInt = 2 := by decide
  have h3 : ((0 : Int32)).toInt = 0 := by decide
  have h4 : ((2 : Int32)).toInt = 2 := by decide
  omega
section
variable {V : pV} {l : Launch} {A : pA} {post : Option Value → pS → Prop} {T S : pS}
set_option maxHeartbeats 4000000 in
set_option maxRecDepth 100000 in
theorem lp_X8_isFresh (C : e_CX8_isFresh V l) (Rt : e_RX8_isFresh V (s_P A post)) {i m : Nat} (hi : i < 60) (hw : wfF S i m) (hT : rT T S) (hF : rF T S i) (hp : post (some (.int (b2i (freshC S i)))) T) : ∀ z k, k + z = tcC S i → V 0 0 12 [(0, .ref (ad A 30 0)), (1, .int (nI i)), (2, .int (b2i (aB (smC S i) k))), (3, .int (b2i (aB (fwC S i) k))), (4, .int (b2i (aB (nnC S i) k))), (5, .int (nI (4 * i + k)))] [] (gS A T) := by
  obtain ⟨t1, t2⟩ := hT
  obtain ⟨w1, w2, w3, w4, w5, w6⟩ := hw
  obtain ⟨f1, f2, f3, f4, f5, f6, f7, f8⟩ := hF
  rw [w1] at f3
  have e4 : (4 : Int32) = nI 4 := rfl
  intro z
  induction z with
  | zero =>
    intro k hk
    have hk2 : k = tcC S i := by omega
    have hfr : freshC S i = frsC S i (tcC S i) := rfl
    rw [hfr, frs_aB] at hp
    rw [hk2]
    refine srnX8_isFresh C Rt [12] 60 ?_
    simp only [k_i, s_go, s_1, e_op, e_pi, e_pl, e_pr, e_p0, e_li, e_ll, e_lr, e_lk, e_ins, e_rm, e_to, e_sw, e_cmp, k_c, k_n, k_f, k_v, k_lg, ↓reduceIte, reduceCtorEq, Nat.reduceAdd, Nat.reduceSub, Nat.reduceMul, Nat.reduceEqDiff, Nat.reduceLT, Nat.reduceLeDiff, Int.reduceAdd, Int.reduceSub, Int.reduceNeg, Int.reduceLE, Int.reduceLT, Int.reduceToNat, Int.reduceEq, Int.cast_ofNat_Int, List.mem_cons, List.not_mem_nil, List.length_cons, List.length_nil, List.set_cons_zero, List.set_cons_succ, List.toList_toArray, eq_self, true_and, and_true, and_self, or_true, true_or, false_or, or_false, or_self, not_true_eq_false, not_false_eq_true, Classical.not_not, true_implies, false_implies, implies_true, forall_const, and_false, false_and, Nat.le_refl, Nat.zero_le, Bool.false_eq_true, lv_args, s_rl_at, s_gf, s_pf, dn_q, kd_q, cl_q, nf_q, ln_q, tg_q, rr_q, cr_q, u_1, e_lsw, k_ti, List.drop_succ_cons, List.drop_zero, List.drop_nil, List.zip_cons_cons, List.zip_nil_right, List.zip_nil_left, List.all_cons, List.all_nil, Bool.and_true, Bool.and_self, decide_true, decide_false, Option.toList, List.cons_append, List.nil_append, List.append_nil, DX8_isFresh_0, DX8_isFresh_1, DX8_isFresh_2, FLX8, LDX8, e4, pk_mul, nI_add, f3, x_cl (a := i) (by omega), x_in (a := i) (n := 60) (by omega), x_le (a := 4 * i + tcC S i) (b := 4 * i + tcC S i) (by omega) (by omega), f1, b2i_0, b2i_n]
    refine ⟨hi, hi, fun h2 => ⟨hi, fun h3 => ?_, fun h3 => ⟨fun h4 => ?_, fun h4 => ⟨fun h5 => ?_, fun h5 => ?_⟩⟩⟩, fun h2 => ?_⟩
    · rw [if_neg h2, if_neg h3] at hp
      exact hp
    · rw [if_neg h2, if_pos h3, h4] at hp
      exact hp
    · rw [if_neg h2, if_pos h3, nft h4, h5] at hp
      exact hp
    · rw [if_neg h2, if_pos h3, nft h4, nft h5] at hp
      exact hp
    · rw [if_pos h2] at hp
      exact hp
  | succ z ih =>
    intro k hk
    obtain ⟨g1, g2, g3⟩ := f4 k (by omega)
    obtain ⟨w7, w8⟩ := w5 k (by omega)
    rw [w7] at g1
    have h9 := ih (k + 1) (by omega)
    have h138 : V 0 0 138 [(0, .ref (ad A 30 0)), (1, .int (nI i)), (2, .int (b2i (aB (smC S i) k && smC S i k))), (3, .int (b2i (aB (fwC S i) k && fwC S i k))), (4, .int (b2i (aB (nnC S i) k && nnC S i k))), (5, .int (nI (4 * i + k))), (6, .int (snC S i k)), (7, .int (b2i (smC S i k)))] [] (gS A T) := by
      refine srnX8_isFresh C Rt [12] 40 ?_
      simp only [k_i, s_go, s_1, e_op, e_pi, e_pl, e_pr, e_p0, e_li, e_ll, e_lr, e_lk, e_ins, e_rm, e_to, e_sw, e_cmp, k_c, k_n, k_f, k_v, k_lg, ↓reduceIte, reduceCtorEq, Nat.reduceAdd, Nat.reduceSub, Nat.reduceMul, Nat.reduceEqDiff, Nat.reduceLT, Nat.reduceLeDiff, Int.reduceAdd, Int.reduceSub, Int.reduceNeg, Int.reduceLE, Int.reduceLT, Int.reduceToNat, Int.reduceEq, Int.cast_ofNat_Int, List.mem_cons, List.not_mem_nil, List.length_cons, List.length_nil, List.set_cons_zero, List.set_cons_succ, List.toList_toArray, eq_self, true_and, and_true, and_self, or_true, true_or, false_or, or_false, or_self, not_true_eq_false, not_false_eq_true, Classical.not_not, true_implies, false_implies, implies_true, forall_const, and_false, false_and, Nat.le_refl, Nat.zero_le, Bool.false_eq_true, lv_args, s_rl_at, s_gf, s_pf, dn_q, kd_q, cl_q, nf_q, ln_q, tg_q, rr_q, cr_q, u_1, e_lsw, k_ti, List.drop_succ_cons, List.drop_zero, List.drop_nil, List.zip_cons_cons, List.zip_nil_right, List.zip_nil_left, List.all_cons, List.all_nil, Bool.and_true, Bool.and_self, decide_true, decide_false, Option.toList, List.cons_append, List.nil_append, List.append_nil, DX8_isFresh_0, DX8_isFresh_1, DX8_isFresh_2, FLX8, LDX8, nI_1]
      exact w_pre C h9
    have h121 : V 0 0 121 [(0, .ref (ad A 30 0)), (1, .int (nI i)), (2, .int (b2i (aB (smC S i) k && smC S i k))), (3, .int (b2i (aB (fwC S i) k && fwC S i k))), (4, .int (b2i (aB (nnC S i) k))), (5, .int (nI (4 * i + k))), (6, .int (snC S i k)), (7, .int (b2i (smC S i k)))] [] (gS A T) := by
      refine srnX8_isFresh C Rt [138] 40 ?_
      simp only [k_i, s_go, s_1, e_op, e_pi, e_pl, e_pr, e_p0, e_li, e_ll, e_lr, e_lk, e_ins, e_rm, e_to, e_sw, e_cmp, k_c, k_n, k_f, k_v, k_lg, ↓reduceIte, reduceCtorEq, Nat.reduceAdd, Nat.reduceSub, Nat.reduceMul, Nat.reduceEqDiff, Nat.reduceLT, Nat.reduceLeDiff, Int.reduceAdd, Int.reduceSub, Int.reduceNeg, Int.reduceLE, Int.reduceLT, Int.reduceToNat, Int.reduceEq, Int.cast_ofNat_Int, List.mem_cons, List.not_mem_nil, List.length_cons, List.length_nil, List.set_cons_zero, List.set_cons_succ, List.toList_toArray, eq_self, true_and, and_true, and_self, or_true, true_or, false_or, or_false, or_self, not_true_eq_false, not_false_eq_true, Classical.not_not, true_implies, false_implies, implies_true, forall_const, and_false, false_and, Nat.le_refl, Nat.zero_le, Bool.false_eq_true, lv_args, s_rl_at, s_gf, s_pf, dn_q, kd_q, cl_q, nf_q, ln_q, tg_q, rr_q, cr_q, u_1, e_lsw, k_ti, List.drop_succ_cons, List.drop_zero, List.drop_nil, List.zip_cons_cons, List.zip_nil_right, List.zip_nil_left, List.all_cons, List.all_nil, Bool.and_true, Bool.and_self, decide_true, decide_false, Option.toList, List.cons_append, List.nil_append, List.append_nil, DX8_isFresh_0, DX8_isFresh_1, DX8_isFresh_2, FLX8, LDX8, b2i_0]
      refine ⟨fun h => ?_, fun h => ⟨fun h2 => ?_, fun h2 => ?_⟩⟩
      · rw [h] at h138
        exact h138
      · have h3 : nnC S i k = false := by simp [h2]
        rw [nft h, h3] at h138
        exact h138
      · have h3 : nnC S i k = true := by simp [h2]
        rw [nft h, h3] at h138
        exact h138
    have h93 : V 0 0 93 [(0, .ref (ad A 30 0)), (1, .int (nI i)), (2, .int (b2i (aB (smC S i) k && smC S i k))), (3, .int (b2i (aB (fwC S i) k))), (4, .int (b2i (aB (nnC S i) k))), (5, .int (nI (4 * i + k))), (6, .int (snC S i k)), (7, .int (b2i (smC S i k)))] [] (gS A T) := by
      refine srnX8_isFresh C Rt [121] 40 ?_
      simp only [k_i, s_go, s_1, e_op, e_pi, e_pl, e_pr, e_p0, e_li, e_ll, e_lr, e_lk, e_ins, e_rm, e_to, e_sw, e_cmp, k_c, k_n, k_f, k_v, k_lg, ↓reduceIte, reduceCtorEq, Nat.reduceAdd, Nat.reduceSub, Nat.reduceMul, Nat.reduceEqDiff, Nat.reduceLT, Nat.reduceLeDiff, Int.reduceAdd, Int.reduceSub, Int.reduceNeg, Int.reduceLE, Int.reduceLT, Int.reduceToNat, Int.reduceEq, Int.cast_ofNat_Int, List.mem_cons, List.not_mem_nil, List.length_cons, List.length_nil, List.set_cons_zero, List.set_cons_succ, List.toList_toArray, eq_self, true_and, and_true, and_self, or_true, true_or, false_or, or_false, or_self, not_true_eq_false, not_false_eq_true, Classical.not_not, true_implies, false_implies, implies_true, forall_const, and_false, false_and, Nat.le_refl, Nat.zero_le, Bool.false_eq_true, lv_args, s_rl_at, s_gf, s_pf, dn_q, kd_q, cl_q, nf_q, ln_q, tg_q, rr_q, cr_q, u_1, e_lsw, k_ti, List.drop_succ_cons, List.drop_zero, List.drop_nil, List.zip_cons_cons, List.zip_nil_right, List.zip_nil_left, List.all_cons, List.all_nil, Bool.and_true, Bool.and_self, decide_true, decide_false, Option.toList, List.cons_append, List.nil_append, List.append_nil, DX8_isFresh_0, DX8_isFresh_1, DX8_isFresh_2, FLX8, LDX8, b2i_0]
      refine ⟨fun h => ?_, fun h => ⟨fun h2 => ?_, fun h2 => ?_⟩⟩
      · rw [h] at h121
        exact h121
      · have h3 : fwC S i k = true := by unfold fwC; rw [nft h2]; rfl
        rw [nft h, h3] at h121
        exact h121
      · have h9 := m_X8_in l (gS A T) (snC S i k).toInt64 0 2
        rw [in_2] at h9
        refine sX8_isFresh_109 C h9 (hcat := Nat.le_of_ble_eq_true rfl) (k := ?_)
        rintro v2 G2 ⟨rfl, rfl⟩
        have h3 : fwC S i k = decide (0 ≤ snC S i k ∧ snC S i k ≤ 2) := by unfold fwC; rw [h2]; rfl
        rw [nft h, h3] at h121
        refine srnX8_isFresh C Rt [121] 40 ?_
        simp only [k_i, s_go, s_1, e_op, e_pi, e_pl, e_pr, e_p0, e_li, e_ll, e_lr, e_lk, e_ins, e_rm, e_to, e_sw, e_cmp, k_c, k_n, k_f, k_v, k_lg, ↓reduceIte, reduceCtorEq, Nat.reduceAdd, Nat.reduceSub, Nat.reduceMul, Nat.reduceEqDiff, Nat.reduceLT, Nat.reduceLeDiff, Int.reduceAdd, Int.reduceSub, Int.reduceNeg, Int.reduceLE, Int.reduceLT, Int.reduceToNat, Int.reduceEq, Int.cast_ofNat_Int, List.mem_cons, List.not_mem_nil, List.length_cons, List.length_nil, List.set_cons_zero, List.set_cons_succ, List.toList_toArray, eq_self, true_and, and_true, and_self, or_true, true_or, false_or, or_false, or_self, not_true_eq_false, not_false_eq_true, Classical.not_not, true_implies, false_implies, implies_true, forall_const, and_false, false_and, Nat.le_refl, Nat.zero_le, Bool.false_eq_true, lv_args, s_rl_at, s_gf, s_pf, dn_q, kd_q, cl_q, nf_q, ln_q, tg_q, rr_q, cr_q, u_1, e_lsw, k_ti, List.drop_succ_cons, List.drop_zero, List.drop_nil, List.zip_cons_cons, List.zip_nil_right, List.zip_nil_left, List.all_cons, List.all_nil, Bool.and_true, Bool.and_self, decide_true, decide_false, Option.toList, List.cons_append, List.nil_append, List.append_nil, DX8_isFresh_0, DX8_isFresh_1, DX8_isFresh_2, FLX8, LDX8, b2i_0]
        refine ⟨fun h4 => ?_, fun h4 => ?_⟩
        · rw [h4] at h121
          exact h121
        · rw [nft h4] at h121
          exact h121
    have h78 : V 0 0 78 [(0, .ref (ad A 30 0)), (1, .int (nI i)), (2, .int (b2i (aB (smC S i) k))), (3, .int (b2i (aB (fwC S i) k))), (4, .int (b2i (aB (nnC S i) k))), (5, .int (nI (4 * i + k))), (6, .int (snC S i k)), (7, .int (b2i (smC S i k)))] [] (gS A T) := by
      refine srnX8_isFresh C Rt [93] 40 ?_
      simp only [k_i, s_go, s_1, e_op, e_pi, e_pl, e_pr, e_p0, e_li, e_ll, e_lr, e_lk, e_ins, e_rm, e_to, e_sw, e_cmp, k_c, k_n, k_f, k_v, k_lg, ↓reduceIte, reduceCtorEq, Nat.reduceAdd, Nat.reduceSub, Nat.reduceMul, Nat.reduceEqDiff, Nat.reduceLT, Nat.reduceLeDiff, Int.reduceAdd, Int.reduceSub, Int.reduceNeg, Int.reduceLE, Int.reduceLT, Int.reduceToNat, Int.reduceEq, Int.cast_ofNat_Int, List.mem_cons, List.not_mem_nil, List.length_cons, List.length_nil, List.set_cons_zero, List.set_cons_succ, List.toList_toArray, eq_self, true_and, and_true, and_self, or_true, true_or, false_or, or_false, or_self, not_true_eq_false, not_false_eq_true, Classical.not_not, true_implies, false_implies, implies_true, forall_const, and_false, false_and, Nat.le_refl, Nat.zero_le, Bool.false_eq_true, lv_args, s_rl_at, s_gf, s_pf, dn_q, kd_q, cl_q, nf_q, ln_q, tg_q, rr_q, cr_q, u_1, e_lsw, k_ti, List.drop_succ_cons, List.drop_zero, List.drop_nil, List.zip_cons_cons, List.zip_nil_right, List.zip_nil_left, List.all_cons, List.all_nil, Bool.and_true, Bool.and_self, decide_true, decide_false, Option.toList, List.cons_append, List.nil_append, List.append_nil, DX8_isFresh_0, DX8_isFresh_1, DX8_isFresh_2, FLX8, LDX8, b2i_0]
      refine ⟨fun h => ?_, fun h => ⟨fun h2 => ?_, fun h2 => ?_⟩⟩
      · rw [h] at h93
        exact h93
      · rw [h2, Bool.and_false] at h93
        rw [h2]
        exact h93
      · rw [nft h2, nft h] at h93
        rw [nft h2]
        exact h93
    refine srnX8_isFresh C Rt [78] 60 ?_
    simp only [k_i, s_go, s_1, e_op, e_pi, e_pl, e_pr, e_p0, e_li, e_ll, e_lr, e_lk, e_ins, e_rm, e_to, e_sw, e_cmp, k_c, k_n, k_f, k_v, k_lg, ↓reduceIte, reduceCtorEq, Nat.reduceAdd, Nat.reduceSub, Nat.reduceMul, Nat.reduceEqDiff, Nat.reduceLT, Nat.reduceLeDiff, Int.reduceAdd, Int.reduceSub, Int.reduceNeg, Int.reduceLE, Int.reduceLT, Int.reduceToNat, Int.reduceEq, Int.cast_ofNat_Int, List.mem_cons, List.not_mem_nil, List.length_cons, List.length_nil, List.set_cons_zero, List.set_cons_succ, List.toList_toArray, eq_self, true_and, and_true, and_self, or_true, true_or, false_or, or_false, or_self, not_true_eq_false, not_false_eq_true, Classical.not_not, true_implies, false_implies, implies_true, forall_const, and_false, false_and, Nat.le_refl, Nat.zero_le, Bool.false_eq_true, lv_args, s_rl_at, s_gf, s_pf, dn_q, kd_q, cl_q, nf_q, ln_q, tg_q, rr_q, cr_q, u_1, e_lsw, k_ti, List.drop_succ_cons, List.drop_zero, List.drop_nil, List.zip_cons_cons, List.zip_nil_right, List.zip_nil_left, List.all_cons, List.all_nil, Bool.and_true, Bool.and_self, decide_true, decide_false, Option.toList, List.cons_append, List.nil_append, List.append_nil, DX8_isFresh_0, DX8_isFresh_1, DX8_isFresh_2, FLX8, LDX8, e4, pk_mul, nI_add, f3, x_cl (a := i) (by omega), x_in (a := i) (n := 60) (by omega), x_le (a := 4 * i + tcC S i) (b := 4 * i + k) (by omega) (by omega), x_cl (a := 4 * i + k) (by omega), x_in (a := 4 * i + k) (n := 240) (by omega), g1, g2, g3, x_cl (a := thC S i k) (by omega), x_in (a := thC S i k) (n := 16) (by omega), t1, t2]
    refine ⟨hi, fun h => by omega, fun _ => ⟨by omega, w8, by omega, by omega, w8, by omega, fun h => ?_, fun h => ?_⟩⟩
    · have h3 : smC S i k = false := by simp [h]
      rw [h3] at h78
      exact h78
    · have h3 : smC S i k = true := by simp [h]
      rw [h3] at h78
      exact h78
end
set_option maxHeartbeats 4000000 in
set_option maxRecDepth 100000 in
theorem m_X8_isFresh (l : Launch) (A : pA) (T S : pS) {i m : Nat} (hi : i < 60) (hw : wfF S i m) (hT : rT T S) (hF : rF T S i) : e_MX8_isFresh l [.ref (ad A 30 0), .int (nI i)] (gS A T) (s_P A (fun v S2 => T = S2 ∧ v = some (.int (b2i (freshC S i))))) := by
  refine ofX8_isFresh (Nat.le_of_ble_eq_true rfl) ?_
  intro V C Rt
  refine srnX8_isFresh C Rt [12] 20 ?_
  simp only [k_i, s_go, s_1, e_op, e_pi, e_pl, e_pr, e_p0, e_li, e_ll, e_lr, e_lk, e_ins, e_rm, e_to, e_sw, e_cmp, k_c, k_n, k_f, k_v, k_lg, ↓reduceIte, reduceCtorEq, Nat.reduceAdd, Nat.reduceSub, Nat.reduceMul, Nat.reduceEqDiff, Nat.reduceLT, Nat.reduceLeDiff, Int.reduceAdd, Int.reduceSub, Int.reduceNeg, Int.reduceLE, Int.reduceLT, Int.reduceToNat, Int.reduceEq, Int.cast_ofNat_Int, List.mem_cons, List.not_mem_nil, List.length_cons, List.length_nil, List.set_cons_zero, List.set_cons_succ, List.toList_toArray, eq_self, true_and, and_true, and_self, or_true, true_or, false_or, or_false, or_self, not_true_eq_false, not_false_eq_true, Classical.not_not, true_implies, false_implies, implies_true, forall_const, and_false, false_and, Nat.le_refl, Nat.zero_le, Bool.false_eq_true, lv_args, s_rl_at, s_gf, s_pf, dn_q, kd_q, cl_q, nf_q, ln_q, tg_q, rr_q, cr_q, u_1, e_lsw, k_ti, List.drop_succ_cons, List.drop_zero, List.drop_nil, List.zip_cons_cons, List.zip_nil_right, List.zip_nil_left, List.all_cons, List.all_nil, Bool.and_true, Bool.and_self, decide_true, decide_false, Option.toList, List.cons_append, List.nil_append, List.append_nil, DX8_isFresh_0, DX8_isFresh_1, DX8_isFresh_2, FLX8, LDX8, (show (4 : Int32) = nI 4 from rfl), pk_mul]
  exact lp_X8_isFresh C Rt hi hw hT hF ⟨rfl, rfl⟩ (tcC S i) 0 (by omega)
/-- the reference's bits of role k: those of p for the first n, then as g -/
def bX (p : Nat → Bool) (n : Nat) (g : Nat → Int32) : Nat → Int32 := fun j => if j < n then b2i (p j) else g j
theorem usF_st {good : Nat → Bool} {on : Nat → Nat → Nat} {fc : Nat → Nat} {j : Nat} : ∀ {n : Nat}, j < n → usF good on fc n j = usF good on fc (j + 1) j
  | 0, h => by omega
  | n + 1, h => by
    by_cases h1 : j = n
    · subst h1
      rfl
    · rw [usF, if_neg h1, usF_st (by omega)]
section
variable {V : pV} {l : Launch} {A : pA} {post : Option Value → pS → Prop} {T S : pS}
set_option maxHeartbeats 4000000 in
set_option maxRecDepth 100000 in
theorem lp_X8_isUsable2 (C : e_CX8_isUsable V l) (Rt : e_RX8_isUsable V (s_P A post)) {f i : Nat} {g : Nat → Int32} (hi : i < 60) (hw : wfF S i i) (hF : rF T S i) (p : Nat → Bool) (gd : Bool) (hx : V 0 0 100 [(0, .ref (ad A 30 0)), (1, .int (nI f)), (2, .int (nI i)), (3, .int (nI (fcC S i)))] [] (gS A (uX T 51 (fun j => if j = i then b2i (gd && allB p (onC S i) (fcC S i)) else bX p i g j)))) : ∀ z k, k + z = fcC S i → V 0 0 46 [(0, .ref (ad A 30 0)), (1, .int (nI f)), (2, .int (nI i)), (3, .int (nI k))] [] (gS A (uX T 51 (fun j => if j = i then b2i (gd && allB p (onC S i) k) else bX p i g j))) := by
  obtain ⟨w1, w2, w3, w4, w5, w6⟩ := hw
  obtain ⟨f1, f2, f3, f4, f5, f6, f7, f8⟩ := hF
  rw [w3] at f5
  intro z
  induction z with
  | zero =>
    intro k hk
    have hk2 : k = fcC S i := by omega
    rw [hk2]
    refine srnX8_isUsable C Rt [46, 100] 40 ?_
    simp only [k_i, s_go, s_1, e_op, e_pi, e_pl, e_pr, e_p0, e_li, e_ll, e_lr, e_lk, e_ins, e_rm, e_to, e_sw, e_cmp, k_c, k_n, k_f, k_v, k_lg, ↓reduceIte, reduceCtorEq, Nat.reduceAdd, Nat.reduceSub, Nat.reduceMul, Nat.reduceEqDiff, Nat.reduceLT, Nat.reduceLeDiff, Int.reduceAdd, Int.reduceSub, Int.reduceNeg, Int.reduceLE, Int.reduceLT, Int.reduceToNat, Int.reduceEq, Int.cast_ofNat_Int, List.mem_cons, List.not_mem_nil, List.length_cons, List.length_nil, List.set_cons_zero, List.set_cons_succ, List.toList_toArray, eq_self, true_and, and_true, and_self, or_true, true_or, false_or, or_false, or_self, not_true_eq_false, not_false_eq_true, Classical.not_not, true_implies, false_implies, implies_true, forall_const, and_false, false_and, Nat.le_refl, Nat.zero_le, Bool.false_eq_true, lv_args, s_rl_at, s_gf, s_pf, dn_q, kd_q, cl_q, nf_q, ln_q, tg_q, rr_q, cr_q, u_1, e_lsw, k_ti, List.drop_succ_cons, List.drop_zero, List.drop_nil, List.zip_cons_cons, List.zip_nil_right, List.zip_nil_left, List.all_cons, List.all_nil, Bool.and_true, Bool.and_self, decide_true, decide_false, Option.toList, List.cons_append, List.nil_append, List.append_nil, DX8_isUsable_0, DX8_isUsable_1, FLX8, LDX8, uX_1, uX_2, f5, x_cl (a := i) (by omega), x_in (a := i) (n := 60) (by omega), x_le (a := fcC S i) (b := fcC S i) (by omega) (by omega)]
    exact ⟨hi, hx⟩
  | succ z ih =>
    intro k hk
    obtain ⟨w7, w8⟩ := w6 k (by omega)
    have g1 := f6 k (by omega)
    rw [w7] at g1
    have hb : (if onC S i k = i then b2i (gd && allB p (onC S i) k) else bX p i g (onC S i k)) = b2i (p (onC S i k)) := by
      rw [if_neg (by omega)]
      simp [bX, w8]
    have h9 := ih (k + 1) (by omega)
    refine srnX8_isUsable C Rt [46, 100] 40 ?_
    simp only [k_i, s_go, s_1, e_op, e_pi, e_pl, e_pr, e_p0, e_li, e_ll, e_lr, e_lk, e_ins, e_rm, e_to, e_sw, e_cmp, k_c, k_n, k_f, k_v, k_lg, ↓reduceIte, reduceCtorEq, Nat.reduceAdd, Nat.reduceSub, Nat.reduceMul, Nat.reduceEqDiff, Nat.reduceLT, Nat.reduceLeDiff, Int.reduceAdd, Int.reduceSub, Int.reduceNeg, Int.reduceLE, Int.reduceLT, Int.reduceToNat, Int.reduceEq, Int.cast_ofNat_Int, List.mem_cons, List.not_mem_nil, List.length_cons, List.length_nil, List.set_cons_zero, List.set_cons_succ, List.toList_toArray, eq_self, true_and, and_true, and_self, or_true, true_or, false_or, or_false, or_self, not_true_eq_false, not_false_eq_true, Classical.not_not, true_implies, false_implies, implies_true, forall_const, and_false, false_and, Nat.le_refl, Nat.zero_le, Bool.false_eq_true, lv_args, s_rl_at, s_gf, s_pf, dn_q, kd_q, cl_q, nf_q, ln_q, tg_q, rr_q, cr_q, u_1, e_lsw, k_ti, List.drop_succ_cons, List.drop_zero, List.drop_nil, List.zip_cons_cons, List.zip_nil_right, List.zip_nil_left, List.all_cons, List.all_nil, Bool.and_true, Bool.and_self, decide_true, decide_false, Option.toList, List.cons_append, List.nil_append, List.append_nil, DX8_isUsable_0, DX8_isUsable_1, FLX8, LDX8, uX_1, uX_2, f5, x_cl (a := i) (by omega), x_in (a := i) (n := 60) (by omega), x_le (a := fcC S i) (b := k) (by omega) (by omega), (show (3 : Int32) = nI 3 from rfl), pk_mul, nI_add, x_cl (a := 3 * i + k) (by omega), x_in (a := 3 * i + k) (n := 180) (by omega), g1, x_cl (a := onC S i k) (by omega), x_in (a := onC S i k) (n := 60) (by omega), nI_1, hb, b2i_0]
    done
end
