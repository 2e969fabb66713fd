/-! the reference: isFresh, isUsable, usable -/
theorem w_pre {V : pV} {l : Launch} {own : String} {cc : ByteArray} {nL : Nat} {ws : List Cond} {R : Room} {ini : Bool} {cells slots pc : Nat} {lv ex : pL} {st : List Value} {G : pH} (C : e_C V l own cc nL ws R ini) (h : V cells slots pc lv st G) : V cells slots pc (lv ++ ex) st G := by
  obtain ⟨p, e, s, m, args, below, meth, c, D, cs, base, Q, rfl, -⟩ := C
  intro H locs ls h1 h2 h3
  exact h H locs ls h1 h2 ⟨h3.1, h3.2.1, fun q hq => h3.2.2 q (List.mem_append_left _ hq)⟩
def aB (p : Nat → Bool) : Nat → Bool
  | 0 => true
  | n + 1 => aB p n && p n
abbrev smC (S : pS) (i k : Nat) : Bool := decide (S.1 2 0 (thC S i k) = S.1 8 i k)
abbrev snC (S : pS) (i k : Nat) : Int32 := S.1 3 0 (thC S i k) - S.1 9 i k
abbrev fwC (S : pS) (i k : Nat) : Bool := smC S i k || decide (0 ≤ snC S i k ∧ snC S i k ≤ 2)
abbrev nnC (S : pS) (i k : Nat) : Bool := decide (snC S i k = 0)
theorem frs_aB {S : pS} {i : Nat} : ∀ {n : Nat}, frsC S i n = if S.1 6 i 0 = 2 then aB (fwC S i) n else if S.1 6 i 0 = 3 then aB (smC S i) n && aB (nnC S i) n else aB (smC S i) n
  | 0 => by simp [frs, aB]
  | n + 1 => by
    have h := frs_aB (S := S) (i := i) (n := n)
    unfold frsC at h ⊢
    rw [frs, h]
    by_cases h2 : S.1 6 i 0 = 2
    · simp [h2, stands, aB, fwC]
    · by_cases h3 : S.1 6 i 0 = 3
      · simp only [h3, stands, aB, if_neg (show ¬ ((3 : Int32) = 2) by decide), if_true]
        cases aB (smC S i) n <;> cases aB (nnC S i) n <;> simp
      · simp [h2, h3, stands, aB]
theorem nft {b : Bool} (h : ¬ b = false) : b = true := by cases b <;> simp at h ⊢
theorem in_2 (x : Int32) : decide ((0 : Int64) ≤ x.toInt64 ∧ x.toInt64 ≤ 2) = decide (0 ≤ x ∧ x ≤ 2) := by
  apply decide_eq_decide.mpr
  rw [Int64.le_iff_toInt_le, Int64.le_iff_toInt_le, i64_toInt, Int32.le_iff_toInt_le, Int32.le_iff_toInt_le]
  have h1 : ((0 : Int64)).toInt = 0 := by decide
  have h2 : ((2 : Int64)).toInt = 2 := by decide
  have h3 : ((0 : Int32)).toInt = 0 := by decide
  have h4 : ((2 : Int32)).toInt = 2 := by decide
  omega
section
variable {V : pV} {l : Launch} {A : pA} {post : Option Value → pS → Prop} {T S : pS}
set_option maxHeartbeats 4000000 in
set_option maxRecDepth 100000 in
theorem lp_X8_isFresh (C : e_CX8_isFresh V l) (Rt : e_RX8_isFresh V (s_P A post)) {i m : Nat} (hi : i < 60) (hw : wfF S i m) (hT : rT T S) (hF : rF T S i) (hp : post (some (.int (b2i (freshC S i)))) T) : ∀ z k, k + z = tcC S i → V 0 0 12 [(0, .ref (ad A 30 0)), (1, .int (nI i)), (2, .int (b2i (aB (smC S i) k))), (3, .int (b2i (aB (fwC S i) k))), (4, .int (b2i (aB (nnC S i) k))), (5, .int (nI (4 * i + k)))] [] (gS A T) := by
  obtain ⟨t1, t2⟩ := hT
  obtain ⟨w1, w2, w3, w4, w5, w6⟩ := hw
  obtain ⟨f1, f2, f3, f4, f5, f6, f7, f8⟩ := hF
  rw [w1] at f3
  have e4 : (4 : Int32) = nI 4 := rfl
  intro z
  induction z with
  | zero =>
    intro k hk
    have hk2 : k = tcC S i := by omega
    have hfr : freshC S i = frsC S i (tcC S i) := rfl
    rw [hfr, frs_aB] at hp
    rw [hk2]
    refine srnX8_isFresh C Rt [12] 60 ?_
    simp only [k_i, s_go, s_1, e_op, e_pi, e_pl, e_pr, e_p0, e_li, e_ll, e_lr, e_lk, e_ins, e_rm, e_to, e_sw, e_cmp, k_c, k_n, k_f, k_v, k_lg, ↓reduceIte, reduceCtorEq, Nat.reduceAdd, Nat.reduceSub, Nat.reduceMul, Nat.reduceEqDiff, Nat.reduceLT, Nat.reduceLeDiff, Int.reduceAdd, Int.reduceSub, Int.reduceNeg, Int.reduceLE, Int.reduceLT, Int.reduceToNat, Int.reduceEq, Int.cast_ofNat_Int, List.mem_cons, List.not_mem_nil, List.length_cons, List.length_nil, List.set_cons_zero, List.set_cons_succ, List.toList_toArray, eq_self, true_and, and_true, and_self, or_true, true_or, false_or, or_false, or_self, not_true_eq_false, not_false_eq_true, Classical.not_not, true_implies, false_implies, implies_true, forall_const, and_false, false_and, Nat.le_refl, Nat.zero_le, Bool.false_eq_true, lv_args, s_rl_at, s_gf, s_pf, dn_q, kd_q, cl_q, nf_q, ln_q, tg_q, rr_q, cr_q, u_1, e_lsw, k_ti, List.drop_succ_cons, List.drop_zero, List.drop_nil, List.zip_cons_cons, List.zip_nil_right, List.zip_nil_left, List.all_cons, List.all_nil, Bool.and_true, Bool.and_self, decide_true, decide_false, Option.toList, List.cons_append, List.nil_append, List.append_nil, DX8_isFresh_0, DX8_isFresh_1, DX8_isFresh_2, FLX8, LDX8, e4, pk_mul, nI_add, f3, x_cl (a := i) (by omega), x_in (a := i) (n := 60) (by omega), x_le (a := 4 * i + tcC S i) (b := 4 * i + tcC S i) (by omega) (by omega), f1, b2i_0, b2i_n]
    refine ⟨hi, hi, fun h2 => ⟨hi, fun h3 => ?_, fun h3 => ⟨fun h4 => ?_, fun h4 => ⟨fun h5 => ?_, fun h5 => ?_⟩⟩⟩, fun h2 => ?_⟩
    · rw [if_neg h2, if_neg h3] at hp
      exact hp
    · rw [if_neg h2, if_pos h3, h4] at hp
      exact hp
    · rw [if_neg h2, if_pos h3, nft h4, h5] at hp
      exact hp
    · rw [if_neg h2, if_pos h3, nft h4, nft h5] at hp
      exact hp
    · rw [if_pos h2] at hp
      exact hp
  | succ z ih =>
    intro k hk
    obtain ⟨g1, g2, g3⟩ := f4 k (by omega)
    obtain ⟨w7, w8⟩ := w5 k (by omega)
    rw [w7] at g1
    have h9 := ih (k + 1) (by omega)
    have h138 : V 0 0 138 [(0, .ref (ad A 30 0)), (1, .int (nI i)), (2, .int (b2i (aB (smC S i) k && smC S i k))), (3, .int (b2i (aB (fwC S i) k && fwC S i k))), (4, .int (b2i (aB (nnC S i) k && nnC S i k))), (5, .int (nI (4 * i + k))), (6, .int (snC S i k)), (7, .int (b2i (smC S i k)))] [] (gS A T) := by
      refine srnX8_isFresh C Rt [12] 40 ?_
      simp only [k_i, s_go, s_1, e_op, e_pi, e_pl, e_pr, e_p0, e_li, e_ll, e_lr, e_lk, e_ins, e_rm, e_to, e_sw, e_cmp, k_c, k_n, k_f, k_v, k_lg, ↓reduceIte, reduceCtorEq, Nat.reduceAdd, Nat.reduceSub, Nat.reduceMul, Nat.reduceEqDiff, Nat.reduceLT, Nat.reduceLeDiff, Int.reduceAdd, Int.reduceSub, Int.reduceNeg, Int.reduceLE, Int.reduceLT, Int.reduceToNat, Int.reduceEq, Int.cast_ofNat_Int, List.mem_cons, List.not_mem_nil, List.length_cons, List.length_nil, List.set_cons_zero, List.set_cons_succ, List.toList_toArray, eq_self, true_and, and_true, and_self, or_true, true_or, false_or, or_false, or_self, not_true_eq_false, not_false_eq_true, Classical.not_not, true_implies, false_implies, implies_true, forall_const, and_false, false_and, Nat.le_refl, Nat.zero_le, Bool.false_eq_true, lv_args, s_rl_at, s_gf, s_pf, dn_q, kd_q, cl_q, nf_q, ln_q, tg_q, rr_q, cr_q, u_1, e_lsw, k_ti, List.drop_succ_cons, List.drop_zero, List.drop_nil, List.zip_cons_cons, List.zip_nil_right, List.zip_nil_left, List.all_cons, List.all_nil, Bool.and_true, Bool.and_self, decide_true, decide_false, Option.toList, List.cons_append, List.nil_append, List.append_nil, DX8_isFresh_0, DX8_isFresh_1, DX8_isFresh_2, FLX8, LDX8, nI_1]
      exact w_pre C h9
    have h121 : V 0 0 121 [(0, .ref (ad A 30 0)), (1, .int (nI i)), (2, .int (b2i (aB (smC S i) k && smC S i k))), (3, .int (b2i (aB (fwC S i) k && fwC S i k))), (4, .int (b2i (aB (nnC S i) k))), (5, .int (nI (4 * i + k))), (6, .int (snC S i k)), (7, .int (b2i (smC S i k)))] [] (gS A T) := by
      refine srnX8_isFresh C Rt [138] 40 ?_
      simp only [k_i, s_go, s_1, e_op, e_pi, e_pl, e_pr, e_p0, e_li, e_ll, e_lr, e_lk, e_ins, e_rm, e_to, e_sw, e_cmp, k_c, k_n, k_f, k_v, k_lg, ↓reduceIte, reduceCtorEq, Nat.reduceAdd, Nat.reduceSub, Nat.reduceMul, Nat.reduceEqDiff, Nat.reduceLT, Nat.reduceLeDiff, Int.reduceAdd, Int.reduceSub, Int.reduceNeg, Int.reduceLE, Int.reduceLT, Int.reduceToNat, Int.reduceEq, Int.cast_ofNat_Int, List.mem_cons, List.not_mem_nil, List.length_cons, List.length_nil, List.set_cons_zero, List.set_cons_succ, List.toList_toArray, eq_self, true_and, and_true, and_self, or_true, true_or, false_or, or_false, or_self, not_true_eq_false, not_false_eq_true, Classical.not_not, true_implies, false_implies, implies_true, forall_const, and_false, false_and, Nat.le_refl, Nat.zero_le, Bool.false_eq_true, lv_args, s_rl_at, s_gf, s_pf, dn_q, kd_q, cl_q, nf_q, ln_q, tg_q, rr_q, cr_q, u_1, e_lsw, k_ti, List.drop_succ_cons, List.drop_zero, List.drop_nil, List.zip_cons_cons, List.zip_nil_right, List.zip_nil_left, List.all_cons, List.all_nil, Bool.and_true, Bool.and_self, decide_true, decide_false, Option.toList, List.cons_append, List.nil_append, List.append_nil, DX8_isFresh_0, DX8_isFresh_1, DX8_isFresh_2, FLX8, LDX8, b2i_0]
      refine ⟨fun h => ?_, fun h => ⟨fun h2 => ?_, fun h2 => ?_⟩⟩
      · rw [h] at h138
        exact h138
      · have h3 : nnC S i k = false := by simp [h2]
        rw [nft h, h3] at h138
        exact h138
      · have h3 : nnC S i k = true := by simp [h2]
        rw [nft h, h3] at h138
        exact h138
    have h93 : V 0 0 93 [(0, .ref (ad A 30 0)), (1, .int (nI i)), (2, .int (b2i (aB (smC S i) k && smC S i k))), (3, .int (b2i (aB (fwC S i) k))), (4, .int (b2i (aB (nnC S i) k))), (5, .int (nI (4 * i + k))), (6, .int (snC S i k)), (7, .int (b2i (smC S i k)))] [] (gS A T) := by
      refine srnX8_isFresh C Rt [121] 40 ?_
      simp only [k_i, s_go, s_1, e_op, e_pi, e_pl, e_pr, e_p0, e_li, e_ll, e_lr, e_lk, e_ins, e_rm, e_to, e_sw, e_cmp, k_c, k_n, k_f, k_v, k_lg, ↓reduceIte, reduceCtorEq, Nat.reduceAdd, Nat.reduceSub, Nat.reduceMul, Nat.reduceEqDiff, Nat.reduceLT, Nat.reduceLeDiff, Int.reduceAdd, Int.reduceSub, Int.reduceNeg, Int.reduceLE, Int.reduceLT, Int.reduceToNat, Int.reduceEq, Int.cast_ofNat_Int, List.mem_cons, List.not_mem_nil, List.length_cons, List.length_nil, List.set_cons_zero, List.set_cons_succ, List.toList_toArray, eq_self, true_and, and_true, and_self, or_true, true_or, false_or, or_false, or_self, not_true_eq_false, not_false_eq_true, Classical.not_not, true_implies, false_implies, implies_true, forall_const, and_false, false_and, Nat.le_refl, Nat.zero_le, Bool.false_eq_true, lv_args, s_rl_at, s_gf, s_pf, dn_q, kd_q, cl_q, nf_q, ln_q, tg_q, rr_q, cr_q, u_1, e_lsw, k_ti, List.drop_succ_cons, List.drop_zero, List.drop_nil, List.zip_cons_cons, List.zip_nil_right, List.zip_nil_left, List.all_cons, List.all_nil, Bool.and_true, Bool.and_self, decide_true, decide_false, Option.toList, List.cons_append, List.nil_append, List.append_nil, DX8_isFresh_0, DX8_isFresh_1, DX8_isFresh_2, FLX8, LDX8, b2i_0]
      refine ⟨fun h => ?_, fun h => ⟨fun h2 => ?_, fun h2 => ?_⟩⟩
      · rw [h] at h121
        exact h121
      · have h3 : fwC S i k = true := by unfold fwC; rw [nft h2]; rfl
        rw [nft h, h3] at h121
        exact h121
      · have h9 := m_X8_in l (gS A T) (snC S i k).toInt64 0 2
        rw [in_2] at h9
        refine sX8_isFresh_109 C h9 (hcat := Nat.le_of_ble_eq_true rfl) (k := ?_)
        rintro v2 G2 ⟨rfl, rfl⟩
        have h3 : fwC S i k = decide (0 ≤ snC S i k ∧ snC S i k ≤ 2) := by unfold fwC; rw [h2]; rfl
        rw [nft h, h3] at h121
        refine srnX8_isFresh C Rt [121] 40 ?_
        simp only [k_i, s_go, s_1, e_op, e_pi, e_pl, e_pr, e_p0, e_li, e_ll, e_lr, e_lk, e_ins, e_rm, e_to, e_sw, e_cmp, k_c, k_n, k_f, k_v, k_lg, ↓reduceIte, reduceCtorEq, Nat.reduceAdd, Nat.reduceSub, Nat.reduceMul, Nat.reduceEqDiff, Nat.reduceLT, Nat.reduceLeDiff, Int.reduceAdd, Int.reduceSub, Int.reduceNeg, Int.reduceLE, Int.reduceLT, Int.reduceToNat, Int.reduceEq, Int.cast_ofNat_Int, List.mem_cons, List.not_mem_nil, List.length_cons, List.length_nil, List.set_cons_zero, List.set_cons_succ, List.toList_toArray, eq_self, true_and, and_true, and_self, or_true, true_or, false_or, or_false, or_self, not_true_eq_false, not_false_eq_true, Classical.not_not, true_implies, false_implies, implies_true, forall_const, and_false, false_and, Nat.le_refl, Nat.zero_le, Bool.false_eq_true, lv_args, s_rl_at, s_gf, s_pf, dn_q, kd_q, cl_q, nf_q, ln_q, tg_q, rr_q, cr_q, u_1, e_lsw, k_ti, List.drop_succ_cons, List.drop_zero, List.drop_nil, List.zip_cons_cons, List.zip_nil_right, List.zip_nil_left, List.all_cons, List.all_nil, Bool.and_true, Bool.and_self, decide_true, decide_false, Option.toList, List.cons_append, List.nil_append, List.append_nil, DX8_isFresh_0, DX8_isFresh_1, DX8_isFresh_2, FLX8, LDX8, b2i_0]
        refine ⟨fun h4 => ?_, fun h4 => ?_⟩
        · rw [h4] at h121
          exact h121
        · rw [nft h4] at h121
          exact h121
    have h78 : V 0 0 78 [(0, .ref (ad A 30 0)), (1, .int (nI i)), (2, .int (b2i (aB (smC S i) k))), (3, .int (b2i (aB (fwC S i) k))), (4, .int (b2i (aB (nnC S i) k))), (5, .int (nI (4 * i + k))), (6, .int (snC S i k)), (7, .int (b2i (smC S i k)))] [] (gS A T) := by
      refine srnX8_isFresh C Rt [93] 40 ?_
      simp only [k_i, s_go, s_1, e_op, e_pi, e_pl, e_pr, e_p0, e_li, e_ll, e_lr, e_lk, e_ins, e_rm, e_to, e_sw, e_cmp, k_c, k_n, k_f, k_v, k_lg, ↓reduceIte, reduceCtorEq, Nat.reduceAdd, Nat.reduceSub, Nat.reduceMul, Nat.reduceEqDiff, Nat.reduceLT, Nat.reduceLeDiff, Int.reduceAdd, Int.reduceSub, Int.reduceNeg, Int.reduceLE, Int.reduceLT, Int.reduceToNat, Int.reduceEq, Int.cast_ofNat_Int, List.mem_cons, List.not_mem_nil, List.length_cons, List.length_nil, List.set_cons_zero, List.set_cons_succ, List.toList_toArray, eq_self, true_and, and_true, and_self, or_true, true_or, false_or, or_false, or_self, not_true_eq_false, not_false_eq_true, Classical.not_not, true_implies, false_implies, implies_true, forall_const, and_false, false_and, Nat.le_refl, Nat.zero_le, Bool.false_eq_true, lv_args, s_rl_at, s_gf, s_pf, dn_q, kd_q, cl_q, nf_q, ln_q, tg_q, rr_q, cr_q, u_1, e_lsw, k_ti, List.drop_succ_cons, List.drop_zero, List.drop_nil, List.zip_cons_cons, List.zip_nil_right, List.zip_nil_left, List.all_cons, List.all_nil, Bool.and_true, Bool.and_self, decide_true, decide_false, Option.toList, List.cons_append, List.nil_append, List.append_nil, DX8_isFresh_0, DX8_isFresh_1, DX8_isFresh_2, FLX8, LDX8, b2i_0]
      refine ⟨fun h => ?_, fun h => ⟨fun h2 => ?_, fun h2 => ?_⟩⟩
      · rw [h] at h93
        exact h93
      · rw [h2, Bool.and_false] at h93
        rw [h2]
        exact h93
      · rw [nft h2, nft h] at h93
        rw [nft h2]
        exact h93
    refine srnX8_isFresh C Rt [78] 60 ?_
    simp only [k_i, s_go, s_1, e_op, e_pi, e_pl, e_pr, e_p0, e_li, e_ll, e_lr, e_lk, e_ins, e_rm, e_to, e_sw, e_cmp, k_c, k_n, k_f, k_v, k_lg, ↓reduceIte, reduceCtorEq, Nat.reduceAdd, Nat.reduceSub, Nat.reduceMul, Nat.reduceEqDiff, Nat.reduceLT, Nat.reduceLeDiff, Int.reduceAdd, Int.reduceSub, Int.reduceNeg, Int.reduceLE, Int.reduceLT, Int.reduceToNat, Int.reduceEq, Int.cast_ofNat_Int, List.mem_cons, List.not_mem_nil, List.length_cons, List.length_nil, List.set_cons_zero, List.set_cons_succ, List.toList_toArray, eq_self, true_and, and_true, and_self, or_true, true_or, false_or, or_false, or_self, not_true_eq_false, not_false_eq_true, Classical.not_not, true_implies, false_implies, implies_true, forall_const, and_false, false_and, Nat.le_refl, Nat.zero_le, Bool.false_eq_true, lv_args, s_rl_at, s_gf, s_pf, dn_q, kd_q, cl_q, nf_q, ln_q, tg_q, rr_q, cr_q, u_1, e_lsw, k_ti, List.drop_succ_cons, List.drop_zero, List.drop_nil, List.zip_cons_cons, List.zip_nil_right, List.zip_nil_left, List.all_cons, List.all_nil, Bool.and_true, Bool.and_self, decide_true, decide_false, Option.toList, List.cons_append, List.nil_append, List.append_nil, DX8_isFresh_0, DX8_isFresh_1, DX8_isFresh_2, FLX8, LDX8, e4, pk_mul, nI_add, f3, x_cl (a := i) (by omega), x_in (a := i) (n := 60) (by omega), x_le (a := 4 * i + tcC S i) (b := 4 * i + k) (by omega) (by omega), x_cl (a := 4 * i + k) (by omega), x_in (a := 4 * i + k) (n := 240) (by omega), g1, g2, g3, x_cl (a := thC S i k) (by omega), x_in (a := thC S i k) (n := 16) (by omega), t1, t2]
    refine ⟨hi, fun h => by omega, fun _ => ⟨by omega, w8, by omega, by omega, w8, by omega, fun h => ?_, fun h => ?_⟩⟩
    · have h3 : smC S i k = false := by simp [h]
      rw [h3] at h78
      exact h78
    · have h3 : smC S i k = true := by simp [h]
      rw [h3] at h78
      exact h78
end
set_option maxHeartbeats 4000000 in
set_option maxRecDepth 100000 in
theorem m_X8_isFresh (l : Launch) (A : pA) (T S : pS) {i m : Nat} (hi : i < 60) (hw : wfF S i m) (hT : rT T S) (hF : rF T S i) : e_MX8_isFresh l [.ref (ad A 30 0), .int (nI i)] (gS A T) (s_P A (fun v S2 => T = S2 ∧ v = some (.int (b2i (freshC S i))))) := by
  refine ofX8_isFresh (Nat.le_of_ble_eq_true rfl) ?_
  intro V C Rt
  refine srnX8_isFresh C Rt [12] 20 ?_
  simp only [k_i, s_go, s_1, e_op, e_pi, e_pl, e_pr, e_p0, e_li, e_ll, e_lr, e_lk, e_ins, e_rm, e_to, e_sw, e_cmp, k_c, k_n, k_f, k_v, k_lg, ↓reduceIte, reduceCtorEq, Nat.reduceAdd, Nat.reduceSub, Nat.reduceMul, Nat.reduceEqDiff, Nat.reduceLT, Nat.reduceLeDiff, Int.reduceAdd, Int.reduceSub, Int.reduceNeg, Int.reduceLE, Int.reduceLT, Int.reduceToNat, Int.reduceEq, Int.cast_ofNat_Int, List.mem_cons, List.not_mem_nil, List.length_cons, List.length_nil, List.set_cons_zero, List.set_cons_succ, List.toList_toArray, eq_self, true_and, and_true, and_self, or_true, true_or, false_or, or_false, or_self, not_true_eq_false, not_false_eq_true, Classical.not_not, true_implies, false_implies, implies_true, forall_const, and_false, false_and, Nat.le_refl, Nat.zero_le, Bool.false_eq_true, lv_args, s_rl_at, s_gf, s_pf, dn_q, kd_q, cl_q, nf_q, ln_q, tg_q, rr_q, cr_q, u_1, e_lsw, k_ti, List.drop_succ_cons, List.drop_zero, List.drop_nil, List.zip_cons_cons, List.zip_nil_right, List.zip_nil_left, List.all_cons, List.all_nil, Bool.and_true, Bool.and_self, decide_true, decide_false, Option.toList, List.cons_append, List.nil_append, List.append_nil, DX8_isFresh_0, DX8_isFresh_1, DX8_isFresh_2, FLX8, LDX8, (show (4 : Int32) = nI 4 from rfl), pk_mul]
  exact lp_X8_isFresh C Rt hi hw hT hF ⟨rfl, rfl⟩ (tcC S i) 0 (by omega)
/-- the reference's bits of role k: those of p for the first n, then as g -/
def bX (p : Nat → Bool) (n : Nat) (g : Nat → Int32) : Nat → Int32 := fun j => if j < n then b2i (p j) else g j
theorem usF_st {good : Nat → Bool} {on : Nat → Nat → Nat} {fc : Nat → Nat} {j : Nat} : ∀ {n : Nat}, j < n → usF good on fc n j = usF good on fc (j + 1) j
  | 0, h => by omega
  | n + 1, h => by
    by_cases h1 : j = n
    · subst h1
      rfl
    · rw [usF, if_neg h1, usF_st (by omega)]
theorem uX_s2 {T : pS} {k i : Nat} {q : Nat → Int32} {v w : Int32} : uI (uX T k (fun j => if j = i then w else q j)) k 0 i v = uX T k (fun j => if j = i then v else q j) := by
  rw [uX_s]
  congr 1
  funext j
  by_cases h : j = i <;> simp [h]
section
variable {V : pV} {l : Launch} {A : pA} {post : Option Value → pS → Prop} {T S : pS}
set_option maxHeartbeats 4000000 in
set_option maxRecDepth 100000 in
theorem lp_X8_isUsable2 (C : e_CX8_isUsable V l) (Rt : e_RX8_isUsable V (s_P A post)) {f i : Nat} {g : Nat → Int32} (hi : i < 60) (hw : wfF S i i) (hF : rF T S i) (p : Nat → Bool) (gd : Bool) (hx : V 0 0 100 [(0, .ref (ad A 30 0)), (1, .int (nI f)), (2, .int (nI i)), (3, .int (nI (fcC S i)))] [] (gS A (uX T 51 (fun j => if j = i then b2i (gd && allB p (onC S i) (fcC S i)) else bX p i g j)))) : ∀ z k, k + z = fcC S i → V 0 0 46 [(0, .ref (ad A 30 0)), (1, .int (nI f)), (2, .int (nI i)), (3, .int (nI k))] [] (gS A (uX T 51 (fun j => if j = i then b2i (gd && allB p (onC S i) k) else bX p i g j))) := by
  obtain ⟨w1, w2, w3, w4, w5, w6⟩ := hw
  obtain ⟨f1, f2, f3, f4, f5, f6, f7, f8⟩ := hF
  rw [w3] at f5
  intro z
  induction z with
  | zero =>
    intro k hk
    have hk2 : k = fcC S i := by omega
    rw [hk2]
    refine srnX8_isUsable C Rt [46, 100] 40 ?_
    simp only [k_i, s_go, s_1, e_op, e_pi, e_pl, e_pr, e_p0, e_li, e_ll, e_lr, e_lk, e_ins, e_rm, e_to, e_sw, e_cmp, k_c, k_n, k_f, k_v, k_lg, ↓reduceIte, reduceCtorEq, Nat.reduceAdd, Nat.reduceSub, Nat.reduceMul, Nat.reduceEqDiff, Nat.reduceLT, Nat.reduceLeDiff, Int.reduceAdd, Int.reduceSub, Int.reduceNeg, Int.reduceLE, Int.reduceLT, Int.reduceToNat, Int.reduceEq, Int.cast_ofNat_Int, List.mem_cons, List.not_mem_nil, List.length_cons, List.length_nil, List.set_cons_zero, List.set_cons_succ, List.toList_toArray, eq_self, true_and, and_true, and_self, or_true, true_or, false_or, or_false, or_self, not_true_eq_false, not_false_eq_true, Classical.not_not, true_implies, false_implies, implies_true, forall_const, and_false, false_and, Nat.le_refl, Nat.zero_le, Bool.false_eq_true, lv_args, s_rl_at, s_gf, s_pf, dn_q, kd_q, cl_q, nf_q, ln_q, tg_q, rr_q, cr_q, u_1, e_lsw, k_ti, List.drop_succ_cons, List.drop_zero, List.drop_nil, List.zip_cons_cons, List.zip_nil_right, List.zip_nil_left, List.all_cons, List.all_nil, Bool.and_true, Bool.and_self, decide_true, decide_false, Option.toList, List.cons_append, List.nil_append, List.append_nil, DX8_isUsable_0, DX8_isUsable_1, FLX8, LDX8, uX_1, uX_2, f5, x_cl (a := i) (by omega), x_in (a := i) (n := 60) (by omega), x_le (a := fcC S i) (b := fcC S i) (by omega) (by omega)]
    exact ⟨hi, hx⟩
  | succ z ih =>
    intro k hk
    obtain ⟨w7, w8⟩ := w6 k (by omega)
    have g1 := f6 k (by omega)
    rw [w7] at g1
    have hb : (if onC S i k = i then b2i (gd && allB p (onC S i) k) else bX p i g (onC S i k)) = b2i (p (onC S i k)) := by
      rw [if_neg (by omega)]
      simp [bX, w8]
    have h9 := ih (k + 1) (by omega)
    refine srnX8_isUsable C Rt [46, 100] 40 ?_
    simp only [k_i, s_go, s_1, e_op, e_pi, e_pl, e_pr, e_p0, e_li, e_ll, e_lr, e_lk, e_ins, e_rm, e_to, e_sw, e_cmp, k_c, k_n, k_f, k_v, k_lg, ↓reduceIte, reduceCtorEq, Nat.reduceAdd, Nat.reduceSub, Nat.reduceMul, Nat.reduceEqDiff, Nat.reduceLT, Nat.reduceLeDiff, Int.reduceAdd, Int.reduceSub, Int.reduceNeg, Int.reduceLE, Int.reduceLT, Int.reduceToNat, Int.reduceEq, Int.cast_ofNat_Int, List.mem_cons, List.not_mem_nil, List.length_cons, List.length_nil, List.set_cons_zero, List.set_cons_succ, List.toList_toArray, eq_self, true_and, and_true, and_self, or_true, true_or, false_or, or_false, or_self, not_true_eq_false, not_false_eq_true, Classical.not_not, true_implies, false_implies, implies_true, forall_const, and_false, false_and, Nat.le_refl, Nat.zero_le, Bool.false_eq_true, lv_args, s_rl_at, s_gf, s_pf, dn_q, kd_q, cl_q, nf_q, ln_q, tg_q, rr_q, cr_q, u_1, e_lsw, k_ti, List.drop_succ_cons, List.drop_zero, List.drop_nil, List.zip_cons_cons, List.zip_nil_right, List.zip_nil_left, List.all_cons, List.all_nil, Bool.and_true, Bool.and_self, decide_true, decide_false, Option.toList, List.cons_append, List.nil_append, List.append_nil, DX8_isUsable_0, DX8_isUsable_1, FLX8, LDX8, uX_1, uX_2, f5, x_cl (a := i) (by omega), x_in (a := i) (n := 60) (by omega), x_le (a := fcC S i) (b := k) (by omega) (by omega), (show (3 : Int32) = nI 3 from rfl), pk_mul, nI_add, x_cl (a := 3 * i + k) (by omega), x_in (a := 3 * i + k) (n := 180) (by omega), g1, x_cl (a := onC S i k) (by omega), x_in (a := onC S i k) (n := 60) (by omega), nI_1, hb, b2i_0]
    refine ⟨hi, fun h => by omega, fun _ => ⟨hi, fun h => ⟨hi, ?_⟩, fun h => ⟨by omega, by omega, fun h2 => ⟨hi, ?_⟩, fun h2 => ⟨hi, ?_⟩⟩⟩⟩
    · rw [uX_s2]
      have e : (gd && allB p (onC S i) (k + 1)) = false := by
        simp only [allB]
        rw [← Bool.and_assoc, h]
        rfl
      rw [e] at h9
      exact h9
    · rw [uX_s2]
      have e : (gd && allB p (onC S i) (k + 1)) = false := by
        simp only [allB]
        rw [h2, Bool.and_false, Bool.and_false]
      rw [e] at h9
      exact h9
    · rw [uX_s2]
      have e : (gd && allB p (onC S i) (k + 1)) = true := by
        simp only [allB]
        rw [← Bool.and_assoc, nft h, nft h2]
        rfl
      rw [e] at h9
      exact h9
end
theorem rF_of {T T2 S : pS} {i : Nat} (h : ∀ k, 35 ≤ k → k ≤ 44 → T2.1 k 0 = T.1 k 0) (h2 : T2.2.1 36 0 = T.2.1 36 0) (hF : rF T S i) : rF T2 S i := by
  unfold rF at hF ⊢
  rw [h 35 (by omega) (by omega), h 37 (by omega) (by omega), h 38 (by omega) (by omega), h 39 (by omega) (by omega), h 40 (by omega) (by omega), h 41 (by omega) (by omega), h 42 (by omega) (by omega), h 43 (by omega) (by omega), h 44 (by omega) (by omega), h2]
  exact hF
theorem uX_oth {T : pS} {k k2 : Nat} {f : Nat → Int32} (h : ¬ k2 = k) : (uX T k f).1 k2 = T.1 k2 := by
  funext i' j'
  rw [uX_1]
  simp [h]
theorem rF_uX {T S : pS} {i k : Nat} {f : Nat → Int32} (h : k < 35 ∨ 44 < k) (hF : rF T S i) : rF (uX T k f) S i := rF_of (T := T) (fun k2 h1 h2 => by rw [uX_oth (by omega)]) rfl hF
theorem rT_uX {T S : pS} {k : Nat} {f : Nat → Int32} (h : ¬ k = 32) (h2 : ¬ k = 33) (hT : rT T S) : rT (uX T k f) S := by
  unfold rT at hT ⊢
  rw [uX_oth (by omega), uX_oth (by omega)]
  exact hT
section
variable {V : pV} {l : Launch} {A : pA} {post : Option Value → pS → Prop} {T S : pS}
set_option maxHeartbeats 4000000 in
set_option maxRecDepth 100000 in
theorem lp_X8_isUsable (C : e_CX8_isUsable V l) (Rt : e_RX8_isUsable V (s_P A post)) {n f : Nat} (hn : n ≤ 60) (hf : f < n) (hw : ∀ i, i < n → wfF S i i) (hT : rT T S) (hF : ∀ i, i < n → rF T S i) (hp : post (some (.int (b2i (UC S (f + 1) f)))) (uX T 51 (bX (UC S (f + 1)) (f + 1) (T.1 51 0)))) : ∀ z i, i + z = f + 1 → V 0 0 2 [(0, .ref (ad A 30 0)), (1, .int (nI f)), (2, .int (nI i))] [] (gS A (uX T 51 (bX (UC S i) i (T.1 51 0)))) := by
  intro z
  induction z with
  | zero =>
    intro i hi
    have hi2 : i = f + 1 := by omega
    subst hi2
    have hb : bX (UC S (f + 1)) (f + 1) (T.1 51 0) f = b2i (UC S (f + 1) f) := by simp [bX]
    refine srnX8_isUsable C Rt [2] 40 ?_
    simp only [k_i, s_go, s_1, e_op, e_pi, e_pl, e_pr, e_p0, e_li, e_ll, e_lr, e_lk, e_ins, e_rm, e_to, e_sw, e_cmp, k_c, k_n, k_f, k_v, k_lg, ↓reduceIte, reduceCtorEq, Nat.reduceAdd, Nat.reduceSub, Nat.reduceMul, Nat.reduceEqDiff, Nat.reduceLT, Nat.reduceLeDiff, Int.reduceAdd, Int.reduceSub, Int.reduceNeg, Int.reduceLE, Int.reduceLT, Int.reduceToNat, Int.reduceEq, Int.cast_ofNat_Int, List.mem_cons, List.not_mem_nil, List.length_cons, List.length_nil, List.set_cons_zero, List.set_cons_succ, List.toList_toArray, eq_self, true_and, and_true, and_self, or_true, true_or, false_or, or_false, or_self, not_true_eq_false, not_false_eq_true, Classical.not_not, true_implies, false_implies, implies_true, forall_const, and_false, false_and, Nat.le_refl, Nat.zero_le, Bool.false_eq_true, lv_args, s_rl_at, s_gf, s_pf, dn_q, kd_q, cl_q, nf_q, ln_q, tg_q, rr_q, cr_q, u_1, e_lsw, k_ti, List.drop_succ_cons, List.drop_zero, List.drop_nil, List.zip_cons_cons, List.zip_nil_right, List.zip_nil_left, List.all_cons, List.all_nil, Bool.and_true, Bool.and_self, decide_true, decide_false, Option.toList, List.cons_append, List.nil_append, List.append_nil, DX8_isUsable_0, DX8_isUsable_1, FLX8, LDX8, uX_1, uX_2, x_lt (a := f) (b := f + 1) (by omega) (by omega), x_cl (a := f) (by omega), x_in (a := f) (n := 60) (by omega), hb, b2i_n, (show f < f + 1 by omega)]
    exact ⟨by omega, hp⟩
  | succ z ih =>
    intro i hi
    have hi60 : i < 60 := by omega
    have hwi := hw i (by omega)
    have hFi := hF i (by omega)
    have f7 := hFi.2.2.2.2.2.2.1
    have f8 := hFi.2.2.2.2.2.2.2
    have h9 := ih (i + 1) (by omega)
    have h44 : ∀ gd : Bool, gd = goodC S i → V 0 0 46 [(0, .ref (ad A 30 0)), (1, .int (nI f)), (2, .int (nI i)), (3, .int 0)] [] (gS A (uX T 51 (fun j => if j = i then b2i gd else bX (UC S i) i (T.1 51 0) j))) := by
      intro gd hgd
      have h8 := lp_X8_isUsable2 (V := V) (T := T) (S := S) (f := f) (g := T.1 51 0) C Rt hi60 hwi hFi (UC S i) gd ?_ (fcC S i) 0 (by omega)
      · simp only [allB, Bool.and_true] at h8
        exact h8
      · refine srnX8_isUsable C Rt [2] 40 ?_
        simp only [k_i, s_go, s_1, e_op, e_pi, e_pl, e_pr, e_p0, e_li, e_ll, e_lr, e_lk, e_ins, e_rm, e_to, e_sw, e_cmp, k_c, k_n, k_f, k_v, k_lg, ↓reduceIte, reduceCtorEq, Nat.reduceAdd, Nat.reduceSub, Nat.reduceMul, Nat.reduceEqDiff, Nat.reduceLT, Nat.reduceLeDiff, Int.reduceAdd, Int.reduceSub, Int.reduceNeg, Int.reduceLE, Int.reduceLT, Int.reduceToNat, Int.reduceEq, Int.cast_ofNat_Int, List.mem_cons, List.not_mem_nil, List.length_cons, List.length_nil, List.set_cons_zero, List.set_cons_succ, List.toList_toArray, eq_self, true_and, and_true, and_self, or_true, true_or, false_or, or_false, or_self, not_true_eq_false, not_false_eq_true, Classical.not_not, true_implies, false_implies, implies_true, forall_const, and_false, false_and, Nat.le_refl, Nat.zero_le, Bool.false_eq_true, lv_args, s_rl_at, s_gf, s_pf, dn_q, kd_q, cl_q, nf_q, ln_q, tg_q, rr_q, cr_q, u_1, e_lsw, k_ti, List.drop_succ_cons, List.drop_zero, List.drop_nil, List.zip_cons_cons, List.zip_nil_right, List.zip_nil_left, List.all_cons, List.all_nil, Bool.and_true, Bool.and_self, decide_true, decide_false, Option.toList, List.cons_append, List.nil_append, List.append_nil, DX8_isUsable_0, DX8_isUsable_1, FLX8, LDX8, nI_1]
        have e : (fun j => if j = i then b2i (gd && allB (UC S i) (onC S i) (fcC S i)) else bX (UC S i) i (T.1 51 0) j) = bX (UC S (i + 1)) (i + 1) (T.1 51 0) := by
          funext j
          unfold bX
          by_cases h1 : j = i
          · subst h1
            simp [usF, hgd]
          · have : (j < i + 1) ↔ (j < i) := by omega
            simp [usF, h1, this]
        rw [e]
        exact w_pre C h9
    refine srnX8_isUsable C Rt [46] 40 ?_
    simp only [k_i, s_go, s_1, e_op, e_pi, e_pl, e_pr, e_p0, e_li, e_ll, e_lr, e_lk, e_ins, e_rm, e_to, e_sw, e_cmp, k_c, k_n, k_f, k_v, k_lg, ↓reduceIte, reduceCtorEq, Nat.reduceAdd, Nat.reduceSub, Nat.reduceMul, Nat.reduceEqDiff, Nat.reduceLT, Nat.reduceLeDiff, Int.reduceAdd, Int.reduceSub, Int.reduceNeg, Int.reduceLE, Int.reduceLT, Int.reduceToNat, Int.reduceEq, Int.cast_ofNat_Int, List.mem_cons, List.not_mem_nil, List.length_cons, List.length_nil, List.set_cons_zero, List.set_cons_succ, List.toList_toArray, eq_self, true_and, and_true, and_self, or_true, true_or, false_or, or_false, or_self, not_true_eq_false, not_false_eq_true, Classical.not_not, true_implies, false_implies, implies_true, forall_const, and_false, false_and, Nat.le_refl, Nat.zero_le, Bool.false_eq_true, lv_args, s_rl_at, s_gf, s_pf, dn_q, kd_q, cl_q, nf_q, ln_q, tg_q, rr_q, cr_q, u_1, e_lsw, k_ti, List.drop_succ_cons, List.drop_zero, List.drop_nil, List.zip_cons_cons, List.zip_nil_right, List.zip_nil_left, List.all_cons, List.all_nil, Bool.and_true, Bool.and_self, decide_true, decide_false, Option.toList, List.cons_append, List.nil_append, List.append_nil, DX8_isUsable_0, DX8_isUsable_1, FLX8, LDX8, uX_1, uX_2, x_lt (a := f) (b := i) (by omega) (by omega), x_cl (a := i) (by omega), x_in (a := i) (n := 60) (by omega), f7, f8]
    refine ⟨fun h => by omega, fun _ => ⟨hi60, fun h => ⟨hi60, ?_⟩, fun h => ⟨hi60, fun h2 => ⟨hi60, ?_⟩, fun h2 => ?_⟩⟩⟩
    · rw [uX_s]
      exact h44 false (by simp [goodC, drC, h])
    · rw [uX_s]
      exact h44 true (by simp [goodC, drC, chC, h, h2])
    · refine sX8_isUsable_32 C (m_X8_isFresh l A _ S hi60 hwi (rT_uX (by decide) (by decide) hT) (rF_uX (by omega) hFi)) (s_obj (show 0 < 1 by decide) rfl) (hcat := Nat.le_of_ble_eq_true rfl) (k := ?_)
      rintro v2 G2 ⟨S2, rfl, rfl, rfl⟩
      refine srnX8_isUsable C Rt [46] 40 ?_
      simp only [k_i, s_go, s_1, e_op, e_pi, e_pl, e_pr, e_p0, e_li, e_ll, e_lr, e_lk, e_ins, e_rm, e_to, e_sw, e_cmp, k_c, k_n, k_f, k_v, k_lg, ↓reduceIte, reduceCtorEq, Nat.reduceAdd, Nat.reduceSub, Nat.reduceMul, Nat.reduceEqDiff, Nat.reduceLT, Nat.reduceLeDiff, Int.reduceAdd, Int.reduceSub, Int.reduceNeg, Int.reduceLE, Int.reduceLT, Int.reduceToNat, Int.reduceEq, Int.cast_ofNat_Int, List.mem_cons, List.not_mem_nil, List.length_cons, List.length_nil, List.set_cons_zero, List.set_cons_succ, List.toList_toArray, eq_self, true_and, and_true, and_self, or_true, true_or, false_or, or_false, or_self, not_true_eq_false, not_false_eq_true, Classical.not_not, true_implies, false_implies, implies_true, forall_const, and_false, false_and, Nat.le_refl, Nat.zero_le, Bool.false_eq_true, lv_args, s_rl_at, s_gf, s_pf, dn_q, kd_q, cl_q, nf_q, ln_q, tg_q, rr_q, cr_q, u_1, e_lsw, k_ti, List.drop_succ_cons, List.drop_zero, List.drop_nil, List.zip_cons_cons, List.zip_nil_right, List.zip_nil_left, List.all_cons, List.all_nil, Bool.and_true, Bool.and_self, decide_true, decide_false, Option.toList, List.cons_append, List.nil_append, List.append_nil, DX8_isUsable_0, DX8_isUsable_1, FLX8, LDX8, uX_1, uX_2, x_cl (a := i) (by omega), x_in (a := i) (n := 60) (by omega), b2i_0]
      refine ⟨fun h3 => ⟨hi60, ?_⟩, fun h3 => ⟨hi60, ?_⟩⟩
      · rw [uX_s]
        exact h44 false (by simp [goodC, drC, chC, h, h2, h3])
      · rw [uX_s]
        exact h44 true (by simp [goodC, drC, chC, h, h2, nft h3])
end
set_option maxHeartbeats 4000000 in
set_option maxRecDepth 100000 in
theorem m_X8_isUsable (l : Launch) (A : pA) (T S : pS) {n f : Nat} (hB : wfB S n) (hf : f < n) (hT : rT T S) (hR : rB T S n) : e_MX8_isUsable l [.ref (ad A 30 0), .int (nI f)] (gS A T) (s_P A (isP (b2i (UC S (f + 1) f), uX T 51 (bX (UC S (f + 1)) (f + 1) (T.1 51 0))))) := by
  refine ofX8_isUsable (Nat.le_of_ble_eq_true rfl) ?_
  intro V C Rt
  refine srnX8_isUsable C Rt [2] 20 ?_
  simp only [k_i, s_go, s_1, e_op, e_pi, e_pl, e_pr, e_p0, e_li, e_ll, e_lr, e_lk, e_ins, e_rm, e_to, e_sw, e_cmp, k_c, k_n, k_f, k_v, k_lg, ↓reduceIte, reduceCtorEq, Nat.reduceAdd, Nat.reduceSub, Nat.reduceMul, Nat.reduceEqDiff, Nat.reduceLT, Nat.reduceLeDiff, Int.reduceAdd, Int.reduceSub, Int.reduceNeg, Int.reduceLE, Int.reduceLT, Int.reduceToNat, Int.reduceEq, Int.cast_ofNat_Int, List.mem_cons, List.not_mem_nil, List.length_cons, List.length_nil, List.set_cons_zero, List.set_cons_succ, List.toList_toArray, eq_self, true_and, and_true, and_self, or_true, true_or, false_or, or_false, or_self, not_true_eq_false, not_false_eq_true, Classical.not_not, true_implies, false_implies, implies_true, forall_const, and_false, false_and, Nat.le_refl, Nat.zero_le, Bool.false_eq_true, lv_args, s_rl_at, s_gf, s_pf, dn_q, kd_q, cl_q, nf_q, ln_q, tg_q, rr_q, cr_q, u_1, e_lsw, k_ti, List.drop_succ_cons, List.drop_zero, List.drop_nil, List.zip_cons_cons, List.zip_nil_right, List.zip_nil_left, List.all_cons, List.all_nil, Bool.and_true, Bool.and_self, decide_true, decide_false, Option.toList, List.cons_append, List.nil_append, List.append_nil, DX8_isUsable_0, DX8_isUsable_1, FLX8, LDX8]
  have h9 := lp_X8_isUsable (T := T) (S := S) C Rt hB.2.1 hf hB.2.2 hT hR.2 ⟨rfl, rfl⟩ (f + 1) 0 (by omega)
  rw [uX_id (fun j => by simp [bX])] at h9
  exact h9
abbrev usM (T S : pS) (f : Nat) : pS := uX (t0 T) 51 (bX (UC S (f + 1)) (f + 1) (T.1 51 0))
def usbM (T S : pS) (n : Nat) (x : Int32) : pS := if ¬ S.1 11 0 1 = 0 then t0 T else if inr x n = false then t0 T else usM T S (nN x)
set_option maxHeartbeats 4000000 in
set_option maxRecDepth 100000 in
theorem m_X8_usable (l : Launch) (A : pA) (T S : pS) {n : Nat} (hB : wfB S n) (hD : rD T S) (hT : rT T S) (hR : rB T S n) (x : Int32) : e_MX8_usable l [.ref (ad A 30 0), .int x] (gS A T) (s_P A (isP (usbC S n x, usbM T S n x))) := by
  have hn := hB.2.1
  refine ofX8_usable (Nat.le_of_ble_eq_true rfl) ?_
  intro V C Rt
  unfold rD at hD
  refine srnX8_usable C Rt [] 20 ?_
  simp only [k_i, s_go, s_1, e_op, e_pi, e_pl, e_pr, e_p0, e_li, e_ll, e_lr, e_lk, e_ins, e_rm, e_to, e_sw, e_cmp, k_c, k_n, k_f, k_v, k_lg, ↓reduceIte, reduceCtorEq, Nat.reduceAdd, Nat.reduceSub, Nat.reduceMul, Nat.reduceEqDiff, Nat.reduceLT, Nat.reduceLeDiff, Int.reduceAdd, Int.reduceSub, Int.reduceNeg, Int.reduceLE, Int.reduceLT, Int.reduceToNat, Int.reduceEq, Int.cast_ofNat_Int, List.mem_cons, List.not_mem_nil, List.length_cons, List.length_nil, List.set_cons_zero, List.set_cons_succ, List.toList_toArray, eq_self, true_and, and_true, and_self, or_true, true_or, false_or, or_false, or_self, not_true_eq_false, not_false_eq_true, Classical.not_not, true_implies, false_implies, implies_true, forall_const, and_false, false_and, Nat.le_refl, Nat.zero_le, Bool.false_eq_true, lv_args, s_rl_at, s_gf, s_pf, dn_q, kd_q, cl_q, nf_q, ln_q, tg_q, rr_q, cr_q, u_1, e_lsw, k_ti, List.drop_succ_cons, List.drop_zero, List.drop_nil, List.zip_cons_cons, List.zip_nil_right, List.zip_nil_left, List.all_cons, List.all_nil, Bool.and_true, Bool.and_self, decide_true, decide_false, Option.toList, List.cons_append, List.nil_append, List.append_nil, DX8_usable_0, FLX8, LDX8, hD]
  refine ⟨fun hd => ?_, fun hd => by simp [isP, usbC, usbM, hd]⟩
  refine sX8_usable_17 C (m_X8_isFact l A (t0 T) hn hR.1 x) (s_obj (show 0 < 1 by decide) rfl) (hcat := Nat.le_of_ble_eq_true rfl) (k := ?_)
  rintro v2 G2 ⟨S2, rfl, rfl, rfl⟩
  cases hx : inr x n with
  | false =>
    refine srnX8_usable C Rt [] 40 ?_
    simp only [k_i, s_go, s_1, e_op, e_pi, e_pl, e_pr, e_p0, e_li, e_ll, e_lr, e_lk, e_ins, e_rm, e_to, e_sw, e_cmp, k_c, k_n, k_f, k_v, k_lg, ↓reduceIte, reduceCtorEq, Nat.reduceAdd, Nat.reduceSub, Nat.reduceMul, Nat.reduceEqDiff, Nat.reduceLT, Nat.reduceLeDiff, Int.reduceAdd, Int.reduceSub, Int.reduceNeg, Int.reduceLE, Int.reduceLT, Int.reduceToNat, Int.reduceEq, Int.cast_ofNat_Int, List.mem_cons, List.not_mem_nil, List.length_cons, List.length_nil, List.set_cons_zero, List.set_cons_succ, List.toList_toArray, eq_self, true_and, and_true, and_self, or_true, true_or, false_or, or_false, or_self, not_true_eq_false, not_false_eq_true, Classical.not_not, true_implies, false_implies, implies_true, forall_const, and_false, false_and, Nat.le_refl, Nat.zero_le, Bool.false_eq_true, lv_args, s_rl_at, s_gf, s_pf, dn_q, kd_q, cl_q, nf_q, ln_q, tg_q, rr_q, cr_q, u_1, e_lsw, k_ti, List.drop_succ_cons, List.drop_zero, List.drop_nil, List.zip_cons_cons, List.zip_nil_right, List.zip_nil_left, List.all_cons, List.all_nil, Bool.and_true, Bool.and_self, decide_true, decide_false, Option.toList, List.cons_append, List.nil_append, List.append_nil, DX8_usable_0, FLX8, LDX8, b2i_f]
    simp [isP, usbC, usbM, hd, hx]
  | true =>
    obtain ⟨j, hj, rfl⟩ := inr_of (by omega) hx
    have eN := nN_nI (show j < 2147483648 by omega)
    refine srnX8_usable C Rt [] 40 ?_
    simp only [k_i, s_go, s_1, e_op, e_pi, e_pl, e_pr, e_p0, e_li, e_ll, e_lr, e_lk, e_ins, e_rm, e_to, e_sw, e_cmp, k_c, k_n, k_f, k_v, k_lg, ↓reduceIte, reduceCtorEq, Nat.reduceAdd, Nat.reduceSub, Nat.reduceMul, Nat.reduceEqDiff, Nat.reduceLT, Nat.reduceLeDiff, Int.reduceAdd, Int.reduceSub, Int.reduceNeg, Int.reduceLE, Int.reduceLT, Int.reduceToNat, Int.reduceEq, Int.cast_ofNat_Int, List.mem_cons, List.not_mem_nil, List.length_cons, List.length_nil, List.set_cons_zero, List.set_cons_succ, List.toList_toArray, eq_self, true_and, and_true, and_self, or_true, true_or, false_or, or_false, or_self, not_true_eq_false, not_false_eq_true, Classical.not_not, true_implies, false_implies, implies_true, forall_const, and_false, false_and, Nat.le_refl, Nat.zero_le, Bool.false_eq_true, lv_args, s_rl_at, s_gf, s_pf, dn_q, kd_q, cl_q, nf_q, ln_q, tg_q, rr_q, cr_q, u_1, e_lsw, k_ti, List.drop_succ_cons, List.drop_zero, List.drop_nil, List.zip_cons_cons, List.zip_nil_right, List.zip_nil_left, List.all_cons, List.all_nil, Bool.and_true, Bool.and_self, decide_true, decide_false, Option.toList, List.cons_append, List.nil_append, List.append_nil, DX8_usable_0, FLX8, LDX8, b2i_t]
    refine sX8_usable_29 C (m_X8_isUsable l A (t0 T) S hB hj hT hR) (s_obj (show 0 < 1 by decide) rfl) (hcat := Nat.le_of_ble_eq_true rfl) (k := ?_)
    rintro v2 G2 ⟨S2, rfl, rfl, rfl⟩
    refine srnX8_usable C Rt [] 40 ?_
    simp only [k_i, s_go, s_1, e_op, e_pi, e_pl, e_pr, e_p0, e_li, e_ll, e_lr, e_lk, e_ins, e_rm, e_to, e_sw, e_cmp, k_c, k_n, k_f, k_v, k_lg, ↓reduceIte, reduceCtorEq, Nat.reduceAdd, Nat.reduceSub, Nat.reduceMul, Nat.reduceEqDiff, Nat.reduceLT, Nat.reduceLeDiff, Int.reduceAdd, Int.reduceSub, Int.reduceNeg, Int.reduceLE, Int.reduceLT, Int.reduceToNat, Int.reduceEq, Int.cast_ofNat_Int, List.mem_cons, List.not_mem_nil, List.length_cons, List.length_nil, List.set_cons_zero, List.set_cons_succ, List.toList_toArray, eq_self, true_and, and_true, and_self, or_true, true_or, false_or, or_false, or_self, not_true_eq_false, not_false_eq_true, Classical.not_not, true_implies, false_implies, implies_true, forall_const, and_false, false_and, Nat.le_refl, Nat.zero_le, Bool.false_eq_true, lv_args, s_rl_at, s_gf, s_pf, dn_q, kd_q, cl_q, nf_q, ln_q, tg_q, rr_q, cr_q, u_1, e_lsw, k_ti, List.drop_succ_cons, List.drop_zero, List.drop_nil, List.zip_cons_cons, List.zip_nil_right, List.zip_nil_left, List.all_cons, List.all_nil, Bool.and_true, Bool.and_self, decide_true, decide_false, Option.toList, List.cons_append, List.nil_append, List.append_nil, DX8_usable_0, FLX8, LDX8, b2i_0]
    refine ⟨fun h => ?_, fun h => ?_⟩
    · simp only [isP, usbC, usbM, hd, hx, eN, h]
      exact ⟨rfl, rfl⟩
    · simp only [isP, usbC, usbM, hd, hx, eN, nft h]
      exact ⟨rfl, rfl⟩
/-! check -/
section
variable {V : pV} {l : Launch} {A : pA} {post : Option Value → pS → Prop} {T S : pS}
set_option maxHeartbeats 4000000 in
set_option maxRecDepth 100000 in
theorem lp_X8_check (C : e_CX8_check V l) (Rt : e_RX8_check V (s_P A post)) {n f : Nat} (hn : n ≤ 60) (hf : f < n) (hw : wfF S f f) (hF : ∀ i, i < n → rF T S i) (h51 : ∀ j, j < f → T.1 51 0 j = b2i (UC S (f + 1) j))
    (hx : V 0 0 103 [(0, .ref (ad A 30 0)), (1, .int (nI f)), (2, .int (b2i (allB (UC S f) (onC S f) (fcC S f)))), (3, .long (svs (fun j => S.2.1 6 j 1) (onC S f) (fcC S f))), (5, .int (nI (fcC S f)))] [] (gS A T)) : ∀ z k, k + z = fcC S f → V 0 0 38 [(0, .ref (ad A 30 0)), (1, .int (nI f)), (2, .int (b2i (allB (UC S f) (onC S f) k))), (3, .long (svs (fun j => S.2.1 6 j 1) (onC S f) k)), (5, .int (nI k))] [] (gS A T) := by
  obtain ⟨w1, w2, w3, w4, w5, w6⟩ := hw
  obtain ⟨f1, f2, f3, f4, f5, f6, f7, f8⟩ := hF f hf
  rw [w3] at f5
  intro z
  induction z with
  | zero =>
    intro k hk
    have hk2 : k = fcC S f := by omega
    rw [hk2]
    refine srnX8_check C Rt [38, 103] 40 ?_
    simp only [k_i, s_go, s_1, e_op, e_pi, e_pl, e_pr, e_p0, e_li, e_ll, e_lr, e_lk, e_ins, e_rm, e_to, e_sw, e_cmp, k_c, k_n, k_f, k_v, k_lg, ↓reduceIte, reduceCtorEq, Nat.reduceAdd, Nat.reduceSub, Nat.reduceMul, Nat.reduceEqDiff, Nat.reduceLT, Nat.reduceLeDiff, Int.reduceAdd, Int.reduceSub, Int.reduceNeg, Int.reduceLE, Int.reduceLT, Int.reduceToNat, Int.reduceEq, Int.cast_ofNat_Int, List.mem_cons, List.not_mem_nil, List.length_cons, List.length_nil, List.set_cons_zero, List.set_cons_succ, List.toList_toArray, eq_self, true_and, and_true, and_self, or_true, true_or, false_or, or_false, or_self, not_true_eq_false, not_false_eq_true, Classical.not_not, true_implies, false_implies, implies_true, forall_const, and_false, false_and, Nat.le_refl, Nat.zero_le, Bool.false_eq_true, lv_args, s_rl_at, s_gf, s_pf, dn_q, kd_q, cl_q, nf_q, ln_q, tg_q, rr_q, cr_q, u_1, e_lsw, k_ti, List.drop_succ_cons, List.drop_zero, List.drop_nil, List.zip_cons_cons, List.zip_nil_right, List.zip_nil_left, List.all_cons, List.all_nil, Bool.and_true, Bool.and_self, decide_true, decide_false, Option.toList, List.cons_append, List.nil_append, List.append_nil, DX8_check_0, DX8_check_1, DX8_check_2, FLX8, LDX8, f5, x_cl (a := f) (by omega), x_in (a := f) (n := 60) (by omega), x_le (a := fcC S f) (b := fcC S f) (by omega) (by omega)]
    exact ⟨by omega, hx⟩
  | succ z ih =>
    intro k hk
    obtain ⟨w7, w8⟩ := w6 k (by omega)
    have g1 := f6 k (by omega)
    rw [w7] at g1
    have g2 := (hF (onC S f k) (by omega)).2.1
    have g3 := h51 (onC S f k) w8
    have g4 : UC S (f + 1) (onC S f k) = UC S f (onC S f k) := by
      show usF _ _ _ _ _ = _
      rw [usF, if_neg (by omega)]
    rw [g4] at g3
    have h9 := ih (k + 1) (by omega)
    have h78 : V 0 0 78 [(0, .ref (ad A 30 0)), (1, .int (nI f)), (2, .int (b2i (allB (UC S f) (onC S f) (k + 1)))), (3, .long (svs (fun j => S.2.1 6 j 1) (onC S f) k)), (5, .int (nI k))] [] (gS A T) := by
      refine srnX8_check C Rt [38, 103] 40 ?_
      simp only [k_i, s_go, s_1, e_op, e_pi, e_pl, e_pr, e_p0, e_li, e_ll, e_lr, e_lk, e_ins, e_rm, e_to, e_sw, e_cmp, k_c, k_n, k_f, k_v, k_lg, ↓reduceIte, reduceCtorEq, Nat.reduceAdd, Nat.reduceSub, Nat.reduceMul, Nat.reduceEqDiff, Nat.reduceLT, Nat.reduceLeDiff, Int.reduceAdd, Int.reduceSub, Int.reduceNeg, Int.reduceLE, Int.reduceLT, Int.reduceToNat, Int.reduceEq, Int.cast_ofNat_Int, List.mem_cons, List.not_mem_nil, List.length_cons, List.length_nil, List.set_cons_zero, List.set_cons_succ, List.toList_toArray, eq_self, true_and, and_true, and_self, or_true, true_or, false_or, or_false, or_self, not_true_eq_false, not_false_eq_true, Classical.not_not, true_implies, false_implies, implies_true, forall_const, and_false, false_and, Nat.le_refl, Nat.zero_le, Bool.false_eq_true, lv_args, s_rl_at, s_gf, s_pf, dn_q, kd_q, cl_q, nf_q, ln_q, tg_q, rr_q, cr_q, u_1, e_lsw, k_ti, List.drop_succ_cons, List.drop_zero, List.drop_nil, List.zip_cons_cons, List.zip_nil_right, List.zip_nil_left, List.all_cons, List.all_nil, Bool.and_true, Bool.and_self, decide_true, decide_false, Option.toList, List.cons_append, List.nil_append, List.append_nil, DX8_check_0, DX8_check_1, DX8_check_2, FLX8, LDX8, (show (3 : Int32) = nI 3 from rfl), pk_mul, nI_add, x_cl (a := 3 * f + k) (by omega), x_in (a := 3 * f + k) (n := 180) (by omega), g1, x_cl (a := onC S f k) (by omega), x_in (a := onC S f k) (n := 60) (by omega), g2, nI_1]
      exact ⟨by omega, by omega, h9⟩
    refine srnX8_check C Rt [38, 78, 103] 40 ?_
    simp only [k_i, s_go, s_1, e_op, e_pi, e_pl, e_pr, e_p0, e_li, e_ll, e_lr, e_lk, e_ins, e_rm, e_to, e_sw, e_cmp, k_c, k_n, k_f, k_v, k_lg, ↓reduceIte, reduceCtorEq, Nat.reduceAdd, Nat.reduceSub, Nat.reduceMul, Nat.reduceEqDiff, Nat.reduceLT, Nat.reduceLeDiff, Int.reduceAdd, Int.reduceSub, Int.reduceNeg, Int.reduceLE, Int.reduceLT, Int.reduceToNat, Int.reduceEq, Int.cast_ofNat_Int, List.mem_cons, List.not_mem_nil, List.length_cons, List.length_nil, List.set_cons_zero, List.set_cons_succ, List.toList_toArray, eq_self, true_and, and_true, and_self, or_true, true_or, false_or, or_false, or_self, not_true_eq_false, not_false_eq_true, Classical.not_not, true_implies, false_implies, implies_true, forall_const, and_false, false_and, Nat.le_refl, Nat.zero_le, Bool.false_eq_true, lv_args, s_rl_at, s_gf, s_pf, dn_q, kd_q, cl_q, nf_q, ln_q, tg_q, rr_q, cr_q, u_1, e_lsw, k_ti, List.drop_succ_cons, List.drop_zero, List.drop_nil, List.zip_cons_cons, List.zip_nil_right, List.zip_nil_left, List.all_cons, List.all_nil, Bool.and_true, Bool.and_self, decide_true, decide_false, Option.toList, List.cons_append, List.nil_append, List.append_nil, DX8_check_0, DX8_check_1, DX8_check_2, FLX8, LDX8, f5, x_cl (a := f) (by omega), x_in (a := f) (n := 60) (by omega), x_le (a := fcC S f) (b := k) (by omega) (by omega), (show (3 : Int32) = nI 3 from rfl), pk_mul, nI_add, x_cl (a := 3 * f + k) (by omega), x_in (a := 3 * f + k) (n := 180) (by omega), g1, x_cl (a := onC S f k) (by omega), x_in (a := onC S f k) (n := 60) (by omega), g3, b2i_0]
    refine ⟨by omega, fun h => by omega, fun _ => ⟨fun h => ?_, fun h => ⟨by omega, by omega, fun h2 => ?_, fun h2 => ?_⟩⟩⟩
    · rw [allB, h] at h78
      exact h78
    · rw [allB, h2, Bool.and_false] at h78
      exact h78
    · rw [allB, nft h, nft h2] at h78
      exact h78
end
def chkM (T S : pS) (n : Nat) (x : Int32) : pS := if ¬ S.1 11 0 1 = 0 then t0 T else if inr x n = false then t0 T else if drC S (nN x) = true ∨ allB (UC S (nN x)) (onC S (nN x)) (fcC S (nN x)) = false then usM T S (nN x) else uI (uI (usM T S (nN x)) 43 0 (nN x) (b2i (holdsC S (nN x)))) 44 0 (nN x) (b2i (!holdsC S (nN x)))
set_option maxHeartbeats 4000000 in
set_option maxRecDepth 100000 in
theorem m_X8_check (l : Launch) (A : pA) (T S : pS) {n : Nat} (hB : wfB S n) (hD : rD T S) (hT : rT T S) (hR : rB T S n) (x : Int32) : e_MX8_check l [.ref (ad A 30 0), .int x] (gS A T) (s_P A (isP ((chkC S n x).1, chkM T S n x))) := by
  have hn := hB.2.1
  refine ofX8_check (Nat.le_of_ble_eq_true rfl) ?_
  intro V C Rt
  unfold rD at hD
  refine srnX8_check C Rt [] 20 ?_
  simp only [k_i, s_go, s_1, e_op, e_pi, e_pl, e_pr, e_p0, e_li, e_ll, e_lr, e_lk, e_ins, e_rm, e_to, e_sw, e_cmp, k_c, k_n, k_f, k_v, k_lg, ↓reduceIte, reduceCtorEq, Nat.reduceAdd, Nat.reduceSub, Nat.reduceMul, Nat.reduceEqDiff, Nat.reduceLT, Nat.reduceLeDiff, Int.reduceAdd, Int.reduceSub, Int.reduceNeg, Int.reduceLE, Int.reduceLT, Int.reduceToNat, Int.reduceEq, Int.cast_ofNat_Int, List.mem_cons, List.not_mem_nil, List.length_cons, List.length_nil, List.set_cons_zero, List.set_cons_succ, List.toList_toArray, eq_self, true_and, and_true, and_self, or_true, true_or, false_or, or_false, or_self, not_true_eq_false, not_false_eq_true, Classical.not_not, true_implies, false_implies, implies_true, forall_const, and_false, false_and, Nat.le_refl, Nat.zero_le, Bool.false_eq_true, lv_args, s_rl_at, s_gf, s_pf, dn_q, kd_q, cl_q, nf_q, ln_q, tg_q, rr_q, cr_q, u_1, e_lsw, k_ti, List.drop_succ_cons, List.drop_zero, List.drop_nil, List.zip_cons_cons, List.zip_nil_right, List.zip_nil_left, List.all_cons, List.all_nil, Bool.and_true, Bool.and_self, decide_true, decide_false, Option.toList, List.cons_append, List.nil_append, List.append_nil, DX8_check_0, DX8_check_1, DX8_check_2, FLX8, LDX8, hD]
  refine ⟨fun hd => ?_, fun hd => by simp [isP, chkC, chkM, hd]⟩
  refine sX8_check_17 C (m_X8_isFact l A (t0 T) hn hR.1 x) (s_obj (show 0 < 1 by decide) rfl) (hcat := Nat.le_of_ble_eq_true rfl) (k := ?_)
  rintro v2 G2 ⟨S2, rfl, rfl, rfl⟩
  cases hx : inr x n with
  | false =>
    refine srnX8_check C Rt [] 40 ?_
    simp only [k_i, s_go, s_1, e_op, e_pi, e_pl, e_pr, e_p0, e_li, e_ll, e_lr, e_lk, e_ins, e_rm, e_to, e_sw, e_cmp, k_c, k_n, k_f, k_v, k_lg, ↓reduceIte, reduceCtorEq, Nat.reduceAdd, Nat.reduceSub, Nat.reduceMul, Nat.reduceEqDiff, Nat.reduceLT, Nat.reduceLeDiff, Int.reduceAdd, Int.reduceSub, Int.reduceNeg, Int.reduceLE, Int.reduceLT, Int.reduceToNat, Int.reduceEq, Int.cast_ofNat_Int, List.mem_cons, List.not_mem_nil, List.length_cons, List.length_nil, List.set_cons_zero, List.set_cons_succ, List.toList_toArray, eq_self, true_and, and_true, and_self, or_true, true_or, false_or, or_false, or_self, not_true_eq_false, not_false_eq_true, Classical.not_not, true_implies, false_implies, implies_true, forall_const, and_false, false_and, Nat.le_refl, Nat.zero_le, Bool.false_eq_true, lv_args, s_rl_at, s_gf, s_pf, dn_q, kd_q, cl_q, nf_q, ln_q, tg_q, rr_q, cr_q, u_1, e_lsw, k_ti, List.drop_succ_cons, List.drop_zero, List.drop_nil, List.zip_cons_cons, List.zip_nil_right, List.zip_nil_left, List.all_cons, List.all_nil, Bool.and_true, Bool.and_self, decide_true, decide_false, Option.toList, List.cons_append, List.nil_append, List.append_nil, DX8_check_0, DX8_check_1, DX8_check_2, FLX8, LDX8, b2i_f]
    simp [isP, chkC, chkM, hd, hx]
  | true =>
    obtain ⟨f, hf, rfl⟩ := inr_of (by omega) hx
    have eN := nN_nI (show f < 2147483648 by omega)
    have hwf := hB.2.2 f hf
    refine srnX8_check C Rt [] 40 ?_
    simp only [k_i, s_go, s_1, e_op, e_pi, e_pl, e_pr, e_p0, e_li, e_ll, e_lr, e_lk, e_ins, e_rm, e_to, e_sw, e_cmp, k_c, k_n, k_f, k_v, k_lg, ↓reduceIte, reduceCtorEq, Nat.reduceAdd, Nat.reduceSub, Nat.reduceMul, Nat.reduceEqDiff, Nat.reduceLT, Nat.reduceLeDiff, Int.reduceAdd, Int.reduceSub, Int.reduceNeg, Int.reduceLE, Int.reduceLT, Int.reduceToNat, Int.reduceEq, Int.cast_ofNat_Int, List.mem_cons, List.not_mem_nil, List.length_cons, List.length_nil, List.set_cons_zero, List.set_cons_succ, List.toList_toArray, eq_self, true_and, and_true, and_self, or_true, true_or, false_or, or_false, or_self, not_true_eq_false, not_false_eq_true, Classical.not_not, true_implies, false_implies, implies_true, forall_const, and_false, false_and, Nat.le_refl, Nat.zero_le, Bool.false_eq_true, lv_args, s_rl_at, s_gf, s_pf, dn_q, kd_q, cl_q, nf_q, ln_q, tg_q, rr_q, cr_q, u_1, e_lsw, k_ti, List.drop_succ_cons, List.drop_zero, List.drop_nil, List.zip_cons_cons, List.zip_nil_right, List.zip_nil_left, List.all_cons, List.all_nil, Bool.and_true, Bool.and_self, decide_true, decide_false, Option.toList, List.cons_append, List.nil_append, List.append_nil, DX8_check_0, DX8_check_1, DX8_check_2, FLX8, LDX8, b2i_t]
    refine sX8_check_27 C (m_X8_isUsable l A (t0 T) S hB hf hT hR) (s_obj (show 0 < 1 by decide) rfl) (hcat := Nat.le_of_ble_eq_true rfl) (k := ?_)
    rintro v2 G2 ⟨S2, rfl, rfl, rfl⟩
    refine srnX8_check C Rt [38] 40 ?_
    simp only [k_i, s_go, s_1, e_op, e_pi, e_pl, e_pr, e_p0, e_li, e_ll, e_lr, e_lk, e_ins, e_rm, e_to, e_sw, e_cmp, k_c, k_n, k_f, k_v, k_lg, ↓reduceIte, reduceCtorEq, Nat.reduceAdd, Nat.reduceSub, Nat.reduceMul, Nat.reduceEqDiff, Nat.reduceLT, Nat.reduceLeDiff, Int.reduceAdd, Int.reduceSub, Int.reduceNeg, Int.reduceLE, Int.reduceLT, Int.reduceToNat, Int.reduceEq, Int.cast_ofNat_Int, List.mem_cons, List.not_mem_nil, List.length_cons, List.length_nil, List.set_cons_zero, List.set_cons_succ, List.toList_toArray, eq_self, true_and, and_true, and_self, or_true, true_or, false_or, or_false, or_self, not_true_eq_false, not_false_eq_true, Classical.not_not, true_implies, false_implies, implies_true, forall_const, and_false, false_and, Nat.le_refl, Nat.zero_le, Bool.false_eq_true, lv_args, s_rl_at, s_gf, s_pf, dn_q, kd_q, cl_q, nf_q, ln_q, tg_q, rr_q, cr_q, u_1, e_lsw, k_ti, List.drop_succ_cons, List.drop_zero, List.drop_nil, List.zip_cons_cons, List.zip_nil_right, List.zip_nil_left, List.all_cons, List.all_nil, Bool.and_true, Bool.and_self, decide_true, decide_false, Option.toList, List.cons_append, List.nil_append, List.append_nil, DX8_check_0, DX8_check_1, DX8_check_2, FLX8, LDX8]
    have hF2 : ∀ i, i < n → rF (usM T S f) S i := fun i hi => rF_uX (by omega) (hR.2 i hi)
    have hT2 : rT (usM T S f) S := rT_uX (by decide) (by decide) hT
    obtain ⟨f1, f2, f3, f4, f5, f6, f7, f8⟩ := hR.2 f hf
    refine lp_X8_check (T := usM T S f) (S := S) C Rt hn hf hwf hF2 (fun j hj => ?_) ?_ (fcC S f) 0 (by omega)
    · show bX (UC S (f + 1)) (f + 1) (T.1 51 0) j = _
      unfold bX
      rw [if_pos (by omega)]
    · have h153 : ∀ hb : Bool, hb = holdsC S f → drC S f = false → allB (UC S f) (onC S f) (fcC S f) = true → V 0 0 153 [(0, .ref (ad A 30 0)), (1, .int (nI f)), (2, .int (b2i (allB (UC S f) (onC S f) (fcC S f)))), (3, .long (svs (fun j => S.2.1 6 j 1) (onC S f) (fcC S f))), (5, .int (nI (fcC S f)))] [.int (b2i hb)] (gS A (usM T S f)) := by
        intro hb hhb hdr hal
        refine srnX8_check C Rt [] 40 ?_
        simp only [k_i, s_go, s_1, e_op, e_pi, e_pl, e_pr, e_p0, e_li, e_ll, e_lr, e_lk, e_ins, e_rm, e_to, e_sw, e_cmp, k_c, k_n, k_f, k_v, k_lg, ↓reduceIte, reduceCtorEq, Nat.reduceAdd, Nat.reduceSub, Nat.reduceMul, Nat.reduceEqDiff, Nat.reduceLT, Nat.reduceLeDiff, Int.reduceAdd, Int.reduceSub, Int.reduceNeg, Int.reduceLE, Int.reduceLT, Int.reduceToNat, Int.reduceEq, Int.cast_ofNat_Int, List.mem_cons, List.not_mem_nil, List.length_cons, List.length_nil, List.set_cons_zero, List.set_cons_succ, List.toList_toArray, eq_self, true_and, and_true, and_self, or_true, true_or, false_or, or_false, or_self, not_true_eq_false, not_false_eq_true, Classical.not_not, true_implies, false_implies, implies_true, forall_const, and_false, false_and, Nat.le_refl, Nat.zero_le, Bool.false_eq_true, lv_args, s_rl_at, s_gf, s_pf, dn_q, kd_q, cl_q, nf_q, ln_q, tg_q, rr_q, cr_q, u_1, e_lsw, k_ti, List.drop_succ_cons, List.drop_zero, List.drop_nil, List.zip_cons_cons, List.zip_nil_right, List.zip_nil_left, List.all_cons, List.all_nil, Bool.and_true, Bool.and_self, decide_true, decide_false, Option.toList, List.cons_append, List.nil_append, List.append_nil, DX8_check_0, DX8_check_1, DX8_check_2, FLX8, LDX8, uX_1, uX_2, x_cl (a := f) (by omega), x_in (a := f) (n := 60) (by omega), b2i_0, b2i_n]
        cases hb with
        | false =>
          simp [show f < 60 by omega, isP, chkC, chkM, hd, hx, eN, hdr, hal, ← hhb, b2i]
        | true =>
          simp [show f < 60 by omega, isP, chkC, chkM, hd, hx, eN, hdr, hal, ← hhb, b2i]
      refine srnX8_check C Rt [153] 40 ?_
      simp only [k_i, s_go, s_1, e_op, e_pi, e_pl, e_pr, e_p0, e_li, e_ll, e_lr, e_lk, e_ins, e_rm, e_to, e_sw, e_cmp, k_c, k_n, k_f, k_v, k_lg, ↓reduceIte, reduceCtorEq, Nat.reduceAdd, Nat.reduceSub, Nat.reduceMul, Nat.reduceEqDiff, Nat.reduceLT, Nat.reduceLeDiff, Int.reduceAdd, Int.reduceSub, Int.reduceNeg, Int.reduceLE, Int.reduceLT, Int.reduceToNat, Int.reduceEq, Int.cast_ofNat_Int, List.mem_cons, List.not_mem_nil, List.length_cons, List.length_nil, List.set_cons_zero, List.set_cons_succ, List.toList_toArray, eq_self, true_and, and_true, and_self, or_true, true_or, false_or, or_false, or_self, not_true_eq_false, not_false_eq_true, Classical.not_not, true_implies, false_implies, implies_true, forall_const, and_false, false_and, Nat.le_refl, Nat.zero_le, Bool.false_eq_true, lv_args, s_rl_at, s_gf, s_pf, dn_q, kd_q, cl_q, nf_q, ln_q, tg_q, rr_q, cr_q, u_1, e_lsw, k_ti, List.drop_succ_cons, List.drop_zero, List.drop_nil, List.zip_cons_cons, List.zip_nil_right, List.zip_nil_left, List.all_cons, List.all_nil, Bool.and_true, Bool.and_self, decide_true, decide_false, Option.toList, List.cons_append, List.nil_append, List.append_nil, DX8_check_0, DX8_check_1, DX8_check_2, FLX8, LDX8, uX_1, uX_2, u_1, x_cl (a := f) (by omega), x_in (a := f) (n := 60) (by omega), f1, f2, f8, b2i_0]
      have bad : (drC S f = true ∨ allB (UC S f) (onC S f) (fcC S f) = false) → isP ((chkC S n (nI f)).1, chkM T S n (nI f)) (some (.int (-2))) (usM T S f) := by
        intro hb
        simp only [isP, chkC, chkM, hd, hx, eN, hb, not_true_eq_false, if_false, if_true, Bool.true_eq_false]
        simp
      refine ⟨by omega, fun h => bad (Or.inl (by simp [drC, h])), fun h => ⟨fun h2 => ⟨by omega, fun h3 => ?_, fun h3 => ⟨by omega, fun h4 => ?_, fun h4 => ?_⟩⟩, fun h2 => bad (Or.inr h2)⟩⟩
      · have hdr : drC S f = false := by simp [drC, h]
        refine sX8_check_150 C (m_X8_isFresh l A _ S (by omega) hwf hT2 (hF2 f hf)) (s_obj (show 0 < 1 by decide) rfl) (hcat := Nat.le_of_ble_eq_true rfl) (k := ?_)
        rintro v2 G2 ⟨S2, rfl, rfl, rfl⟩
        exact h153 _ (by simp [holdsC, h3]) hdr (nft h2)
      · have hdr : drC S f = false := by simp [drC, h]
        have h5 : ¬ svs (fun j => S.2.1 6 j 1) (onC S f) (fcC S f) = S.2.1 6 f 1 := fun z => h4 z.symm
        exact h153 false (by simp [holdsC, h3, h5]) hdr (nft h2)
      · have hdr : drC S f = false := by simp [drC, h]
        exact h153 true (by simp [holdsC, h3, h4.symm]) hdr (nft h2)
