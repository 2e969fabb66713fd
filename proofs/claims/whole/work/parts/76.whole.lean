/-! the reference: isWhole, generationOf -/
theorem oS_i {T : pS} {x : Int32} : uI T 30 0 32 x = oS T x (T.1 30 0 33) (T.2.1 30 0 34) := by
  refine Prod.ext ?_ (Prod.ext ?_ rfl)
  · funext k' i' j'
    simp only [u_1, oS_1]
    by_cases h : k' = 30 ∧ i' = 0 ∧ j' = 33
    · obtain ⟨rfl, rfl, rfl⟩ := h
      simp
    · simp [h]
  · funext k' i' j'
    simp only [u_1, oS_2]
    by_cases h : k' = 30 ∧ i' = 0 ∧ j' = 34
    · obtain ⟨rfl, rfl, rfl⟩ := h
      simp
    · simp [h]
theorem oS_oS {T : pS} {a g a2 g2 : Int32} {s s2 : Int64} : oS (oS T a g s) a2 g2 s2 = oS T a2 g2 s2 := by
  refine Prod.ext ?_ (Prod.ext ?_ rfl)
  · funext k' i' j'
    simp only [oS_1]
    by_cases h : k' = 30 ∧ i' = 0 ∧ j' = 32
    · simp [h]
    · by_cases h2 : k' = 30 ∧ i' = 0 ∧ j' = 33
      · simp [h2]
      · simp [h, h2]
  · funext k' i' j'
    simp only [oS_2]
    by_cases h : k' = 30 ∧ i' = 0 ∧ j' = 34
    · simp [h]
    · simp [h]
theorem nat4 {d : Nat → Int32} {a : Nat} (hb : ∀ i, i < 4 → dN d (a + i) < 256 ∧ d (a + i) = nI (dN d (a + i))) : (60 < nat_ d a 4 ∧ ((nat_ d a 4).toInt32 < 0 ∨ 60 < (nat_ d a 4).toInt32)) ∨ ∃ q : Nat, q ≤ 60 ∧ nat_ d a 4 = (nI q).toInt64 ∧ (nat_ d a 4).toInt32 = nI q := by
  obtain ⟨N, hN⟩ : ∃ N, nat_ d a 4 = N := ⟨_, rfl⟩
  have hlt : N.toBitVec.toNat < 2 ^ 32 := by
    apply Nat.lt_pow_two_of_testBit
    intro i hi
    by_cases h64 : i < 64
    · have := bit_nat hb h64
      rw [if_neg (by omega), hN] at this
      exact this
    · exact Nat.testBit_lt_two_pow (Nat.lt_of_lt_of_le N.toBitVec.isLt (Nat.pow_le_pow_right (by omega) (by omega)))
  rw [hN]
  obtain ⟨w, hw⟩ : ∃ w, N.toBitVec.toNat = w := ⟨_, rfl⟩
  rw [hw] at hlt
  by_cases h60 : w ≤ 60
  · right
    have e1 : N = (nI w).toInt64 := by
      rw [← Int64.toBitVec_inj, by_J w (by omega), ← hw]
      apply BitVec.eq_of_toNat_eq
      rw [BitVec.toNat_ofNat, Nat.mod_eq_of_lt (by omega)]
    exact ⟨w, h60, e1, by rw [e1, Int32.toInt32_toInt64]⟩
  · left
    have e1 : N.toInt = w := by
      show N.toBitVec.toInt = w
      rw [BitVec.toInt_eq_toNat_of_lt (by omega), hw]
    have e2 : N.toInt32.toInt = (w : Int).bmod (2 ^ 32) := by
      rw [Int64.toInt_toInt32, e1]
    rw [Int64.lt_iff_toInt_lt, Int32.lt_iff_toInt_lt, Int32.lt_iff_toInt_lt, e1, e2, Int.bmod_def]
    have c1 : (60 : Int64).toInt = 60 := by decide
    have c2 : (60 : Int32).toInt = 60 := by decide
    have c3 : (0 : Int32).toInt = 0 := by decide
    rw [c1, c2, c3]
    omega
/-- what the class's reading of rows gives -/
def opK (S : pS) : Prop := (op1 S).2.1 ≤ 60 ∧ ((op1 S).2.1 < 60 → ¬ rokI (S.1 12 0) (op1 S).2.1) ∧ (∀ i, i < (op1 S).2.1 → rokI (S.1 12 0) i ∧ kRow (S.1 12 0) i (op1 S).1) ∧ ∀ j, j ≤ (op1 S).2.1 → (op1 S).1.1 15 0 j = nI (rwE (S.1 12 0) j).1 ∧ (op1 S).1.2.1 16 0 j = (rwE (S.1 12 0) j).2
theorem op_K {S : pS} (hB : bB (S.1 12 0)) : opK S := by
  refine rrw_row hB (k := 60) (r := 0) (S := op0 S) rfl (fun i hi => by omega) (fun j hj => ?_) (op1 S) rfl
  have hj0 : j = 0 := by omega
  subst hj0
  exact ⟨rfl, rfl⟩
theorem i64_eq {a b : Nat} (ha : a < 2147483648) (hb : b < 2147483648) : ((nI a).toInt64 = (nI b).toInt64) ↔ a = b := by
  constructor
  · intro h
    have h2 := congrArg Int64.toInt32 h
    rw [Int32.toInt32_toInt64, Int32.toInt32_toInt64] at h2
    exact (x_eq ha hb).mp h2
  · intro h
    rw [h]
theorem i64_le {a b : Nat} (ha : a < 2147483648) (hb : b < 2147483648) : ((nI a).toInt64 ≤ (nI b).toInt64) ↔ a ≤ b := by
  rw [Int64.le_iff_toInt_le, i64_toInt, i64_toInt, nI_toInt ha, nI_toInt hb]
  omega
/-- a head's first wrong row: the reference finds it by its own count, the class by that of all right rows -/
theorem fw_min {S : pS} {q w : Nat} (hK : opK S) (hw : w ≤ 60) (h1 : q ≤ w) (h2 : ∀ i, i < q → rokI (S.1 12 0) i) (h3 : q < w → ¬ rokI (S.1 12 0) q) : (q < w ∧ q = (op1 S).2.1) ∨ (q = w ∧ w ≤ (op1 S).2.1) := by
  obtain ⟨k1, k2, k3, -⟩ := hK
  obtain ⟨R, hR⟩ : ∃ R, (op1 S).2.1 = R := ⟨_, rfl⟩
  rw [hR] at k1 k2 k3 ⊢
  by_cases hq : q < w
  · left
    refine ⟨hq, ?_⟩
    have a1 : ¬ q < R := fun z => h3 hq (k3 q z).1
    have a2 : ¬ R < q := fun z => k2 (by omega) (h2 R z)
    omega
  · right
    refine ⟨by omega, ?_⟩
    have a2 : ¬ R < q := fun z => k2 (by omega) (h2 R z)
    omega
section
variable {V : pV} {l : Launch} {A : pA} {post : Option Value → pS → Prop} {T : pS}
set_option maxHeartbeats 4000000 in
set_option maxRecDepth 100000 in
theorem lp_X8_isWhole (C : e_CX8_isWhole V l) (Rt : e_RX8_isWhole V (s_P A post)) {d : Nat → Int32} {h q : Nat} {N s : Int64} (hd : T.1 52 0 = d) (hh : h < 2) (hx : V 0 0 122 [(0, .ref (ad A 30 0)), (1, .int (nI h)), (2, .long N), (4, .int (nI q)), (5, .long (swd d (3500 + h * 16) s 8))] [] (gS A T)) : ∀ k i, i + k = 8 → V 0 0 86 [(0, .ref (ad A 30 0)), (1, .int (nI h)), (2, .long N), (4, .int (nI q)), (5, .long (swd d (3500 + h * 16) s i)), (7, .int (nI i))] [] (gS A T) := by
  intro k
  induction k with
  | zero =>
    intro i hi
    have hi2 : i = 8 := by omega
    subst hi2
    refine srnX8_isWhole C Rt [86, 122] 40 ?_
    simp only [k_i, s_go, s_1, e_op, e_pi, e_pl, e_pr, e_p0, e_li, e_ll, e_lr, e_lk, e_ins, e_rm, e_to, e_sw, e_cmp, k_c, k_n, k_f, k_v, k_lg, ↓reduceIte, reduceCtorEq, Nat.reduceAdd, Nat.reduceSub, Nat.reduceMul, Nat.reduceEqDiff, Nat.reduceLT, Nat.reduceLeDiff, Int.reduceAdd, Int.reduceSub, Int.reduceNeg, Int.reduceLE, Int.reduceLT, Int.reduceToNat, Int.reduceEq, Int.cast_ofNat_Int, List.mem_cons, List.not_mem_nil, List.length_cons, List.length_nil, List.set_cons_zero, List.set_cons_succ, List.toList_toArray, eq_self, true_and, and_true, and_self, or_true, true_or, false_or, or_false, or_self, not_true_eq_false, not_false_eq_true, Classical.not_not, true_implies, false_implies, implies_true, forall_const, and_false, false_and, Nat.le_refl, Nat.zero_le, Bool.false_eq_true, lv_args, s_rl_at, s_gf, s_pf, dn_q, kd_q, cl_q, nf_q, ln_q, tg_q, rr_q, cr_q, u_1, e_lsw, k_ti, List.drop_succ_cons, List.drop_zero, List.drop_nil, List.zip_cons_cons, List.zip_nil_right, List.zip_nil_left, List.all_cons, List.all_nil, Bool.and_true, Bool.and_self, decide_true, decide_false, Option.toList, List.cons_append, List.nil_append, List.append_nil, DX8_isWhole_0, DX8_isWhole_1, DX8_isWhole_2, FLX8, LDX8, (show (8 : Int32) = nI 8 from rfl), x_le (a := 8) (b := 8) (by omega) (by omega)]
    exact w_pre C hx
  | succ k ih =>
    intro i hi
    have e16 : 3500 + 16 * h + i = 3500 + h * 16 + i := by omega
    refine srnX8_isWhole C Rt [86, 122] 40 ?_
    simp only [k_i, s_go, s_1, e_op, e_pi, e_pl, e_pr, e_p0, e_li, e_ll, e_lr, e_lk, e_ins, e_rm, e_to, e_sw, e_cmp, k_c, k_n, k_f, k_v, k_lg, ↓reduceIte, reduceCtorEq, Nat.reduceAdd, Nat.reduceSub, Nat.reduceMul, Nat.reduceEqDiff, Nat.reduceLT, Nat.reduceLeDiff, Int.reduceAdd, Int.reduceSub, Int.reduceNeg, Int.reduceLE, Int.reduceLT, Int.reduceToNat, Int.reduceEq, Int.cast_ofNat_Int, List.mem_cons, List.not_mem_nil, List.length_cons, List.length_nil, List.set_cons_zero, List.set_cons_succ, List.toList_toArray, eq_self, true_and, and_true, and_self, or_true, true_or, false_or, or_false, or_self, not_true_eq_false, not_false_eq_true, Classical.not_not, true_implies, false_implies, implies_true, forall_const, and_false, false_and, Nat.le_refl, Nat.zero_le, Bool.false_eq_true, lv_args, s_rl_at, s_gf, s_pf, dn_q, kd_q, cl_q, nf_q, ln_q, tg_q, rr_q, cr_q, u_1, e_lsw, k_ti, List.drop_succ_cons, List.drop_zero, List.drop_nil, List.zip_cons_cons, List.zip_nil_right, List.zip_nil_left, List.all_cons, List.all_nil, Bool.and_true, Bool.and_self, decide_true, decide_false, Option.toList, List.cons_append, List.nil_append, List.append_nil, DX8_isWhole_0, DX8_isWhole_1, DX8_isWhole_2, FLX8, LDX8, hd, (show (8 : Int32) = nI 8 from rfl), x_le (a := 8) (b := i) (by omega) (by omega), (show (3500 : Int32) = nI 3500 from rfl), (show (16 : Int32) = nI 16 from rfl), pk_mul, nI_add, x_cl (a := 3500 + h * 16 + i) (by omega), x_in (a := 3500 + h * 16 + i) (n := 3532) (by omega), e16]
    refine ⟨fun h => by omega, fun _ => ⟨by omega, ?_⟩⟩
    refine sX8_isWhole_111 C (m_X8_sumWith l _ _ _) (hcat := Nat.le_of_ble_eq_true rfl) (k := ?_)
    rintro v2 G2 ⟨rfl, rfl⟩
    refine srnX8_isWhole C Rt [86, 122] 40 ?_
    simp only [k_i, s_go, s_1, e_op, e_pi, e_pl, e_pr, e_p0, e_li, e_ll, e_lr, e_lk, e_ins, e_rm, e_to, e_sw, e_cmp, k_c, k_n, k_f, k_v, k_lg, ↓reduceIte, reduceCtorEq, Nat.reduceAdd, Nat.reduceSub, Nat.reduceMul, Nat.reduceEqDiff, Nat.reduceLT, Nat.reduceLeDiff, Int.reduceAdd, Int.reduceSub, Int.reduceNeg, Int.reduceLE, Int.reduceLT, Int.reduceToNat, Int.reduceEq, Int.cast_ofNat_Int, List.mem_cons, List.not_mem_nil, List.length_cons, List.length_nil, List.set_cons_zero, List.set_cons_succ, List.toList_toArray, eq_self, true_and, and_true, and_self, or_true, true_or, false_or, or_false, or_self, not_true_eq_false, not_false_eq_true, Classical.not_not, true_implies, false_implies, implies_true, forall_const, and_false, false_and, Nat.le_refl, Nat.zero_le, Bool.false_eq_true, lv_args, s_rl_at, s_gf, s_pf, dn_q, kd_q, cl_q, nf_q, ln_q, tg_q, rr_q, cr_q, u_1, e_lsw, k_ti, List.drop_succ_cons, List.drop_zero, List.drop_nil, List.zip_cons_cons, List.zip_nil_right, List.zip_nil_left, List.all_cons, List.all_nil, Bool.and_true, Bool.and_self, decide_true, decide_false, Option.toList, List.cons_append, List.nil_append, List.append_nil, DX8_isWhole_0, DX8_isWhole_1, DX8_isWhole_2, FLX8, LDX8, nI_1]
    exact ih (i + 1) (by omega)
end
set_option maxHeartbeats 4000000 in
set_option maxRecDepth 100000 in
theorem m_X8_isWhole (l : Launch) (A : pA) (T S : pS) {h : Nat} (hd : T.1 52 0 = S.1 12 0) (hB : bB (S.1 12 0)) (hh : h < 2) : e_MX8_isWhole l [.ref (ad A 30 0), .int (nI h)] (gS A T) (s_P A (fun v S2 => ∃ a g s, S2 = oS (uI T 58 0 h (opw S h)) a g s ∧ v = some (.int (b2i (opW S h))))) := by
  have hK := op_K hB
  have e16 : 16 * h = h * 16 := Nat.mul_comm _ _
  refine ofX8_isWhole (Nat.le_of_ble_eq_true rfl) ?_
  intro V C Rt
  refine srnX8_isWhole C Rt [] 20 ?_
  simp only [k_i, s_go, s_1, e_op, e_pi, e_pl, e_pr, e_p0, e_li, e_ll, e_lr, e_lk, e_ins, e_rm, e_to, e_sw, e_cmp, k_c, k_n, k_f, k_v, k_lg, ↓reduceIte, reduceCtorEq, Nat.reduceAdd, Nat.reduceSub, Nat.reduceMul, Nat.reduceEqDiff, Nat.reduceLT, Nat.reduceLeDiff, Int.reduceAdd, Int.reduceSub, Int.reduceNeg, Int.reduceLE, Int.reduceLT, Int.reduceToNat, Int.reduceEq, Int.cast_ofNat_Int, List.mem_cons, List.not_mem_nil, List.length_cons, List.length_nil, List.set_cons_zero, List.set_cons_succ, List.toList_toArray, eq_self, true_and, and_true, and_self, or_true, true_or, false_or, or_false, or_self, not_true_eq_false, not_false_eq_true, Classical.not_not, true_implies, false_implies, implies_true, forall_const, and_false, false_and, Nat.le_refl, Nat.zero_le, Bool.false_eq_true, lv_args, s_rl_at, s_gf, s_pf, dn_q, kd_q, cl_q, nf_q, ln_q, tg_q, rr_q, cr_q, u_1, e_lsw, k_ti, List.drop_succ_cons, List.drop_zero, List.drop_nil, List.zip_cons_cons, List.zip_nil_right, List.zip_nil_left, List.all_cons, List.all_nil, Bool.and_true, Bool.and_self, decide_true, decide_false, Option.toList, List.cons_append, List.nil_append, List.append_nil, DX8_isWhole_0, DX8_isWhole_1, DX8_isWhole_2, FLX8, LDX8, (show (3500 : Int32) = nI 3500 from rfl), (show (16 : Int32) = nI 16 from rfl), (show (4 : Int32) = nI 4 from rfl), pk_mul, nI_add, e16]
  rw [oS_i]
  refine sX8_isWhole_16 C (m_X8_bytesAt l A (oS T (nI (3500 + h * 16 + 4)) (T.1 30 0 33) (T.2.1 30 0 34)) (a := 3500 + h * 16 + 4) (n := 4) (by omega) rfl) (s_obj (show 0 < 1 by decide) rfl) (hcat := Nat.le_of_ble_eq_true rfl) (k := ?_)
  rintro v2 G2 ⟨S2, rfl, rfl, rfl⟩
  rw [oS_a, oS_d, hd]
  have hcase := nat4 (d := S.1 12 0) (a := 3500 + h * 16 + 4) (fun i hi => bB_n hB (by omega))
  obtain ⟨N, hN⟩ : ∃ N, nat_ (S.1 12 0) (3500 + h * 16 + 4) 4 = N := ⟨_, rfl⟩
  have hrw : rwO (S.1 12 0) h = N.toInt32 := by rw [← hN]
  rw [hN] at hcase ⊢
  have ew : opw S h = wrO N.toInt32 (op1 S).2.1 := by unfold opw; rw [hrw]
  rcases hcase with ⟨c1, c2⟩ | ⟨w, hw60, c1, c2⟩
  · have e60 : opw S h = 60 := by rw [ew]; unfold wrO; rw [if_pos c2]
    have eW : opW S h = false := by
      unfold opW
      rw [e60]
      exact decide_eq_false (fun z => absurd z.1 (by decide))
    have hle : ¬ N ≤ 60 := Int64.not_le.mpr c1
    refine srnX8_isWhole C Rt [] 20 ?_
    simp only [k_i, s_go, s_1, e_op, e_pi, e_pl, e_pr, e_p0, e_li, e_ll, e_lr, e_lk, e_ins, e_rm, e_to, e_sw, e_cmp, k_c, k_n, k_f, k_v, k_lg, ↓reduceIte, reduceCtorEq, Nat.reduceAdd, Nat.reduceSub, Nat.reduceMul, Nat.reduceEqDiff, Nat.reduceLT, Nat.reduceLeDiff, Int.reduceAdd, Int.reduceSub, Int.reduceNeg, Int.reduceLE, Int.reduceLT, Int.reduceToNat, Int.reduceEq, Int.cast_ofNat_Int, List.mem_cons, List.not_mem_nil, List.length_cons, List.length_nil, List.set_cons_zero, List.set_cons_succ, List.toList_toArray, eq_self, true_and, and_true, and_self, or_true, true_or, false_or, or_false, or_self, not_true_eq_false, not_false_eq_true, Classical.not_not, true_implies, false_implies, implies_true, forall_const, and_false, false_and, Nat.le_refl, Nat.zero_le, Bool.false_eq_true, lv_args, s_rl_at, s_gf, s_pf, dn_q, kd_q, cl_q, nf_q, ln_q, tg_q, rr_q, cr_q, u_1, e_lsw, k_ti, List.drop_succ_cons, List.drop_zero, List.drop_nil, List.zip_cons_cons, List.zip_nil_right, List.zip_nil_left, List.all_cons, List.all_nil, Bool.and_true, Bool.and_self, decide_true, decide_false, Option.toList, List.cons_append, List.nil_append, List.append_nil, DX8_isWhole_0, DX8_isWhole_1, DX8_isWhole_2, FLX8, LDX8, hle, x_cl (a := h) (by omega), x_in (a := h) (n := 2) (by omega)]
    refine ⟨by omega, ?_⟩
    rw [oS_uI (by decide)]
    refine ⟨_, _, _, by rw [e60], by rw [eW]; rfl⟩
  · have hle : (nI w).toInt64 ≤ 60 := (i64_le (a := w) (b := 60) (by omega) (by omega)).mpr hw60
    rw [c1]
    rw [c2] at ew hrw
    refine srnX8_isWhole C Rt [] 20 ?_
    simp only [k_i, s_go, s_1, e_op, e_pi, e_pl, e_pr, e_p0, e_li, e_ll, e_lr, e_lk, e_ins, e_rm, e_to, e_sw, e_cmp, k_c, k_n, k_f, k_v, k_lg, ↓reduceIte, reduceCtorEq, Nat.reduceAdd, Nat.reduceSub, Nat.reduceMul, Nat.reduceEqDiff, Nat.reduceLT, Nat.reduceLeDiff, Int.reduceAdd, Int.reduceSub, Int.reduceNeg, Int.reduceLE, Int.reduceLT, Int.reduceToNat, Int.reduceEq, Int.cast_ofNat_Int, List.mem_cons, List.not_mem_nil, List.length_cons, List.length_nil, List.set_cons_zero, List.set_cons_succ, List.toList_toArray, eq_self, true_and, and_true, and_self, or_true, true_or, false_or, or_false, or_self, not_true_eq_false, not_false_eq_true, Classical.not_not, true_implies, false_implies, implies_true, forall_const, and_false, false_and, Nat.le_refl, Nat.zero_le, Bool.false_eq_true, lv_args, s_rl_at, s_gf, s_pf, dn_q, kd_q, cl_q, nf_q, ln_q, tg_q, rr_q, cr_q, u_1, e_lsw, k_ti, List.drop_succ_cons, List.drop_zero, List.drop_nil, List.zip_cons_cons, List.zip_nil_right, List.zip_nil_left, List.all_cons, List.all_nil, Bool.and_true, Bool.and_self, decide_true, decide_false, Option.toList, List.cons_append, List.nil_append, List.append_nil, DX8_isWhole_0, DX8_isWhole_1, DX8_isWhole_2, FLX8, LDX8, hle, Int32.toInt32_toInt64]
    refine sX8_isWhole_41 C (m_X8_firstWrong l A (oS T (nI (3500 + h * 16 + 4 + 4)) (T.1 30 0 33) (T.2.1 30 0 34)) (d := S.1 12 0) (n := w) hd hB hw60) (s_obj (show 0 < 1 by decide) rfl) (hcat := Nat.le_of_ble_eq_true rfl) (k := ?_)
    rintro v2 G2 ⟨S2, rfl, q, a, ⟨h1, h2, h3⟩, rfl, rfl⟩
    rw [oS_oS]
    have hm := fw_min hK hw60 h1 h2 h3
    refine srnX8_isWhole C Rt [86] 40 ?_
    simp only [k_i, s_go, s_1, e_op, e_pi, e_pl, e_pr, e_p0, e_li, e_ll, e_lr, e_lk, e_ins, e_rm, e_to, e_sw, e_cmp, k_c, k_n, k_f, k_v, k_lg, ↓reduceIte, reduceCtorEq, Nat.reduceAdd, Nat.reduceSub, Nat.reduceMul, Nat.reduceEqDiff, Nat.reduceLT, Nat.reduceLeDiff, Int.reduceAdd, Int.reduceSub, Int.reduceNeg, Int.reduceLE, Int.reduceLT, Int.reduceToNat, Int.reduceEq, Int.cast_ofNat_Int, List.mem_cons, List.not_mem_nil, List.length_cons, List.length_nil, List.set_cons_zero, List.set_cons_succ, List.toList_toArray, eq_self, true_and, and_true, and_self, or_true, true_or, false_or, or_false, or_self, not_true_eq_false, not_false_eq_true, Classical.not_not, true_implies, false_implies, implies_true, forall_const, and_false, false_and, Nat.le_refl, Nat.zero_le, Bool.false_eq_true, lv_args, s_rl_at, s_gf, s_pf, dn_q, kd_q, cl_q, nf_q, ln_q, tg_q, rr_q, cr_q, u_1, e_lsw, k_ti, List.drop_succ_cons, List.drop_zero, List.drop_nil, List.zip_cons_cons, List.zip_nil_right, List.zip_nil_left, List.all_cons, List.all_nil, Bool.and_true, Bool.and_self, decide_true, decide_false, Option.toList, List.cons_append, List.nil_append, List.append_nil, DX8_isWhole_0, DX8_isWhole_1, DX8_isWhole_2, FLX8, LDX8, oS_1, oS_2, oS_3, i64_eq (a := q) (b := w) (by omega) (by omega), i64_le (a := w) (b := q) (by omega) (by omega), x_cl (a := h) (by omega), x_in (a := h) (n := 2) (by omega)]
    have hwr : opw S h = if (op1 S).2.1 < w then nI (op1 S).2.1 else -4 := by
      rw [ew]
      unfold wrO
      have hR := hK.1
      rw [if_neg]
      · by_cases hRw : (op1 S).2.1 < w
        · rw [if_pos hRw, if_pos ((x_lt (by omega) (by omega)).mpr hRw)]
        · rw [if_neg hRw, if_neg (fun z => hRw ((x_lt (by omega) (by omega)).mp z))]
      · rintro (z | z)
        · exact nI_pos (by omega) z
        · exact nI_nlt (a := 60) (b := w) hw60 (by omega) z
    rw [oS_uI (by decide), oS_uI (by decide)]
    refine ⟨fun h4 => ⟨by omega, fun h5 => by omega, fun h5 => ?_⟩, fun h4 => ⟨by omega, fun _ => ?_, fun h5 => by omega⟩⟩
    · have hq : q = (op1 S).2.1 ∧ (op1 S).2.1 < w := by omega
      rw [if_pos hq.2, ← hq.1] at hwr
      have eW : opW S h = false := by
        unfold opW
        rw [hwr]
        exact decide_eq_false (fun z => absurd z.1 (fun z2 => by
          have z3 := congrArg Int32.toInt z2
          rw [nI_toInt (by omega)] at z3
          have z4 : ((-4 : Int32)).toInt = -4 := by decide
          omega))
      refine ⟨_, _, _, by rw [hwr], by rw [eW]; rfl⟩
    · subst h4
      have hq : q ≤ (op1 S).2.1 := by omega
      rw [if_neg (by omega)] at hwr
      have h16 := (hK.2.2.2 q hq).2
      have eW : opW S h = decide (nat_ (S.1 12 0) (3500 + h * 16 + 8) 8 = swd (S.1 12 0) (3500 + h * 16) (rwE (S.1 12 0) q).2 8) := by
        unfold opW
        rw [hwr, hrw, nN_nI (by omega), h16]
        apply decide_eq_decide.mpr
        exact ⟨fun z => z.2.symm, fun z => ⟨rfl, z.symm⟩⟩
      refine lp_X8_isWhole (T := oS (uI T 58 0 h (-4)) a (nI (rwE (S.1 12 0) q).1) (rwE (S.1 12 0) q).2) (s := (rwE (S.1 12 0) q).2) C Rt hd hh ?_ 8 0 (by omega)
      refine srnX8_isWhole C Rt [] 40 ?_
      simp only [k_i, s_go, s_1, e_op, e_pi, e_pl, e_pr, e_p0, e_li, e_ll, e_lr, e_lk, e_ins, e_rm, e_to, e_sw, e_cmp, k_c, k_n, k_f, k_v, k_lg, ↓reduceIte, reduceCtorEq, Nat.reduceAdd, Nat.reduceSub, Nat.reduceMul, Nat.reduceEqDiff, Nat.reduceLT, Nat.reduceLeDiff, Int.reduceAdd, Int.reduceSub, Int.reduceNeg, Int.reduceLE, Int.reduceLT, Int.reduceToNat, Int.reduceEq, Int.cast_ofNat_Int, List.mem_cons, List.not_mem_nil, List.length_cons, List.length_nil, List.set_cons_zero, List.set_cons_succ, List.toList_toArray, eq_self, true_and, and_true, and_self, or_true, true_or, false_or, or_false, or_self, not_true_eq_false, not_false_eq_true, Classical.not_not, true_implies, false_implies, implies_true, forall_const, and_false, false_and, Nat.le_refl, Nat.zero_le, Bool.false_eq_true, lv_args, s_rl_at, s_gf, s_pf, dn_q, kd_q, cl_q, nf_q, ln_q, tg_q, rr_q, cr_q, u_1, e_lsw, k_ti, List.drop_succ_cons, List.drop_zero, List.drop_nil, List.zip_cons_cons, List.zip_nil_right, List.zip_nil_left, List.all_cons, List.all_nil, Bool.and_true, Bool.and_self, decide_true, decide_false, Option.toList, List.cons_append, List.nil_append, List.append_nil, DX8_isWhole_0, DX8_isWhole_1, DX8_isWhole_2, FLX8, LDX8, (show (3500 : Int32) = nI 3500 from rfl), (show (16 : Int32) = nI 16 from rfl), (show (8 : Int32) = nI 8 from rfl), pk_mul, nI_add, e16]
      rw [oS_a]
      refine sX8_isWhole_140 C (m_X8_bytesAt l A (oS (uI T 58 0 h (-4)) (nI (3500 + h * 16 + 8)) (nI (rwE (S.1 12 0) q).1) (rwE (S.1 12 0) q).2) (a := 3500 + h * 16 + 8) (n := 8) (by omega) rfl) (s_obj (show 0 < 1 by decide) rfl) (hcat := Nat.le_of_ble_eq_true rfl) (k := ?_)
      rintro v2 G2 ⟨S2, rfl, rfl, rfl⟩
      rw [oS_a, oS_d, show (uI T 58 0 h (-4)).1 52 0 = S.1 12 0 from hd]
      refine srnX8_isWhole C Rt [] 40 ?_
      simp only [k_i, s_go, s_1, e_op, e_pi, e_pl, e_pr, e_p0, e_li, e_ll, e_lr, e_lk, e_ins, e_rm, e_to, e_sw, e_cmp, k_c, k_n, k_f, k_v, k_lg, ↓reduceIte, reduceCtorEq, Nat.reduceAdd, Nat.reduceSub, Nat.reduceMul, Nat.reduceEqDiff, Nat.reduceLT, Nat.reduceLeDiff, Int.reduceAdd, Int.reduceSub, Int.reduceNeg, Int.reduceLE, Int.reduceLT, Int.reduceToNat, Int.reduceEq, Int.cast_ofNat_Int, List.mem_cons, List.not_mem_nil, List.length_cons, List.length_nil, List.set_cons_zero, List.set_cons_succ, List.toList_toArray, eq_self, true_and, and_true, and_self, or_true, true_or, false_or, or_false, or_self, not_true_eq_false, not_false_eq_true, Classical.not_not, true_implies, false_implies, implies_true, forall_const, and_false, false_and, Nat.le_refl, Nat.zero_le, Bool.false_eq_true, lv_args, s_rl_at, s_gf, s_pf, dn_q, kd_q, cl_q, nf_q, ln_q, tg_q, rr_q, cr_q, u_1, e_lsw, k_ti, List.drop_succ_cons, List.drop_zero, List.drop_nil, List.zip_cons_cons, List.zip_nil_right, List.zip_nil_left, List.all_cons, List.all_nil, Bool.and_true, Bool.and_self, decide_true, decide_false, Option.toList, List.cons_append, List.nil_append, List.append_nil, DX8_isWhole_0, DX8_isWhole_1, DX8_isWhole_2, FLX8, LDX8]
      rw [hwr, eW]
      refine ⟨fun z => ⟨_, _, _, rfl, by simp [z, b2i]⟩, fun z => ⟨_, _, _, rfl, by simp [z, b2i]⟩⟩
set_option maxHeartbeats 4000000 in
set_option maxRecDepth 100000 in
theorem m_X8_generationOf (l : Launch) (A : pA) (T : pS) {d : Nat → Int32} {h : Nat} (hd : T.1 52 0 = d) (hh : h < 2) : e_MX8_generationOf l [.ref (ad A 30 0), .int (nI h)] (gS A T) (s_P A (fun v S2 => S2 = uI T 30 0 32 (nI (3500 + h * 16 + 4)) ∧ v = some (.int (gnO d h)))) := by
  have e16 : 16 * h = h * 16 := Nat.mul_comm _ _
  refine ofX8_generationOf (Nat.le_of_ble_eq_true rfl) ?_
  intro V C Rt
  refine srnX8_generationOf C Rt [] 20 ?_
  simp only [k_i, s_go, s_1, e_op, e_pi, e_pl, e_pr, e_p0, e_li, e_ll, e_lr, e_lk, e_ins, e_rm, e_to, e_sw, e_cmp, k_c, k_n, k_f, k_v, k_lg, ↓reduceIte, reduceCtorEq, Nat.reduceAdd, Nat.reduceSub, Nat.reduceMul, Nat.reduceEqDiff, Nat.reduceLT, Nat.reduceLeDiff, Int.reduceAdd, Int.reduceSub, Int.reduceNeg, Int.reduceLE, Int.reduceLT, Int.reduceToNat, Int.reduceEq, Int.cast_ofNat_Int, List.mem_cons, List.not_mem_nil, List.length_cons, List.length_nil, List.set_cons_zero, List.set_cons_succ, List.toList_toArray, eq_self, true_and, and_true, and_self, or_true, true_or, false_or, or_false, or_self, not_true_eq_false, not_false_eq_true, Classical.not_not, true_implies, false_implies, implies_true, forall_const, and_false, false_and, Nat.le_refl, Nat.zero_le, Bool.false_eq_true, lv_args, s_rl_at, s_gf, s_pf, dn_q, kd_q, cl_q, nf_q, ln_q, tg_q, rr_q, cr_q, u_1, e_lsw, k_ti, List.drop_succ_cons, List.drop_zero, List.drop_nil, List.zip_cons_cons, List.zip_nil_right, List.zip_nil_left, List.all_cons, List.all_nil, Bool.and_true, Bool.and_self, decide_true, decide_false, Option.toList, List.cons_append, List.nil_append, List.append_nil, DX8_generationOf_0, FLX8, LDX8, (show (3500 : Int32) = nI 3500 from rfl), (show (16 : Int32) = nI 16 from rfl), (show (4 : Int32) = nI 4 from rfl), pk_mul, nI_add, e16]
  rw [oS_i]
  refine sX8_generationOf_14 C (m_X8_bytesAt l A (oS T (nI (3500 + h * 16)) (T.1 30 0 33) (T.2.1 30 0 34)) (a := 3500 + h * 16) (n := 4) (by omega) rfl) (s_obj (show 0 < 1 by decide) rfl) (hcat := Nat.le_of_ble_eq_true rfl) (k := ?_)
  rintro v2 G2 ⟨S2, rfl, rfl, rfl⟩
  rw [oS_a, oS_d, hd]
  refine srnX8_generationOf C Rt [] 20 ?_
  simp only [k_i, s_go, s_1, e_op, e_pi, e_pl, e_pr, e_p0, e_li, e_ll, e_lr, e_lk, e_ins, e_rm, e_to, e_sw, e_cmp, k_c, k_n, k_f, k_v, k_lg, ↓reduceIte, reduceCtorEq, Nat.reduceAdd, Nat.reduceSub, Nat.reduceMul, Nat.reduceEqDiff, Nat.reduceLT, Nat.reduceLeDiff, Int.reduceAdd, Int.reduceSub, Int.reduceNeg, Int.reduceLE, Int.reduceLT, Int.reduceToNat, Int.reduceEq, Int.cast_ofNat_Int, List.mem_cons, List.not_mem_nil, List.length_cons, List.length_nil, List.set_cons_zero, List.set_cons_succ, List.toList_toArray, eq_self, true_and, and_true, and_self, or_true, true_or, false_or, or_false, or_self, not_true_eq_false, not_false_eq_true, Classical.not_not, true_implies, false_implies, implies_true, forall_const, and_false, false_and, Nat.le_refl, Nat.zero_le, Bool.false_eq_true, lv_args, s_rl_at, s_gf, s_pf, dn_q, kd_q, cl_q, nf_q, ln_q, tg_q, rr_q, cr_q, u_1, e_lsw, k_ti, List.drop_succ_cons, List.drop_zero, List.drop_nil, List.zip_cons_cons, List.zip_nil_right, List.zip_nil_left, List.all_cons, List.all_nil, Bool.and_true, Bool.and_self, decide_true, decide_false, Option.toList, List.cons_append, List.nil_append, List.append_nil, DX8_generationOf_0, FLX8, LDX8]
  exact oS_i.symm
