/-! the reference: reads -/
/-- fact i of the reference is as row i of the disk says -/
def kRef (d : Nat → Int32) (i : Nat) (T : pS) : Prop := T.1 35 0 i = d (rwE d i).1 ∧ T.2.1 36 0 i = nat_ d ((rwE d i).1 + 1) 8 ∧ T.1 43 0 i = 0 ∧ T.1 44 0 i = 0 ∧ T.1 37 0 i = nI (dN d ((rwE d i).1 + 9)) ∧ T.1 41 0 i = nI (dN d (rP d (rwE d i).1)) ∧ (∀ z, z < dN d ((rwE d i).1 + 9) → T.1 38 0 (4 * i + z) = d ((rwE d i).1 + 10 + 9 * z) ∧ T.1 39 0 (4 * i + z) = (nat_ d ((rwE d i).1 + 10 + 9 * z + 1) 4).toInt32 ∧ T.1 40 0 (4 * i + z) = (nat_ d ((rwE d i).1 + 10 + 9 * z + 5) 4).toInt32) ∧ ∀ z, z < dN d (rP d (rwE d i).1) → T.1 42 0 (3 * i + z) = d (rP d (rwE d i).1 + 1 + z)
/-- all but the facts' tables and the place is kept -/
def kpT (T T2 : pS) : Prop := (∀ k i j, ¬ (35 ≤ k ∧ k ≤ 44) → ¬ (k = 30 ∧ j = 32) → T2.1 k i j = T.1 k i j) ∧ (∀ k i j, ¬ k = 36 → T2.2.1 k i j = T.2.1 k i j) ∧ T2.2.2 = T.2.2
theorem kpT_0 (T : pS) : kpT T T := ⟨fun _ _ _ _ _ => rfl, fun _ _ _ _ => rfl, rfl⟩
theorem kpT_u {T T2 : pS} {k j : Nat} {v : Int32} (hk : (35 ≤ k ∧ k ≤ 44) ∨ (k = 30 ∧ j = 32)) (h : kpT T T2) : kpT T (uI T2 k 0 j v) := by
  refine ⟨fun k' i' j' h1 h2 => ?_, h.2.1, h.2.2⟩
  simp only [u_1]
  rw [if_neg (by omega)]
  exact h.1 k' i' j' h1 h2
theorem kpT_j {T T2 : pS} {j : Nat} {v : Int64} (h : kpT T T2) : kpT T (uJ T2 36 0 j v) := by
  refine ⟨h.1, fun k' i' j' h1 => ?_, h.2.2⟩
  simp only [u_1]
  rw [if_neg (by omega)]
  exact h.2.1 k' i' j' h1
theorem kpT_d {T T2 : pS} (h : kpT T T2) : T2.1 52 0 = T.1 52 0 := by
  funext j
  exact h.1 52 0 j (by omega) (by omega)
/-- the first f facts are read, and fact f in part: what (a .. g) says of it -/
def kP (d : Nat → Int32) (T T2 : pS) (f : Nat) : Prop := kpT T T2 ∧ ∀ i, i < f → kRef d i T2
theorem kRef_u {d : Nat → Int32} {i k j : Nat} {v : Int32} {T : pS} (h : kRef d i T) (hk : ¬ (35 ≤ k ∧ k ≤ 44) ∨ ((k = 38 ∨ k = 39 ∨ k = 40) ∧ (j < 4 * i ∨ 4 * i + 4 ≤ j)) ∨ (k = 42 ∧ (j < 3 * i ∨ 3 * i + 3 ≤ j)) ∨ (¬ k = 38 ∧ ¬ k = 39 ∧ ¬ k = 40 ∧ ¬ k = 42 ∧ ¬ j = i)) (ht : dN d ((rwE d i).1 + 9) ≤ 4) (hf : dN d (rP d (rwE d i).1) ≤ 3) : kRef d i (uI T k 0 j v) := by
  obtain ⟨a1, a2, a3, a4, a5, a6, a7, a8⟩ := h
  refine ⟨?_, a2, ?_, ?_, ?_, ?_, fun z hz => ?_, fun z hz => ?_⟩
  · simp only [u_1]
    rw [if_neg (by omega)]
    exact a1
  · simp only [u_1]
    rw [if_neg (by omega)]
    exact a3
  · simp only [u_1]
    rw [if_neg (by omega)]
    exact a4
  · simp only [u_1]
    rw [if_neg (by omega)]
    exact a5
  · simp only [u_1]
    rw [if_neg (by omega)]
    exact a6
  · simp only [u_1]
    rw [if_neg (by omega), if_neg (by omega), if_neg (by omega)]
    exact a7 z hz
  · simp only [u_1]
    rw [if_neg (by omega)]
    exact a8 z hz
theorem kRef_j {d : Nat → Int32} {i j : Nat} {v : Int64} {T : pS} (h : kRef d i T) (hj : ¬ j = i) : kRef d i (uJ T 36 0 j v) := by
  obtain ⟨a1, a2, a3, a4, a5, a6, a7, a8⟩ := h
  refine ⟨a1, ?_, a3, a4, a5, a6, a7, a8⟩
  simp only [u_1]
  rw [if_neg (by omega)]
  exact a2
theorem kP_u {d : Nat → Int32} {T X : pS} {f k j : Nat} {v : Int32} (h : kP d T X f) (hR : ∀ i, i < f → rokI d i) (hk : (k = 30 ∧ j = 32) ∨ ((k = 38 ∨ k = 39 ∨ k = 40) ∧ 4 * f ≤ j) ∨ (k = 42 ∧ 3 * f ≤ j) ∨ ((k = 35 ∨ k = 37 ∨ k = 41 ∨ k = 43 ∨ k = 44) ∧ f ≤ j)) : kP d T (uI X k 0 j v) f := by
  refine ⟨kpT_u (by omega) h.1, fun i hi => ?_⟩
  have hr := (hR i hi).1
  exact kRef_u (h.2 i hi) (by omega) hr.2.2.1 hr.2.2.2.2.1
theorem kP_j {d : Nat → Int32} {T X : pS} {f : Nat} {v : Int64} (h : kP d T X f) : kP d T (uJ X 36 0 f v) f := ⟨kpT_j h.1, fun i hi => kRef_j (h.2 i hi) (by omega)⟩
theorem nat_1 {d : Nat → Int32} {a : Nat} : (nat_ d a 1).toInt32 = d a := by
  have e : nat_ d a 1 = (d a).toInt64 := by
    show (0 : Int64) <<< ((8 : Int32).toInt64 &&& 63) ||| (d (a + 0)).toInt64 = _
    rw [show (0 : Int64) <<< ((8 : Int32).toInt64 &&& 63) = 0 from by decide]
    apply bit_ext
    intro n hn
    rw [bit_or, bit_0, Bool.false_or, Nat.add_zero]
  rw [e, Int32.toInt32_toInt64]
set_option maxHeartbeats 4000000 in
set_option maxRecDepth 100000 in
theorem m_bA (l : Launch) (A : pA) (T : pS) {d : Nat → Int32} {a n : Nat} (hd : T.1 52 0 = d) (ha : a + n ≤ 3532) (hT : T.1 30 0 32 = nI a) : e_MX8_bytesAt l [.ref (ad A 30 0), .int (nI n)] (gS A T) (s_P A (fun v S2 => S2 = uI T 30 0 32 (nI (a + n)) ∧ v = some (.long (nat_ d a n)))) := by
  rw [← hd]
  exact m_X8_bytesAt l A T ha hT
/-- fact f's things, j of them -/
def kTh (d : Nat → Int32) (T X : pS) (f j : Nat) : Prop := kP d T X f ∧ X.1 30 0 32 = nI ((rwE d f).1 + 10 + 9 * j) ∧ X.1 35 0 f = d (rwE d f).1 ∧ X.2.1 36 0 f = nat_ d ((rwE d f).1 + 1) 8 ∧ X.1 37 0 f = nI (dN d ((rwE d f).1 + 9)) ∧ ∀ z, z < j → X.1 38 0 (4 * f + z) = d ((rwE d f).1 + 10 + 9 * z) ∧ X.1 39 0 (4 * f + z) = (nat_ d ((rwE d f).1 + 10 + 9 * z + 1) 4).toInt32 ∧ X.1 40 0 (4 * f + z) = (nat_ d ((rwE d f).1 + 10 + 9 * z + 5) 4).toInt32
def kFa (d : Nat → Int32) (T X : pS) (f j : Nat) : Prop := kP d T X f ∧ X.1 30 0 32 = nI (rP d (rwE d f).1 + 1 + j) ∧ X.1 35 0 f = d (rwE d f).1 ∧ X.2.1 36 0 f = nat_ d ((rwE d f).1 + 1) 8 ∧ X.1 37 0 f = nI (dN d ((rwE d f).1 + 9)) ∧ (∀ z, z < dN d ((rwE d f).1 + 9) → X.1 38 0 (4 * f + z) = d ((rwE d f).1 + 10 + 9 * z) ∧ X.1 39 0 (4 * f + z) = (nat_ d ((rwE d f).1 + 10 + 9 * z + 1) 4).toInt32 ∧ X.1 40 0 (4 * f + z) = (nat_ d ((rwE d f).1 + 10 + 9 * z + 5) 4).toInt32) ∧ X.1 41 0 f = nI (dN d (rP d (rwE d f).1)) ∧ ∀ z, z < j → X.1 42 0 (3 * f + z) = d (rP d (rwE d f).1 + 1 + z)
section
variable {V : pV} {l : Launch} {A : pA} {post : Option Value → pS → Prop} {T : pS}
set_option maxHeartbeats 4000000 in
set_option maxRecDepth 100000 in
theorem lp_rdT (C : e_CX8_reads V l) (Rt : e_RX8_reads V (s_P A post)) {d : Nat → Int32} {n f : Nat} (hd : T.1 52 0 = d) (hB : bB d) (hn : n ≤ 60) (hf : f < n) (hR : ∀ i, i ≤ f → rokI d i) (hx : ∀ X, kTh d T X f (dN d ((rwE d f).1 + 9)) → V 0 0 108 [(0, .ref (ad A 30 0)), (1, .int (nI n)), (2, .int (nI f))] [] (gS A X)) : ∀ k j X, j + k = dN d ((rwE d f).1 + 9) → kTh d T X f j → V 0 0 52 [(0, .ref (ad A 30 0)), (1, .int (nI n)), (2, .int (nI f)), (3, .int (nI (4 * f + j)))] [] (gS A X) := by
  have hr := (hR f (Nat.le_refl _)).1
  have hP : rP d (rwE d f).1 = (rwE d f).1 + 10 + 9 * dN d ((rwE d f).1 + 9) := rfl
  obtain ⟨r1, r2, r3, r4, r5, r6, r7, r8⟩ := hr
  intro k
  induction k with
  | zero =>
    intro j X hj hX
    have hj2 : j = dN d ((rwE d f).1 + 9) := by omega
    have h37 := hX.2.2.2.2.1
    have hle : 4 * f + dN d ((rwE d f).1 + 9) ≤ 4 * f + j := by omega
    refine srnX8_reads C Rt [52, 108] 40 ?_
    simp only [k_i, s_go, s_1, e_op, e_pi, e_pl, e_pr, e_p0, e_li, e_ll, e_lr, e_lk, e_ins, e_rm, e_to, e_sw, e_cmp, k_c, k_n, k_f, k_v, k_lg, ↓reduceIte, reduceCtorEq, Nat.reduceAdd, Nat.reduceSub, Nat.reduceMul, Nat.reduceEqDiff, Nat.reduceLT, Nat.reduceLeDiff, Int.reduceAdd, Int.reduceSub, Int.reduceNeg, Int.reduceLE, Int.reduceLT, Int.reduceToNat, Int.reduceEq, Int.cast_ofNat_Int, List.mem_cons, List.not_mem_nil, List.length_cons, List.length_nil, List.set_cons_zero, List.set_cons_succ, List.toList_toArray, eq_self, true_and, and_true, and_self, or_true, true_or, false_or, or_false, or_self, not_true_eq_false, not_false_eq_true, Classical.not_not, true_implies, false_implies, implies_true, forall_const, and_false, false_and, Nat.le_refl, Nat.zero_le, Bool.false_eq_true, lv_args, s_rl_at, s_gf, s_pf, dn_q, kd_q, cl_q, nf_q, ln_q, tg_q, rr_q, cr_q, u_1, e_lsw, k_ti, List.drop_succ_cons, List.drop_zero, List.drop_nil, List.zip_cons_cons, List.zip_nil_right, List.zip_nil_left, List.all_cons, List.all_nil, Bool.and_true, Bool.and_self, decide_true, decide_false, Option.toList, List.cons_append, List.nil_append, List.append_nil, DX8_reads_0, DX8_reads_1, DX8_reads_2, DX8_reads_3, FLX8, LDX8, (show (4 : Int32) = nI 4 from rfl), pk_mul, x_cl (a := f) (by omega), x_in (a := f) (n := 60) (by omega), h37, nI_add, x_le (a := 4 * f + dN d ((rwE d f).1 + 9)) (b := 4 * f + j) (by omega) (by omega), hle]
    refine ⟨by omega, w_pre C (hx X ?_)⟩
    rw [← hj2]
    exact hX
  | succ k ih =>
    intro j X hj hX
    have hX0 := hX
    obtain ⟨x1, x2, x3, x4, x5, x6⟩ := hX
    have hdX : X.1 52 0 = d := (kpT_d x1.1).trans hd
    generalize hA : (rwE d f).1 = a at *
    have hle : ¬ 4 * f + dN d (a + 9) ≤ 4 * f + j := by omega
    refine srnX8_reads C Rt [52, 108] 40 ?_
    simp only [k_i, s_go, s_1, e_op, e_pi, e_pl, e_pr, e_p0, e_li, e_ll, e_lr, e_lk, e_ins, e_rm, e_to, e_sw, e_cmp, k_c, k_n, k_f, k_v, k_lg, ↓reduceIte, reduceCtorEq, Nat.reduceAdd, Nat.reduceSub, Nat.reduceMul, Nat.reduceEqDiff, Nat.reduceLT, Nat.reduceLeDiff, Int.reduceAdd, Int.reduceSub, Int.reduceNeg, Int.reduceLE, Int.reduceLT, Int.reduceToNat, Int.reduceEq, Int.cast_ofNat_Int, List.mem_cons, List.not_mem_nil, List.length_cons, List.length_nil, List.set_cons_zero, List.set_cons_succ, List.toList_toArray, eq_self, true_and, and_true, and_self, or_true, true_or, false_or, or_false, or_self, not_true_eq_false, not_false_eq_true, Classical.not_not, true_implies, false_implies, implies_true, forall_const, and_false, false_and, Nat.le_refl, Nat.zero_le, Bool.false_eq_true, lv_args, s_rl_at, s_gf, s_pf, dn_q, kd_q, cl_q, nf_q, ln_q, tg_q, rr_q, cr_q, u_1, e_lsw, k_ti, List.drop_succ_cons, List.drop_zero, List.drop_nil, List.zip_cons_cons, List.zip_nil_right, List.zip_nil_left, List.all_cons, List.all_nil, Bool.and_true, Bool.and_self, decide_true, decide_false, Option.toList, List.cons_append, List.nil_append, List.append_nil, DX8_reads_0, DX8_reads_1, DX8_reads_2, DX8_reads_3, FLX8, LDX8, (show (4 : Int32) = nI 4 from rfl), (show (1 : Int32) = nI 1 from rfl), pk_mul, x_cl (a := f) (by omega), x_in (a := f) (n := 60) (by omega), x5, nI_add, x_le (a := 4 * f + dN d (a + 9)) (b := 4 * f + j) (by omega) (by omega), hle]
    refine ⟨by omega, ?_⟩
    refine sX8_reads_73 C (m_bA l A X (a := a + 10 + 9 * j) (n := 1) hdX (by omega) x2) (s_obj (show 0 < 1 by decide) rfl) (hcat := Nat.le_of_ble_eq_true rfl) (k := ?_)
    rintro v2 G2 ⟨S2, rfl, rfl, rfl⟩
    refine srnX8_reads C Rt [52, 108] 40 ?_
    simp only [k_i, s_go, s_1, e_op, e_pi, e_pl, e_pr, e_p0, e_li, e_ll, e_lr, e_lk, e_ins, e_rm, e_to, e_sw, e_cmp, k_c, k_n, k_f, k_v, k_lg, ↓reduceIte, reduceCtorEq, Nat.reduceAdd, Nat.reduceSub, Nat.reduceMul, Nat.reduceEqDiff, Nat.reduceLT, Nat.reduceLeDiff, Int.reduceAdd, Int.reduceSub, Int.reduceNeg, Int.reduceLE, Int.reduceLT, Int.reduceToNat, Int.reduceEq, Int.cast_ofNat_Int, List.mem_cons, List.not_mem_nil, List.length_cons, List.length_nil, List.set_cons_zero, List.set_cons_succ, List.toList_toArray, eq_self, true_and, and_true, and_self, or_true, true_or, false_or, or_false, or_self, not_true_eq_false, not_false_eq_true, Classical.not_not, true_implies, false_implies, implies_true, forall_const, and_false, false_and, Nat.le_refl, Nat.zero_le, Bool.false_eq_true, lv_args, s_rl_at, s_gf, s_pf, dn_q, kd_q, cl_q, nf_q, ln_q, tg_q, rr_q, cr_q, u_1, e_lsw, k_ti, List.drop_succ_cons, List.drop_zero, List.drop_nil, List.zip_cons_cons, List.zip_nil_right, List.zip_nil_left, List.all_cons, List.all_nil, Bool.and_true, Bool.and_self, decide_true, decide_false, Option.toList, List.cons_append, List.nil_append, List.append_nil, DX8_reads_0, DX8_reads_1, DX8_reads_2, DX8_reads_3, FLX8, LDX8, nat_1, (show (4 : Int32) = nI 4 from rfl), x_cl (a := 4 * f + j) (by omega), x_in (a := 4 * f + j) (n := 240) (by omega)]
    refine ⟨by omega, ?_⟩
    refine sX8_reads_85 C (m_bA l A _ (a := a + 10 + 9 * j + 1) (n := 4) hdX (by omega) rfl) (s_obj (show 0 < 1 by decide) rfl) (hcat := Nat.le_of_ble_eq_true rfl) (k := ?_)
    rintro v2 G2 ⟨S2, rfl, rfl, rfl⟩
    refine srnX8_reads C Rt [52, 108] 40 ?_
    simp only [k_i, s_go, s_1, e_op, e_pi, e_pl, e_pr, e_p0, e_li, e_ll, e_lr, e_lk, e_ins, e_rm, e_to, e_sw, e_cmp, k_c, k_n, k_f, k_v, k_lg, ↓reduceIte, reduceCtorEq, Nat.reduceAdd, Nat.reduceSub, Nat.reduceMul, Nat.reduceEqDiff, Nat.reduceLT, Nat.reduceLeDiff, Int.reduceAdd, Int.reduceSub, Int.reduceNeg, Int.reduceLE, Int.reduceLT, Int.reduceToNat, Int.reduceEq, Int.cast_ofNat_Int, List.mem_cons, List.not_mem_nil, List.length_cons, List.length_nil, List.set_cons_zero, List.set_cons_succ, List.toList_toArray, eq_self, true_and, and_true, and_self, or_true, true_or, false_or, or_false, or_self, not_true_eq_false, not_false_eq_true, Classical.not_not, true_implies, false_implies, implies_true, forall_const, and_false, false_and, Nat.le_refl, Nat.zero_le, Bool.false_eq_true, lv_args, s_rl_at, s_gf, s_pf, dn_q, kd_q, cl_q, nf_q, ln_q, tg_q, rr_q, cr_q, u_1, e_lsw, k_ti, List.drop_succ_cons, List.drop_zero, List.drop_nil, List.zip_cons_cons, List.zip_nil_right, List.zip_nil_left, List.all_cons, List.all_nil, Bool.and_true, Bool.and_self, decide_true, decide_false, Option.toList, List.cons_append, List.nil_append, List.append_nil, DX8_reads_0, DX8_reads_1, DX8_reads_2, DX8_reads_3, FLX8, LDX8, (show (4 : Int32) = nI 4 from rfl), x_cl (a := 4 * f + j) (by omega), x_in (a := 4 * f + j) (n := 240) (by omega)]
    refine ⟨by omega, ?_⟩
    refine sX8_reads_97 C (m_bA l A _ (a := a + 10 + 9 * j + 1 + 4) (n := 4) hdX (by omega) rfl) (s_obj (show 0 < 1 by decide) rfl) (hcat := Nat.le_of_ble_eq_true rfl) (k := ?_)
    rintro v2 G2 ⟨S2, rfl, rfl, rfl⟩
    refine srnX8_reads C Rt [52, 108] 40 ?_
    simp only [k_i, s_go, s_1, e_op, e_pi, e_pl, e_pr, e_p0, e_li, e_ll, e_lr, e_lk, e_ins, e_rm, e_to, e_sw, e_cmp, k_c, k_n, k_f, k_v, k_lg, ↓reduceIte, reduceCtorEq, Nat.reduceAdd, Nat.reduceSub, Nat.reduceMul, Nat.reduceEqDiff, Nat.reduceLT, Nat.reduceLeDiff, Int.reduceAdd, Int.reduceSub, Int.reduceNeg, Int.reduceLE, Int.reduceLT, Int.reduceToNat, Int.reduceEq, Int.cast_ofNat_Int, List.mem_cons, List.not_mem_nil, List.length_cons, List.length_nil, List.set_cons_zero, List.set_cons_succ, List.toList_toArray, eq_self, true_and, and_true, and_self, or_true, true_or, false_or, or_false, or_self, not_true_eq_false, not_false_eq_true, Classical.not_not, true_implies, false_implies, implies_true, forall_const, and_false, false_and, Nat.le_refl, Nat.zero_le, Bool.false_eq_true, lv_args, s_rl_at, s_gf, s_pf, dn_q, kd_q, cl_q, nf_q, ln_q, tg_q, rr_q, cr_q, u_1, e_lsw, k_ti, List.drop_succ_cons, List.drop_zero, List.drop_nil, List.zip_cons_cons, List.zip_nil_right, List.zip_nil_left, List.all_cons, List.all_nil, Bool.and_true, Bool.and_self, decide_true, decide_false, Option.toList, List.cons_append, List.nil_append, List.append_nil, DX8_reads_0, DX8_reads_1, DX8_reads_2, DX8_reads_3, FLX8, LDX8, x_cl (a := 4 * f + j) (by omega), x_in (a := 4 * f + j) (n := 240) (by omega), nI_1]
    refine ⟨by omega, ih (j + 1) _ (by omega) ?_⟩
    have hR' : ∀ i, i < f → rokI d i := fun i hi => hR i (by omega)
    unfold kTh
    rw [hA]
    refine ⟨kP_u (kP_u (kP_u (kP_u (kP_u (kP_u x1 hR' (by omega)) hR' (by omega)) hR' (by omega)) hR' (by omega)) hR' (by omega)) hR' (by omega), ?_, ?_, ?_, ?_, fun z hz => ?_⟩
    · rw [show a + 10 + 9 * (j + 1) = a + 10 + 9 * j + 1 + 4 + 4 by omega]
      simp [u_1]
    · simpa [u_1] using x3
    · exact x4
    · simpa [u_1] using x5
    · by_cases hzj : z = j
      · subst hzj
        rw [show a + 10 + 9 * z + 5 = a + 10 + 9 * z + 1 + 4 by omega]
        simp [u_1]
      · have := x6 z (by omega)
        simpa [u_1, hzj] using this
set_option maxHeartbeats 4000000 in
set_option maxRecDepth 100000 in
theorem lp_rdF (C : e_CX8_reads V l) (Rt : e_RX8_reads V (s_P A post)) {d : Nat → Int32} {n f : Nat} (hd : T.1 52 0 = d) (hB : bB d) (hn : n ≤ 60) (hf : f < n) (hR : ∀ i, i ≤ f → rokI d i) (hx : ∀ X, kFa d T X f (dN d (rP d (rwE d f).1)) → V 0 0 154 [(0, .ref (ad A 30 0)), (1, .int (nI n)), (2, .int (nI f))] [] (gS A X)) : ∀ k j X, j + k = dN d (rP d (rwE d f).1) → kFa d T X f j → V 0 0 122 [(0, .ref (ad A 30 0)), (1, .int (nI n)), (2, .int (nI f)), (3, .int (nI j))] [] (gS A X) := by
  have hr := (hR f (Nat.le_refl _)).1
  have hE : rE d (rwE d f).1 = rP d (rwE d f).1 + 1 + dN d (rP d (rwE d f).1) := rfl
  obtain ⟨r1, r2, r3, r4, r5, r6, r7, r8⟩ := hr
  intro k
  induction k with
  | zero =>
    intro j X hj hX
    have hj2 : j = dN d (rP d (rwE d f).1) := by omega
    have h41 := hX.2.2.2.2.2.2.1
    refine srnX8_reads C Rt [122, 154] 40 ?_
    simp only [k_i, s_go, s_1, e_op, e_pi, e_pl, e_pr, e_p0, e_li, e_ll, e_lr, e_lk, e_ins, e_rm, e_to, e_sw, e_cmp, k_c, k_n, k_f, k_v, k_lg, ↓reduceIte, reduceCtorEq, Nat.reduceAdd, Nat.reduceSub, Nat.reduceMul, Nat.reduceEqDiff, Nat.reduceLT, Nat.reduceLeDiff, Int.reduceAdd, Int.reduceSub, Int.reduceNeg, Int.reduceLE, Int.reduceLT, Int.reduceToNat, Int.reduceEq, Int.cast_ofNat_Int, List.mem_cons, List.not_mem_nil, List.length_cons, List.length_nil, List.set_cons_zero, List.set_cons_succ, List.toList_toArray, eq_self, true_and, and_true, and_self, or_true, true_or, false_or, or_false, or_self, not_true_eq_false, not_false_eq_true, Classical.not_not, true_implies, false_implies, implies_true, forall_const, and_false, false_and, Nat.le_refl, Nat.zero_le, Bool.false_eq_true, lv_args, s_rl_at, s_gf, s_pf, dn_q, kd_q, cl_q, nf_q, ln_q, tg_q, rr_q, cr_q, u_1, e_lsw, k_ti, List.drop_succ_cons, List.drop_zero, List.drop_nil, List.zip_cons_cons, List.zip_nil_right, List.zip_nil_left, List.all_cons, List.all_nil, Bool.and_true, Bool.and_self, decide_true, decide_false, Option.toList, List.cons_append, List.nil_append, List.append_nil, DX8_reads_0, DX8_reads_1, DX8_reads_2, DX8_reads_3, FLX8, LDX8, x_cl (a := f) (by omega), x_in (a := f) (n := 60) (by omega), h41, ← hj2, x_le (a := j) (b := j) (by omega) (by omega)]
    refine ⟨by omega, w_pre C (hx X ?_)⟩
    rw [← hj2]
    exact hX
  | succ k ih =>
    intro j X hj hX
    obtain ⟨x1, x2, x3, x4, x5, x6, x7, x8⟩ := hX
    have hdX : X.1 52 0 = d := (kpT_d x1.1).trans hd
    generalize hA : rP d (rwE d f).1 = p at *
    have hle : ¬ dN d p ≤ j := by omega
    refine srnX8_reads C Rt [122, 154] 40 ?_
    simp only [k_i, s_go, s_1, e_op, e_pi, e_pl, e_pr, e_p0, e_li, e_ll, e_lr, e_lk, e_ins, e_rm, e_to, e_sw, e_cmp, k_c, k_n, k_f, k_v, k_lg, ↓reduceIte, reduceCtorEq, Nat.reduceAdd, Nat.reduceSub, Nat.reduceMul, Nat.reduceEqDiff, Nat.reduceLT, Nat.reduceLeDiff, Int.reduceAdd, Int.reduceSub, Int.reduceNeg, Int.reduceLE, Int.reduceLT, Int.reduceToNat, Int.reduceEq, Int.cast_ofNat_Int, List.mem_cons, List.not_mem_nil, List.length_cons, List.length_nil, List.set_cons_zero, List.set_cons_succ, List.toList_toArray, eq_self, true_and, and_true, and_self, or_true, true_or, false_or, or_false, or_self, not_true_eq_false, not_false_eq_true, Classical.not_not, true_implies, false_implies, implies_true, forall_const, and_false, false_and, Nat.le_refl, Nat.zero_le, Bool.false_eq_true, lv_args, s_rl_at, s_gf, s_pf, dn_q, kd_q, cl_q, nf_q, ln_q, tg_q, rr_q, cr_q, u_1, e_lsw, k_ti, List.drop_succ_cons, List.drop_zero, List.drop_nil, List.zip_cons_cons, List.zip_nil_right, List.zip_nil_left, List.all_cons, List.all_nil, Bool.and_true, Bool.and_self, decide_true, decide_false, Option.toList, List.cons_append, List.nil_append, List.append_nil, DX8_reads_0, DX8_reads_1, DX8_reads_2, DX8_reads_3, FLX8, LDX8, (show (1 : Int32) = nI 1 from rfl), (show (3 : Int32) = nI 3 from rfl), pk_mul, x_cl (a := f) (by omega), x_in (a := f) (n := 60) (by omega), x7, nI_add, x_le (a := dN d p) (b := j) (by omega) (by omega), hle]
    refine ⟨by omega, ?_⟩
    refine sX8_reads_143 C (m_bA l A X (a := p + 1 + j) (n := 1) hdX (by omega) x2) (s_obj (show 0 < 1 by decide) rfl) (hcat := Nat.le_of_ble_eq_true rfl) (k := ?_)
    rintro v2 G2 ⟨S2, rfl, rfl, rfl⟩
    refine srnX8_reads C Rt [122, 154] 40 ?_
    simp only [k_i, s_go, s_1, e_op, e_pi, e_pl, e_pr, e_p0, e_li, e_ll, e_lr, e_lk, e_ins, e_rm, e_to, e_sw, e_cmp, k_c, k_n, k_f, k_v, k_lg, ↓reduceIte, reduceCtorEq, Nat.reduceAdd, Nat.reduceSub, Nat.reduceMul, Nat.reduceEqDiff, Nat.reduceLT, Nat.reduceLeDiff, Int.reduceAdd, Int.reduceSub, Int.reduceNeg, Int.reduceLE, Int.reduceLT, Int.reduceToNat, Int.reduceEq, Int.cast_ofNat_Int, List.mem_cons, List.not_mem_nil, List.length_cons, List.length_nil, List.set_cons_zero, List.set_cons_succ, List.toList_toArray, eq_self, true_and, and_true, and_self, or_true, true_or, false_or, or_false, or_self, not_true_eq_false, not_false_eq_true, Classical.not_not, true_implies, false_implies, implies_true, forall_const, and_false, false_and, Nat.le_refl, Nat.zero_le, Bool.false_eq_true, lv_args, s_rl_at, s_gf, s_pf, dn_q, kd_q, cl_q, nf_q, ln_q, tg_q, rr_q, cr_q, u_1, e_lsw, k_ti, List.drop_succ_cons, List.drop_zero, List.drop_nil, List.zip_cons_cons, List.zip_nil_right, List.zip_nil_left, List.all_cons, List.all_nil, Bool.and_true, Bool.and_self, decide_true, decide_false, Option.toList, List.cons_append, List.nil_append, List.append_nil, DX8_reads_0, DX8_reads_1, DX8_reads_2, DX8_reads_3, FLX8, LDX8, nat_1, x_cl (a := 3 * f + j) (by omega), x_in (a := 3 * f + j) (n := 180) (by omega), nI_1]
    refine ⟨by omega, ih (j + 1) _ (by omega) ?_⟩
    have hR' : ∀ i, i < f → rokI d i := fun i hi => hR i (by omega)
    unfold kFa
    rw [hA]
    refine ⟨kP_u (kP_u x1 hR' (by omega)) hR' (by omega), ?_, ?_, ?_, ?_, fun z hz => ?_, ?_, fun z hz => ?_⟩
    · rw [show p + 1 + (j + 1) = p + 1 + j + 1 by omega]
      simp [u_1]
    · simpa [u_1] using x3
    · exact x4
    · simpa [u_1] using x5
    · simpa [u_1] using x6 z hz
    · simpa [u_1] using x7
    · by_cases hzj : z = j
      · subst hzj
        simp [u_1]
      · have := x8 z (by omega)
        simpa [u_1, hzj] using this
set_option maxHeartbeats 8000000 in
set_option maxRecDepth 100000 in
theorem lp_rd (C : e_CX8_reads V l) (Rt : e_RX8_reads V (s_P A post)) {d : Nat → Int32} {n : Nat} (hd : T.1 52 0 = d) (hB : bB d) (hn : n ≤ 60) (hR : ∀ i, i < n → rokI d i) (hp : ∀ X, kP d T X n → post none (uI X 30 0 3 (nI n))) : ∀ k f X, f + k = n → kP d T X f → X.1 30 0 32 = nI (rwE d f).1 → V 0 0 7 [(0, .ref (ad A 30 0)), (1, .int (nI n)), (2, .int (nI f))] [] (gS A X) := by
  intro k
  induction k with
  | zero =>
    intro f X hf hX h32
    have hf2 : f = n := by omega
    subst hf2
    refine srnX8_reads C Rt [7] 40 ?_
    simp only [k_i, s_go, s_1, e_op, e_pi, e_pl, e_pr, e_p0, e_li, e_ll, e_lr, e_lk, e_ins, e_rm, e_to, e_sw, e_cmp, k_c, k_n, k_f, k_v, k_lg, ↓reduceIte, reduceCtorEq, Nat.reduceAdd, Nat.reduceSub, Nat.reduceMul, Nat.reduceEqDiff, Nat.reduceLT, Nat.reduceLeDiff, Int.reduceAdd, Int.reduceSub, Int.reduceNeg, Int.reduceLE, Int.reduceLT, Int.reduceToNat, Int.reduceEq, Int.cast_ofNat_Int, List.mem_cons, List.not_mem_nil, List.length_cons, List.length_nil, List.set_cons_zero, List.set_cons_succ, List.toList_toArray, eq_self, true_and, and_true, and_self, or_true, true_or, false_or, or_false, or_self, not_true_eq_false, not_false_eq_true, Classical.not_not, true_implies, false_implies, implies_true, forall_const, and_false, false_and, Nat.le_refl, Nat.zero_le, Bool.false_eq_true, lv_args, s_rl_at, s_gf, s_pf, dn_q, kd_q, cl_q, nf_q, ln_q, tg_q, rr_q, cr_q, u_1, e_lsw, k_ti, List.drop_succ_cons, List.drop_zero, List.drop_nil, List.zip_cons_cons, List.zip_nil_right, List.zip_nil_left, List.all_cons, List.all_nil, Bool.and_true, Bool.and_self, decide_true, decide_false, Option.toList, List.cons_append, List.nil_append, List.append_nil, DX8_reads_0, DX8_reads_1, DX8_reads_2, DX8_reads_3, FLX8, LDX8, x_le (a := f) (b := f) (by omega) (by omega)]
    exact hp X hX
  | succ k ih =>
    intro f X hf hX h32
    have hr := (hR f (by omega)).1
    obtain ⟨r1, r2, r3, r4, r5, r6, r7, r8⟩ := hr
    have hR' : ∀ i, i < f → rokI d i := fun i hi => hR i (by omega)
    have hR2 : ∀ i, i ≤ f → rokI d i := fun i hi => hR i (by omega)
    have hdX : X.1 52 0 = d := (kpT_d hX.1).trans hd
    have v9 := bB_n hB (show (rwE d f).1 + 9 < 3532 by omega)
    have vp := bB_n hB (show rP d (rwE d f).1 < 3532 by omega)
    have hP : rP d (rwE d f).1 = (rwE d f).1 + 10 + 9 * dN d ((rwE d f).1 + 9) := rfl
    have hle : ¬ n ≤ f := by omega
    refine srnX8_reads C Rt [] 40 ?_
    simp only [k_i, s_go, s_1, e_op, e_pi, e_pl, e_pr, e_p0, e_li, e_ll, e_lr, e_lk, e_ins, e_rm, e_to, e_sw, e_cmp, k_c, k_n, k_f, k_v, k_lg, ↓reduceIte, reduceCtorEq, Nat.reduceAdd, Nat.reduceSub, Nat.reduceMul, Nat.reduceEqDiff, Nat.reduceLT, Nat.reduceLeDiff, Int.reduceAdd, Int.reduceSub, Int.reduceNeg, Int.reduceLE, Int.reduceLT, Int.reduceToNat, Int.reduceEq, Int.cast_ofNat_Int, List.mem_cons, List.not_mem_nil, List.length_cons, List.length_nil, List.set_cons_zero, List.set_cons_succ, List.toList_toArray, eq_self, true_and, and_true, and_self, or_true, true_or, false_or, or_false, or_self, not_true_eq_false, not_false_eq_true, Classical.not_not, true_implies, false_implies, implies_true, forall_const, and_false, false_and, Nat.le_refl, Nat.zero_le, Bool.false_eq_true, lv_args, s_rl_at, s_gf, s_pf, dn_q, kd_q, cl_q, nf_q, ln_q, tg_q, rr_q, cr_q, u_1, e_lsw, k_ti, List.drop_succ_cons, List.drop_zero, List.drop_nil, List.zip_cons_cons, List.zip_nil_right, List.zip_nil_left, List.all_cons, List.all_nil, Bool.and_true, Bool.and_self, decide_true, decide_false, Option.toList, List.cons_append, List.nil_append, List.append_nil, DX8_reads_0, DX8_reads_1, DX8_reads_2, DX8_reads_3, FLX8, LDX8, (show (1 : Int32) = nI 1 from rfl), x_le (a := n) (b := f) (by omega) (by omega), hle]
    refine sX8_reads_19 C (m_bA l A X (a := (rwE d f).1) (n := 1) hdX (by omega) h32) (s_obj (show 0 < 1 by decide) rfl) (hcat := Nat.le_of_ble_eq_true rfl) (k := ?_)
    rintro v2 G2 ⟨S2, rfl, rfl, rfl⟩
    refine srnX8_reads C Rt [] 40 ?_
    simp only [k_i, s_go, s_1, e_op, e_pi, e_pl, e_pr, e_p0, e_li, e_ll, e_lr, e_lk, e_ins, e_rm, e_to, e_sw, e_cmp, k_c, k_n, k_f, k_v, k_lg, ↓reduceIte, reduceCtorEq, Nat.reduceAdd, Nat.reduceSub, Nat.reduceMul, Nat.reduceEqDiff, Nat.reduceLT, Nat.reduceLeDiff, Int.reduceAdd, Int.reduceSub, Int.reduceNeg, Int.reduceLE, Int.reduceLT, Int.reduceToNat, Int.reduceEq, Int.cast_ofNat_Int, List.mem_cons, List.not_mem_nil, List.length_cons, List.length_nil, List.set_cons_zero, List.set_cons_succ, List.toList_toArray, eq_self, true_and, and_true, and_self, or_true, true_or, false_or, or_false, or_self, not_true_eq_false, not_false_eq_true, Classical.not_not, true_implies, false_implies, implies_true, forall_const, and_false, false_and, Nat.le_refl, Nat.zero_le, Bool.false_eq_true, lv_args, s_rl_at, s_gf, s_pf, dn_q, kd_q, cl_q, nf_q, ln_q, tg_q, rr_q, cr_q, u_1, e_lsw, k_ti, List.drop_succ_cons, List.drop_zero, List.drop_nil, List.zip_cons_cons, List.zip_nil_right, List.zip_nil_left, List.all_cons, List.all_nil, Bool.and_true, Bool.and_self, decide_true, decide_false, Option.toList, List.cons_append, List.nil_append, List.append_nil, DX8_reads_0, DX8_reads_1, DX8_reads_2, DX8_reads_3, FLX8, LDX8, nat_1, (show (8 : Int32) = nI 8 from rfl), x_cl (a := f) (by omega), x_in (a := f) (n := 60) (by omega)]
    refine ⟨by omega, ?_⟩
    refine sX8_reads_32 C (m_bA l A _ (a := (rwE d f).1 + 1) (n := 8) hdX (by omega) rfl) (s_obj (show 0 < 1 by decide) rfl) (hcat := Nat.le_of_ble_eq_true rfl) (k := ?_)
    rintro v2 G2 ⟨S2, rfl, rfl, rfl⟩
    refine srnX8_reads C Rt [] 40 ?_
    simp only [k_i, s_go, s_1, e_op, e_pi, e_pl, e_pr, e_p0, e_li, e_ll, e_lr, e_lk, e_ins, e_rm, e_to, e_sw, e_cmp, k_c, k_n, k_f, k_v, k_lg, ↓reduceIte, reduceCtorEq, Nat.reduceAdd, Nat.reduceSub, Nat.reduceMul, Nat.reduceEqDiff, Nat.reduceLT, Nat.reduceLeDiff, Int.reduceAdd, Int.reduceSub, Int.reduceNeg, Int.reduceLE, Int.reduceLT, Int.reduceToNat, Int.reduceEq, Int.cast_ofNat_Int, List.mem_cons, List.not_mem_nil, List.length_cons, List.length_nil, List.set_cons_zero, List.set_cons_succ, List.toList_toArray, eq_self, true_and, and_true, and_self, or_true, true_or, false_or, or_false, or_self, not_true_eq_false, not_false_eq_true, Classical.not_not, true_implies, false_implies, implies_true, forall_const, and_false, false_and, Nat.le_refl, Nat.zero_le, Bool.false_eq_true, lv_args, s_rl_at, s_gf, s_pf, dn_q, kd_q, cl_q, nf_q, ln_q, tg_q, rr_q, cr_q, u_1, e_lsw, k_ti, List.drop_succ_cons, List.drop_zero, List.drop_nil, List.zip_cons_cons, List.zip_nil_right, List.zip_nil_left, List.all_cons, List.all_nil, Bool.and_true, Bool.and_self, decide_true, decide_false, Option.toList, List.cons_append, List.nil_append, List.append_nil, DX8_reads_0, DX8_reads_1, DX8_reads_2, DX8_reads_3, FLX8, LDX8, (show (1 : Int32) = nI 1 from rfl), x_cl (a := f) (by omega), x_in (a := f) (n := 60) (by omega)]
    refine ⟨by omega, ?_⟩
    refine sX8_reads_43 C (m_bA l A _ (a := (rwE d f).1 + 1 + 8) (n := 1) hdX (by omega) rfl) (s_obj (show 0 < 1 by decide) rfl) (hcat := Nat.le_of_ble_eq_true rfl) (k := ?_)
    rintro v2 G2 ⟨S2, rfl, rfl, rfl⟩
    refine srnX8_reads C Rt [52] 40 ?_
    simp only [k_i, s_go, s_1, e_op, e_pi, e_pl, e_pr, e_p0, e_li, e_ll, e_lr, e_lk, e_ins, e_rm, e_to, e_sw, e_cmp, k_c, k_n, k_f, k_v, k_lg, ↓reduceIte, reduceCtorEq, Nat.reduceAdd, Nat.reduceSub, Nat.reduceMul, Nat.reduceEqDiff, Nat.reduceLT, Nat.reduceLeDiff, Int.reduceAdd, Int.reduceSub, Int.reduceNeg, Int.reduceLE, Int.reduceLT, Int.reduceToNat, Int.reduceEq, Int.cast_ofNat_Int, List.mem_cons, List.not_mem_nil, List.length_cons, List.length_nil, List.set_cons_zero, List.set_cons_succ, List.toList_toArray, eq_self, true_and, and_true, and_self, or_true, true_or, false_or, or_false, or_self, not_true_eq_false, not_false_eq_true, Classical.not_not, true_implies, false_implies, implies_true, forall_const, and_false, false_and, Nat.le_refl, Nat.zero_le, Bool.false_eq_true, lv_args, s_rl_at, s_gf, s_pf, dn_q, kd_q, cl_q, nf_q, ln_q, tg_q, rr_q, cr_q, u_1, e_lsw, k_ti, List.drop_succ_cons, List.drop_zero, List.drop_nil, List.zip_cons_cons, List.zip_nil_right, List.zip_nil_left, List.all_cons, List.all_nil, Bool.and_true, Bool.and_self, decide_true, decide_false, Option.toList, List.cons_append, List.nil_append, List.append_nil, DX8_reads_0, DX8_reads_1, DX8_reads_2, DX8_reads_3, FLX8, LDX8, nat_1, (show (4 : Int32) = nI 4 from rfl), pk_mul, x_cl (a := f) (by omega), x_in (a := f) (n := 60) (by omega)]
    refine ⟨by omega, ?_⟩
    have h52 := lp_rdT (f := f) C Rt hd hB hn (by omega) hR2 ?_ (dN d ((rwE d f).1 + 9)) 0 (uI (uI (uJ (uI (uI (uI X 30 0 32 (nI ((rwE d f).1 + 1))) 35 0 f (d (rwE d f).1)) 30 0 32 (nI ((rwE d f).1 + 1 + 8))) 36 0 f (nat_ d ((rwE d f).1 + 1) 8)) 30 0 32 (nI ((rwE d f).1 + 1 + 8 + 1))) 37 0 f (d ((rwE d f).1 + 1 + 8))) (by omega) ?_
    · rw [Nat.add_zero] at h52
      exact h52
    · intro Y hY
      obtain ⟨y1, y2, y3, y4, y5, y6⟩ := hY
      have hdY : Y.1 52 0 = d := (kpT_d y1.1).trans hd
      refine srnX8_reads C Rt [] 40 ?_
      simp only [k_i, s_go, s_1, e_op, e_pi, e_pl, e_pr, e_p0, e_li, e_ll, e_lr, e_lk, e_ins, e_rm, e_to, e_sw, e_cmp, k_c, k_n, k_f, k_v, k_lg, ↓reduceIte, reduceCtorEq, Nat.reduceAdd, Nat.reduceSub, Nat.reduceMul, Nat.reduceEqDiff, Nat.reduceLT, Nat.reduceLeDiff, Int.reduceAdd, Int.reduceSub, Int.reduceNeg, Int.reduceLE, Int.reduceLT, Int.reduceToNat, Int.reduceEq, Int.cast_ofNat_Int, List.mem_cons, List.not_mem_nil, List.length_cons, List.length_nil, List.set_cons_zero, List.set_cons_succ, List.toList_toArray, eq_self, true_and, and_true, and_self, or_true, true_or, false_or, or_false, or_self, not_true_eq_false, not_false_eq_true, Classical.not_not, true_implies, false_implies, implies_true, forall_const, and_false, false_and, Nat.le_refl, Nat.zero_le, Bool.false_eq_true, lv_args, s_rl_at, s_gf, s_pf, dn_q, kd_q, cl_q, nf_q, ln_q, tg_q, rr_q, cr_q, u_1, e_lsw, k_ti, List.drop_succ_cons, List.drop_zero, List.drop_nil, List.zip_cons_cons, List.zip_nil_right, List.zip_nil_left, List.all_cons, List.all_nil, Bool.and_true, Bool.and_self, decide_true, decide_false, Option.toList, List.cons_append, List.nil_append, List.append_nil, DX8_reads_0, DX8_reads_1, DX8_reads_2, DX8_reads_3, FLX8, LDX8, (show (1 : Int32) = nI 1 from rfl)]
      refine sX8_reads_115 C (m_bA l A Y (a := rP d (rwE d f).1) (n := 1) hdY (by omega) y2) (s_obj (show 0 < 1 by decide) rfl) (hcat := Nat.le_of_ble_eq_true rfl) (k := ?_)
      rintro v2 G2 ⟨S2, rfl, rfl, rfl⟩
      refine srnX8_reads C Rt [122] 40 ?_
      simp only [k_i, s_go, s_1, e_op, e_pi, e_pl, e_pr, e_p0, e_li, e_ll, e_lr, e_lk, e_ins, e_rm, e_to, e_sw, e_cmp, k_c, k_n, k_f, k_v, k_lg, ↓reduceIte, reduceCtorEq, Nat.reduceAdd, Nat.reduceSub, Nat.reduceMul, Nat.reduceEqDiff, Nat.reduceLT, Nat.reduceLeDiff, Int.reduceAdd, Int.reduceSub, Int.reduceNeg, Int.reduceLE, Int.reduceLT, Int.reduceToNat, Int.reduceEq, Int.cast_ofNat_Int, List.mem_cons, List.not_mem_nil, List.length_cons, List.length_nil, List.set_cons_zero, List.set_cons_succ, List.toList_toArray, eq_self, true_and, and_true, and_self, or_true, true_or, false_or, or_false, or_self, not_true_eq_false, not_false_eq_true, Classical.not_not, true_implies, false_implies, implies_true, forall_const, and_false, false_and, Nat.le_refl, Nat.zero_le, Bool.false_eq_true, lv_args, s_rl_at, s_gf, s_pf, dn_q, kd_q, cl_q, nf_q, ln_q, tg_q, rr_q, cr_q, u_1, e_lsw, k_ti, List.drop_succ_cons, List.drop_zero, List.drop_nil, List.zip_cons_cons, List.zip_nil_right, List.zip_nil_left, List.all_cons, List.all_nil, Bool.and_true, Bool.and_self, decide_true, decide_false, Option.toList, List.cons_append, List.nil_append, List.append_nil, DX8_reads_0, DX8_reads_1, DX8_reads_2, DX8_reads_3, FLX8, LDX8, nat_1, x_cl (a := f) (by omega), x_in (a := f) (n := 60) (by omega)]
      refine ⟨by omega, lp_rdF (f := f) C Rt hd hB hn (by omega) hR2 ?_ (dN d (rP d (rwE d f).1)) 0 (uI (uI Y 30 0 32 (nI (rP d (rwE d f).1 + 1))) 41 0 f (d (rP d (rwE d f).1))) (by omega) ?_⟩
      · intro Z hZ
        obtain ⟨z1, z2, z3, z4, z5, z6, z7, z8⟩ := hZ
        refine srnX8_reads C Rt [7] 40 ?_
        simp only [k_i, s_go, s_1, e_op, e_pi, e_pl, e_pr, e_p0, e_li, e_ll, e_lr, e_lk, e_ins, e_rm, e_to, e_sw, e_cmp, k_c, k_n, k_f, k_v, k_lg, ↓reduceIte, reduceCtorEq, Nat.reduceAdd, Nat.reduceSub, Nat.reduceMul, Nat.reduceEqDiff, Nat.reduceLT, Nat.reduceLeDiff, Int.reduceAdd, Int.reduceSub, Int.reduceNeg, Int.reduceLE, Int.reduceLT, Int.reduceToNat, Int.reduceEq, Int.cast_ofNat_Int, List.mem_cons, List.not_mem_nil, List.length_cons, List.length_nil, List.set_cons_zero, List.set_cons_succ, List.toList_toArray, eq_self, true_and, and_true, and_self, or_true, true_or, false_or, or_false, or_self, not_true_eq_false, not_false_eq_true, Classical.not_not, true_implies, false_implies, implies_true, forall_const, and_false, false_and, Nat.le_refl, Nat.zero_le, Bool.false_eq_true, lv_args, s_rl_at, s_gf, s_pf, dn_q, kd_q, cl_q, nf_q, ln_q, tg_q, rr_q, cr_q, u_1, e_lsw, k_ti, List.drop_succ_cons, List.drop_zero, List.drop_nil, List.zip_cons_cons, List.zip_nil_right, List.zip_nil_left, List.all_cons, List.all_nil, Bool.and_true, Bool.and_self, decide_true, decide_false, Option.toList, List.cons_append, List.nil_append, List.append_nil, DX8_reads_0, DX8_reads_1, DX8_reads_2, DX8_reads_3, FLX8, LDX8, x_cl (a := f) (by omega), x_in (a := f) (n := 60) (by omega), z2, (show (8 : Int32) = nI 8 from rfl), nI_add, nI_1]
        refine ⟨by omega, by omega, ih (f + 1) _ (by omega) ⟨?_, ?_⟩ ?_⟩
        · exact kpT_u (by omega) (kpT_u (by omega) (kpT_u (by omega) z1.1))
        · intro i hi
          by_cases hif : i = f
          · subst hif
            refine ⟨by simpa [u_1] using z3, z4, by simp [u_1], by simp [u_1], by simpa [u_1] using z5, by simpa [u_1] using z7, fun z hz => by simpa [u_1] using z6 z hz, fun z hz => by simpa [u_1] using z8 z hz⟩
          · exact (kP_u (kP_u (kP_u z1 hR' (by omega)) hR' (by omega)) hR' (by omega)).2 i (by omega)
        · simp [u_1]
          rfl
      · refine ⟨kP_u (kP_u y1 hR' (by omega)) hR' (by omega), ?_, ?_, ?_, ?_, fun z hz => ?_, ?_, fun z hz => by omega⟩
        · simp [u_1]
        · simpa [u_1] using y3
        · exact y4
        · simpa [u_1] using y5
        · simpa [u_1] using y6 z hz
        · rw [← vp.2]
          simp [u_1]
    · refine ⟨kP_u (kP_u (kP_j (kP_u (kP_u (kP_u hX hR' (by omega)) hR' (by omega)) hR' (by omega))) hR' (by omega)) hR' (by omega), ?_, ?_, ?_, ?_, fun z hz => by omega⟩
      · rw [show (rwE d f).1 + 10 + 9 * 0 = (rwE d f).1 + 1 + 8 + 1 by omega]
        simp [u_1]
      · simp [u_1]
      · simp [u_1]
      · rw [show (rwE d f).1 + 1 + 8 = (rwE d f).1 + 9 by omega, ← v9.2]
        simp [u_1]
end
set_option maxHeartbeats 4000000 in
set_option maxRecDepth 100000 in
theorem m_X8_reads (l : Launch) (A : pA) (T : pS) {d : Nat → Int32} {n : Nat} (hd : T.1 52 0 = d) (hB : bB d) (hn : n ≤ 60) (hR : ∀ i, i < n → rokI d i) : e_MX8_reads l [.ref (ad A 30 0), .int (nI n)] (gS A T) (s_P A (fun v S2 => ∃ X, kP d T X n ∧ S2 = uI X 30 0 3 (nI n) ∧ v = none)) := by
  refine ofX8_reads (Nat.le_of_ble_eq_true rfl) ?_
  intro V C Rt
  refine srnX8_reads C Rt [7] 20 ?_
  simp only [k_i, s_go, s_1, e_op, e_pi, e_pl, e_pr, e_p0, e_li, e_ll, e_lr, e_lk, e_ins, e_rm, e_to, e_sw, e_cmp, k_c, k_n, k_f, k_v, k_lg, ↓reduceIte, reduceCtorEq, Nat.reduceAdd, Nat.reduceSub, Nat.reduceMul, Nat.reduceEqDiff, Nat.reduceLT, Nat.reduceLeDiff, Int.reduceAdd, Int.reduceSub, Int.reduceNeg, Int.reduceLE, Int.reduceLT, Int.reduceToNat, Int.reduceEq, Int.cast_ofNat_Int, List.mem_cons, List.not_mem_nil, List.length_cons, List.length_nil, List.set_cons_zero, List.set_cons_succ, List.toList_toArray, eq_self, true_and, and_true, and_self, or_true, true_or, false_or, or_false, or_self, not_true_eq_false, not_false_eq_true, Classical.not_not, true_implies, false_implies, implies_true, forall_const, and_false, false_and, Nat.le_refl, Nat.zero_le, Bool.false_eq_true, lv_args, s_rl_at, s_gf, s_pf, dn_q, kd_q, cl_q, nf_q, ln_q, tg_q, rr_q, cr_q, u_1, e_lsw, k_ti, List.drop_succ_cons, List.drop_zero, List.drop_nil, List.zip_cons_cons, List.zip_nil_right, List.zip_nil_left, List.all_cons, List.all_nil, Bool.and_true, Bool.and_self, decide_true, decide_false, Option.toList, List.cons_append, List.nil_append, List.append_nil, DX8_reads_0, DX8_reads_1, DX8_reads_2, DX8_reads_3, FLX8, LDX8]
  exact lp_rd (T := T) C Rt hd hB hn hR (fun X hX => ⟨X, hX, rfl, rfl⟩) n 0 _ (by omega) ⟨kpT_u (by omega) (kpT_0 T), fun i hi => by omega⟩ rfl
