/-! FactLog$Items; FactLog: parcels' arrays -/
def spn (x y : Int32) (L : Nat) : Bool := decide (0 ≤ x.toInt ∧ 0 ≤ y.toInt ∧ x.toInt + y.toInt ≤ L)
theorem sub_L {x : Int32} {L : Nat} (hL : L ≤ 4000) (h0 : 0 ≤ x.toInt) (h1 : x.toInt ≤ L) : (nI L - x).toInt = L - x.toInt := by
  obtain ⟨j, hj, rfl⟩ : ∃ j : Nat, j ≤ L ∧ x = nI j := ⟨x.toInt.toNat, by omega, Int32.toInt_inj.mp (by rw [nI_toInt (by omega)]; omega)⟩
  rw [pk_sub hj, nI_toInt (by omega), nI_toInt (by omega)]
  omega
set_option maxHeartbeats 4000000 in
set_option maxRecDepth 100000 in
theorem m_X3_hasSpan (l : Launch) (A : pA) (S : pS) {b L : Nat} (hb : b < 2) (hL : L ≤ 4000) (hl : S.1 20 b 1 = nI L) (x y : Int32) : e_MX3_hasSpan l [.ref (ad A 20 b), .int x, .int y] (gS A S) (s_P A (fun v S2 => S = S2 ∧ v = some (.int (b2i (spn x y L))))) := by
  refine ofX3_hasSpan (Nat.le_of_ble_eq_true rfl) ?_
  intro V C Rt
  refine srnX3_hasSpan C Rt [] 40 ?_
  simp only [k_i, s_go, s_1, e_op, e_pi, e_pl, e_pr, e_p0, e_li, e_ll, e_lr, e_lk, e_ins, e_rm, e_to, e_sw, e_cmp, k_c, k_n, k_f, k_v, k_lg, ↓reduceIte, reduceCtorEq, Nat.reduceAdd, Nat.reduceSub, Nat.reduceMul, Nat.reduceEqDiff, Nat.reduceLT, Nat.reduceLeDiff, Int.reduceAdd, Int.reduceSub, Int.reduceNeg, Int.reduceLE, Int.reduceLT, Int.reduceToNat, Int.reduceEq, Int.cast_ofNat_Int, List.mem_cons, List.not_mem_nil, List.length_cons, List.length_nil, List.set_cons_zero, List.set_cons_succ, List.toList_toArray, eq_self, true_and, and_true, and_self, or_true, true_or, false_or, or_false, or_self, not_true_eq_false, not_false_eq_true, Classical.not_not, true_implies, false_implies, implies_true, forall_const, and_false, false_and, Nat.le_refl, Nat.zero_le, Bool.false_eq_true, lv_args, s_rl_at, s_gf, s_pf, dn_q, kd_q, cl_q, nf_q, ln_q, tg_q, rr_q, cr_q, u_1, e_lsw, k_ti, List.drop_succ_cons, List.drop_zero, List.drop_nil, List.zip_cons_cons, List.zip_nil_right, List.zip_nil_left, List.all_cons, List.all_nil, Bool.and_true, Bool.and_self, decide_true, decide_false, Option.toList, List.cons_append, List.nil_append, List.append_nil, DX3_hasSpan_0, FLX3, LDX3, hb, hl]
  have z0 : ((0 : Int32)).toInt = 0 := by decide
  have zL : (nI L).toInt = L := nI_toInt (by omega)
  refine ⟨fun h => ?_, fun h => ⟨fun h2 => ?_, fun h2 => ⟨fun h3 => ?_, fun h3 => ⟨fun h4 => ?_, fun h4 => ?_⟩⟩⟩⟩
  · rw [Int32.lt_iff_toInt_lt] at h
    have : spn x y L = false := by simp only [spn, decide_eq_false_iff_not]; omega
    rw [this]
    rfl
  · rw [Int32.lt_iff_toInt_lt] at h2
    have : spn x y L = false := by simp only [spn, decide_eq_false_iff_not]; omega
    rw [this]
    rfl
  · rw [Int32.lt_iff_toInt_lt] at h3 h2
    have : spn x y L = false := by simp only [spn, decide_eq_false_iff_not]; omega
    rw [this]
    rfl
  · rw [Int32.lt_iff_toInt_lt] at h h2 h3 h4
    rw [sub_L hL (by omega) (by omega)] at h4
    have : spn x y L = false := by simp only [spn, decide_eq_false_iff_not]; omega
    rw [this]
    rfl
  · rw [Int32.lt_iff_toInt_lt] at h h2 h3 h4
    rw [sub_L hL (by omega) (by omega)] at h4
    have : spn x y L = true := by simp only [spn, decide_eq_true_eq]; omega
    rw [this]
    rfl
/-- the first i items of array b are 0 -/
def zrS (S : pS) (b i : Nat) : pS := (fun k' i' j' => if k' = 21 ∧ i' = b ∧ j' < i then 0 else S.1 k' i' j', S.2)
theorem zrS_1 (S : pS) (b i k' i' j' : Nat) : (zrS S b i).1 k' i' j' = if k' = 21 ∧ i' = b ∧ j' < i then 0 else S.1 k' i' j' := rfl
theorem zrS_2 (S : pS) (b i : Nat) : (zrS S b i).2 = S.2 := rfl
theorem zrS_s {S : pS} {b i : Nat} : uI (zrS S b i) 21 b i 0 = zrS S b (i + 1) := by
  apply Prod.ext
  · funext k' i' j'
    simp only [zrS_1, u_1]
    grind
  · rfl
section
variable {V : pV} {l : Launch} {A : pA} {post : Option Value → pS → Prop} {S : pS}
set_option maxHeartbeats 4000000 in
set_option maxRecDepth 100000 in
theorem lp_begin (C : e_CX3_beginAnew V l) (Rt : e_RX3_beginAnew V (s_P A post)) {b n : Nat} {kk : Int32} (hb : b < 2) (hn : n ≤ 4000) (hp : post none (zrS S b n)) : ∀ m i, i + m = n → V 0 0 12 [(0, .ref (ad A 20 b)), (1, .int kk), (2, .int (nI n)), (3, .int (nI i))] [] (gS A (zrS S b i)) := by
  intro m
  induction m with
  | zero =>
    intro i hi
    have hi2 : i = n := by omega
    subst hi2
    refine srnX3_beginAnew C Rt [12] 40 ?_
    simp only [k_i, s_go, s_1, e_op, e_pi, e_pl, e_pr, e_p0, e_li, e_ll, e_lr, e_lk, e_ins, e_rm, e_to, e_sw, e_cmp, k_c, k_n, k_f, k_v, k_lg, ↓reduceIte, reduceCtorEq, Nat.reduceAdd, Nat.reduceSub, Nat.reduceMul, Nat.reduceEqDiff, Nat.reduceLT, Nat.reduceLeDiff, Int.reduceAdd, Int.reduceSub, Int.reduceNeg, Int.reduceLE, Int.reduceLT, Int.reduceToNat, Int.reduceEq, Int.cast_ofNat_Int, List.mem_cons, List.not_mem_nil, List.length_cons, List.length_nil, List.set_cons_zero, List.set_cons_succ, List.toList_toArray, eq_self, true_and, and_true, and_self, or_true, true_or, false_or, or_false, or_self, not_true_eq_false, not_false_eq_true, Classical.not_not, true_implies, false_implies, implies_true, forall_const, and_false, false_and, Nat.le_refl, Nat.zero_le, Bool.false_eq_true, lv_args, s_rl_at, s_gf, s_pf, dn_q, kd_q, cl_q, nf_q, ln_q, tg_q, rr_q, cr_q, u_1, e_lsw, k_ti, List.drop_succ_cons, List.drop_zero, List.drop_nil, List.zip_cons_cons, List.zip_nil_right, List.zip_nil_left, List.all_cons, List.all_nil, Bool.and_true, Bool.and_self, decide_true, decide_false, Option.toList, List.cons_append, List.nil_append, List.append_nil, DX3_beginAnew_0, FLX3, LDX3, x_le (a := i) (b := i) (by omega) (by omega)]
    exact hp
  | succ m ih =>
    intro i hi
    refine srnX3_beginAnew C Rt [12] 40 ?_
    simp only [k_i, s_go, s_1, e_op, e_pi, e_pl, e_pr, e_p0, e_li, e_ll, e_lr, e_lk, e_ins, e_rm, e_to, e_sw, e_cmp, k_c, k_n, k_f, k_v, k_lg, ↓reduceIte, reduceCtorEq, Nat.reduceAdd, Nat.reduceSub, Nat.reduceMul, Nat.reduceEqDiff, Nat.reduceLT, Nat.reduceLeDiff, Int.reduceAdd, Int.reduceSub, Int.reduceNeg, Int.reduceLE, Int.reduceLT, Int.reduceToNat, Int.reduceEq, Int.cast_ofNat_Int, List.mem_cons, List.not_mem_nil, List.length_cons, List.length_nil, List.set_cons_zero, List.set_cons_succ, List.toList_toArray, eq_self, true_and, and_true, and_self, or_true, true_or, false_or, or_false, or_self, not_true_eq_false, not_false_eq_true, Classical.not_not, true_implies, false_implies, implies_true, forall_const, and_false, false_and, Nat.le_refl, Nat.zero_le, Bool.false_eq_true, lv_args, s_rl_at, s_gf, s_pf, dn_q, kd_q, cl_q, nf_q, ln_q, tg_q, rr_q, cr_q, u_1, e_lsw, k_ti, List.drop_succ_cons, List.drop_zero, List.drop_nil, List.zip_cons_cons, List.zip_nil_right, List.zip_nil_left, List.all_cons, List.all_nil, Bool.and_true, Bool.and_self, decide_true, decide_false, Option.toList, List.cons_append, List.nil_append, List.append_nil, DX3_beginAnew_0, FLX3, LDX3, hb, x_le (a := n) (b := i) (by omega) (by omega), (show (4000 : Int32) = nI 4000 from rfl), x_le (a := 4000) (b := i) (by omega) (by omega), x_cl (a := i) (by omega), x_in (a := i) (n := 4000) (by omega), nI_1]
    refine ⟨fun h => by omega, fun _ => ⟨fun h => by omega, fun _ => ⟨by omega, ?_⟩⟩⟩
    rw [zrS_s]
    exact ih (i + 1) (by omega)
end
set_option maxHeartbeats 4000000 in
set_option maxRecDepth 100000 in
theorem m_X3_beginAnew (l : Launch) (A : pA) (S : pS) {b n : Nat} (kk : Int32) (hb : b < 2) (hn : n ≤ 4000) : e_MX3_beginAnew l [.ref (ad A 20 b), .int kk, .int (nI n)] (gS A S) (s_P A (fun v S2 => S2 = zrS (uI (uI S 20 b 0 kk) 20 b 1 (nI n)) b n ∧ v = none)) := by
  refine ofX3_beginAnew (Nat.le_of_ble_eq_true rfl) ?_
  intro V C Rt
  refine srnX3_beginAnew C Rt [12] 40 ?_
  simp only [k_i, s_go, s_1, e_op, e_pi, e_pl, e_pr, e_p0, e_li, e_ll, e_lr, e_lk, e_ins, e_rm, e_to, e_sw, e_cmp, k_c, k_n, k_f, k_v, k_lg, ↓reduceIte, reduceCtorEq, Nat.reduceAdd, Nat.reduceSub, Nat.reduceMul, Nat.reduceEqDiff, Nat.reduceLT, Nat.reduceLeDiff, Int.reduceAdd, Int.reduceSub, Int.reduceNeg, Int.reduceLE, Int.reduceLT, Int.reduceToNat, Int.reduceEq, Int.cast_ofNat_Int, List.mem_cons, List.not_mem_nil, List.length_cons, List.length_nil, List.set_cons_zero, List.set_cons_succ, List.toList_toArray, eq_self, true_and, and_true, and_self, or_true, true_or, false_or, or_false, or_self, not_true_eq_false, not_false_eq_true, Classical.not_not, true_implies, false_implies, implies_true, forall_const, and_false, false_and, Nat.le_refl, Nat.zero_le, Bool.false_eq_true, lv_args, s_rl_at, s_gf, s_pf, dn_q, kd_q, cl_q, nf_q, ln_q, tg_q, rr_q, cr_q, u_1, e_lsw, k_ti, List.drop_succ_cons, List.drop_zero, List.drop_nil, List.zip_cons_cons, List.zip_nil_right, List.zip_nil_left, List.all_cons, List.all_nil, Bool.and_true, Bool.and_self, decide_true, decide_false, Option.toList, List.cons_append, List.nil_append, List.append_nil, DX3_beginAnew_0, FLX3, LDX3, hb]
  have h0 : gS A (uI (uI S 20 b 0 kk) 20 b 1 (nI n)) = gS A (zrS (uI (uI S 20 b 0 kk) 20 b 1 (nI n)) b 0) := congrArg _ (Prod.ext (by funext k' i' j'; simp [zrS_1]) rfl)
  rw [h0]
  exact lp_begin C Rt hb hn ⟨rfl, rfl⟩ n 0 (by omega)
/-- OUT is array b, SHELF array c -/
def wfO (S : pS) (b c : Nat) : Prop := S.2.2 0 0 7 = (20, b) ∧ S.2.2 0 0 8 = (20, c) ∧ b < 2 ∧ c < 2 ∧ ¬ b = c ∧ (S.1 20 b 1 = nI (nN (S.1 20 b 1)) ∧ nN (S.1 20 b 1) ≤ 4000) ∧ (S.1 20 c 1 = nI (nN (S.1 20 c 1)) ∧ nN (S.1 20 c 1) ≤ 4000)
def shfC (S : pS) (c : Nat) (k n : Int32) : Int32 × pS := if ¬ S.1 11 0 1 = 0 then (-5, S) else if inr k 2 = false ∨ ¬ n ≤ 4000 then (-1, S) else if n < 0 then (-14, S) else (n, zrS (uI (uI S 20 c 0 (if k = 0 then 1 else 2)) 20 c 1 n) c (nN n))
theorem gt1 {x : Int32} : (1 < x) ↔ (2 : Int32) ≤ x := by
  rw [Int32.lt_iff_toInt_lt, Int32.le_iff_toInt_le]
  have h1 : ((1 : Int32)).toInt = 1 := by decide
  have h2 : ((2 : Int32)).toInt = 2 := by decide
  omega
set_option maxHeartbeats 4000000 in
set_option maxRecDepth 100000 in
theorem m_shelf (l : Launch) (A : pA) (S : pS) {b c : Nat} (hO : wfO S b c) (k n : Int32) : e_MX7_shelf l [.ref (ad A 0 0), .int k, .int n] (gS A S) (s_P A (isP (shfC S c k n))) := by
  obtain ⟨ho, hs, hb, hc, hne, -, -⟩ := hO
  refine ofX7_shelf (Nat.le_of_ble_eq_true rfl) ?_
  intro V C Rt
  have fin : S.1 11 0 1 = 0 → inr k 2 = true → n ≤ 4000 → ¬ n < 0 → ∀ kk, kk = (if k = 0 then (1 : Int32) else 2) → V 0 0 52 [(0, .ref (ad A 0 0)), (1, .int k), (2, .int n)] [.int n, .int kk, .ref (ad A 20 c)] (gS A S) := by
    intro hd hk h1 h2 kk hkk
    obtain ⟨j, hj, rfl⟩ := nI_of2 (M := 4000) (n := 4000) (by decide) h2 h1
    refine sX7_shelf_52 C (m_X3_beginAnew l A S kk hc hj) (s_obj hc rfl) (hcat := Nat.le_of_ble_eq_true rfl) (k := ?_)
    rintro v G2 ⟨S2, rfl, rfl, rfl⟩
    refine srnX7_shelf C Rt [] 40 ?_
    simp only [k_i, s_go, s_1, e_op, e_pi, e_pl, e_pr, e_p0, e_li, e_ll, e_lr, e_lk, e_ins, e_rm, e_to, e_sw, e_cmp, k_c, k_n, k_f, k_v, k_lg, ↓reduceIte, reduceCtorEq, Nat.reduceAdd, Nat.reduceSub, Nat.reduceMul, Nat.reduceEqDiff, Nat.reduceLT, Nat.reduceLeDiff, Int.reduceAdd, Int.reduceSub, Int.reduceNeg, Int.reduceLE, Int.reduceLT, Int.reduceToNat, Int.reduceEq, Int.cast_ofNat_Int, List.mem_cons, List.not_mem_nil, List.length_cons, List.length_nil, List.set_cons_zero, List.set_cons_succ, List.toList_toArray, eq_self, true_and, and_true, and_self, or_true, true_or, false_or, or_false, or_self, not_true_eq_false, not_false_eq_true, Classical.not_not, true_implies, false_implies, implies_true, forall_const, and_false, false_and, Nat.le_refl, Nat.zero_le, Bool.false_eq_true, lv_args, s_rl_at, s_gf, s_pf, dn_q, kd_q, cl_q, nf_q, ln_q, tg_q, rr_q, cr_q, u_1, e_lsw, k_ti, List.drop_succ_cons, List.drop_zero, List.drop_nil, List.zip_cons_cons, List.zip_nil_right, List.zip_nil_left, List.all_cons, List.all_nil, Bool.and_true, Bool.and_self, decide_true, decide_false, Option.toList, List.cons_append, List.nil_append, List.append_nil, DX7_shelf_0, FLX7, LDX7]
    have h3 : ¬ ¬ nI j ≤ 4000 := fun z => z h1
    simp [isP, shfC, hd, hk, h1, h2, hkk, nN_nI (show j < 2147483648 by omega)]
  refine srnX7_shelf C Rt [52] 60 ?_
  simp only [k_i, s_go, s_1, e_op, e_pi, e_pl, e_pr, e_p0, e_li, e_ll, e_lr, e_lk, e_ins, e_rm, e_to, e_sw, e_cmp, k_c, k_n, k_f, k_v, k_lg, ↓reduceIte, reduceCtorEq, Nat.reduceAdd, Nat.reduceSub, Nat.reduceMul, Nat.reduceEqDiff, Nat.reduceLT, Nat.reduceLeDiff, Int.reduceAdd, Int.reduceSub, Int.reduceNeg, Int.reduceLE, Int.reduceLT, Int.reduceToNat, Int.reduceEq, Int.cast_ofNat_Int, List.mem_cons, List.not_mem_nil, List.length_cons, List.length_nil, List.set_cons_zero, List.set_cons_succ, List.toList_toArray, eq_self, true_and, and_true, and_self, or_true, true_or, false_or, or_false, or_self, not_true_eq_false, not_false_eq_true, Classical.not_not, true_implies, false_implies, implies_true, forall_const, and_false, false_and, Nat.le_refl, Nat.zero_le, Bool.false_eq_true, lv_args, s_rl_at, s_gf, s_pf, dn_q, kd_q, cl_q, nf_q, ln_q, tg_q, rr_q, cr_q, u_1, e_lsw, k_ti, List.drop_succ_cons, List.drop_zero, List.drop_nil, List.zip_cons_cons, List.zip_nil_right, List.zip_nil_left, List.all_cons, List.all_nil, Bool.and_true, Bool.and_self, decide_true, decide_false, Option.toList, List.cons_append, List.nil_append, List.append_nil, DX7_shelf_0, FLX7, LDX7, hs]
  refine ⟨fun hd => ⟨fun h => ?_, fun h => ⟨fun h2 => ?_, fun h2 => ⟨fun h3 => ⟨fun h4 => ⟨fun h5 => ?_, fun h5 => ?_⟩, fun h4 => ?_⟩, fun h3 => ?_⟩⟩⟩, fun hd => by simp [isP, shfC, hd]⟩
  · simp [isP, shfC, hd, inr_lo h]
  · simp [isP, shfC, hd, inr_hi (n := 2) (m := 2) (by decide) (gt1.mp h2)]
  · exact fin hd (inr_in (m := 2) (by decide) h (fun z => h2 (gt1.mpr z))) h3 (Int32.not_lt.mpr h4) 2 (by simp [h5])
  · exact fin hd (inr_in (m := 2) (by decide) h (fun z => h2 (gt1.mpr z))) h3 (Int32.not_lt.mpr h4) 1 (by simp [h5])
  · have hk : inr k 2 = true := inr_in (m := 2) (by decide) h (fun z => h2 (gt1.mpr z))
    simp [isP, shfC, hd, hk, h3, Int32.not_le.mp h4]
  · simp [isP, shfC, hd, h3]
def swpS (S : pS) (b c : Nat) : pS := uQ (uQ S 0 0 7 (20, c)) 0 0 8 (20, b)
def swpC (S : pS) (b c : Nat) : Int32 × pS := if ¬ S.1 11 0 1 = 0 then (-5, S) else (S.1 20 c 0, swpS S b c)
set_option maxHeartbeats 4000000 in
set_option maxRecDepth 100000 in
theorem m_swap (l : Launch) (A : pA) (S : pS) {b c : Nat} (hO : wfO S b c) : e_MX7_swap l [.ref (ad A 0 0)] (gS A S) (s_P A (isP (swpC S b c))) := by
  obtain ⟨ho, hs, hb, hc, hne, -, -⟩ := hO
  refine ofX7_swap (Nat.le_of_ble_eq_true rfl) ?_
  intro V C Rt
  refine srnX7_swap C Rt [] 60 ?_
  simp only [k_i, s_go, s_1, e_op, e_pi, e_pl, e_pr, e_p0, e_li, e_ll, e_lr, e_lk, e_ins, e_rm, e_to, e_sw, e_cmp, k_c, k_n, k_f, k_v, k_lg, ↓reduceIte, reduceCtorEq, Nat.reduceAdd, Nat.reduceSub, Nat.reduceMul, Nat.reduceEqDiff, Nat.reduceLT, Nat.reduceLeDiff, Int.reduceAdd, Int.reduceSub, Int.reduceNeg, Int.reduceLE, Int.reduceLT, Int.reduceToNat, Int.reduceEq, Int.cast_ofNat_Int, List.mem_cons, List.not_mem_nil, List.length_cons, List.length_nil, List.set_cons_zero, List.set_cons_succ, List.toList_toArray, eq_self, true_and, and_true, and_self, or_true, true_or, false_or, or_false, or_self, not_true_eq_false, not_false_eq_true, Classical.not_not, true_implies, false_implies, implies_true, forall_const, and_false, false_and, Nat.le_refl, Nat.zero_le, Bool.false_eq_true, lv_args, s_rl_at, s_gf, s_pf, dn_q, kd_q, cl_q, nf_q, ln_q, tg_q, rr_q, cr_q, u_1, e_lsw, k_ti, List.drop_succ_cons, List.drop_zero, List.drop_nil, List.zip_cons_cons, List.zip_nil_right, List.zip_nil_left, List.all_cons, List.all_nil, Bool.and_true, Bool.and_self, decide_true, decide_false, Option.toList, List.cons_append, List.nil_append, List.append_nil, DX7_swap_0, FLX7, LDX7, ho, hs, hb, hc]
  refine ⟨fun hd => ?_, fun hd => by simp [isP, swpC, hd]⟩
  simp [isP, swpC, hd, swpS]
def itmC (S : pS) (b : Nat) (i : Int32) : Int32 := if ¬ S.1 11 0 1 = 0 then -5 else if S.1 20 b 0 = 0 then -11 else if i = -1 then S.1 20 b 1 else if spn i 1 (nN (S.1 20 b 1)) = false then -12 else S.1 21 b (nN i)
theorem spn_of {x y : Int32} {L : Nat} (hL : L ≤ 4000) (h : spn x y L = true) : ∃ i n : Nat, x = nI i ∧ y = nI n ∧ i + n ≤ L := by
  simp only [spn, decide_eq_true_eq] at h
  refine ⟨x.toInt.toNat, y.toInt.toNat, Int32.toInt_inj.mp ?_, Int32.toInt_inj.mp ?_, by omega⟩
  · rw [nI_toInt (by omega)]
    omega
  · rw [nI_toInt (by omega)]
    omega
set_option maxHeartbeats 4000000 in
set_option maxRecDepth 100000 in
theorem m_item (l : Launch) (A : pA) (S : pS) {b c : Nat} (hO : wfO S b c) (i : Int32) : e_MX7_item l [.ref (ad A 0 0), .int i] (gS A S) (s_P A (isP (itmC S b i, S))) := by
  obtain ⟨ho, hs, hb, hc, hne, ⟨hl, hL⟩, -⟩ := hO
  refine ofX7_item (Nat.le_of_ble_eq_true rfl) ?_
  intro V C Rt
  refine srnX7_item C Rt [] 60 ?_
  simp only [k_i, s_go, s_1, e_op, e_pi, e_pl, e_pr, e_p0, e_li, e_ll, e_lr, e_lk, e_ins, e_rm, e_to, e_sw, e_cmp, k_c, k_n, k_f, k_v, k_lg, ↓reduceIte, reduceCtorEq, Nat.reduceAdd, Nat.reduceSub, Nat.reduceMul, Nat.reduceEqDiff, Nat.reduceLT, Nat.reduceLeDiff, Int.reduceAdd, Int.reduceSub, Int.reduceNeg, Int.reduceLE, Int.reduceLT, Int.reduceToNat, Int.reduceEq, Int.cast_ofNat_Int, List.mem_cons, List.not_mem_nil, List.length_cons, List.length_nil, List.set_cons_zero, List.set_cons_succ, List.toList_toArray, eq_self, true_and, and_true, and_self, or_true, true_or, false_or, or_false, or_self, not_true_eq_false, not_false_eq_true, Classical.not_not, true_implies, false_implies, implies_true, forall_const, and_false, false_and, Nat.le_refl, Nat.zero_le, Bool.false_eq_true, lv_args, s_rl_at, s_gf, s_pf, dn_q, kd_q, cl_q, nf_q, ln_q, tg_q, rr_q, cr_q, u_1, e_lsw, k_ti, List.drop_succ_cons, List.drop_zero, List.drop_nil, List.zip_cons_cons, List.zip_nil_right, List.zip_nil_left, List.all_cons, List.all_nil, Bool.and_true, Bool.and_self, decide_true, decide_false, Option.toList, List.cons_append, List.nil_append, List.append_nil, DX7_item_0, FLX7, LDX7, ho, hs, hb, hc]
  refine ⟨fun hd => ⟨fun h => ⟨fun h2 => ?_, fun h2 => ?_⟩, fun h => by simp [isP, itmC, hd, h]⟩, fun hd => by simp [isP, itmC, hd]⟩
  · refine sX7_item_45 C (m_X3_hasSpan l A S hb hL hl i 1) (s_obj hb rfl) (hcat := Nat.le_of_ble_eq_true rfl) (k := ?_)
    rintro v G2 ⟨S2, rfl, rfl, rfl⟩
    cases hx : spn i 1 (nN (S.1 20 b 1)) with
    | false =>
      refine srnX7_item C Rt [] 60 ?_
      simp only [k_i, s_go, s_1, e_op, e_pi, e_pl, e_pr, e_p0, e_li, e_ll, e_lr, e_lk, e_ins, e_rm, e_to, e_sw, e_cmp, k_c, k_n, k_f, k_v, k_lg, ↓reduceIte, reduceCtorEq, Nat.reduceAdd, Nat.reduceSub, Nat.reduceMul, Nat.reduceEqDiff, Nat.reduceLT, Nat.reduceLeDiff, Int.reduceAdd, Int.reduceSub, Int.reduceNeg, Int.reduceLE, Int.reduceLT, Int.reduceToNat, Int.reduceEq, Int.cast_ofNat_Int, List.mem_cons, List.not_mem_nil, List.length_cons, List.length_nil, List.set_cons_zero, List.set_cons_succ, List.toList_toArray, eq_self, true_and, and_true, and_self, or_true, true_or, false_or, or_false, or_self, not_true_eq_false, not_false_eq_true, Classical.not_not, true_implies, false_implies, implies_true, forall_const, and_false, false_and, Nat.le_refl, Nat.zero_le, Bool.false_eq_true, lv_args, s_rl_at, s_gf, s_pf, dn_q, kd_q, cl_q, nf_q, ln_q, tg_q, rr_q, cr_q, u_1, e_lsw, k_ti, List.drop_succ_cons, List.drop_zero, List.drop_nil, List.zip_cons_cons, List.zip_nil_right, List.zip_nil_left, List.all_cons, List.all_nil, Bool.and_true, Bool.and_self, decide_true, decide_false, Option.toList, List.cons_append, List.nil_append, List.append_nil, DX7_item_0, FLX7, LDX7, b2i_f]
      simp [isP, itmC, hd, h, h2, hx]
    | true =>
      obtain ⟨j, n, rfl, e2, h3⟩ := spn_of hL hx
      have hn : n = 1 := by
        have := congrArg Int32.toInt e2
        rw [nI_toInt (show n < 2 ^ 31 by omega)] at this
        have h9 : ((1 : Int32)).toInt = 1 := by decide
        omega
      refine srnX7_item C Rt [] 60 ?_
      simp only [k_i, s_go, s_1, e_op, e_pi, e_pl, e_pr, e_p0, e_li, e_ll, e_lr, e_lk, e_ins, e_rm, e_to, e_sw, e_cmp, k_c, k_n, k_f, k_v, k_lg, ↓reduceIte, reduceCtorEq, Nat.reduceAdd, Nat.reduceSub, Nat.reduceMul, Nat.reduceEqDiff, Nat.reduceLT, Nat.reduceLeDiff, Int.reduceAdd, Int.reduceSub, Int.reduceNeg, Int.reduceLE, Int.reduceLT, Int.reduceToNat, Int.reduceEq, Int.cast_ofNat_Int, List.mem_cons, List.not_mem_nil, List.length_cons, List.length_nil, List.set_cons_zero, List.set_cons_succ, List.toList_toArray, eq_self, true_and, and_true, and_self, or_true, true_or, false_or, or_false, or_self, not_true_eq_false, not_false_eq_true, Classical.not_not, true_implies, false_implies, implies_true, forall_const, and_false, false_and, Nat.le_refl, Nat.zero_le, Bool.false_eq_true, lv_args, s_rl_at, s_gf, s_pf, dn_q, kd_q, cl_q, nf_q, ln_q, tg_q, rr_q, cr_q, u_1, e_lsw, k_ti, List.drop_succ_cons, List.drop_zero, List.drop_nil, List.zip_cons_cons, List.zip_nil_right, List.zip_nil_left, List.all_cons, List.all_nil, Bool.and_true, Bool.and_self, decide_true, decide_false, Option.toList, List.cons_append, List.nil_append, List.append_nil, DX7_item_0, FLX7, LDX7, b2i_t, ho, hb, x_cl (a := j) (by omega), x_in (a := j) (n := 4000) (by omega)]
      refine ⟨by omega, ?_⟩
      simp [isP, itmC, hd, h, h2, hx, nN_nI (show j < 2147483648 by omega)]
  · simp [isP, itmC, hd, h, h2]
def setC (S : pS) (b : Nat) (i v : Int32) : Int32 × pS := if ¬ S.1 11 0 1 = 0 then (-5, S) else if S.1 20 b 0 = 0 then (-11, S) else if spn i 1 (nN (S.1 20 b 1)) = false then (-12, S) else (1, uI S 21 b (nN i) (if S.1 20 b 0 = 1 then v &&& 255 else v))
set_option maxHeartbeats 4000000 in
set_option maxRecDepth 100000 in
theorem m_set (l : Launch) (A : pA) (S : pS) {b c : Nat} (hO : wfO S b c) (i v : Int32) : e_MX7_set l [.ref (ad A 0 0), .int i, .int v] (gS A S) (s_P A (isP (setC S b i v))) := by
  obtain ⟨ho, hs, hb, hc, hne, ⟨hl, hL⟩, -⟩ := hO
  refine ofX7_set (Nat.le_of_ble_eq_true rfl) ?_
  intro V C Rt
  refine srnX7_set C Rt [] 60 ?_
  simp only [k_i, s_go, s_1, e_op, e_pi, e_pl, e_pr, e_p0, e_li, e_ll, e_lr, e_lk, e_ins, e_rm, e_to, e_sw, e_cmp, k_c, k_n, k_f, k_v, k_lg, ↓reduceIte, reduceCtorEq, Nat.reduceAdd, Nat.reduceSub, Nat.reduceMul, Nat.reduceEqDiff, Nat.reduceLT, Nat.reduceLeDiff, Int.reduceAdd, Int.reduceSub, Int.reduceNeg, Int.reduceLE, Int.reduceLT, Int.reduceToNat, Int.reduceEq, Int.cast_ofNat_Int, List.mem_cons, List.not_mem_nil, List.length_cons, List.length_nil, List.set_cons_zero, List.set_cons_succ, List.toList_toArray, eq_self, true_and, and_true, and_self, or_true, true_or, false_or, or_false, or_self, not_true_eq_false, not_false_eq_true, Classical.not_not, true_implies, false_implies, implies_true, forall_const, and_false, false_and, Nat.le_refl, Nat.zero_le, Bool.false_eq_true, lv_args, s_rl_at, s_gf, s_pf, dn_q, kd_q, cl_q, nf_q, ln_q, tg_q, rr_q, cr_q, u_1, e_lsw, k_ti, List.drop_succ_cons, List.drop_zero, List.drop_nil, List.zip_cons_cons, List.zip_nil_right, List.zip_nil_left, List.all_cons, List.all_nil, Bool.and_true, Bool.and_self, decide_true, decide_false, Option.toList, List.cons_append, List.nil_append, List.append_nil, DX7_set_0, FLX7, LDX7, ho, hs, hb, hc]
  refine ⟨fun hd => ⟨fun h => ?_, fun h => by simp [isP, setC, hd, h]⟩, fun hd => by simp [isP, setC, hd]⟩
  refine sX7_set_32 C (m_X3_hasSpan l A S hb hL hl i 1) (s_obj hb rfl) (hcat := Nat.le_of_ble_eq_true rfl) (k := ?_)
  rintro v9 G2 ⟨S2, rfl, rfl, rfl⟩
  cases hx : spn i 1 (nN (S.1 20 b 1)) with
  | false =>
    refine srnX7_set C Rt [] 60 ?_
    simp only [k_i, s_go, s_1, e_op, e_pi, e_pl, e_pr, e_p0, e_li, e_ll, e_lr, e_lk, e_ins, e_rm, e_to, e_sw, e_cmp, k_c, k_n, k_f, k_v, k_lg, ↓reduceIte, reduceCtorEq, Nat.reduceAdd, Nat.reduceSub, Nat.reduceMul, Nat.reduceEqDiff, Nat.reduceLT, Nat.reduceLeDiff, Int.reduceAdd, Int.reduceSub, Int.reduceNeg, Int.reduceLE, Int.reduceLT, Int.reduceToNat, Int.reduceEq, Int.cast_ofNat_Int, List.mem_cons, List.not_mem_nil, List.length_cons, List.length_nil, List.set_cons_zero, List.set_cons_succ, List.toList_toArray, eq_self, true_and, and_true, and_self, or_true, true_or, false_or, or_false, or_self, not_true_eq_false, not_false_eq_true, Classical.not_not, true_implies, false_implies, implies_true, forall_const, and_false, false_and, Nat.le_refl, Nat.zero_le, Bool.false_eq_true, lv_args, s_rl_at, s_gf, s_pf, dn_q, kd_q, cl_q, nf_q, ln_q, tg_q, rr_q, cr_q, u_1, e_lsw, k_ti, List.drop_succ_cons, List.drop_zero, List.drop_nil, List.zip_cons_cons, List.zip_nil_right, List.zip_nil_left, List.all_cons, List.all_nil, Bool.and_true, Bool.and_self, decide_true, decide_false, Option.toList, List.cons_append, List.nil_append, List.append_nil, DX7_set_0, FLX7, LDX7, b2i_f]
    simp [isP, setC, hd, h, hx]
  | true =>
    obtain ⟨j, n, rfl, e2, h3⟩ := spn_of hL hx
    have hn : n = 1 := by
      have := congrArg Int32.toInt e2
      rw [nI_toInt (show n < 2 ^ 31 by omega)] at this
      have h9 : ((1 : Int32)).toInt = 1 := by decide
      omega
    refine srnX7_set C Rt [] 60 ?_
    simp only [k_i, s_go, s_1, e_op, e_pi, e_pl, e_pr, e_p0, e_li, e_ll, e_lr, e_lk, e_ins, e_rm, e_to, e_sw, e_cmp, k_c, k_n, k_f, k_v, k_lg, ↓reduceIte, reduceCtorEq, Nat.reduceAdd, Nat.reduceSub, Nat.reduceMul, Nat.reduceEqDiff, Nat.reduceLT, Nat.reduceLeDiff, Int.reduceAdd, Int.reduceSub, Int.reduceNeg, Int.reduceLE, Int.reduceLT, Int.reduceToNat, Int.reduceEq, Int.cast_ofNat_Int, List.mem_cons, List.not_mem_nil, List.length_cons, List.length_nil, List.set_cons_zero, List.set_cons_succ, List.toList_toArray, eq_self, true_and, and_true, and_self, or_true, true_or, false_or, or_false, or_self, not_true_eq_false, not_false_eq_true, Classical.not_not, true_implies, false_implies, implies_true, forall_const, and_false, false_and, Nat.le_refl, Nat.zero_le, Bool.false_eq_true, lv_args, s_rl_at, s_gf, s_pf, dn_q, kd_q, cl_q, nf_q, ln_q, tg_q, rr_q, cr_q, u_1, e_lsw, k_ti, List.drop_succ_cons, List.drop_zero, List.drop_nil, List.zip_cons_cons, List.zip_nil_right, List.zip_nil_left, List.all_cons, List.all_nil, Bool.and_true, Bool.and_self, decide_true, decide_false, Option.toList, List.cons_append, List.nil_append, List.append_nil, DX7_set_0, FLX7, LDX7, b2i_t, ho, hb, x_cl (a := j) (by omega), x_in (a := j) (n := 4000) (by omega)]
    refine ⟨fun h4 => ⟨by omega, ?_⟩, fun h4 => ⟨by omega, ?_⟩⟩
    · simp [isP, setC, hd, h, h4, hx, nN_nI (show j < 2147483648 by omega)]
    · simp [isP, setC, hd, h, h4, hx, nN_nI (show j < 2147483648 by omega)]
def movC (S : pS) (b c : Nat) (i j n : Int32) : Int32 × pS := if ¬ S.1 11 0 1 = 0 then (-5, S) else if S.1 20 b 0 = 0 ∨ S.1 20 c 0 = 0 then (-11, S) else if ¬ S.1 20 b 0 = S.1 20 c 0 then (-13, S) else if spn i n (nN (S.1 20 b 1)) = false ∨ spn j n (nN (S.1 20 c 1)) = false then (-12, S) else (n, cpS S b c (nN i) (nN j) (nN n))
set_option maxHeartbeats 4000000 in
set_option maxRecDepth 100000 in
theorem m_move (l : Launch) (A : pA) (S : pS) {b c : Nat} (hO : wfO S b c) (i j n : Int32) : e_MX7_move l [.ref (ad A 0 0), .int i, .int j, .int n] (gS A S) (s_P A (isP (movC S b c i j n))) := by
  obtain ⟨ho, hs, hb, hc, hne, ⟨hl, hL⟩, hl2, hL2⟩ := hO
  refine ofX7_move (Nat.le_of_ble_eq_true rfl) ?_
  intro V C Rt
  refine srnX7_move C Rt [] 60 ?_
  simp only [k_i, s_go, s_1, e_op, e_pi, e_pl, e_pr, e_p0, e_li, e_ll, e_lr, e_lk, e_ins, e_rm, e_to, e_sw, e_cmp, k_c, k_n, k_f, k_v, k_lg, ↓reduceIte, reduceCtorEq, Nat.reduceAdd, Nat.reduceSub, Nat.reduceMul, Nat.reduceEqDiff, Nat.reduceLT, Nat.reduceLeDiff, Int.reduceAdd, Int.reduceSub, Int.reduceNeg, Int.reduceLE, Int.reduceLT, Int.reduceToNat, Int.reduceEq, Int.cast_ofNat_Int, List.mem_cons, List.not_mem_nil, List.length_cons, List.length_nil, List.set_cons_zero, List.set_cons_succ, List.toList_toArray, eq_self, true_and, and_true, and_self, or_true, true_or, false_or, or_false, or_self, not_true_eq_false, not_false_eq_true, Classical.not_not, true_implies, false_implies, implies_true, forall_const, and_false, false_and, Nat.le_refl, Nat.zero_le, Bool.false_eq_true, lv_args, s_rl_at, s_gf, s_pf, dn_q, kd_q, cl_q, nf_q, ln_q, tg_q, rr_q, cr_q, u_1, e_lsw, k_ti, List.drop_succ_cons, List.drop_zero, List.drop_nil, List.zip_cons_cons, List.zip_nil_right, List.zip_nil_left, List.all_cons, List.all_nil, Bool.and_true, Bool.and_self, decide_true, decide_false, Option.toList, List.cons_append, List.nil_append, List.append_nil, DX7_move_0, DX7_move_1, FLX7, LDX7, ho, hs, hb, hc]
  refine ⟨fun hd => ⟨fun h => by simp [isP, movC, hd, h], fun h => ⟨fun h2 => ⟨fun h3 => ?_, fun h3 => by simp [isP, movC, hd, h, h2, h3]⟩, fun h2 => by simp [isP, movC, hd, h, h2]⟩⟩, fun hd => by simp [isP, movC, hd]⟩
  refine sX7_move_62 C (m_X3_hasSpan l A S hb hL hl i n) (s_obj hb rfl) (hcat := Nat.le_of_ble_eq_true rfl) (k := ?_)
  rintro v9 G2 ⟨S2, rfl, rfl, rfl⟩
  cases hx : spn i n (nN (S.1 20 b 1)) with
  | false =>
    refine srnX7_move C Rt [] 60 ?_
    simp only [k_i, s_go, s_1, e_op, e_pi, e_pl, e_pr, e_p0, e_li, e_ll, e_lr, e_lk, e_ins, e_rm, e_to, e_sw, e_cmp, k_c, k_n, k_f, k_v, k_lg, ↓reduceIte, reduceCtorEq, Nat.reduceAdd, Nat.reduceSub, Nat.reduceMul, Nat.reduceEqDiff, Nat.reduceLT, Nat.reduceLeDiff, Int.reduceAdd, Int.reduceSub, Int.reduceNeg, Int.reduceLE, Int.reduceLT, Int.reduceToNat, Int.reduceEq, Int.cast_ofNat_Int, List.mem_cons, List.not_mem_nil, List.length_cons, List.length_nil, List.set_cons_zero, List.set_cons_succ, List.toList_toArray, eq_self, true_and, and_true, and_self, or_true, true_or, false_or, or_false, or_self, not_true_eq_false, not_false_eq_true, Classical.not_not, true_implies, false_implies, implies_true, forall_const, and_false, false_and, Nat.le_refl, Nat.zero_le, Bool.false_eq_true, lv_args, s_rl_at, s_gf, s_pf, dn_q, kd_q, cl_q, nf_q, ln_q, tg_q, rr_q, cr_q, u_1, e_lsw, k_ti, List.drop_succ_cons, List.drop_zero, List.drop_nil, List.zip_cons_cons, List.zip_nil_right, List.zip_nil_left, List.all_cons, List.all_nil, Bool.and_true, Bool.and_self, decide_true, decide_false, Option.toList, List.cons_append, List.nil_append, List.append_nil, DX7_move_0, DX7_move_1, FLX7, LDX7, b2i_f]
    simp [isP, movC, hd, h, h2, h3, hx]
  | true =>
    refine srnX7_move C Rt [] 60 ?_
    simp only [k_i, s_go, s_1, e_op, e_pi, e_pl, e_pr, e_p0, e_li, e_ll, e_lr, e_lk, e_ins, e_rm, e_to, e_sw, e_cmp, k_c, k_n, k_f, k_v, k_lg, ↓reduceIte, reduceCtorEq, Nat.reduceAdd, Nat.reduceSub, Nat.reduceMul, Nat.reduceEqDiff, Nat.reduceLT, Nat.reduceLeDiff, Int.reduceAdd, Int.reduceSub, Int.reduceNeg, Int.reduceLE, Int.reduceLT, Int.reduceToNat, Int.reduceEq, Int.cast_ofNat_Int, List.mem_cons, List.not_mem_nil, List.length_cons, List.length_nil, List.set_cons_zero, List.set_cons_succ, List.toList_toArray, eq_self, true_and, and_true, and_self, or_true, true_or, false_or, or_false, or_self, not_true_eq_false, not_false_eq_true, Classical.not_not, true_implies, false_implies, implies_true, forall_const, and_false, false_and, Nat.le_refl, Nat.zero_le, Bool.false_eq_true, lv_args, s_rl_at, s_gf, s_pf, dn_q, kd_q, cl_q, nf_q, ln_q, tg_q, rr_q, cr_q, u_1, e_lsw, k_ti, List.drop_succ_cons, List.drop_zero, List.drop_nil, List.zip_cons_cons, List.zip_nil_right, List.zip_nil_left, List.all_cons, List.all_nil, Bool.and_true, Bool.and_self, decide_true, decide_false, Option.toList, List.cons_append, List.nil_append, List.append_nil, DX7_move_0, DX7_move_1, FLX7, LDX7, b2i_t, hs]
    refine sX7_move_74 C (m_X3_hasSpan l A S hc hL2 hl2 j n) (s_obj hc rfl) (hcat := Nat.le_of_ble_eq_true rfl) (k := ?_)
    rintro v9 G2 ⟨S2, rfl, rfl, rfl⟩
    cases hy : spn j n (nN (S.1 20 c 1)) with
    | false =>
      refine srnX7_move C Rt [] 60 ?_
      simp only [k_i, s_go, s_1, e_op, e_pi, e_pl, e_pr, e_p0, e_li, e_ll, e_lr, e_lk, e_ins, e_rm, e_to, e_sw, e_cmp, k_c, k_n, k_f, k_v, k_lg, ↓reduceIte, reduceCtorEq, Nat.reduceAdd, Nat.reduceSub, Nat.reduceMul, Nat.reduceEqDiff, Nat.reduceLT, Nat.reduceLeDiff, Int.reduceAdd, Int.reduceSub, Int.reduceNeg, Int.reduceLE, Int.reduceLT, Int.reduceToNat, Int.reduceEq, Int.cast_ofNat_Int, List.mem_cons, List.not_mem_nil, List.length_cons, List.length_nil, List.set_cons_zero, List.set_cons_succ, List.toList_toArray, eq_self, true_and, and_true, and_self, or_true, true_or, false_or, or_false, or_self, not_true_eq_false, not_false_eq_true, Classical.not_not, true_implies, false_implies, implies_true, forall_const, and_false, false_and, Nat.le_refl, Nat.zero_le, Bool.false_eq_true, lv_args, s_rl_at, s_gf, s_pf, dn_q, kd_q, cl_q, nf_q, ln_q, tg_q, rr_q, cr_q, u_1, e_lsw, k_ti, List.drop_succ_cons, List.drop_zero, List.drop_nil, List.zip_cons_cons, List.zip_nil_right, List.zip_nil_left, List.all_cons, List.all_nil, Bool.and_true, Bool.and_self, decide_true, decide_false, Option.toList, List.cons_append, List.nil_append, List.append_nil, DX7_move_0, DX7_move_1, FLX7, LDX7, b2i_f]
      simp [isP, movC, hd, h, h2, h3, hx, hy]
    | true =>
      obtain ⟨i', n', rfl, rfl, h5⟩ := spn_of hL hx
      obtain ⟨j', n2, rfl, e2, h6⟩ := spn_of hL2 hy
      have hn : n' = n2 := (nI_eq (by omega) (by omega)).mp e2
      subst hn
      refine srnX7_move C Rt [] 60 ?_
      simp only [k_i, s_go, s_1, e_op, e_pi, e_pl, e_pr, e_p0, e_li, e_ll, e_lr, e_lk, e_ins, e_rm, e_to, e_sw, e_cmp, k_c, k_n, k_f, k_v, k_lg, ↓reduceIte, reduceCtorEq, Nat.reduceAdd, Nat.reduceSub, Nat.reduceMul, Nat.reduceEqDiff, Nat.reduceLT, Nat.reduceLeDiff, Int.reduceAdd, Int.reduceSub, Int.reduceNeg, Int.reduceLE, Int.reduceLT, Int.reduceToNat, Int.reduceEq, Int.cast_ofNat_Int, List.mem_cons, List.not_mem_nil, List.length_cons, List.length_nil, List.set_cons_zero, List.set_cons_succ, List.toList_toArray, eq_self, true_and, and_true, and_self, or_true, true_or, false_or, or_false, or_self, not_true_eq_false, not_false_eq_true, Classical.not_not, true_implies, false_implies, implies_true, forall_const, and_false, false_and, Nat.le_refl, Nat.zero_le, Bool.false_eq_true, lv_args, s_rl_at, s_gf, s_pf, dn_q, kd_q, cl_q, nf_q, ln_q, tg_q, rr_q, cr_q, u_1, e_lsw, k_ti, List.drop_succ_cons, List.drop_zero, List.drop_nil, List.zip_cons_cons, List.zip_nil_right, List.zip_nil_left, List.all_cons, List.all_nil, Bool.and_true, Bool.and_self, decide_true, decide_false, Option.toList, List.cons_append, List.nil_append, List.append_nil, DX7_move_0, DX7_move_1, FLX7, LDX7, b2i_t, ho, hs, hb, hc]
      refine r_copy C (fun _ h => List.mem_cons_of_mem _ h) (WS_at 619 (by decide +kernel) rfl) (WS_at 621 (by decide +kernel) rfl) (WS_at 620 (by decide +kernel) rfl) (WS_at 44 (by decide +kernel) rfl) (s_a2 (k := 21) hb rfl) (s_a2 (k := 21) hc rfl) (nI_pos (by omega)) (nI_pos (by omega)) (nI_pos (by omega)) (by rw [x_cl (by omega), x_cl (by omega)]; show _ ≤ 4000; omega) (by rw [x_cl (by omega), x_cl (by omega)]; show _ ≤ 4000; omega) ⟨by decide, by decide⟩ DX7_move_1.2.2.2.2.2.2.2.2.1 ?_
      rw [show (ln 21) = 4000 from rfl, cpS_up hc, x_cl (show i' < 2147483648 by omega), x_cl (show j' < 2147483648 by omega), x_cl (show n' < 2147483648 by omega)]
      refine srnX7_move C Rt [] 60 ?_
      simp only [k_i, s_go, s_1, e_op, e_pi, e_pl, e_pr, e_p0, e_li, e_ll, e_lr, e_lk, e_ins, e_rm, e_to, e_sw, e_cmp, k_c, k_n, k_f, k_v, k_lg, ↓reduceIte, reduceCtorEq, Nat.reduceAdd, Nat.reduceSub, Nat.reduceMul, Nat.reduceEqDiff, Nat.reduceLT, Nat.reduceLeDiff, Int.reduceAdd, Int.reduceSub, Int.reduceNeg, Int.reduceLE, Int.reduceLT, Int.reduceToNat, Int.reduceEq, Int.cast_ofNat_Int, List.mem_cons, List.not_mem_nil, List.length_cons, List.length_nil, List.set_cons_zero, List.set_cons_succ, List.toList_toArray, eq_self, true_and, and_true, and_self, or_true, true_or, false_or, or_false, or_self, not_true_eq_false, not_false_eq_true, Classical.not_not, true_implies, false_implies, implies_true, forall_const, and_false, false_and, Nat.le_refl, Nat.zero_le, Bool.false_eq_true, lv_args, s_rl_at, s_gf, s_pf, dn_q, kd_q, cl_q, nf_q, ln_q, tg_q, rr_q, cr_q, u_1, e_lsw, k_ti, List.drop_succ_cons, List.drop_zero, List.drop_nil, List.zip_cons_cons, List.zip_nil_right, List.zip_nil_left, List.all_cons, List.all_nil, Bool.and_true, Bool.and_self, decide_true, decide_false, Option.toList, List.cons_append, List.nil_append, List.append_nil, DX7_move_0, DX7_move_1, FLX7, LDX7]
      simp [isP, movC, hd, h, h2, h3, hx, hy, nN_nI (show i' < 2147483648 by omega), nN_nI (show j' < 2147483648 by omega), nN_nI (show n' < 2147483648 by omega)]
