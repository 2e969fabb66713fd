/-! FactLog.readParcel, FactLog.take -/
/-- a row read into fact i: the state but for the reader's own -/
def rowF (S : pS) (i : Nat) (d : Nat → Int32) (e r : Nat) (ρ : pR) : pS := fS S i (q1 d e ρ).1 (q2 d e ρ).1 (q4 d e ρ).1 (q4 d e ρ).2.1 (q4 d e ρ).2.2.1 (q4 d e ρ).2.2.2.1 (q6 d e r ρ).1 (q6 d e r ρ).2.1
def rowR (d : Nat → Int32) (e r : Nat) (ρ : pR) : pR := (q6 d e r ρ).2.2
theorem rowS_eq {S : pS} {i : Nat} {d : Nat → Int32} {e r : Nat} {ρ : pR} : rowS S i d e r ρ = rS (rowF S i d e r ρ) (rowR d e r ρ) := rfl
theorem rowR_le {d : Nat → Int32} {e r : Nat} {ρ : pR} (h : ρ.1 ≤ e) : (rowR d e r ρ).1 ≤ e := pF_le (nxt_le (pT_le (nxt_le (num_le (nxt_le h)))).1)
/-- k rows are read into free places, from the i-th on -/
def tk (n : Nat) (d : Nat → Int32) (e : Nat) : Nat → Nat → pS → pR → pS × pR
  | 0, _, S, ρ => (S, ρ)
  | k + 1, i, S, ρ => if ρ.2.1 = true then (S, ρ) else tk n d e k (i + 1) (rowF S (fpl n i) d e i ρ) (rowR d e i ρ)
theorem rowF_oth {S : pS} {i : Nat} {d : Nat → Int32} {e r : Nat} {ρ : pR} {k' : Nat} (h : k' < 6 ∨ 10 < k') : (rowF S i d e r ρ).1 k' = S.1 k' := by
  funext i' j'
  unfold rowF
  rw [fS_1]
  have h6 : ¬ k' = 6 := by omega
  have h7 : ¬ k' = 7 := by omega
  have h8 : ¬ k' = 8 := by omega
  have h9 : ¬ k' = 9 := by omega
  have h10 : ¬ k' = 10 := by omega
  simp [h6, h7, h8, h9, h10]
theorem tk_oth {n : Nat} {d : Nat → Int32} {e k' : Nat} (h : k' < 6 ∨ 10 < k') : ∀ {k i : Nat} {S : pS} {ρ : pR}, (tk n d e k i S ρ).1.1 k' = S.1 k'
  | 0, _, _, _ => rfl
  | k + 1, i, S, ρ => by
    unfold tk
    split
    · rfl
    · rw [tk_oth h, rowF_oth h]
theorem tk_ref {n : Nat} {d : Nat → Int32} {e : Nat} : ∀ {k i : Nat} {S : pS} {ρ : pR}, (tk n d e k i S ρ).1.2.2 = S.2.2
  | 0, _, _, _ => rfl
  | k + 1, i, S, ρ => by
    unfold tk
    split
    · rfl
    · rw [tk_ref]
      rfl
theorem tk_le {n : Nat} {d : Nat → Int32} {e : Nat} : ∀ {k i : Nat} {S : pS} {ρ : pR}, ρ.1 ≤ e → (tk n d e k i S ρ).2.1 ≤ e
  | 0, _, _, _, h => h
  | k + 1, i, S, ρ, h => by
    unfold tk
    split
    · exact h
    · exact tk_le (rowR_le h)
theorem fpl_lt (n i : Nat) : fpl n i < 62 := by
  unfold fpl
  split <;> omega
abbrev tkS0 (S : pS) (b L : Nat) : pS := uI (uQ S 17 0 4 (21, b)) 17 0 3 (nI L)
abbrev tka (S : pS) (b L : Nat) : Int32 × pR := nxt (S.1 21 b) L 60 (0, false, 7)
abbrev tk1 (S : pS) (n b L : Nat) : pS × pR := tk n (S.1 21 b) L (nN (tka S b L).1) 0 (tkS0 S b L) (tka S b L).2
abbrev tk2 (S : pS) (n b L : Nat) : pR := xpc (S.1 21 b) L ((tk1 S n b L).2.2.2 &&& 255).toInt32 (tk1 S n b L).2
def tk3 (S : pS) (n b L : Nat) : pR := ((tk2 S n b L).1, (tk2 S n b L).2.1 || decide ((tk2 S n b L).1 < L), (tk2 S n b L).2.2)
section
variable {V : pV} {l : Launch} {A : pA} {post : Option Value → pS → Prop} {S0 : pS}
set_option maxHeartbeats 4000000 in
set_option maxRecDepth 100000 in
theorem lp_readParcel (C : e_CX7_readParcel V l) (Rt : e_RX7_readParcel V (s_P A post)) {b L n m : Nat} {d : Nat → Int32} (hb : b < 2) (hL : L ≤ 4000) (hn : n ≤ 60) (hm : m ≤ 60) : ∀ k i S ρ, i + k = m → S.1 21 b = d → S.1 4 0 1 = nI n → S.2.2 17 0 4 = (21, b) → S.1 17 0 3 = nI L → ρ.1 ≤ L → V 0 0 73 [(0, .ref (ad A 0 0)), (1, .int (nI m))] [] (gS A (rS (tk n d L k i S ρ).1 (tk n d L k i S ρ).2)) → V 0 0 36 [(0, .ref (ad A 0 0)), (1, .int (nI m)), (2, .int (nI i))] [] (gS A (rS S ρ)) := by
  intro k
  induction k with
  | zero =>
    intro i S ρ hi hd hc hq he ha hx
    have hi2 : i = m := by omega
    subst hi2
    refine srnX7_readParcel C Rt [36, 73] 40 ?_
    simp only [k_i, s_go, s_1, e_op, e_pi, e_pl, e_pr, e_p0, e_li, e_ll, e_lr, e_lk, e_ins, e_rm, e_to, e_sw, e_cmp, k_c, k_n, k_f, k_v, k_lg, ↓reduceIte, reduceCtorEq, Nat.reduceAdd, Nat.reduceSub, Nat.reduceMul, Nat.reduceEqDiff, Nat.reduceLT, Nat.reduceLeDiff, Int.reduceAdd, Int.reduceSub, Int.reduceNeg, Int.reduceLE, Int.reduceLT, Int.reduceToNat, Int.reduceEq, Int.cast_ofNat_Int, List.mem_cons, List.not_mem_nil, List.length_cons, List.length_nil, List.set_cons_zero, List.set_cons_succ, List.toList_toArray, eq_self, true_and, and_true, and_self, or_true, true_or, false_or, or_false, or_self, not_true_eq_false, not_false_eq_true, Classical.not_not, true_implies, false_implies, implies_true, forall_const, and_false, false_and, Nat.le_refl, Nat.zero_le, Bool.false_eq_true, lv_args, s_rl_at, s_gf, s_pf, dn_q, kd_q, cl_q, nf_q, ln_q, tg_q, rr_q, cr_q, u_1, e_lsw, k_ti, List.drop_succ_cons, List.drop_zero, List.drop_nil, List.zip_cons_cons, List.zip_nil_right, List.zip_nil_left, List.all_cons, List.all_nil, Bool.and_true, Bool.and_self, decide_true, decide_false, Option.toList, List.cons_append, List.nil_append, List.append_nil, DX7_readParcel_0, DX7_readParcel_1, FLX7, LDX7, x_le (a := i) (b := i) (by omega) (by omega)]
    exact r_sub C (by simp) hx
  | succ k ih =>
    intro i S ρ hi hd hc hq he ha hx
    have hQ : rQ S 21 b L := ⟨hq, rfl, hb, by decide, Or.inr rfl, he, hL⟩
    refine srnX7_readParcel C Rt [36, 73] 40 ?_
    simp only [k_i, s_go, s_1, e_op, e_pi, e_pl, e_pr, e_p0, e_li, e_ll, e_lr, e_lk, e_ins, e_rm, e_to, e_sw, e_cmp, k_c, k_n, k_f, k_v, k_lg, ↓reduceIte, reduceCtorEq, Nat.reduceAdd, Nat.reduceSub, Nat.reduceMul, Nat.reduceEqDiff, Nat.reduceLT, Nat.reduceLeDiff, Int.reduceAdd, Int.reduceSub, Int.reduceNeg, Int.reduceLE, Int.reduceLT, Int.reduceToNat, Int.reduceEq, Int.cast_ofNat_Int, List.mem_cons, List.not_mem_nil, List.length_cons, List.length_nil, List.set_cons_zero, List.set_cons_succ, List.toList_toArray, eq_self, true_and, and_true, and_self, or_true, true_or, false_or, or_false, or_self, not_true_eq_false, not_false_eq_true, Classical.not_not, true_implies, false_implies, implies_true, forall_const, and_false, false_and, Nat.le_refl, Nat.zero_le, Bool.false_eq_true, lv_args, s_rl_at, s_gf, s_pf, dn_q, kd_q, cl_q, nf_q, ln_q, tg_q, rr_q, cr_q, u_1, e_lsw, k_ti, List.drop_succ_cons, List.drop_zero, List.drop_nil, List.zip_cons_cons, List.zip_nil_right, List.zip_nil_left, List.all_cons, List.all_nil, Bool.and_true, Bool.and_self, decide_true, decide_false, Option.toList, List.cons_append, List.nil_append, List.append_nil, DX7_readParcel_0, DX7_readParcel_1, FLX7, LDX7, rS_1, rS_3, x_le (a := m) (b := i) (by omega) (by omega), b2i_0]
    refine ⟨fun h => by omega, fun _ => ⟨fun hf => ?_, fun hf => ?_⟩⟩
    · have hf2 : ρ.2.1 = true := by simpa using hf
      rw [tk, if_pos hf2] at hx
      exact r_sub C (by simp) hx
    · have hf2 : ¬ ρ.2.1 = true := by rw [hf]; decide
      refine sX7_readParcel_60 C (m_X0_freePlace l A (rS S ρ) hn hc (show i < 1000 by omega)) (s_obj (show 0 < 1 by decide) rfl) (hcat := Nat.le_of_ble_eq_true rfl) (k := ?_)
      rintro v2 G2 ⟨S2, rfl, rfl, rfl⟩
      refine srnX7_readParcel C Rt [36, 73] 40 ?_
      simp only [k_i, s_go, s_1, e_op, e_pi, e_pl, e_pr, e_p0, e_li, e_ll, e_lr, e_lk, e_ins, e_rm, e_to, e_sw, e_cmp, k_c, k_n, k_f, k_v, k_lg, ↓reduceIte, reduceCtorEq, Nat.reduceAdd, Nat.reduceSub, Nat.reduceMul, Nat.reduceEqDiff, Nat.reduceLT, Nat.reduceLeDiff, Int.reduceAdd, Int.reduceSub, Int.reduceNeg, Int.reduceLE, Int.reduceLT, Int.reduceToNat, Int.reduceEq, Int.cast_ofNat_Int, List.mem_cons, List.not_mem_nil, List.length_cons, List.length_nil, List.set_cons_zero, List.set_cons_succ, List.toList_toArray, eq_self, true_and, and_true, and_self, or_true, true_or, false_or, or_false, or_self, not_true_eq_false, not_false_eq_true, Classical.not_not, true_implies, false_implies, implies_true, forall_const, and_false, false_and, Nat.le_refl, Nat.zero_le, Bool.false_eq_true, lv_args, s_rl_at, s_gf, s_pf, dn_q, kd_q, cl_q, nf_q, ln_q, tg_q, rr_q, cr_q, u_1, e_lsw, k_ti, List.drop_succ_cons, List.drop_zero, List.drop_nil, List.zip_cons_cons, List.zip_nil_right, List.zip_nil_left, List.all_cons, List.all_nil, Bool.and_true, Bool.and_self, decide_true, decide_false, Option.toList, List.cons_append, List.nil_append, List.append_nil, DX7_readParcel_0, DX7_readParcel_1, FLX7, LDX7]
      refine sX7_readParcel_64 C (m_X4_nextRow l A S (r := i) hQ ha (fpl_lt n i)) (s_obj (show 0 < 1 by decide) rfl) (hcat := Nat.le_of_ble_eq_true rfl) (k := ?_)
      rintro v2 G2 ⟨S2, rfl, rfl, rfl⟩
      rw [rowS_eq, hd]
      refine srnX7_readParcel C Rt [36, 73] 40 ?_
      simp only [k_i, s_go, s_1, e_op, e_pi, e_pl, e_pr, e_p0, e_li, e_ll, e_lr, e_lk, e_ins, e_rm, e_to, e_sw, e_cmp, k_c, k_n, k_f, k_v, k_lg, ↓reduceIte, reduceCtorEq, Nat.reduceAdd, Nat.reduceSub, Nat.reduceMul, Nat.reduceEqDiff, Nat.reduceLT, Nat.reduceLeDiff, Int.reduceAdd, Int.reduceSub, Int.reduceNeg, Int.reduceLE, Int.reduceLT, Int.reduceToNat, Int.reduceEq, Int.cast_ofNat_Int, List.mem_cons, List.not_mem_nil, List.length_cons, List.length_nil, List.set_cons_zero, List.set_cons_succ, List.toList_toArray, eq_self, true_and, and_true, and_self, or_true, true_or, false_or, or_false, or_self, not_true_eq_false, not_false_eq_true, Classical.not_not, true_implies, false_implies, implies_true, forall_const, and_false, false_and, Nat.le_refl, Nat.zero_le, Bool.false_eq_true, lv_args, s_rl_at, s_gf, s_pf, dn_q, kd_q, cl_q, nf_q, ln_q, tg_q, rr_q, cr_q, u_1, e_lsw, k_ti, List.drop_succ_cons, List.drop_zero, List.drop_nil, List.zip_cons_cons, List.zip_nil_right, List.zip_nil_left, List.all_cons, List.all_nil, Bool.and_true, Bool.and_self, decide_true, decide_false, Option.toList, List.cons_append, List.nil_append, List.append_nil, DX7_readParcel_0, DX7_readParcel_1, FLX7, LDX7, nI_1]
      refine ih (i + 1) _ _ (by omega) ?_ ?_ ?_ ?_ (rowR_le ha) ?_
      · rw [rowF_oth (by omega)]
        exact hd
      · rw [rowF_oth (by omega)]
        exact hc
      · exact hq
      · rw [rowF_oth (by omega)]
        exact he
      · rw [tk, if_neg hf2] at hx
        exact hx
end
set_option maxHeartbeats 4000000 in
set_option maxRecDepth 100000 in
theorem m_readParcel (l : Launch) (A : pA) (S : pS) {n b c : Nat} (hB : wfB S n) (hO : wfO S b c) : e_MX7_readParcel l [.ref (ad A 0 0)] (gS A S) (s_P A (isP ((tka S b (nN (S.1 20 b 1))).1, rS (tk1 S n b (nN (S.1 20 b 1))).1 (tk3 S n b (nN (S.1 20 b 1)))))) := by
  obtain ⟨hc, hn, -⟩ := hB
  obtain ⟨ho, hs, hb, hcc, hne, ⟨hl, hL⟩, -⟩ := hO
  obtain ⟨L, eL⟩ : ∃ L, nN (S.1 20 b 1) = L := ⟨_, rfl⟩
  rw [eL] at hl hL ⊢
  obtain ⟨m, hm, em⟩ := nxt_nI (d := S.1 21 b) (e := L) (m := 60) (M := 60) (ρ := (0, false, 7)) (by decide)
  have em2 : (tka S b L).1 = nI m := em
  have ha : (tka S b L).2.1 ≤ L := nxt_le (Nat.zero_le _)
  have hQ0 : rQ (tkS0 S b L) 21 b L := ⟨rfl, rfl, hb, by decide, Or.inr rfl, rfl, hL⟩
  refine ofX7_readParcel (Nat.le_of_ble_eq_true rfl) ?_
  intro V C Rt
  refine srnX7_readParcel C Rt [36, 73] 40 ?_
  simp only [k_i, s_go, s_1, e_op, e_pi, e_pl, e_pr, e_p0, e_li, e_ll, e_lr, e_lk, e_ins, e_rm, e_to, e_sw, e_cmp, k_c, k_n, k_f, k_v, k_lg, ↓reduceIte, reduceCtorEq, Nat.reduceAdd, Nat.reduceSub, Nat.reduceMul, Nat.reduceEqDiff, Nat.reduceLT, Nat.reduceLeDiff, Int.reduceAdd, Int.reduceSub, Int.reduceNeg, Int.reduceLE, Int.reduceLT, Int.reduceToNat, Int.reduceEq, Int.cast_ofNat_Int, List.mem_cons, List.not_mem_nil, List.length_cons, List.length_nil, List.set_cons_zero, List.set_cons_succ, List.toList_toArray, eq_self, true_and, and_true, and_self, or_true, true_or, false_or, or_false, or_self, not_true_eq_false, not_false_eq_true, Classical.not_not, true_implies, false_implies, implies_true, forall_const, and_false, false_and, Nat.le_refl, Nat.zero_le, Bool.false_eq_true, lv_args, s_rl_at, s_gf, s_pf, dn_q, kd_q, cl_q, nf_q, ln_q, tg_q, rr_q, cr_q, u_1, e_lsw, k_ti, List.drop_succ_cons, List.drop_zero, List.drop_nil, List.zip_cons_cons, List.zip_nil_right, List.zip_nil_left, List.all_cons, List.all_nil, Bool.and_true, Bool.and_self, decide_true, decide_false, Option.toList, List.cons_append, List.nil_append, List.append_nil, DX7_readParcel_0, DX7_readParcel_1, FLX7, LDX7, ho, hb, hl]
  refine sX7_readParcel_21 C (m_X4_begin l A S (qk := 21) (qi := b) (Or.inr rfl) hb hL 7) (s_obj (show 0 < 1 by decide) rfl) (hcat := Nat.le_of_ble_eq_true rfl) (k := ?_)
  rintro v2 G2 ⟨S2, rfl, rfl, rfl⟩
  refine srnX7_readParcel C Rt [36, 73] 40 ?_
  simp only [k_i, s_go, s_1, e_op, e_pi, e_pl, e_pr, e_p0, e_li, e_ll, e_lr, e_lk, e_ins, e_rm, e_to, e_sw, e_cmp, k_c, k_n, k_f, k_v, k_lg, ↓reduceIte, reduceCtorEq, Nat.reduceAdd, Nat.reduceSub, Nat.reduceMul, Nat.reduceEqDiff, Nat.reduceLT, Nat.reduceLeDiff, Int.reduceAdd, Int.reduceSub, Int.reduceNeg, Int.reduceLE, Int.reduceLT, Int.reduceToNat, Int.reduceEq, Int.cast_ofNat_Int, List.mem_cons, List.not_mem_nil, List.length_cons, List.length_nil, List.set_cons_zero, List.set_cons_succ, List.toList_toArray, eq_self, true_and, and_true, and_self, or_true, true_or, false_or, or_false, or_self, not_true_eq_false, not_false_eq_true, Classical.not_not, true_implies, false_implies, implies_true, forall_const, and_false, false_and, Nat.le_refl, Nat.zero_le, Bool.false_eq_true, lv_args, s_rl_at, s_gf, s_pf, dn_q, kd_q, cl_q, nf_q, ln_q, tg_q, rr_q, cr_q, u_1, e_lsw, k_ti, List.drop_succ_cons, List.drop_zero, List.drop_nil, List.zip_cons_cons, List.zip_nil_right, List.zip_nil_left, List.all_cons, List.all_nil, Bool.and_true, Bool.and_self, decide_true, decide_false, Option.toList, List.cons_append, List.nil_append, List.append_nil, DX7_readParcel_0, DX7_readParcel_1, FLX7, LDX7]
  refine sX7_readParcel_30 C (m_X4_nextUpTo l A _ hQ0 (ρ := (0, false, 7)) (Nat.zero_le _) 60) (s_obj (show 0 < 1 by decide) rfl) (hcat := Nat.le_of_ble_eq_true rfl) (k := ?_)
  rintro v2 G2 ⟨S2, rfl, rfl, rfl⟩
  have e21 : (tkS0 S b L).1 21 b = S.1 21 b := rfl
  rw [e21, em]
  refine srnX7_readParcel C Rt [36, 73] 40 ?_
  simp only [k_i, s_go, s_1, e_op, e_pi, e_pl, e_pr, e_p0, e_li, e_ll, e_lr, e_lk, e_ins, e_rm, e_to, e_sw, e_cmp, k_c, k_n, k_f, k_v, k_lg, ↓reduceIte, reduceCtorEq, Nat.reduceAdd, Nat.reduceSub, Nat.reduceMul, Nat.reduceEqDiff, Nat.reduceLT, Nat.reduceLeDiff, Int.reduceAdd, Int.reduceSub, Int.reduceNeg, Int.reduceLE, Int.reduceLT, Int.reduceToNat, Int.reduceEq, Int.cast_ofNat_Int, List.mem_cons, List.not_mem_nil, List.length_cons, List.length_nil, List.set_cons_zero, List.set_cons_succ, List.toList_toArray, eq_self, true_and, and_true, and_self, or_true, true_or, false_or, or_false, or_self, not_true_eq_false, not_false_eq_true, Classical.not_not, true_implies, false_implies, implies_true, forall_const, and_false, false_and, Nat.le_refl, Nat.zero_le, Bool.false_eq_true, lv_args, s_rl_at, s_gf, s_pf, dn_q, kd_q, cl_q, nf_q, ln_q, tg_q, rr_q, cr_q, u_1, e_lsw, k_ti, List.drop_succ_cons, List.drop_zero, List.drop_nil, List.zip_cons_cons, List.zip_nil_right, List.zip_nil_left, List.all_cons, List.all_nil, Bool.and_true, Bool.and_self, decide_true, decide_false, Option.toList, List.cons_append, List.nil_append, List.append_nil, DX7_readParcel_0, DX7_readParcel_1, FLX7, LDX7]
  have hQ1 : rQ (tk1 S n b L).1 21 b L := ⟨by rw [tk_ref]; rfl, rfl, hb, by decide, Or.inr rfl, by rw [tk_oth (by omega)]; rfl, hL⟩
  have e22 : (tk1 S n b L).1.1 21 b = S.1 21 b := by rw [tk_oth (by omega)]; rfl
  have h1 : (tk1 S n b L).2.1 ≤ L := tk_le ha
  refine lp_readParcel C Rt (d := S.1 21 b) hb hL hn hm m 0 _ _ (by omega) rfl hc rfl rfl ha ?_
  have e23 : tk n (S.1 21 b) L m 0 (tkS0 S b L) (tka S b L).2 = tk1 S n b L := by rw [tk1, em2, nN_nI (by omega)]
  rw [show (nxt (S.1 21 b) L 60 (0, false, 7)).2 = (tka S b L).2 from rfl, e23]
  refine srnX7_readParcel C Rt [] 40 ?_
  simp only [k_i, s_go, s_1, e_op, e_pi, e_pl, e_pr, e_p0, e_li, e_ll, e_lr, e_lk, e_ins, e_rm, e_to, e_sw, e_cmp, k_c, k_n, k_f, k_v, k_lg, ↓reduceIte, reduceCtorEq, Nat.reduceAdd, Nat.reduceSub, Nat.reduceMul, Nat.reduceEqDiff, Nat.reduceLT, Nat.reduceLeDiff, Int.reduceAdd, Int.reduceSub, Int.reduceNeg, Int.reduceLE, Int.reduceLT, Int.reduceToNat, Int.reduceEq, Int.cast_ofNat_Int, List.mem_cons, List.not_mem_nil, List.length_cons, List.length_nil, List.set_cons_zero, List.set_cons_succ, List.toList_toArray, eq_self, true_and, and_true, and_self, or_true, true_or, false_or, or_false, or_self, not_true_eq_false, not_false_eq_true, Classical.not_not, true_implies, false_implies, implies_true, forall_const, and_false, false_and, Nat.le_refl, Nat.zero_le, Bool.false_eq_true, lv_args, s_rl_at, s_gf, s_pf, dn_q, kd_q, cl_q, nf_q, ln_q, tg_q, rr_q, cr_q, u_1, e_lsw, k_ti, List.drop_succ_cons, List.drop_zero, List.drop_nil, List.zip_cons_cons, List.zip_nil_right, List.zip_nil_left, List.all_cons, List.all_nil, Bool.and_true, Bool.and_self, decide_true, decide_false, Option.toList, List.cons_append, List.nil_append, List.append_nil, DX7_readParcel_0, DX7_readParcel_1, FLX7, LDX7, rS_2]
  refine sX7_readParcel_84 C (m_lowestByte l _ _) (hcat := Nat.le_of_ble_eq_true rfl) (k := ?_)
  rintro v2 G2 ⟨rfl, rfl⟩
  refine srnX7_readParcel C Rt [] 40 ?_
  simp only [k_i, s_go, s_1, e_op, e_pi, e_pl, e_pr, e_p0, e_li, e_ll, e_lr, e_lk, e_ins, e_rm, e_to, e_sw, e_cmp, k_c, k_n, k_f, k_v, k_lg, ↓reduceIte, reduceCtorEq, Nat.reduceAdd, Nat.reduceSub, Nat.reduceMul, Nat.reduceEqDiff, Nat.reduceLT, Nat.reduceLeDiff, Int.reduceAdd, Int.reduceSub, Int.reduceNeg, Int.reduceLE, Int.reduceLT, Int.reduceToNat, Int.reduceEq, Int.cast_ofNat_Int, List.mem_cons, List.not_mem_nil, List.length_cons, List.length_nil, List.set_cons_zero, List.set_cons_succ, List.toList_toArray, eq_self, true_and, and_true, and_self, or_true, true_or, false_or, or_false, or_self, not_true_eq_false, not_false_eq_true, Classical.not_not, true_implies, false_implies, implies_true, forall_const, and_false, false_and, Nat.le_refl, Nat.zero_le, Bool.false_eq_true, lv_args, s_rl_at, s_gf, s_pf, dn_q, kd_q, cl_q, nf_q, ln_q, tg_q, rr_q, cr_q, u_1, e_lsw, k_ti, List.drop_succ_cons, List.drop_zero, List.drop_nil, List.zip_cons_cons, List.zip_nil_right, List.zip_nil_left, List.all_cons, List.all_nil, Bool.and_true, Bool.and_self, decide_true, decide_false, Option.toList, List.cons_append, List.nil_append, List.append_nil, DX7_readParcel_0, DX7_readParcel_1, FLX7, LDX7]
  refine sX7_readParcel_87 C (m_X4_expect l A _ hQ1 h1 _) (s_obj (show 0 < 1 by decide) rfl) (hcat := Nat.le_of_ble_eq_true rfl) (k := ?_)
  rintro v2 G2 ⟨S2, rfl, rfl, rfl⟩
  rw [e22]
  refine srnX7_readParcel C Rt [] 40 ?_
  simp only [k_i, s_go, s_1, e_op, e_pi, e_pl, e_pr, e_p0, e_li, e_ll, e_lr, e_lk, e_ins, e_rm, e_to, e_sw, e_cmp, k_c, k_n, k_f, k_v, k_lg, ↓reduceIte, reduceCtorEq, Nat.reduceAdd, Nat.reduceSub, Nat.reduceMul, Nat.reduceEqDiff, Nat.reduceLT, Nat.reduceLeDiff, Int.reduceAdd, Int.reduceSub, Int.reduceNeg, Int.reduceLE, Int.reduceLT, Int.reduceToNat, Int.reduceEq, Int.cast_ofNat_Int, List.mem_cons, List.not_mem_nil, List.length_cons, List.length_nil, List.set_cons_zero, List.set_cons_succ, List.toList_toArray, eq_self, true_and, and_true, and_self, or_true, true_or, false_or, or_false, or_self, not_true_eq_false, not_false_eq_true, Classical.not_not, true_implies, false_implies, implies_true, forall_const, and_false, false_and, Nat.le_refl, Nat.zero_le, Bool.false_eq_true, lv_args, s_rl_at, s_gf, s_pf, dn_q, kd_q, cl_q, nf_q, ln_q, tg_q, rr_q, cr_q, u_1, e_lsw, k_ti, List.drop_succ_cons, List.drop_zero, List.drop_nil, List.zip_cons_cons, List.zip_nil_right, List.zip_nil_left, List.all_cons, List.all_nil, Bool.and_true, Bool.and_self, decide_true, decide_false, Option.toList, List.cons_append, List.nil_append, List.append_nil, DX7_readParcel_0, DX7_readParcel_1, FLX7, LDX7]
  refine sX7_readParcel_94 C (m_X4_expectEnd l A _ hQ1 (xpc_le h1)) (s_obj (show 0 < 1 by decide) rfl) (hcat := Nat.le_of_ble_eq_true rfl) (k := ?_)
  rintro v2 G2 ⟨S2, rfl, rfl, rfl⟩
  refine srnX7_readParcel C Rt [] 40 ?_
  simp only [k_i, s_go, s_1, e_op, e_pi, e_pl, e_pr, e_p0, e_li, e_ll, e_lr, e_lk, e_ins, e_rm, e_to, e_sw, e_cmp, k_c, k_n, k_f, k_v, k_lg, ↓reduceIte, reduceCtorEq, Nat.reduceAdd, Nat.reduceSub, Nat.reduceMul, Nat.reduceEqDiff, Nat.reduceLT, Nat.reduceLeDiff, Int.reduceAdd, Int.reduceSub, Int.reduceNeg, Int.reduceLE, Int.reduceLT, Int.reduceToNat, Int.reduceEq, Int.cast_ofNat_Int, List.mem_cons, List.not_mem_nil, List.length_cons, List.length_nil, List.set_cons_zero, List.set_cons_succ, List.toList_toArray, eq_self, true_and, and_true, and_self, or_true, true_or, false_or, or_false, or_self, not_true_eq_false, not_false_eq_true, Classical.not_not, true_implies, false_implies, implies_true, forall_const, and_false, false_and, Nat.le_refl, Nat.zero_le, Bool.false_eq_true, lv_args, s_rl_at, s_gf, s_pf, dn_q, kd_q, cl_q, nf_q, ln_q, tg_q, rr_q, cr_q, u_1, e_lsw, k_ti, List.drop_succ_cons, List.drop_zero, List.drop_nil, List.zip_cons_cons, List.zip_nil_right, List.zip_nil_left, List.all_cons, List.all_nil, Bool.and_true, Bool.and_self, decide_true, decide_false, Option.toList, List.cons_append, List.nil_append, List.append_nil, DX7_readParcel_0, DX7_readParcel_1, FLX7, LDX7]
  exact ⟨rfl, by rw [em2]⟩
theorem pF_n {d : Nat → Int32} {e : Nat} {m : Int32} : ∀ {k f : Nat} {on : Nat → Int32} {ρ : pR}, (pF d e m k f on ρ).1 ≤ f + k
  | 0, _, _, _ => Nat.le_refl _
  | k + 1, f, on, ρ => by
    unfold pF
    split
    · show f ≤ _
      omega
    · have := pF_n (d := d) (e := e) (m := m) (k := k) (f := f + 1) (on := upd on f (unl d e m on f ρ).1) (ρ := (unl d e m on f ρ).2)
      omega
theorem q6_le {d : Nat → Int32} {e r : Nat} {ρ : pR} : (q6 d e r ρ).1 ≤ 3 := by
  obtain ⟨ff, hf, ef⟩ := nxt_nI (d := d) (e := e) (m := 3) (M := 3) (ρ := (q4 d e ρ).2.2.2.2) (by decide)
  have ef2 : (q5 d e ρ).1 = nI ff := ef
  have h := pF_n (d := d) (e := e) (m := nI r - 1) (k := nN (q5 d e ρ).1) (f := 0) (on := zF) (ρ := (q5 d e ρ).2)
  rw [ef2, nN_nI (by omega)] at h
  show (pF d e (nI r - 1) (nN (q5 d e ρ).1) 0 zF (q5 d e ρ).2).1 ≤ 3
  rw [ef2, nN_nI (by omega)]
  omega
/-- what was read before stays -/
theorem tk_lo {n : Nat} {d : Nat → Int32} {e : Nat} : ∀ {k i : Nat} {S : pS} {ρ : pR} {f : Nat}, f < n + i → n + i + k ≤ 60 → (∀ k' j', (tk n d e k i S ρ).1.1 k' f j' = S.1 k' f j') ∧ ∀ k' j', (tk n d e k i S ρ).1.2.1 k' f j' = S.2.1 k' f j'
  | 0, _, _, _, _, _, _ => ⟨fun _ _ => rfl, fun _ _ => rfl⟩
  | k + 1, i, S, ρ, f, h1, h2 => by
    unfold tk
    split
    · exact ⟨fun _ _ => rfl, fun _ _ => rfl⟩
    · have h3 := tk_lo (n := n) (d := d) (e := e) (k := k) (i := i + 1) (S := rowF S (fpl n i) d e i ρ) (ρ := rowR d e i ρ) (f := f) (by omega) (by omega)
      have h4 : fpl n i = n + i := by simp [fpl]; omega
      have h5 : ¬ f = n + i := by omega
      refine ⟨fun k' j' => ?_, fun k' j' => ?_⟩
      · rw [h3.1, rowF, fS_1, h4]
        simp [h5]
      · rw [h3.2, rowF, fS_2, h4]
        simp [h5]
theorem tk_fc {n : Nat} {d : Nat → Int32} {e : Nat} : ∀ {k i : Nat} {S : pS} {ρ : pR}, n + i + k ≤ 60 → (tk n d e k i S ρ).2.2.1 = false → ∀ z, z < k → ∃ f, f ≤ 3 ∧ (tk n d e k i S ρ).1.1 6 (n + i + z) 8 = nI f
  | 0, _, _, _, _, _, z, hz => by omega
  | k + 1, i, S, ρ, h1, h2, z, hz => by
    have h4 : fpl n i = n + i := by simp [fpl]; omega
    by_cases hf : ρ.2.1 = true
    · rw [tk, if_pos hf] at h2
      rw [hf] at h2
      cases h2
    · rw [tk, if_neg hf] at h2 ⊢
      by_cases hz0 : z = 0
      · subst hz0
        refine ⟨(q6 d e i ρ).1, q6_le, ?_⟩
        rw [(tk_lo (by omega) (by omega)).1, rowF, fS_1, h4]
        simp
      · obtain ⟨f, hf3, e3⟩ := tk_fc (k := k) (i := i + 1) (by omega) h2 (z - 1) (by omega)
        refine ⟨f, hf3, ?_⟩
        rw [← e3, show n + (i + 1) + (z - 1) = n + i + z by omega]
def takC (S : pS) (n b L : Nat) : Int32 × pS := if ¬ S.1 11 0 1 = 0 then (-5, S) else if S.1 20 b 0 = 0 then (-11, S) else if (tk3 S n b L).2.1 = true then (-100 - nI (tk3 S n b L).1, rS (tk1 S n b L).1 (tk3 S n b L)) else if 60 - n < nN (tka S b L).1 then (-3, rS (tk1 S n b L).1 (tk3 S n b L)) else ((tka S b L).1, arG (rS (tk1 S n b L).1 (tk3 S n b L)) n (nN (tka S b L).1) 0)
theorem xpc_f {d : Nat → Int32} {e : Nat} {b : Int32} {ρ : pR} (h : (xpc d e b ρ).2.1 = false) : ρ.2.1 = false := by
  unfold xpc at h
  split at h
  · cases h
  · rename_i h2
    cases h3 : ρ.2.1 with
    | false => rfl
    | true => exact absurd (Or.inl h3) h2
set_option maxHeartbeats 4000000 in
set_option maxRecDepth 100000 in
theorem m_take (l : Launch) (A : pA) (S : pS) {n b c : Nat} (hB : wfB S n) (hO : wfO S b c) : e_MX7_take l [.ref (ad A 0 0)] (gS A S) (s_P A (isP (takC S n b (nN (S.1 20 b 1))))) := by
  have hB0 := hB
  have hO0 := hO
  obtain ⟨hc, hn, -⟩ := hB
  obtain ⟨ho, hs, hb, hcc, hne, ⟨hl, hL⟩, -⟩ := hO
  obtain ⟨L, eL⟩ : ∃ L, nN (S.1 20 b 1) = L := ⟨_, rfl⟩
  have hrp := m_readParcel l A S hB0 hO0
  rw [eL] at hrp hl hL ⊢
  obtain ⟨m, hm, em⟩ := nxt_nI (d := S.1 21 b) (e := L) (m := 60) (M := 60) (ρ := (0, false, 7)) (by decide)
  have em2 : (tka S b L).1 = nI m := em
  have em3 : nN (tka S b L).1 = m := by rw [em2, nN_nI (by omega)]
  refine ofX7_take (Nat.le_of_ble_eq_true rfl) ?_
  intro V C Rt
  refine srnX7_take C Rt [] 40 ?_
  simp only [k_i, s_go, s_1, e_op, e_pi, e_pl, e_pr, e_p0, e_li, e_ll, e_lr, e_lk, e_ins, e_rm, e_to, e_sw, e_cmp, k_c, k_n, k_f, k_v, k_lg, ↓reduceIte, reduceCtorEq, Nat.reduceAdd, Nat.reduceSub, Nat.reduceMul, Nat.reduceEqDiff, Nat.reduceLT, Nat.reduceLeDiff, Int.reduceAdd, Int.reduceSub, Int.reduceNeg, Int.reduceLE, Int.reduceLT, Int.reduceToNat, Int.reduceEq, Int.cast_ofNat_Int, List.mem_cons, List.not_mem_nil, List.length_cons, List.length_nil, List.set_cons_zero, List.set_cons_succ, List.toList_toArray, eq_self, true_and, and_true, and_self, or_true, true_or, false_or, or_false, or_self, not_true_eq_false, not_false_eq_true, Classical.not_not, true_implies, false_implies, implies_true, forall_const, and_false, false_and, Nat.le_refl, Nat.zero_le, Bool.false_eq_true, lv_args, s_rl_at, s_gf, s_pf, dn_q, kd_q, cl_q, nf_q, ln_q, tg_q, rr_q, cr_q, u_1, e_lsw, k_ti, List.drop_succ_cons, List.drop_zero, List.drop_nil, List.zip_cons_cons, List.zip_nil_right, List.zip_nil_left, List.all_cons, List.all_nil, Bool.and_true, Bool.and_self, decide_true, decide_false, Option.toList, List.cons_append, List.nil_append, List.append_nil, DX7_take_0, FLX7, LDX7, ho, hb]
  refine ⟨fun hd => ⟨fun h => ?_, fun h => by simp [isP, takC, hd, h]⟩, fun hd => by simp [isP, takC, hd]⟩
  refine sX7_take_27 C hrp (s_obj (show 0 < 1 by decide) rfl) (hcat := Nat.le_of_ble_eq_true rfl) (k := ?_)
  rintro v2 G2 ⟨S2, rfl, rfl, rfl⟩
  rw [em2]
  have hc1 : (tk1 S n b L).1.1 4 0 1 = nI n := by rw [tk_oth (by omega)]; exact hc
  have e60 : (60 : Int32) - nI n = nI (60 - n) := pk_sub (a := 60) hn
  cases hf : (tk3 S n b L).2.1 with
  | true =>
    refine srnX7_take C Rt [] 40 ?_
    simp only [k_i, s_go, s_1, e_op, e_pi, e_pl, e_pr, e_p0, e_li, e_ll, e_lr, e_lk, e_ins, e_rm, e_to, e_sw, e_cmp, k_c, k_n, k_f, k_v, k_lg, ↓reduceIte, reduceCtorEq, Nat.reduceAdd, Nat.reduceSub, Nat.reduceMul, Nat.reduceEqDiff, Nat.reduceLT, Nat.reduceLeDiff, Int.reduceAdd, Int.reduceSub, Int.reduceNeg, Int.reduceLE, Int.reduceLT, Int.reduceToNat, Int.reduceEq, Int.cast_ofNat_Int, List.mem_cons, List.not_mem_nil, List.length_cons, List.length_nil, List.set_cons_zero, List.set_cons_succ, List.toList_toArray, eq_self, true_and, and_true, and_self, or_true, true_or, false_or, or_false, or_self, not_true_eq_false, not_false_eq_true, Classical.not_not, true_implies, false_implies, implies_true, forall_const, and_false, false_and, Nat.le_refl, Nat.zero_le, Bool.false_eq_true, lv_args, s_rl_at, s_gf, s_pf, dn_q, kd_q, cl_q, nf_q, ln_q, tg_q, rr_q, cr_q, u_1, e_lsw, k_ti, List.drop_succ_cons, List.drop_zero, List.drop_nil, List.zip_cons_cons, List.zip_nil_right, List.zip_nil_left, List.all_cons, List.all_nil, Bool.and_true, Bool.and_self, decide_true, decide_false, Option.toList, List.cons_append, List.nil_append, List.append_nil, DX7_take_0, FLX7, LDX7, rS_1, rS_3, hf, b2i_t]
    simp [isP, takC, hd, h, hf]
  | false =>
    refine srnX7_take C Rt [] 40 ?_
    simp only [k_i, s_go, s_1, e_op, e_pi, e_pl, e_pr, e_p0, e_li, e_ll, e_lr, e_lk, e_ins, e_rm, e_to, e_sw, e_cmp, k_c, k_n, k_f, k_v, k_lg, ↓reduceIte, reduceCtorEq, Nat.reduceAdd, Nat.reduceSub, Nat.reduceMul, Nat.reduceEqDiff, Nat.reduceLT, Nat.reduceLeDiff, Int.reduceAdd, Int.reduceSub, Int.reduceNeg, Int.reduceLE, Int.reduceLT, Int.reduceToNat, Int.reduceEq, Int.cast_ofNat_Int, List.mem_cons, List.not_mem_nil, List.length_cons, List.length_nil, List.set_cons_zero, List.set_cons_succ, List.toList_toArray, eq_self, true_and, and_true, and_self, or_true, true_or, false_or, or_false, or_self, not_true_eq_false, not_false_eq_true, Classical.not_not, true_implies, false_implies, implies_true, forall_const, and_false, false_and, Nat.le_refl, Nat.zero_le, Bool.false_eq_true, lv_args, s_rl_at, s_gf, s_pf, dn_q, kd_q, cl_q, nf_q, ln_q, tg_q, rr_q, cr_q, u_1, e_lsw, k_ti, List.drop_succ_cons, List.drop_zero, List.drop_nil, List.zip_cons_cons, List.zip_nil_right, List.zip_nil_left, List.all_cons, List.all_nil, Bool.and_true, Bool.and_self, decide_true, decide_false, Option.toList, List.cons_append, List.nil_append, List.append_nil, DX7_take_0, FLX7, LDX7, rS_1, rS_3, hf, b2i_f, hc1, e60, x_le (a := m) (b := 60 - n) (by omega) (by omega)]
    refine ⟨fun h2 => ?_, fun h2 => ?_⟩
    · have hf2 : (tk2 S n b L).2.1 = false := by
        have := hf
        simp only [tk3, Bool.or_eq_false_iff] at this
        exact this.1
      have hf1 : (tk1 S n b L).2.2.1 = false := xpc_f hf2
      have hfc : ∀ i, i < m → (rS (tk1 S n b L).1 (tk3 S n b L)).1 6 (n + i) 8 = nI (fcC (rS (tk1 S n b L).1 (tk3 S n b L)) (n + i)) ∧ fcC (rS (tk1 S n b L).1 (tk3 S n b L)) (n + i) ≤ 3 := by
        intro i hi
        have hf1' := hf1
        unfold tk1 at hf1'
        obtain ⟨f, h3, h4⟩ := tk_fc (n := n) (d := S.1 21 b) (e := L) (k := nN (tka S b L).1) (i := 0) (by rw [em3]; omega) hf1' i (by rw [em3]; exact hi)
        have h5 : (rS (tk1 S n b L).1 (tk3 S n b L)).1 6 (n + i) 8 = nI f := h4
        rw [fcC, h5, nN_nI (by omega)]
        exact ⟨rfl, h3⟩
      refine sX7_take_74 C (m_X0_addRead l A (rS (tk1 S n b L).1 (tk3 S n b L)) (n := n) (r := m) hc1 (by omega) hfc) (s_obj (show 0 < 1 by decide) rfl) (hcat := Nat.le_of_ble_eq_true rfl) (k := ?_)
      rintro v2 G2 ⟨S2, rfl, rfl, rfl⟩
      refine srnX7_take C Rt [] 40 ?_
      simp only [k_i, s_go, s_1, e_op, e_pi, e_pl, e_pr, e_p0, e_li, e_ll, e_lr, e_lk, e_ins, e_rm, e_to, e_sw, e_cmp, k_c, k_n, k_f, k_v, k_lg, ↓reduceIte, reduceCtorEq, Nat.reduceAdd, Nat.reduceSub, Nat.reduceMul, Nat.reduceEqDiff, Nat.reduceLT, Nat.reduceLeDiff, Int.reduceAdd, Int.reduceSub, Int.reduceNeg, Int.reduceLE, Int.reduceLT, Int.reduceToNat, Int.reduceEq, Int.cast_ofNat_Int, List.mem_cons, List.not_mem_nil, List.length_cons, List.length_nil, List.set_cons_zero, List.set_cons_succ, List.toList_toArray, eq_self, true_and, and_true, and_self, or_true, true_or, false_or, or_false, or_self, not_true_eq_false, not_false_eq_true, Classical.not_not, true_implies, false_implies, implies_true, forall_const, and_false, false_and, Nat.le_refl, Nat.zero_le, Bool.false_eq_true, lv_args, s_rl_at, s_gf, s_pf, dn_q, kd_q, cl_q, nf_q, ln_q, tg_q, rr_q, cr_q, u_1, e_lsw, k_ti, List.drop_succ_cons, List.drop_zero, List.drop_nil, List.zip_cons_cons, List.zip_nil_right, List.zip_nil_left, List.all_cons, List.all_nil, Bool.and_true, Bool.and_self, decide_true, decide_false, Option.toList, List.cons_append, List.nil_append, List.append_nil, DX7_take_0, FLX7, LDX7]
      have h6 : ¬ 60 - n < m := by omega
      simp [isP, takC, hd, h, hf, em3, h6, em2, nN_nI (show m < 2147483648 by omega)]
    · have h6 : 60 - n < m := by omega
      simp [isP, takC, hd, h, hf, em3, h6]
