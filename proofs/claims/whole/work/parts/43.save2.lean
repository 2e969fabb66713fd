/-! FactLog$Disk.writeAll, FactLog.save -/
theorem wS_base {S : pS} {qk qi a a' p p' : Nat} {c c' : Bool} {bs : List Int32} {σ σ' : Int64} : wS (wS S qk qi a p c [] σ) qk qi a' p' c' bs σ' = wS S qk qi a' p' c' bs σ' := by
  have hw : wn p c [] = 0 := by simp [wn]
  refine Prod.ext ?_ (Prod.ext ?_ rfl)
  · funext k' i' j'
    rw [wS_1 (wS S qk qi a p c [] σ), wS_1 S qk qi a p c [], wS_1 S qk qi a' p' c' bs, hw]
    by_cases h0 : k' = qk ∧ i' = qi ∧ a' ≤ j' ∧ j' < a' + wn p' c' bs
    · simp [h0]
    · rw [if_neg h0, if_neg h0, if_neg (show ¬ (k' = qk ∧ i' = qi ∧ a ≤ j' ∧ j' < a + 0) by omega)]
      by_cases h1 : k' = 18 ∧ i' = 0 ∧ j' = 0
      · simp [h1]
      · by_cases h2 : k' = 18 ∧ i' = 0 ∧ j' = 1
        · simp [h2]
        · by_cases h3 : k' = 18 ∧ i' = 0 ∧ j' = 2
          · simp [h3]
          · simp [h1, h2, h3]
  · funext k' i' j'
    show (if k' = 18 ∧ i' = 0 ∧ j' = 3 then σ' else if k' = 18 ∧ i' = 0 ∧ j' = 3 then σ else S.2.1 k' i' j') = (if k' = 18 ∧ i' = 0 ∧ j' = 3 then σ' else S.2.1 k' i' j')
    by_cases h : k' = 18 ∧ i' = 0 ∧ j' = 3 <;> simp [h]
theorem onB_congr {f g : Nat → Int32} : ∀ {n : Nat}, (∀ k, k < n → f k = g k) → onB f n = onB g n
  | 0, _ => rfl
  | n + 1, h => by
    simp only [onB, h n (by omega)]
    rw [onB_congr (f := f) (g := g) (n := n) (fun k hk => h k (by omega))]
abbrev lgC (S : pS) (r k : Nat) : List Int32 × Int64 := lgB (rowC S) (S.2.1 11 0 7) r k
abbrev sv0 (S : pS) : pS := uQ S 18 0 4 (12, 0)
abbrev sv1 (S : pS) (r u p k : Nat) : pS := wS (sv0 S) 12 0 u p false (lgC S r k).1 (lgC S r k).2
abbrev sv2 (S : pS) (n r u p : Nat) : pS := wS (sv1 S r u p (n - r)) 12 0 (hpl (S.1 11 0 2 + 1)) (p - wn p false (lgC S r (n - r)).1) (false || decide (p < (lgC S r (n - r)).1.length)) (hdB (S.1 11 0 2 + 1) (nI n) (lgC S r (n - r)).2) (sws (lgC S r (n - r)).2 (nb (S.1 11 0 2 + 1).toInt64 4 ++ nb (nI n).toInt64 4))
def savS (S : pS) (n r u p : Nat) : pS := if p < (lgC S r (n - r)).1.length + 16 then uI (sv2 S n r u p) 11 0 1 1 else uJ (uI (uI (uI (sv2 S n r u p) 11 0 2 (S.1 11 0 2 + 1)) 11 0 3 (nI n)) 11 0 4 (nI (u + (lgC S r (n - r)).1.length))) 11 0 7 (lgC S r (n - r)).2
section
variable {V : pV} {l : Launch} {A : pA} {post : Option Value → pS → Prop} {S : pS}
set_option maxHeartbeats 4000000 in
set_option maxRecDepth 100000 in
theorem lp_writeAll (C : e_CX1_writeAll V l) (Rt : e_RX1_writeAll V (s_P A post)) {n r u p : Nat} (hB : wfB S n) (hD : wfD S n r u) (hp : p < 2147483648)
    (hx : V 0 0 67 [(0, .ref (ad A 11 0)), (1, .ref (ad A 4 0)), (2, .ref (ad A 18 0)), (3, .int (nI p)), (4, .int (nI n))] [] (gS A (sv1 S r u p (n - r)))) : ∀ z k, r + k + z = n → V 0 0 27 [(0, .ref (ad A 11 0)), (1, .ref (ad A 4 0)), (2, .ref (ad A 18 0)), (3, .int (nI p)), (4, .int (nI (r + k)))] [] (gS A (sv1 S r u p k)) := by
  have hB0 := hB
  obtain ⟨hc, hn, hw⟩ := hB
  obtain ⟨d1, d2, d3, d4, d5⟩ := hD
  have hQ : wQ (sv0 S) 12 0 := ⟨rfl, rfl, by decide, by decide, Or.inl rfl⟩
  intro z
  induction z with
  | zero =>
    intro k hk
    have hk2 : r + k = n := by omega
    have hk3 : n - r = k := by omega
    rw [hk3] at hx
    refine srnX1_writeAll C Rt [27, 67] 40 ?_
    simp only [k_i, s_go, s_1, e_op, e_pi, e_pl, e_pr, e_p0, e_li, e_ll, e_lr, e_lk, e_ins, e_rm, e_to, e_sw, e_cmp, k_c, k_n, k_f, k_v, k_lg, ↓reduceIte, reduceCtorEq, Nat.reduceAdd, Nat.reduceSub, Nat.reduceMul, Nat.reduceEqDiff, Nat.reduceLT, Nat.reduceLeDiff, Int.reduceAdd, Int.reduceSub, Int.reduceNeg, Int.reduceLE, Int.reduceLT, Int.reduceToNat, Int.reduceEq, Int.cast_ofNat_Int, List.mem_cons, List.not_mem_nil, List.length_cons, List.length_nil, List.set_cons_zero, List.set_cons_succ, List.toList_toArray, eq_self, true_and, and_true, and_self, or_true, true_or, false_or, or_false, or_self, not_true_eq_false, not_false_eq_true, Classical.not_not, true_implies, false_implies, implies_true, forall_const, and_false, false_and, Nat.le_refl, Nat.zero_le, Bool.false_eq_true, lv_args, s_rl_at, s_gf, s_pf, dn_q, kd_q, cl_q, nf_q, ln_q, tg_q, rr_q, cr_q, u_1, e_lsw, k_ti, List.drop_succ_cons, List.drop_zero, List.drop_nil, List.zip_cons_cons, List.zip_nil_right, List.zip_nil_left, List.all_cons, List.all_nil, Bool.and_true, Bool.and_self, decide_true, decide_false, Option.toList, List.cons_append, List.nil_append, List.append_nil, DX1_writeAll_0, DX1_writeAll_1, FLX1, LDX1, wS_1, wS_2, wS_3, hc, hk2, x_le (a := n) (b := n) (by omega) (by omega)]
    exact hx
  | succ z ih =>
    intro k hk
    have hwk := hw (r + k) (by omega)
    have hlen : (lgC S r k).1.length ≤ 58 * k := lgB_len (r := r) (σ := S.2.1 11 0 7) hB0 k (by omega)
    have hl12 : ln 12 = 3532 := rfl
    have hrow : rwB ((sv0 S).1 6 (r + k) 0) ((sv0 S).2.1 6 (r + k) 1) (tcC (sv0 S) (r + k)) ((sv0 S).1 7 (r + k)) ((sv0 S).1 8 (r + k)) ((sv0 S).1 9 (r + k)) (fcC (sv0 S) (r + k)) (fun j => (sv0 S).1 14 0 (onC (sv0 S) (r + k) j)) = rowC S (r + k) := by
      show rwB (S.1 6 (r + k) 0) (S.2.1 6 (r + k) 1) (tcC S (r + k)) (S.1 7 (r + k)) (S.1 8 (r + k)) (S.1 9 (r + k)) (fcC S (r + k)) (fun j => S.1 14 0 (onC S (r + k) j)) = rowC S (r + k)
      unfold rwB
      rw [onB_congr (fun j hj => d5 (onC S (r + k) j) (by have := (hwk.2.2.2.2.2 j hj).2; omega))]
      rfl
    have hrl : (rowC S (r + k)).length ≤ 50 := by
      rw [rwB_len]
      have h3 := hwk.2.1
      have h4 := hwk.2.2.2.1
      omega
    refine srnX1_writeAll C Rt [27, 67] 40 ?_
    simp only [k_i, s_go, s_1, e_op, e_pi, e_pl, e_pr, e_p0, e_li, e_ll, e_lr, e_lk, e_ins, e_rm, e_to, e_sw, e_cmp, k_c, k_n, k_f, k_v, k_lg, ↓reduceIte, reduceCtorEq, Nat.reduceAdd, Nat.reduceSub, Nat.reduceMul, Nat.reduceEqDiff, Nat.reduceLT, Nat.reduceLeDiff, Int.reduceAdd, Int.reduceSub, Int.reduceNeg, Int.reduceLE, Int.reduceLT, Int.reduceToNat, Int.reduceEq, Int.cast_ofNat_Int, List.mem_cons, List.not_mem_nil, List.length_cons, List.length_nil, List.set_cons_zero, List.set_cons_succ, List.toList_toArray, eq_self, true_and, and_true, and_self, or_true, true_or, false_or, or_false, or_self, not_true_eq_false, not_false_eq_true, Classical.not_not, true_implies, false_implies, implies_true, forall_const, and_false, false_and, Nat.le_refl, Nat.zero_le, Bool.false_eq_true, lv_args, s_rl_at, s_gf, s_pf, dn_q, kd_q, cl_q, nf_q, ln_q, tg_q, rr_q, cr_q, u_1, e_lsw, k_ti, List.drop_succ_cons, List.drop_zero, List.drop_nil, List.zip_cons_cons, List.zip_nil_right, List.zip_nil_left, List.all_cons, List.all_nil, Bool.and_true, Bool.and_self, decide_true, decide_false, Option.toList, List.cons_append, List.nil_append, List.append_nil, DX1_writeAll_0, DX1_writeAll_1, FLX1, LDX1, wS_1, wS_2, wS_3, hc, x_le (a := n) (b := r + k) (by omega) (by omega), x_cl (a := r + k) (by omega), x_in (a := r + k) (n := 60) (by omega)]
    refine ⟨fun h => by omega, fun _ => ⟨by omega, ?_⟩⟩
    refine sX1_writeAll_48 C (m_X6_putRow l A (sv0 S) (i := r + k) (m := r + k) (nk := 14) hQ hp (by omega) hwk (by omega) (Or.inl rfl) (by rw [hl12]; omega)) (s_obj (show 0 < 1 by decide) rfl) (hcat := Nat.le_of_ble_eq_true rfl) (k := ?_)
    rintro v2 G2 ⟨S2, rfl, rfl, rfl⟩
    rw [hrow]
    refine srnX1_writeAll C Rt [27, 67] 40 ?_
    simp only [k_i, s_go, s_1, e_op, e_pi, e_pl, e_pr, e_p0, e_li, e_ll, e_lr, e_lk, e_ins, e_rm, e_to, e_sw, e_cmp, k_c, k_n, k_f, k_v, k_lg, ↓reduceIte, reduceCtorEq, Nat.reduceAdd, Nat.reduceSub, Nat.reduceMul, Nat.reduceEqDiff, Nat.reduceLT, Nat.reduceLeDiff, Int.reduceAdd, Int.reduceSub, Int.reduceNeg, Int.reduceLE, Int.reduceLT, Int.reduceToNat, Int.reduceEq, Int.cast_ofNat_Int, List.mem_cons, List.not_mem_nil, List.length_cons, List.length_nil, List.set_cons_zero, List.set_cons_succ, List.toList_toArray, eq_self, true_and, and_true, and_self, or_true, true_or, false_or, or_false, or_self, not_true_eq_false, not_false_eq_true, Classical.not_not, true_implies, false_implies, implies_true, forall_const, and_false, false_and, Nat.le_refl, Nat.zero_le, Bool.false_eq_true, lv_args, s_rl_at, s_gf, s_pf, dn_q, kd_q, cl_q, nf_q, ln_q, tg_q, rr_q, cr_q, u_1, e_lsw, k_ti, List.drop_succ_cons, List.drop_zero, List.drop_nil, List.zip_cons_cons, List.zip_nil_right, List.zip_nil_left, List.all_cons, List.all_nil, Bool.and_true, Bool.and_self, decide_true, decide_false, Option.toList, List.cons_append, List.nil_append, List.append_nil, DX1_writeAll_0, DX1_writeAll_1, FLX1, LDX1, wS_1, wS_2, wS_3, (show (8 : Int32) = nI 8 from rfl)]
    refine sX1_writeAll_58 C (m_X6_putPlain l A (sv0 S) hQ (show 8 ≤ 8 by decide) (by rw [hl12, List.length_append]; omega) hp _) (s_obj (show 0 < 1 by decide) rfl) (hcat := Nat.le_of_ble_eq_true rfl) (k := ?_)
    rintro v2 G2 ⟨S2, rfl, rfl, rfl⟩
    refine srnX1_writeAll C Rt [27, 67] 40 ?_
    simp only [k_i, s_go, s_1, e_op, e_pi, e_pl, e_pr, e_p0, e_li, e_ll, e_lr, e_lk, e_ins, e_rm, e_to, e_sw, e_cmp, k_c, k_n, k_f, k_v, k_lg, ↓reduceIte, reduceCtorEq, Nat.reduceAdd, Nat.reduceSub, Nat.reduceMul, Nat.reduceEqDiff, Nat.reduceLT, Nat.reduceLeDiff, Int.reduceAdd, Int.reduceSub, Int.reduceNeg, Int.reduceLE, Int.reduceLT, Int.reduceToNat, Int.reduceEq, Int.cast_ofNat_Int, List.mem_cons, List.not_mem_nil, List.length_cons, List.length_nil, List.set_cons_zero, List.set_cons_succ, List.toList_toArray, eq_self, true_and, and_true, and_self, or_true, true_or, false_or, or_false, or_self, not_true_eq_false, not_false_eq_true, Classical.not_not, true_implies, false_implies, implies_true, forall_const, and_false, false_and, Nat.le_refl, Nat.zero_le, Bool.false_eq_true, lv_args, s_rl_at, s_gf, s_pf, dn_q, kd_q, cl_q, nf_q, ln_q, tg_q, rr_q, cr_q, u_1, e_lsw, k_ti, List.drop_succ_cons, List.drop_zero, List.drop_nil, List.zip_cons_cons, List.zip_nil_right, List.zip_nil_left, List.all_cons, List.all_nil, Bool.and_true, Bool.and_self, decide_true, decide_false, Option.toList, List.cons_append, List.nil_append, List.append_nil, DX1_writeAll_0, DX1_writeAll_1, FLX1, LDX1, nI_1, Nat.add_assoc]
    have h9 := ih (k + 1) (by omega)
    unfold sv1 lgC at h9
    simp only [lgB] at h9
    exact h9
end
theorem wn_f (p : Nat) (bs : List Int32) : wn p false bs = min p bs.length := by simp [wn]
set_option maxHeartbeats 4000000 in
set_option maxRecDepth 100000 in
theorem m_X1_writeAll (l : Launch) (A : pA) (S : pS) {n r u p : Nat} (hB : wfB S n) (hD : wfD S n r u) (hp : p < 2147483648) : e_MX1_writeAll l [.ref (ad A 11 0), .ref (ad A 4 0), .ref (ad A 18 0), .int (nI p)] (gS A S) (s_P A (isP (nI (min p ((lgC S r (n - r)).1.length + 16)), savS S n r u p))) := by
  have hB0 := hB
  have hD0 := hD
  obtain ⟨hc, hn, hw⟩ := hB
  obtain ⟨d1, d2, d3, d4, d5⟩ := hD
  have hQ : wQ (sv0 S) 12 0 := ⟨rfl, rfl, by decide, by decide, Or.inl rfl⟩
  have hlen : (lgC S r (n - r)).1.length ≤ 58 * (n - r) := lgB_len (r := r) (σ := S.2.1 11 0 7) hB0 (n - r) (by omega)
  refine ofX1_writeAll (Nat.le_of_ble_eq_true rfl) ?_
  intro V C Rt
  refine srnX1_writeAll C Rt [] 40 ?_
  simp only [k_i, s_go, s_1, e_op, e_pi, e_pl, e_pr, e_p0, e_li, e_ll, e_lr, e_lk, e_ins, e_rm, e_to, e_sw, e_cmp, k_c, k_n, k_f, k_v, k_lg, ↓reduceIte, reduceCtorEq, Nat.reduceAdd, Nat.reduceSub, Nat.reduceMul, Nat.reduceEqDiff, Nat.reduceLT, Nat.reduceLeDiff, Int.reduceAdd, Int.reduceSub, Int.reduceNeg, Int.reduceLE, Int.reduceLT, Int.reduceToNat, Int.reduceEq, Int.cast_ofNat_Int, List.mem_cons, List.not_mem_nil, List.length_cons, List.length_nil, List.set_cons_zero, List.set_cons_succ, List.toList_toArray, eq_self, true_and, and_true, and_self, or_true, true_or, false_or, or_false, or_self, not_true_eq_false, not_false_eq_true, Classical.not_not, true_implies, false_implies, implies_true, forall_const, and_false, false_and, Nat.le_refl, Nat.zero_le, Bool.false_eq_true, lv_args, s_rl_at, s_gf, s_pf, dn_q, kd_q, cl_q, nf_q, ln_q, tg_q, rr_q, cr_q, u_1, e_lsw, k_ti, List.drop_succ_cons, List.drop_zero, List.drop_nil, List.zip_cons_cons, List.zip_nil_right, List.zip_nil_left, List.all_cons, List.all_nil, Bool.and_true, Bool.and_self, decide_true, decide_false, Option.toList, List.cons_append, List.nil_append, List.append_nil, DX1_writeAll_0, DX1_writeAll_1, FLX1, LDX1]
  refine sX1_writeAll_10 C (m_X6_begin l A S (Or.inl rfl) _) (s_obj (show 0 < 1 by decide) rfl) (hcat := Nat.le_of_ble_eq_true rfl) (k := ?_)
  rintro v2 G2 ⟨S2, rfl, rfl, rfl⟩
  refine srnX1_writeAll C Rt [27] 40 ?_
  simp only [k_i, s_go, s_1, e_op, e_pi, e_pl, e_pr, e_p0, e_li, e_ll, e_lr, e_lk, e_ins, e_rm, e_to, e_sw, e_cmp, k_c, k_n, k_f, k_v, k_lg, ↓reduceIte, reduceCtorEq, Nat.reduceAdd, Nat.reduceSub, Nat.reduceMul, Nat.reduceEqDiff, Nat.reduceLT, Nat.reduceLeDiff, Int.reduceAdd, Int.reduceSub, Int.reduceNeg, Int.reduceLE, Int.reduceLT, Int.reduceToNat, Int.reduceEq, Int.cast_ofNat_Int, List.mem_cons, List.not_mem_nil, List.length_cons, List.length_nil, List.set_cons_zero, List.set_cons_succ, List.toList_toArray, eq_self, true_and, and_true, and_self, or_true, true_or, false_or, or_false, or_self, not_true_eq_false, not_false_eq_true, Classical.not_not, true_implies, false_implies, implies_true, forall_const, and_false, false_and, Nat.le_refl, Nat.zero_le, Bool.false_eq_true, lv_args, s_rl_at, s_gf, s_pf, dn_q, kd_q, cl_q, nf_q, ln_q, tg_q, rr_q, cr_q, u_1, e_lsw, k_ti, List.drop_succ_cons, List.drop_zero, List.drop_nil, List.zip_cons_cons, List.zip_nil_right, List.zip_nil_left, List.all_cons, List.all_nil, Bool.and_true, Bool.and_self, decide_true, decide_false, Option.toList, List.cons_append, List.nil_append, List.append_nil, DX1_writeAll_0, DX1_writeAll_1, FLX1, LDX1, wS_1, wS_2, wS_3, d1, d3]
  rw [wS_re (by decide), wS_base]
  have e0 : wS (uQ S 18 0 4 (12, 0)) 12 0 u (p - wn p false []) (false || decide (p < ([] : List Int32).length)) [] (S.2.1 11 0 7) = sv1 S r u p 0 := by
    simp [sv1, wn, lgB]
  rw [e0]
  refine lp_writeAll C Rt hB0 hD0 hp ?_ (n - r) 0 (by omega)
  refine srnX1_writeAll C Rt [] 40 ?_
  simp only [k_i, s_go, s_1, e_op, e_pi, e_pl, e_pr, e_p0, e_li, e_ll, e_lr, e_lk, e_ins, e_rm, e_to, e_sw, e_cmp, k_c, k_n, k_f, k_v, k_lg, ↓reduceIte, reduceCtorEq, Nat.reduceAdd, Nat.reduceSub, Nat.reduceMul, Nat.reduceEqDiff, Nat.reduceLT, Nat.reduceLeDiff, Int.reduceAdd, Int.reduceSub, Int.reduceNeg, Int.reduceLE, Int.reduceLT, Int.reduceToNat, Int.reduceEq, Int.cast_ofNat_Int, List.mem_cons, List.not_mem_nil, List.length_cons, List.length_nil, List.set_cons_zero, List.set_cons_succ, List.toList_toArray, eq_self, true_and, and_true, and_self, or_true, true_or, false_or, or_false, or_self, not_true_eq_false, not_false_eq_true, Classical.not_not, true_implies, false_implies, implies_true, forall_const, and_false, false_and, Nat.le_refl, Nat.zero_le, Bool.false_eq_true, lv_args, s_rl_at, s_gf, s_pf, dn_q, kd_q, cl_q, nf_q, ln_q, tg_q, rr_q, cr_q, u_1, e_lsw, k_ti, List.drop_succ_cons, List.drop_zero, List.drop_nil, List.zip_cons_cons, List.zip_nil_right, List.zip_nil_left, List.all_cons, List.all_nil, Bool.and_true, Bool.and_self, decide_true, decide_false, Option.toList, List.cons_append, List.nil_append, List.append_nil, DX1_writeAll_0, DX1_writeAll_1, FLX1, LDX1, wS_1, wS_2, wS_3, hc]
  refine sX1_writeAll_85 C (m_X1_writeHead l A (sv0 S) hQ hp (nI n)) (s_obj (show 0 < 1 by decide) rfl) (hcat := Nat.le_of_ble_eq_true rfl) (k := ?_)
  rintro v2 G2 ⟨S2, rfl, rfl, rfl⟩
  have hT := hdB_len (g := S.1 11 0 2 + 1) (n := nI n) (σ := (lgC S r (n - r)).2)
  by_cases hcut : p < (lgC S r (n - r)).1.length + 16
  · have hcc : ((false || decide (p < (lgC S r (n - r)).1.length)) || decide (p - wn p false (lgC S r (n - r)).1 < (hdB (S.1 11 0 2 + 1) (nI n) (lgC S r (n - r)).2).length)) = true := by
      rw [hT, wn_f]
      by_cases h1 : p < (lgC S r (n - r)).1.length
      · simp [h1]
      · simp [h1]
        omega
    have hl2 : p - wn p false (lgC S r (n - r)).1 - wn (p - wn p false (lgC S r (n - r)).1) (false || decide (p < (lgC S r (n - r)).1.length)) (hdB (S.1 11 0 2 + 1) (nI n) (lgC S r (n - r)).2) = 0 := by
      unfold wn
      rw [hT]
      by_cases h1 : p < (lgC S r (n - r)).1.length
      · simp [h1]
        omega
      · simp [h1]
        omega
    refine srnX1_writeAll C Rt [] 40 ?_
    simp only [k_i, s_go, s_1, e_op, e_pi, e_pl, e_pr, e_p0, e_li, e_ll, e_lr, e_lk, e_ins, e_rm, e_to, e_sw, e_cmp, k_c, k_n, k_f, k_v, k_lg, ↓reduceIte, reduceCtorEq, Nat.reduceAdd, Nat.reduceSub, Nat.reduceMul, Nat.reduceEqDiff, Nat.reduceLT, Nat.reduceLeDiff, Int.reduceAdd, Int.reduceSub, Int.reduceNeg, Int.reduceLE, Int.reduceLT, Int.reduceToNat, Int.reduceEq, Int.cast_ofNat_Int, List.mem_cons, List.not_mem_nil, List.length_cons, List.length_nil, List.set_cons_zero, List.set_cons_succ, List.toList_toArray, eq_self, true_and, and_true, and_self, or_true, true_or, false_or, or_false, or_self, not_true_eq_false, not_false_eq_true, Classical.not_not, true_implies, false_implies, implies_true, forall_const, and_false, false_and, Nat.le_refl, Nat.zero_le, Bool.false_eq_true, lv_args, s_rl_at, s_gf, s_pf, dn_q, kd_q, cl_q, nf_q, ln_q, tg_q, rr_q, cr_q, u_1, e_lsw, k_ti, List.drop_succ_cons, List.drop_zero, List.drop_nil, List.zip_cons_cons, List.zip_nil_right, List.zip_nil_left, List.all_cons, List.all_nil, Bool.and_true, Bool.and_self, decide_true, decide_false, Option.toList, List.cons_append, List.nil_append, List.append_nil, DX1_writeAll_0, DX1_writeAll_1, FLX1, LDX1, wS_1 (wS (sv0 S) 12 0 u p false (lgC S r (n - r)).1 (lgC S r (n - r)).2), wS_2, wS_3, hcc, b2i_t, hl2, nI_0]
    refine ⟨?_, ?_⟩
    · simp only [savS, if_pos hcut]
    · have e5 : min p ((lgC S r (n - r)).1.length + 16) = p := by omega
      rw [e5]
      simp
  · have hcc : ((false || decide (p < (lgC S r (n - r)).1.length)) || decide (p - wn p false (lgC S r (n - r)).1 < (hdB (S.1 11 0 2 + 1) (nI n) (lgC S r (n - r)).2).length)) = false := by
      rw [hT, wn_f]
      have h1 : ¬ p < (lgC S r (n - r)).1.length := by omega
      simp [h1]
      omega
    have hw1 : wn p false (lgC S r (n - r)).1 = (lgC S r (n - r)).1.length := by rw [wn_f]; omega
    have hl2 : p - wn p false (lgC S r (n - r)).1 - wn (p - wn p false (lgC S r (n - r)).1) (false || decide (p < (lgC S r (n - r)).1.length)) (hdB (S.1 11 0 2 + 1) (nI n) (lgC S r (n - r)).2) = p - ((lgC S r (n - r)).1.length + 16) := by
      have h1 : ¬ p < (lgC S r (n - r)).1.length := by omega
      rw [hw1]
      unfold wn
      rw [hT]
      simp [h1]
      omega
    refine srnX1_writeAll C Rt [] 40 ?_
    simp only [k_i, s_go, s_1, e_op, e_pi, e_pl, e_pr, e_p0, e_li, e_ll, e_lr, e_lk, e_ins, e_rm, e_to, e_sw, e_cmp, k_c, k_n, k_f, k_v, k_lg, ↓reduceIte, reduceCtorEq, Nat.reduceAdd, Nat.reduceSub, Nat.reduceMul, Nat.reduceEqDiff, Nat.reduceLT, Nat.reduceLeDiff, Int.reduceAdd, Int.reduceSub, Int.reduceNeg, Int.reduceLE, Int.reduceLT, Int.reduceToNat, Int.reduceEq, Int.cast_ofNat_Int, List.mem_cons, List.not_mem_nil, List.length_cons, List.length_nil, List.set_cons_zero, List.set_cons_succ, List.toList_toArray, eq_self, true_and, and_true, and_self, or_true, true_or, false_or, or_false, or_self, not_true_eq_false, not_false_eq_true, Classical.not_not, true_implies, false_implies, implies_true, forall_const, and_false, false_and, Nat.le_refl, Nat.zero_le, Bool.false_eq_true, lv_args, s_rl_at, s_gf, s_pf, dn_q, kd_q, cl_q, nf_q, ln_q, tg_q, rr_q, cr_q, u_1, e_lsw, k_ti, List.drop_succ_cons, List.drop_zero, List.drop_nil, List.zip_cons_cons, List.zip_nil_right, List.zip_nil_left, List.all_cons, List.all_nil, Bool.and_true, Bool.and_self, decide_true, decide_false, Option.toList, List.cons_append, List.nil_append, List.append_nil, DX1_writeAll_0, DX1_writeAll_1, FLX1, LDX1, wS_1, wS_2, wS_3, hcc, b2i_f, hl2, hc]
    refine ⟨?_, ?_⟩
    · simp only [savS, if_neg hcut, sv2, hw1]
    · rw [pk_sub (show p - ((lgC S r (n - r)).1.length + 16) ≤ p by omega)]
      have e5 : min p ((lgC S r (n - r)).1.length + 16) = p - (p - ((lgC S r (n - r)).1.length + 16)) := by omega
      rw [e5]
def savC (S : pS) (n r u : Nat) (x : Int32) : Int32 × pS := if ¬ S.1 11 0 1 = 0 then (-5, S) else if x < 0 then (-1, S) else (nI (min (nN x) ((lgC S r (n - r)).1.length + 16)), savS S n r u (nN x))
set_option maxHeartbeats 4000000 in
set_option maxRecDepth 100000 in
theorem m_save (l : Launch) (A : pA) (S : pS) {n r u : Nat} (hB : wfB S n) (hD : wfD S n r u) (x : Int32) : e_MX7_save l [.ref (ad A 0 0), .int x] (gS A S) (s_P A (isP (savC S n r u x))) := by
  refine ofX7_save (Nat.le_of_ble_eq_true rfl) ?_
  intro V C Rt
  refine srnX7_save C Rt [] 40 ?_
  simp only [k_i, s_go, s_1, e_op, e_pi, e_pl, e_pr, e_p0, e_li, e_ll, e_lr, e_lk, e_ins, e_rm, e_to, e_sw, e_cmp, k_c, k_n, k_f, k_v, k_lg, ↓reduceIte, reduceCtorEq, Nat.reduceAdd, Nat.reduceSub, Nat.reduceMul, Nat.reduceEqDiff, Nat.reduceLT, Nat.reduceLeDiff, Int.reduceAdd, Int.reduceSub, Int.reduceNeg, Int.reduceLE, Int.reduceLT, Int.reduceToNat, Int.reduceEq, Int.cast_ofNat_Int, List.mem_cons, List.not_mem_nil, List.length_cons, List.length_nil, List.set_cons_zero, List.set_cons_succ, List.toList_toArray, eq_self, true_and, and_true, and_self, or_true, true_or, false_or, or_false, or_self, not_true_eq_false, not_false_eq_true, Classical.not_not, true_implies, false_implies, implies_true, forall_const, and_false, false_and, Nat.le_refl, Nat.zero_le, Bool.false_eq_true, lv_args, s_rl_at, s_gf, s_pf, dn_q, kd_q, cl_q, nf_q, ln_q, tg_q, rr_q, cr_q, u_1, e_lsw, k_ti, List.drop_succ_cons, List.drop_zero, List.drop_nil, List.zip_cons_cons, List.zip_nil_right, List.zip_nil_left, List.all_cons, List.all_nil, Bool.and_true, Bool.and_self, decide_true, decide_false, Option.toList, List.cons_append, List.nil_append, List.append_nil, DX7_save_0, FLX7, LDX7]
  refine ⟨fun hd => ⟨fun h => ?_, fun h => ?_⟩, fun hd => by simp [isP, savC, hd]⟩
  · have h0 : ¬ x < 0 := Int32.not_lt.mpr h
    obtain ⟨p, hp, rfl⟩ := nI_of h0
    refine sX7_save_27 C (m_X1_hasRoomFor l A S hB hD) (s_obj (show 0 < 1 by decide) rfl) (hcat := Nat.le_of_ble_eq_true rfl) (k := ?_)
    rintro v2 G2 ⟨S2, rfl, rfl, rfl⟩
    refine srnX7_save C Rt [] 40 ?_
    simp only [k_i, s_go, s_1, e_op, e_pi, e_pl, e_pr, e_p0, e_li, e_ll, e_lr, e_lk, e_ins, e_rm, e_to, e_sw, e_cmp, k_c, k_n, k_f, k_v, k_lg, ↓reduceIte, reduceCtorEq, Nat.reduceAdd, Nat.reduceSub, Nat.reduceMul, Nat.reduceEqDiff, Nat.reduceLT, Nat.reduceLeDiff, Int.reduceAdd, Int.reduceSub, Int.reduceNeg, Int.reduceLE, Int.reduceLT, Int.reduceToNat, Int.reduceEq, Int.cast_ofNat_Int, List.mem_cons, List.not_mem_nil, List.length_cons, List.length_nil, List.set_cons_zero, List.set_cons_succ, List.toList_toArray, eq_self, true_and, and_true, and_self, or_true, true_or, false_or, or_false, or_self, not_true_eq_false, not_false_eq_true, Classical.not_not, true_implies, false_implies, implies_true, forall_const, and_false, false_and, Nat.le_refl, Nat.zero_le, Bool.false_eq_true, lv_args, s_rl_at, s_gf, s_pf, dn_q, kd_q, cl_q, nf_q, ln_q, tg_q, rr_q, cr_q, u_1, e_lsw, k_ti, List.drop_succ_cons, List.drop_zero, List.drop_nil, List.zip_cons_cons, List.zip_nil_right, List.zip_nil_left, List.all_cons, List.all_nil, Bool.and_true, Bool.and_self, decide_true, decide_false, Option.toList, List.cons_append, List.nil_append, List.append_nil, DX7_save_0, FLX7, LDX7]
    refine sX7_save_49 C (m_X1_writeAll l A S hB hD hp) (s_obj (show 0 < 1 by decide) rfl) (hcat := Nat.le_of_ble_eq_true rfl) (k := ?_)
    rintro v2 G2 ⟨S2, rfl, rfl, rfl⟩
    refine srnX7_save C Rt [] 40 ?_
    simp only [k_i, s_go, s_1, e_op, e_pi, e_pl, e_pr, e_p0, e_li, e_ll, e_lr, e_lk, e_ins, e_rm, e_to, e_sw, e_cmp, k_c, k_n, k_f, k_v, k_lg, ↓reduceIte, reduceCtorEq, Nat.reduceAdd, Nat.reduceSub, Nat.reduceMul, Nat.reduceEqDiff, Nat.reduceLT, Nat.reduceLeDiff, Int.reduceAdd, Int.reduceSub, Int.reduceNeg, Int.reduceLE, Int.reduceLT, Int.reduceToNat, Int.reduceEq, Int.cast_ofNat_Int, List.mem_cons, List.not_mem_nil, List.length_cons, List.length_nil, List.set_cons_zero, List.set_cons_succ, List.toList_toArray, eq_self, true_and, and_true, and_self, or_true, true_or, false_or, or_false, or_self, not_true_eq_false, not_false_eq_true, Classical.not_not, true_implies, false_implies, implies_true, forall_const, and_false, false_and, Nat.le_refl, Nat.zero_le, Bool.false_eq_true, lv_args, s_rl_at, s_gf, s_pf, dn_q, kd_q, cl_q, nf_q, ln_q, tg_q, rr_q, cr_q, u_1, e_lsw, k_ti, List.drop_succ_cons, List.drop_zero, List.drop_nil, List.zip_cons_cons, List.zip_nil_right, List.zip_nil_left, List.all_cons, List.all_nil, Bool.and_true, Bool.and_self, decide_true, decide_false, Option.toList, List.cons_append, List.nil_append, List.append_nil, DX7_save_0, FLX7, LDX7]
    simp [isP, savC, hd, h0, nN_nI hp]
  · have h0 : x < 0 := Int32.not_le.mp h
    simp [isP, savC, hd, h0]
