/-! FactLog$Disk: saving; FactLog.save -/
set_option maxHeartbeats 4000000 in
set_option maxRecDepth 100000 in
theorem m_X1_headPlace (l : Launch) (G : pH) (x : Nat) : e_MX1_headPlace l [.int (nI x)] G (fun v G2 => G2 = G ∧ v = some (.int (nI (3500 + x * 16)))) := by
  refine ofX1_headPlace (Nat.le_of_ble_eq_true rfl) ?_
  intro V C Rt
  refine runX1_headPlace C Rt [] 20 ?_
  simp only [e_go, e_1, e_op, e_pi, e_pl, e_pr, e_p0, e_li, e_ll, e_lr, e_lk, e_ins, e_rm, e_ob, e_ai, e_aj, e_aq, e_an, e_nth, e_to, e_sw, e_cmp, k_c, k_n, k_f, k_v, k_lg, ↓reduceIte, reduceCtorEq, Nat.reduceAdd, Nat.reduceSub, Nat.reduceMul, Nat.reduceEqDiff, Nat.reduceLT, Nat.reduceLeDiff, Int.reduceAdd, Int.reduceSub, Int.reduceNeg, Int.reduceLE, Int.reduceLT, Int.reduceToNat, Int.reduceEq, Int.cast_ofNat_Int, List.mem_cons, List.not_mem_nil, List.length_cons, List.length_nil, List.set_cons_zero, List.set_cons_succ, List.toList_toArray, eq_self, true_and, and_true, and_self, or_true, true_or, false_or, or_false, or_self, not_true_eq_false, not_false_eq_true, Classical.not_not, true_implies, false_implies, implies_true, forall_const, and_false, false_and, e_up_e, va_rf_s, va_rf_n, Nat.le_refl, Nat.zero_le, Bool.false_eq_true, lv_args, DX1_headPlace_0, FLX1, LDX1, (show (16 : Int32) = nI 16 from rfl), (show (3500 : Int32) = nI 3500 from rfl), pk_mul, nI_add]
/-- the disk as it was saved: rows, bytes used -/
def wfD (S : pS) (n rows used : Nat) : Prop := S.1 11 0 3 = nI rows ∧ rows ≤ n ∧ S.1 11 0 4 = nI used ∧ used ≤ 58 * rows ∧ (∀ j, j < 60 → S.1 14 0 j = nI j)
def rsz (S : pS) (r : Nat) : Nat → Nat
  | 0 => 0
  | k + 1 => rsz S r k + (19 + 9 * tcC S (r + k) + fcC S (r + k))
theorem rsz_le {S : pS} {n r : Nat} (hB : wfB S n) : ∀ k, r + k ≤ n → rsz S r k ≤ 58 * k
  | 0, _ => Nat.le_refl _
  | k + 1, h => by
    have h1 := rsz_le (S := S) (r := r) hB k (by omega)
    have h2 := hB.2.2 (r + k) (by omega)
    have h3 := h2.2.1
    have h4 := h2.2.2.2.1
    simp only [rsz]
    omega
section
variable {V : pV} {l : Launch} {A : pA} {post : Option Value → pS → Prop} {S : pS}
set_option maxHeartbeats 4000000 in
set_option maxRecDepth 100000 in
theorem lp_hasRoom (C : e_CX1_hasRoomFor V l) (Rt : e_RX1_hasRoomFor V (s_P A post)) {n r u : Nat} (hB : wfB S n) (hu : u ≤ 58 * r) (hp : post (some (.int 1)) S) : ∀ z k, r + k + z = n → V 0 0 10 [(0, .ref (ad A 11 0)), (1, .ref (ad A 4 0)), (2, .int (nI (u + rsz S r k))), (3, .int (nI (r + k)))] [] (gS A S) := by
  have hB0 := hB
  obtain ⟨hc, hn, hw⟩ := hB
  intro z
  induction z with
  | zero =>
    intro k hk
    have hk2 : r + k = n := by omega
    have h1 := rsz_le (r := r) hB0 k (by omega)
    have h2 : ¬ (nI 3500 < nI (u + rsz S r k)) := by
      rw [nI_ltI (by omega) (by omega)]
      omega
    refine srnX1_hasRoomFor C Rt [10] 40 ?_
    simp only [k_i, s_go, s_1, e_op, e_pi, e_pl, e_pr, e_p0, e_li, e_ll, e_lr, e_lk, e_ins, e_rm, e_to, e_sw, e_cmp, k_c, k_n, k_f, k_v, k_lg, ↓reduceIte, reduceCtorEq, Nat.reduceAdd, Nat.reduceSub, Nat.reduceMul, Nat.reduceEqDiff, Nat.reduceLT, Nat.reduceLeDiff, Int.reduceAdd, Int.reduceSub, Int.reduceNeg, Int.reduceLE, Int.reduceLT, Int.reduceToNat, Int.reduceEq, Int.cast_ofNat_Int, List.mem_cons, List.not_mem_nil, List.length_cons, List.length_nil, List.set_cons_zero, List.set_cons_succ, List.toList_toArray, eq_self, true_and, and_true, and_self, or_true, true_or, false_or, or_false, or_self, not_true_eq_false, not_false_eq_true, Classical.not_not, true_implies, false_implies, implies_true, forall_const, and_false, false_and, Nat.le_refl, Nat.zero_le, Bool.false_eq_true, lv_args, s_rl_at, s_gf, s_pf, dn_q, kd_q, cl_q, nf_q, ln_q, tg_q, rr_q, cr_q, u_1, e_lsw, k_ti, List.drop_succ_cons, List.drop_zero, List.drop_nil, List.zip_cons_cons, List.zip_nil_right, List.zip_nil_left, List.all_cons, List.all_nil, Bool.and_true, Bool.and_self, decide_true, decide_false, Option.toList, List.cons_append, List.nil_append, List.append_nil, DX1_hasRoomFor_0, FLX1, LDX1, hc, hk2, x_le (a := n) (b := n) (by omega) (by omega), (show (3500 : Int32) = nI 3500 from rfl), h2]
    exact hp
  | succ z ih =>
    intro k hk
    have hwk := hw (r + k) (by omega)
    refine srnX1_hasRoomFor C Rt [10] 40 ?_
    simp only [k_i, s_go, s_1, e_op, e_pi, e_pl, e_pr, e_p0, e_li, e_ll, e_lr, e_lk, e_ins, e_rm, e_to, e_sw, e_cmp, k_c, k_n, k_f, k_v, k_lg, ↓reduceIte, reduceCtorEq, Nat.reduceAdd, Nat.reduceSub, Nat.reduceMul, Nat.reduceEqDiff, Nat.reduceLT, Nat.reduceLeDiff, Int.reduceAdd, Int.reduceSub, Int.reduceNeg, Int.reduceLE, Int.reduceLT, Int.reduceToNat, Int.reduceEq, Int.cast_ofNat_Int, List.mem_cons, List.not_mem_nil, List.length_cons, List.length_nil, List.set_cons_zero, List.set_cons_succ, List.toList_toArray, eq_self, true_and, and_true, and_self, or_true, true_or, false_or, or_false, or_self, not_true_eq_false, not_false_eq_true, Classical.not_not, true_implies, false_implies, implies_true, forall_const, and_false, false_and, Nat.le_refl, Nat.zero_le, Bool.false_eq_true, lv_args, s_rl_at, s_gf, s_pf, dn_q, kd_q, cl_q, nf_q, ln_q, tg_q, rr_q, cr_q, u_1, e_lsw, k_ti, List.drop_succ_cons, List.drop_zero, List.drop_nil, List.zip_cons_cons, List.zip_nil_right, List.zip_nil_left, List.all_cons, List.all_nil, Bool.and_true, Bool.and_self, decide_true, decide_false, Option.toList, List.cons_append, List.nil_append, List.append_nil, DX1_hasRoomFor_0, FLX1, LDX1, hc, x_le (a := n) (b := r + k) (by omega) (by omega), x_cl (a := r + k) (by omega), x_in (a := r + k) (n := 60) (by omega)]
    refine ⟨fun h => by omega, fun _ => ⟨by omega, ?_⟩⟩
    refine sX1_hasRoomFor_25 C (m_X2_rowBytes l A S (show r + k < 62 by omega) hwk.1 hwk.2.2.1) (s_obj (show r + k < 62 by omega) rfl) (hcat := Nat.le_of_ble_eq_true rfl) (k := ?_)
    rintro v2 G2 ⟨S2, rfl, rfl, rfl⟩
    refine srnX1_hasRoomFor C Rt [10] 40 ?_
    simp only [k_i, s_go, s_1, e_op, e_pi, e_pl, e_pr, e_p0, e_li, e_ll, e_lr, e_lk, e_ins, e_rm, e_to, e_sw, e_cmp, k_c, k_n, k_f, k_v, k_lg, ↓reduceIte, reduceCtorEq, Nat.reduceAdd, Nat.reduceSub, Nat.reduceMul, Nat.reduceEqDiff, Nat.reduceLT, Nat.reduceLeDiff, Int.reduceAdd, Int.reduceSub, Int.reduceNeg, Int.reduceLE, Int.reduceLT, Int.reduceToNat, Int.reduceEq, Int.cast_ofNat_Int, List.mem_cons, List.not_mem_nil, List.length_cons, List.length_nil, List.set_cons_zero, List.set_cons_succ, List.toList_toArray, eq_self, true_and, and_true, and_self, or_true, true_or, false_or, or_false, or_self, not_true_eq_false, not_false_eq_true, Classical.not_not, true_implies, false_implies, implies_true, forall_const, and_false, false_and, Nat.le_refl, Nat.zero_le, Bool.false_eq_true, lv_args, s_rl_at, s_gf, s_pf, dn_q, kd_q, cl_q, nf_q, ln_q, tg_q, rr_q, cr_q, u_1, e_lsw, k_ti, List.drop_succ_cons, List.drop_zero, List.drop_nil, List.zip_cons_cons, List.zip_nil_right, List.zip_nil_left, List.all_cons, List.all_nil, Bool.and_true, Bool.and_self, decide_true, decide_false, Option.toList, List.cons_append, List.nil_append, List.append_nil, DX1_hasRoomFor_0, FLX1, LDX1, nI_add, nI_1, Nat.add_assoc]
    have h9 := ih (k + 1) (by omega)
    simp only [rsz, Nat.add_assoc] at h9
    exact h9
end
set_option maxHeartbeats 4000000 in
set_option maxRecDepth 100000 in
theorem m_X1_hasRoomFor (l : Launch) (A : pA) (S : pS) {n r u : Nat} (hB : wfB S n) (hD : wfD S n r u) : e_MX1_hasRoomFor l [.ref (ad A 11 0), .ref (ad A 4 0)] (gS A S) (s_P A (fun v S2 => S = S2 ∧ v = some (.int 1))) := by
  obtain ⟨d1, d2, d3, d4, d5⟩ := hD
  refine ofX1_hasRoomFor (Nat.le_of_ble_eq_true rfl) ?_
  intro V C Rt
  refine srnX1_hasRoomFor C Rt [10] 7 ?_
  simp only [k_i, s_go, s_1, e_op, e_pi, e_pl, e_pr, e_p0, e_li, e_ll, e_lr, e_lk, e_ins, e_rm, e_to, e_sw, e_cmp, k_c, k_n, k_f, k_v, k_lg, ↓reduceIte, reduceCtorEq, Nat.reduceAdd, Nat.reduceSub, Nat.reduceMul, Nat.reduceEqDiff, Nat.reduceLT, Nat.reduceLeDiff, Int.reduceAdd, Int.reduceSub, Int.reduceNeg, Int.reduceLE, Int.reduceLT, Int.reduceToNat, Int.reduceEq, Int.cast_ofNat_Int, List.mem_cons, List.not_mem_nil, List.length_cons, List.length_nil, List.set_cons_zero, List.set_cons_succ, List.toList_toArray, eq_self, true_and, and_true, and_self, or_true, true_or, false_or, or_false, or_self, not_true_eq_false, not_false_eq_true, Classical.not_not, true_implies, false_implies, implies_true, forall_const, and_false, false_and, Nat.le_refl, Nat.zero_le, Bool.false_eq_true, lv_args, s_rl_at, s_gf, s_pf, dn_q, kd_q, cl_q, nf_q, ln_q, tg_q, rr_q, cr_q, u_1, e_lsw, k_ti, List.drop_succ_cons, List.drop_zero, List.drop_nil, List.zip_cons_cons, List.zip_nil_right, List.zip_nil_left, List.all_cons, List.all_nil, Bool.and_true, Bool.and_self, decide_true, decide_false, Option.toList, List.cons_append, List.nil_append, List.append_nil, DX1_hasRoomFor_0, FLX1, LDX1, d1, d3]
  have h9 := lp_hasRoom (u := u) (r := r) C Rt hB d4 ⟨rfl, rfl⟩ (n - r) 0 (by omega)
  simpa [rsz] using h9
/-- rows with their sums, one behind the other, and the last sum -/
def lgB (row : Nat → List Int32) (σ : Int64) (r : Nat) : Nat → List Int32 × Int64
  | 0 => ([], σ)
  | k + 1 => ((lgB row σ r k).1 ++ row (r + k) ++ nb (sws (lgB row σ r k).2 (row (r + k))) 8, sws (lgB row σ r k).2 (row (r + k)))
abbrev rowC (S : pS) (i : Nat) : List Int32 := rwB (S.1 6 i 0) (S.2.1 6 i 1) (tcC S i) (S.1 7 i) (S.1 8 i) (S.1 9 i) (fcC S i) (fun k => nI (onC S i k))
theorem lgB_len {S : pS} {n r : Nat} {σ : Int64} (hB : wfB S n) : ∀ k, r + k ≤ n → (lgB (rowC S) σ r k).1.length ≤ 58 * k
  | 0, _ => Nat.le_refl _
  | k + 1, h => by
    have h1 := lgB_len (S := S) (r := r) (σ := σ) hB k (by omega)
    have h2 := hB.2.2 (r + k) (by omega)
    have h3 := h2.2.1
    have h4 := h2.2.2.2.1
    simp only [lgB, List.length_append, nb_len, rwB_len]
    omega
/-- the writer goes to another place -/
theorem wS_re {S : pS} {qk qi a p : Nat} {c : Bool} {bs : List Int32} {σ : Int64} {x : Nat} (hne : ¬ 18 = qk) : uI (wS S qk qi a p c bs σ) 18 0 0 (nI x) = wS (wS S qk qi a p c bs σ) qk qi x (p - wn p c bs) (c || decide (p < bs.length)) [] σ := by
  apply Prod.ext
  · funext k' i' j'
    have hw : wn (p - wn p c bs) (c || decide (p < bs.length)) [] = 0 := by simp [wn]
    simp only [u_1]
    rw [wS_1 (wS S qk qi a p c bs σ), hw]
    by_cases h1 : k' = 18 ∧ i' = 0 ∧ j' = 0
    · obtain ⟨rfl, rfl, rfl⟩ := h1
      simp [hne]
    · rw [if_neg h1, if_neg (by omega), if_neg h1]
      by_cases h2 : k' = 18 ∧ i' = 0 ∧ j' = 1
      · obtain ⟨rfl, rfl, rfl⟩ := h2
        simp [wS_1, hne]
      · rw [if_neg h2]
        by_cases h3 : k' = 18 ∧ i' = 0 ∧ j' = 2
        · obtain ⟨rfl, rfl, rfl⟩ := h3
          simp [wS_1, hne]
        · rw [if_neg h3]
  · refine Prod.ext ?_ rfl
    funext k' i' j'
    show (if k' = 18 ∧ i' = 0 ∧ j' = 3 then σ else S.2.1 k' i' j') = (if k' = 18 ∧ i' = 0 ∧ j' = 3 then σ else if k' = 18 ∧ i' = 0 ∧ j' = 3 then σ else S.2.1 k' i' j')
    by_cases h : k' = 18 ∧ i' = 0 ∧ j' = 3 <;> simp [h]
def hdB (g n : Int32) (σ : Int64) : List Int32 := nb g.toInt64 4 ++ nb n.toInt64 4 ++ nb (sws σ (nb g.toInt64 4 ++ nb n.toInt64 4)) 8
theorem hdB_len {g n : Int32} {σ : Int64} : (hdB g n σ).length = 16 := by simp [hdB, nb_len]
/-- head's place, of a generation -/
def hpl (g : Int32) : Nat := 3500 + nN (g &&& 1) * 16
theorem hpl_b (g : Int32) : ∃ b : Nat, b < 2 ∧ g &&& 1 = nI b ∧ hpl g = 3500 + b * 16 := by
  obtain ⟨j, hj, e⟩ := pk_andE g (m := 1) 1 (by decide)
  exact ⟨j, by omega, e, by rw [hpl, e, nN_nI (by omega)]⟩
set_option maxHeartbeats 4000000 in
set_option maxRecDepth 100000 in
theorem m_X1_writeHead (l : Launch) (A : pA) (S : pS) {a p : Nat} {c : Bool} {bs : List Int32} {σ : Int64} (hQ : wQ S 12 0) (hp : p < 2147483648) (n : Int32) : e_MX1_writeHead l [.ref (ad A 11 0), .int n, .ref (ad A 18 0)] (gS A (wS S 12 0 a p c bs σ)) (s_P A (fun v S2 => S2 = wS (wS S 12 0 a p c bs σ) 12 0 (hpl (S.1 11 0 2 + 1)) (p - wn p c bs) (c || decide (p < bs.length)) (hdB (S.1 11 0 2 + 1) n σ) (sws σ (nb (S.1 11 0 2 + 1).toInt64 4 ++ nb n.toInt64 4)) ∧ v = none)) := by
  have hQ2 : wQ (wS S 12 0 a p c bs σ) 12 0 := hQ
  obtain ⟨b, hb, eb, eh⟩ := hpl_b (S.1 11 0 2 + 1)
  have hp2 : p - wn p c bs < 2147483648 := by omega
  have hl12 : ln 12 = 3532 := rfl
  refine ofX1_writeHead (Nat.le_of_ble_eq_true rfl) ?_
  intro V C Rt
  refine srnX1_writeHead C Rt [] 40 ?_
  simp only [k_i, s_go, s_1, e_op, e_pi, e_pl, e_pr, e_p0, e_li, e_ll, e_lr, e_lk, e_ins, e_rm, e_to, e_sw, e_cmp, k_c, k_n, k_f, k_v, k_lg, ↓reduceIte, reduceCtorEq, Nat.reduceAdd, Nat.reduceSub, Nat.reduceMul, Nat.reduceEqDiff, Nat.reduceLT, Nat.reduceLeDiff, Int.reduceAdd, Int.reduceSub, Int.reduceNeg, Int.reduceLE, Int.reduceLT, Int.reduceToNat, Int.reduceEq, Int.cast_ofNat_Int, List.mem_cons, List.not_mem_nil, List.length_cons, List.length_nil, List.set_cons_zero, List.set_cons_succ, List.toList_toArray, eq_self, true_and, and_true, and_self, or_true, true_or, false_or, or_false, or_self, not_true_eq_false, not_false_eq_true, Classical.not_not, true_implies, false_implies, implies_true, forall_const, and_false, false_and, Nat.le_refl, Nat.zero_le, Bool.false_eq_true, lv_args, s_rl_at, s_gf, s_pf, dn_q, kd_q, cl_q, nf_q, ln_q, tg_q, rr_q, cr_q, u_1, e_lsw, k_ti, List.drop_succ_cons, List.drop_zero, List.drop_nil, List.zip_cons_cons, List.zip_nil_right, List.zip_nil_left, List.all_cons, List.all_nil, Bool.and_true, Bool.and_self, decide_true, decide_false, Option.toList, List.cons_append, List.nil_append, List.append_nil, DX1_writeHead_0, FLX1, LDX1, wS_1, wS_2, wS_3, eb]
  refine sX1_writeHead_11 C (m_X1_headPlace l _ b) (hcat := Nat.le_of_ble_eq_true rfl) (k := ?_)
  rintro v2 G2 ⟨rfl, rfl⟩
  refine srnX1_writeHead C Rt [] 40 ?_
  simp only [k_i, s_go, s_1, e_op, e_pi, e_pl, e_pr, e_p0, e_li, e_ll, e_lr, e_lk, e_ins, e_rm, e_to, e_sw, e_cmp, k_c, k_n, k_f, k_v, k_lg, ↓reduceIte, reduceCtorEq, Nat.reduceAdd, Nat.reduceSub, Nat.reduceMul, Nat.reduceEqDiff, Nat.reduceLT, Nat.reduceLeDiff, Int.reduceAdd, Int.reduceSub, Int.reduceNeg, Int.reduceLE, Int.reduceLT, Int.reduceToNat, Int.reduceEq, Int.cast_ofNat_Int, List.mem_cons, List.not_mem_nil, List.length_cons, List.length_nil, List.set_cons_zero, List.set_cons_succ, List.toList_toArray, eq_self, true_and, and_true, and_self, or_true, true_or, false_or, or_false, or_self, not_true_eq_false, not_false_eq_true, Classical.not_not, true_implies, false_implies, implies_true, forall_const, and_false, false_and, Nat.le_refl, Nat.zero_le, Bool.false_eq_true, lv_args, s_rl_at, s_gf, s_pf, dn_q, kd_q, cl_q, nf_q, ln_q, tg_q, rr_q, cr_q, u_1, e_lsw, k_ti, List.drop_succ_cons, List.drop_zero, List.drop_nil, List.zip_cons_cons, List.zip_nil_right, List.zip_nil_left, List.all_cons, List.all_nil, Bool.and_true, Bool.and_self, decide_true, decide_false, Option.toList, List.cons_append, List.nil_append, List.append_nil, DX1_writeHead_0, FLX1, LDX1, (show (4 : Int32) = nI 4 from rfl)]
  rw [wS_re (by decide)]
  refine sX1_writeHead_21 C (m_X6_putNumber l A _ hQ2 (show 4 ≤ 8 by decide) (by rw [hl12]; simp; omega) hp2 _) (s_obj (show 0 < 1 by decide) rfl) (hcat := Nat.le_of_ble_eq_true rfl) (k := ?_)
  rintro v2 G2 ⟨S2, rfl, rfl, rfl⟩
  refine srnX1_writeHead C Rt [] 40 ?_
  simp only [k_i, s_go, s_1, e_op, e_pi, e_pl, e_pr, e_p0, e_li, e_ll, e_lr, e_lk, e_ins, e_rm, e_to, e_sw, e_cmp, k_c, k_n, k_f, k_v, k_lg, ↓reduceIte, reduceCtorEq, Nat.reduceAdd, Nat.reduceSub, Nat.reduceMul, Nat.reduceEqDiff, Nat.reduceLT, Nat.reduceLeDiff, Int.reduceAdd, Int.reduceSub, Int.reduceNeg, Int.reduceLE, Int.reduceLT, Int.reduceToNat, Int.reduceEq, Int.cast_ofNat_Int, List.mem_cons, List.not_mem_nil, List.length_cons, List.length_nil, List.set_cons_zero, List.set_cons_succ, List.toList_toArray, eq_self, true_and, and_true, and_self, or_true, true_or, false_or, or_false, or_self, not_true_eq_false, not_false_eq_true, Classical.not_not, true_implies, false_implies, implies_true, forall_const, and_false, false_and, Nat.le_refl, Nat.zero_le, Bool.false_eq_true, lv_args, s_rl_at, s_gf, s_pf, dn_q, kd_q, cl_q, nf_q, ln_q, tg_q, rr_q, cr_q, u_1, e_lsw, k_ti, List.drop_succ_cons, List.drop_zero, List.drop_nil, List.zip_cons_cons, List.zip_nil_right, List.zip_nil_left, List.all_cons, List.all_nil, Bool.and_true, Bool.and_self, decide_true, decide_false, Option.toList, List.cons_append, List.nil_append, List.append_nil, DX1_writeHead_0, FLX1, LDX1, (show (4 : Int32) = nI 4 from rfl)]
  refine sX1_writeHead_28 C (m_X6_putNumber l A _ hQ2 (show 4 ≤ 8 by decide) (by rw [hl12]; simp [nb_len]; omega) hp2 _) (s_obj (show 0 < 1 by decide) rfl) (hcat := Nat.le_of_ble_eq_true rfl) (k := ?_)
  rintro v2 G2 ⟨S2, rfl, rfl, rfl⟩
  refine srnX1_writeHead C Rt [] 40 ?_
  simp only [k_i, s_go, s_1, e_op, e_pi, e_pl, e_pr, e_p0, e_li, e_ll, e_lr, e_lk, e_ins, e_rm, e_to, e_sw, e_cmp, k_c, k_n, k_f, k_v, k_lg, ↓reduceIte, reduceCtorEq, Nat.reduceAdd, Nat.reduceSub, Nat.reduceMul, Nat.reduceEqDiff, Nat.reduceLT, Nat.reduceLeDiff, Int.reduceAdd, Int.reduceSub, Int.reduceNeg, Int.reduceLE, Int.reduceLT, Int.reduceToNat, Int.reduceEq, Int.cast_ofNat_Int, List.mem_cons, List.not_mem_nil, List.length_cons, List.length_nil, List.set_cons_zero, List.set_cons_succ, List.toList_toArray, eq_self, true_and, and_true, and_self, or_true, true_or, false_or, or_false, or_self, not_true_eq_false, not_false_eq_true, Classical.not_not, true_implies, false_implies, implies_true, forall_const, and_false, false_and, Nat.le_refl, Nat.zero_le, Bool.false_eq_true, lv_args, s_rl_at, s_gf, s_pf, dn_q, kd_q, cl_q, nf_q, ln_q, tg_q, rr_q, cr_q, u_1, e_lsw, k_ti, List.drop_succ_cons, List.drop_zero, List.drop_nil, List.zip_cons_cons, List.zip_nil_right, List.zip_nil_left, List.all_cons, List.all_nil, Bool.and_true, Bool.and_self, decide_true, decide_false, Option.toList, List.cons_append, List.nil_append, List.append_nil, DX1_writeHead_0, FLX1, LDX1, wS_1, wS_2, wS_3, (show (8 : Int32) = nI 8 from rfl)]
  refine sX1_writeHead_38 C (m_X6_putPlain l A _ hQ2 (show 8 ≤ 8 by decide) (by rw [hl12]; simp [nb_len]; omega) hp2 _) (s_obj (show 0 < 1 by decide) rfl) (hcat := Nat.le_of_ble_eq_true rfl) (k := ?_)
  rintro v2 G2 ⟨S2, rfl, rfl, rfl⟩
  refine srnX1_writeHead C Rt [] 40 ?_
  simp only [k_i, s_go, s_1, e_op, e_pi, e_pl, e_pr, e_p0, e_li, e_ll, e_lr, e_lk, e_ins, e_rm, e_to, e_sw, e_cmp, k_c, k_n, k_f, k_v, k_lg, ↓reduceIte, reduceCtorEq, Nat.reduceAdd, Nat.reduceSub, Nat.reduceMul, Nat.reduceEqDiff, Nat.reduceLT, Nat.reduceLeDiff, Int.reduceAdd, Int.reduceSub, Int.reduceNeg, Int.reduceLE, Int.reduceLT, Int.reduceToNat, Int.reduceEq, Int.cast_ofNat_Int, List.mem_cons, List.not_mem_nil, List.length_cons, List.length_nil, List.set_cons_zero, List.set_cons_succ, List.toList_toArray, eq_self, true_and, and_true, and_self, or_true, true_or, false_or, or_false, or_self, not_true_eq_false, not_false_eq_true, Classical.not_not, true_implies, false_implies, implies_true, forall_const, and_false, false_and, Nat.le_refl, Nat.zero_le, Bool.false_eq_true, lv_args, s_rl_at, s_gf, s_pf, dn_q, kd_q, cl_q, nf_q, ln_q, tg_q, rr_q, cr_q, u_1, e_lsw, k_ti, List.drop_succ_cons, List.drop_zero, List.drop_nil, List.zip_cons_cons, List.zip_nil_right, List.zip_nil_left, List.all_cons, List.all_nil, Bool.and_true, Bool.and_self, decide_true, decide_false, Option.toList, List.cons_append, List.nil_append, List.append_nil, DX1_writeHead_0, FLX1, LDX1]
  rw [eh]
  simp [hdB, sws_app]
set_option maxHeartbeats 4000000 in
set_option maxRecDepth 100000 in
theorem m_X6_begin (l : Launch) (A : pA) (S : pS) {qk qi p : Nat} (hk : qk = 12 ∨ qk = 21) (σ : Int64) : e_MX6_begin l [.ref (ad A 18 0), .ref (ad A qk qi), .int (nI p), .long σ] (gS A S) (s_P A (fun v S2 => S2 = wS (uQ S 18 0 4 (qk, qi)) qk qi 0 p false [] σ ∧ v = none)) := by
  refine ofX6_begin (Nat.le_of_ble_eq_true rfl) ?_
  intro V C Rt
  refine srnX6_begin C Rt [] 40 ?_
  simp only [k_i, s_go, s_1, e_op, e_pi, e_pl, e_pr, e_p0, e_li, e_ll, e_lr, e_lk, e_ins, e_rm, e_to, e_sw, e_cmp, k_c, k_n, k_f, k_v, k_lg, ↓reduceIte, reduceCtorEq, Nat.reduceAdd, Nat.reduceSub, Nat.reduceMul, Nat.reduceEqDiff, Nat.reduceLT, Nat.reduceLeDiff, Int.reduceAdd, Int.reduceSub, Int.reduceNeg, Int.reduceLE, Int.reduceLT, Int.reduceToNat, Int.reduceEq, Int.cast_ofNat_Int, List.mem_cons, List.not_mem_nil, List.length_cons, List.length_nil, List.set_cons_zero, List.set_cons_succ, List.toList_toArray, eq_self, true_and, and_true, and_self, or_true, true_or, false_or, or_false, or_self, not_true_eq_false, not_false_eq_true, Classical.not_not, true_implies, false_implies, implies_true, forall_const, and_false, false_and, Nat.le_refl, Nat.zero_le, Bool.false_eq_true, lv_args, s_rl_at, s_gf, s_pf, dn_q, kd_q, cl_q, nf_q, ln_q, tg_q, rr_q, cr_q, u_1, e_lsw, k_ti, List.drop_succ_cons, List.drop_zero, List.drop_nil, List.zip_cons_cons, List.zip_nil_right, List.zip_nil_left, List.all_cons, List.all_nil, Bool.and_true, Bool.and_self, decide_true, decide_false, Option.toList, List.cons_append, List.nil_append, List.append_nil, DX6_begin_0, FLX6, LDX6]
  have hw : wn p false [] = 0 := by simp [wn]
  refine Prod.ext ?_ (Prod.ext ?_ rfl)
  · funext k' i' j'
    rw [wS_1, hw]
    simp only [u_1]
    rw [if_neg (show ¬ (k' = qk ∧ i' = qi ∧ 0 ≤ j' ∧ j' < 0 + 0) by omega)]
    by_cases h1 : k' = 18 ∧ i' = 0 ∧ j' = 0
    · obtain ⟨rfl, rfl, rfl⟩ := h1
      simp [nI_0]
    · by_cases h2 : k' = 18 ∧ i' = 0 ∧ j' = 1
      · obtain ⟨rfl, rfl, rfl⟩ := h2
        simp
      · by_cases h3 : k' = 18 ∧ i' = 0 ∧ j' = 2
        · obtain ⟨rfl, rfl, rfl⟩ := h3
          simp [b2i]
        · simp [h1, h2, h3]
  · funext k' i' j'
    rfl
