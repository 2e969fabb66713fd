/-! the reference: save -/
theorem mS_uI {T : pS} {bs : List Int32} {k i j : Nat} {v : Int32} (h : ¬ k = 60) (h2 : ¬ k = 30) : uI (mS T bs) k i j v = mS (uI T k i j v) bs := by
  refine Prod.ext ?_ rfl
  funext k' i' j'
  simp only [u_1, mS_1]
  by_cases h1 : k' = k ∧ i' = i ∧ j' = j
  · obtain ⟨rfl, rfl, rfl⟩ := h1
    simp [h, h2]
  · simp [h1]
theorem mS_uX {T : pS} {bs : List Int32} {k : Nat} {f : Nat → Int32} (h : ¬ k = 60) (h2 : ¬ k = 30) : uX (mS T bs) k f = mS (uX T k f) bs := by
  refine Prod.ext ?_ rfl
  funext k' i' j'
  simp only [uX_1, mS_1]
  by_cases h1 : k' = k ∧ i' = 0
  · obtain ⟨rfl, rfl⟩ := h1
    simp [h, h2]
  · simp [h1]
theorem mS_0 {T : pS} : uI T 30 0 30 0 = mS T [] := by
  refine Prod.ext ?_ rfl
  funext k' i' j'
  simp only [u_1, mS_1, List.length_nil]
  rw [if_neg (show ¬ (k' = 60 ∧ i' = 0 ∧ j' < 0) by omega)]
  rfl
def nmX (i : Nat) (g : Nat → Int32) : Nat → Int32 := fun j => if j < i then nI j else g j
theorem take_s {X : List Int32} {i : Nat} (h : i < X.length) : X.take (i + 1) = X.take i ++ [X.getD i 0] := by
  rw [List.take_succ, List.getD_eq_getElem?_getD, List.getElem?_eq_getElem h]
  rfl
def dX (d : Nat → Int32) (u : Nat) (L : List Int32) (h : Nat) (H : List Int32) (k : Nat) : Nat → Int32 := fun j => if u ≤ j ∧ j < u + min k L.length then L.getD (j - u) 0 else if h ≤ j ∧ j < h + (k - L.length) then H.getD (j - h) 0 else d j
theorem dX_1 {d : Nat → Int32} {u h k : Nat} {L H : List Int32} (hk : k < L.length) : (fun j => if j = u + k then (L ++ H).getD k 0 else dX d u L h H k j) = dX d u L h H (k + 1) := by
  funext j
  unfold dX
  have e1 : min k L.length = k := by omega
  have e2 : min (k + 1) L.length = k + 1 := by omega
  have e3 : k - L.length = 0 := by omega
  have e4 : k + 1 - L.length = 0 := by omega
  rw [e1, e2, e3, e4]
  by_cases h1 : j = u + k
  · subst h1
    rw [if_pos rfl, if_pos (by omega), Nat.add_sub_cancel_left]
    simp [List.getD_eq_getElem?_getD, List.getElem?_append_left hk]
  · rw [if_neg h1]
    have : (u ≤ j ∧ j < u + k) ↔ (u ≤ j ∧ j < u + (k + 1)) := by omega
    simp [this]
theorem dX_2 {d : Nat → Int32} {u h k : Nat} {L H : List Int32} (hk : ¬ k < L.length) (huh : u + L.length ≤ h) : (fun j => if j = h + k - L.length then (L ++ H).getD k 0 else dX d u L h H k j) = dX d u L h H (k + 1) := by
  funext j
  unfold dX
  have e1 : min k L.length = L.length := by omega
  have e2 : min (k + 1) L.length = L.length := by omega
  rw [e1, e2]
  by_cases h1 : j = h + k - L.length
  · subst h1
    rw [if_pos rfl, if_neg (by omega), if_pos (by omega)]
    have : h + k - L.length - h = k - L.length := by omega
    rw [this]
    simp [List.getD_eq_getElem?_getD, List.getElem?_append_right (show L.length ≤ k by omega)]
  · rw [if_neg h1]
    have : (h ≤ j ∧ j < h + (k - L.length)) ↔ (h ≤ j ∧ j < h + (k + 1 - L.length)) := by omega
    simp [this]
section
variable {V : pV} {l : Launch} {A : pA} {post : Option Value → pS → Prop} {T S : pS}
set_option maxHeartbeats 4000000 in
set_option maxRecDepth 100000 in
theorem lp_X8_save0 (C : e_CX8_save V l) (Rt : e_RX8_save V (s_P A post)) {n : Nat} {p : Int32} {σ : Int64} {g : Nat → Int32} (hn : n ≤ 60) (hT : T.1 30 0 3 = nI n) (hx : V 0 0 58 [(0, .ref (ad A 30 0)), (1, .int p), (2, .long σ), (4, .int (nI n))] [] (gS A (mS (uX T 62 (nmX n g)) []))) : ∀ z i, i + z = n → V 0 0 34 [(0, .ref (ad A 30 0)), (1, .int p), (2, .long σ), (4, .int (nI i))] [] (gS A (mS (uX T 62 (nmX i g)) [])) := by
  intro z
  induction z with
  | zero =>
    intro i hi
    have hi2 : i = n := by omega
    rw [hi2]
    refine srnX8_save C Rt [34, 58] 40 ?_
    simp only [k_i, s_go, s_1, e_op, e_pi, e_pl, e_pr, e_p0, e_li, e_ll, e_lr, e_lk, e_ins, e_rm, e_to, e_sw, e_cmp, k_c, k_n, k_f, k_v, k_lg, ↓reduceIte, reduceCtorEq, Nat.reduceAdd, Nat.reduceSub, Nat.reduceMul, Nat.reduceEqDiff, Nat.reduceLT, Nat.reduceLeDiff, Int.reduceAdd, Int.reduceSub, Int.reduceNeg, Int.reduceLE, Int.reduceLT, Int.reduceToNat, Int.reduceEq, Int.cast_ofNat_Int, List.mem_cons, List.not_mem_nil, List.length_cons, List.length_nil, List.set_cons_zero, List.set_cons_succ, List.toList_toArray, eq_self, true_and, and_true, and_self, or_true, true_or, false_or, or_false, or_self, not_true_eq_false, not_false_eq_true, Classical.not_not, true_implies, false_implies, implies_true, forall_const, and_false, false_and, Nat.le_refl, Nat.zero_le, Bool.false_eq_true, lv_args, s_rl_at, s_gf, s_pf, dn_q, kd_q, cl_q, nf_q, ln_q, tg_q, rr_q, cr_q, u_1, e_lsw, k_ti, List.drop_succ_cons, List.drop_zero, List.drop_nil, List.zip_cons_cons, List.zip_nil_right, List.zip_nil_left, List.all_cons, List.all_nil, Bool.and_true, Bool.and_self, decide_true, decide_false, Option.toList, List.cons_append, List.nil_append, List.append_nil, DX8_save_0, DX8_save_1, DX8_save_2, DX8_save_3, DX8_save_4, FLX8, LDX8, mS_1, mS_2, uX_1, uX_2, hT, x_le (a := n) (b := n) (by omega) (by omega)]
    exact hx
  | succ z ih =>
    intro i hi
    refine srnX8_save C Rt [34, 58] 40 ?_
    simp only [k_i, s_go, s_1, e_op, e_pi, e_pl, e_pr, e_p0, e_li, e_ll, e_lr, e_lk, e_ins, e_rm, e_to, e_sw, e_cmp, k_c, k_n, k_f, k_v, k_lg, ↓reduceIte, reduceCtorEq, Nat.reduceAdd, Nat.reduceSub, Nat.reduceMul, Nat.reduceEqDiff, Nat.reduceLT, Nat.reduceLeDiff, Int.reduceAdd, Int.reduceSub, Int.reduceNeg, Int.reduceLE, Int.reduceLT, Int.reduceToNat, Int.reduceEq, Int.cast_ofNat_Int, List.mem_cons, List.not_mem_nil, List.length_cons, List.length_nil, List.set_cons_zero, List.set_cons_succ, List.toList_toArray, eq_self, true_and, and_true, and_self, or_true, true_or, false_or, or_false, or_self, not_true_eq_false, not_false_eq_true, Classical.not_not, true_implies, false_implies, implies_true, forall_const, and_false, false_and, Nat.le_refl, Nat.zero_le, Bool.false_eq_true, lv_args, s_rl_at, s_gf, s_pf, dn_q, kd_q, cl_q, nf_q, ln_q, tg_q, rr_q, cr_q, u_1, e_lsw, k_ti, List.drop_succ_cons, List.drop_zero, List.drop_nil, List.zip_cons_cons, List.zip_nil_right, List.zip_nil_left, List.all_cons, List.all_nil, Bool.and_true, Bool.and_self, decide_true, decide_false, Option.toList, List.cons_append, List.nil_append, List.append_nil, DX8_save_0, DX8_save_1, DX8_save_2, DX8_save_3, DX8_save_4, FLX8, LDX8, mS_1, mS_2, uX_1, uX_2, hT, x_le (a := n) (b := i) (by omega) (by omega), x_cl (a := i) (by omega), x_in (a := i) (n := 60) (by omega), nI_1]
    refine ⟨fun h => by omega, fun _ => ⟨by omega, ?_⟩⟩
    rw [mS_uI (by decide) (by decide), uX_s]
    have h9 := ih (i + 1) (by omega)
    have e : (fun j' => if j' = i then nI i else nmX i g j') = nmX (i + 1) g := by
      funext j'
      unfold nmX
      by_cases h1 : j' = i
      · simp [h1]
      · have : (j' < i + 1) ↔ (j' < i) := by omega
        simp [h1, this]
    rw [e]
    exact h9
set_option maxHeartbeats 4000000 in
set_option maxRecDepth 100000 in
theorem lp_X8_save2 (C : e_CX8_save V l) (Rt : e_RX8_save V (s_P A post)) {f : Nat} {p : Int32} {σ : Int64} {bs X : List Int32} (hb : (bs ++ X).length ≤ 4000) (hx : V 0 0 116 [(0, .ref (ad A 30 0)), (1, .int p), (2, .long (sws σ X)), (4, .int (nI f)), (5, .int (nI bs.length)), (6, .int (nI (bs ++ X).length))] [] (gS A (mS T (bs ++ X)))) : ∀ z k, k + z = X.length → V 0 0 89 [(0, .ref (ad A 30 0)), (1, .int p), (2, .long (sws σ (X.take k))), (4, .int (nI f)), (5, .int (nI bs.length)), (6, .int (nI (bs.length + k)))] [] (gS A (mS T (bs ++ X))) := by
  have hl : (bs ++ X).length = bs.length + X.length := List.length_append
  intro z
  induction z with
  | zero =>
    intro k hk
    have hk2 : k = X.length := by omega
    rw [hk2, List.take_length]
    rw [hl] at hx
    refine srnX8_save C Rt [89, 116] 40 ?_
    simp only [k_i, s_go, s_1, e_op, e_pi, e_pl, e_pr, e_p0, e_li, e_ll, e_lr, e_lk, e_ins, e_rm, e_to, e_sw, e_cmp, k_c, k_n, k_f, k_v, k_lg, ↓reduceIte, reduceCtorEq, Nat.reduceAdd, Nat.reduceSub, Nat.reduceMul, Nat.reduceEqDiff, Nat.reduceLT, Nat.reduceLeDiff, Int.reduceAdd, Int.reduceSub, Int.reduceNeg, Int.reduceLE, Int.reduceLT, Int.reduceToNat, Int.reduceEq, Int.cast_ofNat_Int, List.mem_cons, List.not_mem_nil, List.length_cons, List.length_nil, List.set_cons_zero, List.set_cons_succ, List.toList_toArray, eq_self, true_and, and_true, and_self, or_true, true_or, false_or, or_false, or_self, not_true_eq_false, not_false_eq_true, Classical.not_not, true_implies, false_implies, implies_true, forall_const, and_false, false_and, Nat.le_refl, Nat.zero_le, Bool.false_eq_true, lv_args, s_rl_at, s_gf, s_pf, dn_q, kd_q, cl_q, nf_q, ln_q, tg_q, rr_q, cr_q, u_1, e_lsw, k_ti, List.drop_succ_cons, List.drop_zero, List.drop_nil, List.zip_cons_cons, List.zip_nil_right, List.zip_nil_left, List.all_cons, List.all_nil, Bool.and_true, Bool.and_self, decide_true, decide_false, Option.toList, List.cons_append, List.nil_append, List.append_nil, DX8_save_0, DX8_save_1, DX8_save_2, DX8_save_3, DX8_save_4, FLX8, LDX8, mS_1, mS_2, hl, x_le (a := bs.length + X.length) (b := bs.length + X.length) (by omega) (by omega)]
    exact hx
  | succ z ih =>
    intro k hk
    have hlt : bs.length + k < (bs ++ X).length := by omega
    have hg : (bs ++ X).getD (bs.length + k) 0 = X.getD k 0 := by
      simp [List.getD_eq_getElem?_getD, List.getElem?_append_right]
    refine srnX8_save C Rt [89, 116] 40 ?_
    simp only [k_i, s_go, s_1, e_op, e_pi, e_pl, e_pr, e_p0, e_li, e_ll, e_lr, e_lk, e_ins, e_rm, e_to, e_sw, e_cmp, k_c, k_n, k_f, k_v, k_lg, ↓reduceIte, reduceCtorEq, Nat.reduceAdd, Nat.reduceSub, Nat.reduceMul, Nat.reduceEqDiff, Nat.reduceLT, Nat.reduceLeDiff, Int.reduceAdd, Int.reduceSub, Int.reduceNeg, Int.reduceLE, Int.reduceLT, Int.reduceToNat, Int.reduceEq, Int.cast_ofNat_Int, List.mem_cons, List.not_mem_nil, List.length_cons, List.length_nil, List.set_cons_zero, List.set_cons_succ, List.toList_toArray, eq_self, true_and, and_true, and_self, or_true, true_or, false_or, or_false, or_self, not_true_eq_false, not_false_eq_true, Classical.not_not, true_implies, false_implies, implies_true, forall_const, and_false, false_and, Nat.le_refl, Nat.zero_le, Bool.false_eq_true, lv_args, s_rl_at, s_gf, s_pf, dn_q, kd_q, cl_q, nf_q, ln_q, tg_q, rr_q, cr_q, u_1, e_lsw, k_ti, List.drop_succ_cons, List.drop_zero, List.drop_nil, List.zip_cons_cons, List.zip_nil_right, List.zip_nil_left, List.all_cons, List.all_nil, Bool.and_true, Bool.and_self, decide_true, decide_false, Option.toList, List.cons_append, List.nil_append, List.append_nil, DX8_save_0, DX8_save_1, DX8_save_2, DX8_save_3, DX8_save_4, FLX8, LDX8, mS_1, mS_2, x_le (a := (bs ++ X).length) (b := bs.length + k) (by omega) (by omega), x_cl (a := bs.length + k) (by omega), x_in (a := bs.length + k) (n := 4000) (by omega), hlt, hg]
    refine ⟨fun h => by omega, fun _ => ⟨by omega, ?_⟩⟩
    refine sX8_save_106 C (m_X8_sumWith l _ _ _) (hcat := Nat.le_of_ble_eq_true rfl) (k := ?_)
    rintro v2 G2 ⟨rfl, rfl⟩
    refine srnX8_save C Rt [89, 116] 40 ?_
    simp only [k_i, s_go, s_1, e_op, e_pi, e_pl, e_pr, e_p0, e_li, e_ll, e_lr, e_lk, e_ins, e_rm, e_to, e_sw, e_cmp, k_c, k_n, k_f, k_v, k_lg, ↓reduceIte, reduceCtorEq, Nat.reduceAdd, Nat.reduceSub, Nat.reduceMul, Nat.reduceEqDiff, Nat.reduceLT, Nat.reduceLeDiff, Int.reduceAdd, Int.reduceSub, Int.reduceNeg, Int.reduceLE, Int.reduceLT, Int.reduceToNat, Int.reduceEq, Int.cast_ofNat_Int, List.mem_cons, List.not_mem_nil, List.length_cons, List.length_nil, List.set_cons_zero, List.set_cons_succ, List.toList_toArray, eq_self, true_and, and_true, and_self, or_true, true_or, false_or, or_false, or_self, not_true_eq_false, not_false_eq_true, Classical.not_not, true_implies, false_implies, implies_true, forall_const, and_false, false_and, Nat.le_refl, Nat.zero_le, Bool.false_eq_true, lv_args, s_rl_at, s_gf, s_pf, dn_q, kd_q, cl_q, nf_q, ln_q, tg_q, rr_q, cr_q, u_1, e_lsw, k_ti, List.drop_succ_cons, List.drop_zero, List.drop_nil, List.zip_cons_cons, List.zip_nil_right, List.zip_nil_left, List.all_cons, List.all_nil, Bool.and_true, Bool.and_self, decide_true, decide_false, Option.toList, List.cons_append, List.nil_append, List.append_nil, DX8_save_0, DX8_save_1, DX8_save_2, DX8_save_3, DX8_save_4, FLX8, LDX8, nI_1]
    have h9 := ih (k + 1) (by omega)
    rw [take_s (by omega), ← sws_1] at h9
    exact h9
set_option maxHeartbeats 4000000 in
set_option maxRecDepth 100000 in
theorem lp_X8_save3 (C : e_CX8_save V l) (Rt : e_RX8_save V (s_P A post)) {p : Int32} {σ σ0 : Int64} {bs X : List Int32} (hX : X.length = 8) (hb : (bs ++ X).length ≤ 4000) (hx : V 0 0 210 [(0, .ref (ad A 30 0)), (1, .int p), (2, .long σ0), (4, .int (nI bs.length)), (5, .long (sws σ X)), (7, .int (nI (bs.length + 8)))] [] (gS A (mS T (bs ++ X)))) : ∀ z k, k + z = 8 → V 0 0 180 [(0, .ref (ad A 30 0)), (1, .int p), (2, .long σ0), (4, .int (nI bs.length)), (5, .long (sws σ (X.take k))), (7, .int (nI (bs.length + k)))] [] (gS A (mS T (bs ++ X))) := by
  have hl : (bs ++ X).length = bs.length + X.length := List.length_append
  have e8 : (8 : Int32) = nI 8 := rfl
  intro z
  induction z with
  | zero =>
    intro k hk
    have hk2 : k = 8 := by omega
    have h0 : X.take 8 = X := by rw [← hX, List.take_length]
    rw [hk2, h0]
    refine srnX8_save C Rt [180, 210] 40 ?_
    simp only [k_i, s_go, s_1, e_op, e_pi, e_pl, e_pr, e_p0, e_li, e_ll, e_lr, e_lk, e_ins, e_rm, e_to, e_sw, e_cmp, k_c, k_n, k_f, k_v, k_lg, ↓reduceIte, reduceCtorEq, Nat.reduceAdd, Nat.reduceSub, Nat.reduceMul, Nat.reduceEqDiff, Nat.reduceLT, Nat.reduceLeDiff, Int.reduceAdd, Int.reduceSub, Int.reduceNeg, Int.reduceLE, Int.reduceLT, Int.reduceToNat, Int.reduceEq, Int.cast_ofNat_Int, List.mem_cons, List.not_mem_nil, List.length_cons, List.length_nil, List.set_cons_zero, List.set_cons_succ, List.toList_toArray, eq_self, true_and, and_true, and_self, or_true, true_or, false_or, or_false, or_self, not_true_eq_false, not_false_eq_true, Classical.not_not, true_implies, false_implies, implies_true, forall_const, and_false, false_and, Nat.le_refl, Nat.zero_le, Bool.false_eq_true, lv_args, s_rl_at, s_gf, s_pf, dn_q, kd_q, cl_q, nf_q, ln_q, tg_q, rr_q, cr_q, u_1, e_lsw, k_ti, List.drop_succ_cons, List.drop_zero, List.drop_nil, List.zip_cons_cons, List.zip_nil_right, List.zip_nil_left, List.all_cons, List.all_nil, Bool.and_true, Bool.and_self, decide_true, decide_false, Option.toList, List.cons_append, List.nil_append, List.append_nil, DX8_save_0, DX8_save_1, DX8_save_2, DX8_save_3, DX8_save_4, FLX8, LDX8, mS_1, mS_2, e8, nI_add, x_le (a := bs.length + 8) (b := bs.length + 8) (by omega) (by omega)]
    exact hx
  | succ z ih =>
    intro k hk
    have hlt : bs.length + k < (bs ++ X).length := by omega
    have hg : (bs ++ X).getD (bs.length + k) 0 = X.getD k 0 := by
      simp [List.getD_eq_getElem?_getD, List.getElem?_append_right]
    refine srnX8_save C Rt [180, 210] 40 ?_
    simp only [k_i, s_go, s_1, e_op, e_pi, e_pl, e_pr, e_p0, e_li, e_ll, e_lr, e_lk, e_ins, e_rm, e_to, e_sw, e_cmp, k_c, k_n, k_f, k_v, k_lg, ↓reduceIte, reduceCtorEq, Nat.reduceAdd, Nat.reduceSub, Nat.reduceMul, Nat.reduceEqDiff, Nat.reduceLT, Nat.reduceLeDiff, Int.reduceAdd, Int.reduceSub, Int.reduceNeg, Int.reduceLE, Int.reduceLT, Int.reduceToNat, Int.reduceEq, Int.cast_ofNat_Int, List.mem_cons, List.not_mem_nil, List.length_cons, List.length_nil, List.set_cons_zero, List.set_cons_succ, List.toList_toArray, eq_self, true_and, and_true, and_self, or_true, true_or, false_or, or_false, or_self, not_true_eq_false, not_false_eq_true, Classical.not_not, true_implies, false_implies, implies_true, forall_const, and_false, false_and, Nat.le_refl, Nat.zero_le, Bool.false_eq_true, lv_args, s_rl_at, s_gf, s_pf, dn_q, kd_q, cl_q, nf_q, ln_q, tg_q, rr_q, cr_q, u_1, e_lsw, k_ti, List.drop_succ_cons, List.drop_zero, List.drop_nil, List.zip_cons_cons, List.zip_nil_right, List.zip_nil_left, List.all_cons, List.all_nil, Bool.and_true, Bool.and_self, decide_true, decide_false, Option.toList, List.cons_append, List.nil_append, List.append_nil, DX8_save_0, DX8_save_1, DX8_save_2, DX8_save_3, DX8_save_4, FLX8, LDX8, mS_1, mS_2, e8, nI_add, x_le (a := bs.length + 8) (b := bs.length + k) (by omega) (by omega), x_cl (a := bs.length + k) (by omega), x_in (a := bs.length + k) (n := 4000) (by omega), hlt, hg]
    refine ⟨fun h => by omega, fun _ => ⟨by omega, ?_⟩⟩
    refine sX8_save_199 C (m_X8_sumWith l _ _ _) (hcat := Nat.le_of_ble_eq_true rfl) (k := ?_)
    rintro v2 G2 ⟨rfl, rfl⟩
    refine srnX8_save C Rt [180, 210] 40 ?_
    simp only [k_i, s_go, s_1, e_op, e_pi, e_pl, e_pr, e_p0, e_li, e_ll, e_lr, e_lk, e_ins, e_rm, e_to, e_sw, e_cmp, k_c, k_n, k_f, k_v, k_lg, ↓reduceIte, reduceCtorEq, Nat.reduceAdd, Nat.reduceSub, Nat.reduceMul, Nat.reduceEqDiff, Nat.reduceLT, Nat.reduceLeDiff, Int.reduceAdd, Int.reduceSub, Int.reduceNeg, Int.reduceLE, Int.reduceLT, Int.reduceToNat, Int.reduceEq, Int.cast_ofNat_Int, List.mem_cons, List.not_mem_nil, List.length_cons, List.length_nil, List.set_cons_zero, List.set_cons_succ, List.toList_toArray, eq_self, true_and, and_true, and_self, or_true, true_or, false_or, or_false, or_self, not_true_eq_false, not_false_eq_true, Classical.not_not, true_implies, false_implies, implies_true, forall_const, and_false, false_and, Nat.le_refl, Nat.zero_le, Bool.false_eq_true, lv_args, s_rl_at, s_gf, s_pf, dn_q, kd_q, cl_q, nf_q, ln_q, tg_q, rr_q, cr_q, u_1, e_lsw, k_ti, List.drop_succ_cons, List.drop_zero, List.drop_nil, List.zip_cons_cons, List.zip_nil_right, List.zip_nil_left, List.all_cons, List.all_nil, Bool.and_true, Bool.and_self, decide_true, decide_false, Option.toList, List.cons_append, List.nil_append, List.append_nil, DX8_save_0, DX8_save_1, DX8_save_2, DX8_save_3, DX8_save_4, FLX8, LDX8, nI_1]
    have h9 := ih (k + 1) (by omega)
    rw [take_s (by omega), ← sws_1] at h9
    exact h9
set_option maxHeartbeats 4000000 in
set_option maxRecDepth 100000 in
theorem lp_X8_save4 (C : e_CX8_save V l) (Rt : e_RX8_save V (s_P A post)) {p : Int32} {σ σ0 : Int64} {u h n : Nat} {L H : List Int32} {d : Nat → Int32} (hu : T.1 30 0 24 = nI u) (hul : u + L.length ≤ 3500) (hh : 3500 ≤ h) (hh2 : h + 16 ≤ 3532) (hH : H.length = 16) (hn : n ≤ (L ++ H).length) (hx : V 0 0 315 [(0, .ref (ad A 30 0)), (1, .int p), (2, .long σ0), (4, .int (nI L.length)), (5, .long σ), (7, .int (nI h)), (8, .int (nI n)), (9, .int (nI n))] [] (gS A (mS (uX T 52 (dX d u L h H n)) (L ++ H)))) : ∀ z k, k + z = n → V 0 0 265 [(0, .ref (ad A 30 0)), (1, .int p), (2, .long σ0), (4, .int (nI L.length)), (5, .long σ), (7, .int (nI h)), (8, .int (nI n)), (9, .int (nI k))] [] (gS A (mS (uX T 52 (dX d u L h H k)) (L ++ H))) := by
  have hl : (L ++ H).length = L.length + H.length := List.length_append
  intro z
  induction z with
  | zero =>
    intro k hk
    have hk2 : k = n := by omega
    rw [hk2]
    refine srnX8_save C Rt [265, 315] 40 ?_
    simp only [k_i, s_go, s_1, e_op, e_pi, e_pl, e_pr, e_p0, e_li, e_ll, e_lr, e_lk, e_ins, e_rm, e_to, e_sw, e_cmp, k_c, k_n, k_f, k_v, k_lg, ↓reduceIte, reduceCtorEq, Nat.reduceAdd, Nat.reduceSub, Nat.reduceMul, Nat.reduceEqDiff, Nat.reduceLT, Nat.reduceLeDiff, Int.reduceAdd, Int.reduceSub, Int.reduceNeg, Int.reduceLE, Int.reduceLT, Int.reduceToNat, Int.reduceEq, Int.cast_ofNat_Int, List.mem_cons, List.not_mem_nil, List.length_cons, List.length_nil, List.set_cons_zero, List.set_cons_succ, List.toList_toArray, eq_self, true_and, and_true, and_self, or_true, true_or, false_or, or_false, or_self, not_true_eq_false, not_false_eq_true, Classical.not_not, true_implies, false_implies, implies_true, forall_const, and_false, false_and, Nat.le_refl, Nat.zero_le, Bool.false_eq_true, lv_args, s_rl_at, s_gf, s_pf, dn_q, kd_q, cl_q, nf_q, ln_q, tg_q, rr_q, cr_q, u_1, e_lsw, k_ti, List.drop_succ_cons, List.drop_zero, List.drop_nil, List.zip_cons_cons, List.zip_nil_right, List.zip_nil_left, List.all_cons, List.all_nil, Bool.and_true, Bool.and_self, decide_true, decide_false, Option.toList, List.cons_append, List.nil_append, List.append_nil, DX8_save_0, DX8_save_1, DX8_save_2, DX8_save_3, DX8_save_4, FLX8, LDX8, x_le (a := n) (b := n) (by omega) (by omega)]
    exact hx
  | succ z ih =>
    intro k hk
    have h9 := ih (k + 1) (by omega)
    have hlt : k < (L ++ H).length := by omega
    refine srnX8_save C Rt [265, 315] 60 ?_
    simp only [k_i, s_go, s_1, e_op, e_pi, e_pl, e_pr, e_p0, e_li, e_ll, e_lr, e_lk, e_ins, e_rm, e_to, e_sw, e_cmp, k_c, k_n, k_f, k_v, k_lg, ↓reduceIte, reduceCtorEq, Nat.reduceAdd, Nat.reduceSub, Nat.reduceMul, Nat.reduceEqDiff, Nat.reduceLT, Nat.reduceLeDiff, Int.reduceAdd, Int.reduceSub, Int.reduceNeg, Int.reduceLE, Int.reduceLT, Int.reduceToNat, Int.reduceEq, Int.cast_ofNat_Int, List.mem_cons, List.not_mem_nil, List.length_cons, List.length_nil, List.set_cons_zero, List.set_cons_succ, List.toList_toArray, eq_self, true_and, and_true, and_self, or_true, true_or, false_or, or_false, or_self, not_true_eq_false, not_false_eq_true, Classical.not_not, true_implies, false_implies, implies_true, forall_const, and_false, false_and, Nat.le_refl, Nat.zero_le, Bool.false_eq_true, lv_args, s_rl_at, s_gf, s_pf, dn_q, kd_q, cl_q, nf_q, ln_q, tg_q, rr_q, cr_q, u_1, e_lsw, k_ti, List.drop_succ_cons, List.drop_zero, List.drop_nil, List.zip_cons_cons, List.zip_nil_right, List.zip_nil_left, List.all_cons, List.all_nil, Bool.and_true, Bool.and_self, decide_true, decide_false, Option.toList, List.cons_append, List.nil_append, List.append_nil, DX8_save_0, DX8_save_1, DX8_save_2, DX8_save_3, DX8_save_4, FLX8, LDX8, mS_1, mS_2, uX_1, uX_2, x_le (a := n) (b := k) (by omega) (by omega), x_le (a := L.length) (b := k) (by omega) (by omega), hu, nI_add, x_cl (a := k) (by omega), x_in (a := k) (n := 4000) (by omega), hlt, x_cl (a := u + k) (by omega), nI_1]
    refine ⟨fun h => by omega, fun _ => ⟨fun hge => ⟨by omega, ?_, ?_⟩, fun hlt2 => ⟨by omega, (x_in (by omega)).mpr (by omega), ?_⟩⟩⟩
    · rw [pk_sub (show L.length ≤ h + k by omega)]
      exact (x_in (by omega)).mpr (by omega)
    · rw [pk_sub (show L.length ≤ h + k by omega), x_cl (show h + k - L.length < 2147483648 by omega), mS_uI (by decide) (by decide), uX_s, dX_2 (by omega) (by omega)]
      exact h9
    · rw [mS_uI (by decide) (by decide), uX_s, dX_1 (by omega)]
      exact h9
set_option maxHeartbeats 4000000 in
set_option maxRecDepth 100000 in
theorem lp_X8_save1 (C : e_CX8_save V l) (Rt : e_RX8_save V (s_P A post)) {n r : Nat} {p : Int32} {σ : Int64} (hB : wfB S n) (hR : rB T S n) (hkd : ∀ i, i < n → ∃ a : Nat, a < 4 ∧ S.1 6 i 0 = nI a) (h62 : ∀ j, j < n → T.1 62 0 j = nI j)
    (hx : V 0 0 129 [(0, .ref (ad A 30 0)), (1, .int p), (2, .long (lgB (rowC S) σ r (n - r)).2), (4, .int (nI n))] [] (gS A (mS T (lgB (rowC S) σ r (n - r)).1))) : ∀ z k, r + k + z = n → V 0 0 64 [(0, .ref (ad A 30 0)), (1, .int p), (2, .long (lgB (rowC S) σ r k).2), (4, .int (nI (r + k)))] [] (gS A (mS T (lgB (rowC S) σ r k).1)) := by
  have hB0 := hB
  obtain ⟨b1, b2, b3⟩ := hB
  obtain ⟨r1, r2⟩ := hR
  intro z
  induction z with
  | zero =>
    intro k hk
    have hk2 : r + k = n := by omega
    have hk3 : n - r = k := by omega
    rw [hk3] at hx
    refine srnX8_save C Rt [64, 129] 40 ?_
    simp only [k_i, s_go, s_1, e_op, e_pi, e_pl, e_pr, e_p0, e_li, e_ll, e_lr, e_lk, e_ins, e_rm, e_to, e_sw, e_cmp, k_c, k_n, k_f, k_v, k_lg, ↓reduceIte, reduceCtorEq, Nat.reduceAdd, Nat.reduceSub, Nat.reduceMul, Nat.reduceEqDiff, Nat.reduceLT, Nat.reduceLeDiff, Int.reduceAdd, Int.reduceSub, Int.reduceNeg, Int.reduceLE, Int.reduceLT, Int.reduceToNat, Int.reduceEq, Int.cast_ofNat_Int, List.mem_cons, List.not_mem_nil, List.length_cons, List.length_nil, List.set_cons_zero, List.set_cons_succ, List.toList_toArray, eq_self, true_and, and_true, and_self, or_true, true_or, false_or, or_false, or_self, not_true_eq_false, not_false_eq_true, Classical.not_not, true_implies, false_implies, implies_true, forall_const, and_false, false_and, Nat.le_refl, Nat.zero_le, Bool.false_eq_true, lv_args, s_rl_at, s_gf, s_pf, dn_q, kd_q, cl_q, nf_q, ln_q, tg_q, rr_q, cr_q, u_1, e_lsw, k_ti, List.drop_succ_cons, List.drop_zero, List.drop_nil, List.zip_cons_cons, List.zip_nil_right, List.zip_nil_left, List.all_cons, List.all_nil, Bool.and_true, Bool.and_self, decide_true, decide_false, Option.toList, List.cons_append, List.nil_append, List.append_nil, DX8_save_0, DX8_save_1, DX8_save_2, DX8_save_3, DX8_save_4, FLX8, LDX8, mS_1, mS_2, r1, hk2, x_le (a := n) (b := n) (by omega) (by omega)]
    exact hx
  | succ z ih =>
    intro k hk
    have hwk := b3 (r + k) (by omega)
    have hFk := r2 (r + k) (by omega)
    obtain ⟨a, ha, ea⟩ := hkd (r + k) (by omega)
    have hlen := lgB_len (r := r) (σ := σ) hB0 k (by omega)
    have hrl : (rowC S (r + k)).length ≤ 50 := by
      rw [rwB_len]
      have h3 := hwk.2.1
      have h4 := hwk.2.2.2.1
      omega
    have h9 := ih (k + 1) (by omega)
    refine srnX8_save C Rt [64, 129] 40 ?_
    simp only [k_i, s_go, s_1, e_op, e_pi, e_pl, e_pr, e_p0, e_li, e_ll, e_lr, e_lk, e_ins, e_rm, e_to, e_sw, e_cmp, k_c, k_n, k_f, k_v, k_lg, ↓reduceIte, reduceCtorEq, Nat.reduceAdd, Nat.reduceSub, Nat.reduceMul, Nat.reduceEqDiff, Nat.reduceLT, Nat.reduceLeDiff, Int.reduceAdd, Int.reduceSub, Int.reduceNeg, Int.reduceLE, Int.reduceLT, Int.reduceToNat, Int.reduceEq, Int.cast_ofNat_Int, List.mem_cons, List.not_mem_nil, List.length_cons, List.length_nil, List.set_cons_zero, List.set_cons_succ, List.toList_toArray, eq_self, true_and, and_true, and_self, or_true, true_or, false_or, or_false, or_self, not_true_eq_false, not_false_eq_true, Classical.not_not, true_implies, false_implies, implies_true, forall_const, and_false, false_and, Nat.le_refl, Nat.zero_le, Bool.false_eq_true, lv_args, s_rl_at, s_gf, s_pf, dn_q, kd_q, cl_q, nf_q, ln_q, tg_q, rr_q, cr_q, u_1, e_lsw, k_ti, List.drop_succ_cons, List.drop_zero, List.drop_nil, List.zip_cons_cons, List.zip_nil_right, List.zip_nil_left, List.all_cons, List.all_nil, Bool.and_true, Bool.and_self, decide_true, decide_false, Option.toList, List.cons_append, List.nil_append, List.append_nil, DX8_save_0, DX8_save_1, DX8_save_2, DX8_save_3, DX8_save_4, FLX8, LDX8, mS_1, mS_2, r1, x_le (a := n) (b := r + k) (by omega) (by omega)]
    refine ⟨fun h => by omega, fun _ => ?_⟩
    refine sX8_save_82 C (m_X8_makeRow l A T S (m := r + k) (kd0 := a) (nm := fun j => onC S (r + k) j) (by omega) (by omega) hwk hFk ea ha (fun j hj => ⟨h62 _ (by have := (hwk.2.2.2.2.2 j hj).2; omega), by have := (hwk.2.2.2.2.2 j hj).2; omega⟩) (by omega)) (s_obj (show 0 < 1 by decide) rfl) (hcat := Nat.le_of_ble_eq_true rfl) (k := ?_)
    rintro v2 G2 ⟨S2, rfl, rfl, rfl⟩
    refine srnX8_save C Rt [89] 40 ?_
    simp only [k_i, s_go, s_1, e_op, e_pi, e_pl, e_pr, e_p0, e_li, e_ll, e_lr, e_lk, e_ins, e_rm, e_to, e_sw, e_cmp, k_c, k_n, k_f, k_v, k_lg, ↓reduceIte, reduceCtorEq, Nat.reduceAdd, Nat.reduceSub, Nat.reduceMul, Nat.reduceEqDiff, Nat.reduceLT, Nat.reduceLeDiff, Int.reduceAdd, Int.reduceSub, Int.reduceNeg, Int.reduceLE, Int.reduceLT, Int.reduceToNat, Int.reduceEq, Int.cast_ofNat_Int, List.mem_cons, List.not_mem_nil, List.length_cons, List.length_nil, List.set_cons_zero, List.set_cons_succ, List.toList_toArray, eq_self, true_and, and_true, and_self, or_true, true_or, false_or, or_false, or_self, not_true_eq_false, not_false_eq_true, Classical.not_not, true_implies, false_implies, implies_true, forall_const, and_false, false_and, Nat.le_refl, Nat.zero_le, Bool.false_eq_true, lv_args, s_rl_at, s_gf, s_pf, dn_q, kd_q, cl_q, nf_q, ln_q, tg_q, rr_q, cr_q, u_1, e_lsw, k_ti, List.drop_succ_cons, List.drop_zero, List.drop_nil, List.zip_cons_cons, List.zip_nil_right, List.zip_nil_left, List.all_cons, List.all_nil, Bool.and_true, Bool.and_self, decide_true, decide_false, Option.toList, List.cons_append, List.nil_append, List.append_nil, DX8_save_0, DX8_save_1, DX8_save_2, DX8_save_3, DX8_save_4, FLX8, LDX8]
    have h8 := lp_X8_save2 (T := T) (f := r + k) (p := p) (σ := (lgB (rowC S) σ r k).2) (bs := (lgB (rowC S) σ r k).1) (X := rowC S (r + k)) C Rt (by rw [List.length_append]; omega) ?_ (rowC S (r + k)).length 0 (by omega)
    · simp only [List.take_zero, Nat.add_zero] at h8
      exact h8
    · refine srnX8_save C Rt [64] 40 ?_
      simp only [k_i, s_go, s_1, e_op, e_pi, e_pl, e_pr, e_p0, e_li, e_ll, e_lr, e_lk, e_ins, e_rm, e_to, e_sw, e_cmp, k_c, k_n, k_f, k_v, k_lg, ↓reduceIte, reduceCtorEq, Nat.reduceAdd, Nat.reduceSub, Nat.reduceMul, Nat.reduceEqDiff, Nat.reduceLT, Nat.reduceLeDiff, Int.reduceAdd, Int.reduceSub, Int.reduceNeg, Int.reduceLE, Int.reduceLT, Int.reduceToNat, Int.reduceEq, Int.cast_ofNat_Int, List.mem_cons, List.not_mem_nil, List.length_cons, List.length_nil, List.set_cons_zero, List.set_cons_succ, List.toList_toArray, eq_self, true_and, and_true, and_self, or_true, true_or, false_or, or_false, or_self, not_true_eq_false, not_false_eq_true, Classical.not_not, true_implies, false_implies, implies_true, forall_const, and_false, false_and, Nat.le_refl, Nat.zero_le, Bool.false_eq_true, lv_args, s_rl_at, s_gf, s_pf, dn_q, kd_q, cl_q, nf_q, ln_q, tg_q, rr_q, cr_q, u_1, e_lsw, k_ti, List.drop_succ_cons, List.drop_zero, List.drop_nil, List.zip_cons_cons, List.zip_nil_right, List.zip_nil_left, List.all_cons, List.all_nil, Bool.and_true, Bool.and_self, decide_true, decide_false, Option.toList, List.cons_append, List.nil_append, List.append_nil, DX8_save_0, DX8_save_1, DX8_save_2, DX8_save_3, DX8_save_4, FLX8, LDX8, (show (8 : Int32) = nI 8 from rfl)]
      refine sX8_save_120 C (m_X8_make l A T (n := 8) (by decide) (by rw [List.length_append]; omega) _) (s_obj (show 0 < 1 by decide) rfl) (hcat := Nat.le_of_ble_eq_true rfl) (k := ?_)
      rintro v2 G2 ⟨S2, rfl, rfl, rfl⟩
      refine srnX8_save C Rt [64] 40 ?_
      simp only [k_i, s_go, s_1, e_op, e_pi, e_pl, e_pr, e_p0, e_li, e_ll, e_lr, e_lk, e_ins, e_rm, e_to, e_sw, e_cmp, k_c, k_n, k_f, k_v, k_lg, ↓reduceIte, reduceCtorEq, Nat.reduceAdd, Nat.reduceSub, Nat.reduceMul, Nat.reduceEqDiff, Nat.reduceLT, Nat.reduceLeDiff, Int.reduceAdd, Int.reduceSub, Int.reduceNeg, Int.reduceLE, Int.reduceLT, Int.reduceToNat, Int.reduceEq, Int.cast_ofNat_Int, List.mem_cons, List.not_mem_nil, List.length_cons, List.length_nil, List.set_cons_zero, List.set_cons_succ, List.toList_toArray, eq_self, true_and, and_true, and_self, or_true, true_or, false_or, or_false, or_self, not_true_eq_false, not_false_eq_true, Classical.not_not, true_implies, false_implies, implies_true, forall_const, and_false, false_and, Nat.le_refl, Nat.zero_le, Bool.false_eq_true, lv_args, s_rl_at, s_gf, s_pf, dn_q, kd_q, cl_q, nf_q, ln_q, tg_q, rr_q, cr_q, u_1, e_lsw, k_ti, List.drop_succ_cons, List.drop_zero, List.drop_nil, List.zip_cons_cons, List.zip_nil_right, List.zip_nil_left, List.all_cons, List.all_nil, Bool.and_true, Bool.and_self, decide_true, decide_false, Option.toList, List.cons_append, List.nil_append, List.append_nil, DX8_save_0, DX8_save_1, DX8_save_2, DX8_save_3, DX8_save_4, FLX8, LDX8, nI_1, Nat.add_assoc]
      simp only [lgB] at h9
      exact w_pre C h9
end
abbrev svT (T : pS) (n : Nat) : pS := uX (t0 T) 62 (nmX n (T.1 62 0))
abbrev svM (T S : pS) (n r u p : Nat) : pS := mS (uX (svT T n) 52 (dX (S.1 12 0) u (lgC S r (n - r)).1 (hpl (S.1 11 0 2 + 1)) (hdB (S.1 11 0 2 + 1) (nI n) (lgC S r (n - r)).2) (min p ((lgC S r (n - r)).1.length + 16)))) ((lgC S r (n - r)).1 ++ hdB (S.1 11 0 2 + 1) (nI n) (lgC S r (n - r)).2)
def savT (T S : pS) (n r u p : Nat) : pS := if p < (lgC S r (n - r)).1.length + 16 then uI (svM T S n r u p) 30 0 18 1 else uI (uJ (uI (uI (svM T S n r u p) 30 0 23 (nI n)) 30 0 24 (nI (u + (lgC S r (n - r)).1.length))) 30 0 25 (lgC S r (n - r)).2) 30 0 22 (S.1 11 0 2 + 1)
def savM (T S : pS) (n r u : Nat) (x : Int32) : pS := if ¬ S.1 11 0 1 = 0 then t0 T else if x < 0 then t0 T else savT T S n r u (nN x)
set_option maxHeartbeats 4000000 in
set_option maxRecDepth 100000 in
theorem m_X8_save (l : Launch) (A : pA) (T S : pS) {n r u : Nat} (hB : wfB S n) (hW : wfD S n r u) (hD : rD T S) (hR : rB T S n) (hK : rK T S) (hkd : ∀ i, i < n → ∃ a : Nat, a < 4 ∧ S.1 6 i 0 = nI a) (x : Int32) : e_MX8_save l [.ref (ad A 30 0), .int x] (gS A T) (s_P A (isP ((savC S n r u x).1, savM T S n r u x))) := by
  have hn := hB.2.1
  obtain ⟨d1, d2, d3, d4, d5⟩ := hW
  obtain ⟨k1, k2, k3, k4, k5, k6, k7, k8⟩ := hK
  rw [d1] at k3
  rw [d3] at k4
  have hlen : (lgC S r (n - r)).1.length ≤ 58 * (n - r) := lgB_len (r := r) (σ := S.2.1 11 0 7) hB (n - r) (by omega)
  obtain ⟨b, hb, eb, eh⟩ := hpl_b (S.1 11 0 2 + 1)
  have hH := hdB_len (g := S.1 11 0 2 + 1) (n := nI n) (σ := (lgC S r (n - r)).2)
  refine ofX8_save (Nat.le_of_ble_eq_true rfl) ?_
  intro V C Rt
  unfold rD at hD
  refine srnX8_save C Rt [34] 40 ?_
  simp only [k_i, s_go, s_1, e_op, e_pi, e_pl, e_pr, e_p0, e_li, e_ll, e_lr, e_lk, e_ins, e_rm, e_to, e_sw, e_cmp, k_c, k_n, k_f, k_v, k_lg, ↓reduceIte, reduceCtorEq, Nat.reduceAdd, Nat.reduceSub, Nat.reduceMul, Nat.reduceEqDiff, Nat.reduceLT, Nat.reduceLeDiff, Int.reduceAdd, Int.reduceSub, Int.reduceNeg, Int.reduceLE, Int.reduceLT, Int.reduceToNat, Int.reduceEq, Int.cast_ofNat_Int, List.mem_cons, List.not_mem_nil, List.length_cons, List.length_nil, List.set_cons_zero, List.set_cons_succ, List.toList_toArray, eq_self, true_and, and_true, and_self, or_true, true_or, false_or, or_false, or_self, not_true_eq_false, not_false_eq_true, Classical.not_not, true_implies, false_implies, implies_true, forall_const, and_false, false_and, Nat.le_refl, Nat.zero_le, Bool.false_eq_true, lv_args, s_rl_at, s_gf, s_pf, dn_q, kd_q, cl_q, nf_q, ln_q, tg_q, rr_q, cr_q, u_1, e_lsw, k_ti, List.drop_succ_cons, List.drop_zero, List.drop_nil, List.zip_cons_cons, List.zip_nil_right, List.zip_nil_left, List.all_cons, List.all_nil, Bool.and_true, Bool.and_self, decide_true, decide_false, Option.toList, List.cons_append, List.nil_append, List.append_nil, DX8_save_0, DX8_save_1, DX8_save_2, DX8_save_3, DX8_save_4, FLX8, LDX8, hD]
  refine ⟨fun hd => ⟨fun h => ?_, fun h => ?_⟩, fun hd => by simp [isP, savC, savM, hd]⟩
  · have h0 : ¬ x < 0 := Int32.not_lt.mpr h
    obtain ⟨p, hp, rfl⟩ := nI_of h0
    have hR2 : rB (svT T n) S n := ⟨hR.1, fun i hi => rF_uX (by omega) (rF_uI (by omega) (hR.2 i hi))⟩
    rw [mS_0, k5]
    have h7 := lp_X8_save0 (T := t0 T) (g := T.1 62 0) (p := nI p) (σ := S.2.1 11 0 7) C Rt hn hR.1 ?_ n 0 (by omega)
    · rw [uX_id (fun j => by simp [nmX]; rfl)] at h7
      exact h7
    · refine srnX8_save C Rt [64] 40 ?_
      simp only [k_i, s_go, s_1, e_op, e_pi, e_pl, e_pr, e_p0, e_li, e_ll, e_lr, e_lk, e_ins, e_rm, e_to, e_sw, e_cmp, k_c, k_n, k_f, k_v, k_lg, ↓reduceIte, reduceCtorEq, Nat.reduceAdd, Nat.reduceSub, Nat.reduceMul, Nat.reduceEqDiff, Nat.reduceLT, Nat.reduceLeDiff, Int.reduceAdd, Int.reduceSub, Int.reduceNeg, Int.reduceLE, Int.reduceLT, Int.reduceToNat, Int.reduceEq, Int.cast_ofNat_Int, List.mem_cons, List.not_mem_nil, List.length_cons, List.length_nil, List.set_cons_zero, List.set_cons_succ, List.toList_toArray, eq_self, true_and, and_true, and_self, or_true, true_or, false_or, or_false, or_self, not_true_eq_false, not_false_eq_true, Classical.not_not, true_implies, false_implies, implies_true, forall_const, and_false, false_and, Nat.le_refl, Nat.zero_le, Bool.false_eq_true, lv_args, s_rl_at, s_gf, s_pf, dn_q, kd_q, cl_q, nf_q, ln_q, tg_q, rr_q, cr_q, u_1, e_lsw, k_ti, List.drop_succ_cons, List.drop_zero, List.drop_nil, List.zip_cons_cons, List.zip_nil_right, List.zip_nil_left, List.all_cons, List.all_nil, Bool.and_true, Bool.and_self, decide_true, decide_false, Option.toList, List.cons_append, List.nil_append, List.append_nil, DX8_save_0, DX8_save_1, DX8_save_2, DX8_save_3, DX8_save_4, FLX8, LDX8, mS_1, mS_2, uX_1, uX_2, k3]
      refine lp_X8_save1 (T := svT T n) (S := S) (r := r) (σ := S.2.1 11 0 7) C Rt hB hR2 hkd (fun j hj => ?_) ?_ (n - r) 0 (by omega)
      · show nmX n (T.1 62 0) j = nI j
        simp [nmX, hj]
      · obtain ⟨L, hL⟩ : ∃ L, (lgC S r (n - r)).1 = L := ⟨_, rfl⟩
        obtain ⟨σ1, hσ⟩ : ∃ σ1, (lgC S r (n - r)).2 = σ1 := ⟨_, rfl⟩
        have hlen2 : L.length ≤ 58 * (n - r) := hL ▸ hlen
        rw [hL, hσ]
        have hnf : (nI (u + L.length) ≤ (3500 : Int32)) = True := by
          rw [show (3500 : Int32) = nI 3500 from rfl, x_le (by omega) (by omega)]
          simp
          omega
        have hg1 : ∀ g : Int32, g = S.1 11 0 2 + 1 → ((g &&& 1 = 1) ↔ b = 1) := fun g hg => by
          rw [hg, eb]
          exact x_eq (b := 1) (by omega) (by omega)
        refine srnX8_save C Rt [180] 60 ?_
        simp only [k_i, s_go, s_1, e_op, e_pi, e_pl, e_pr, e_p0, e_li, e_ll, e_lr, e_lk, e_ins, e_rm, e_to, e_sw, e_cmp, k_c, k_n, k_f, k_v, k_lg, ↓reduceIte, reduceCtorEq, Nat.reduceAdd, Nat.reduceSub, Nat.reduceMul, Nat.reduceEqDiff, Nat.reduceLT, Nat.reduceLeDiff, Int.reduceAdd, Int.reduceSub, Int.reduceNeg, Int.reduceLE, Int.reduceLT, Int.reduceToNat, Int.reduceEq, Int.cast_ofNat_Int, List.mem_cons, List.not_mem_nil, List.length_cons, List.length_nil, List.set_cons_zero, List.set_cons_succ, List.toList_toArray, eq_self, true_and, and_true, and_self, or_true, true_or, false_or, or_false, or_self, not_true_eq_false, not_false_eq_true, Classical.not_not, true_implies, false_implies, implies_true, forall_const, and_false, false_and, Nat.le_refl, Nat.zero_le, Bool.false_eq_true, lv_args, s_rl_at, s_gf, s_pf, dn_q, kd_q, cl_q, nf_q, ln_q, tg_q, rr_q, cr_q, u_1, e_lsw, k_ti, List.drop_succ_cons, List.drop_zero, List.drop_nil, List.zip_cons_cons, List.zip_nil_right, List.zip_nil_left, List.all_cons, List.all_nil, Bool.and_true, Bool.and_self, decide_true, decide_false, Option.toList, List.cons_append, List.nil_append, List.append_nil, DX8_save_0, DX8_save_1, DX8_save_2, DX8_save_3, DX8_save_4, FLX8, LDX8, mS_1, mS_2, uX_1, uX_2, k4, nI_add, hnf, k2, (show (4 : Int32) = nI 4 from rfl)]
        refine sX8_save_160 C (m_X8_make l A (svT T n) (n := 4) (by decide) (by omega) _) (s_obj (show 0 < 1 by decide) rfl) (hcat := Nat.le_of_ble_eq_true rfl) (k := ?_)
        rintro v2 G2 ⟨S2, rfl, rfl, rfl⟩
        refine srnX8_save C Rt [180] 60 ?_
        simp only [k_i, s_go, s_1, e_op, e_pi, e_pl, e_pr, e_p0, e_li, e_ll, e_lr, e_lk, e_ins, e_rm, e_to, e_sw, e_cmp, k_c, k_n, k_f, k_v, k_lg, ↓reduceIte, reduceCtorEq, Nat.reduceAdd, Nat.reduceSub, Nat.reduceMul, Nat.reduceEqDiff, Nat.reduceLT, Nat.reduceLeDiff, Int.reduceAdd, Int.reduceSub, Int.reduceNeg, Int.reduceLE, Int.reduceLT, Int.reduceToNat, Int.reduceEq, Int.cast_ofNat_Int, List.mem_cons, List.not_mem_nil, List.length_cons, List.length_nil, List.set_cons_zero, List.set_cons_succ, List.toList_toArray, eq_self, true_and, and_true, and_self, or_true, true_or, false_or, or_false, or_self, not_true_eq_false, not_false_eq_true, Classical.not_not, true_implies, false_implies, implies_true, forall_const, and_false, false_and, Nat.le_refl, Nat.zero_le, Bool.false_eq_true, lv_args, s_rl_at, s_gf, s_pf, dn_q, kd_q, cl_q, nf_q, ln_q, tg_q, rr_q, cr_q, u_1, e_lsw, k_ti, List.drop_succ_cons, List.drop_zero, List.drop_nil, List.zip_cons_cons, List.zip_nil_right, List.zip_nil_left, List.all_cons, List.all_nil, Bool.and_true, Bool.and_self, decide_true, decide_false, Option.toList, List.cons_append, List.nil_append, List.append_nil, DX8_save_0, DX8_save_1, DX8_save_2, DX8_save_3, DX8_save_4, FLX8, LDX8, mS_1, mS_2, uX_1, uX_2, hR.1, (show (4 : Int32) = nI 4 from rfl)]
        refine sX8_save_170 C (m_X8_make l A (svT T n) (n := 4) (by decide) (by simp [nb_len]; omega) _) (s_obj (show 0 < 1 by decide) rfl) (hcat := Nat.le_of_ble_eq_true rfl) (k := ?_)
        rintro v2 G2 ⟨S2, rfl, rfl, rfl⟩
        rw [List.append_assoc]
        refine srnX8_save C Rt [180] 60 ?_
        simp only [k_i, s_go, s_1, e_op, e_pi, e_pl, e_pr, e_p0, e_li, e_ll, e_lr, e_lk, e_ins, e_rm, e_to, e_sw, e_cmp, k_c, k_n, k_f, k_v, k_lg, ↓reduceIte, reduceCtorEq, Nat.reduceAdd, Nat.reduceSub, Nat.reduceMul, Nat.reduceEqDiff, Nat.reduceLT, Nat.reduceLeDiff, Int.reduceAdd, Int.reduceSub, Int.reduceNeg, Int.reduceLE, Int.reduceLT, Int.reduceToNat, Int.reduceEq, Int.cast_ofNat_Int, List.mem_cons, List.not_mem_nil, List.length_cons, List.length_nil, List.set_cons_zero, List.set_cons_succ, List.toList_toArray, eq_self, true_and, and_true, and_self, or_true, true_or, false_or, or_false, or_self, not_true_eq_false, not_false_eq_true, Classical.not_not, true_implies, false_implies, implies_true, forall_const, and_false, false_and, Nat.le_refl, Nat.zero_le, Bool.false_eq_true, lv_args, s_rl_at, s_gf, s_pf, dn_q, kd_q, cl_q, nf_q, ln_q, tg_q, rr_q, cr_q, u_1, e_lsw, k_ti, List.drop_succ_cons, List.drop_zero, List.drop_nil, List.zip_cons_cons, List.zip_nil_right, List.zip_nil_left, List.all_cons, List.all_nil, Bool.and_true, Bool.and_self, decide_true, decide_false, Option.toList, List.cons_append, List.nil_append, List.append_nil, DX8_save_0, DX8_save_1, DX8_save_2, DX8_save_3, DX8_save_4, FLX8, LDX8]
        have h8 := lp_X8_save3 (T := svT T n) (p := nI p) (σ0 := σ1) (σ := σ1) (bs := L) (X := nb (S.1 11 0 2 + 1).toInt64 4 ++ nb (nI n).toInt64 4) C Rt (by simp [nb_len]) (by simp [nb_len]; omega) ?_ 8 0 (by omega)
        · simp only [List.take_zero, Nat.add_zero] at h8
          exact h8
        · refine srnX8_save C Rt [265] 60 ?_
          simp only [k_i, s_go, s_1, e_op, e_pi, e_pl, e_pr, e_p0, e_li, e_ll, e_lr, e_lk, e_ins, e_rm, e_to, e_sw, e_cmp, k_c, k_n, k_f, k_v, k_lg, ↓reduceIte, reduceCtorEq, Nat.reduceAdd, Nat.reduceSub, Nat.reduceMul, Nat.reduceEqDiff, Nat.reduceLT, Nat.reduceLeDiff, Int.reduceAdd, Int.reduceSub, Int.reduceNeg, Int.reduceLE, Int.reduceLT, Int.reduceToNat, Int.reduceEq, Int.cast_ofNat_Int, List.mem_cons, List.not_mem_nil, List.length_cons, List.length_nil, List.set_cons_zero, List.set_cons_succ, List.toList_toArray, eq_self, true_and, and_true, and_self, or_true, true_or, false_or, or_false, or_self, not_true_eq_false, not_false_eq_true, Classical.not_not, true_implies, false_implies, implies_true, forall_const, and_false, false_and, Nat.le_refl, Nat.zero_le, Bool.false_eq_true, lv_args, s_rl_at, s_gf, s_pf, dn_q, kd_q, cl_q, nf_q, ln_q, tg_q, rr_q, cr_q, u_1, e_lsw, k_ti, List.drop_succ_cons, List.drop_zero, List.drop_nil, List.zip_cons_cons, List.zip_nil_right, List.zip_nil_left, List.all_cons, List.all_nil, Bool.and_true, Bool.and_self, decide_true, decide_false, Option.toList, List.cons_append, List.nil_append, List.append_nil, DX8_save_0, DX8_save_1, DX8_save_2, DX8_save_3, DX8_save_4, FLX8, LDX8, (show (8 : Int32) = nI 8 from rfl)]
          refine sX8_save_215 C (m_X8_make l A (svT T n) (n := 8) (by decide) (by simp [nb_len]; omega) _) (s_obj (show 0 < 1 by decide) rfl) (hcat := Nat.le_of_ble_eq_true rfl) (k := ?_)
          rintro v2 G2 ⟨S2, rfl, rfl, rfl⟩
          have e7 : L ++ (nb (S.1 11 0 2 + 1).toInt64 4 ++ nb (nI n).toInt64 4) ++ nb (sws σ1 (nb (S.1 11 0 2 + 1).toInt64 4 ++ nb (nI n).toInt64 4)) 8 = L ++ hdB (S.1 11 0 2 + 1) (nI n) σ1 := by simp [hdB]
          rw [e7]
          have hH2 : (hdB (S.1 11 0 2 + 1) (nI n) σ1).length = 16 := hdB_len
          have hML : (L ++ hdB (S.1 11 0 2 + 1) (nI n) σ1).length = L.length + 16 := by rw [List.length_append, hH2]
          have fin : ∀ hI q : Int32, hI = nI (hpl (S.1 11 0 2 + 1)) → q = nI (min p (L.length + 16)) → V 0 0 265 [(0, .ref (ad A 30 0)), (1, .int (nI p)), (2, .long σ1), (4, .int (nI L.length)), (5, .long (sws σ1 (nb (S.1 11 0 2 + 1).toInt64 4 ++ nb (nI n).toInt64 4))), (7, .int hI), (8, .int q), (9, .int 0)] [] (gS A (mS (svT T n) (L ++ hdB (S.1 11 0 2 + 1) (nI n) σ1))) := by
            intro hI q ehI eq
            rw [ehI, eq]
            have h6 := lp_X8_save4 (T := svT T n) (p := nI p) (σ0 := σ1) (σ := sws σ1 (nb (S.1 11 0 2 + 1).toInt64 4 ++ nb (nI n).toInt64 4)) (u := u) (h := hpl (S.1 11 0 2 + 1)) (n := min p (L.length + 16)) (L := L) (H := hdB (S.1 11 0 2 + 1) (nI n) σ1) (d := S.1 12 0) C Rt k4 (by omega) (by omega) (by omega) hH2 (by omega) ?_ (min p (L.length + 16)) 0 (by omega)
            · have e0 : uX (svT T n) 52 (dX (S.1 12 0) u L (hpl (S.1 11 0 2 + 1)) (hdB (S.1 11 0 2 + 1) (nI n) σ1) 0) = svT T n := uX_id (fun j => by
                unfold dX
                rw [if_neg (by omega), if_neg (by omega), ← k1]
                rfl)
              rw [e0] at h6
              exact h6
            · have eA : (savC S n r u (nI p)).1 = nI (min p (L.length + 16)) := by
                simp only [savC, hd, h0, nN_nI hp, hL]
                rfl
              by_cases hcut : p < L.length + 16
              · have hle : (nI (L.length + 16) ≤ nI (min p (L.length + 16))) = False := by
                  rw [x_le (by omega) (by omega)]
                  simp
                  omega
                refine srnX8_save C Rt [] 60 ?_
                simp only [k_i, s_go, s_1, e_op, e_pi, e_pl, e_pr, e_p0, e_li, e_ll, e_lr, e_lk, e_ins, e_rm, e_to, e_sw, e_cmp, k_c, k_n, k_f, k_v, k_lg, ↓reduceIte, reduceCtorEq, Nat.reduceAdd, Nat.reduceSub, Nat.reduceMul, Nat.reduceEqDiff, Nat.reduceLT, Nat.reduceLeDiff, Int.reduceAdd, Int.reduceSub, Int.reduceNeg, Int.reduceLE, Int.reduceLT, Int.reduceToNat, Int.reduceEq, Int.cast_ofNat_Int, List.mem_cons, List.not_mem_nil, List.length_cons, List.length_nil, List.set_cons_zero, List.set_cons_succ, List.toList_toArray, eq_self, true_and, and_true, and_self, or_true, true_or, false_or, or_false, or_self, not_true_eq_false, not_false_eq_true, Classical.not_not, true_implies, false_implies, implies_true, forall_const, and_false, false_and, Nat.le_refl, Nat.zero_le, Bool.false_eq_true, lv_args, s_rl_at, s_gf, s_pf, dn_q, kd_q, cl_q, nf_q, ln_q, tg_q, rr_q, cr_q, u_1, e_lsw, k_ti, List.drop_succ_cons, List.drop_zero, List.drop_nil, List.zip_cons_cons, List.zip_nil_right, List.zip_nil_left, List.all_cons, List.all_nil, Bool.and_true, Bool.and_self, decide_true, decide_false, Option.toList, List.cons_append, List.nil_append, List.append_nil, DX8_save_0, DX8_save_1, DX8_save_2, DX8_save_3, DX8_save_4, FLX8, LDX8, mS_1, mS_2, uX_1, uX_2, hML, hle]
                refine ⟨?_, by rw [eA]⟩
                simp only [savM, hd, h0, nN_nI hp, savT, svM, hL, hσ, hcut]
                rfl
              · have hle : (nI (L.length + 16) ≤ nI (min p (L.length + 16))) = True := by
                  rw [x_le (by omega) (by omega)]
                  simp
                  omega
                refine srnX8_save C Rt [] 80 ?_
                simp only [k_i, s_go, s_1, e_op, e_pi, e_pl, e_pr, e_p0, e_li, e_ll, e_lr, e_lk, e_ins, e_rm, e_to, e_sw, e_cmp, k_c, k_n, k_f, k_v, k_lg, ↓reduceIte, reduceCtorEq, Nat.reduceAdd, Nat.reduceSub, Nat.reduceMul, Nat.reduceEqDiff, Nat.reduceLT, Nat.reduceLeDiff, Int.reduceAdd, Int.reduceSub, Int.reduceNeg, Int.reduceLE, Int.reduceLT, Int.reduceToNat, Int.reduceEq, Int.cast_ofNat_Int, List.mem_cons, List.not_mem_nil, List.length_cons, List.length_nil, List.set_cons_zero, List.set_cons_succ, List.toList_toArray, eq_self, true_and, and_true, and_self, or_true, true_or, false_or, or_false, or_self, not_true_eq_false, not_false_eq_true, Classical.not_not, true_implies, false_implies, implies_true, forall_const, and_false, false_and, Nat.le_refl, Nat.zero_le, Bool.false_eq_true, lv_args, s_rl_at, s_gf, s_pf, dn_q, kd_q, cl_q, nf_q, ln_q, tg_q, rr_q, cr_q, u_1, e_lsw, k_ti, List.drop_succ_cons, List.drop_zero, List.drop_nil, List.zip_cons_cons, List.zip_nil_right, List.zip_nil_left, List.all_cons, List.all_nil, Bool.and_true, Bool.and_self, decide_true, decide_false, Option.toList, List.cons_append, List.nil_append, List.append_nil, DX8_save_0, DX8_save_1, DX8_save_2, DX8_save_3, DX8_save_4, FLX8, LDX8, mS_1, mS_2, uX_1, uX_2, hML, hle, hR.1, k4, k2, nI_add]
                refine ⟨?_, by rw [eA]⟩
                simp only [savM, hd, h0, nN_nI hp, savT, svM, hL, hσ, hcut]
                rfl
          have hle : (nI (L ++ hdB (S.1 11 0 2 + 1) (nI n) σ1).length ≤ nI p) ↔ L.length + 16 ≤ p := by rw [hML, x_le (by omega) hp]
          refine srnX8_save C Rt [265] 60 ?_
          simp only [k_i, s_go, s_1, e_op, e_pi, e_pl, e_pr, e_p0, e_li, e_ll, e_lr, e_lk, e_ins, e_rm, e_to, e_sw, e_cmp, k_c, k_n, k_f, k_v, k_lg, ↓reduceIte, reduceCtorEq, Nat.reduceAdd, Nat.reduceSub, Nat.reduceMul, Nat.reduceEqDiff, Nat.reduceLT, Nat.reduceLeDiff, Int.reduceAdd, Int.reduceSub, Int.reduceNeg, Int.reduceLE, Int.reduceLT, Int.reduceToNat, Int.reduceEq, Int.cast_ofNat_Int, List.mem_cons, List.not_mem_nil, List.length_cons, List.length_nil, List.set_cons_zero, List.set_cons_succ, List.toList_toArray, eq_self, true_and, and_true, and_self, or_true, true_or, false_or, or_false, or_self, not_true_eq_false, not_false_eq_true, Classical.not_not, true_implies, false_implies, implies_true, forall_const, and_false, false_and, Nat.le_refl, Nat.zero_le, Bool.false_eq_true, lv_args, s_rl_at, s_gf, s_pf, dn_q, kd_q, cl_q, nf_q, ln_q, tg_q, rr_q, cr_q, u_1, e_lsw, k_ti, List.drop_succ_cons, List.drop_zero, List.drop_nil, List.zip_cons_cons, List.zip_nil_right, List.zip_nil_left, List.all_cons, List.all_nil, Bool.and_true, Bool.and_self, decide_true, decide_false, Option.toList, List.cons_append, List.nil_append, List.append_nil, DX8_save_0, DX8_save_1, DX8_save_2, DX8_save_3, DX8_save_4, FLX8, LDX8, mS_1, mS_2, uX_1, uX_2, k2, hg1 _ rfl]
          simp only [hle]
          refine ⟨fun hb1 => ⟨fun h5 => ?_, fun h5 => ?_⟩, fun hb1 => ⟨fun h5 => ?_, fun h5 => ?_⟩⟩
          · have hb0 : b = 0 := by omega
            refine fin _ _ (by rw [eh, hb0]; rfl) (by rw [hML]; congr 1; omega)
          · have hb0 : b = 0 := by omega
            refine fin _ _ (by rw [eh, hb0]; rfl) (by congr 1; omega)
          · refine fin _ _ (by rw [eh, hb1]; rfl) (by rw [hML]; congr 1; omega)
          · refine fin _ _ (by rw [eh, hb1]; rfl) (by congr 1; omega)
  · have h0 : x < 0 := Int32.not_le.mp h
    simp [isP, savC, savM, hd, h0]
