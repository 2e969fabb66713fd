/-! the reference: pack -/
theorem ushr_0 (x : Int64) : e_ushr x (nI 0) = x := by
  apply Int64.toBitVec_inj.mp
  apply BitVec.eq_of_toNat_eq
  have := tn_sh x (k := 0) (by decide)
  simpa [tn] using this
theorem nb_255 (s : Int64) : nb (s &&& 255) 1 = nb s 1 := by
  show [(e_ushr (s &&& 255) (nI 0) &&& 255).toInt32] = [(e_ushr s (nI 0) &&& 255).toInt32]
  rw [ushr_0, ushr_0, Int64.and_assoc, Int64.and_self]
theorem mS_u3 {T : pS} {bs : List Int32} {j : Nat} {v : Int32} (h : ¬ j = 30) : uI (mS T bs) 30 0 j v = mS (uI T 30 0 j v) bs := by
  refine Prod.ext ?_ rfl
  funext k' i' j'
  simp only [u_1, mS_1]
  by_cases h1 : k' = 30 ∧ i' = 0 ∧ j' = j
  · obtain ⟨rfl, rfl, rfl⟩ := h1
    simp [h]
  · simp [h1]
def wgQ (p : Nat → Bool) (on : Nat → Nat) (i k : Nat) : Nat → Bool := fun j => if p i = true then p j || anyB (fun z => decide (z = j)) on k else p j
def ncX (W : Nat → Bool) (i : Nat) (g : Nat → Int32) : Nat → Int32 := fun j => if j < i then nI (cnt W j) else g j
def cyX (M : List Int32) (i : Nat) (g : Nat → Int32) : Nat → Int32 := fun j => if j < i then M.getD j 0 else g j
section
variable {V : pV} {l : Launch} {A : pA} {post : Option Value → pS → Prop} {T S : pS}
set_option maxHeartbeats 4000000 in
set_option maxRecDepth 100000 in
theorem lp_X8_pack1 (C : e_CX8_pack V l) (Rt : e_RX8_pack V (s_P A post)) {f : Nat} {w : Int32} {g : Nat → Int32} (hf : f < 60) (hx : V 0 0 54 [(0, .ref (ad A 30 0)), (1, .int (nI f)), (2, .int w), (3, .int (nI (f + 1)))] [] (gS A (uX T 50 (bX (fun j => decide (j = f)) (f + 1) g)))) : ∀ z i, i + z = f + 1 → V 0 0 27 [(0, .ref (ad A 30 0)), (1, .int (nI f)), (2, .int w), (3, .int (nI i))] [] (gS A (uX T 50 (bX (fun j => decide (j = f)) i g))) := by
  intro z
  induction z with
  | zero =>
    intro i hi
    have hi2 : i = f + 1 := by omega
    subst hi2
    refine srnX8_pack C Rt [27, 54] 40 ?_
    simp only [k_i, s_go, s_1, e_op, e_pi, e_pl, e_pr, e_p0, e_li, e_ll, e_lr, e_lk, e_ins, e_rm, e_to, e_sw, e_cmp, k_c, k_n, k_f, k_v, k_lg, ↓reduceIte, reduceCtorEq, Nat.reduceAdd, Nat.reduceSub, Nat.reduceMul, Nat.reduceEqDiff, Nat.reduceLT, Nat.reduceLeDiff, Int.reduceAdd, Int.reduceSub, Int.reduceNeg, Int.reduceLE, Int.reduceLT, Int.reduceToNat, Int.reduceEq, Int.cast_ofNat_Int, List.mem_cons, List.not_mem_nil, List.length_cons, List.length_nil, List.set_cons_zero, List.set_cons_succ, List.toList_toArray, eq_self, true_and, and_true, and_self, or_true, true_or, false_or, or_false, or_self, not_true_eq_false, not_false_eq_true, Classical.not_not, true_implies, false_implies, implies_true, forall_const, and_false, false_and, Nat.le_refl, Nat.zero_le, Bool.false_eq_true, lv_args, s_rl_at, s_gf, s_pf, dn_q, kd_q, cl_q, nf_q, ln_q, tg_q, rr_q, cr_q, u_1, e_lsw, k_ti, List.drop_succ_cons, List.drop_zero, List.drop_nil, List.zip_cons_cons, List.zip_nil_right, List.zip_nil_left, List.all_cons, List.all_nil, Bool.and_true, Bool.and_self, decide_true, decide_false, Option.toList, List.cons_append, List.nil_append, List.append_nil, DX8_pack_0, DX8_pack_1, DX8_pack_2, DX8_pack_3, DX8_pack_4, FLX8, LDX8, x_lt (a := f) (b := f + 1) (by omega) (by omega), (show f < f + 1 by omega)]
    exact hx
  | succ z ih =>
    intro i hi
    have h9 := ih (i + 1) (by omega)
    have e : ∀ v : Int32, v = b2i (decide (i = f)) → uI (uX T 50 (bX (fun j => decide (j = f)) i g)) 50 0 i v = uX T 50 (bX (fun j => decide (j = f)) (i + 1) g) := by
      intro v hv
      rw [uX_s]
      congr 1
      funext j
      unfold bX
      by_cases h1 : j = i
      · subst h1
        simp [hv]
      · have : (j < i + 1) ↔ (j < i) := by omega
        simp [h1, this]
    refine srnX8_pack C Rt [27, 54] 40 ?_
    simp only [k_i, s_go, s_1, e_op, e_pi, e_pl, e_pr, e_p0, e_li, e_ll, e_lr, e_lk, e_ins, e_rm, e_to, e_sw, e_cmp, k_c, k_n, k_f, k_v, k_lg, ↓reduceIte, reduceCtorEq, Nat.reduceAdd, Nat.reduceSub, Nat.reduceMul, Nat.reduceEqDiff, Nat.reduceLT, Nat.reduceLeDiff, Int.reduceAdd, Int.reduceSub, Int.reduceNeg, Int.reduceLE, Int.reduceLT, Int.reduceToNat, Int.reduceEq, Int.cast_ofNat_Int, List.mem_cons, List.not_mem_nil, List.length_cons, List.length_nil, List.set_cons_zero, List.set_cons_succ, List.toList_toArray, eq_self, true_and, and_true, and_self, or_true, true_or, false_or, or_false, or_self, not_true_eq_false, not_false_eq_true, Classical.not_not, true_implies, false_implies, implies_true, forall_const, and_false, false_and, Nat.le_refl, Nat.zero_le, Bool.false_eq_true, lv_args, s_rl_at, s_gf, s_pf, dn_q, kd_q, cl_q, nf_q, ln_q, tg_q, rr_q, cr_q, u_1, e_lsw, k_ti, List.drop_succ_cons, List.drop_zero, List.drop_nil, List.zip_cons_cons, List.zip_nil_right, List.zip_nil_left, List.all_cons, List.all_nil, Bool.and_true, Bool.and_self, decide_true, decide_false, Option.toList, List.cons_append, List.nil_append, List.append_nil, DX8_pack_0, DX8_pack_1, DX8_pack_2, DX8_pack_3, DX8_pack_4, FLX8, LDX8, uX_1, uX_2, x_lt (a := f) (b := i) (by omega) (by omega), x_eq (a := i) (b := f) (by omega) (by omega), x_cl (a := i) (by omega), x_in (a := i) (n := 60) (by omega), nI_1]
    refine ⟨fun h => by omega, fun _ => ⟨fun h => ⟨by omega, ?_⟩, fun h => ⟨by omega, ?_⟩⟩⟩
    · rw [e 0 (by simp [h, b2i])]
      exact h9
    · rw [e 1 (by simp [h, b2i])]
      exact h9
set_option maxHeartbeats 4000000 in
set_option maxRecDepth 100000 in
theorem lp_X8_pack2 (C : e_CX8_pack V l) (Rt : e_RX8_pack V (s_P A post)) {f i : Nat} {w : Int32} {g : Nat → Int32} {p : Nat → Bool} (hf : f < 60) (hi : i ≤ f) (hw : wfF S i i) (hF : rF T S i) (hx : V 0 0 129 [(0, .ref (ad A 30 0)), (1, .int (nI f)), (2, .int w), (3, .int (nI i)), (4, .int (nI (fcC S i)))] [] (gS A (uX T 50 (bX (wgQ p (onC S i) i (fcC S i)) (f + 1) g)))) : ∀ z k, k + z = fcC S i → V 0 0 63 [(0, .ref (ad A 30 0)), (1, .int (nI f)), (2, .int w), (3, .int (nI i)), (4, .int (nI k))] [] (gS A (uX T 50 (bX (wgQ p (onC S i) i k) (f + 1) g))) := by
  obtain ⟨w1, w2, w3, w4, w5, w6⟩ := hw
  obtain ⟨f1, f2, f3, f4, f5, f6, f7, f8⟩ := hF
  rw [w3] at f5
  intro z
  induction z with
  | zero =>
    intro k hk
    have hk2 : k = fcC S i := by omega
    rw [hk2]
    refine srnX8_pack C Rt [63, 129] 40 ?_
    simp only [k_i, s_go, s_1, e_op, e_pi, e_pl, e_pr, e_p0, e_li, e_ll, e_lr, e_lk, e_ins, e_rm, e_to, e_sw, e_cmp, k_c, k_n, k_f, k_v, k_lg, ↓reduceIte, reduceCtorEq, Nat.reduceAdd, Nat.reduceSub, Nat.reduceMul, Nat.reduceEqDiff, Nat.reduceLT, Nat.reduceLeDiff, Int.reduceAdd, Int.reduceSub, Int.reduceNeg, Int.reduceLE, Int.reduceLT, Int.reduceToNat, Int.reduceEq, Int.cast_ofNat_Int, List.mem_cons, List.not_mem_nil, List.length_cons, List.length_nil, List.set_cons_zero, List.set_cons_succ, List.toList_toArray, eq_self, true_and, and_true, and_self, or_true, true_or, false_or, or_false, or_self, not_true_eq_false, not_false_eq_true, Classical.not_not, true_implies, false_implies, implies_true, forall_const, and_false, false_and, Nat.le_refl, Nat.zero_le, Bool.false_eq_true, lv_args, s_rl_at, s_gf, s_pf, dn_q, kd_q, cl_q, nf_q, ln_q, tg_q, rr_q, cr_q, u_1, e_lsw, k_ti, List.drop_succ_cons, List.drop_zero, List.drop_nil, List.zip_cons_cons, List.zip_nil_right, List.zip_nil_left, List.all_cons, List.all_nil, Bool.and_true, Bool.and_self, decide_true, decide_false, Option.toList, List.cons_append, List.nil_append, List.append_nil, DX8_pack_0, DX8_pack_1, DX8_pack_2, DX8_pack_3, DX8_pack_4, FLX8, LDX8, uX_1, uX_2, f5, x_cl (a := i) (by omega), x_in (a := i) (n := 60) (by omega), x_le (a := fcC S i) (b := fcC S i) (by omega) (by omega)]
    exact ⟨by omega, hx⟩
  | succ z ih =>
    intro k hk
    obtain ⟨w7, w8⟩ := w6 k (by omega)
    have g1 := f6 k (by omega)
    rw [w7] at g1
    have h9 := ih (k + 1) (by omega)
    have hqi : wgQ p (onC S i) i k i = p i := by
      unfold wgQ
      have hz : anyB (fun z => decide (z = i)) (onC S i) k = false := by
        cases ha : anyB (fun z => decide (z = i)) (onC S i) k with
        | false => rfl
        | true =>
          obtain ⟨k2, h1, h2⟩ := anyB_iff.mp ha
          have h3 := (w6 k2 (by omega)).2
          have h4 : onC S i k2 = i := by simpa using h2
          omega
      rw [hz, Bool.or_false]
      cases p i <;> rfl
    have b1 : bX (wgQ p (onC S i) i k) (f + 1) g i = b2i (p i) := by
      unfold bX
      rw [if_pos (by omega), hqi]
    have b2 : bX (wgQ p (onC S i) i k) (f + 1) g (onC S i k) = b2i (wgQ p (onC S i) i k (onC S i k)) := by
      unfold bX
      rw [if_pos (by omega)]
    have e : ∀ v : Int32, v = b2i (wgQ p (onC S i) i k (onC S i k) || p i) → uI (uX T 50 (bX (wgQ p (onC S i) i k) (f + 1) g)) 50 0 (onC S i k) v = uX T 50 (bX (wgQ p (onC S i) i (k + 1)) (f + 1) g) := by
      intro v hv
      rw [uX_s]
      congr 1
      funext j
      unfold bX wgQ at *
      by_cases h1 : j = onC S i k
      · subst h1
        rw [if_pos rfl, if_pos (by omega), hv]
        cases p i <;> simp [anyB]
      · have h2 : ¬ onC S i k = j := fun z => h1 z.symm
        rw [if_neg h1]
        simp [anyB, h2]
    refine srnX8_pack C Rt [63, 129] 60 ?_
    simp only [k_i, s_go, s_1, e_op, e_pi, e_pl, e_pr, e_p0, e_li, e_ll, e_lr, e_lk, e_ins, e_rm, e_to, e_sw, e_cmp, k_c, k_n, k_f, k_v, k_lg, ↓reduceIte, reduceCtorEq, Nat.reduceAdd, Nat.reduceSub, Nat.reduceMul, Nat.reduceEqDiff, Nat.reduceLT, Nat.reduceLeDiff, Int.reduceAdd, Int.reduceSub, Int.reduceNeg, Int.reduceLE, Int.reduceLT, Int.reduceToNat, Int.reduceEq, Int.cast_ofNat_Int, List.mem_cons, List.not_mem_nil, List.length_cons, List.length_nil, List.set_cons_zero, List.set_cons_succ, List.toList_toArray, eq_self, true_and, and_true, and_self, or_true, true_or, false_or, or_false, or_self, not_true_eq_false, not_false_eq_true, Classical.not_not, true_implies, false_implies, implies_true, forall_const, and_false, false_and, Nat.le_refl, Nat.zero_le, Bool.false_eq_true, lv_args, s_rl_at, s_gf, s_pf, dn_q, kd_q, cl_q, nf_q, ln_q, tg_q, rr_q, cr_q, u_1, e_lsw, k_ti, List.drop_succ_cons, List.drop_zero, List.drop_nil, List.zip_cons_cons, List.zip_nil_right, List.zip_nil_left, List.all_cons, List.all_nil, Bool.and_true, Bool.and_self, decide_true, decide_false, Option.toList, List.cons_append, List.nil_append, List.append_nil, DX8_pack_0, DX8_pack_1, DX8_pack_2, DX8_pack_3, DX8_pack_4, FLX8, LDX8, uX_1, uX_2, f5, x_cl (a := i) (by omega), x_in (a := i) (n := 60) (by omega), x_le (a := fcC S i) (b := k) (by omega) (by omega), (show (3 : Int32) = nI 3 from rfl), pk_mul, nI_add, x_cl (a := 3 * i + k) (by omega), x_in (a := 3 * i + k) (n := 180) (by omega), g1, x_cl (a := onC S i k) (by omega), x_in (a := onC S i k) (n := 60) (by omega), nI_1, b1, b2, b2i_0]
    refine ⟨by omega, fun h => by omega, fun _ => ⟨by omega, by omega, by omega, fun h => ⟨by omega, ?_⟩, fun h => ⟨by omega, fun h2 => ⟨by omega, ?_⟩, fun h2 => ⟨by omega, ?_⟩⟩⟩⟩
    · rw [e 1 (by rw [nft h]; rfl)]
      exact h9
    · rw [e 0 (by rw [h, h2]; rfl)]
      exact h9
    · rw [e 1 (by rw [h, nft h2]; rfl)]
      exact h9
set_option maxHeartbeats 4000000 in
set_option maxRecDepth 100000 in
theorem lp_X8_pack3 (C : e_CX8_pack V l) (Rt : e_RX8_pack V (s_P A post)) {n f : Nat} {w : Int32} {g : Nat → Int32} (hB : wfB S n) (hf : f < n) (hF : ∀ i, i < n → rF T S i) (W : Nat → Bool) (hx : V 0 0 135 [(0, .ref (ad A 30 0)), (1, .int (nI f)), (2, .int w), (3, .int (nI 0 - 1))] [] (gS A (uX T 50 (bX W (f + 1) g)))) : ∀ i p, i ≤ f + 1 → wgF (onC S) (fcC S) i p = W → V 0 0 56 [(0, .ref (ad A 30 0)), (1, .int (nI f)), (2, .int w), (3, .int (nI i - 1))] [] (gS A (uX T 50 (bX p (f + 1) g))) := by
  have hn := hB.2.1
  intro i
  induction i with
  | zero =>
    intro p hi hW
    have hW2 : p = W := hW
    rw [hW2]
    refine srnX8_pack C Rt [56, 135] 40 ?_
    simp only [k_i, s_go, s_1, e_op, e_pi, e_pl, e_pr, e_p0, e_li, e_ll, e_lr, e_lk, e_ins, e_rm, e_to, e_sw, e_cmp, k_c, k_n, k_f, k_v, k_lg, ↓reduceIte, reduceCtorEq, Nat.reduceAdd, Nat.reduceSub, Nat.reduceMul, Nat.reduceEqDiff, Nat.reduceLT, Nat.reduceLeDiff, Int.reduceAdd, Int.reduceSub, Int.reduceNeg, Int.reduceLE, Int.reduceLT, Int.reduceToNat, Int.reduceEq, Int.cast_ofNat_Int, List.mem_cons, List.not_mem_nil, List.length_cons, List.length_nil, List.set_cons_zero, List.set_cons_succ, List.toList_toArray, eq_self, true_and, and_true, and_self, or_true, true_or, false_or, or_false, or_self, not_true_eq_false, not_false_eq_true, Classical.not_not, true_implies, false_implies, implies_true, forall_const, and_false, false_and, Nat.le_refl, Nat.zero_le, Bool.false_eq_true, lv_args, s_rl_at, s_gf, s_pf, dn_q, kd_q, cl_q, nf_q, ln_q, tg_q, rr_q, cr_q, u_1, e_lsw, k_ti, List.drop_succ_cons, List.drop_zero, List.drop_nil, List.zip_cons_cons, List.zip_nil_right, List.zip_nil_left, List.all_cons, List.all_nil, Bool.and_true, Bool.and_self, decide_true, decide_false, Option.toList, List.cons_append, List.nil_append, List.append_nil, DX8_pack_0, DX8_pack_1, DX8_pack_2, DX8_pack_3, DX8_pack_4, FLX8, LDX8, (show nI 0 - 1 < 0 by decide)]
    exact hx
  | succ i ih =>
    intro p hi hW
    refine srnX8_pack C Rt [63, 135] 40 ?_
    simp only [k_i, s_go, s_1, e_op, e_pi, e_pl, e_pr, e_p0, e_li, e_ll, e_lr, e_lk, e_ins, e_rm, e_to, e_sw, e_cmp, k_c, k_n, k_f, k_v, k_lg, ↓reduceIte, reduceCtorEq, Nat.reduceAdd, Nat.reduceSub, Nat.reduceMul, Nat.reduceEqDiff, Nat.reduceLT, Nat.reduceLeDiff, Int.reduceAdd, Int.reduceSub, Int.reduceNeg, Int.reduceLE, Int.reduceLT, Int.reduceToNat, Int.reduceEq, Int.cast_ofNat_Int, List.mem_cons, List.not_mem_nil, List.length_cons, List.length_nil, List.set_cons_zero, List.set_cons_succ, List.toList_toArray, eq_self, true_and, and_true, and_self, or_true, true_or, false_or, or_false, or_self, not_true_eq_false, not_false_eq_true, Classical.not_not, true_implies, false_implies, implies_true, forall_const, and_false, false_and, Nat.le_refl, Nat.zero_le, Bool.false_eq_true, lv_args, s_rl_at, s_gf, s_pf, dn_q, kd_q, cl_q, nf_q, ln_q, tg_q, rr_q, cr_q, u_1, e_lsw, k_ti, List.drop_succ_cons, List.drop_zero, List.drop_nil, List.zip_cons_cons, List.zip_nil_right, List.zip_nil_left, List.all_cons, List.all_nil, Bool.and_true, Bool.and_self, decide_true, decide_false, Option.toList, List.cons_append, List.nil_append, List.append_nil, DX8_pack_0, DX8_pack_1, DX8_pack_2, DX8_pack_3, DX8_pack_4, FLX8, LDX8, nI_pred, (show ¬ nI i < 0 from nI_pos (by omega))]
    have h8 := lp_X8_pack2 (T := T) (S := S) (f := f) (i := i) (w := w) (g := g) (p := p) C Rt (by omega) (by omega) (hB.2.2 i (by omega)) (hF i (by omega)) ?_ (fcC S i) 0 (by omega)
    · have e0 : wgQ p (onC S i) i 0 = p := by
        funext j
        unfold wgQ
        simp [anyB]
      rw [e0] at h8
      exact h8
    · refine srnX8_pack C Rt [56] 40 ?_
      simp only [k_i, s_go, s_1, e_op, e_pi, e_pl, e_pr, e_p0, e_li, e_ll, e_lr, e_lk, e_ins, e_rm, e_to, e_sw, e_cmp, k_c, k_n, k_f, k_v, k_lg, ↓reduceIte, reduceCtorEq, Nat.reduceAdd, Nat.reduceSub, Nat.reduceMul, Nat.reduceEqDiff, Nat.reduceLT, Nat.reduceLeDiff, Int.reduceAdd, Int.reduceSub, Int.reduceNeg, Int.reduceLE, Int.reduceLT, Int.reduceToNat, Int.reduceEq, Int.cast_ofNat_Int, List.mem_cons, List.not_mem_nil, List.length_cons, List.length_nil, List.set_cons_zero, List.set_cons_succ, List.toList_toArray, eq_self, true_and, and_true, and_self, or_true, true_or, false_or, or_false, or_self, not_true_eq_false, not_false_eq_true, Classical.not_not, true_implies, false_implies, implies_true, forall_const, and_false, false_and, Nat.le_refl, Nat.zero_le, Bool.false_eq_true, lv_args, s_rl_at, s_gf, s_pf, dn_q, kd_q, cl_q, nf_q, ln_q, tg_q, rr_q, cr_q, u_1, e_lsw, k_ti, List.drop_succ_cons, List.drop_zero, List.drop_nil, List.zip_cons_cons, List.zip_nil_right, List.zip_nil_left, List.all_cons, List.all_nil, Bool.and_true, Bool.and_self, decide_true, decide_false, Option.toList, List.cons_append, List.nil_append, List.append_nil, DX8_pack_0, DX8_pack_1, DX8_pack_2, DX8_pack_3, DX8_pack_4, FLX8, LDX8, m1_eq]
      exact w_pre C (ih _ (by omega) hW)
set_option maxHeartbeats 4000000 in
set_option maxRecDepth 100000 in
theorem lp_X8_pack4 (C : e_CX8_pack V l) (Rt : e_RX8_pack V (s_P A post)) {f : Nat} {w : Int32} {g : Nat → Int32} {W : Nat → Bool} (hf : f < 60) (h50 : ∀ j, j ≤ f → T.1 50 0 j = b2i (W j)) (hx : V 0 0 178 [(0, .ref (ad A 30 0)), (1, .int (nI f)), (2, .int w), (3, .int (nI (cnt W (f + 1)))), (4, .int (nI (f + 1)))] [] (gS A (uX T 62 (ncX W (f + 1) g)))) : ∀ z i, i + z = f + 1 → V 0 0 140 [(0, .ref (ad A 30 0)), (1, .int (nI f)), (2, .int w), (3, .int (nI (cnt W i))), (4, .int (nI i))] [] (gS A (uX T 62 (ncX W i g))) := by
  intro z
  induction z with
  | zero =>
    intro i hi
    have hi2 : i = f + 1 := by omega
    subst hi2
    refine srnX8_pack C Rt [140, 178] 40 ?_
    simp only [k_i, s_go, s_1, e_op, e_pi, e_pl, e_pr, e_p0, e_li, e_ll, e_lr, e_lk, e_ins, e_rm, e_to, e_sw, e_cmp, k_c, k_n, k_f, k_v, k_lg, ↓reduceIte, reduceCtorEq, Nat.reduceAdd, Nat.reduceSub, Nat.reduceMul, Nat.reduceEqDiff, Nat.reduceLT, Nat.reduceLeDiff, Int.reduceAdd, Int.reduceSub, Int.reduceNeg, Int.reduceLE, Int.reduceLT, Int.reduceToNat, Int.reduceEq, Int.cast_ofNat_Int, List.mem_cons, List.not_mem_nil, List.length_cons, List.length_nil, List.set_cons_zero, List.set_cons_succ, List.toList_toArray, eq_self, true_and, and_true, and_self, or_true, true_or, false_or, or_false, or_self, not_true_eq_false, not_false_eq_true, Classical.not_not, true_implies, false_implies, implies_true, forall_const, and_false, false_and, Nat.le_refl, Nat.zero_le, Bool.false_eq_true, lv_args, s_rl_at, s_gf, s_pf, dn_q, kd_q, cl_q, nf_q, ln_q, tg_q, rr_q, cr_q, u_1, e_lsw, k_ti, List.drop_succ_cons, List.drop_zero, List.drop_nil, List.zip_cons_cons, List.zip_nil_right, List.zip_nil_left, List.all_cons, List.all_nil, Bool.and_true, Bool.and_self, decide_true, decide_false, Option.toList, List.cons_append, List.nil_append, List.append_nil, DX8_pack_0, DX8_pack_1, DX8_pack_2, DX8_pack_3, DX8_pack_4, FLX8, LDX8, x_lt (a := f) (b := f + 1) (by omega) (by omega), (show f < f + 1 by omega)]
    exact hx
  | succ z ih =>
    intro i hi
    have h9 := ih (i + 1) (by omega)
    have e : uI (uX T 62 (ncX W i g)) 62 0 i (nI (cnt W i)) = uX T 62 (ncX W (i + 1) g) := by
      rw [uX_s]
      congr 1
      funext j
      unfold ncX
      by_cases h1 : j = i
      · subst h1
        simp
      · have : (j < i + 1) ↔ (j < i) := by omega
        simp [h1, this]
    refine srnX8_pack C Rt [140, 178] 40 ?_
    simp only [k_i, s_go, s_1, e_op, e_pi, e_pl, e_pr, e_p0, e_li, e_ll, e_lr, e_lk, e_ins, e_rm, e_to, e_sw, e_cmp, k_c, k_n, k_f, k_v, k_lg, ↓reduceIte, reduceCtorEq, Nat.reduceAdd, Nat.reduceSub, Nat.reduceMul, Nat.reduceEqDiff, Nat.reduceLT, Nat.reduceLeDiff, Int.reduceAdd, Int.reduceSub, Int.reduceNeg, Int.reduceLE, Int.reduceLT, Int.reduceToNat, Int.reduceEq, Int.cast_ofNat_Int, List.mem_cons, List.not_mem_nil, List.length_cons, List.length_nil, List.set_cons_zero, List.set_cons_succ, List.toList_toArray, eq_self, true_and, and_true, and_self, or_true, true_or, false_or, or_false, or_self, not_true_eq_false, not_false_eq_true, Classical.not_not, true_implies, false_implies, implies_true, forall_const, and_false, false_and, Nat.le_refl, Nat.zero_le, Bool.false_eq_true, lv_args, s_rl_at, s_gf, s_pf, dn_q, kd_q, cl_q, nf_q, ln_q, tg_q, rr_q, cr_q, u_1, e_lsw, k_ti, List.drop_succ_cons, List.drop_zero, List.drop_nil, List.zip_cons_cons, List.zip_nil_right, List.zip_nil_left, List.all_cons, List.all_nil, Bool.and_true, Bool.and_self, decide_true, decide_false, Option.toList, List.cons_append, List.nil_append, List.append_nil, DX8_pack_0, DX8_pack_1, DX8_pack_2, DX8_pack_3, DX8_pack_4, FLX8, LDX8, uX_1, uX_2, x_lt (a := f) (b := i) (by omega) (by omega), x_cl (a := i) (by omega), x_in (a := i) (n := 60) (by omega), h50 i (by omega), b2i_0, nI_1, Int32.add_zero]
    rw [e]
    refine ⟨fun h => by omega, fun _ => ⟨by omega, by omega, fun h => ?_, fun h => ?_⟩⟩
    · simp only [cnt, h] at h9
      exact h9
    · simp only [cnt, nft h] at h9
      exact h9
set_option maxHeartbeats 4000000 in
set_option maxRecDepth 100000 in
theorem lp_X8_pack5 (C : e_CX8_pack V l) (Rt : e_RX8_pack V (s_P A post)) {n f m : Nat} {w : Int32} {W : Nat → Bool} (hB : wfB S n) (hf : f < n) (hF : ∀ i, i < n → rF T S i) (hkd : ∀ i, i < n → ∃ a : Nat, a < 4 ∧ S.1 6 i 0 = nI a) (h50 : ∀ j, j ≤ f → T.1 50 0 j = b2i (W j)) (h62 : ∀ j, j ≤ f → T.1 62 0 j = nI (cnt W j)) {lc : Int32} (hx : V 0 0 221 [(0, .ref (ad A 30 0)), (1, .int (nI f)), (2, .int w), (3, .int lc), (4, .int (nI (f + 1)))] [] (gS A (mS T (pkL (prw S W) W m (f + 1))))) : ∀ z i, i + z = f + 1 → V 0 0 193 [(0, .ref (ad A 30 0)), (1, .int (nI f)), (2, .int w), (3, .int lc), (4, .int (nI i))] [] (gS A (mS T (pkL (prw S W) W m i))) := by
  obtain ⟨b1, b2, b3⟩ := hB
  have hlen : ∀ i, i ≤ f + 1 → (pkL (prw S W) W m i).length ≤ 50 * i + 1 := fun i hi => pkL_len fun j hj => by
    unfold prw
    rw [rwB_len]
    have h3 := (b3 j (by omega)).2.1
    have h4 := (b3 j (by omega)).2.2.2.1
    omega
  intro z
  induction z with
  | zero =>
    intro i hi
    have hi2 : i = f + 1 := by omega
    subst hi2
    refine srnX8_pack C Rt [193, 221] 40 ?_
    simp only [k_i, s_go, s_1, e_op, e_pi, e_pl, e_pr, e_p0, e_li, e_ll, e_lr, e_lk, e_ins, e_rm, e_to, e_sw, e_cmp, k_c, k_n, k_f, k_v, k_lg, ↓reduceIte, reduceCtorEq, Nat.reduceAdd, Nat.reduceSub, Nat.reduceMul, Nat.reduceEqDiff, Nat.reduceLT, Nat.reduceLeDiff, Int.reduceAdd, Int.reduceSub, Int.reduceNeg, Int.reduceLE, Int.reduceLT, Int.reduceToNat, Int.reduceEq, Int.cast_ofNat_Int, List.mem_cons, List.not_mem_nil, List.length_cons, List.length_nil, List.set_cons_zero, List.set_cons_succ, List.toList_toArray, eq_self, true_and, and_true, and_self, or_true, true_or, false_or, or_false, or_self, not_true_eq_false, not_false_eq_true, Classical.not_not, true_implies, false_implies, implies_true, forall_const, and_false, false_and, Nat.le_refl, Nat.zero_le, Bool.false_eq_true, lv_args, s_rl_at, s_gf, s_pf, dn_q, kd_q, cl_q, nf_q, ln_q, tg_q, rr_q, cr_q, u_1, e_lsw, k_ti, List.drop_succ_cons, List.drop_zero, List.drop_nil, List.zip_cons_cons, List.zip_nil_right, List.zip_nil_left, List.all_cons, List.all_nil, Bool.and_true, Bool.and_self, decide_true, decide_false, Option.toList, List.cons_append, List.nil_append, List.append_nil, DX8_pack_0, DX8_pack_1, DX8_pack_2, DX8_pack_3, DX8_pack_4, FLX8, LDX8, x_lt (a := f) (b := f + 1) (by omega) (by omega), (show f < f + 1 by omega)]
    exact hx
  | succ z ih =>
    intro i hi
    have h9 := ih (i + 1) (by omega)
    have hl := hlen i (by omega)
    have hwi := b3 i (by omega)
    obtain ⟨a, ha, ea⟩ := hkd i (by omega)
    refine srnX8_pack C Rt [193, 221] 40 ?_
    simp only [k_i, s_go, s_1, e_op, e_pi, e_pl, e_pr, e_p0, e_li, e_ll, e_lr, e_lk, e_ins, e_rm, e_to, e_sw, e_cmp, k_c, k_n, k_f, k_v, k_lg, ↓reduceIte, reduceCtorEq, Nat.reduceAdd, Nat.reduceSub, Nat.reduceMul, Nat.reduceEqDiff, Nat.reduceLT, Nat.reduceLeDiff, Int.reduceAdd, Int.reduceSub, Int.reduceNeg, Int.reduceLE, Int.reduceLT, Int.reduceToNat, Int.reduceEq, Int.cast_ofNat_Int, List.mem_cons, List.not_mem_nil, List.length_cons, List.length_nil, List.set_cons_zero, List.set_cons_succ, List.toList_toArray, eq_self, true_and, and_true, and_self, or_true, true_or, false_or, or_false, or_self, not_true_eq_false, not_false_eq_true, Classical.not_not, true_implies, false_implies, implies_true, forall_const, and_false, false_and, Nat.le_refl, Nat.zero_le, Bool.false_eq_true, lv_args, s_rl_at, s_gf, s_pf, dn_q, kd_q, cl_q, nf_q, ln_q, tg_q, rr_q, cr_q, u_1, e_lsw, k_ti, List.drop_succ_cons, List.drop_zero, List.drop_nil, List.zip_cons_cons, List.zip_nil_right, List.zip_nil_left, List.all_cons, List.all_nil, Bool.and_true, Bool.and_self, decide_true, decide_false, Option.toList, List.cons_append, List.nil_append, List.append_nil, DX8_pack_0, DX8_pack_1, DX8_pack_2, DX8_pack_3, DX8_pack_4, FLX8, LDX8, mS_1, mS_2, x_lt (a := f) (b := i) (by omega) (by omega), x_cl (a := i) (by omega), x_in (a := i) (n := 60) (by omega), h50 i (by omega), b2i_0, nI_1]
    refine ⟨fun h => by omega, fun _ => ⟨by omega, fun h => ?_, fun h => ?_⟩⟩
    · simp only [pkL, h] at h9
      exact h9
    · refine sX8_pack_212 C (m_X8_makeRow l A T S (m := i) (kd0 := a) (nm := fun j => cnt W (onC S i j)) (by omega) (by omega) hwi (hF i (by omega)) ea ha (fun j hj => ⟨h62 _ (by have := (hwi.2.2.2.2.2 j hj).2; omega), by have := (hwi.2.2.2.2.2 j hj).2; have := cnt_le W (onC S i j); omega⟩) (by omega)) (s_obj (show 0 < 1 by decide) rfl) (hcat := Nat.le_of_ble_eq_true rfl) (k := ?_)
      rintro v2 G2 ⟨S2, rfl, rfl, rfl⟩
      refine srnX8_pack C Rt [193] 40 ?_
      simp only [k_i, s_go, s_1, e_op, e_pi, e_pl, e_pr, e_p0, e_li, e_ll, e_lr, e_lk, e_ins, e_rm, e_to, e_sw, e_cmp, k_c, k_n, k_f, k_v, k_lg, ↓reduceIte, reduceCtorEq, Nat.reduceAdd, Nat.reduceSub, Nat.reduceMul, Nat.reduceEqDiff, Nat.reduceLT, Nat.reduceLeDiff, Int.reduceAdd, Int.reduceSub, Int.reduceNeg, Int.reduceLE, Int.reduceLT, Int.reduceToNat, Int.reduceEq, Int.cast_ofNat_Int, List.mem_cons, List.not_mem_nil, List.length_cons, List.length_nil, List.set_cons_zero, List.set_cons_succ, List.toList_toArray, eq_self, true_and, and_true, and_self, or_true, true_or, false_or, or_false, or_self, not_true_eq_false, not_false_eq_true, Classical.not_not, true_implies, false_implies, implies_true, forall_const, and_false, false_and, Nat.le_refl, Nat.zero_le, Bool.false_eq_true, lv_args, s_rl_at, s_gf, s_pf, dn_q, kd_q, cl_q, nf_q, ln_q, tg_q, rr_q, cr_q, u_1, e_lsw, k_ti, List.drop_succ_cons, List.drop_zero, List.drop_nil, List.zip_cons_cons, List.zip_nil_right, List.zip_nil_left, List.all_cons, List.all_nil, Bool.and_true, Bool.and_self, decide_true, decide_false, Option.toList, List.cons_append, List.nil_append, List.append_nil, DX8_pack_0, DX8_pack_1, DX8_pack_2, DX8_pack_3, DX8_pack_4, FLX8, LDX8, nI_1]
      simp only [pkL, nft h, if_true] at h9
      exact h9
set_option maxHeartbeats 4000000 in
set_option maxRecDepth 100000 in
theorem lp_X8_pack6 (C : e_CX8_pack V l) (Rt : e_RX8_pack V (s_P A post)) {f : Nat} {w lc : Int32} {X : List Int32} (hb : X.length ≤ 4000) (hx : V 0 0 258 [(0, .ref (ad A 30 0)), (1, .int (nI f)), (2, .int w), (3, .int lc), (4, .long (sws 7 X)), (6, .int (nI X.length))] [] (gS A (mS T X))) : ∀ z k, k + z = X.length → V 0 0 229 [(0, .ref (ad A 30 0)), (1, .int (nI f)), (2, .int w), (3, .int lc), (4, .long (sws 7 (X.take k))), (6, .int (nI k))] [] (gS A (mS T X)) := by
  intro z
  induction z with
  | zero =>
    intro k hk
    have hk2 : k = X.length := by omega
    rw [hk2, List.take_length]
    refine srnX8_pack C Rt [229, 258] 40 ?_
    simp only [k_i, s_go, s_1, e_op, e_pi, e_pl, e_pr, e_p0, e_li, e_ll, e_lr, e_lk, e_ins, e_rm, e_to, e_sw, e_cmp, k_c, k_n, k_f, k_v, k_lg, ↓reduceIte, reduceCtorEq, Nat.reduceAdd, Nat.reduceSub, Nat.reduceMul, Nat.reduceEqDiff, Nat.reduceLT, Nat.reduceLeDiff, Int.reduceAdd, Int.reduceSub, Int.reduceNeg, Int.reduceLE, Int.reduceLT, Int.reduceToNat, Int.reduceEq, Int.cast_ofNat_Int, List.mem_cons, List.not_mem_nil, List.length_cons, List.length_nil, List.set_cons_zero, List.set_cons_succ, List.toList_toArray, eq_self, true_and, and_true, and_self, or_true, true_or, false_or, or_false, or_self, not_true_eq_false, not_false_eq_true, Classical.not_not, true_implies, false_implies, implies_true, forall_const, and_false, false_and, Nat.le_refl, Nat.zero_le, Bool.false_eq_true, lv_args, s_rl_at, s_gf, s_pf, dn_q, kd_q, cl_q, nf_q, ln_q, tg_q, rr_q, cr_q, u_1, e_lsw, k_ti, List.drop_succ_cons, List.drop_zero, List.drop_nil, List.zip_cons_cons, List.zip_nil_right, List.zip_nil_left, List.all_cons, List.all_nil, Bool.and_true, Bool.and_self, decide_true, decide_false, Option.toList, List.cons_append, List.nil_append, List.append_nil, DX8_pack_0, DX8_pack_1, DX8_pack_2, DX8_pack_3, DX8_pack_4, FLX8, LDX8, mS_1, mS_2, x_le (a := X.length) (b := X.length) (by omega) (by omega)]
    exact hx
  | succ z ih =>
    intro k hk
    have hlt : k < X.length := by omega
    refine srnX8_pack C Rt [229, 258] 40 ?_
    simp only [k_i, s_go, s_1, e_op, e_pi, e_pl, e_pr, e_p0, e_li, e_ll, e_lr, e_lk, e_ins, e_rm, e_to, e_sw, e_cmp, k_c, k_n, k_f, k_v, k_lg, ↓reduceIte, reduceCtorEq, Nat.reduceAdd, Nat.reduceSub, Nat.reduceMul, Nat.reduceEqDiff, Nat.reduceLT, Nat.reduceLeDiff, Int.reduceAdd, Int.reduceSub, Int.reduceNeg, Int.reduceLE, Int.reduceLT, Int.reduceToNat, Int.reduceEq, Int.cast_ofNat_Int, List.mem_cons, List.not_mem_nil, List.length_cons, List.length_nil, List.set_cons_zero, List.set_cons_succ, List.toList_toArray, eq_self, true_and, and_true, and_self, or_true, true_or, false_or, or_false, or_self, not_true_eq_false, not_false_eq_true, Classical.not_not, true_implies, false_implies, implies_true, forall_const, and_false, false_and, Nat.le_refl, Nat.zero_le, Bool.false_eq_true, lv_args, s_rl_at, s_gf, s_pf, dn_q, kd_q, cl_q, nf_q, ln_q, tg_q, rr_q, cr_q, u_1, e_lsw, k_ti, List.drop_succ_cons, List.drop_zero, List.drop_nil, List.zip_cons_cons, List.zip_nil_right, List.zip_nil_left, List.all_cons, List.all_nil, Bool.and_true, Bool.and_self, decide_true, decide_false, Option.toList, List.cons_append, List.nil_append, List.append_nil, DX8_pack_0, DX8_pack_1, DX8_pack_2, DX8_pack_3, DX8_pack_4, FLX8, LDX8, mS_1, mS_2, x_le (a := X.length) (b := k) (by omega) (by omega), x_cl (a := k) (by omega), x_in (a := k) (n := 4000) (by omega), hlt]
    refine ⟨fun h => by omega, fun _ => ⟨by omega, ?_⟩⟩
    refine sX8_pack_247 C (m_X8_sumWith l _ _ _) (hcat := Nat.le_of_ble_eq_true rfl) (k := ?_)
    rintro v2 G2 ⟨rfl, rfl⟩
    refine srnX8_pack C Rt [229, 258] 40 ?_
    simp only [k_i, s_go, s_1, e_op, e_pi, e_pl, e_pr, e_p0, e_li, e_ll, e_lr, e_lk, e_ins, e_rm, e_to, e_sw, e_cmp, k_c, k_n, k_f, k_v, k_lg, ↓reduceIte, reduceCtorEq, Nat.reduceAdd, Nat.reduceSub, Nat.reduceMul, Nat.reduceEqDiff, Nat.reduceLT, Nat.reduceLeDiff, Int.reduceAdd, Int.reduceSub, Int.reduceNeg, Int.reduceLE, Int.reduceLT, Int.reduceToNat, Int.reduceEq, Int.cast_ofNat_Int, List.mem_cons, List.not_mem_nil, List.length_cons, List.length_nil, List.set_cons_zero, List.set_cons_succ, List.toList_toArray, eq_self, true_and, and_true, and_self, or_true, true_or, false_or, or_false, or_self, not_true_eq_false, not_false_eq_true, Classical.not_not, true_implies, false_implies, implies_true, forall_const, and_false, false_and, Nat.le_refl, Nat.zero_le, Bool.false_eq_true, lv_args, s_rl_at, s_gf, s_pf, dn_q, kd_q, cl_q, nf_q, ln_q, tg_q, rr_q, cr_q, u_1, e_lsw, k_ti, List.drop_succ_cons, List.drop_zero, List.drop_nil, List.zip_cons_cons, List.zip_nil_right, List.zip_nil_left, List.all_cons, List.all_nil, Bool.and_true, Bool.and_self, decide_true, decide_false, Option.toList, List.cons_append, List.nil_append, List.append_nil, DX8_pack_0, DX8_pack_1, DX8_pack_2, DX8_pack_3, DX8_pack_4, FLX8, LDX8, nI_1]
    have h9 := ih (k + 1) (by omega)
    rw [take_s (by omega), ← sws_1] at h9
    exact h9
set_option maxHeartbeats 4000000 in
set_option maxRecDepth 100000 in
theorem lp_X8_pack7 (C : e_CX8_pack V l) (Rt : e_RX8_pack V (s_P A post)) {f : Nat} {w lc : Int32} {σ : Int64} {M : List Int32} {g : Nat → Int32} (hb : M.length ≤ 4000) (hT : T.1 30 0 36 = nI M.length) (hp : post (some (.int (nI M.length))) (mS (uX T 68 (cyX M M.length g)) M)) : ∀ z k, k + z = M.length → V 0 0 293 [(0, .ref (ad A 30 0)), (1, .int (nI f)), (2, .int w), (3, .int lc), (4, .long σ), (6, .int (nI k))] [] (gS A (mS (uX T 68 (cyX M k g)) M)) := by
  intro z
  induction z with
  | zero =>
    intro k hk
    have hk2 : k = M.length := by omega
    rw [hk2]
    refine srnX8_pack C Rt [293] 40 ?_
    simp only [k_i, s_go, s_1, e_op, e_pi, e_pl, e_pr, e_p0, e_li, e_ll, e_lr, e_lk, e_ins, e_rm, e_to, e_sw, e_cmp, k_c, k_n, k_f, k_v, k_lg, ↓reduceIte, reduceCtorEq, Nat.reduceAdd, Nat.reduceSub, Nat.reduceMul, Nat.reduceEqDiff, Nat.reduceLT, Nat.reduceLeDiff, Int.reduceAdd, Int.reduceSub, Int.reduceNeg, Int.reduceLE, Int.reduceLT, Int.reduceToNat, Int.reduceEq, Int.cast_ofNat_Int, List.mem_cons, List.not_mem_nil, List.length_cons, List.length_nil, List.set_cons_zero, List.set_cons_succ, List.toList_toArray, eq_self, true_and, and_true, and_self, or_true, true_or, false_or, or_false, or_self, not_true_eq_false, not_false_eq_true, Classical.not_not, true_implies, false_implies, implies_true, forall_const, and_false, false_and, Nat.le_refl, Nat.zero_le, Bool.false_eq_true, lv_args, s_rl_at, s_gf, s_pf, dn_q, kd_q, cl_q, nf_q, ln_q, tg_q, rr_q, cr_q, u_1, e_lsw, k_ti, List.drop_succ_cons, List.drop_zero, List.drop_nil, List.zip_cons_cons, List.zip_nil_right, List.zip_nil_left, List.all_cons, List.all_nil, Bool.and_true, Bool.and_self, decide_true, decide_false, Option.toList, List.cons_append, List.nil_append, List.append_nil, DX8_pack_0, DX8_pack_1, DX8_pack_2, DX8_pack_3, DX8_pack_4, FLX8, LDX8, mS_1, mS_2, uX_1, uX_2, hT, x_le (a := M.length) (b := M.length) (by omega) (by omega)]
    exact hp
  | succ z ih =>
    intro k hk
    have h9 := ih (k + 1) (by omega)
    have hlt : k < M.length := by omega
    have e : uI (mS (uX T 68 (cyX M k g)) M) 68 0 k (M.getD k 0) = mS (uX T 68 (cyX M (k + 1) g)) M := by
      rw [mS_uI (by decide) (by decide), uX_s]
      congr 2
      funext j
      unfold cyX
      by_cases h1 : j = k
      · subst h1
        simp
      · have : (j < k + 1) ↔ (j < k) := by omega
        simp [h1, this]
    refine srnX8_pack C Rt [293] 40 ?_
    simp only [k_i, s_go, s_1, e_op, e_pi, e_pl, e_pr, e_p0, e_li, e_ll, e_lr, e_lk, e_ins, e_rm, e_to, e_sw, e_cmp, k_c, k_n, k_f, k_v, k_lg, ↓reduceIte, reduceCtorEq, Nat.reduceAdd, Nat.reduceSub, Nat.reduceMul, Nat.reduceEqDiff, Nat.reduceLT, Nat.reduceLeDiff, Int.reduceAdd, Int.reduceSub, Int.reduceNeg, Int.reduceLE, Int.reduceLT, Int.reduceToNat, Int.reduceEq, Int.cast_ofNat_Int, List.mem_cons, List.not_mem_nil, List.length_cons, List.length_nil, List.set_cons_zero, List.set_cons_succ, List.toList_toArray, eq_self, true_and, and_true, and_self, or_true, true_or, false_or, or_false, or_self, not_true_eq_false, not_false_eq_true, Classical.not_not, true_implies, false_implies, implies_true, forall_const, and_false, false_and, Nat.le_refl, Nat.zero_le, Bool.false_eq_true, lv_args, s_rl_at, s_gf, s_pf, dn_q, kd_q, cl_q, nf_q, ln_q, tg_q, rr_q, cr_q, u_1, e_lsw, k_ti, List.drop_succ_cons, List.drop_zero, List.drop_nil, List.zip_cons_cons, List.zip_nil_right, List.zip_nil_left, List.all_cons, List.all_nil, Bool.and_true, Bool.and_self, decide_true, decide_false, Option.toList, List.cons_append, List.nil_append, List.append_nil, DX8_pack_0, DX8_pack_1, DX8_pack_2, DX8_pack_3, DX8_pack_4, FLX8, LDX8, mS_1, mS_2, uX_1, uX_2, hT, x_le (a := M.length) (b := k) (by omega) (by omega), x_cl (a := k) (by omega), x_in (a := k) (n := 4000) (by omega), hlt, nI_1]
    refine ⟨fun h => by omega, fun _ => ⟨by omega, by omega, ?_⟩⟩
    rw [e]
    exact h9
end
abbrev pkT (T S : pS) (f : Nat) : pS := uX (uX (t0 T) 50 (bX (inC S f) (f + 1) (T.1 50 0))) 62 (ncX (inC S f) (f + 1) (T.1 62 0))
abbrev pkU (T S : pS) (f : Nat) (w : Int32) : pS := mS (uX (uI (uI (pkT T S f) 30 0 35 (if w = 0 then 1 else 2)) 30 0 36 (nI (pkB S f).length)) 68 (cyX (pkB S f) (pkB S f).length (T.1 68 0))) (pkB S f)
def pckM (T S : pS) (n : Nat) (x w : Int32) : pS := if ¬ S.1 11 0 1 = 0 then t0 T else if inr x n = false then t0 T else pkU T S (nN x) w
set_option maxHeartbeats 4000000 in
set_option maxRecDepth 100000 in
theorem m_X8_pack (l : Launch) (A : pA) (T S : pS) {n b : Nat} (hB : wfB S n) (hD : rD T S) (hR : rB T S n) (hkd : ∀ i, i < n → ∃ a : Nat, a < 4 ∧ S.1 6 i 0 = nI a) (x w : Int32) : e_MX8_pack l [.ref (ad A 30 0), .int x, .int w] (gS A T) (s_P A (isP ((pckC S n b x w).1, pckM T S n x w))) := by
  have hn := hB.2.1
  refine ofX8_pack (Nat.le_of_ble_eq_true rfl) ?_
  intro V C Rt
  unfold rD at hD
  refine srnX8_pack C Rt [] 20 ?_
  simp only [k_i, s_go, s_1, e_op, e_pi, e_pl, e_pr, e_p0, e_li, e_ll, e_lr, e_lk, e_ins, e_rm, e_to, e_sw, e_cmp, k_c, k_n, k_f, k_v, k_lg, ↓reduceIte, reduceCtorEq, Nat.reduceAdd, Nat.reduceSub, Nat.reduceMul, Nat.reduceEqDiff, Nat.reduceLT, Nat.reduceLeDiff, Int.reduceAdd, Int.reduceSub, Int.reduceNeg, Int.reduceLE, Int.reduceLT, Int.reduceToNat, Int.reduceEq, Int.cast_ofNat_Int, List.mem_cons, List.not_mem_nil, List.length_cons, List.length_nil, List.set_cons_zero, List.set_cons_succ, List.toList_toArray, eq_self, true_and, and_true, and_self, or_true, true_or, false_or, or_false, or_self, not_true_eq_false, not_false_eq_true, Classical.not_not, true_implies, false_implies, implies_true, forall_const, and_false, false_and, Nat.le_refl, Nat.zero_le, Bool.false_eq_true, lv_args, s_rl_at, s_gf, s_pf, dn_q, kd_q, cl_q, nf_q, ln_q, tg_q, rr_q, cr_q, u_1, e_lsw, k_ti, List.drop_succ_cons, List.drop_zero, List.drop_nil, List.zip_cons_cons, List.zip_nil_right, List.zip_nil_left, List.all_cons, List.all_nil, Bool.and_true, Bool.and_self, decide_true, decide_false, Option.toList, List.cons_append, List.nil_append, List.append_nil, DX8_pack_0, DX8_pack_1, DX8_pack_2, DX8_pack_3, DX8_pack_4, FLX8, LDX8, hD]
  refine ⟨fun hd => ?_, fun hd => by simp [isP, pckC, pckM, hd]⟩
  refine sX8_pack_17 C (m_X8_isFact l A (t0 T) hn hR.1 x) (s_obj (show 0 < 1 by decide) rfl) (hcat := Nat.le_of_ble_eq_true rfl) (k := ?_)
  rintro v2 G2 ⟨S2, rfl, rfl, rfl⟩
  cases hx : inr x n with
  | false =>
    refine srnX8_pack C Rt [] 40 ?_
    simp only [k_i, s_go, s_1, e_op, e_pi, e_pl, e_pr, e_p0, e_li, e_ll, e_lr, e_lk, e_ins, e_rm, e_to, e_sw, e_cmp, k_c, k_n, k_f, k_v, k_lg, ↓reduceIte, reduceCtorEq, Nat.reduceAdd, Nat.reduceSub, Nat.reduceMul, Nat.reduceEqDiff, Nat.reduceLT, Nat.reduceLeDiff, Int.reduceAdd, Int.reduceSub, Int.reduceNeg, Int.reduceLE, Int.reduceLT, Int.reduceToNat, Int.reduceEq, Int.cast_ofNat_Int, List.mem_cons, List.not_mem_nil, List.length_cons, List.length_nil, List.set_cons_zero, List.set_cons_succ, List.toList_toArray, eq_self, true_and, and_true, and_self, or_true, true_or, false_or, or_false, or_self, not_true_eq_false, not_false_eq_true, Classical.not_not, true_implies, false_implies, implies_true, forall_const, and_false, false_and, Nat.le_refl, Nat.zero_le, Bool.false_eq_true, lv_args, s_rl_at, s_gf, s_pf, dn_q, kd_q, cl_q, nf_q, ln_q, tg_q, rr_q, cr_q, u_1, e_lsw, k_ti, List.drop_succ_cons, List.drop_zero, List.drop_nil, List.zip_cons_cons, List.zip_nil_right, List.zip_nil_left, List.all_cons, List.all_nil, Bool.and_true, Bool.and_self, decide_true, decide_false, Option.toList, List.cons_append, List.nil_append, List.append_nil, DX8_pack_0, DX8_pack_1, DX8_pack_2, DX8_pack_3, DX8_pack_4, FLX8, LDX8, b2i_f]
    simp [isP, pckC, pckM, hd, hx]
  | true =>
    obtain ⟨f, hf, rfl⟩ := inr_of (by omega) hx
    have eN := nN_nI (show f < 2147483648 by omega)
    have hlen : (pkA S f).length ≤ 50 * (f + 1) + 1 := pkL_len fun j hj => by
      unfold prw
      rw [rwB_len]
      have h3 := (hB.2.2 j (by omega)).2.1
      have h4 := (hB.2.2 j (by omega)).2.2.2.1
      omega
    have hl2 : (pkB S f).length = (pkA S f).length + 1 := by simp [pkB, nb_len]
    refine srnX8_pack C Rt [27] 40 ?_
    simp only [k_i, s_go, s_1, e_op, e_pi, e_pl, e_pr, e_p0, e_li, e_ll, e_lr, e_lk, e_ins, e_rm, e_to, e_sw, e_cmp, k_c, k_n, k_f, k_v, k_lg, ↓reduceIte, reduceCtorEq, Nat.reduceAdd, Nat.reduceSub, Nat.reduceMul, Nat.reduceEqDiff, Nat.reduceLT, Nat.reduceLeDiff, Int.reduceAdd, Int.reduceSub, Int.reduceNeg, Int.reduceLE, Int.reduceLT, Int.reduceToNat, Int.reduceEq, Int.cast_ofNat_Int, List.mem_cons, List.not_mem_nil, List.length_cons, List.length_nil, List.set_cons_zero, List.set_cons_succ, List.toList_toArray, eq_self, true_and, and_true, and_self, or_true, true_or, false_or, or_false, or_self, not_true_eq_false, not_false_eq_true, Classical.not_not, true_implies, false_implies, implies_true, forall_const, and_false, false_and, Nat.le_refl, Nat.zero_le, Bool.false_eq_true, lv_args, s_rl_at, s_gf, s_pf, dn_q, kd_q, cl_q, nf_q, ln_q, tg_q, rr_q, cr_q, u_1, e_lsw, k_ti, List.drop_succ_cons, List.drop_zero, List.drop_nil, List.zip_cons_cons, List.zip_nil_right, List.zip_nil_left, List.all_cons, List.all_nil, Bool.and_true, Bool.and_self, decide_true, decide_false, Option.toList, List.cons_append, List.nil_append, List.append_nil, DX8_pack_0, DX8_pack_1, DX8_pack_2, DX8_pack_3, DX8_pack_4, FLX8, LDX8, b2i_t]
    have h7 := lp_X8_pack1 (T := t0 T) (g := T.1 50 0) (w := w) C Rt (show f < 60 by omega) ?_ (f + 1) 0 (by omega)
    · rw [uX_id (fun j => by simp [bX]; rfl)] at h7
      exact h7
    · refine srnX8_pack C Rt [56] 40 ?_
      simp only [k_i, s_go, s_1, e_op, e_pi, e_pl, e_pr, e_p0, e_li, e_ll, e_lr, e_lk, e_ins, e_rm, e_to, e_sw, e_cmp, k_c, k_n, k_f, k_v, k_lg, ↓reduceIte, reduceCtorEq, Nat.reduceAdd, Nat.reduceSub, Nat.reduceMul, Nat.reduceEqDiff, Nat.reduceLT, Nat.reduceLeDiff, Int.reduceAdd, Int.reduceSub, Int.reduceNeg, Int.reduceLE, Int.reduceLT, Int.reduceToNat, Int.reduceEq, Int.cast_ofNat_Int, List.mem_cons, List.not_mem_nil, List.length_cons, List.length_nil, List.set_cons_zero, List.set_cons_succ, List.toList_toArray, eq_self, true_and, and_true, and_self, or_true, true_or, false_or, or_false, or_self, not_true_eq_false, not_false_eq_true, Classical.not_not, true_implies, false_implies, implies_true, forall_const, and_false, false_and, Nat.le_refl, Nat.zero_le, Bool.false_eq_true, lv_args, s_rl_at, s_gf, s_pf, dn_q, kd_q, cl_q, nf_q, ln_q, tg_q, rr_q, cr_q, u_1, e_lsw, k_ti, List.drop_succ_cons, List.drop_zero, List.drop_nil, List.zip_cons_cons, List.zip_nil_right, List.zip_nil_left, List.all_cons, List.all_nil, Bool.and_true, Bool.and_self, decide_true, decide_false, Option.toList, List.cons_append, List.nil_append, List.append_nil, DX8_pack_0, DX8_pack_1, DX8_pack_2, DX8_pack_3, DX8_pack_4, FLX8, LDX8]
      have hF2 : ∀ i, i < n → rF (t0 T) S i := fun i hi => rF_uI (by omega) (hR.2 i hi)
      have h8 := lp_X8_pack3 (T := t0 T) (S := S) (g := T.1 50 0) (w := w) C Rt hB hf hF2 (inC S f) ?_ (f + 1) (fun j => decide (j = f)) (Nat.le_refl _) rfl
      · rw [nI_pred] at h8
        exact h8
      · refine srnX8_pack C Rt [140] 40 ?_
        simp only [k_i, s_go, s_1, e_op, e_pi, e_pl, e_pr, e_p0, e_li, e_ll, e_lr, e_lk, e_ins, e_rm, e_to, e_sw, e_cmp, k_c, k_n, k_f, k_v, k_lg, ↓reduceIte, reduceCtorEq, Nat.reduceAdd, Nat.reduceSub, Nat.reduceMul, Nat.reduceEqDiff, Nat.reduceLT, Nat.reduceLeDiff, Int.reduceAdd, Int.reduceSub, Int.reduceNeg, Int.reduceLE, Int.reduceLT, Int.reduceToNat, Int.reduceEq, Int.cast_ofNat_Int, List.mem_cons, List.not_mem_nil, List.length_cons, List.length_nil, List.set_cons_zero, List.set_cons_succ, List.toList_toArray, eq_self, true_and, and_true, and_self, or_true, true_or, false_or, or_false, or_self, not_true_eq_false, not_false_eq_true, Classical.not_not, true_implies, false_implies, implies_true, forall_const, and_false, false_and, Nat.le_refl, Nat.zero_le, Bool.false_eq_true, lv_args, s_rl_at, s_gf, s_pf, dn_q, kd_q, cl_q, nf_q, ln_q, tg_q, rr_q, cr_q, u_1, e_lsw, k_ti, List.drop_succ_cons, List.drop_zero, List.drop_nil, List.zip_cons_cons, List.zip_nil_right, List.zip_nil_left, List.all_cons, List.all_nil, Bool.and_true, Bool.and_self, decide_true, decide_false, Option.toList, List.cons_append, List.nil_append, List.append_nil, DX8_pack_0, DX8_pack_1, DX8_pack_2, DX8_pack_3, DX8_pack_4, FLX8, LDX8]
        have hc : cnt (inC S f) (f + 1) < 256 := by have := cnt_le (inC S f) (f + 1); omega
        have h9 := lp_X8_pack4 (T := uX (t0 T) 50 (bX (inC S f) (f + 1) (T.1 50 0))) (g := T.1 62 0) (w := w) (W := inC S f) C Rt (show f < 60 by omega) (fun j hj => by show bX (inC S f) (f + 1) (T.1 50 0) j = _; unfold bX; rw [if_pos (by omega)]) ?_ (f + 1) 0 (by omega)
        · rw [uX_id (T := uX (t0 T) 50 _) (fun j => by simp [ncX]; rfl)] at h9
          exact h9
        · refine srnX8_pack C Rt [193] 40 ?_
          simp only [k_i, s_go, s_1, e_op, e_pi, e_pl, e_pr, e_p0, e_li, e_ll, e_lr, e_lk, e_ins, e_rm, e_to, e_sw, e_cmp, k_c, k_n, k_f, k_v, k_lg, ↓reduceIte, reduceCtorEq, Nat.reduceAdd, Nat.reduceSub, Nat.reduceMul, Nat.reduceEqDiff, Nat.reduceLT, Nat.reduceLeDiff, Int.reduceAdd, Int.reduceSub, Int.reduceNeg, Int.reduceLE, Int.reduceLT, Int.reduceToNat, Int.reduceEq, Int.cast_ofNat_Int, List.mem_cons, List.not_mem_nil, List.length_cons, List.length_nil, List.set_cons_zero, List.set_cons_succ, List.toList_toArray, eq_self, true_and, and_true, and_self, or_true, true_or, false_or, or_false, or_self, not_true_eq_false, not_false_eq_true, Classical.not_not, true_implies, false_implies, implies_true, forall_const, and_false, false_and, Nat.le_refl, Nat.zero_le, Bool.false_eq_true, lv_args, s_rl_at, s_gf, s_pf, dn_q, kd_q, cl_q, nf_q, ln_q, tg_q, rr_q, cr_q, u_1, e_lsw, k_ti, List.drop_succ_cons, List.drop_zero, List.drop_nil, List.zip_cons_cons, List.zip_nil_right, List.zip_nil_left, List.all_cons, List.all_nil, Bool.and_true, Bool.and_self, decide_true, decide_false, Option.toList, List.cons_append, List.nil_append, List.append_nil, DX8_pack_0, DX8_pack_1, DX8_pack_2, DX8_pack_3, DX8_pack_4, FLX8, LDX8]
          rw [mS_0]
          refine sX8_pack_187 C (m_X8_make1 l A (pkT T S f) (bs := []) (by decide) hc rfl) (s_obj (show 0 < 1 by decide) rfl) (hcat := Nat.le_of_ble_eq_true rfl) (k := ?_)
          rintro v2 G2 ⟨S2, rfl, rfl, rfl⟩
          refine srnX8_pack C Rt [193] 40 ?_
          simp only [k_i, s_go, s_1, e_op, e_pi, e_pl, e_pr, e_p0, e_li, e_ll, e_lr, e_lk, e_ins, e_rm, e_to, e_sw, e_cmp, k_c, k_n, k_f, k_v, k_lg, ↓reduceIte, reduceCtorEq, Nat.reduceAdd, Nat.reduceSub, Nat.reduceMul, Nat.reduceEqDiff, Nat.reduceLT, Nat.reduceLeDiff, Int.reduceAdd, Int.reduceSub, Int.reduceNeg, Int.reduceLE, Int.reduceLT, Int.reduceToNat, Int.reduceEq, Int.cast_ofNat_Int, List.mem_cons, List.not_mem_nil, List.length_cons, List.length_nil, List.set_cons_zero, List.set_cons_succ, List.toList_toArray, eq_self, true_and, and_true, and_self, or_true, true_or, false_or, or_false, or_self, not_true_eq_false, not_false_eq_true, Classical.not_not, true_implies, false_implies, implies_true, forall_const, and_false, false_and, Nat.le_refl, Nat.zero_le, Bool.false_eq_true, lv_args, s_rl_at, s_gf, s_pf, dn_q, kd_q, cl_q, nf_q, ln_q, tg_q, rr_q, cr_q, u_1, e_lsw, k_ti, List.drop_succ_cons, List.drop_zero, List.drop_nil, List.zip_cons_cons, List.zip_nil_right, List.zip_nil_left, List.all_cons, List.all_nil, Bool.and_true, Bool.and_self, decide_true, decide_false, Option.toList, List.cons_append, List.nil_append, List.append_nil, DX8_pack_0, DX8_pack_1, DX8_pack_2, DX8_pack_3, DX8_pack_4, FLX8, LDX8]
          have hF3 : ∀ i, i < n → rF (pkT T S f) S i := fun i hi => rF_uX (by omega) (rF_uX (by omega) (hF2 i hi))
          refine lp_X8_pack5 (T := pkT T S f) (S := S) (W := inC S f) (m := cnt (inC S f) (f + 1)) C Rt hB hf hF3 hkd (fun j hj => by show bX (inC S f) (f + 1) (T.1 50 0) j = _; unfold bX; rw [if_pos (by omega)]) (fun j hj => by show ncX (inC S f) (f + 1) (T.1 62 0) j = _; unfold ncX; rw [if_pos (by omega)]) ?_ (f + 1) 0 (by omega)
          refine srnX8_pack C Rt [229] 40 ?_
          simp only [k_i, s_go, s_1, e_op, e_pi, e_pl, e_pr, e_p0, e_li, e_ll, e_lr, e_lk, e_ins, e_rm, e_to, e_sw, e_cmp, k_c, k_n, k_f, k_v, k_lg, ↓reduceIte, reduceCtorEq, Nat.reduceAdd, Nat.reduceSub, Nat.reduceMul, Nat.reduceEqDiff, Nat.reduceLT, Nat.reduceLeDiff, Int.reduceAdd, Int.reduceSub, Int.reduceNeg, Int.reduceLE, Int.reduceLT, Int.reduceToNat, Int.reduceEq, Int.cast_ofNat_Int, List.mem_cons, List.not_mem_nil, List.length_cons, List.length_nil, List.set_cons_zero, List.set_cons_succ, List.toList_toArray, eq_self, true_and, and_true, and_self, or_true, true_or, false_or, or_false, or_self, not_true_eq_false, not_false_eq_true, Classical.not_not, true_implies, false_implies, implies_true, forall_const, and_false, false_and, Nat.le_refl, Nat.zero_le, Bool.false_eq_true, lv_args, s_rl_at, s_gf, s_pf, dn_q, kd_q, cl_q, nf_q, ln_q, tg_q, rr_q, cr_q, u_1, e_lsw, k_ti, List.drop_succ_cons, List.drop_zero, List.drop_nil, List.zip_cons_cons, List.zip_nil_right, List.zip_nil_left, List.all_cons, List.all_nil, Bool.and_true, Bool.and_self, decide_true, decide_false, Option.toList, List.cons_append, List.nil_append, List.append_nil, DX8_pack_0, DX8_pack_1, DX8_pack_2, DX8_pack_3, DX8_pack_4, FLX8, LDX8]
          have h6 := lp_X8_pack6 (T := pkT T S f) (f := f) (w := w) (lc := nI (cnt (inC S f) (f + 1))) (X := pkA S f) C Rt (by omega) ?_ (pkA S f).length 0 (by omega)
          · simp only [List.take_zero] at h6
            exact h6
          · refine srnX8_pack C Rt [293] 40 ?_
            simp only [k_i, s_go, s_1, e_op, e_pi, e_pl, e_pr, e_p0, e_li, e_ll, e_lr, e_lk, e_ins, e_rm, e_to, e_sw, e_cmp, k_c, k_n, k_f, k_v, k_lg, ↓reduceIte, reduceCtorEq, Nat.reduceAdd, Nat.reduceSub, Nat.reduceMul, Nat.reduceEqDiff, Nat.reduceLT, Nat.reduceLeDiff, Int.reduceAdd, Int.reduceSub, Int.reduceNeg, Int.reduceLE, Int.reduceLT, Int.reduceToNat, Int.reduceEq, Int.cast_ofNat_Int, List.mem_cons, List.not_mem_nil, List.length_cons, List.length_nil, List.set_cons_zero, List.set_cons_succ, List.toList_toArray, eq_self, true_and, and_true, and_self, or_true, true_or, false_or, or_false, or_self, not_true_eq_false, not_false_eq_true, Classical.not_not, true_implies, false_implies, implies_true, forall_const, and_false, false_and, Nat.le_refl, Nat.zero_le, Bool.false_eq_true, lv_args, s_rl_at, s_gf, s_pf, dn_q, kd_q, cl_q, nf_q, ln_q, tg_q, rr_q, cr_q, u_1, e_lsw, k_ti, List.drop_succ_cons, List.drop_zero, List.drop_nil, List.zip_cons_cons, List.zip_nil_right, List.zip_nil_left, List.all_cons, List.all_nil, Bool.and_true, Bool.and_self, decide_true, decide_false, Option.toList, List.cons_append, List.nil_append, List.append_nil, DX8_pack_0, DX8_pack_1, DX8_pack_2, DX8_pack_3, DX8_pack_4, FLX8, LDX8]
            have hmk := m_X8_make l A (pkT T S f) (n := 1) (bs := pkA S f) (by decide) (by omega) (sws 7 (pkA S f) &&& 255)
            rw [nb_255] at hmk
            refine sX8_pack_266 C hmk (s_obj (show 0 < 1 by decide) rfl) (hcat := Nat.le_of_ble_eq_true rfl) (k := ?_)
            rintro v2 G2 ⟨S2, rfl, rfl, rfl⟩
            have fin : ∀ kk : Int32, kk = (if w = 0 then 1 else 2) → V 0 0 293 [(0, .ref (ad A 30 0)), (1, .int (nI f)), (2, .int w), (3, .int (nI (cnt (inC S f) (f + 1)))), (4, .long (sws 7 (pkA S f))), (6, .int 0)] [] (gS A (uI (uI (mS (pkT T S f) (pkB S f)) 30 0 35 kk) 30 0 36 (nI (pkB S f).length))) := by
              intro kk hkk
              rw [mS_u3 (by decide), mS_u3 (by decide)]
              have h5 := lp_X8_pack7 (T := uI (uI (pkT T S f) 30 0 35 kk) 30 0 36 (nI (pkB S f).length)) (f := f) (w := w) (lc := nI (cnt (inC S f) (f + 1))) (σ := sws 7 (pkA S f)) (M := pkB S f) (g := T.1 68 0) C Rt (by omega) rfl ?_ (pkB S f).length 0 (by omega)
              · rw [uX_id (fun j => by simp [cyX]; rfl)] at h5
                exact h5
              · simp only [isP, pckC, pckM, hd, hx, eN, hkk]
                exact ⟨rfl, rfl⟩
            refine srnX8_pack C Rt [293] 40 ?_
            simp only [k_i, s_go, s_1, e_op, e_pi, e_pl, e_pr, e_p0, e_li, e_ll, e_lr, e_lk, e_ins, e_rm, e_to, e_sw, e_cmp, k_c, k_n, k_f, k_v, k_lg, ↓reduceIte, reduceCtorEq, Nat.reduceAdd, Nat.reduceSub, Nat.reduceMul, Nat.reduceEqDiff, Nat.reduceLT, Nat.reduceLeDiff, Int.reduceAdd, Int.reduceSub, Int.reduceNeg, Int.reduceLE, Int.reduceLT, Int.reduceToNat, Int.reduceEq, Int.cast_ofNat_Int, List.mem_cons, List.not_mem_nil, List.length_cons, List.length_nil, List.set_cons_zero, List.set_cons_succ, List.toList_toArray, eq_self, true_and, and_true, and_self, or_true, true_or, false_or, or_false, or_self, not_true_eq_false, not_false_eq_true, Classical.not_not, true_implies, false_implies, implies_true, forall_const, and_false, false_and, Nat.le_refl, Nat.zero_le, Bool.false_eq_true, lv_args, s_rl_at, s_gf, s_pf, dn_q, kd_q, cl_q, nf_q, ln_q, tg_q, rr_q, cr_q, u_1, e_lsw, k_ti, List.drop_succ_cons, List.drop_zero, List.drop_nil, List.zip_cons_cons, List.zip_nil_right, List.zip_nil_left, List.all_cons, List.all_nil, Bool.and_true, Bool.and_self, decide_true, decide_false, Option.toList, List.cons_append, List.nil_append, List.append_nil, DX8_pack_0, DX8_pack_1, DX8_pack_2, DX8_pack_3, DX8_pack_4, FLX8, LDX8, mS_1, mS_2]
            refine ⟨fun h => fin 1 (by simp [h]), fun h => fin 2 (by simp [h])⟩
