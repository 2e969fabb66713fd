/-! FactLog$Reader: ρ = (at, failed, sum) over items d with end e; all that reads is idle once it has failed -/
abbrev pR : Type := Nat × Bool × Int64
def nxt (d : Nat → Int32) (e : Nat) (most : Int32) (ρ : pR) : Int32 × pR := if ρ.2.1 = true ∨ e ≤ ρ.1 ∨ d ρ.1 < 0 ∨ most < d ρ.1 then (0, (ρ.1, true, ρ.2.2)) else (d ρ.1, (ρ.1 + 1, false, sw ρ.2.2 (d ρ.1)))
def num (d : Nat → Int32) (e : Nat) : Nat → Int64 → pR → Int64 × pR
  | 0, v, ρ => (v, ρ)
  | k + 1, v, ρ => num d e k (v <<< ((8 : Int32).toInt64 &&& 63) ||| (nxt d e 255 ρ).1.toInt64) (nxt d e 255 ρ).2
def unl (d : Nat → Int32) (e : Nat) (most : Int32) (f : Nat → Int32) (n : Nat) (ρ : pR) : Int32 × pR := if ρ.1 < e ∧ am f (d ρ.1) n = true then nxt d e most (ρ.1, true, ρ.2.2) else nxt d e most ρ
def xpc (d : Nat → Int32) (e : Nat) (b : Int32) (ρ : pR) : pR := if ρ.2.1 = true ∨ e ≤ ρ.1 ∨ ¬ d ρ.1 = b then (ρ.1, true, ρ.2.2) else (ρ.1 + 1, false, ρ.2.2)
def xps (d : Nat → Int32) (e : Nat) (σ : Int64) : Nat → pR → pR
  | 0, ρ => ρ
  | k + 1, ρ => xps d e σ k (xpc d e (e_ushr σ (nI (8 * k)) &&& 255).toInt32 ρ)
theorem nxt_le {d : Nat → Int32} {e : Nat} {m : Int32} {ρ : pR} (h : ρ.1 ≤ e) : (nxt d e m ρ).2.1 ≤ e := by
  unfold nxt
  split
  · exact h
  · rename_i h2
    have h3 : ¬ e ≤ ρ.1 := fun z => h2 (Or.inr (Or.inl z))
    show ρ.1 + 1 ≤ e
    omega
theorem num_le {d : Nat → Int32} {e : Nat} : ∀ {k : Nat} {v : Int64} {ρ : pR}, ρ.1 ≤ e → (num d e k v ρ).2.1 ≤ e
  | 0, _, _, h => h
  | k + 1, _, _, h => num_le (k := k) (nxt_le h)
theorem unl_le {d : Nat → Int32} {e : Nat} {m : Int32} {f : Nat → Int32} {n : Nat} {ρ : pR} (h : ρ.1 ≤ e) : (unl d e m f n ρ).2.1 ≤ e := by
  unfold unl
  split
  · exact nxt_le (ρ := (ρ.1, true, ρ.2.2)) h
  · exact nxt_le h
theorem xpc_le {d : Nat → Int32} {e : Nat} {b : Int32} {ρ : pR} (h : ρ.1 ≤ e) : (xpc d e b ρ).1 ≤ e := by
  unfold xpc
  split
  · exact h
  · rename_i h2
    have h3 : ¬ e ≤ ρ.1 := fun z => h2 (Or.inr (Or.inl z))
    show ρ.1 + 1 ≤ e
    omega
theorem xps_le {d : Nat → Int32} {e : Nat} {σ : Int64} : ∀ {k : Nat} {ρ : pR}, ρ.1 ≤ e → (xps d e σ k ρ).1 ≤ e
  | 0, _, h => h
  | k + 1, _, h => xps_le (k := k) (xpc_le h)
def rS (S : pS) (ρ : pR) : pS := (fun k' i' j' => if k' = 17 ∧ i' = 0 ∧ j' = 0 then nI ρ.1 else if k' = 17 ∧ i' = 0 ∧ j' = 1 then b2i ρ.2.1 else S.1 k' i' j', fun k' i' j' => if k' = 17 ∧ i' = 0 ∧ j' = 2 then ρ.2.2 else S.2.1 k' i' j', S.2.2)
theorem rS_1 (S : pS) (ρ : pR) (k' i' j' : Nat) : (rS S ρ).1 k' i' j' = if k' = 17 ∧ i' = 0 ∧ j' = 0 then nI ρ.1 else if k' = 17 ∧ i' = 0 ∧ j' = 1 then b2i ρ.2.1 else S.1 k' i' j' := rfl
theorem rS_2 (S : pS) (ρ : pR) (k' i' j' : Nat) : (rS S ρ).2.1 k' i' j' = if k' = 17 ∧ i' = 0 ∧ j' = 2 then ρ.2.2 else S.2.1 k' i' j' := rfl
theorem rS_3 (S : pS) (ρ : pR) : (rS S ρ).2.2 = S.2.2 := rfl
theorem rS_f {S : pS} {a : Nat} {f : Bool} {σ : Int64} : uI (rS S (a, f, σ)) 17 0 1 1 = rS S (a, true, σ) := by
  refine Prod.ext ?_ rfl
  funext k' i' j'
  simp only [u_1, rS_1]
  by_cases h0 : k' = 17 ∧ i' = 0 ∧ j' = 0
  · obtain ⟨rfl, rfl, rfl⟩ := h0
    simp
  · by_cases h1 : k' = 17 ∧ i' = 0 ∧ j' = 1
    · simp [h1, b2i]
    · simp [h0, h1]
theorem rS_a {S : pS} {a a' : Nat} {f : Bool} {σ : Int64} : uI (rS S (a, f, σ)) 17 0 0 (nI a') = rS S (a', f, σ) := by
  refine Prod.ext ?_ rfl
  funext k' i' j'
  simp only [u_1, rS_1]
  by_cases h0 : k' = 17 ∧ i' = 0 ∧ j' = 0
  · simp [h0]
  · simp [h0]
theorem rS_s {S : pS} {a : Nat} {f : Bool} {σ σ' : Int64} : uJ (rS S (a, f, σ)) 17 0 2 σ' = rS S (a, f, σ') := by
  refine Prod.ext rfl (Prod.ext ?_ rfl)
  funext k' i' j'
  simp only [u_1, rS_2]
  by_cases h0 : k' = 17 ∧ i' = 0 ∧ j' = 2
  · simp [h0]
  · simp [h0]
/-- what the reader reads -/
def rQ (S : pS) (qk qi e : Nat) : Prop := S.2.2 17 0 4 = (qk, qi) ∧ kd qk = 2 ∧ qi < dn qk ∧ ln qk ≤ 4000 ∧ (qk = 12 ∨ qk = 21) ∧ S.1 17 0 3 = nI e ∧ e ≤ ln qk
set_option maxHeartbeats 4000000 in
set_option maxRecDepth 100000 in
theorem m_X4_nextUpTo (l : Launch) (A : pA) (S : pS) {qk qi e : Nat} {ρ : pR} (hQ : rQ S qk qi e) (ha : ρ.1 ≤ e) (most : Int32) : e_MX4_nextUpTo l [.ref (ad A 17 0), .int most] (gS A (rS S ρ)) (s_P A (fun v S2 => S2 = rS S (nxt (S.1 qk qi) e most ρ).2 ∧ v = some (.int (nxt (S.1 qk qi) e most ρ).1))) := by
  obtain ⟨a, f, σ⟩ := ρ
  obtain ⟨hq, hk, hi, hln, hor, he, hel⟩ := hQ
  have hne : ¬ qk = 17 := by omega
  have ha' : a ≤ e := ha
  refine ofX4_nextUpTo (Nat.le_of_ble_eq_true rfl) ?_
  intro V C Rt
  cases f with
  | true =>
    refine srnX4_nextUpTo C Rt [50] 60 ?_
    simp only [k_i, s_go, s_1, e_op, e_pi, e_pl, e_pr, e_p0, e_li, e_ll, e_lr, e_lk, e_ins, e_rm, e_to, e_sw, e_cmp, k_c, k_n, k_f, k_v, k_lg, ↓reduceIte, reduceCtorEq, Nat.reduceAdd, Nat.reduceSub, Nat.reduceMul, Nat.reduceEqDiff, Nat.reduceLT, Nat.reduceLeDiff, Int.reduceAdd, Int.reduceSub, Int.reduceNeg, Int.reduceLE, Int.reduceLT, Int.reduceToNat, Int.reduceEq, Int.cast_ofNat_Int, List.mem_cons, List.not_mem_nil, List.length_cons, List.length_nil, List.set_cons_zero, List.set_cons_succ, List.toList_toArray, eq_self, true_and, and_true, and_self, or_true, true_or, false_or, or_false, or_self, not_true_eq_false, not_false_eq_true, Classical.not_not, true_implies, false_implies, implies_true, forall_const, and_false, false_and, Nat.le_refl, Nat.zero_le, Bool.false_eq_true, lv_args, s_rl_at, s_gf, s_pf, dn_q, kd_q, cl_q, nf_q, ln_q, tg_q, rr_q, cr_q, u_1, e_lsw, k_ti, List.drop_succ_cons, List.drop_zero, List.drop_nil, List.zip_cons_cons, List.zip_nil_right, List.zip_nil_left, List.all_cons, List.all_nil, Bool.and_true, Bool.and_self, decide_true, decide_false, Option.toList, List.cons_append, List.nil_append, List.append_nil, DX4_nextUpTo_0, DX4_nextUpTo_1, FLX4, LDX4, rS_1, rS_2, rS_3, hq, hk, hi, b2i_t]
    rw [rS_f]
    simp [nxt]
  | false =>
    refine srnX4_nextUpTo C Rt [50] 60 ?_
    simp only [k_i, s_go, s_1, e_op, e_pi, e_pl, e_pr, e_p0, e_li, e_ll, e_lr, e_lk, e_ins, e_rm, e_to, e_sw, e_cmp, k_c, k_n, k_f, k_v, k_lg, ↓reduceIte, reduceCtorEq, Nat.reduceAdd, Nat.reduceSub, Nat.reduceMul, Nat.reduceEqDiff, Nat.reduceLT, Nat.reduceLeDiff, Int.reduceAdd, Int.reduceSub, Int.reduceNeg, Int.reduceLE, Int.reduceLT, Int.reduceToNat, Int.reduceEq, Int.cast_ofNat_Int, List.mem_cons, List.not_mem_nil, List.length_cons, List.length_nil, List.set_cons_zero, List.set_cons_succ, List.toList_toArray, eq_self, true_and, and_true, and_self, or_true, true_or, false_or, or_false, or_self, not_true_eq_false, not_false_eq_true, Classical.not_not, true_implies, false_implies, implies_true, forall_const, and_false, false_and, Nat.le_refl, Nat.zero_le, Bool.false_eq_true, lv_args, s_rl_at, s_gf, s_pf, dn_q, kd_q, cl_q, nf_q, ln_q, tg_q, rr_q, cr_q, u_1, e_lsw, k_ti, List.drop_succ_cons, List.drop_zero, List.drop_nil, List.zip_cons_cons, List.zip_nil_right, List.zip_nil_left, List.all_cons, List.all_nil, Bool.and_true, Bool.and_self, decide_true, decide_false, Option.toList, List.cons_append, List.nil_append, List.append_nil, DX4_nextUpTo_0, DX4_nextUpTo_1, FLX4, LDX4, rS_1, rS_2, rS_3, hq, hk, hi, b2i_f, hne, he, x_le (a := e) (b := a) (by omega) (by omega), x_cl (a := a) (by omega), x_in (a := a) (n := ln qk) (by omega)]
    refine ⟨fun h => ?_, fun h => ⟨by omega, fun h2 => ?_, fun h2 => ⟨by omega, fun h3 => ?_, fun h3 => ?_⟩⟩⟩
    · rw [rS_f]
      simp [nxt, h]
    · rw [rS_f]
      simp [nxt, h2]
    · refine srnX4_nextUpTo C Rt [] 60 ?_
      simp only [k_i, s_go, s_1, e_op, e_pi, e_pl, e_pr, e_p0, e_li, e_ll, e_lr, e_lk, e_ins, e_rm, e_to, e_sw, e_cmp, k_c, k_n, k_f, k_v, k_lg, ↓reduceIte, reduceCtorEq, Nat.reduceAdd, Nat.reduceSub, Nat.reduceMul, Nat.reduceEqDiff, Nat.reduceLT, Nat.reduceLeDiff, Int.reduceAdd, Int.reduceSub, Int.reduceNeg, Int.reduceLE, Int.reduceLT, Int.reduceToNat, Int.reduceEq, Int.cast_ofNat_Int, List.mem_cons, List.not_mem_nil, List.length_cons, List.length_nil, List.set_cons_zero, List.set_cons_succ, List.toList_toArray, eq_self, true_and, and_true, and_self, or_true, true_or, false_or, or_false, or_self, not_true_eq_false, not_false_eq_true, Classical.not_not, true_implies, false_implies, implies_true, forall_const, and_false, false_and, Nat.le_refl, Nat.zero_le, Bool.false_eq_true, lv_args, s_rl_at, s_gf, s_pf, dn_q, kd_q, cl_q, nf_q, ln_q, tg_q, rr_q, cr_q, u_1, e_lsw, k_ti, List.drop_succ_cons, List.drop_zero, List.drop_nil, List.zip_cons_cons, List.zip_nil_right, List.zip_nil_left, List.all_cons, List.all_nil, Bool.and_true, Bool.and_self, decide_true, decide_false, Option.toList, List.cons_append, List.nil_append, List.append_nil, DX4_nextUpTo_0, DX4_nextUpTo_1, FLX4, LDX4, rS_1, rS_2, rS_3, hq, hk, hi, hne, x_cl (a := a) (by omega), x_in (a := a) (n := ln qk) (by omega)]
      refine ⟨by omega, ?_⟩
      refine sX4_nextUpTo_66 C (m_sumWith l _ σ _) (hcat := Nat.le_of_ble_eq_true rfl) (k := ?_)
      rintro v2 G2 ⟨rfl, rfl⟩
      refine srnX4_nextUpTo C Rt [] 60 ?_
      simp only [k_i, s_go, s_1, e_op, e_pi, e_pl, e_pr, e_p0, e_li, e_ll, e_lr, e_lk, e_ins, e_rm, e_to, e_sw, e_cmp, k_c, k_n, k_f, k_v, k_lg, ↓reduceIte, reduceCtorEq, Nat.reduceAdd, Nat.reduceSub, Nat.reduceMul, Nat.reduceEqDiff, Nat.reduceLT, Nat.reduceLeDiff, Int.reduceAdd, Int.reduceSub, Int.reduceNeg, Int.reduceLE, Int.reduceLT, Int.reduceToNat, Int.reduceEq, Int.cast_ofNat_Int, List.mem_cons, List.not_mem_nil, List.length_cons, List.length_nil, List.set_cons_zero, List.set_cons_succ, List.toList_toArray, eq_self, true_and, and_true, and_self, or_true, true_or, false_or, or_false, or_self, not_true_eq_false, not_false_eq_true, Classical.not_not, true_implies, false_implies, implies_true, forall_const, and_false, false_and, Nat.le_refl, Nat.zero_le, Bool.false_eq_true, lv_args, s_rl_at, s_gf, s_pf, dn_q, kd_q, cl_q, nf_q, ln_q, tg_q, rr_q, cr_q, u_1, e_lsw, k_ti, List.drop_succ_cons, List.drop_zero, List.drop_nil, List.zip_cons_cons, List.zip_nil_right, List.zip_nil_left, List.all_cons, List.all_nil, Bool.and_true, Bool.and_self, decide_true, decide_false, Option.toList, List.cons_append, List.nil_append, List.append_nil, DX4_nextUpTo_0, DX4_nextUpTo_1, FLX4, LDX4, rS_1, rS_2, rS_3, nI_1]
      rw [rS_s, rS_a]
      have hc : ¬ (e ≤ a ∨ S.1 qk qi a < 0 ∨ most < S.1 qk qi a) := by
        rintro (z | z | z)
        · exact h z
        · exact h2 z
        · exact absurd h3 (Int32.not_le.mpr z)
      simp [nxt, hc]
    · have h4 : most < S.1 qk qi a := Int32.not_le.mp h3
      rw [rS_f]
      simp [nxt, h4]
section
variable {V : pV} {l : Launch} {A : pA} {post : Option Value → pS → Prop} {S : pS}
set_option maxHeartbeats 4000000 in
set_option maxRecDepth 100000 in
theorem lp_nextNumber (C : e_CX4_nextNumber V l) (Rt : e_RX4_nextNumber V (s_P A post)) {qk qi e n : Nat} (hQ : rQ S qk qi e) (hn : n ≤ 8) : ∀ k i v ρ, i + k = n → ρ.1 ≤ e → post (some (.long (num (S.1 qk qi) e k v ρ).1)) (rS S (num (S.1 qk qi) e k v ρ).2) → V 0 0 5 [(0, .ref (ad A 17 0)), (1, .int (nI n)), (2, .long v), (4, .int (nI i))] [] (gS A (rS S ρ)) := by
  intro k
  induction k with
  | zero =>
    intro i v ρ hi ha hp
    have hi2 : i = n := by omega
    subst hi2
    refine srnX4_nextNumber C Rt [5] 40 ?_
    simp only [k_i, s_go, s_1, e_op, e_pi, e_pl, e_pr, e_p0, e_li, e_ll, e_lr, e_lk, e_ins, e_rm, e_to, e_sw, e_cmp, k_c, k_n, k_f, k_v, k_lg, ↓reduceIte, reduceCtorEq, Nat.reduceAdd, Nat.reduceSub, Nat.reduceMul, Nat.reduceEqDiff, Nat.reduceLT, Nat.reduceLeDiff, Int.reduceAdd, Int.reduceSub, Int.reduceNeg, Int.reduceLE, Int.reduceLT, Int.reduceToNat, Int.reduceEq, Int.cast_ofNat_Int, List.mem_cons, List.not_mem_nil, List.length_cons, List.length_nil, List.set_cons_zero, List.set_cons_succ, List.toList_toArray, eq_self, true_and, and_true, and_self, or_true, true_or, false_or, or_false, or_self, not_true_eq_false, not_false_eq_true, Classical.not_not, true_implies, false_implies, implies_true, forall_const, and_false, false_and, Nat.le_refl, Nat.zero_le, Bool.false_eq_true, lv_args, s_rl_at, s_gf, s_pf, dn_q, kd_q, cl_q, nf_q, ln_q, tg_q, rr_q, cr_q, u_1, e_lsw, k_ti, List.drop_succ_cons, List.drop_zero, List.drop_nil, List.zip_cons_cons, List.zip_nil_right, List.zip_nil_left, List.all_cons, List.all_nil, Bool.and_true, Bool.and_self, decide_true, decide_false, Option.toList, List.cons_append, List.nil_append, List.append_nil, DX4_nextNumber_0, FLX4, LDX4, x_le (a := i) (b := i) (by omega) (by omega)]
    exact hp
  | succ k ih =>
    intro i v ρ hi ha hp
    refine srnX4_nextNumber C Rt [5] 40 ?_
    simp only [k_i, s_go, s_1, e_op, e_pi, e_pl, e_pr, e_p0, e_li, e_ll, e_lr, e_lk, e_ins, e_rm, e_to, e_sw, e_cmp, k_c, k_n, k_f, k_v, k_lg, ↓reduceIte, reduceCtorEq, Nat.reduceAdd, Nat.reduceSub, Nat.reduceMul, Nat.reduceEqDiff, Nat.reduceLT, Nat.reduceLeDiff, Int.reduceAdd, Int.reduceSub, Int.reduceNeg, Int.reduceLE, Int.reduceLT, Int.reduceToNat, Int.reduceEq, Int.cast_ofNat_Int, List.mem_cons, List.not_mem_nil, List.length_cons, List.length_nil, List.set_cons_zero, List.set_cons_succ, List.toList_toArray, eq_self, true_and, and_true, and_self, or_true, true_or, false_or, or_false, or_self, not_true_eq_false, not_false_eq_true, Classical.not_not, true_implies, false_implies, implies_true, forall_const, and_false, false_and, Nat.le_refl, Nat.zero_le, Bool.false_eq_true, lv_args, s_rl_at, s_gf, s_pf, dn_q, kd_q, cl_q, nf_q, ln_q, tg_q, rr_q, cr_q, u_1, e_lsw, k_ti, List.drop_succ_cons, List.drop_zero, List.drop_nil, List.zip_cons_cons, List.zip_nil_right, List.zip_nil_left, List.all_cons, List.all_nil, Bool.and_true, Bool.and_self, decide_true, decide_false, Option.toList, List.cons_append, List.nil_append, List.append_nil, DX4_nextNumber_0, FLX4, LDX4, x_le (a := n) (b := i) (by omega) (by omega)]
    refine ⟨fun h => by omega, fun _ => ?_⟩
    refine sX4_nextNumber_19 C (m_X4_nextUpTo l A S hQ ha 255) (s_obj (show 0 < 1 by decide) rfl) (hcat := Nat.le_of_ble_eq_true rfl) (k := ?_)
    rintro v2 G2 ⟨S2, rfl, rfl, rfl⟩
    refine srnX4_nextNumber C Rt [5] 40 ?_
    simp only [k_i, s_go, s_1, e_op, e_pi, e_pl, e_pr, e_p0, e_li, e_ll, e_lr, e_lk, e_ins, e_rm, e_to, e_sw, e_cmp, k_c, k_n, k_f, k_v, k_lg, ↓reduceIte, reduceCtorEq, Nat.reduceAdd, Nat.reduceSub, Nat.reduceMul, Nat.reduceEqDiff, Nat.reduceLT, Nat.reduceLeDiff, Int.reduceAdd, Int.reduceSub, Int.reduceNeg, Int.reduceLE, Int.reduceLT, Int.reduceToNat, Int.reduceEq, Int.cast_ofNat_Int, List.mem_cons, List.not_mem_nil, List.length_cons, List.length_nil, List.set_cons_zero, List.set_cons_succ, List.toList_toArray, eq_self, true_and, and_true, and_self, or_true, true_or, false_or, or_false, or_self, not_true_eq_false, not_false_eq_true, Classical.not_not, true_implies, false_implies, implies_true, forall_const, and_false, false_and, Nat.le_refl, Nat.zero_le, Bool.false_eq_true, lv_args, s_rl_at, s_gf, s_pf, dn_q, kd_q, cl_q, nf_q, ln_q, tg_q, rr_q, cr_q, u_1, e_lsw, k_ti, List.drop_succ_cons, List.drop_zero, List.drop_nil, List.zip_cons_cons, List.zip_nil_right, List.zip_nil_left, List.all_cons, List.all_nil, Bool.and_true, Bool.and_self, decide_true, decide_false, Option.toList, List.cons_append, List.nil_append, List.append_nil, DX4_nextNumber_0, FLX4, LDX4, nI_1]
    exact ih (i + 1) _ _ (by omega) (nxt_le ha) hp
end
set_option maxHeartbeats 4000000 in
set_option maxRecDepth 100000 in
theorem m_X4_nextNumber (l : Launch) (A : pA) (S : pS) {qk qi e n : Nat} {ρ : pR} (hQ : rQ S qk qi e) (ha : ρ.1 ≤ e) (hn : n ≤ 8) : e_MX4_nextNumber l [.ref (ad A 17 0), .int (nI n)] (gS A (rS S ρ)) (s_P A (fun v S2 => S2 = rS S (num (S.1 qk qi) e n 0 ρ).2 ∧ v = some (.long (num (S.1 qk qi) e n 0 ρ).1))) := by
  refine ofX4_nextNumber (Nat.le_of_ble_eq_true rfl) ?_
  intro V C Rt
  refine srnX4_nextNumber C Rt [5] 5 ?_
  simp only [k_i, s_go, s_1, e_op, e_pi, e_pl, e_pr, e_p0, e_li, e_ll, e_lr, e_lk, e_ins, e_rm, e_to, e_sw, e_cmp, k_c, k_n, k_f, k_v, k_lg, ↓reduceIte, reduceCtorEq, Nat.reduceAdd, Nat.reduceSub, Nat.reduceMul, Nat.reduceEqDiff, Nat.reduceLT, Nat.reduceLeDiff, Int.reduceAdd, Int.reduceSub, Int.reduceNeg, Int.reduceLE, Int.reduceLT, Int.reduceToNat, Int.reduceEq, Int.cast_ofNat_Int, List.mem_cons, List.not_mem_nil, List.length_cons, List.length_nil, List.set_cons_zero, List.set_cons_succ, List.toList_toArray, eq_self, true_and, and_true, and_self, or_true, true_or, false_or, or_false, or_self, not_true_eq_false, not_false_eq_true, Classical.not_not, true_implies, false_implies, implies_true, forall_const, and_false, false_and, Nat.le_refl, Nat.zero_le, Bool.false_eq_true, lv_args, s_rl_at, s_gf, s_pf, dn_q, kd_q, cl_q, nf_q, ln_q, tg_q, rr_q, cr_q, u_1, e_lsw, k_ti, List.drop_succ_cons, List.drop_zero, List.drop_nil, List.zip_cons_cons, List.zip_nil_right, List.zip_nil_left, List.all_cons, List.all_nil, Bool.and_true, Bool.and_self, decide_true, decide_false, Option.toList, List.cons_append, List.nil_append, List.append_nil, DX4_nextNumber_0, FLX4, LDX4]
  exact lp_nextNumber C Rt hQ hn n 0 0 ρ (by omega) ha ⟨rfl, rfl⟩
set_option maxHeartbeats 4000000 in
set_option maxRecDepth 100000 in
theorem m_X4_nextUnlike (l : Launch) (A : pA) (S : pS) {qk qi e fk fi n : Nat} {ρ : pR} (hQ : rQ S qk qi e) (ha : ρ.1 ≤ e) (most : Int32) (hfk : fk = 7 ∨ fk = 10) (hfi : fi < 62) (hn : n ≤ ln fk) : e_MX4_nextUnlike l [.ref (ad A 17 0), .int most, .ref (ad A fk fi), .int (nI n)] (gS A (rS S ρ)) (s_P A (fun v S2 => S2 = rS S (unl (S.1 qk qi) e most (S.1 fk fi) n ρ).2 ∧ v = some (.int (unl (S.1 qk qi) e most (S.1 fk fi) n ρ).1))) := by
  have hQ0 := hQ
  obtain ⟨a, f, σ⟩ := ρ
  obtain ⟨hq, hk, hi, hln, hor, he, hel⟩ := hQ
  have hne : ¬ qk = 17 := by omega
  have ha' : a ≤ e := ha
  have hkd : kd fk = 2 := by rcases hfk with rfl | rfl <;> rfl
  have hdn : fi < dn fk := by rcases hfk with rfl | rfl <;> exact hfi
  have hl4 : ln fk ≤ 4 := by rcases hfk with rfl | rfl <;> decide
  have hrow : (rS S (a, f, σ)).1 fk fi = S.1 fk fi := by
    funext j
    have h17 : ¬ fk = 17 := by omega
    simp [rS_1, h17]
  refine ofX4_nextUnlike (Nat.le_of_ble_eq_true rfl) ?_
  intro V C Rt
  refine srnX4_nextUnlike C Rt [33] 60 ?_
  simp only [k_i, s_go, s_1, e_op, e_pi, e_pl, e_pr, e_p0, e_li, e_ll, e_lr, e_lk, e_ins, e_rm, e_to, e_sw, e_cmp, k_c, k_n, k_f, k_v, k_lg, ↓reduceIte, reduceCtorEq, Nat.reduceAdd, Nat.reduceSub, Nat.reduceMul, Nat.reduceEqDiff, Nat.reduceLT, Nat.reduceLeDiff, Int.reduceAdd, Int.reduceSub, Int.reduceNeg, Int.reduceLE, Int.reduceLT, Int.reduceToNat, Int.reduceEq, Int.cast_ofNat_Int, List.mem_cons, List.not_mem_nil, List.length_cons, List.length_nil, List.set_cons_zero, List.set_cons_succ, List.toList_toArray, eq_self, true_and, and_true, and_self, or_true, true_or, false_or, or_false, or_self, not_true_eq_false, not_false_eq_true, Classical.not_not, true_implies, false_implies, implies_true, forall_const, and_false, false_and, Nat.le_refl, Nat.zero_le, Bool.false_eq_true, lv_args, s_rl_at, s_gf, s_pf, dn_q, kd_q, cl_q, nf_q, ln_q, tg_q, rr_q, cr_q, u_1, e_lsw, k_ti, List.drop_succ_cons, List.drop_zero, List.drop_nil, List.zip_cons_cons, List.zip_nil_right, List.zip_nil_left, List.all_cons, List.all_nil, Bool.and_true, Bool.and_self, decide_true, decide_false, Option.toList, List.cons_append, List.nil_append, List.append_nil, DX4_nextUnlike_0, FLX4, LDX4, rS_1, rS_2, rS_3, hq, hk, hi, hne, he, x_le (a := e) (b := a) (by omega) (by omega), x_cl (a := a) (by omega), x_in (a := a) (n := ln qk) (by omega)]
  refine ⟨fun h => ?_, fun h => ⟨by omega, ?_⟩⟩
  · refine srnX4_nextUnlike C Rt [] 60 ?_
    simp only [k_i, s_go, s_1, e_op, e_pi, e_pl, e_pr, e_p0, e_li, e_ll, e_lr, e_lk, e_ins, e_rm, e_to, e_sw, e_cmp, k_c, k_n, k_f, k_v, k_lg, ↓reduceIte, reduceCtorEq, Nat.reduceAdd, Nat.reduceSub, Nat.reduceMul, Nat.reduceEqDiff, Nat.reduceLT, Nat.reduceLeDiff, Int.reduceAdd, Int.reduceSub, Int.reduceNeg, Int.reduceLE, Int.reduceLT, Int.reduceToNat, Int.reduceEq, Int.cast_ofNat_Int, List.mem_cons, List.not_mem_nil, List.length_cons, List.length_nil, List.set_cons_zero, List.set_cons_succ, List.toList_toArray, eq_self, true_and, and_true, and_self, or_true, true_or, false_or, or_false, or_self, not_true_eq_false, not_false_eq_true, Classical.not_not, true_implies, false_implies, implies_true, forall_const, and_false, false_and, Nat.le_refl, Nat.zero_le, Bool.false_eq_true, lv_args, s_rl_at, s_gf, s_pf, dn_q, kd_q, cl_q, nf_q, ln_q, tg_q, rr_q, cr_q, u_1, e_lsw, k_ti, List.drop_succ_cons, List.drop_zero, List.drop_nil, List.zip_cons_cons, List.zip_nil_right, List.zip_nil_left, List.all_cons, List.all_nil, Bool.and_true, Bool.and_self, decide_true, decide_false, Option.toList, List.cons_append, List.nil_append, List.append_nil, DX4_nextUnlike_0, FLX4, LDX4]
    refine sX4_nextUnlike_35 C (m_X4_nextUpTo l A S hQ0 ha' most) (s_obj (show 0 < 1 by decide) rfl) (hcat := Nat.le_of_ble_eq_true rfl) (k := ?_)
    rintro v2 G2 ⟨S2, rfl, rfl, rfl⟩
    refine srnX4_nextUnlike C Rt [] 60 ?_
    simp only [k_i, s_go, s_1, e_op, e_pi, e_pl, e_pr, e_p0, e_li, e_ll, e_lr, e_lk, e_ins, e_rm, e_to, e_sw, e_cmp, k_c, k_n, k_f, k_v, k_lg, ↓reduceIte, reduceCtorEq, Nat.reduceAdd, Nat.reduceSub, Nat.reduceMul, Nat.reduceEqDiff, Nat.reduceLT, Nat.reduceLeDiff, Int.reduceAdd, Int.reduceSub, Int.reduceNeg, Int.reduceLE, Int.reduceLT, Int.reduceToNat, Int.reduceEq, Int.cast_ofNat_Int, List.mem_cons, List.not_mem_nil, List.length_cons, List.length_nil, List.set_cons_zero, List.set_cons_succ, List.toList_toArray, eq_self, true_and, and_true, and_self, or_true, true_or, false_or, or_false, or_self, not_true_eq_false, not_false_eq_true, Classical.not_not, true_implies, false_implies, implies_true, forall_const, and_false, false_and, Nat.le_refl, Nat.zero_le, Bool.false_eq_true, lv_args, s_rl_at, s_gf, s_pf, dn_q, kd_q, cl_q, nf_q, ln_q, tg_q, rr_q, cr_q, u_1, e_lsw, k_ti, List.drop_succ_cons, List.drop_zero, List.drop_nil, List.zip_cons_cons, List.zip_nil_right, List.zip_nil_left, List.all_cons, List.all_nil, Bool.and_true, Bool.and_self, decide_true, decide_false, Option.toList, List.cons_append, List.nil_append, List.append_nil, DX4_nextUnlike_0, FLX4, LDX4]
    have h1 : ¬ a < e := by omega
    simp [unl, h1]
  · refine sX4_nextUnlike_22 C (m_isAmong l _ _ (s_a2 (A := A) (S := rS S (a, f, σ)) hdn hkd) hn (by omega)) (hcat := Nat.le_of_ble_eq_true rfl) (k := ?_)
    rintro v2 G2 ⟨rfl, rfl⟩
    rw [hrow]
    have h1 : a < e := by omega
    cases hm : am (S.1 fk fi) (S.1 qk qi a) n with
    | false =>
      refine srnX4_nextUnlike C Rt [] 60 ?_
      simp only [k_i, s_go, s_1, e_op, e_pi, e_pl, e_pr, e_p0, e_li, e_ll, e_lr, e_lk, e_ins, e_rm, e_to, e_sw, e_cmp, k_c, k_n, k_f, k_v, k_lg, ↓reduceIte, reduceCtorEq, Nat.reduceAdd, Nat.reduceSub, Nat.reduceMul, Nat.reduceEqDiff, Nat.reduceLT, Nat.reduceLeDiff, Int.reduceAdd, Int.reduceSub, Int.reduceNeg, Int.reduceLE, Int.reduceLT, Int.reduceToNat, Int.reduceEq, Int.cast_ofNat_Int, List.mem_cons, List.not_mem_nil, List.length_cons, List.length_nil, List.set_cons_zero, List.set_cons_succ, List.toList_toArray, eq_self, true_and, and_true, and_self, or_true, true_or, false_or, or_false, or_self, not_true_eq_false, not_false_eq_true, Classical.not_not, true_implies, false_implies, implies_true, forall_const, and_false, false_and, Nat.le_refl, Nat.zero_le, Bool.false_eq_true, lv_args, s_rl_at, s_gf, s_pf, dn_q, kd_q, cl_q, nf_q, ln_q, tg_q, rr_q, cr_q, u_1, e_lsw, k_ti, List.drop_succ_cons, List.drop_zero, List.drop_nil, List.zip_cons_cons, List.zip_nil_right, List.zip_nil_left, List.all_cons, List.all_nil, Bool.and_true, Bool.and_self, decide_true, decide_false, Option.toList, List.cons_append, List.nil_append, List.append_nil, DX4_nextUnlike_0, FLX4, LDX4, b2i_f]
      refine sX4_nextUnlike_35 C (m_X4_nextUpTo l A S hQ0 ha' most) (s_obj (show 0 < 1 by decide) rfl) (hcat := Nat.le_of_ble_eq_true rfl) (k := ?_)
      rintro v2 G2 ⟨S2, rfl, rfl, rfl⟩
      refine srnX4_nextUnlike C Rt [] 60 ?_
      simp only [k_i, s_go, s_1, e_op, e_pi, e_pl, e_pr, e_p0, e_li, e_ll, e_lr, e_lk, e_ins, e_rm, e_to, e_sw, e_cmp, k_c, k_n, k_f, k_v, k_lg, ↓reduceIte, reduceCtorEq, Nat.reduceAdd, Nat.reduceSub, Nat.reduceMul, Nat.reduceEqDiff, Nat.reduceLT, Nat.reduceLeDiff, Int.reduceAdd, Int.reduceSub, Int.reduceNeg, Int.reduceLE, Int.reduceLT, Int.reduceToNat, Int.reduceEq, Int.cast_ofNat_Int, List.mem_cons, List.not_mem_nil, List.length_cons, List.length_nil, List.set_cons_zero, List.set_cons_succ, List.toList_toArray, eq_self, true_and, and_true, and_self, or_true, true_or, false_or, or_false, or_self, not_true_eq_false, not_false_eq_true, Classical.not_not, true_implies, false_implies, implies_true, forall_const, and_false, false_and, Nat.le_refl, Nat.zero_le, Bool.false_eq_true, lv_args, s_rl_at, s_gf, s_pf, dn_q, kd_q, cl_q, nf_q, ln_q, tg_q, rr_q, cr_q, u_1, e_lsw, k_ti, List.drop_succ_cons, List.drop_zero, List.drop_nil, List.zip_cons_cons, List.zip_nil_right, List.zip_nil_left, List.all_cons, List.all_nil, Bool.and_true, Bool.and_self, decide_true, decide_false, Option.toList, List.cons_append, List.nil_append, List.append_nil, DX4_nextUnlike_0, FLX4, LDX4]
      simp [unl, h1, hm]
    | true =>
      refine srnX4_nextUnlike C Rt [] 60 ?_
      simp only [k_i, s_go, s_1, e_op, e_pi, e_pl, e_pr, e_p0, e_li, e_ll, e_lr, e_lk, e_ins, e_rm, e_to, e_sw, e_cmp, k_c, k_n, k_f, k_v, k_lg, ↓reduceIte, reduceCtorEq, Nat.reduceAdd, Nat.reduceSub, Nat.reduceMul, Nat.reduceEqDiff, Nat.reduceLT, Nat.reduceLeDiff, Int.reduceAdd, Int.reduceSub, Int.reduceNeg, Int.reduceLE, Int.reduceLT, Int.reduceToNat, Int.reduceEq, Int.cast_ofNat_Int, List.mem_cons, List.not_mem_nil, List.length_cons, List.length_nil, List.set_cons_zero, List.set_cons_succ, List.toList_toArray, eq_self, true_and, and_true, and_self, or_true, true_or, false_or, or_false, or_self, not_true_eq_false, not_false_eq_true, Classical.not_not, true_implies, false_implies, implies_true, forall_const, and_false, false_and, Nat.le_refl, Nat.zero_le, Bool.false_eq_true, lv_args, s_rl_at, s_gf, s_pf, dn_q, kd_q, cl_q, nf_q, ln_q, tg_q, rr_q, cr_q, u_1, e_lsw, k_ti, List.drop_succ_cons, List.drop_zero, List.drop_nil, List.zip_cons_cons, List.zip_nil_right, List.zip_nil_left, List.all_cons, List.all_nil, Bool.and_true, Bool.and_self, decide_true, decide_false, Option.toList, List.cons_append, List.nil_append, List.append_nil, DX4_nextUnlike_0, FLX4, LDX4, b2i_t]
      rw [rS_f]
      refine sX4_nextUnlike_35 C (m_X4_nextUpTo l A S (ρ := (a, true, σ)) hQ0 ha' most) (s_obj (show 0 < 1 by decide) rfl) (hcat := Nat.le_of_ble_eq_true rfl) (k := ?_)
      rintro v2 G2 ⟨S2, rfl, rfl, rfl⟩
      refine srnX4_nextUnlike C Rt [] 60 ?_
      simp only [k_i, s_go, s_1, e_op, e_pi, e_pl, e_pr, e_p0, e_li, e_ll, e_lr, e_lk, e_ins, e_rm, e_to, e_sw, e_cmp, k_c, k_n, k_f, k_v, k_lg, ↓reduceIte, reduceCtorEq, Nat.reduceAdd, Nat.reduceSub, Nat.reduceMul, Nat.reduceEqDiff, Nat.reduceLT, Nat.reduceLeDiff, Int.reduceAdd, Int.reduceSub, Int.reduceNeg, Int.reduceLE, Int.reduceLT, Int.reduceToNat, Int.reduceEq, Int.cast_ofNat_Int, List.mem_cons, List.not_mem_nil, List.length_cons, List.length_nil, List.set_cons_zero, List.set_cons_succ, List.toList_toArray, eq_self, true_and, and_true, and_self, or_true, true_or, false_or, or_false, or_self, not_true_eq_false, not_false_eq_true, Classical.not_not, true_implies, false_implies, implies_true, forall_const, and_false, false_and, Nat.le_refl, Nat.zero_le, Bool.false_eq_true, lv_args, s_rl_at, s_gf, s_pf, dn_q, kd_q, cl_q, nf_q, ln_q, tg_q, rr_q, cr_q, u_1, e_lsw, k_ti, List.drop_succ_cons, List.drop_zero, List.drop_nil, List.zip_cons_cons, List.zip_nil_right, List.zip_nil_left, List.all_cons, List.all_nil, Bool.and_true, Bool.and_self, decide_true, decide_false, Option.toList, List.cons_append, List.nil_append, List.append_nil, DX4_nextUnlike_0, FLX4, LDX4]
      simp [unl, h1, hm]
set_option maxHeartbeats 4000000 in
set_option maxRecDepth 100000 in
theorem m_X4_expect (l : Launch) (A : pA) (S : pS) {qk qi e : Nat} {ρ : pR} (hQ : rQ S qk qi e) (ha : ρ.1 ≤ e) (b : Int32) : e_MX4_expect l [.ref (ad A 17 0), .int b] (gS A (rS S ρ)) (s_P A (fun v S2 => S2 = rS S (xpc (S.1 qk qi) e b ρ) ∧ v = none)) := by
  obtain ⟨a, f, σ⟩ := ρ
  obtain ⟨hq, hk, hi, hln, hor, he, hel⟩ := hQ
  have hne : ¬ qk = 17 := by omega
  have ha' : a ≤ e := ha
  refine ofX4_expect (Nat.le_of_ble_eq_true rfl) ?_
  intro V C Rt
  cases f with
  | true =>
    refine srnX4_expect C Rt [] 60 ?_
    simp only [k_i, s_go, s_1, e_op, e_pi, e_pl, e_pr, e_p0, e_li, e_ll, e_lr, e_lk, e_ins, e_rm, e_to, e_sw, e_cmp, k_c, k_n, k_f, k_v, k_lg, ↓reduceIte, reduceCtorEq, Nat.reduceAdd, Nat.reduceSub, Nat.reduceMul, Nat.reduceEqDiff, Nat.reduceLT, Nat.reduceLeDiff, Int.reduceAdd, Int.reduceSub, Int.reduceNeg, Int.reduceLE, Int.reduceLT, Int.reduceToNat, Int.reduceEq, Int.cast_ofNat_Int, List.mem_cons, List.not_mem_nil, List.length_cons, List.length_nil, List.set_cons_zero, List.set_cons_succ, List.toList_toArray, eq_self, true_and, and_true, and_self, or_true, true_or, false_or, or_false, or_self, not_true_eq_false, not_false_eq_true, Classical.not_not, true_implies, false_implies, implies_true, forall_const, and_false, false_and, Nat.le_refl, Nat.zero_le, Bool.false_eq_true, lv_args, s_rl_at, s_gf, s_pf, dn_q, kd_q, cl_q, nf_q, ln_q, tg_q, rr_q, cr_q, u_1, e_lsw, k_ti, List.drop_succ_cons, List.drop_zero, List.drop_nil, List.zip_cons_cons, List.zip_nil_right, List.zip_nil_left, List.all_cons, List.all_nil, Bool.and_true, Bool.and_self, decide_true, decide_false, Option.toList, List.cons_append, List.nil_append, List.append_nil, DX4_expect_0, FLX4, LDX4, rS_1, rS_2, rS_3, hq, hk, hi, b2i_t]
    rw [rS_f]
    simp [xpc]
  | false =>
    refine srnX4_expect C Rt [] 60 ?_
    simp only [k_i, s_go, s_1, e_op, e_pi, e_pl, e_pr, e_p0, e_li, e_ll, e_lr, e_lk, e_ins, e_rm, e_to, e_sw, e_cmp, k_c, k_n, k_f, k_v, k_lg, ↓reduceIte, reduceCtorEq, Nat.reduceAdd, Nat.reduceSub, Nat.reduceMul, Nat.reduceEqDiff, Nat.reduceLT, Nat.reduceLeDiff, Int.reduceAdd, Int.reduceSub, Int.reduceNeg, Int.reduceLE, Int.reduceLT, Int.reduceToNat, Int.reduceEq, Int.cast_ofNat_Int, List.mem_cons, List.not_mem_nil, List.length_cons, List.length_nil, List.set_cons_zero, List.set_cons_succ, List.toList_toArray, eq_self, true_and, and_true, and_self, or_true, true_or, false_or, or_false, or_self, not_true_eq_false, not_false_eq_true, Classical.not_not, true_implies, false_implies, implies_true, forall_const, and_false, false_and, Nat.le_refl, Nat.zero_le, Bool.false_eq_true, lv_args, s_rl_at, s_gf, s_pf, dn_q, kd_q, cl_q, nf_q, ln_q, tg_q, rr_q, cr_q, u_1, e_lsw, k_ti, List.drop_succ_cons, List.drop_zero, List.drop_nil, List.zip_cons_cons, List.zip_nil_right, List.zip_nil_left, List.all_cons, List.all_nil, Bool.and_true, Bool.and_self, decide_true, decide_false, Option.toList, List.cons_append, List.nil_append, List.append_nil, DX4_expect_0, FLX4, LDX4, rS_1, rS_2, rS_3, hq, hk, hi, b2i_f, hne, he, x_le (a := e) (b := a) (by omega) (by omega), x_cl (a := a) (by omega), x_in (a := a) (n := ln qk) (by omega), nI_1]
    refine ⟨fun h => ?_, fun h => ⟨by omega, fun h2 => ?_, fun h2 => ?_⟩⟩
    · rw [rS_f]
      simp [xpc, h]
    · rw [rS_a]
      simp [xpc, h, h2]
    · rw [rS_f]
      simp [xpc, h2]
section
variable {V : pV} {l : Launch} {A : pA} {post : Option Value → pS → Prop} {S : pS}
set_option maxHeartbeats 4000000 in
set_option maxRecDepth 100000 in
theorem lp_expectSum (C : e_CX4_expectSum V l) (Rt : e_RX4_expectSum V (s_P A post)) {qk qi e : Nat} {σ : Int64} (hQ : rQ S qk qi e) : ∀ k ρ, k ≤ 8 → ρ.1 ≤ e → ρ.2.2 = σ → post none (rS S (xps (S.1 qk qi) e σ k ρ)) → V 0 0 3 [(0, .ref (ad A 17 0)), (1, .int (nI k - 1))] [] (gS A (rS S ρ)) := by
  intro k
  induction k with
  | zero =>
    intro ρ h8 ha hs hp
    refine srnX4_expectSum C Rt [3] 40 ?_
    simp only [k_i, s_go, s_1, e_op, e_pi, e_pl, e_pr, e_p0, e_li, e_ll, e_lr, e_lk, e_ins, e_rm, e_to, e_sw, e_cmp, k_c, k_n, k_f, k_v, k_lg, ↓reduceIte, reduceCtorEq, Nat.reduceAdd, Nat.reduceSub, Nat.reduceMul, Nat.reduceEqDiff, Nat.reduceLT, Nat.reduceLeDiff, Int.reduceAdd, Int.reduceSub, Int.reduceNeg, Int.reduceLE, Int.reduceLT, Int.reduceToNat, Int.reduceEq, Int.cast_ofNat_Int, List.mem_cons, List.not_mem_nil, List.length_cons, List.length_nil, List.set_cons_zero, List.set_cons_succ, List.toList_toArray, eq_self, true_and, and_true, and_self, or_true, true_or, false_or, or_false, or_self, not_true_eq_false, not_false_eq_true, Classical.not_not, true_implies, false_implies, implies_true, forall_const, and_false, false_and, Nat.le_refl, Nat.zero_le, Bool.false_eq_true, lv_args, s_rl_at, s_gf, s_pf, dn_q, kd_q, cl_q, nf_q, ln_q, tg_q, rr_q, cr_q, u_1, e_lsw, k_ti, List.drop_succ_cons, List.drop_zero, List.drop_nil, List.zip_cons_cons, List.zip_nil_right, List.zip_nil_left, List.all_cons, List.all_nil, Bool.and_true, Bool.and_self, decide_true, decide_false, Option.toList, List.cons_append, List.nil_append, List.append_nil, DX4_expectSum_0, FLX4, LDX4, (show nI 0 - 1 < 0 by decide)]
    exact hp
  | succ k ih =>
    intro ρ h8 ha hs hp
    refine srnX4_expectSum C Rt [3] 40 ?_
    simp only [k_i, s_go, s_1, e_op, e_pi, e_pl, e_pr, e_p0, e_li, e_ll, e_lr, e_lk, e_ins, e_rm, e_to, e_sw, e_cmp, k_c, k_n, k_f, k_v, k_lg, ↓reduceIte, reduceCtorEq, Nat.reduceAdd, Nat.reduceSub, Nat.reduceMul, Nat.reduceEqDiff, Nat.reduceLT, Nat.reduceLeDiff, Int.reduceAdd, Int.reduceSub, Int.reduceNeg, Int.reduceLE, Int.reduceLT, Int.reduceToNat, Int.reduceEq, Int.cast_ofNat_Int, List.mem_cons, List.not_mem_nil, List.length_cons, List.length_nil, List.set_cons_zero, List.set_cons_succ, List.toList_toArray, eq_self, true_and, and_true, and_self, or_true, true_or, false_or, or_false, or_self, not_true_eq_false, not_false_eq_true, Classical.not_not, true_implies, false_implies, implies_true, forall_const, and_false, false_and, Nat.le_refl, Nat.zero_le, Bool.false_eq_true, lv_args, s_rl_at, s_gf, s_pf, dn_q, kd_q, cl_q, nf_q, ln_q, tg_q, rr_q, cr_q, u_1, e_lsw, k_ti, List.drop_succ_cons, List.drop_zero, List.drop_nil, List.zip_cons_cons, List.zip_nil_right, List.zip_nil_left, List.all_cons, List.all_nil, Bool.and_true, Bool.and_self, decide_true, decide_false, Option.toList, List.cons_append, List.nil_append, List.append_nil, DX4_expectSum_0, FLX4, LDX4, rS_1, rS_2, rS_3, nI_pred, (show ¬ nI k < 0 from nI_pos (by omega)), (show (8 : Int32) = nI 8 from rfl), pk_mul, hs]
    refine sX4_expectSum_17 C (m_lowestByte l _ _) (hcat := Nat.le_of_ble_eq_true rfl) (k := ?_)
    rintro v2 G2 ⟨rfl, rfl⟩
    refine srnX4_expectSum C Rt [3] 40 ?_
    simp only [k_i, s_go, s_1, e_op, e_pi, e_pl, e_pr, e_p0, e_li, e_ll, e_lr, e_lk, e_ins, e_rm, e_to, e_sw, e_cmp, k_c, k_n, k_f, k_v, k_lg, ↓reduceIte, reduceCtorEq, Nat.reduceAdd, Nat.reduceSub, Nat.reduceMul, Nat.reduceEqDiff, Nat.reduceLT, Nat.reduceLeDiff, Int.reduceAdd, Int.reduceSub, Int.reduceNeg, Int.reduceLE, Int.reduceLT, Int.reduceToNat, Int.reduceEq, Int.cast_ofNat_Int, List.mem_cons, List.not_mem_nil, List.length_cons, List.length_nil, List.set_cons_zero, List.set_cons_succ, List.toList_toArray, eq_self, true_and, and_true, and_self, or_true, true_or, false_or, or_false, or_self, not_true_eq_false, not_false_eq_true, Classical.not_not, true_implies, false_implies, implies_true, forall_const, and_false, false_and, Nat.le_refl, Nat.zero_le, Bool.false_eq_true, lv_args, s_rl_at, s_gf, s_pf, dn_q, kd_q, cl_q, nf_q, ln_q, tg_q, rr_q, cr_q, u_1, e_lsw, k_ti, List.drop_succ_cons, List.drop_zero, List.drop_nil, List.zip_cons_cons, List.zip_nil_right, List.zip_nil_left, List.all_cons, List.all_nil, Bool.and_true, Bool.and_self, decide_true, decide_false, Option.toList, List.cons_append, List.nil_append, List.append_nil, DX4_expectSum_0, FLX4, LDX4]
    refine sX4_expectSum_20 C (m_X4_expect l A S hQ ha _) (s_obj (show 0 < 1 by decide) rfl) (hcat := Nat.le_of_ble_eq_true rfl) (k := ?_)
    rintro v2 G2 ⟨S2, rfl, rfl, rfl⟩
    refine srnX4_expectSum C Rt [3] 40 ?_
    simp only [k_i, s_go, s_1, e_op, e_pi, e_pl, e_pr, e_p0, e_li, e_ll, e_lr, e_lk, e_ins, e_rm, e_to, e_sw, e_cmp, k_c, k_n, k_f, k_v, k_lg, ↓reduceIte, reduceCtorEq, Nat.reduceAdd, Nat.reduceSub, Nat.reduceMul, Nat.reduceEqDiff, Nat.reduceLT, Nat.reduceLeDiff, Int.reduceAdd, Int.reduceSub, Int.reduceNeg, Int.reduceLE, Int.reduceLT, Int.reduceToNat, Int.reduceEq, Int.cast_ofNat_Int, List.mem_cons, List.not_mem_nil, List.length_cons, List.length_nil, List.set_cons_zero, List.set_cons_succ, List.toList_toArray, eq_self, true_and, and_true, and_self, or_true, true_or, false_or, or_false, or_self, not_true_eq_false, not_false_eq_true, Classical.not_not, true_implies, false_implies, implies_true, forall_const, and_false, false_and, Nat.le_refl, Nat.zero_le, Bool.false_eq_true, lv_args, s_rl_at, s_gf, s_pf, dn_q, kd_q, cl_q, nf_q, ln_q, tg_q, rr_q, cr_q, u_1, e_lsw, k_ti, List.drop_succ_cons, List.drop_zero, List.drop_nil, List.zip_cons_cons, List.zip_nil_right, List.zip_nil_left, List.all_cons, List.all_nil, Bool.and_true, Bool.and_self, decide_true, decide_false, Option.toList, List.cons_append, List.nil_append, List.append_nil, DX4_expectSum_0, FLX4, LDX4, m1_eq]
    refine ih _ (by omega) (xpc_le ha) ?_ hp
    unfold xpc
    split <;> exact hs
end
set_option maxHeartbeats 4000000 in
set_option maxRecDepth 100000 in
theorem m_X4_expectSum (l : Launch) (A : pA) (S : pS) {qk qi e : Nat} {ρ : pR} (hQ : rQ S qk qi e) (ha : ρ.1 ≤ e) : e_MX4_expectSum l [.ref (ad A 17 0)] (gS A (rS S ρ)) (s_P A (fun v S2 => S2 = rS S (xps (S.1 qk qi) e ρ.2.2 8 ρ) ∧ v = none)) := by
  refine ofX4_expectSum (Nat.le_of_ble_eq_true rfl) ?_
  intro V C Rt
  refine srnX4_expectSum C Rt [3] 3 ?_
  simp only [k_i, s_go, s_1, e_op, e_pi, e_pl, e_pr, e_p0, e_li, e_ll, e_lr, e_lk, e_ins, e_rm, e_to, e_sw, e_cmp, k_c, k_n, k_f, k_v, k_lg, ↓reduceIte, reduceCtorEq, Nat.reduceAdd, Nat.reduceSub, Nat.reduceMul, Nat.reduceEqDiff, Nat.reduceLT, Nat.reduceLeDiff, Int.reduceAdd, Int.reduceSub, Int.reduceNeg, Int.reduceLE, Int.reduceLT, Int.reduceToNat, Int.reduceEq, Int.cast_ofNat_Int, List.mem_cons, List.not_mem_nil, List.length_cons, List.length_nil, List.set_cons_zero, List.set_cons_succ, List.toList_toArray, eq_self, true_and, and_true, and_self, or_true, true_or, false_or, or_false, or_self, not_true_eq_false, not_false_eq_true, Classical.not_not, true_implies, false_implies, implies_true, forall_const, and_false, false_and, Nat.le_refl, Nat.zero_le, Bool.false_eq_true, lv_args, s_rl_at, s_gf, s_pf, dn_q, kd_q, cl_q, nf_q, ln_q, tg_q, rr_q, cr_q, u_1, e_lsw, k_ti, List.drop_succ_cons, List.drop_zero, List.drop_nil, List.zip_cons_cons, List.zip_nil_right, List.zip_nil_left, List.all_cons, List.all_nil, Bool.and_true, Bool.and_self, decide_true, decide_false, Option.toList, List.cons_append, List.nil_append, List.append_nil, DX4_expectSum_0, FLX4, LDX4]
  have h9 := lp_expectSum (A := A) (σ := ρ.2.2) C Rt hQ 8 ρ (by omega) ha rfl ⟨rfl, rfl⟩
  rw [show nI 8 - 1 = (7 : Int32) from by decide] at h9
  exact h9
set_option maxHeartbeats 4000000 in
set_option maxRecDepth 100000 in
theorem m_X4_expectEnd (l : Launch) (A : pA) (S : pS) {qk qi e : Nat} {ρ : pR} (hQ : rQ S qk qi e) (ha : ρ.1 ≤ e) : e_MX4_expectEnd l [.ref (ad A 17 0)] (gS A (rS S ρ)) (s_P A (fun v S2 => S2 = rS S (ρ.1, ρ.2.1 || decide (ρ.1 < e), ρ.2.2) ∧ v = none)) := by
  obtain ⟨a, f, σ⟩ := ρ
  obtain ⟨hq, hk, hi, hln, hor, he, hel⟩ := hQ
  have ha' : a ≤ e := ha
  refine ofX4_expectEnd (Nat.le_of_ble_eq_true rfl) ?_
  intro V C Rt
  refine srnX4_expectEnd C Rt [] 60 ?_
  simp only [k_i, s_go, s_1, e_op, e_pi, e_pl, e_pr, e_p0, e_li, e_ll, e_lr, e_lk, e_ins, e_rm, e_to, e_sw, e_cmp, k_c, k_n, k_f, k_v, k_lg, ↓reduceIte, reduceCtorEq, Nat.reduceAdd, Nat.reduceSub, Nat.reduceMul, Nat.reduceEqDiff, Nat.reduceLT, Nat.reduceLeDiff, Int.reduceAdd, Int.reduceSub, Int.reduceNeg, Int.reduceLE, Int.reduceLT, Int.reduceToNat, Int.reduceEq, Int.cast_ofNat_Int, List.mem_cons, List.not_mem_nil, List.length_cons, List.length_nil, List.set_cons_zero, List.set_cons_succ, List.toList_toArray, eq_self, true_and, and_true, and_self, or_true, true_or, false_or, or_false, or_self, not_true_eq_false, not_false_eq_true, Classical.not_not, true_implies, false_implies, implies_true, forall_const, and_false, false_and, Nat.le_refl, Nat.zero_le, Bool.false_eq_true, lv_args, s_rl_at, s_gf, s_pf, dn_q, kd_q, cl_q, nf_q, ln_q, tg_q, rr_q, cr_q, u_1, e_lsw, k_ti, List.drop_succ_cons, List.drop_zero, List.drop_nil, List.zip_cons_cons, List.zip_nil_right, List.zip_nil_left, List.all_cons, List.all_nil, Bool.and_true, Bool.and_self, decide_true, decide_false, Option.toList, List.cons_append, List.nil_append, List.append_nil, DX4_expectEnd_0, FLX4, LDX4, rS_1, rS_2, rS_3, he, x_le (a := e) (b := a) (by omega) (by omega)]
  refine ⟨fun h => ?_, fun h => ?_⟩
  · have h1 : ¬ a < e := by omega
    simp [h1]
  · have h1 : a < e := by omega
    rw [rS_f]
    simp [h1]
set_option maxHeartbeats 4000000 in
set_option maxRecDepth 100000 in
theorem m_X4_begin (l : Launch) (A : pA) (S : pS) {qk qi e : Nat} (hk : qk = 12 ∨ qk = 21) (hi : qi < dn qk) (he : e ≤ ln qk) (σ : Int64) : e_MX4_begin l [.ref (ad A 17 0), .ref (ad A qk qi), .int (nI e), .long σ] (gS A S) (s_P A (fun v S2 => S2 = rS (uI (uQ S 17 0 4 (qk, qi)) 17 0 3 (nI e)) (0, false, σ) ∧ v = none)) := by
  have hkd : kd qk = 2 := by rcases hk with rfl | rfl <;> rfl
  have hln : ln qk ≤ 4000 := by rcases hk with rfl | rfl <;> decide
  refine ofX4_begin (Nat.le_of_ble_eq_true rfl) ?_
  intro V C Rt
  refine srnX4_begin C Rt [] 60 ?_
  simp only [k_i, s_go, s_1, e_op, e_pi, e_pl, e_pr, e_p0, e_li, e_ll, e_lr, e_lk, e_ins, e_rm, e_to, e_sw, e_cmp, k_c, k_n, k_f, k_v, k_lg, ↓reduceIte, reduceCtorEq, Nat.reduceAdd, Nat.reduceSub, Nat.reduceMul, Nat.reduceEqDiff, Nat.reduceLT, Nat.reduceLeDiff, Int.reduceAdd, Int.reduceSub, Int.reduceNeg, Int.reduceLE, Int.reduceLT, Int.reduceToNat, Int.reduceEq, Int.cast_ofNat_Int, List.mem_cons, List.not_mem_nil, List.length_cons, List.length_nil, List.set_cons_zero, List.set_cons_succ, List.toList_toArray, eq_self, true_and, and_true, and_self, or_true, true_or, false_or, or_false, or_self, not_true_eq_false, not_false_eq_true, Classical.not_not, true_implies, false_implies, implies_true, forall_const, and_false, false_and, Nat.le_refl, Nat.zero_le, Bool.false_eq_true, lv_args, s_rl_at, s_gf, s_pf, dn_q, kd_q, cl_q, nf_q, ln_q, tg_q, rr_q, cr_q, u_1, e_lsw, k_ti, List.drop_succ_cons, List.drop_zero, List.drop_nil, List.zip_cons_cons, List.zip_nil_right, List.zip_nil_left, List.all_cons, List.all_nil, Bool.and_true, Bool.and_self, decide_true, decide_false, Option.toList, List.cons_append, List.nil_append, List.append_nil, DX4_begin_0, FLX4, LDX4, hkd, hi, (show ¬ (Int32.ofNat (ln qk) < nI e) from nI_nlt he (by omega))]
  refine Prod.ext ?_ rfl
  funext k' i' j'
  simp only [u_1, rS_1]
  by_cases h0 : k' = 17 ∧ i' = 0 ∧ j' = 0
  · obtain ⟨rfl, rfl, rfl⟩ := h0
    simp [nI_0]
  · by_cases h1 : k' = 17 ∧ i' = 0 ∧ j' = 1
    · obtain ⟨rfl, rfl, rfl⟩ := h1
      simp [b2i]
    · simp [h0, h1]
