/-! FactLog$Reader.nextRow: the walk -/
theorem am_congr {f g : Nat → Int32} {x : Int32} : ∀ {n : Nat}, (∀ k, k < n → f k = g k) → am f x n = am g x n
  | 0, _ => rfl
  | n + 1, h => by
    simp only [am, h n (by omega)]
    rw [am_congr (f := f) (g := g) (n := n) (fun k hk => h k (by omega))]
theorem unl_congr {d f g : Nat → Int32} {e n : Nat} {m : Int32} {ρ : pR} (h : ∀ k, k < n → f k = g k) : unl d e m f n ρ = unl d e m g n ρ := by
  unfold unl
  rw [am_congr h]
abbrev pT0 : Type := Nat × (Nat → Int32) × (Nat → Int32) × (Nat → Int32) × pR
/-- k things are read -/
def pT (d : Nat → Int32) (e : Nat) : Nat → Nat → (Nat → Int32) → (Nat → Int32) → (Nat → Int32) → pR → pT0
  | 0, t, th, dt, ct, ρ => (t, th, dt, ct, ρ)
  | k + 1, t, th, dt, ct, ρ => if ρ.2.1 = true then (t, th, dt, ct, ρ) else pT d e k (t + 1) (upd th t (unl d e 15 th t ρ).1) (upd dt t (num d e 4 0 (unl d e 15 th t ρ).2).1.toInt32) (upd ct t (num d e 4 0 (num d e 4 0 (unl d e 15 th t ρ).2).2).1.toInt32) (num d e 4 0 (num d e 4 0 (unl d e 15 th t ρ).2).2).2
/-- k facts' numbers are read -/
def pF (d : Nat → Int32) (e : Nat) (m : Int32) : Nat → Nat → (Nat → Int32) → pR → Nat × (Nat → Int32) × pR
  | 0, f, on, ρ => (f, on, ρ)
  | k + 1, f, on, ρ => if ρ.2.1 = true then (f, on, ρ) else pF d e m k (f + 1) (upd on f (unl d e m on f ρ).1) (unl d e m on f ρ).2
theorem pT_le {d : Nat → Int32} {e : Nat} : ∀ {k t : Nat} {th dt ct : Nat → Int32} {ρ : pR}, ρ.1 ≤ e → (pT d e k t th dt ct ρ).2.2.2.2.1 ≤ e ∧ (pT d e k t th dt ct ρ).1 ≤ t + k
  | 0, _, _, _, _, _, h => ⟨h, Nat.le_refl _⟩
  | k + 1, t, th, dt, ct, ρ, h => by
    unfold pT
    split
    · exact ⟨h, by show t ≤ _; omega⟩
    · have h1 := pT_le (d := d) (k := k) (t := t + 1) (th := upd th t (unl d e 15 th t ρ).1) (dt := upd dt t (num d e 4 0 (unl d e 15 th t ρ).2).1.toInt32) (ct := upd ct t (num d e 4 0 (num d e 4 0 (unl d e 15 th t ρ).2).2).1.toInt32) (num_le (d := d) (k := 4) (v := 0) (num_le (d := d) (k := 4) (v := 0) (unl_le (d := d) (m := 15) (f := th) (n := t) h)))
      exact ⟨h1.1, by omega⟩
theorem pF_le {d : Nat → Int32} {e : Nat} {m : Int32} : ∀ {k f : Nat} {on : Nat → Int32} {ρ : pR}, ρ.1 ≤ e → (pF d e m k f on ρ).2.2.1 ≤ e
  | 0, _, _, _, h => h
  | k + 1, f, on, ρ, h => by
    unfold pF
    split
    · exact h
    · exact pF_le (k := k) (unl_le h)
theorem nxt_nI {d : Nat → Int32} {e M : Nat} {m : Int32} {ρ : pR} (hm : m.toInt = M) : ∃ j : Nat, j ≤ M ∧ (nxt d e m ρ).1 = nI j := by
  unfold nxt
  split
  · exact ⟨0, Nat.zero_le _, rfl⟩
  · rename_i h
    have h1 : ¬ d ρ.1 < 0 := fun z => h (Or.inr (Or.inr (Or.inl z)))
    have h2 : ¬ m < d ρ.1 := fun z => h (Or.inr (Or.inr (Or.inr z)))
    exact nI_of2 hm h1 (Int32.not_lt.mp h2)
abbrev zF : Nat → Int32 := fun _ => 0
abbrev q1 (d : Nat → Int32) (e : Nat) (ρ : pR) : Int32 × pR := nxt d e 3 ρ
abbrev q2 (d : Nat → Int32) (e : Nat) (ρ : pR) : Int64 × pR := num d e 8 0 (q1 d e ρ).2
abbrev q3 (d : Nat → Int32) (e : Nat) (ρ : pR) : Int32 × pR := nxt d e 4 (q2 d e ρ).2
abbrev q4 (d : Nat → Int32) (e : Nat) (ρ : pR) : pT0 := pT d e (nN (q3 d e ρ).1) 0 zF zF zF (q3 d e ρ).2
abbrev q5 (d : Nat → Int32) (e : Nat) (ρ : pR) : Int32 × pR := nxt d e 3 (q4 d e ρ).2.2.2.2
abbrev q6 (d : Nat → Int32) (e r : Nat) (ρ : pR) : Nat × (Nat → Int32) × pR := pF d e (nI r - 1) (nN (q5 d e ρ).1) 0 zF (q5 d e ρ).2
/-- the state behind a row, read into fact i -/
def rowS (S : pS) (i : Nat) (d : Nat → Int32) (e r : Nat) (ρ : pR) : pS := rS (fS S i (q1 d e ρ).1 (q2 d e ρ).1 (q4 d e ρ).1 (q4 d e ρ).2.1 (q4 d e ρ).2.2.1 (q4 d e ρ).2.2.2.1 (q6 d e r ρ).1 (q6 d e r ρ).2.1) (q6 d e r ρ).2.2
section
variable {V : pV} {l : Launch} {A : pA} {post : Option Value → pS → Prop} {S : pS}
set_option maxHeartbeats 4000000 in
set_option maxRecDepth 100000 in
theorem lp_rowT (C : e_CX4_nextRow V l) (Rt : e_RX4_nextRow V (s_P A post)) {qk qi e i r tt : Nat} {kk : Int32} {vl : Int64} (hQ : rQ S qk qi e) (hi : i < 62) (htt : tt ≤ 4) : ∀ k j th dt ct ρ, j + k = tt → ρ.1 ≤ e → (∀ T : pT0, T = pT (S.1 qk qi) e k j th dt ct ρ → V 0 0 93 [(0, .ref (ad A 17 0)), (1, .ref (ad A 6 i)), (2, .int (nI r))] [] (gS A (rS (fS S i kk vl T.1 T.2.1 T.2.2.1 T.2.2.2.1 0 zF) T.2.2.2.2))) → V 0 0 32 [(0, .ref (ad A 17 0)), (1, .ref (ad A 6 i)), (2, .int (nI r)), (3, .int (nI tt)), (4, .int (nI j))] [] (gS A (rS (fS S i kk vl j th dt ct 0 zF) ρ)) := by
  have hor := hQ.2.2.2.2.1
  intro k
  induction k with
  | zero =>
    intro j th dt ct ρ hj ha hx
    have hj2 : j = tt := by omega
    subst hj2
    refine srnX4_nextRow C Rt [32, 93] 40 ?_
    simp only [k_i, s_go, s_1, e_op, e_pi, e_pl, e_pr, e_p0, e_li, e_ll, e_lr, e_lk, e_ins, e_rm, e_to, e_sw, e_cmp, k_c, k_n, k_f, k_v, k_lg, ↓reduceIte, reduceCtorEq, Nat.reduceAdd, Nat.reduceSub, Nat.reduceMul, Nat.reduceEqDiff, Nat.reduceLT, Nat.reduceLeDiff, Int.reduceAdd, Int.reduceSub, Int.reduceNeg, Int.reduceLE, Int.reduceLT, Int.reduceToNat, Int.reduceEq, Int.cast_ofNat_Int, List.mem_cons, List.not_mem_nil, List.length_cons, List.length_nil, List.set_cons_zero, List.set_cons_succ, List.toList_toArray, eq_self, true_and, and_true, and_self, or_true, true_or, false_or, or_false, or_self, not_true_eq_false, not_false_eq_true, Classical.not_not, true_implies, false_implies, implies_true, forall_const, and_false, false_and, Nat.le_refl, Nat.zero_le, Bool.false_eq_true, lv_args, s_rl_at, s_gf, s_pf, dn_q, kd_q, cl_q, nf_q, ln_q, tg_q, rr_q, cr_q, u_1, e_lsw, k_ti, List.drop_succ_cons, List.drop_zero, List.drop_nil, List.zip_cons_cons, List.zip_nil_right, List.zip_nil_left, List.all_cons, List.all_nil, Bool.and_true, Bool.and_self, decide_true, decide_false, Option.toList, List.cons_append, List.nil_append, List.append_nil, DX4_nextRow_0, DX4_nextRow_1, FLX4, LDX4, x_le (a := j) (b := j) (by omega) (by omega)]
    exact r_sub C (by simp) (hx _ rfl)
  | succ k ih =>
    intro j th dt ct ρ hj ha hx
    refine srnX4_nextRow C Rt [32, 93] 40 ?_
    simp only [k_i, s_go, s_1, e_op, e_pi, e_pl, e_pr, e_p0, e_li, e_ll, e_lr, e_lk, e_ins, e_rm, e_to, e_sw, e_cmp, k_c, k_n, k_f, k_v, k_lg, ↓reduceIte, reduceCtorEq, Nat.reduceAdd, Nat.reduceSub, Nat.reduceMul, Nat.reduceEqDiff, Nat.reduceLT, Nat.reduceLeDiff, Int.reduceAdd, Int.reduceSub, Int.reduceNeg, Int.reduceLE, Int.reduceLT, Int.reduceToNat, Int.reduceEq, Int.cast_ofNat_Int, List.mem_cons, List.not_mem_nil, List.length_cons, List.length_nil, List.set_cons_zero, List.set_cons_succ, List.toList_toArray, eq_self, true_and, and_true, and_self, or_true, true_or, false_or, or_false, or_self, not_true_eq_false, not_false_eq_true, Classical.not_not, true_implies, false_implies, implies_true, forall_const, and_false, false_and, Nat.le_refl, Nat.zero_le, Bool.false_eq_true, lv_args, s_rl_at, s_gf, s_pf, dn_q, kd_q, cl_q, nf_q, ln_q, tg_q, rr_q, cr_q, u_1, e_lsw, k_ti, List.drop_succ_cons, List.drop_zero, List.drop_nil, List.zip_cons_cons, List.zip_nil_right, List.zip_nil_left, List.all_cons, List.all_nil, Bool.and_true, Bool.and_self, decide_true, decide_false, Option.toList, List.cons_append, List.nil_append, List.append_nil, DX4_nextRow_0, DX4_nextRow_1, FLX4, LDX4, rS_1, fS_1, x_le (a := tt) (b := j) (by omega) (by omega), b2i_0, rS_3, fS_3, hi]
    refine ⟨fun h => by omega, fun _ => ⟨fun hf => ?_, fun hf => ?_⟩⟩
    · have hf2 : ρ.2.1 = true := by simpa using hf
      have h9 := hx (j, th, dt, ct, ρ) (by simp [pT, hf2])
      exact r_sub C (by simp) h9
    · have hf2 : ¬ ρ.2.1 = true := by rw [hf]; decide
      have e1 : ∀ m ρ, unl ((fS S i kk vl j th dt ct 0 zF).1 qk qi) e m ((fS S i kk vl j th dt ct 0 zF).1 7 i) j ρ = unl (S.1 qk qi) e m th j ρ := by
        intro m ρ
        rw [fS_q hor]
        exact unl_congr (fun z hz => by simp [fS_1, hz])
      refine sX4_nextRow_56 C (m_X4_nextUnlike l A _ (fS_rQ hQ) ha 15 (Or.inl rfl) hi (show j ≤ 4 by omega)) (s_obj (show 0 < 1 by decide) rfl) (hcat := Nat.le_of_ble_eq_true rfl) (k := ?_)
      rintro v2 G2 ⟨S2, rfl, rfl, rfl⟩
      rw [e1]
      refine srnX4_nextRow C Rt [32, 93] 40 ?_
      simp only [k_i, s_go, s_1, e_op, e_pi, e_pl, e_pr, e_p0, e_li, e_ll, e_lr, e_lk, e_ins, e_rm, e_to, e_sw, e_cmp, k_c, k_n, k_f, k_v, k_lg, ↓reduceIte, reduceCtorEq, Nat.reduceAdd, Nat.reduceSub, Nat.reduceMul, Nat.reduceEqDiff, Nat.reduceLT, Nat.reduceLeDiff, Int.reduceAdd, Int.reduceSub, Int.reduceNeg, Int.reduceLE, Int.reduceLT, Int.reduceToNat, Int.reduceEq, Int.cast_ofNat_Int, List.mem_cons, List.not_mem_nil, List.length_cons, List.length_nil, List.set_cons_zero, List.set_cons_succ, List.toList_toArray, eq_self, true_and, and_true, and_self, or_true, true_or, false_or, or_false, or_self, not_true_eq_false, not_false_eq_true, Classical.not_not, true_implies, false_implies, implies_true, forall_const, and_false, false_and, Nat.le_refl, Nat.zero_le, Bool.false_eq_true, lv_args, s_rl_at, s_gf, s_pf, dn_q, kd_q, cl_q, nf_q, ln_q, tg_q, rr_q, cr_q, u_1, e_lsw, k_ti, List.drop_succ_cons, List.drop_zero, List.drop_nil, List.zip_cons_cons, List.zip_nil_right, List.zip_nil_left, List.all_cons, List.all_nil, Bool.and_true, Bool.and_self, decide_true, decide_false, Option.toList, List.cons_append, List.nil_append, List.append_nil, DX4_nextRow_0, DX4_nextRow_1, FLX4, LDX4, (show (4 : Int32) = nI 4 from rfl)]
      refine sX4_nextRow_63 C (m_X4_nextNumber l A _ (fS_rQ hQ) (unl_le ha) (show 4 ≤ 8 by decide)) (s_obj (show 0 < 1 by decide) rfl) (hcat := Nat.le_of_ble_eq_true rfl) (k := ?_)
      rintro v2 G2 ⟨S2, rfl, rfl, rfl⟩
      rw [fS_q hor]
      refine srnX4_nextRow C Rt [32, 93] 40 ?_
      simp only [k_i, s_go, s_1, e_op, e_pi, e_pl, e_pr, e_p0, e_li, e_ll, e_lr, e_lk, e_ins, e_rm, e_to, e_sw, e_cmp, k_c, k_n, k_f, k_v, k_lg, ↓reduceIte, reduceCtorEq, Nat.reduceAdd, Nat.reduceSub, Nat.reduceMul, Nat.reduceEqDiff, Nat.reduceLT, Nat.reduceLeDiff, Int.reduceAdd, Int.reduceSub, Int.reduceNeg, Int.reduceLE, Int.reduceLT, Int.reduceToNat, Int.reduceEq, Int.cast_ofNat_Int, List.mem_cons, List.not_mem_nil, List.length_cons, List.length_nil, List.set_cons_zero, List.set_cons_succ, List.toList_toArray, eq_self, true_and, and_true, and_self, or_true, true_or, false_or, or_false, or_self, not_true_eq_false, not_false_eq_true, Classical.not_not, true_implies, false_implies, implies_true, forall_const, and_false, false_and, Nat.le_refl, Nat.zero_le, Bool.false_eq_true, lv_args, s_rl_at, s_gf, s_pf, dn_q, kd_q, cl_q, nf_q, ln_q, tg_q, rr_q, cr_q, u_1, e_lsw, k_ti, List.drop_succ_cons, List.drop_zero, List.drop_nil, List.zip_cons_cons, List.zip_nil_right, List.zip_nil_left, List.all_cons, List.all_nil, Bool.and_true, Bool.and_self, decide_true, decide_false, Option.toList, List.cons_append, List.nil_append, List.append_nil, DX4_nextRow_0, DX4_nextRow_1, FLX4, LDX4, (show (4 : Int32) = nI 4 from rfl)]
      refine sX4_nextRow_71 C (m_X4_nextNumber l A _ (fS_rQ hQ) (num_le (unl_le ha)) (show 4 ≤ 8 by decide)) (s_obj (show 0 < 1 by decide) rfl) (hcat := Nat.le_of_ble_eq_true rfl) (k := ?_)
      rintro v2 G2 ⟨S2, rfl, rfl, rfl⟩
      rw [fS_q hor]
      refine srnX4_nextRow C Rt [32, 93] 40 ?_
      simp only [k_i, s_go, s_1, e_op, e_pi, e_pl, e_pr, e_p0, e_li, e_ll, e_lr, e_lk, e_ins, e_rm, e_to, e_sw, e_cmp, k_c, k_n, k_f, k_v, k_lg, ↓reduceIte, reduceCtorEq, Nat.reduceAdd, Nat.reduceSub, Nat.reduceMul, Nat.reduceEqDiff, Nat.reduceLT, Nat.reduceLeDiff, Int.reduceAdd, Int.reduceSub, Int.reduceNeg, Int.reduceLE, Int.reduceLT, Int.reduceToNat, Int.reduceEq, Int.cast_ofNat_Int, List.mem_cons, List.not_mem_nil, List.length_cons, List.length_nil, List.set_cons_zero, List.set_cons_succ, List.toList_toArray, eq_self, true_and, and_true, and_self, or_true, true_or, false_or, or_false, or_self, not_true_eq_false, not_false_eq_true, Classical.not_not, true_implies, false_implies, implies_true, forall_const, and_false, false_and, Nat.le_refl, Nat.zero_le, Bool.false_eq_true, lv_args, s_rl_at, s_gf, s_pf, dn_q, kd_q, cl_q, nf_q, ln_q, tg_q, rr_q, cr_q, u_1, e_lsw, k_ti, List.drop_succ_cons, List.drop_zero, List.drop_nil, List.zip_cons_cons, List.zip_nil_right, List.zip_nil_left, List.all_cons, List.all_nil, Bool.and_true, Bool.and_self, decide_true, decide_false, Option.toList, List.cons_append, List.nil_append, List.append_nil, DX4_nextRow_0, DX4_nextRow_1, FLX4, LDX4]
      refine sX4_nextRow_84 C (m_X2_addThing l A _ hi (show j < 4 by omega) (by simp [rS_1, fS_1]) _ _ _) (s_obj hi rfl) (hcat := Nat.le_of_ble_eq_true rfl) (k := ?_)
      rintro v2 G2 ⟨S2, rfl, rfl, rfl⟩
      rw [fS_adT]
      refine srnX4_nextRow C Rt [32, 93] 40 ?_
      simp only [k_i, s_go, s_1, e_op, e_pi, e_pl, e_pr, e_p0, e_li, e_ll, e_lr, e_lk, e_ins, e_rm, e_to, e_sw, e_cmp, k_c, k_n, k_f, k_v, k_lg, ↓reduceIte, reduceCtorEq, Nat.reduceAdd, Nat.reduceSub, Nat.reduceMul, Nat.reduceEqDiff, Nat.reduceLT, Nat.reduceLeDiff, Int.reduceAdd, Int.reduceSub, Int.reduceNeg, Int.reduceLE, Int.reduceLT, Int.reduceToNat, Int.reduceEq, Int.cast_ofNat_Int, List.mem_cons, List.not_mem_nil, List.length_cons, List.length_nil, List.set_cons_zero, List.set_cons_succ, List.toList_toArray, eq_self, true_and, and_true, and_self, or_true, true_or, false_or, or_false, or_self, not_true_eq_false, not_false_eq_true, Classical.not_not, true_implies, false_implies, implies_true, forall_const, and_false, false_and, Nat.le_refl, Nat.zero_le, Bool.false_eq_true, lv_args, s_rl_at, s_gf, s_pf, dn_q, kd_q, cl_q, nf_q, ln_q, tg_q, rr_q, cr_q, u_1, e_lsw, k_ti, List.drop_succ_cons, List.drop_zero, List.drop_nil, List.zip_cons_cons, List.zip_nil_right, List.zip_nil_left, List.all_cons, List.all_nil, Bool.and_true, Bool.and_self, decide_true, decide_false, Option.toList, List.cons_append, List.nil_append, List.append_nil, DX4_nextRow_0, DX4_nextRow_1, FLX4, LDX4, nI_1]
      refine r_sub C (by simp) (ih (j + 1) _ _ _ _ (by omega) (num_le (num_le (unl_le ha))) (fun T hT => hx T ?_))
      rw [hT, pT, if_neg hf2]
set_option maxHeartbeats 4000000 in
set_option maxRecDepth 100000 in
theorem lp_rowF (C : e_CX4_nextRow V l) (Rt : e_RX4_nextRow V (s_P A post)) {qk qi e i r ff t : Nat} {kk : Int32} {vl : Int64} {th dt ct : Nat → Int32} (hQ : rQ S qk qi e) (hi : i < 62) (hff : ff ≤ 3) : ∀ k j on ρ, j + k = ff → ρ.1 ≤ e → (∀ F : Nat × (Nat → Int32) × pR, F = pF (S.1 qk qi) e (nI r - 1) k j on ρ → post none (rS (fS S i kk vl t th dt ct F.1 F.2.1) F.2.2)) → V 0 0 103 [(0, .ref (ad A 17 0)), (1, .ref (ad A 6 i)), (2, .int (nI r)), (4, .int (nI ff)), (5, .int (nI j))] [] (gS A (rS (fS S i kk vl t th dt ct j on) ρ)) := by
  have hor := hQ.2.2.2.2.1
  intro k
  induction k with
  | zero =>
    intro j on ρ hj ha hx
    have hj2 : j = ff := by omega
    subst hj2
    refine srnX4_nextRow C Rt [103] 40 ?_
    simp only [k_i, s_go, s_1, e_op, e_pi, e_pl, e_pr, e_p0, e_li, e_ll, e_lr, e_lk, e_ins, e_rm, e_to, e_sw, e_cmp, k_c, k_n, k_f, k_v, k_lg, ↓reduceIte, reduceCtorEq, Nat.reduceAdd, Nat.reduceSub, Nat.reduceMul, Nat.reduceEqDiff, Nat.reduceLT, Nat.reduceLeDiff, Int.reduceAdd, Int.reduceSub, Int.reduceNeg, Int.reduceLE, Int.reduceLT, Int.reduceToNat, Int.reduceEq, Int.cast_ofNat_Int, List.mem_cons, List.not_mem_nil, List.length_cons, List.length_nil, List.set_cons_zero, List.set_cons_succ, List.toList_toArray, eq_self, true_and, and_true, and_self, or_true, true_or, false_or, or_false, or_self, not_true_eq_false, not_false_eq_true, Classical.not_not, true_implies, false_implies, implies_true, forall_const, and_false, false_and, Nat.le_refl, Nat.zero_le, Bool.false_eq_true, lv_args, s_rl_at, s_gf, s_pf, dn_q, kd_q, cl_q, nf_q, ln_q, tg_q, rr_q, cr_q, u_1, e_lsw, k_ti, List.drop_succ_cons, List.drop_zero, List.drop_nil, List.zip_cons_cons, List.zip_nil_right, List.zip_nil_left, List.all_cons, List.all_nil, Bool.and_true, Bool.and_self, decide_true, decide_false, Option.toList, List.cons_append, List.nil_append, List.append_nil, DX4_nextRow_0, DX4_nextRow_1, FLX4, LDX4, x_le (a := j) (b := j) (by omega) (by omega)]
    exact hx _ rfl
  | succ k ih =>
    intro j on ρ hj ha hx
    refine srnX4_nextRow C Rt [103] 40 ?_
    simp only [k_i, s_go, s_1, e_op, e_pi, e_pl, e_pr, e_p0, e_li, e_ll, e_lr, e_lk, e_ins, e_rm, e_to, e_sw, e_cmp, k_c, k_n, k_f, k_v, k_lg, ↓reduceIte, reduceCtorEq, Nat.reduceAdd, Nat.reduceSub, Nat.reduceMul, Nat.reduceEqDiff, Nat.reduceLT, Nat.reduceLeDiff, Int.reduceAdd, Int.reduceSub, Int.reduceNeg, Int.reduceLE, Int.reduceLT, Int.reduceToNat, Int.reduceEq, Int.cast_ofNat_Int, List.mem_cons, List.not_mem_nil, List.length_cons, List.length_nil, List.set_cons_zero, List.set_cons_succ, List.toList_toArray, eq_self, true_and, and_true, and_self, or_true, true_or, false_or, or_false, or_self, not_true_eq_false, not_false_eq_true, Classical.not_not, true_implies, false_implies, implies_true, forall_const, and_false, false_and, Nat.le_refl, Nat.zero_le, Bool.false_eq_true, lv_args, s_rl_at, s_gf, s_pf, dn_q, kd_q, cl_q, nf_q, ln_q, tg_q, rr_q, cr_q, u_1, e_lsw, k_ti, List.drop_succ_cons, List.drop_zero, List.drop_nil, List.zip_cons_cons, List.zip_nil_right, List.zip_nil_left, List.all_cons, List.all_nil, Bool.and_true, Bool.and_self, decide_true, decide_false, Option.toList, List.cons_append, List.nil_append, List.append_nil, DX4_nextRow_0, DX4_nextRow_1, FLX4, LDX4, rS_1, fS_1, x_le (a := ff) (b := j) (by omega) (by omega), b2i_0, rS_3, fS_3, hi]
    refine ⟨fun h => by omega, fun _ => ⟨fun hf => ?_, fun hf => ?_⟩⟩
    · have hf2 : ρ.2.1 = true := by simpa using hf
      exact hx (j, on, ρ) (by simp [pF, hf2])
    · have hf2 : ¬ ρ.2.1 = true := by rw [hf]; decide
      have e1 : ∀ m ρ, unl ((fS S i kk vl t th dt ct j on).1 qk qi) e m ((fS S i kk vl t th dt ct j on).1 10 i) j ρ = unl (S.1 qk qi) e m on j ρ := by
        intro m ρ
        rw [fS_q hor]
        exact unl_congr (fun z hz => by simp [fS_1, hz])
      refine sX4_nextRow_130 C (m_X4_nextUnlike l A _ (fS_rQ hQ) ha (nI r - 1) (Or.inr rfl) hi (show j ≤ 3 by omega)) (s_obj (show 0 < 1 by decide) rfl) (hcat := Nat.le_of_ble_eq_true rfl) (k := ?_)
      rintro v2 G2 ⟨S2, rfl, rfl, rfl⟩
      rw [e1]
      refine srnX4_nextRow C Rt [103] 40 ?_
      simp only [k_i, s_go, s_1, e_op, e_pi, e_pl, e_pr, e_p0, e_li, e_ll, e_lr, e_lk, e_ins, e_rm, e_to, e_sw, e_cmp, k_c, k_n, k_f, k_v, k_lg, ↓reduceIte, reduceCtorEq, Nat.reduceAdd, Nat.reduceSub, Nat.reduceMul, Nat.reduceEqDiff, Nat.reduceLT, Nat.reduceLeDiff, Int.reduceAdd, Int.reduceSub, Int.reduceNeg, Int.reduceLE, Int.reduceLT, Int.reduceToNat, Int.reduceEq, Int.cast_ofNat_Int, List.mem_cons, List.not_mem_nil, List.length_cons, List.length_nil, List.set_cons_zero, List.set_cons_succ, List.toList_toArray, eq_self, true_and, and_true, and_self, or_true, true_or, false_or, or_false, or_self, not_true_eq_false, not_false_eq_true, Classical.not_not, true_implies, false_implies, implies_true, forall_const, and_false, false_and, Nat.le_refl, Nat.zero_le, Bool.false_eq_true, lv_args, s_rl_at, s_gf, s_pf, dn_q, kd_q, cl_q, nf_q, ln_q, tg_q, rr_q, cr_q, u_1, e_lsw, k_ti, List.drop_succ_cons, List.drop_zero, List.drop_nil, List.zip_cons_cons, List.zip_nil_right, List.zip_nil_left, List.all_cons, List.all_nil, Bool.and_true, Bool.and_self, decide_true, decide_false, Option.toList, List.cons_append, List.nil_append, List.append_nil, DX4_nextRow_0, DX4_nextRow_1, FLX4, LDX4]
      refine sX4_nextRow_133 C (m_X2_addFact l A _ hi (show j < 3 by omega) (by simp [rS_1, fS_1]) _) (s_obj hi rfl) (hcat := Nat.le_of_ble_eq_true rfl) (k := ?_)
      rintro v2 G2 ⟨S2, rfl, rfl, rfl⟩
      rw [fS_adF]
      refine srnX4_nextRow C Rt [103] 40 ?_
      simp only [k_i, s_go, s_1, e_op, e_pi, e_pl, e_pr, e_p0, e_li, e_ll, e_lr, e_lk, e_ins, e_rm, e_to, e_sw, e_cmp, k_c, k_n, k_f, k_v, k_lg, ↓reduceIte, reduceCtorEq, Nat.reduceAdd, Nat.reduceSub, Nat.reduceMul, Nat.reduceEqDiff, Nat.reduceLT, Nat.reduceLeDiff, Int.reduceAdd, Int.reduceSub, Int.reduceNeg, Int.reduceLE, Int.reduceLT, Int.reduceToNat, Int.reduceEq, Int.cast_ofNat_Int, List.mem_cons, List.not_mem_nil, List.length_cons, List.length_nil, List.set_cons_zero, List.set_cons_succ, List.toList_toArray, eq_self, true_and, and_true, and_self, or_true, true_or, false_or, or_false, or_self, not_true_eq_false, not_false_eq_true, Classical.not_not, true_implies, false_implies, implies_true, forall_const, and_false, false_and, Nat.le_refl, Nat.zero_le, Bool.false_eq_true, lv_args, s_rl_at, s_gf, s_pf, dn_q, kd_q, cl_q, nf_q, ln_q, tg_q, rr_q, cr_q, u_1, e_lsw, k_ti, List.drop_succ_cons, List.drop_zero, List.drop_nil, List.zip_cons_cons, List.zip_nil_right, List.zip_nil_left, List.all_cons, List.all_nil, Bool.and_true, Bool.and_self, decide_true, decide_false, Option.toList, List.cons_append, List.nil_append, List.append_nil, DX4_nextRow_0, DX4_nextRow_1, FLX4, LDX4, nI_1]
      refine ih (j + 1) _ _ (by omega) (unl_le ha) (fun F hF => hx F ?_)
      rw [hF, pF, if_neg hf2]
end
set_option maxHeartbeats 4000000 in
set_option maxRecDepth 100000 in
theorem m_X4_nextRow (l : Launch) (A : pA) (S : pS) {qk qi e i r : Nat} {ρ : pR} (hQ : rQ S qk qi e) (ha : ρ.1 ≤ e) (hi : i < 62) : e_MX4_nextRow l [.ref (ad A 17 0), .ref (ad A 6 i), .int (nI r)] (gS A (rS S ρ)) (s_P A (fun v S2 => S2 = rowS S i (S.1 qk qi) e r ρ ∧ v = none)) := by
  have hor := hQ.2.2.2.2.1
  refine ofX4_nextRow (Nat.le_of_ble_eq_true rfl) ?_
  intro V C Rt
  refine srnX4_nextRow C Rt [32, 93, 103] 40 ?_
  simp only [k_i, s_go, s_1, e_op, e_pi, e_pl, e_pr, e_p0, e_li, e_ll, e_lr, e_lk, e_ins, e_rm, e_to, e_sw, e_cmp, k_c, k_n, k_f, k_v, k_lg, ↓reduceIte, reduceCtorEq, Nat.reduceAdd, Nat.reduceSub, Nat.reduceMul, Nat.reduceEqDiff, Nat.reduceLT, Nat.reduceLeDiff, Int.reduceAdd, Int.reduceSub, Int.reduceNeg, Int.reduceLE, Int.reduceLT, Int.reduceToNat, Int.reduceEq, Int.cast_ofNat_Int, List.mem_cons, List.not_mem_nil, List.length_cons, List.length_nil, List.set_cons_zero, List.set_cons_succ, List.toList_toArray, eq_self, true_and, and_true, and_self, or_true, true_or, false_or, or_false, or_self, not_true_eq_false, not_false_eq_true, Classical.not_not, true_implies, false_implies, implies_true, forall_const, and_false, false_and, Nat.le_refl, Nat.zero_le, Bool.false_eq_true, lv_args, s_rl_at, s_gf, s_pf, dn_q, kd_q, cl_q, nf_q, ln_q, tg_q, rr_q, cr_q, u_1, e_lsw, k_ti, List.drop_succ_cons, List.drop_zero, List.drop_nil, List.zip_cons_cons, List.zip_nil_right, List.zip_nil_left, List.all_cons, List.all_nil, Bool.and_true, Bool.and_self, decide_true, decide_false, Option.toList, List.cons_append, List.nil_append, List.append_nil, DX4_nextRow_0, DX4_nextRow_1, FLX4, LDX4]
  refine sX4_nextRow_1 C (m_X2_clear l A _ hi) (s_obj hi rfl) (hcat := Nat.le_of_ble_eq_true rfl) (k := ?_)
  rintro v2 G2 ⟨S2, rfl, rfl, rfl⟩
  rw [fS_clr (th := zF) (dt := zF) (ct := zF) (on := zF)]
  refine srnX4_nextRow C Rt [32, 93, 103] 40 ?_
  simp only [k_i, s_go, s_1, e_op, e_pi, e_pl, e_pr, e_p0, e_li, e_ll, e_lr, e_lk, e_ins, e_rm, e_to, e_sw, e_cmp, k_c, k_n, k_f, k_v, k_lg, ↓reduceIte, reduceCtorEq, Nat.reduceAdd, Nat.reduceSub, Nat.reduceMul, Nat.reduceEqDiff, Nat.reduceLT, Nat.reduceLeDiff, Int.reduceAdd, Int.reduceSub, Int.reduceNeg, Int.reduceLE, Int.reduceLT, Int.reduceToNat, Int.reduceEq, Int.cast_ofNat_Int, List.mem_cons, List.not_mem_nil, List.length_cons, List.length_nil, List.set_cons_zero, List.set_cons_succ, List.toList_toArray, eq_self, true_and, and_true, and_self, or_true, true_or, false_or, or_false, or_self, not_true_eq_false, not_false_eq_true, Classical.not_not, true_implies, false_implies, implies_true, forall_const, and_false, false_and, Nat.le_refl, Nat.zero_le, Bool.false_eq_true, lv_args, s_rl_at, s_gf, s_pf, dn_q, kd_q, cl_q, nf_q, ln_q, tg_q, rr_q, cr_q, u_1, e_lsw, k_ti, List.drop_succ_cons, List.drop_zero, List.drop_nil, List.zip_cons_cons, List.zip_nil_right, List.zip_nil_left, List.all_cons, List.all_nil, Bool.and_true, Bool.and_self, decide_true, decide_false, Option.toList, List.cons_append, List.nil_append, List.append_nil, DX4_nextRow_0, DX4_nextRow_1, FLX4, LDX4]
  refine sX4_nextRow_7 C (m_X4_nextUpTo l A _ (fS_rQ hQ) ha 3) (s_obj (show 0 < 1 by decide) rfl) (hcat := Nat.le_of_ble_eq_true rfl) (k := ?_)
  rintro v2 G2 ⟨S2, rfl, rfl, rfl⟩
  rw [fS_q hor]
  refine srnX4_nextRow C Rt [32, 93, 103] 40 ?_
  simp only [k_i, s_go, s_1, e_op, e_pi, e_pl, e_pr, e_p0, e_li, e_ll, e_lr, e_lk, e_ins, e_rm, e_to, e_sw, e_cmp, k_c, k_n, k_f, k_v, k_lg, ↓reduceIte, reduceCtorEq, Nat.reduceAdd, Nat.reduceSub, Nat.reduceMul, Nat.reduceEqDiff, Nat.reduceLT, Nat.reduceLeDiff, Int.reduceAdd, Int.reduceSub, Int.reduceNeg, Int.reduceLE, Int.reduceLT, Int.reduceToNat, Int.reduceEq, Int.cast_ofNat_Int, List.mem_cons, List.not_mem_nil, List.length_cons, List.length_nil, List.set_cons_zero, List.set_cons_succ, List.toList_toArray, eq_self, true_and, and_true, and_self, or_true, true_or, false_or, or_false, or_self, not_true_eq_false, not_false_eq_true, Classical.not_not, true_implies, false_implies, implies_true, forall_const, and_false, false_and, Nat.le_refl, Nat.zero_le, Bool.false_eq_true, lv_args, s_rl_at, s_gf, s_pf, dn_q, kd_q, cl_q, nf_q, ln_q, tg_q, rr_q, cr_q, u_1, e_lsw, k_ti, List.drop_succ_cons, List.drop_zero, List.drop_nil, List.zip_cons_cons, List.zip_nil_right, List.zip_nil_left, List.all_cons, List.all_nil, Bool.and_true, Bool.and_self, decide_true, decide_false, Option.toList, List.cons_append, List.nil_append, List.append_nil, DX4_nextRow_0, DX4_nextRow_1, FLX4, LDX4, hi, (show (8 : Int32) = nI 8 from rfl)]
  rw [fS_kd]
  refine sX4_nextRow_17 C (m_X4_nextNumber l A _ (fS_rQ hQ) (nxt_le ha) (show 8 ≤ 8 by decide)) (s_obj (show 0 < 1 by decide) rfl) (hcat := Nat.le_of_ble_eq_true rfl) (k := ?_)
  rintro v2 G2 ⟨S2, rfl, rfl, rfl⟩
  rw [fS_q hor]
  refine srnX4_nextRow C Rt [32, 93, 103] 40 ?_
  simp only [k_i, s_go, s_1, e_op, e_pi, e_pl, e_pr, e_p0, e_li, e_ll, e_lr, e_lk, e_ins, e_rm, e_to, e_sw, e_cmp, k_c, k_n, k_f, k_v, k_lg, ↓reduceIte, reduceCtorEq, Nat.reduceAdd, Nat.reduceSub, Nat.reduceMul, Nat.reduceEqDiff, Nat.reduceLT, Nat.reduceLeDiff, Int.reduceAdd, Int.reduceSub, Int.reduceNeg, Int.reduceLE, Int.reduceLT, Int.reduceToNat, Int.reduceEq, Int.cast_ofNat_Int, List.mem_cons, List.not_mem_nil, List.length_cons, List.length_nil, List.set_cons_zero, List.set_cons_succ, List.toList_toArray, eq_self, true_and, and_true, and_self, or_true, true_or, false_or, or_false, or_self, not_true_eq_false, not_false_eq_true, Classical.not_not, true_implies, false_implies, implies_true, forall_const, and_false, false_and, Nat.le_refl, Nat.zero_le, Bool.false_eq_true, lv_args, s_rl_at, s_gf, s_pf, dn_q, kd_q, cl_q, nf_q, ln_q, tg_q, rr_q, cr_q, u_1, e_lsw, k_ti, List.drop_succ_cons, List.drop_zero, List.drop_nil, List.zip_cons_cons, List.zip_nil_right, List.zip_nil_left, List.all_cons, List.all_nil, Bool.and_true, Bool.and_self, decide_true, decide_false, Option.toList, List.cons_append, List.nil_append, List.append_nil, DX4_nextRow_0, DX4_nextRow_1, FLX4, LDX4, hi]
  rw [fS_vl]
  refine sX4_nextRow_25 C (m_X4_nextUpTo l A _ (fS_rQ hQ) (num_le (nxt_le ha)) 4) (s_obj (show 0 < 1 by decide) rfl) (hcat := Nat.le_of_ble_eq_true rfl) (k := ?_)
  rintro v2 G2 ⟨S2, rfl, rfl, rfl⟩
  rw [fS_q hor]
  obtain ⟨tt, ht, et⟩ := nxt_nI (d := S.1 qk qi) (e := e) (m := 4) (M := 4) (ρ := (q2 (S.1 qk qi) e ρ).2) (by decide)
  have et2 : (q3 (S.1 qk qi) e ρ).1 = nI tt := et
  have h3 : (q3 (S.1 qk qi) e ρ).2.1 ≤ e := nxt_le (num_le (nxt_le ha))
  rw [et]
  refine srnX4_nextRow C Rt [32, 93, 103] 40 ?_
  simp only [k_i, s_go, s_1, e_op, e_pi, e_pl, e_pr, e_p0, e_li, e_ll, e_lr, e_lk, e_ins, e_rm, e_to, e_sw, e_cmp, k_c, k_n, k_f, k_v, k_lg, ↓reduceIte, reduceCtorEq, Nat.reduceAdd, Nat.reduceSub, Nat.reduceMul, Nat.reduceEqDiff, Nat.reduceLT, Nat.reduceLeDiff, Int.reduceAdd, Int.reduceSub, Int.reduceNeg, Int.reduceLE, Int.reduceLT, Int.reduceToNat, Int.reduceEq, Int.cast_ofNat_Int, List.mem_cons, List.not_mem_nil, List.length_cons, List.length_nil, List.set_cons_zero, List.set_cons_succ, List.toList_toArray, eq_self, true_and, and_true, and_self, or_true, true_or, false_or, or_false, or_self, not_true_eq_false, not_false_eq_true, Classical.not_not, true_implies, false_implies, implies_true, forall_const, and_false, false_and, Nat.le_refl, Nat.zero_le, Bool.false_eq_true, lv_args, s_rl_at, s_gf, s_pf, dn_q, kd_q, cl_q, nf_q, ln_q, tg_q, rr_q, cr_q, u_1, e_lsw, k_ti, List.drop_succ_cons, List.drop_zero, List.drop_nil, List.zip_cons_cons, List.zip_nil_right, List.zip_nil_left, List.all_cons, List.all_nil, Bool.and_true, Bool.and_self, decide_true, decide_false, Option.toList, List.cons_append, List.nil_append, List.append_nil, DX4_nextRow_0, DX4_nextRow_1, FLX4, LDX4]
  refine lp_rowT C Rt hQ hi ht tt 0 zF zF zF _ (by omega) h3 ?_
  intro T hT
  have hT2 : T = q4 (S.1 qk qi) e ρ := by rw [hT, q4, et2, nN_nI (by omega)]
  rw [hT2]
  have h4 : (q4 (S.1 qk qi) e ρ).2.2.2.2.1 ≤ e := (pT_le h3).1
  refine srnX4_nextRow C Rt [103] 40 ?_
  simp only [k_i, s_go, s_1, e_op, e_pi, e_pl, e_pr, e_p0, e_li, e_ll, e_lr, e_lk, e_ins, e_rm, e_to, e_sw, e_cmp, k_c, k_n, k_f, k_v, k_lg, ↓reduceIte, reduceCtorEq, Nat.reduceAdd, Nat.reduceSub, Nat.reduceMul, Nat.reduceEqDiff, Nat.reduceLT, Nat.reduceLeDiff, Int.reduceAdd, Int.reduceSub, Int.reduceNeg, Int.reduceLE, Int.reduceLT, Int.reduceToNat, Int.reduceEq, Int.cast_ofNat_Int, List.mem_cons, List.not_mem_nil, List.length_cons, List.length_nil, List.set_cons_zero, List.set_cons_succ, List.toList_toArray, eq_self, true_and, and_true, and_self, or_true, true_or, false_or, or_false, or_self, not_true_eq_false, not_false_eq_true, Classical.not_not, true_implies, false_implies, implies_true, forall_const, and_false, false_and, Nat.le_refl, Nat.zero_le, Bool.false_eq_true, lv_args, s_rl_at, s_gf, s_pf, dn_q, kd_q, cl_q, nf_q, ln_q, tg_q, rr_q, cr_q, u_1, e_lsw, k_ti, List.drop_succ_cons, List.drop_zero, List.drop_nil, List.zip_cons_cons, List.zip_nil_right, List.zip_nil_left, List.all_cons, List.all_nil, Bool.and_true, Bool.and_self, decide_true, decide_false, Option.toList, List.cons_append, List.nil_append, List.append_nil, DX4_nextRow_0, DX4_nextRow_1, FLX4, LDX4]
  refine sX4_nextRow_95 C (m_X4_nextUpTo l A _ (fS_rQ hQ) h4 3) (s_obj (show 0 < 1 by decide) rfl) (hcat := Nat.le_of_ble_eq_true rfl) (k := ?_)
  rintro v2 G2 ⟨S2, rfl, rfl, rfl⟩
  rw [fS_q hor]
  obtain ⟨ff, hf, ef⟩ := nxt_nI (d := S.1 qk qi) (e := e) (m := 3) (M := 3) (ρ := (q4 (S.1 qk qi) e ρ).2.2.2.2) (by decide)
  have ef2 : (q5 (S.1 qk qi) e ρ).1 = nI ff := ef
  rw [ef]
  refine srnX4_nextRow C Rt [103] 40 ?_
  simp only [k_i, s_go, s_1, e_op, e_pi, e_pl, e_pr, e_p0, e_li, e_ll, e_lr, e_lk, e_ins, e_rm, e_to, e_sw, e_cmp, k_c, k_n, k_f, k_v, k_lg, ↓reduceIte, reduceCtorEq, Nat.reduceAdd, Nat.reduceSub, Nat.reduceMul, Nat.reduceEqDiff, Nat.reduceLT, Nat.reduceLeDiff, Int.reduceAdd, Int.reduceSub, Int.reduceNeg, Int.reduceLE, Int.reduceLT, Int.reduceToNat, Int.reduceEq, Int.cast_ofNat_Int, List.mem_cons, List.not_mem_nil, List.length_cons, List.length_nil, List.set_cons_zero, List.set_cons_succ, List.toList_toArray, eq_self, true_and, and_true, and_self, or_true, true_or, false_or, or_false, or_self, not_true_eq_false, not_false_eq_true, Classical.not_not, true_implies, false_implies, implies_true, forall_const, and_false, false_and, Nat.le_refl, Nat.zero_le, Bool.false_eq_true, lv_args, s_rl_at, s_gf, s_pf, dn_q, kd_q, cl_q, nf_q, ln_q, tg_q, rr_q, cr_q, u_1, e_lsw, k_ti, List.drop_succ_cons, List.drop_zero, List.drop_nil, List.zip_cons_cons, List.zip_nil_right, List.zip_nil_left, List.all_cons, List.all_nil, Bool.and_true, Bool.and_self, decide_true, decide_false, Option.toList, List.cons_append, List.nil_append, List.append_nil, DX4_nextRow_0, DX4_nextRow_1, FLX4, LDX4]
  refine lp_rowF C Rt hQ hi hf ff 0 zF _ (by omega) (nxt_le h4) ?_
  intro F hF
  have hF2 : F = q6 (S.1 qk qi) e r ρ := by rw [hF, q6, ef2, nN_nI (by omega)]
  rw [hF2]
  exact ⟨rfl, rfl⟩
