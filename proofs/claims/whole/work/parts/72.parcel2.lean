/-! the reference: parcel's facts, rows -/
def seL (s : Int64) (on : Nat → Int32) (j : Nat) : Prop := ∀ x, x < 60 → bit s x = am on (nI x) j
theorem seL_0 {on : Nat → Int32} : seL 0 on 0 := fun x _ => bit_0 x
theorem seL_s {s : Int64} {on : Nat → Int32} {j c : Nat} (h : seL s on j) (hc : c < 60) : seL (s ||| (1 : Int64) <<< ((nI c).toInt64 &&& 63)) (upd on j (nI c)) (j + 1) := by
  intro x hx
  rw [bit_or, bit_1 (by omega), am_upd, h x hx]
  congr 1
  apply decide_eq_decide.mpr
  rw [x_eq (by omega) (by omega)]
theorem nxt_r {d : Nat → Int32} {e r : Nat} {ρ : pR} (hr : r ≤ 60) : ∃ c : Nat, c < 60 ∧ (nxt d e (nI r - 1) ρ).1 = nI c := by
  cases r with
  | zero =>
    unfold nxt
    by_cases hc : ρ.2.1 = true ∨ e ≤ ρ.1 ∨ d ρ.1 < 0 ∨ nI 0 - 1 < d ρ.1
    · rw [if_pos hc]
      exact ⟨0, by omega, rfl⟩
    · exfalso
      have h1 : ¬ d ρ.1 < 0 := fun z => hc (Or.inr (Or.inr (Or.inl z)))
      have h2 : ¬ nI 0 - 1 < d ρ.1 := fun z => hc (Or.inr (Or.inr (Or.inr z)))
      rw [Int32.lt_iff_toInt_lt] at h1 h2
      have h3 : (nI 0 - 1).toInt = -1 := by decide
      have h4 : (0 : Int32).toInt = 0 := by decide
      omega
  | succ r =>
    rw [nI_pred]
    obtain ⟨c, hc, ec⟩ := nxt_nI (d := d) (e := e) (ρ := ρ) (m := nI r) (M := r) (nI_toInt (by omega))
    exact ⟨c, by omega, ec⟩
theorem nfO_u {T : pS} {n k : Nat} {on : Nat → Int32} {x w : Int32} : uI (nfO T n (fun j => on j + w) k) 42 0 (3 * n + k) (x + w) = nfO T n (fun j => upd on k x j + w) (k + 1) := by
  have h := nfO_s (T := T) (n := n) (k := k) (on := fun j => upd on k x j + w)
  rw [upd_eq] at h
  rw [← h, nfO_congr (on := fun j => on j + w) (on2 := fun j => upd on k x j + w) (fun j hj => by rw [upd_lt hj])]
theorem oQ_nfO {T : pS} {d : Nat → Int32} {e n k : Nat} {on : Nat → Int32} (h : oQ T d e) : oQ (nfO T n on k) d e := by
  unfold oQ at h ⊢
  unfold nfO
  rw [uX_oth (by decide), uX_oth (by decide)]
  exact h
theorem nfO_oth {T : pS} {n k k2 : Nat} {on : Nat → Int32} (h : ¬ k2 = 42) : (nfO T n on k).1 k2 = T.1 k2 := by
  unfold nfO
  rw [uX_oth h]
section
variable {V : pV} {l : Launch} {A : pA} {post : Option Value → pS → Prop} {T : pS}
set_option maxHeartbeats 8000000 in
set_option maxRecDepth 100000 in
theorem lp_parF (C : e_CX8_parcel V l) (Rt : e_RX8_parcel V (s_P A post)) {d : Nat → Int32} {e F ff r n : Nat} {kp : Bool} {nn F' kk t8 : Int32} {vl : Int64} {sn : Int32} (hQ : oQ T d e) (hff : ff ≤ 3) (hr : r ≤ 60) (hn : n ≤ 60) (hT3 : T.1 30 0 3 = nI n) (hF : kp = true → F' = nI F ∧ F < 60) : ∀ k j on ρ a b others, j + k = ff → ρ.1 ≤ e → okR ρ a b → (ρ.2.1 = false → seL others on j) → (kp = true → (pF d e (nI r - 1) k j on ρ).2.2.2.1 = false) → (∀ a' b', okR (pF d e (nI r - 1) k j on ρ).2.2 a' b' → V 0 0 365 [(0, .ref (ad A 30 0)), (1, .int (b2i kp)), (2, .int nn), (3, .int (nI r))] [] (gS A (aS (pz kp (nfO T F (fun z => (pF d e (nI r - 1) k j on ρ).2.1 z + nI n) (pF d e (nI r - 1) k j on ρ).1) T) a' b'))) → V 0 0 275 [(0, .ref (ad A 30 0)), (1, .int (b2i kp)), (2, .int nn), (3, .int (nI r)), (4, .int F'), (5, .int kk), (6, .long vl), (8, .int t8), (9, .int sn), (10, .int (nI ff)), (11, .long others), (13, .int (nI j))] [] (gS A (aS (pz kp (nfO T F (fun z => on z + nI n) j) T) a b)) := by
  intro k
  induction k with
  | zero =>
    intro j on ρ a b others hj ha hok hse hs hx
    have hj2 : j = ff := by omega
    refine srnX8_parcel C Rt [275, 365] 40 ?_
    simp only [k_i, s_go, s_1, e_op, e_pi, e_pl, e_pr, e_p0, e_li, e_ll, e_lr, e_lk, e_ins, e_rm, e_to, e_sw, e_cmp, k_c, k_n, k_f, k_v, k_lg, ↓reduceIte, reduceCtorEq, Nat.reduceAdd, Nat.reduceSub, Nat.reduceMul, Nat.reduceEqDiff, Nat.reduceLT, Nat.reduceLeDiff, Int.reduceAdd, Int.reduceSub, Int.reduceNeg, Int.reduceLE, Int.reduceLT, Int.reduceToNat, Int.reduceEq, Int.cast_ofNat_Int, List.mem_cons, List.not_mem_nil, List.length_cons, List.length_nil, List.set_cons_zero, List.set_cons_succ, List.toList_toArray, eq_self, true_and, and_true, and_self, or_true, true_or, false_or, or_false, or_self, not_true_eq_false, not_false_eq_true, Classical.not_not, true_implies, false_implies, implies_true, forall_const, and_false, false_and, Nat.le_refl, Nat.zero_le, Bool.false_eq_true, lv_args, s_rl_at, s_gf, s_pf, dn_q, kd_q, cl_q, nf_q, ln_q, tg_q, rr_q, cr_q, u_1, e_lsw, k_ti, List.drop_succ_cons, List.drop_zero, List.drop_nil, List.zip_cons_cons, List.zip_nil_right, List.zip_nil_left, List.all_cons, List.all_nil, Bool.and_true, Bool.and_self, decide_true, decide_false, Option.toList, List.cons_append, List.nil_append, List.append_nil, DX8_parcel_0, DX8_parcel_1, DX8_parcel_2, DX8_parcel_3, DX8_parcel_4, DX8_parcel_5, FLX8, LDX8, x_le (a := ff) (b := j) (by omega) (by omega), (show ff ≤ j by omega)]
    exact w_pre C (hx a b hok)
  | succ k ih =>
    intro j on ρ a b others hj ha hok hse hs hx
    have hQ2 : oQ (pz kp (nfO T F (fun z => on z + nI n) j) T) d e := oQ_pz (oQ_nfO hQ) hQ
    have he := hQ.2.1
    refine srnX8_parcel C Rt [275, 365] 40 ?_
    simp only [k_i, s_go, s_1, e_op, e_pi, e_pl, e_pr, e_p0, e_li, e_ll, e_lr, e_lk, e_ins, e_rm, e_to, e_sw, e_cmp, k_c, k_n, k_f, k_v, k_lg, ↓reduceIte, reduceCtorEq, Nat.reduceAdd, Nat.reduceSub, Nat.reduceMul, Nat.reduceEqDiff, Nat.reduceLT, Nat.reduceLeDiff, Int.reduceAdd, Int.reduceSub, Int.reduceNeg, Int.reduceLE, Int.reduceLT, Int.reduceToNat, Int.reduceEq, Int.cast_ofNat_Int, List.mem_cons, List.not_mem_nil, List.length_cons, List.length_nil, List.set_cons_zero, List.set_cons_succ, List.toList_toArray, eq_self, true_and, and_true, and_self, or_true, true_or, false_or, or_false, or_self, not_true_eq_false, not_false_eq_true, Classical.not_not, true_implies, false_implies, implies_true, forall_const, and_false, false_and, Nat.le_refl, Nat.zero_le, Bool.false_eq_true, lv_args, s_rl_at, s_gf, s_pf, dn_q, kd_q, cl_q, nf_q, ln_q, tg_q, rr_q, cr_q, u_1, e_lsw, k_ti, List.drop_succ_cons, List.drop_zero, List.drop_nil, List.zip_cons_cons, List.zip_nil_right, List.zip_nil_left, List.all_cons, List.all_nil, Bool.and_true, Bool.and_self, decide_true, decide_false, Option.toList, List.cons_append, List.nil_append, List.append_nil, DX8_parcel_0, DX8_parcel_1, DX8_parcel_2, DX8_parcel_3, DX8_parcel_4, DX8_parcel_5, FLX8, LDX8, x_le (a := ff) (b := j) (by omega) (by omega)]
    refine ⟨fun h => by omega, fun _ => ?_⟩
    refine sX8_parcel_286 C (m_X8_next l A _ hQ2 ha hok (nI r - 1)) (s_obj (show 0 < 1 by decide) rfl) (hcat := Nat.le_of_ble_eq_true rfl) (k := ?_)
    rintro v2 G2 ⟨S2, rfl, a1, b1, rfl, hok1, rfl⟩
    obtain ⟨c, hc, ec⟩ := nxt_r (d := d) (e := e) (ρ := ρ) hr
    rw [ec]
    have h327 : ∀ b2 : Int32, okR (unl d e (nI r - 1) on j ρ).2 a1 b2 → V 0 0 327 [(0, .ref (ad A 30 0)), (1, .int (b2i kp)), (2, .int nn), (3, .int (nI r)), (4, .int F'), (5, .int kk), (6, .long vl), (8, .int t8), (9, .int sn), (10, .int (nI ff)), (11, .long others), (13, .int (nI j)), (14, .int (nI c))] [] (gS A (aS (pz kp (nfO T F (fun z => on z + nI n) j) T) a1 b2)) := by
      intro b2 hok2
      have hse2 : (unl d e (nI r - 1) on j ρ).2.2.1 = false → seL (others ||| (1 : Int64) <<< ((nI c).toInt64 &&& 63)) (upd on j (unl d e (nI r - 1) on j ρ).1) (j + 1) ∧ (unl d e (nI r - 1) on j ρ).1 = nI c := by
        intro h
        have h5 := unl_f h
        have h6 : (nxt d e (nI r - 1) ρ).2.2.1 = false := by rw [← h5.1]; exact h
        rw [h5.1, ec]
        exact ⟨seL_s (hse (nxt_f h6).1) hc, rfl⟩
      cases kp with
      | false =>
        refine srnX8_parcel C Rt [275] 40 ?_
        simp only [k_i, s_go, s_1, e_op, e_pi, e_pl, e_pr, e_p0, e_li, e_ll, e_lr, e_lk, e_ins, e_rm, e_to, e_sw, e_cmp, k_c, k_n, k_f, k_v, k_lg, ↓reduceIte, reduceCtorEq, Nat.reduceAdd, Nat.reduceSub, Nat.reduceMul, Nat.reduceEqDiff, Nat.reduceLT, Nat.reduceLeDiff, Int.reduceAdd, Int.reduceSub, Int.reduceNeg, Int.reduceLE, Int.reduceLT, Int.reduceToNat, Int.reduceEq, Int.cast_ofNat_Int, List.mem_cons, List.not_mem_nil, List.length_cons, List.length_nil, List.set_cons_zero, List.set_cons_succ, List.toList_toArray, eq_self, true_and, and_true, and_self, or_true, true_or, false_or, or_false, or_self, not_true_eq_false, not_false_eq_true, Classical.not_not, true_implies, false_implies, implies_true, forall_const, and_false, false_and, Nat.le_refl, Nat.zero_le, Bool.false_eq_true, lv_args, s_rl_at, s_gf, s_pf, dn_q, kd_q, cl_q, nf_q, ln_q, tg_q, rr_q, cr_q, u_1, e_lsw, k_ti, List.drop_succ_cons, List.drop_zero, List.drop_nil, List.zip_cons_cons, List.zip_nil_right, List.zip_nil_left, List.all_cons, List.all_nil, Bool.and_true, Bool.and_self, decide_true, decide_false, Option.toList, List.cons_append, List.nil_append, List.append_nil, DX8_parcel_0, DX8_parcel_1, DX8_parcel_2, DX8_parcel_3, DX8_parcel_4, DX8_parcel_5, FLX8, LDX8, b2i_f, nI_1]
        refine w_pre C (ih (j + 1) _ _ a1 b2 _ (by omega) (unl_le ha) hok2 (fun h => (hse2 h).1) (fun h => by cases h) ?_)
        intro a' b' ho
        refine hx a' b' ?_
        cases hf : ρ.2.1 with
        | true =>
          rw [unl_t hf, pF_t hf] at ho
          rw [pF_t hf]
          exact ho
        | false =>
          rw [pF_s hf]
          exact ho
      | true =>
        obtain ⟨eF, hF60⟩ := hF rfl
        have hfin := hs rfl
        have hf := pF_f hfin
        rw [pF_s hf] at hfin hx
        have h5 := hse2 (pF_f hfin)
        have h9 := ih (j + 1) _ _ a1 b2 _ (by omega) (unl_le ha) hok2 (fun h => (hse2 h).1) (fun _ => hfin) hx
        rw [h5.2] at h9
        rw [eF]
        rw [eF] at h9
        have h30 : (pz true (nfO T F (fun z => on z + nI n) j) T).1 30 0 3 = nI n := by
          show (nfO T F (fun z => on z + nI n) j).1 30 0 3 = nI n
          rw [nfO_oth (by decide), hT3]
        refine srnX8_parcel C Rt [275] 60 ?_
        simp only [k_i, s_go, s_1, e_op, e_pi, e_pl, e_pr, e_p0, e_li, e_ll, e_lr, e_lk, e_ins, e_rm, e_to, e_sw, e_cmp, k_c, k_n, k_f, k_v, k_lg, ↓reduceIte, reduceCtorEq, Nat.reduceAdd, Nat.reduceSub, Nat.reduceMul, Nat.reduceEqDiff, Nat.reduceLT, Nat.reduceLeDiff, Int.reduceAdd, Int.reduceSub, Int.reduceNeg, Int.reduceLE, Int.reduceLT, Int.reduceToNat, Int.reduceEq, Int.cast_ofNat_Int, List.mem_cons, List.not_mem_nil, List.length_cons, List.length_nil, List.set_cons_zero, List.set_cons_succ, List.toList_toArray, eq_self, true_and, and_true, and_self, or_true, true_or, false_or, or_false, or_self, not_true_eq_false, not_false_eq_true, Classical.not_not, true_implies, false_implies, implies_true, forall_const, and_false, false_and, Nat.le_refl, Nat.zero_le, Bool.false_eq_true, lv_args, s_rl_at, s_gf, s_pf, dn_q, kd_q, cl_q, nf_q, ln_q, tg_q, rr_q, cr_q, u_1, e_lsw, k_ti, List.drop_succ_cons, List.drop_zero, List.drop_nil, List.zip_cons_cons, List.zip_nil_right, List.zip_nil_left, List.all_cons, List.all_nil, Bool.and_true, Bool.and_self, decide_true, decide_false, Option.toList, List.cons_append, List.nil_append, List.append_nil, DX8_parcel_0, DX8_parcel_1, DX8_parcel_2, DX8_parcel_3, DX8_parcel_4, DX8_parcel_5, FLX8, LDX8, b2i_t, aS_1, aS_2, h30, (show (3 : Int32) = nI 3 from rfl), pk_mul, nI_add, x_cl (a := 3 * F + j) (by omega), x_in (a := 3 * F + j) (n := 180) (by omega), nI_1]
        refine ⟨by omega, ?_⟩
        rw [aS_uI (by decide)]
        have e9 : uI (pz true (nfO T F (fun z => on z + nI n) j) T) 42 0 (3 * F + j) (nI (n + c)) = pz true (nfO T F (fun z => upd on j (nI c) z + nI n) (j + 1)) T := by
          have := nfO_u (T := T) (n := F) (k := j) (on := on) (x := nI c) (w := nI n)
          rw [nI_add, Nat.add_comm c n] at this
          exact this
        rw [e9]
        exact w_pre C h9
    have hneg : (nxt d e (nI r - 1) ρ).2.2.1 = false → b1 = -1 := fun h => (hok1.1 h).2
    have hpos : (nxt d e (nI r - 1) ρ).2.2.1 = true → ¬ b1 < 0 := fun h => by
      rw [hok1.2 h]
      have := nxt_le (d := d) (m := nI r - 1) ha
      exact nI_pos (by omega)
    have hbit : (nxt d e (nI r - 1) ρ).2.2.1 = false → ((others >>> ((nI c).toInt64 &&& 63) &&& 1 = 1) ↔ am on (d ρ.1) j = true) := by
      intro h
      obtain ⟨g1, g2, g3, g4, g5⟩ := nxt_f h
      have hdc : d ρ.1 = nI c := by rw [← ec, g5]
      rw [shr_J (by omega), hse g1 c hc, hdc]
    refine srnX8_parcel C Rt [327] 40 ?_
    simp only [k_i, s_go, s_1, e_op, e_pi, e_pl, e_pr, e_p0, e_li, e_ll, e_lr, e_lk, e_ins, e_rm, e_to, e_sw, e_cmp, k_c, k_n, k_f, k_v, k_lg, ↓reduceIte, reduceCtorEq, Nat.reduceAdd, Nat.reduceSub, Nat.reduceMul, Nat.reduceEqDiff, Nat.reduceLT, Nat.reduceLeDiff, Int.reduceAdd, Int.reduceSub, Int.reduceNeg, Int.reduceLE, Int.reduceLT, Int.reduceToNat, Int.reduceEq, Int.cast_ofNat_Int, List.mem_cons, List.not_mem_nil, List.length_cons, List.length_nil, List.set_cons_zero, List.set_cons_succ, List.toList_toArray, eq_self, true_and, and_true, and_self, or_true, true_or, false_or, or_false, or_self, not_true_eq_false, not_false_eq_true, Classical.not_not, true_implies, false_implies, implies_true, forall_const, and_false, false_and, Nat.le_refl, Nat.zero_le, Bool.false_eq_true, lv_args, s_rl_at, s_gf, s_pf, dn_q, kd_q, cl_q, nf_q, ln_q, tg_q, rr_q, cr_q, u_1, e_lsw, k_ti, List.drop_succ_cons, List.drop_zero, List.drop_nil, List.zip_cons_cons, List.zip_nil_right, List.zip_nil_left, List.all_cons, List.all_nil, Bool.and_true, Bool.and_self, decide_true, decide_false, Option.toList, List.cons_append, List.nil_append, List.append_nil, DX8_parcel_0, DX8_parcel_1, DX8_parcel_2, DX8_parcel_3, DX8_parcel_4, DX8_parcel_5, FLX8, LDX8, aS_1, aS_2]
    rw [aS_b, aS_b]
    refine ⟨fun h => h327 _ ?_, fun h => ⟨fun h2 => h327 _ ?_, fun h2 => h327 _ ?_⟩⟩
    · refine unl_ok he ha hok1 b1 (fun h3 => ?_) (fun _ _ => rfl) (fun _ => rfl)
      rw [hneg h3] at h
      exact absurd h (by decide)
    · refine unl_ok he ha hok1 b1 (fun h3 h4 => absurd ((hbit h3).mpr h4) h2) (fun _ _ => rfl) (fun _ => rfl)
    · refine unl_ok he ha hok1 (a1 - 1) (fun _ _ => rfl) (fun h3 h4 => ?_) (fun h3 => absurd (Int32.not_le.mp h) (hpos h3))
      rw [(hbit h3).mp h2] at h4
      cases h4
end
/-- rows read by the reference: fact F's tables -/
def rwA0 (T : pS) (F : Nat) (d : Nat → Int32) (e : Nat) (ρ : pR) : pS := uI (uI (uI (uJ (uI T 35 0 F (q1 d e ρ).1) 36 0 F (q2 d e ρ).1) 37 0 F (q3 d e ρ).1) 43 0 F 0) 44 0 F 0
def rwB0 (T : pS) (F : Nat) (d : Nat → Int32) (e : Nat) (ρ : pR) : pS := uI (nfT (rwA0 T F d e ρ) F (q4 d e ρ).2.1 (q4 d e ρ).2.2.1 (q4 d e ρ).2.2.2.1 (q4 d e ρ).1) 41 0 F (q5 d e ρ).1
def rwT (T : pS) (n F : Nat) (d : Nat → Int32) (e r : Nat) (ρ : pR) : pS := nfO (rwB0 T F d e ρ) F (fun z => (q6 d e r ρ).2.1 z + nI n) (q6 d e r ρ).1
def tkR (d : Nat → Int32) (e : Nat) : Nat → Nat → pR → pR
  | 0, _, ρ => ρ
  | k + 1, i, ρ => if ρ.2.1 = true then ρ else tkR d e k (i + 1) (rowR d e i ρ)
def tkT (n : Nat) (d : Nat → Int32) (e : Nat) : Nat → Nat → pS → pR → pS
  | 0, _, T, _ => T
  | k + 1, i, T, ρ => tkT n d e k (i + 1) (rwT T n (n + i) d e i ρ) (rowR d e i ρ)
theorem tk_R {n : Nat} {d : Nat → Int32} {e : Nat} : ∀ {k i : Nat} {S : pS} {ρ : pR}, (tk n d e k i S ρ).2 = tkR d e k i ρ
  | 0, _, _, _ => rfl
  | k + 1, i, S, ρ => by
    unfold tk tkR
    split
    · rfl
    · exact tk_R
theorem tkR_t {d : Nat → Int32} {e : Nat} {ρ : pR} (h : ρ.2.1 = true) : ∀ {k i : Nat}, tkR d e k i ρ = ρ
  | 0, _ => rfl
  | k + 1, i => by rw [tkR, if_pos h]
theorem tkR_f {d : Nat → Int32} {e : Nat} {ρ : pR} {k i : Nat} (h : (tkR d e k i ρ).2.1 = false) : ρ.2.1 = false := by
  apply nf2
  intro h2
  rw [tkR_t h2, h2] at h
  cases h
theorem oQ_u {T : pS} {d : Nat → Int32} {e k i j : Nat} {v : Int32} (h1 : ¬ k = 30) (h2 : ¬ k = 68) (h : oQ T d e) : oQ (uI T k i j v) d e := by
  unfold oQ at h ⊢
  have e1 : ∀ k2, ¬ k = k2 → (uI T k i j v).1 k2 = T.1 k2 := fun k2 hk => by
    funext i' j'
    simp only [u_1]
    rw [if_neg (fun z => hk z.1.symm)]
  rw [e1 30 h1, e1 68 h2]
  exact h
theorem oQ_A0 {T : pS} {F : Nat} {d : Nat → Int32} {e : Nat} {ρ : pR} (h : oQ T d e) : oQ (rwA0 T F d e ρ) d e := by
  have h1 : oQ (uI T 35 0 F (q1 d e ρ).1) d e := oQ_u (by decide) (by decide) h
  have h2 : oQ (uJ (uI T 35 0 F (q1 d e ρ).1) 36 0 F (q2 d e ρ).1) d e := h1
  exact oQ_u (by decide) (by decide) (oQ_u (by decide) (by decide) (oQ_u (by decide) (by decide) h2))
theorem oQ_B0 {T : pS} {F : Nat} {d : Nat → Int32} {e : Nat} {ρ : pR} (h : oQ T d e) : oQ (rwB0 T F d e ρ) d e := oQ_u (by decide) (by decide) (oQ_nfT (oQ_A0 h))
theorem oQ_T {T : pS} {n F : Nat} {d : Nat → Int32} {e r : Nat} {ρ : pR} (h : oQ T d e) : oQ (rwT T n F d e r ρ) d e := oQ_nfO (oQ_B0 h)
theorem f3_A0 {T : pS} {F : Nat} {d : Nat → Int32} {e : Nat} {ρ : pR} : (rwA0 T F d e ρ).1 30 0 3 = T.1 30 0 3 := rfl
theorem f3_B0 {T : pS} {F : Nat} {d : Nat → Int32} {e : Nat} {ρ : pR} : (rwB0 T F d e ρ).1 30 0 3 = T.1 30 0 3 := by
  show (nfT (rwA0 T F d e ρ) F (q4 d e ρ).2.1 (q4 d e ρ).2.2.1 (q4 d e ρ).2.2.2.1 (q4 d e ρ).1).1 30 0 3 = _
  rw [nfT_oth (by decide) (by decide) (by decide)]
  rfl
theorem f3_T {T : pS} {n F : Nat} {d : Nat → Int32} {e r : Nat} {ρ : pR} : (rwT T n F d e r ρ).1 30 0 3 = T.1 30 0 3 := by
  unfold rwT
  rw [nfO_oth (by decide), f3_B0]
theorem nfT_0 {T : pS} {kp : Bool} {n : Nat} {th dt ct : Nat → Int32} : pz kp (nfT T n th dt ct 0) T = T := by
  have e0 : nfT T n th dt ct 0 = T := by
    unfold nfT
    rw [uX_id (fun j => by rw [uX_oth (by decide), uX_oth (by decide), if_neg (by omega)]), uX_id (fun j => by rw [uX_oth (by decide), if_neg (by omega)]), uX_id (fun j => by rw [if_neg (by omega)])]
  unfold pz
  rw [e0]
  split <;> rfl
theorem nfO_0 {T : pS} {kp : Bool} {n : Nat} {on : Nat → Int32} : pz kp (nfO T n on 0) T = T := by
  have e0 : nfO T n on 0 = T := by
    unfold nfO
    rw [uX_id (fun j => by rw [if_neg (by omega)])]
  unfold pz
  rw [e0]
  split <;> rfl
section
variable {V : pV} {l : Launch} {A : pA} {post : Option Value → pS → Prop}
set_option maxHeartbeats 8000000 in
set_option maxRecDepth 100000 in
theorem lp_parR (C : e_CX8_parcel V l) (Rt : e_RX8_parcel V (s_P A post)) {d : Nat → Int32} {e m n : Nat} {kp : Bool} (hm : m ≤ 60) (hn : n ≤ 60) : ∀ k i T ρ a b, i + k = m → ρ.1 ≤ e → okR ρ a b → oQ T d e → T.1 30 0 3 = nI n → (kp = true → n + m ≤ 60 ∧ (tkR d e k i ρ).2.1 = false) → (∀ a' b', okR (tkR d e k i ρ) a' b' → post (some (.int (nI m))) (aS (pz kp (tkT n d e k i T ρ) T) a' b')) → V 0 0 19 [(0, .ref (ad A 30 0)), (1, .int (b2i kp)), (2, .int (nI m)), (3, .int (nI i))] [] (gS A (aS T a b)) := by
  intro k
  induction k with
  | zero =>
    intro i T ρ a b hi ha hok hQ hT3 hs hp
    have hi2 : i = m := by omega
    subst hi2
    refine srnX8_parcel C Rt [19] 40 ?_
    simp only [k_i, s_go, s_1, e_op, e_pi, e_pl, e_pr, e_p0, e_li, e_ll, e_lr, e_lk, e_ins, e_rm, e_to, e_sw, e_cmp, k_c, k_n, k_f, k_v, k_lg, ↓reduceIte, reduceCtorEq, Nat.reduceAdd, Nat.reduceSub, Nat.reduceMul, Nat.reduceEqDiff, Nat.reduceLT, Nat.reduceLeDiff, Int.reduceAdd, Int.reduceSub, Int.reduceNeg, Int.reduceLE, Int.reduceLT, Int.reduceToNat, Int.reduceEq, Int.cast_ofNat_Int, List.mem_cons, List.not_mem_nil, List.length_cons, List.length_nil, List.set_cons_zero, List.set_cons_succ, List.toList_toArray, eq_self, true_and, and_true, and_self, or_true, true_or, false_or, or_false, or_self, not_true_eq_false, not_false_eq_true, Classical.not_not, true_implies, false_implies, implies_true, forall_const, and_false, false_and, Nat.le_refl, Nat.zero_le, Bool.false_eq_true, lv_args, s_rl_at, s_gf, s_pf, dn_q, kd_q, cl_q, nf_q, ln_q, tg_q, rr_q, cr_q, u_1, e_lsw, k_ti, List.drop_succ_cons, List.drop_zero, List.drop_nil, List.zip_cons_cons, List.zip_nil_right, List.zip_nil_left, List.all_cons, List.all_nil, Bool.and_true, Bool.and_self, decide_true, decide_false, Option.toList, List.cons_append, List.nil_append, List.append_nil, DX8_parcel_0, DX8_parcel_1, DX8_parcel_2, DX8_parcel_3, DX8_parcel_4, DX8_parcel_5, FLX8, LDX8, x_le (a := i) (b := i) (by omega) (by omega)]
    have h9 := hp a b hok
    unfold pz at h9
    unfold tkT at h9
    rw [ite_self] at h9
    exact h9
  | succ k ih =>
    intro i T ρ a b hi ha hok hQ hT3 hs hp
    have he := hQ.2.1
    cases hf : ρ.2.1 with
    | true =>
      have hb := hok.2 hf
      have hb0 : (0 : Int32) ≤ b := by
        rw [hb]
        exact Int32.not_lt.mp (nI_pos (by omega))
      refine srnX8_parcel C Rt [] 40 ?_
      simp only [k_i, s_go, s_1, e_op, e_pi, e_pl, e_pr, e_p0, e_li, e_ll, e_lr, e_lk, e_ins, e_rm, e_to, e_sw, e_cmp, k_c, k_n, k_f, k_v, k_lg, ↓reduceIte, reduceCtorEq, Nat.reduceAdd, Nat.reduceSub, Nat.reduceMul, Nat.reduceEqDiff, Nat.reduceLT, Nat.reduceLeDiff, Int.reduceAdd, Int.reduceSub, Int.reduceNeg, Int.reduceLE, Int.reduceLT, Int.reduceToNat, Int.reduceEq, Int.cast_ofNat_Int, List.mem_cons, List.not_mem_nil, List.length_cons, List.length_nil, List.set_cons_zero, List.set_cons_succ, List.toList_toArray, eq_self, true_and, and_true, and_self, or_true, true_or, false_or, or_false, or_self, not_true_eq_false, not_false_eq_true, Classical.not_not, true_implies, false_implies, implies_true, forall_const, and_false, false_and, Nat.le_refl, Nat.zero_le, Bool.false_eq_true, lv_args, s_rl_at, s_gf, s_pf, dn_q, kd_q, cl_q, nf_q, ln_q, tg_q, rr_q, cr_q, u_1, e_lsw, k_ti, List.drop_succ_cons, List.drop_zero, List.drop_nil, List.zip_cons_cons, List.zip_nil_right, List.zip_nil_left, List.all_cons, List.all_nil, Bool.and_true, Bool.and_self, decide_true, decide_false, Option.toList, List.cons_append, List.nil_append, List.append_nil, DX8_parcel_0, DX8_parcel_1, DX8_parcel_2, DX8_parcel_3, DX8_parcel_4, DX8_parcel_5, FLX8, LDX8, aS_1, aS_2, x_le (a := m) (b := i) (by omega) (by omega), hb0]
      refine ⟨fun h => by omega, fun _ => ?_⟩
      cases kp with
      | false =>
        exact hp a b (by rw [tkR_t hf]; exact hok)
      | true =>
        have := (hs rfl).2
        rw [tkR_t hf, hf] at this
        cases this
    | false =>
      obtain ⟨hA, hb⟩ := hok.1 hf
      have hneg : ¬ (0 : Int32) ≤ b := by rw [hb]; decide
      refine srnX8_parcel C Rt [31] 40 ?_
      simp only [k_i, s_go, s_1, e_op, e_pi, e_pl, e_pr, e_p0, e_li, e_ll, e_lr, e_lk, e_ins, e_rm, e_to, e_sw, e_cmp, k_c, k_n, k_f, k_v, k_lg, ↓reduceIte, reduceCtorEq, Nat.reduceAdd, Nat.reduceSub, Nat.reduceMul, Nat.reduceEqDiff, Nat.reduceLT, Nat.reduceLeDiff, Int.reduceAdd, Int.reduceSub, Int.reduceNeg, Int.reduceLE, Int.reduceLT, Int.reduceToNat, Int.reduceEq, Int.cast_ofNat_Int, List.mem_cons, List.not_mem_nil, List.length_cons, List.length_nil, List.set_cons_zero, List.set_cons_succ, List.toList_toArray, eq_self, true_and, and_true, and_self, or_true, true_or, false_or, or_false, or_self, not_true_eq_false, not_false_eq_true, Classical.not_not, true_implies, false_implies, implies_true, forall_const, and_false, false_and, Nat.le_refl, Nat.zero_le, Bool.false_eq_true, lv_args, s_rl_at, s_gf, s_pf, dn_q, kd_q, cl_q, nf_q, ln_q, tg_q, rr_q, cr_q, u_1, e_lsw, k_ti, List.drop_succ_cons, List.drop_zero, List.drop_nil, List.zip_cons_cons, List.zip_nil_right, List.zip_nil_left, List.all_cons, List.all_nil, Bool.and_true, Bool.and_self, decide_true, decide_false, Option.toList, List.cons_append, List.nil_append, List.append_nil, DX8_parcel_0, DX8_parcel_1, DX8_parcel_2, DX8_parcel_3, DX8_parcel_4, DX8_parcel_5, FLX8, LDX8, aS_1, aS_2, x_le (a := m) (b := i) (by omega) (by omega), hneg]
      refine ⟨fun h => by omega, fun _ => ?_⟩
      cases kp with
      | false =>
        have h3n : T.1 30 0 3 = nI n := hT3
        refine srnX8_parcel C Rt [] 40 ?_
        simp only [k_i, s_go, s_1, e_op, e_pi, e_pl, e_pr, e_p0, e_li, e_ll, e_lr, e_lk, e_ins, e_rm, e_to, e_sw, e_cmp, k_c, k_n, k_f, k_v, k_lg, ↓reduceIte, reduceCtorEq, Nat.reduceAdd, Nat.reduceSub, Nat.reduceMul, Nat.reduceEqDiff, Nat.reduceLT, Nat.reduceLeDiff, Int.reduceAdd, Int.reduceSub, Int.reduceNeg, Int.reduceLE, Int.reduceLT, Int.reduceToNat, Int.reduceEq, Int.cast_ofNat_Int, List.mem_cons, List.not_mem_nil, List.length_cons, List.length_nil, List.set_cons_zero, List.set_cons_succ, List.toList_toArray, eq_self, true_and, and_true, and_self, or_true, true_or, false_or, or_false, or_self, not_true_eq_false, not_false_eq_true, Classical.not_not, true_implies, false_implies, implies_true, forall_const, and_false, false_and, Nat.le_refl, Nat.zero_le, Bool.false_eq_true, lv_args, s_rl_at, s_gf, s_pf, dn_q, kd_q, cl_q, nf_q, ln_q, tg_q, rr_q, cr_q, u_1, e_lsw, k_ti, List.drop_succ_cons, List.drop_zero, List.drop_nil, List.zip_cons_cons, List.zip_nil_right, List.zip_nil_left, List.all_cons, List.all_nil, Bool.and_true, Bool.and_self, decide_true, decide_false, Option.toList, List.cons_append, List.nil_append, List.append_nil, DX8_parcel_0, DX8_parcel_1, DX8_parcel_2, DX8_parcel_3, DX8_parcel_4, DX8_parcel_5, FLX8, LDX8, aS_1, aS_2, b2i_f, h3n, nI_add]
        refine sX8_parcel_49 C (m_X8_next l A T hQ ha hok 3) (s_obj (show 0 < 1 by decide) rfl) (hcat := Nat.le_of_ble_eq_true rfl) (k := ?_)
        rintro v2 G2 ⟨S2, rfl, a1, b1, rfl, hok1, rfl⟩
        refine srnX8_parcel C Rt [] 40 ?_
        simp only [k_i, s_go, s_1, e_op, e_pi, e_pl, e_pr, e_p0, e_li, e_ll, e_lr, e_lk, e_ins, e_rm, e_to, e_sw, e_cmp, k_c, k_n, k_f, k_v, k_lg, ↓reduceIte, reduceCtorEq, Nat.reduceAdd, Nat.reduceSub, Nat.reduceMul, Nat.reduceEqDiff, Nat.reduceLT, Nat.reduceLeDiff, Int.reduceAdd, Int.reduceSub, Int.reduceNeg, Int.reduceLE, Int.reduceLT, Int.reduceToNat, Int.reduceEq, Int.cast_ofNat_Int, List.mem_cons, List.not_mem_nil, List.length_cons, List.length_nil, List.set_cons_zero, List.set_cons_succ, List.toList_toArray, eq_self, true_and, and_true, and_self, or_true, true_or, false_or, or_false, or_self, not_true_eq_false, not_false_eq_true, Classical.not_not, true_implies, false_implies, implies_true, forall_const, and_false, false_and, Nat.le_refl, Nat.zero_le, Bool.false_eq_true, lv_args, s_rl_at, s_gf, s_pf, dn_q, kd_q, cl_q, nf_q, ln_q, tg_q, rr_q, cr_q, u_1, e_lsw, k_ti, List.drop_succ_cons, List.drop_zero, List.drop_nil, List.zip_cons_cons, List.zip_nil_right, List.zip_nil_left, List.all_cons, List.all_nil, Bool.and_true, Bool.and_self, decide_true, decide_false, Option.toList, List.cons_append, List.nil_append, List.append_nil, DX8_parcel_0, DX8_parcel_1, DX8_parcel_2, DX8_parcel_3, DX8_parcel_4, DX8_parcel_5, FLX8, LDX8, (show (8 : Int32) = nI 8 from rfl)]
        refine sX8_parcel_57 C (m_X8_nextBytes l A T hQ (nxt_le ha) hok1 (by decide)) (s_obj (show 0 < 1 by decide) rfl) (hcat := Nat.le_of_ble_eq_true rfl) (k := ?_)
        rintro v2 G2 ⟨S2, rfl, a2, b2, rfl, hok2, rfl⟩
        refine srnX8_parcel C Rt [] 40 ?_
        simp only [k_i, s_go, s_1, e_op, e_pi, e_pl, e_pr, e_p0, e_li, e_ll, e_lr, e_lk, e_ins, e_rm, e_to, e_sw, e_cmp, k_c, k_n, k_f, k_v, k_lg, ↓reduceIte, reduceCtorEq, Nat.reduceAdd, Nat.reduceSub, Nat.reduceMul, Nat.reduceEqDiff, Nat.reduceLT, Nat.reduceLeDiff, Int.reduceAdd, Int.reduceSub, Int.reduceNeg, Int.reduceLE, Int.reduceLT, Int.reduceToNat, Int.reduceEq, Int.cast_ofNat_Int, List.mem_cons, List.not_mem_nil, List.length_cons, List.length_nil, List.set_cons_zero, List.set_cons_succ, List.toList_toArray, eq_self, true_and, and_true, and_self, or_true, true_or, false_or, or_false, or_self, not_true_eq_false, not_false_eq_true, Classical.not_not, true_implies, false_implies, implies_true, forall_const, and_false, false_and, Nat.le_refl, Nat.zero_le, Bool.false_eq_true, lv_args, s_rl_at, s_gf, s_pf, dn_q, kd_q, cl_q, nf_q, ln_q, tg_q, rr_q, cr_q, u_1, e_lsw, k_ti, List.drop_succ_cons, List.drop_zero, List.drop_nil, List.zip_cons_cons, List.zip_nil_right, List.zip_nil_left, List.all_cons, List.all_nil, Bool.and_true, Bool.and_self, decide_true, decide_false, Option.toList, List.cons_append, List.nil_append, List.append_nil, DX8_parcel_0, DX8_parcel_1, DX8_parcel_2, DX8_parcel_3, DX8_parcel_4, DX8_parcel_5, FLX8, LDX8]
        refine sX8_parcel_64 C (m_X8_next l A T hQ (num_le (nxt_le ha)) hok2 4) (s_obj (show 0 < 1 by decide) rfl) (hcat := Nat.le_of_ble_eq_true rfl) (k := ?_)
        rintro v2 G2 ⟨S2, rfl, a3, b3, rfl, hok3, rfl⟩
        obtain ⟨tt, htt, ett⟩ := nxt_nI (d := d) (e := e) (ρ := (q2 d e ρ).2) (m := 4) (M := 4) (by decide)
        have ett2 : nN (q3 d e ρ).1 = tt := by rw [ett, nN_nI (by omega)]
        have eq4 : pT d e tt 0 zF zF zF (q3 d e ρ).2 = q4 d e ρ := by rw [← ett2]
        refine srnX8_parcel C Rt [122] 60 ?_
        simp only [k_i, s_go, s_1, e_op, e_pi, e_pl, e_pr, e_p0, e_li, e_ll, e_lr, e_lk, e_ins, e_rm, e_to, e_sw, e_cmp, k_c, k_n, k_f, k_v, k_lg, ↓reduceIte, reduceCtorEq, Nat.reduceAdd, Nat.reduceSub, Nat.reduceMul, Nat.reduceEqDiff, Nat.reduceLT, Nat.reduceLeDiff, Int.reduceAdd, Int.reduceSub, Int.reduceNeg, Int.reduceLE, Int.reduceLT, Int.reduceToNat, Int.reduceEq, Int.cast_ofNat_Int, List.mem_cons, List.not_mem_nil, List.length_cons, List.length_nil, List.set_cons_zero, List.set_cons_succ, List.toList_toArray, eq_self, true_and, and_true, and_self, or_true, true_or, false_or, or_false, or_self, not_true_eq_false, not_false_eq_true, Classical.not_not, true_implies, false_implies, implies_true, forall_const, and_false, false_and, Nat.le_refl, Nat.zero_le, Bool.false_eq_true, lv_args, s_rl_at, s_gf, s_pf, dn_q, kd_q, cl_q, nf_q, ln_q, tg_q, rr_q, cr_q, u_1, e_lsw, k_ti, List.drop_succ_cons, List.drop_zero, List.drop_nil, List.zip_cons_cons, List.zip_nil_right, List.zip_nil_left, List.all_cons, List.all_nil, Bool.and_true, Bool.and_self, decide_true, decide_false, Option.toList, List.cons_append, List.nil_append, List.append_nil, DX8_parcel_0, DX8_parcel_1, DX8_parcel_2, DX8_parcel_3, DX8_parcel_4, DX8_parcel_5, FLX8, LDX8, b2i_f]
        have hT1 := lp_parT (T := T) (F := n + i) (kp := false) (nn := nI m) (rr := nI i) (F' := 0) (kk := (q1 d e ρ).1) (vl := (q2 d e ρ).1) (tt := tt) C Rt hQ htt (fun h => by cases h) tt 0 zF zF zF (q3 d e ρ).2 a3 b3 0 (by omega) (nxt_le (num_le (nxt_le ha))) hok3 (fun _ => seO_0) (by rw [eq4]; intro h; cases h) ?_
        · rw [nfT_0] at hT1
          rw [← ett] at hT1
          exact hT1
        · intro a4 b4 sn jj hok4
          rw [eq4] at hok4 ⊢
          refine srnX8_parcel C Rt [] 40 ?_
          simp only [k_i, s_go, s_1, e_op, e_pi, e_pl, e_pr, e_p0, e_li, e_ll, e_lr, e_lk, e_ins, e_rm, e_to, e_sw, e_cmp, k_c, k_n, k_f, k_v, k_lg, ↓reduceIte, reduceCtorEq, Nat.reduceAdd, Nat.reduceSub, Nat.reduceMul, Nat.reduceEqDiff, Nat.reduceLT, Nat.reduceLeDiff, Int.reduceAdd, Int.reduceSub, Int.reduceNeg, Int.reduceLE, Int.reduceLT, Int.reduceToNat, Int.reduceEq, Int.cast_ofNat_Int, List.mem_cons, List.not_mem_nil, List.length_cons, List.length_nil, List.set_cons_zero, List.set_cons_succ, List.toList_toArray, eq_self, true_and, and_true, and_self, or_true, true_or, false_or, or_false, or_self, not_true_eq_false, not_false_eq_true, Classical.not_not, true_implies, false_implies, implies_true, forall_const, and_false, false_and, Nat.le_refl, Nat.zero_le, Bool.false_eq_true, lv_args, s_rl_at, s_gf, s_pf, dn_q, kd_q, cl_q, nf_q, ln_q, tg_q, rr_q, cr_q, u_1, e_lsw, k_ti, List.drop_succ_cons, List.drop_zero, List.drop_nil, List.zip_cons_cons, List.zip_nil_right, List.zip_nil_left, List.all_cons, List.all_nil, Bool.and_true, Bool.and_self, decide_true, decide_false, Option.toList, List.cons_append, List.nil_append, List.append_nil, DX8_parcel_0, DX8_parcel_1, DX8_parcel_2, DX8_parcel_3, DX8_parcel_4, DX8_parcel_5, FLX8, LDX8]
          refine sX8_parcel_251 C (m_X8_next l A T hQ (pT_le (nxt_le (num_le (nxt_le ha)))).1 hok4 3) (s_obj (show 0 < 1 by decide) rfl) (hcat := Nat.le_of_ble_eq_true rfl) (k := ?_)
          rintro v2 G2 ⟨S2, rfl, a5, b5, rfl, hok5, rfl⟩
          obtain ⟨ff, hff, eff⟩ := nxt_nI (d := d) (e := e) (ρ := (q4 d e ρ).2.2.2.2) (m := 3) (M := 3) (by decide)
          have eff2 : nN (q5 d e ρ).1 = ff := by rw [eff, nN_nI (by omega)]
          have eq6 : pF d e (nI i - 1) ff 0 zF (q5 d e ρ).2 = q6 d e i ρ := by rw [← eff2]
          refine srnX8_parcel C Rt [275] 60 ?_
          simp only [k_i, s_go, s_1, e_op, e_pi, e_pl, e_pr, e_p0, e_li, e_ll, e_lr, e_lk, e_ins, e_rm, e_to, e_sw, e_cmp, k_c, k_n, k_f, k_v, k_lg, ↓reduceIte, reduceCtorEq, Nat.reduceAdd, Nat.reduceSub, Nat.reduceMul, Nat.reduceEqDiff, Nat.reduceLT, Nat.reduceLeDiff, Int.reduceAdd, Int.reduceSub, Int.reduceNeg, Int.reduceLE, Int.reduceLT, Int.reduceToNat, Int.reduceEq, Int.cast_ofNat_Int, List.mem_cons, List.not_mem_nil, List.length_cons, List.length_nil, List.set_cons_zero, List.set_cons_succ, List.toList_toArray, eq_self, true_and, and_true, and_self, or_true, true_or, false_or, or_false, or_self, not_true_eq_false, not_false_eq_true, Classical.not_not, true_implies, false_implies, implies_true, forall_const, and_false, false_and, Nat.le_refl, Nat.zero_le, Bool.false_eq_true, lv_args, s_rl_at, s_gf, s_pf, dn_q, kd_q, cl_q, nf_q, ln_q, tg_q, rr_q, cr_q, u_1, e_lsw, k_ti, List.drop_succ_cons, List.drop_zero, List.drop_nil, List.zip_cons_cons, List.zip_nil_right, List.zip_nil_left, List.all_cons, List.all_nil, Bool.and_true, Bool.and_self, decide_true, decide_false, Option.toList, List.cons_append, List.nil_append, List.append_nil, DX8_parcel_0, DX8_parcel_1, DX8_parcel_2, DX8_parcel_3, DX8_parcel_4, DX8_parcel_5, FLX8, LDX8, b2i_f]
          have hT2 := lp_parF (T := T) (F := n + i) (kp := false) (nn := nI m) (F' := 0) (kk := (q1 d e ρ).1) (t8 := nI tt) (vl := (q2 d e ρ).1) (sn := sn) (r := i) (n := n) (ff := ff) C Rt hQ hff (by omega) hn hT3 (fun h => by cases h) ff 0 zF (q5 d e ρ).2 a5 b5 0 (by omega) (nxt_le (pT_le (nxt_le (num_le (nxt_le ha)))).1) hok5 (fun _ => seL_0) (by rw [eq6]; intro h; cases h) ?_
          · rw [nfO_0] at hT2
            rw [← eff] at hT2
            exact hT2
          · intro a6 b6 hok6
            rw [eq6] at hok6 ⊢
            refine srnX8_parcel C Rt [19] 40 ?_
            simp only [k_i, s_go, s_1, e_op, e_pi, e_pl, e_pr, e_p0, e_li, e_ll, e_lr, e_lk, e_ins, e_rm, e_to, e_sw, e_cmp, k_c, k_n, k_f, k_v, k_lg, ↓reduceIte, reduceCtorEq, Nat.reduceAdd, Nat.reduceSub, Nat.reduceMul, Nat.reduceEqDiff, Nat.reduceLT, Nat.reduceLeDiff, Int.reduceAdd, Int.reduceSub, Int.reduceNeg, Int.reduceLE, Int.reduceLT, Int.reduceToNat, Int.reduceEq, Int.cast_ofNat_Int, List.mem_cons, List.not_mem_nil, List.length_cons, List.length_nil, List.set_cons_zero, List.set_cons_succ, List.toList_toArray, eq_self, true_and, and_true, and_self, or_true, true_or, false_or, or_false, or_self, not_true_eq_false, not_false_eq_true, Classical.not_not, true_implies, false_implies, implies_true, forall_const, and_false, false_and, Nat.le_refl, Nat.zero_le, Bool.false_eq_true, lv_args, s_rl_at, s_gf, s_pf, dn_q, kd_q, cl_q, nf_q, ln_q, tg_q, rr_q, cr_q, u_1, e_lsw, k_ti, List.drop_succ_cons, List.drop_zero, List.drop_nil, List.zip_cons_cons, List.zip_nil_right, List.zip_nil_left, List.all_cons, List.all_nil, Bool.and_true, Bool.and_self, decide_true, decide_false, Option.toList, List.cons_append, List.nil_append, List.append_nil, DX8_parcel_0, DX8_parcel_1, DX8_parcel_2, DX8_parcel_3, DX8_parcel_4, DX8_parcel_5, FLX8, LDX8, nI_1]
            refine ih (i + 1) T (rowR d e i ρ) a6 b6 (by omega) (rowR_le ha) hok6 hQ hT3 ?_ ?_
            · intro h; cases h
            · intro a7 b7 ho
              have h9 := hp a7 b7 (by rw [tkR, if_neg (by rw [hf]; decide)]; exact ho)
              exact h9
      | true =>
        obtain ⟨hs1, hs2⟩ := hs rfl
        have hrr : (rowR d e i ρ).2.1 = false := by
          have := hs2
          rw [tkR, if_neg (by rw [hf]; decide)] at this
          exact tkR_f this
        have h3n : T.1 30 0 3 = nI n := hT3
        refine srnX8_parcel C Rt [] 40 ?_
        simp only [k_i, s_go, s_1, e_op, e_pi, e_pl, e_pr, e_p0, e_li, e_ll, e_lr, e_lk, e_ins, e_rm, e_to, e_sw, e_cmp, k_c, k_n, k_f, k_v, k_lg, ↓reduceIte, reduceCtorEq, Nat.reduceAdd, Nat.reduceSub, Nat.reduceMul, Nat.reduceEqDiff, Nat.reduceLT, Nat.reduceLeDiff, Int.reduceAdd, Int.reduceSub, Int.reduceNeg, Int.reduceLE, Int.reduceLT, Int.reduceToNat, Int.reduceEq, Int.cast_ofNat_Int, List.mem_cons, List.not_mem_nil, List.length_cons, List.length_nil, List.set_cons_zero, List.set_cons_succ, List.toList_toArray, eq_self, true_and, and_true, and_self, or_true, true_or, false_or, or_false, or_self, not_true_eq_false, not_false_eq_true, Classical.not_not, true_implies, false_implies, implies_true, forall_const, and_false, false_and, Nat.le_refl, Nat.zero_le, Bool.false_eq_true, lv_args, s_rl_at, s_gf, s_pf, dn_q, kd_q, cl_q, nf_q, ln_q, tg_q, rr_q, cr_q, u_1, e_lsw, k_ti, List.drop_succ_cons, List.drop_zero, List.drop_nil, List.zip_cons_cons, List.zip_nil_right, List.zip_nil_left, List.all_cons, List.all_nil, Bool.and_true, Bool.and_self, decide_true, decide_false, Option.toList, List.cons_append, List.nil_append, List.append_nil, DX8_parcel_0, DX8_parcel_1, DX8_parcel_2, DX8_parcel_3, DX8_parcel_4, DX8_parcel_5, FLX8, LDX8, aS_1, aS_2, b2i_t, h3n, nI_add]
        refine sX8_parcel_49 C (m_X8_next l A T hQ ha hok 3) (s_obj (show 0 < 1 by decide) rfl) (hcat := Nat.le_of_ble_eq_true rfl) (k := ?_)
        rintro v2 G2 ⟨S2, rfl, a1, b1, rfl, hok1, rfl⟩
        refine srnX8_parcel C Rt [] 40 ?_
        simp only [k_i, s_go, s_1, e_op, e_pi, e_pl, e_pr, e_p0, e_li, e_ll, e_lr, e_lk, e_ins, e_rm, e_to, e_sw, e_cmp, k_c, k_n, k_f, k_v, k_lg, ↓reduceIte, reduceCtorEq, Nat.reduceAdd, Nat.reduceSub, Nat.reduceMul, Nat.reduceEqDiff, Nat.reduceLT, Nat.reduceLeDiff, Int.reduceAdd, Int.reduceSub, Int.reduceNeg, Int.reduceLE, Int.reduceLT, Int.reduceToNat, Int.reduceEq, Int.cast_ofNat_Int, List.mem_cons, List.not_mem_nil, List.length_cons, List.length_nil, List.set_cons_zero, List.set_cons_succ, List.toList_toArray, eq_self, true_and, and_true, and_self, or_true, true_or, false_or, or_false, or_self, not_true_eq_false, not_false_eq_true, Classical.not_not, true_implies, false_implies, implies_true, forall_const, and_false, false_and, Nat.le_refl, Nat.zero_le, Bool.false_eq_true, lv_args, s_rl_at, s_gf, s_pf, dn_q, kd_q, cl_q, nf_q, ln_q, tg_q, rr_q, cr_q, u_1, e_lsw, k_ti, List.drop_succ_cons, List.drop_zero, List.drop_nil, List.zip_cons_cons, List.zip_nil_right, List.zip_nil_left, List.all_cons, List.all_nil, Bool.and_true, Bool.and_self, decide_true, decide_false, Option.toList, List.cons_append, List.nil_append, List.append_nil, DX8_parcel_0, DX8_parcel_1, DX8_parcel_2, DX8_parcel_3, DX8_parcel_4, DX8_parcel_5, FLX8, LDX8, (show (8 : Int32) = nI 8 from rfl)]
        refine sX8_parcel_57 C (m_X8_nextBytes l A T hQ (nxt_le ha) hok1 (by decide)) (s_obj (show 0 < 1 by decide) rfl) (hcat := Nat.le_of_ble_eq_true rfl) (k := ?_)
        rintro v2 G2 ⟨S2, rfl, a2, b2, rfl, hok2, rfl⟩
        refine srnX8_parcel C Rt [] 40 ?_
        simp only [k_i, s_go, s_1, e_op, e_pi, e_pl, e_pr, e_p0, e_li, e_ll, e_lr, e_lk, e_ins, e_rm, e_to, e_sw, e_cmp, k_c, k_n, k_f, k_v, k_lg, ↓reduceIte, reduceCtorEq, Nat.reduceAdd, Nat.reduceSub, Nat.reduceMul, Nat.reduceEqDiff, Nat.reduceLT, Nat.reduceLeDiff, Int.reduceAdd, Int.reduceSub, Int.reduceNeg, Int.reduceLE, Int.reduceLT, Int.reduceToNat, Int.reduceEq, Int.cast_ofNat_Int, List.mem_cons, List.not_mem_nil, List.length_cons, List.length_nil, List.set_cons_zero, List.set_cons_succ, List.toList_toArray, eq_self, true_and, and_true, and_self, or_true, true_or, false_or, or_false, or_self, not_true_eq_false, not_false_eq_true, Classical.not_not, true_implies, false_implies, implies_true, forall_const, and_false, false_and, Nat.le_refl, Nat.zero_le, Bool.false_eq_true, lv_args, s_rl_at, s_gf, s_pf, dn_q, kd_q, cl_q, nf_q, ln_q, tg_q, rr_q, cr_q, u_1, e_lsw, k_ti, List.drop_succ_cons, List.drop_zero, List.drop_nil, List.zip_cons_cons, List.zip_nil_right, List.zip_nil_left, List.all_cons, List.all_nil, Bool.and_true, Bool.and_self, decide_true, decide_false, Option.toList, List.cons_append, List.nil_append, List.append_nil, DX8_parcel_0, DX8_parcel_1, DX8_parcel_2, DX8_parcel_3, DX8_parcel_4, DX8_parcel_5, FLX8, LDX8]
        refine sX8_parcel_64 C (m_X8_next l A T hQ (num_le (nxt_le ha)) hok2 4) (s_obj (show 0 < 1 by decide) rfl) (hcat := Nat.le_of_ble_eq_true rfl) (k := ?_)
        rintro v2 G2 ⟨S2, rfl, a3, b3, rfl, hok3, rfl⟩
        obtain ⟨tt, htt, ett⟩ := nxt_nI (d := d) (e := e) (ρ := (q2 d e ρ).2) (m := 4) (M := 4) (by decide)
        have ett2 : nN (q3 d e ρ).1 = tt := by rw [ett, nN_nI (by omega)]
        have eq4 : pT d e tt 0 zF zF zF (q3 d e ρ).2 = q4 d e ρ := by rw [← ett2]
        refine srnX8_parcel C Rt [122] 60 ?_
        simp only [k_i, s_go, s_1, e_op, e_pi, e_pl, e_pr, e_p0, e_li, e_ll, e_lr, e_lk, e_ins, e_rm, e_to, e_sw, e_cmp, k_c, k_n, k_f, k_v, k_lg, ↓reduceIte, reduceCtorEq, Nat.reduceAdd, Nat.reduceSub, Nat.reduceMul, Nat.reduceEqDiff, Nat.reduceLT, Nat.reduceLeDiff, Int.reduceAdd, Int.reduceSub, Int.reduceNeg, Int.reduceLE, Int.reduceLT, Int.reduceToNat, Int.reduceEq, Int.cast_ofNat_Int, List.mem_cons, List.not_mem_nil, List.length_cons, List.length_nil, List.set_cons_zero, List.set_cons_succ, List.toList_toArray, eq_self, true_and, and_true, and_self, or_true, true_or, false_or, or_false, or_self, not_true_eq_false, not_false_eq_true, Classical.not_not, true_implies, false_implies, implies_true, forall_const, and_false, false_and, Nat.le_refl, Nat.zero_le, Bool.false_eq_true, lv_args, s_rl_at, s_gf, s_pf, dn_q, kd_q, cl_q, nf_q, ln_q, tg_q, rr_q, cr_q, u_1, e_lsw, k_ti, List.drop_succ_cons, List.drop_zero, List.drop_nil, List.zip_cons_cons, List.zip_nil_right, List.zip_nil_left, List.all_cons, List.all_nil, Bool.and_true, Bool.and_self, decide_true, decide_false, Option.toList, List.cons_append, List.nil_append, List.append_nil, DX8_parcel_0, DX8_parcel_1, DX8_parcel_2, DX8_parcel_3, DX8_parcel_4, DX8_parcel_5, FLX8, LDX8, b2i_t, x_cl (a := n + i) (by omega), x_in (a := n + i) (n := 60) (by omega)]
        refine ⟨by omega, by omega, by omega, by omega, by omega, ?_⟩
        rw [aS_uI (by decide), aS_uJ, aS_uI (by decide), aS_uI (by decide), aS_uI (by decide)]
        have hT1 := lp_parT (T := rwA0 T (n + i) d e ρ) (F := n + i) (kp := true) (nn := nI m) (rr := nI i) (F' := nI (n + i)) (kk := (q1 d e ρ).1) (vl := (q2 d e ρ).1) (tt := tt) C Rt (oQ_A0 hQ) htt (fun _ => ⟨rfl, by omega⟩) tt 0 zF zF zF (q3 d e ρ).2 a3 b3 0 (by omega) (nxt_le (num_le (nxt_le ha))) hok3 (fun _ => seO_0) (by rw [eq4]; intro _; exact (nxt_f (pF_f hrr)).1) ?_
        · rw [nfT_0] at hT1
          rw [← ett] at hT1
          exact hT1
        · intro a4 b4 sn jj hok4
          rw [eq4] at hok4 ⊢
          refine srnX8_parcel C Rt [] 40 ?_
          simp only [k_i, s_go, s_1, e_op, e_pi, e_pl, e_pr, e_p0, e_li, e_ll, e_lr, e_lk, e_ins, e_rm, e_to, e_sw, e_cmp, k_c, k_n, k_f, k_v, k_lg, ↓reduceIte, reduceCtorEq, Nat.reduceAdd, Nat.reduceSub, Nat.reduceMul, Nat.reduceEqDiff, Nat.reduceLT, Nat.reduceLeDiff, Int.reduceAdd, Int.reduceSub, Int.reduceNeg, Int.reduceLE, Int.reduceLT, Int.reduceToNat, Int.reduceEq, Int.cast_ofNat_Int, List.mem_cons, List.not_mem_nil, List.length_cons, List.length_nil, List.set_cons_zero, List.set_cons_succ, List.toList_toArray, eq_self, true_and, and_true, and_self, or_true, true_or, false_or, or_false, or_self, not_true_eq_false, not_false_eq_true, Classical.not_not, true_implies, false_implies, implies_true, forall_const, and_false, false_and, Nat.le_refl, Nat.zero_le, Bool.false_eq_true, lv_args, s_rl_at, s_gf, s_pf, dn_q, kd_q, cl_q, nf_q, ln_q, tg_q, rr_q, cr_q, u_1, e_lsw, k_ti, List.drop_succ_cons, List.drop_zero, List.drop_nil, List.zip_cons_cons, List.zip_nil_right, List.zip_nil_left, List.all_cons, List.all_nil, Bool.and_true, Bool.and_self, decide_true, decide_false, Option.toList, List.cons_append, List.nil_append, List.append_nil, DX8_parcel_0, DX8_parcel_1, DX8_parcel_2, DX8_parcel_3, DX8_parcel_4, DX8_parcel_5, FLX8, LDX8]
          refine sX8_parcel_251 C (m_X8_next l A (nfT (rwA0 T (n + i) d e ρ) (n + i) (q4 d e ρ).2.1 (q4 d e ρ).2.2.1 (q4 d e ρ).2.2.2.1 (q4 d e ρ).1) (oQ_nfT (oQ_A0 hQ)) (pT_le (nxt_le (num_le (nxt_le ha)))).1 hok4 3) (s_obj (show 0 < 1 by decide) rfl) (hcat := Nat.le_of_ble_eq_true rfl) (k := ?_)
          rintro v2 G2 ⟨S2, rfl, a5, b5, rfl, hok5, rfl⟩
          obtain ⟨ff, hff, eff⟩ := nxt_nI (d := d) (e := e) (ρ := (q4 d e ρ).2.2.2.2) (m := 3) (M := 3) (by decide)
          have eff2 : nN (q5 d e ρ).1 = ff := by rw [eff, nN_nI (by omega)]
          have eq6 : pF d e (nI i - 1) ff 0 zF (q5 d e ρ).2 = q6 d e i ρ := by rw [← eff2]
          refine srnX8_parcel C Rt [275] 60 ?_
          simp only [k_i, s_go, s_1, e_op, e_pi, e_pl, e_pr, e_p0, e_li, e_ll, e_lr, e_lk, e_ins, e_rm, e_to, e_sw, e_cmp, k_c, k_n, k_f, k_v, k_lg, ↓reduceIte, reduceCtorEq, Nat.reduceAdd, Nat.reduceSub, Nat.reduceMul, Nat.reduceEqDiff, Nat.reduceLT, Nat.reduceLeDiff, Int.reduceAdd, Int.reduceSub, Int.reduceNeg, Int.reduceLE, Int.reduceLT, Int.reduceToNat, Int.reduceEq, Int.cast_ofNat_Int, List.mem_cons, List.not_mem_nil, List.length_cons, List.length_nil, List.set_cons_zero, List.set_cons_succ, List.toList_toArray, eq_self, true_and, and_true, and_self, or_true, true_or, false_or, or_false, or_self, not_true_eq_false, not_false_eq_true, Classical.not_not, true_implies, false_implies, implies_true, forall_const, and_false, false_and, Nat.le_refl, Nat.zero_le, Bool.false_eq_true, lv_args, s_rl_at, s_gf, s_pf, dn_q, kd_q, cl_q, nf_q, ln_q, tg_q, rr_q, cr_q, u_1, e_lsw, k_ti, List.drop_succ_cons, List.drop_zero, List.drop_nil, List.zip_cons_cons, List.zip_nil_right, List.zip_nil_left, List.all_cons, List.all_nil, Bool.and_true, Bool.and_self, decide_true, decide_false, Option.toList, List.cons_append, List.nil_append, List.append_nil, DX8_parcel_0, DX8_parcel_1, DX8_parcel_2, DX8_parcel_3, DX8_parcel_4, DX8_parcel_5, FLX8, LDX8, b2i_t, x_cl (a := n + i) (by omega), x_in (a := n + i) (n := 60) (by omega)]
          refine ⟨by omega, ?_⟩
          rw [aS_uI (by decide)]
          have hT2 := lp_parF (T := rwB0 T (n + i) d e ρ) (F := n + i) (kp := true) (nn := nI m) (F' := nI (n + i)) (kk := (q1 d e ρ).1) (t8 := nI tt) (vl := (q2 d e ρ).1) (sn := sn) (r := i) (n := n) (ff := ff) C Rt (oQ_B0 hQ) hff (by omega) hn (f3_B0.trans hT3) (fun _ => ⟨rfl, by omega⟩) ff 0 zF (q5 d e ρ).2 a5 b5 0 (by omega) (nxt_le (pT_le (nxt_le (num_le (nxt_le ha)))).1) hok5 (fun _ => seL_0) (by rw [eq6]; intro _; exact hrr) ?_
          · rw [nfO_0] at hT2
            rw [← eff] at hT2
            exact hT2
          · intro a6 b6 hok6
            rw [eq6] at hok6 ⊢
            refine srnX8_parcel C Rt [19] 40 ?_
            simp only [k_i, s_go, s_1, e_op, e_pi, e_pl, e_pr, e_p0, e_li, e_ll, e_lr, e_lk, e_ins, e_rm, e_to, e_sw, e_cmp, k_c, k_n, k_f, k_v, k_lg, ↓reduceIte, reduceCtorEq, Nat.reduceAdd, Nat.reduceSub, Nat.reduceMul, Nat.reduceEqDiff, Nat.reduceLT, Nat.reduceLeDiff, Int.reduceAdd, Int.reduceSub, Int.reduceNeg, Int.reduceLE, Int.reduceLT, Int.reduceToNat, Int.reduceEq, Int.cast_ofNat_Int, List.mem_cons, List.not_mem_nil, List.length_cons, List.length_nil, List.set_cons_zero, List.set_cons_succ, List.toList_toArray, eq_self, true_and, and_true, and_self, or_true, true_or, false_or, or_false, or_self, not_true_eq_false, not_false_eq_true, Classical.not_not, true_implies, false_implies, implies_true, forall_const, and_false, false_and, Nat.le_refl, Nat.zero_le, Bool.false_eq_true, lv_args, s_rl_at, s_gf, s_pf, dn_q, kd_q, cl_q, nf_q, ln_q, tg_q, rr_q, cr_q, u_1, e_lsw, k_ti, List.drop_succ_cons, List.drop_zero, List.drop_nil, List.zip_cons_cons, List.zip_nil_right, List.zip_nil_left, List.all_cons, List.all_nil, Bool.and_true, Bool.and_self, decide_true, decide_false, Option.toList, List.cons_append, List.nil_append, List.append_nil, DX8_parcel_0, DX8_parcel_1, DX8_parcel_2, DX8_parcel_3, DX8_parcel_4, DX8_parcel_5, FLX8, LDX8, nI_1]
            refine ih (i + 1) (rwT T n (n + i) d e i ρ) (rowR d e i ρ) a6 b6 (by omega) (rowR_le ha) hok6 (oQ_T hQ) (f3_T.trans hT3) ?_ ?_
            · intro _; exact ⟨hs1, by have := hs2; rw [tkR, if_neg (by rw [hf]; decide)] at this; exact this⟩
            · intro a7 b7 ho
              have h9 := hp a7 b7 (by rw [tkR, if_neg (by rw [hf]; decide)]; exact ho)
              exact h9
end
set_option maxHeartbeats 8000000 in
set_option maxRecDepth 100000 in
theorem m_X8_parcel (l : Launch) (A : pA) (T : pS) {d : Nat → Int32} {e n : Nat} {kp : Bool} (hQ : oQ T d e) (hn : n ≤ 60) (hT3 : T.1 30 0 3 = nI n) (hs : kp = true → n + nN (nxt d e 60 (0, false, 7)).1 ≤ 60 ∧ (tkR d e (nN (nxt d e 60 (0, false, 7)).1) 0 (nxt d e 60 (0, false, 7)).2).2.1 = false) : e_MX8_parcel l [.ref (ad A 30 0), .int (b2i kp)] (gS A T) (s_P A (fun v S2 => ∃ a' b', S2 = aS (pz kp (tkT n d e (nN (nxt d e 60 (0, false, 7)).1) 0 T (nxt d e 60 (0, false, 7)).2) T) a' b' ∧ okR (tkR d e (nN (nxt d e 60 (0, false, 7)).1) 0 (nxt d e 60 (0, false, 7)).2) a' b' ∧ v = some (.int (nxt d e 60 (0, false, 7)).1))) := by
  refine ofX8_parcel (Nat.le_of_ble_eq_true rfl) ?_
  intro V C Rt
  refine srnX8_parcel C Rt [] 40 ?_
  simp only [k_i, s_go, s_1, e_op, e_pi, e_pl, e_pr, e_p0, e_li, e_ll, e_lr, e_lk, e_ins, e_rm, e_to, e_sw, e_cmp, k_c, k_n, k_f, k_v, k_lg, ↓reduceIte, reduceCtorEq, Nat.reduceAdd, Nat.reduceSub, Nat.reduceMul, Nat.reduceEqDiff, Nat.reduceLT, Nat.reduceLeDiff, Int.reduceAdd, Int.reduceSub, Int.reduceNeg, Int.reduceLE, Int.reduceLT, Int.reduceToNat, Int.reduceEq, Int.cast_ofNat_Int, List.mem_cons, List.not_mem_nil, List.length_cons, List.length_nil, List.set_cons_zero, List.set_cons_succ, List.toList_toArray, eq_self, true_and, and_true, and_self, or_true, true_or, false_or, or_false, or_self, not_true_eq_false, not_false_eq_true, Classical.not_not, true_implies, false_implies, implies_true, forall_const, and_false, false_and, Nat.le_refl, Nat.zero_le, Bool.false_eq_true, lv_args, s_rl_at, s_gf, s_pf, dn_q, kd_q, cl_q, nf_q, ln_q, tg_q, rr_q, cr_q, u_1, e_lsw, k_ti, List.drop_succ_cons, List.drop_zero, List.drop_nil, List.zip_cons_cons, List.zip_nil_right, List.zip_nil_left, List.all_cons, List.all_nil, Bool.and_true, Bool.and_self, decide_true, decide_false, Option.toList, List.cons_append, List.nil_append, List.append_nil, DX8_parcel_0, DX8_parcel_1, DX8_parcel_2, DX8_parcel_3, DX8_parcel_4, DX8_parcel_5, FLX8, LDX8]
  rw [aS_0]
  have hok0 : okR ((0, false, 7) : pR) 0 (-1) := ⟨fun _ => ⟨rfl, rfl⟩, fun h => by cases h⟩
  refine sX8_parcel_13 C (m_X8_next l A T hQ (Nat.zero_le _) hok0 60) (s_obj (show 0 < 1 by decide) rfl) (hcat := Nat.le_of_ble_eq_true rfl) (k := ?_)
  rintro v2 G2 ⟨S2, rfl, a1, b1, rfl, hok1, rfl⟩
  obtain ⟨m, hm, em⟩ := nxt_nI (d := d) (e := e) (ρ := (0, false, 7)) (m := 60) (M := 60) (by decide)
  have em2 : nN (nxt d e 60 (0, false, 7)).1 = m := by rw [em, nN_nI (by omega)]
  rw [em2] at hs Rt
  rw [em] at Rt ⊢
  refine srnX8_parcel C Rt [19] 40 ?_
  simp only [k_i, s_go, s_1, e_op, e_pi, e_pl, e_pr, e_p0, e_li, e_ll, e_lr, e_lk, e_ins, e_rm, e_to, e_sw, e_cmp, k_c, k_n, k_f, k_v, k_lg, ↓reduceIte, reduceCtorEq, Nat.reduceAdd, Nat.reduceSub, Nat.reduceMul, Nat.reduceEqDiff, Nat.reduceLT, Nat.reduceLeDiff, Int.reduceAdd, Int.reduceSub, Int.reduceNeg, Int.reduceLE, Int.reduceLT, Int.reduceToNat, Int.reduceEq, Int.cast_ofNat_Int, List.mem_cons, List.not_mem_nil, List.length_cons, List.length_nil, List.set_cons_zero, List.set_cons_succ, List.toList_toArray, eq_self, true_and, and_true, and_self, or_true, true_or, false_or, or_false, or_self, not_true_eq_false, not_false_eq_true, Classical.not_not, true_implies, false_implies, implies_true, forall_const, and_false, false_and, Nat.le_refl, Nat.zero_le, Bool.false_eq_true, lv_args, s_rl_at, s_gf, s_pf, dn_q, kd_q, cl_q, nf_q, ln_q, tg_q, rr_q, cr_q, u_1, e_lsw, k_ti, List.drop_succ_cons, List.drop_zero, List.drop_nil, List.zip_cons_cons, List.zip_nil_right, List.zip_nil_left, List.all_cons, List.all_nil, Bool.and_true, Bool.and_self, decide_true, decide_false, Option.toList, List.cons_append, List.nil_append, List.append_nil, DX8_parcel_0, DX8_parcel_1, DX8_parcel_2, DX8_parcel_3, DX8_parcel_4, DX8_parcel_5, FLX8, LDX8]
  exact lp_parR C Rt hm hn m 0 T _ a1 b1 (by omega) (nxt_le (Nat.zero_le _)) hok1 hQ hT3 hs (fun a' b' ho => ⟨a', b', rfl, ho, rfl⟩)
