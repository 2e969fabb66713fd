/-! the reference: take -/
theorem aS_u3 {T : pS} {a b v : Int32} : uI (aS T a b) 30 0 3 v = aS (uI T 30 0 3 v) a b := by
  refine Prod.ext ?_ rfl
  funext k' i' j'
  simp only [u_1, aS_1]
  by_cases h1 : k' = 30 ∧ i' = 0 ∧ j' = 3
  · obtain ⟨rfl, rfl, rfl⟩ := h1
    simp
  · simp [h1]
theorem aS_id {T : pS} : aS T (T.1 30 0 32) (T.1 30 0 41) = T := by
  refine Prod.ext ?_ rfl
  funext k' i' j'
  simp only [aS_1]
  by_cases h1 : k' = 30 ∧ i' = 0 ∧ j' = 32
  · obtain ⟨rfl, rfl, rfl⟩ := h1
    simp
  · by_cases h2 : k' = 30 ∧ i' = 0 ∧ j' = 41
    · obtain ⟨rfl, rfl, rfl⟩ := h2
      simp
    · simp [h1, h2]
theorem oQ_aS {T : pS} {d : Nat → Int32} {e : Nat} {a b : Int32} (h : oQ T d e) : oQ (aS T a b) d e := by
  obtain ⟨h1, h2, h3⟩ := h
  refine ⟨?_, h2, fun j hj => ?_⟩
  · rw [aS_1]
    simpa using h1
  · rw [aS_1]
    simpa using h3 j hj
theorem by_lo (σ : Int64) : ∃ v : Nat, v < 256 ∧ σ &&& 255 = (nI v).toInt64 ∧ (σ &&& 255).toInt32 = nI v := by
  have hv : σ.toBitVec.toNat % 256 < 256 := Nat.mod_lt _ (by decide)
  have e1 : σ &&& 255 = (nI (σ.toBitVec.toNat % 256)).toInt64 := by
    rw [← Int64.toBitVec_inj, by_J _ hv, Int64.toBitVec_and]
    apply BitVec.eq_of_toNat_eq
    rw [BitVec.toNat_and, BitVec.toNat_ofNat, show ((255 : Int64).toBitVec).toNat = 2 ^ 8 - 1 from by decide, Nat.and_two_pow_sub_one_eq_mod]
    rw [Nat.mod_eq_of_lt (show σ.toBitVec.toNat % 256 < 2 ^ 64 by omega)]
  exact ⟨_, hv, e1, by rw [e1, Int32.toInt32_toInt64]⟩
theorem by_255 (σ : Int64) (x : Int32) : (x.toInt64 = σ &&& 255) ↔ x = (σ &&& 255).toInt32 := by
  obtain ⟨v, hv, e1, e2⟩ := by_lo σ
  rw [e2, e1]
  constructor
  · intro h
    rw [← Int32.toInt32_toInt64 x, h, Int32.toInt32_toInt64]
  · intro h
    rw [h]
theorem by_0_255 (σ : Int64) : ¬ (σ &&& 255).toInt32 < 0 ∧ ¬ (255 : Int32) < (σ &&& 255).toInt32 := by
  obtain ⟨v, hv, e1, e2⟩ := by_lo σ
  rw [e2]
  exact ⟨nI_pos (by omega), nI_nlt (a := 255) (b := v) (by omega) (by omega)⟩
/-- the parcel is right and there is room -/
def takG (S : pS) (n b L : Nat) : Bool := decide (S.1 11 0 1 = 0 ∧ ¬ S.1 20 b 0 = 0 ∧ (tk3 S n b L).2.1 = false ∧ nN (tka S b L).1 ≤ 60 - n)
def takM (X S : pS) (n b L : Nat) : pS := if takG S n b L = true then uI (tkT n (S.1 21 b) L (nN (tka S b L).1) 0 X (tka S b L).2) 30 0 3 (nI (n + nN (tka S b L).1)) else X
theorem takM_n {X S : pS} {n b L : Nat} (h : takG S n b L = false) : takM X S n b L = X := by
  unfold takM
  rw [h]
  rfl
theorem takM_y {X S : pS} {n b L : Nat} (h : takG S n b L = true) : takM X S n b L = uI (tkT n (S.1 21 b) L (nN (tka S b L).1) 0 X (tka S b L).2) 30 0 3 (nI (n + nN (tka S b L).1)) := by
  unfold takM
  rw [h]
  rfl
def takP (T S : pS) (n b L : Nat) : Option Value → pS → Prop := fun v S2 => (∃ a1 b1 a2 b2, S2 = aS (takM (aS (t0 T) a1 b1) S n b L) a2 b2) ∧ v = some (.int (takC S n b L).1)
theorem takP_n {T S : pS} {n b L : Nat} {a1 b1 v : Int32} (h : takG S n b L = false) (hv : (takC S n b L).1 = v) : takP T S n b L (some (.int v)) (aS (t0 T) a1 b1) := by
  refine ⟨⟨a1, b1, a1, b1, ?_⟩, by rw [hv]⟩
  rw [takM_n h]
  refine Prod.ext ?_ rfl
  funext k' i' j'
  simp only [aS_1]
  grind
section
variable {V : pV} {l : Launch} {A : pA} {post : Option Value → pS → Prop} {T : pS}
set_option maxHeartbeats 4000000 in
set_option maxRecDepth 100000 in
theorem lp_X8_take (C : e_CX8_take V l) (Rt : e_RX8_take V (s_P A post)) {d : Nat → Int32} {e p : Nat} {m : Int32} {b : Int32} (hQ : oQ T d e) (hp : p ≤ e) (hx : V 0 0 72 [(0, .ref (ad A 30 0)), (1, .int m), (2, .long (swd d 0 7 p)), (4, .int (nI p))] [] (gS A (aS T (nI p) b))) : ∀ k i, i + k = p → V 0 0 45 [(0, .ref (ad A 30 0)), (1, .int m), (2, .long (swd d 0 7 i)), (4, .int (nI i))] [] (gS A (aS T (nI p) b)) := by
  obtain ⟨o1, o2, o3⟩ := hQ
  intro k
  induction k with
  | zero =>
    intro i hi
    have hi2 : i = p := by omega
    subst hi2
    refine srnX8_take C Rt [45, 72] 40 ?_
    simp only [k_i, s_go, s_1, e_op, e_pi, e_pl, e_pr, e_p0, e_li, e_ll, e_lr, e_lk, e_ins, e_rm, e_to, e_sw, e_cmp, k_c, k_n, k_f, k_v, k_lg, ↓reduceIte, reduceCtorEq, Nat.reduceAdd, Nat.reduceSub, Nat.reduceMul, Nat.reduceEqDiff, Nat.reduceLT, Nat.reduceLeDiff, Int.reduceAdd, Int.reduceSub, Int.reduceNeg, Int.reduceLE, Int.reduceLT, Int.reduceToNat, Int.reduceEq, Int.cast_ofNat_Int, List.mem_cons, List.not_mem_nil, List.length_cons, List.length_nil, List.set_cons_zero, List.set_cons_succ, List.toList_toArray, eq_self, true_and, and_true, and_self, or_true, true_or, false_or, or_false, or_self, not_true_eq_false, not_false_eq_true, Classical.not_not, true_implies, false_implies, implies_true, forall_const, and_false, false_and, Nat.le_refl, Nat.zero_le, Bool.false_eq_true, lv_args, s_rl_at, s_gf, s_pf, dn_q, kd_q, cl_q, nf_q, ln_q, tg_q, rr_q, cr_q, u_1, e_lsw, k_ti, List.drop_succ_cons, List.drop_zero, List.drop_nil, List.zip_cons_cons, List.zip_nil_right, List.zip_nil_left, List.all_cons, List.all_nil, Bool.and_true, Bool.and_self, decide_true, decide_false, Option.toList, List.cons_append, List.nil_append, List.append_nil, DX8_take_0, DX8_take_1, DX8_take_2, FLX8, LDX8, aS_1, aS_2, x_le (a := i) (b := i) (by omega) (by omega)]
    exact hx
  | succ k ih =>
    intro i hi
    refine srnX8_take C Rt [45, 72] 40 ?_
    simp only [k_i, s_go, s_1, e_op, e_pi, e_pl, e_pr, e_p0, e_li, e_ll, e_lr, e_lk, e_ins, e_rm, e_to, e_sw, e_cmp, k_c, k_n, k_f, k_v, k_lg, ↓reduceIte, reduceCtorEq, Nat.reduceAdd, Nat.reduceSub, Nat.reduceMul, Nat.reduceEqDiff, Nat.reduceLT, Nat.reduceLeDiff, Int.reduceAdd, Int.reduceSub, Int.reduceNeg, Int.reduceLE, Int.reduceLT, Int.reduceToNat, Int.reduceEq, Int.cast_ofNat_Int, List.mem_cons, List.not_mem_nil, List.length_cons, List.length_nil, List.set_cons_zero, List.set_cons_succ, List.toList_toArray, eq_self, true_and, and_true, and_self, or_true, true_or, false_or, or_false, or_self, not_true_eq_false, not_false_eq_true, Classical.not_not, true_implies, false_implies, implies_true, forall_const, and_false, false_and, Nat.le_refl, Nat.zero_le, Bool.false_eq_true, lv_args, s_rl_at, s_gf, s_pf, dn_q, kd_q, cl_q, nf_q, ln_q, tg_q, rr_q, cr_q, u_1, e_lsw, k_ti, List.drop_succ_cons, List.drop_zero, List.drop_nil, List.zip_cons_cons, List.zip_nil_right, List.zip_nil_left, List.all_cons, List.all_nil, Bool.and_true, Bool.and_self, decide_true, decide_false, Option.toList, List.cons_append, List.nil_append, List.append_nil, DX8_take_0, DX8_take_1, DX8_take_2, FLX8, LDX8, aS_1, aS_2, x_le (a := p) (b := i) (by omega) (by omega), x_cl (a := i) (by omega), x_in (a := i) (n := 4000) (by omega), o3 i (by omega)]
    refine ⟨fun h => by omega, fun _ => ⟨by omega, ?_⟩⟩
    refine sX8_take_62 C (m_X8_sumWith l _ _ _) (hcat := Nat.le_of_ble_eq_true rfl) (k := ?_)
    rintro v2 G2 ⟨rfl, rfl⟩
    refine srnX8_take C Rt [45, 72] 40 ?_
    simp only [k_i, s_go, s_1, e_op, e_pi, e_pl, e_pr, e_p0, e_li, e_ll, e_lr, e_lk, e_ins, e_rm, e_to, e_sw, e_cmp, k_c, k_n, k_f, k_v, k_lg, ↓reduceIte, reduceCtorEq, Nat.reduceAdd, Nat.reduceSub, Nat.reduceMul, Nat.reduceEqDiff, Nat.reduceLT, Nat.reduceLeDiff, Int.reduceAdd, Int.reduceSub, Int.reduceNeg, Int.reduceLE, Int.reduceLT, Int.reduceToNat, Int.reduceEq, Int.cast_ofNat_Int, List.mem_cons, List.not_mem_nil, List.length_cons, List.length_nil, List.set_cons_zero, List.set_cons_succ, List.toList_toArray, eq_self, true_and, and_true, and_self, or_true, true_or, false_or, or_false, or_self, not_true_eq_false, not_false_eq_true, Classical.not_not, true_implies, false_implies, implies_true, forall_const, and_false, false_and, Nat.le_refl, Nat.zero_le, Bool.false_eq_true, lv_args, s_rl_at, s_gf, s_pf, dn_q, kd_q, cl_q, nf_q, ln_q, tg_q, rr_q, cr_q, u_1, e_lsw, k_ti, List.drop_succ_cons, List.drop_zero, List.drop_nil, List.zip_cons_cons, List.zip_nil_right, List.zip_nil_left, List.all_cons, List.all_nil, Bool.and_true, Bool.and_self, decide_true, decide_false, Option.toList, List.cons_append, List.nil_append, List.append_nil, DX8_take_0, DX8_take_1, DX8_take_2, FLX8, LDX8, nI_1]
    have h9 := ih (i + 1) (by omega)
    unfold swd at h9
    rw [Nat.zero_add] at h9
    exact h9
end
theorem nxt_tt {d : Nat → Int32} {e : Nat} {m : Int32} {ρ : pR} (h : (nxt d e m ρ).2.2.1 = true) : (nxt d e m ρ).2.1 = ρ.1 ∧ (ρ.2.1 = true ∨ e ≤ ρ.1 ∨ d ρ.1 < 0 ∨ m < d ρ.1) := by
  unfold nxt at h ⊢
  by_cases hc : ρ.2.1 = true ∨ e ≤ ρ.1 ∨ d ρ.1 < 0 ∨ m < d ρ.1
  · rw [if_pos hc]
    exact ⟨rfl, hc⟩
  · rw [if_neg hc] at h
    cases h
theorem f3_tkT {n : Nat} {d : Nat → Int32} {e : Nat} : ∀ {k i : Nat} {T : pS} {ρ : pR}, (tkT n d e k i T ρ).1 30 0 3 = T.1 30 0 3
  | 0, _, _, _ => rfl
  | k + 1, i, T, ρ => by
    unfold tkT
    rw [f3_tkT, f3_T]
set_option maxHeartbeats 8000000 in
set_option maxRecDepth 100000 in
theorem m_X8_take (l : Launch) (A : pA) (T S : pS) {n b c : Nat} (hn : n ≤ 60) (hT3 : T.1 30 0 3 = nI n) (hD : rD T S) (hO : wfO S b c) (hR : rO T S b c) : e_MX8_take l [.ref (ad A 30 0)] (gS A T) (s_P A (takP T S n b (nN (S.1 20 b 1)))) := by
  obtain ⟨ho, hs, hb, hcc, hne, ⟨hl, hL⟩, -⟩ := hO
  obtain ⟨r1, r2, r3, -, -, -⟩ := hR
  unfold rD at hD
  obtain ⟨L, eL⟩ : ∃ L, nN (S.1 20 b 1) = L := ⟨_, rfl⟩
  rw [eL] at hl hL ⊢
  have hQ : oQ T (S.1 21 b) L := ⟨by rw [r2, hl], hL, r3⟩
  have hQ0 : oQ (t0 T) (S.1 21 b) L := hQ
  obtain ⟨m, hm, em⟩ := nxt_nI (d := S.1 21 b) (e := L) (m := 60) (M := 60) (ρ := (0, false, 7)) (by decide)
  have em2 : (tka S b L).1 = nI m := em
  have em3 : nN (tka S b L).1 = m := by rw [em2, nN_nI (by omega)]
  obtain ⟨ρ, eρ⟩ : ∃ ρ, (tk1 S n b L).2 = ρ := ⟨_, rfl⟩
  have eρ2 : tkR (S.1 21 b) L m 0 (tka S b L).2 = ρ := by rw [← eρ, ← em3]; exact tk_R.symm
  have hok0 : okS (S.1 21 b) 0 7 (tka S b L).2 := okS_nxt ⟨Nat.le_refl _, fun _ => rfl⟩
  have hsum := okS_tk (e := L) (k := m) (i := 0) hok0
  rw [eρ2] at hsum
  have hle : ρ.1 ≤ L := by rw [← eρ]; exact tk_le (nxt_le (Nat.zero_le _))
  have ek2 : tk2 S n b L = xpc (S.1 21 b) L (ρ.2.2 &&& 255).toInt32 ρ := by rw [← eρ]
  refine ofX8_take (Nat.le_of_ble_eq_true rfl) ?_
  intro V C Rt
  refine srnX8_take C Rt [] 40 ?_
  simp only [k_i, s_go, s_1, e_op, e_pi, e_pl, e_pr, e_p0, e_li, e_ll, e_lr, e_lk, e_ins, e_rm, e_to, e_sw, e_cmp, k_c, k_n, k_f, k_v, k_lg, ↓reduceIte, reduceCtorEq, Nat.reduceAdd, Nat.reduceSub, Nat.reduceMul, Nat.reduceEqDiff, Nat.reduceLT, Nat.reduceLeDiff, Int.reduceAdd, Int.reduceSub, Int.reduceNeg, Int.reduceLE, Int.reduceLT, Int.reduceToNat, Int.reduceEq, Int.cast_ofNat_Int, List.mem_cons, List.not_mem_nil, List.length_cons, List.length_nil, List.set_cons_zero, List.set_cons_succ, List.toList_toArray, eq_self, true_and, and_true, and_self, or_true, true_or, false_or, or_false, or_self, not_true_eq_false, not_false_eq_true, Classical.not_not, true_implies, false_implies, implies_true, forall_const, and_false, false_and, Nat.le_refl, Nat.zero_le, Bool.false_eq_true, lv_args, s_rl_at, s_gf, s_pf, dn_q, kd_q, cl_q, nf_q, ln_q, tg_q, rr_q, cr_q, u_1, e_lsw, k_ti, List.drop_succ_cons, List.drop_zero, List.drop_nil, List.zip_cons_cons, List.zip_nil_right, List.zip_nil_left, List.all_cons, List.all_nil, Bool.and_true, Bool.and_self, decide_true, decide_false, Option.toList, List.cons_append, List.nil_append, List.append_nil, DX8_take_0, DX8_take_1, DX8_take_2, FLX8, LDX8, hD, r1]
  refine ⟨fun hd => ⟨fun hk => ?_, fun hk => ?_⟩, fun hd => ?_⟩
  · have hc1 := m_X8_parcel l A (t0 T) (kp := false) (n := n) hQ0 hn hT3 (fun h => by cases h)
    rw [show (nxt (S.1 21 b) L 60 (0, false, 7)) = tka S b L from rfl, em3, eρ2, em2] at hc1
    refine sX8_take_27 C hc1 (s_obj (show 0 < 1 by decide) rfl) (hcat := Nat.le_of_ble_eq_true rfl) (k := ?_)
    rintro v2 G2 ⟨S2, rfl, a1, b1, rfl, hok1, rfl⟩
    rw [show ∀ X, pz false X (t0 T) = t0 T from fun _ => rfl]
    have hbad : ∀ p, (tk3 S n b L).2.1 = true → (tk3 S n b L).1 = p → ∀ a2 b2, b2 = nI p → takP T S n b L (some (.int (-100 - b2))) (aS (t0 T) a2 b2) := by
      intro p h1 h2 a2 b2 hb2
      refine takP_n ?_ ?_
      · simp [takG, h1]
      · simp [takC, hd, hk, h1, h2, hb2]
    cases hf : ρ.2.1 with
    | true =>
      have hb1 := hok1.2 hf
      have h0 : (0 : Int32) ≤ b1 := by rw [hb1]; exact Int32.not_lt.mp (nI_pos (by omega))
      have h0' : ¬ b1 < 0 := Int32.not_lt.mpr h0
      refine srnX8_take C Rt [] 40 ?_
      simp only [k_i, s_go, s_1, e_op, e_pi, e_pl, e_pr, e_p0, e_li, e_ll, e_lr, e_lk, e_ins, e_rm, e_to, e_sw, e_cmp, k_c, k_n, k_f, k_v, k_lg, ↓reduceIte, reduceCtorEq, Nat.reduceAdd, Nat.reduceSub, Nat.reduceMul, Nat.reduceEqDiff, Nat.reduceLT, Nat.reduceLeDiff, Int.reduceAdd, Int.reduceSub, Int.reduceNeg, Int.reduceLE, Int.reduceLT, Int.reduceToNat, Int.reduceEq, Int.cast_ofNat_Int, List.mem_cons, List.not_mem_nil, List.length_cons, List.length_nil, List.set_cons_zero, List.set_cons_succ, List.toList_toArray, eq_self, true_and, and_true, and_self, or_true, true_or, false_or, or_false, or_self, not_true_eq_false, not_false_eq_true, Classical.not_not, true_implies, false_implies, implies_true, forall_const, and_false, false_and, Nat.le_refl, Nat.zero_le, Bool.false_eq_true, lv_args, s_rl_at, s_gf, s_pf, dn_q, kd_q, cl_q, nf_q, ln_q, tg_q, rr_q, cr_q, u_1, e_lsw, k_ti, List.drop_succ_cons, List.drop_zero, List.drop_nil, List.zip_cons_cons, List.zip_nil_right, List.zip_nil_left, List.all_cons, List.all_nil, Bool.and_true, Bool.and_self, decide_true, decide_false, Option.toList, List.cons_append, List.nil_append, List.append_nil, DX8_take_0, DX8_take_1, DX8_take_2, FLX8, LDX8, aS_1, aS_2, h0, h0']
      have e2 : tk2 S n b L = (ρ.1, true, ρ.2.2) := by
        rw [ek2]
        unfold xpc
        rw [if_pos (Or.inl hf)]
      refine hbad ρ.1 ?_ ?_ a1 b1 hb1
      · simp [tk3, e2]
      · simp [tk3, e2]
    | false =>
      obtain ⟨ha1, hb1⟩ := hok1.1 hf
      subst ha1
      subst hb1
      have hs := hsum.2 hf
      rw [Nat.sub_zero] at hs
      refine srnX8_take C Rt [45] 40 ?_
      simp only [k_i, s_go, s_1, e_op, e_pi, e_pl, e_pr, e_p0, e_li, e_ll, e_lr, e_lk, e_ins, e_rm, e_to, e_sw, e_cmp, k_c, k_n, k_f, k_v, k_lg, ↓reduceIte, reduceCtorEq, Nat.reduceAdd, Nat.reduceSub, Nat.reduceMul, Nat.reduceEqDiff, Nat.reduceLT, Nat.reduceLeDiff, Int.reduceAdd, Int.reduceSub, Int.reduceNeg, Int.reduceLE, Int.reduceLT, Int.reduceToNat, Int.reduceEq, Int.cast_ofNat_Int, List.mem_cons, List.not_mem_nil, List.length_cons, List.length_nil, List.set_cons_zero, List.set_cons_succ, List.toList_toArray, eq_self, true_and, and_true, and_self, or_true, true_or, false_or, or_false, or_self, not_true_eq_false, not_false_eq_true, Classical.not_not, true_implies, false_implies, implies_true, forall_const, and_false, false_and, Nat.le_refl, Nat.zero_le, Bool.false_eq_true, lv_args, s_rl_at, s_gf, s_pf, dn_q, kd_q, cl_q, nf_q, ln_q, tg_q, rr_q, cr_q, u_1, e_lsw, k_ti, List.drop_succ_cons, List.drop_zero, List.drop_nil, List.zip_cons_cons, List.zip_nil_right, List.zip_nil_left, List.all_cons, List.all_nil, Bool.and_true, Bool.and_self, decide_true, decide_false, Option.toList, List.cons_append, List.nil_append, List.append_nil, DX8_take_0, DX8_take_1, DX8_take_2, FLX8, LDX8, aS_1, aS_2, (show ((0 : Int32) ≤ -1) = False by decide)]
      refine lp_X8_take (T := t0 T) C Rt hQ0 hle ?_ ρ.1 0 (by omega)
      rw [← hs]
      refine srnX8_take C Rt [] 40 ?_
      simp only [k_i, s_go, s_1, e_op, e_pi, e_pl, e_pr, e_p0, e_li, e_ll, e_lr, e_lk, e_ins, e_rm, e_to, e_sw, e_cmp, k_c, k_n, k_f, k_v, k_lg, ↓reduceIte, reduceCtorEq, Nat.reduceAdd, Nat.reduceSub, Nat.reduceMul, Nat.reduceEqDiff, Nat.reduceLT, Nat.reduceLeDiff, Int.reduceAdd, Int.reduceSub, Int.reduceNeg, Int.reduceLE, Int.reduceLT, Int.reduceToNat, Int.reduceEq, Int.cast_ofNat_Int, List.mem_cons, List.not_mem_nil, List.length_cons, List.length_nil, List.set_cons_zero, List.set_cons_succ, List.toList_toArray, eq_self, true_and, and_true, and_self, or_true, true_or, false_or, or_false, or_self, not_true_eq_false, not_false_eq_true, Classical.not_not, true_implies, false_implies, implies_true, forall_const, and_false, false_and, Nat.le_refl, Nat.zero_le, Bool.false_eq_true, lv_args, s_rl_at, s_gf, s_pf, dn_q, kd_q, cl_q, nf_q, ln_q, tg_q, rr_q, cr_q, u_1, e_lsw, k_ti, List.drop_succ_cons, List.drop_zero, List.drop_nil, List.zip_cons_cons, List.zip_nil_right, List.zip_nil_left, List.all_cons, List.all_nil, Bool.and_true, Bool.and_self, decide_true, decide_false, Option.toList, List.cons_append, List.nil_append, List.append_nil, DX8_take_0, DX8_take_1, DX8_take_2, FLX8, LDX8, aS_1, aS_2]
      refine sX8_take_82 C (m_X8_next l A (t0 T) hQ0 hle hok1 255) (s_obj (show 0 < 1 by decide) rfl) (hcat := Nat.le_of_ble_eq_true rfl) (k := ?_)
      rintro v2 G2 ⟨S2, rfl, a2, b2, rfl, hok2, rfl⟩
      cases hf2 : (nxt (S.1 21 b) L 255 ρ).2.2.1 with
      | true =>
        obtain ⟨t1, t2⟩ := nxt_tt hf2
        have hb2 := hok2.2 hf2
        rw [t1] at hb2
        have h0 : (0 : Int32) ≤ b2 := by rw [hb2]; exact Int32.not_lt.mp (nI_pos (by omega))
        have h0' : ¬ b2 < 0 := Int32.not_lt.mpr h0
        refine srnX8_take C Rt [] 80 ?_
        simp only [k_i, s_go, s_1, e_op, e_pi, e_pl, e_pr, e_p0, e_li, e_ll, e_lr, e_lk, e_ins, e_rm, e_to, e_sw, e_cmp, k_c, k_n, k_f, k_v, k_lg, ↓reduceIte, reduceCtorEq, Nat.reduceAdd, Nat.reduceSub, Nat.reduceMul, Nat.reduceEqDiff, Nat.reduceLT, Nat.reduceLeDiff, Int.reduceAdd, Int.reduceSub, Int.reduceNeg, Int.reduceLE, Int.reduceLT, Int.reduceToNat, Int.reduceEq, Int.cast_ofNat_Int, List.mem_cons, List.not_mem_nil, List.length_cons, List.length_nil, List.set_cons_zero, List.set_cons_succ, List.toList_toArray, eq_self, true_and, and_true, and_self, or_true, true_or, false_or, or_false, or_self, not_true_eq_false, not_false_eq_true, Classical.not_not, true_implies, false_implies, implies_true, forall_const, and_false, false_and, Nat.le_refl, Nat.zero_le, Bool.false_eq_true, lv_args, s_rl_at, s_gf, s_pf, dn_q, kd_q, cl_q, nf_q, ln_q, tg_q, rr_q, cr_q, u_1, e_lsw, k_ti, List.drop_succ_cons, List.drop_zero, List.drop_nil, List.zip_cons_cons, List.zip_nil_right, List.zip_nil_left, List.all_cons, List.all_nil, Bool.and_true, Bool.and_self, decide_true, decide_false, Option.toList, List.cons_append, List.nil_append, List.append_nil, DX8_take_0, DX8_take_1, DX8_take_2, FLX8, LDX8, aS_1, aS_2, h0, h0', aS_b]
        have e2 : tk2 S n b L = (ρ.1, true, ρ.2.2) := by
          rw [ek2]
          unfold xpc
          rw [if_pos]
          have h255 := by_0_255 ρ.2.2
          rcases t2 with t | t | t | t
          · rw [hf] at t
            cases t
          · exact Or.inr (Or.inl t)
          · exact Or.inr (Or.inr (fun z => h255.1 (by rw [← z]; exact t)))
          · exact Or.inr (Or.inr (fun z => h255.2 (by rw [← z]; exact t)))
        refine hbad ρ.1 ?_ ?_ a2 b2 hb2
        · simp [tk3, e2]
        · simp [tk3, e2]
      | false =>
        obtain ⟨g1, g2, g3, g4, g5⟩ := nxt_f hf2
        obtain ⟨ha2, hb2⟩ := hok2.1 hf2
        rw [g5] at ha2 ⊢
        have ha2 : a2 = nI (ρ.1 + 1) := ha2
        subst ha2
        subst hb2
        by_cases hx : S.1 21 b ρ.1 = (ρ.2.2 &&& 255).toInt32
        · have e2 : tk2 S n b L = (ρ.1 + 1, false, ρ.2.2) := by
            rw [ek2]
            unfold xpc
            rw [if_neg]
            rintro (t | t | t)
            · rw [hf] at t
              cases t
            · exact g2 t
            · exact t hx
          refine srnX8_take C Rt [152] 80 ?_
          simp only [k_i, s_go, s_1, e_op, e_pi, e_pl, e_pr, e_p0, e_li, e_ll, e_lr, e_lk, e_ins, e_rm, e_to, e_sw, e_cmp, k_c, k_n, k_f, k_v, k_lg, ↓reduceIte, reduceCtorEq, Nat.reduceAdd, Nat.reduceSub, Nat.reduceMul, Nat.reduceEqDiff, Nat.reduceLT, Nat.reduceLeDiff, Int.reduceAdd, Int.reduceSub, Int.reduceNeg, Int.reduceLE, Int.reduceLT, Int.reduceToNat, Int.reduceEq, Int.cast_ofNat_Int, List.mem_cons, List.not_mem_nil, List.length_cons, List.length_nil, List.set_cons_zero, List.set_cons_succ, List.toList_toArray, eq_self, true_and, and_true, and_self, or_true, true_or, false_or, or_false, or_self, not_true_eq_false, not_false_eq_true, Classical.not_not, true_implies, false_implies, implies_true, forall_const, and_false, false_and, Nat.le_refl, Nat.zero_le, Bool.false_eq_true, lv_args, s_rl_at, s_gf, s_pf, dn_q, kd_q, cl_q, nf_q, ln_q, tg_q, rr_q, cr_q, u_1, e_lsw, k_ti, List.drop_succ_cons, List.drop_zero, List.drop_nil, List.zip_cons_cons, List.zip_nil_right, List.zip_nil_left, List.all_cons, List.all_nil, Bool.and_true, Bool.and_self, decide_true, decide_false, Option.toList, List.cons_append, List.nil_append, List.append_nil, DX8_take_0, DX8_take_1, DX8_take_2, FLX8, LDX8, aS_1, aS_2, aS_b, by_255, hx, (show ((0 : Int32) ≤ -1) = False by decide), hQ.1, x_le (a := L) (b := ρ.1 + 1) (by omega) (by omega)]
          refine ⟨fun h9 => ?_, fun h9 => ?_⟩
          · have e3 : (tk3 S n b L).2.1 = false := by
              have h10 : ¬ ρ.1 + 1 < L := by omega
              simp [tk3, e2, h10]
            refine srnX8_take C Rt [] 40 ?_
            simp only [k_i, s_go, s_1, e_op, e_pi, e_pl, e_pr, e_p0, e_li, e_ll, e_lr, e_lk, e_ins, e_rm, e_to, e_sw, e_cmp, k_c, k_n, k_f, k_v, k_lg, ↓reduceIte, reduceCtorEq, Nat.reduceAdd, Nat.reduceSub, Nat.reduceMul, Nat.reduceEqDiff, Nat.reduceLT, Nat.reduceLeDiff, Int.reduceAdd, Int.reduceSub, Int.reduceNeg, Int.reduceLE, Int.reduceLT, Int.reduceToNat, Int.reduceEq, Int.cast_ofNat_Int, List.mem_cons, List.not_mem_nil, List.length_cons, List.length_nil, List.set_cons_zero, List.set_cons_succ, List.toList_toArray, eq_self, true_and, and_true, and_self, or_true, true_or, false_or, or_false, or_self, not_true_eq_false, not_false_eq_true, Classical.not_not, true_implies, false_implies, implies_true, forall_const, and_false, false_and, Nat.le_refl, Nat.zero_le, Bool.false_eq_true, lv_args, s_rl_at, s_gf, s_pf, dn_q, kd_q, cl_q, nf_q, ln_q, tg_q, rr_q, cr_q, u_1, e_lsw, k_ti, List.drop_succ_cons, List.drop_zero, List.drop_nil, List.zip_cons_cons, List.zip_nil_right, List.zip_nil_left, List.all_cons, List.all_nil, Bool.and_true, Bool.and_self, decide_true, decide_false, Option.toList, List.cons_append, List.nil_append, List.append_nil, DX8_take_0, DX8_take_1, DX8_take_2, FLX8, LDX8, aS_1, aS_2, (show ((-1 : Int32) < 0) = True by decide), hT3, nI_add, (show (60 : Int32) = nI 60 from rfl), x_le (a := n + m) (b := 60) (by omega) (by omega)]
            refine ⟨fun h11 => ?_, fun h11 => ?_⟩
            · have hG : takG S n b L = true := by
                unfold takG
                rw [em3]
                exact decide_eq_true ⟨hd, hk, e3, by omega⟩
              have hc2 := m_X8_parcel l A (aS (t0 T) (nI (ρ.1 + 1)) (-1)) (kp := true) (n := n) (oQ_aS hQ0) hn hT3 (fun _ => ⟨by rw [show (nxt (S.1 21 b) L 60 (0, false, 7)) = tka S b L from rfl, em3]; exact h11, by rw [show (nxt (S.1 21 b) L 60 (0, false, 7)) = tka S b L from rfl, em3, eρ2]; exact hf⟩)
              rw [show (nxt (S.1 21 b) L 60 (0, false, 7)) = tka S b L from rfl, em3, em2] at hc2
              refine sX8_take_183 C hc2 (s_obj (show 0 < 1 by decide) rfl) (hcat := Nat.le_of_ble_eq_true rfl) (k := ?_)
              rintro v2 G2 ⟨S2, rfl, a3, b3, rfl, hok3, rfl⟩
              rw [show ∀ X, pz true X (aS (t0 T) (nI (ρ.1 + 1)) (-1)) = X from fun _ => rfl]
              have f3 : (tkT n (S.1 21 b) L m 0 (aS (t0 T) (nI (ρ.1 + 1)) (-1)) (tka S b L).2).1 30 0 3 = nI n := f3_tkT.trans hT3
              refine srnX8_take C Rt [] 40 ?_
              simp only [k_i, s_go, s_1, e_op, e_pi, e_pl, e_pr, e_p0, e_li, e_ll, e_lr, e_lk, e_ins, e_rm, e_to, e_sw, e_cmp, k_c, k_n, k_f, k_v, k_lg, ↓reduceIte, reduceCtorEq, Nat.reduceAdd, Nat.reduceSub, Nat.reduceMul, Nat.reduceEqDiff, Nat.reduceLT, Nat.reduceLeDiff, Int.reduceAdd, Int.reduceSub, Int.reduceNeg, Int.reduceLE, Int.reduceLT, Int.reduceToNat, Int.reduceEq, Int.cast_ofNat_Int, List.mem_cons, List.not_mem_nil, List.length_cons, List.length_nil, List.set_cons_zero, List.set_cons_succ, List.toList_toArray, eq_self, true_and, and_true, and_self, or_true, true_or, false_or, or_false, or_self, not_true_eq_false, not_false_eq_true, Classical.not_not, true_implies, false_implies, implies_true, forall_const, and_false, false_and, Nat.le_refl, Nat.zero_le, Bool.false_eq_true, lv_args, s_rl_at, s_gf, s_pf, dn_q, kd_q, cl_q, nf_q, ln_q, tg_q, rr_q, cr_q, u_1, e_lsw, k_ti, List.drop_succ_cons, List.drop_zero, List.drop_nil, List.zip_cons_cons, List.zip_nil_right, List.zip_nil_left, List.all_cons, List.all_nil, Bool.and_true, Bool.and_self, decide_true, decide_false, Option.toList, List.cons_append, List.nil_append, List.append_nil, DX8_take_0, DX8_take_1, DX8_take_2, FLX8, LDX8, aS_1, aS_2, f3, nI_add, aS_u3]
              refine ⟨⟨nI (ρ.1 + 1), -1, a3, b3, ?_⟩, ?_⟩
              · rw [takM_y hG, em3]
              · have h12 : ¬ 60 - n < m := by omega
                simp [takC, hd, hk, e3, em2, nN_nI (show m < 2147483648 by omega), h12]
            · have hG : takG S n b L = false := by
                unfold takG
                rw [em3]
                exact decide_eq_false (fun z => by have := z.2.2.2; omega)
              refine takP_n hG ?_
              have h12 : 60 - n < m := by omega
              simp [takC, hd, hk, e3, em3, h12]
          · have h10 : ρ.1 + 1 < L := by omega
            refine srnX8_take C Rt [] 40 ?_
            simp only [k_i, s_go, s_1, e_op, e_pi, e_pl, e_pr, e_p0, e_li, e_ll, e_lr, e_lk, e_ins, e_rm, e_to, e_sw, e_cmp, k_c, k_n, k_f, k_v, k_lg, ↓reduceIte, reduceCtorEq, Nat.reduceAdd, Nat.reduceSub, Nat.reduceMul, Nat.reduceEqDiff, Nat.reduceLT, Nat.reduceLeDiff, Int.reduceAdd, Int.reduceSub, Int.reduceNeg, Int.reduceLE, Int.reduceLT, Int.reduceToNat, Int.reduceEq, Int.cast_ofNat_Int, List.mem_cons, List.not_mem_nil, List.length_cons, List.length_nil, List.set_cons_zero, List.set_cons_succ, List.toList_toArray, eq_self, true_and, and_true, and_self, or_true, true_or, false_or, or_false, or_self, not_true_eq_false, not_false_eq_true, Classical.not_not, true_implies, false_implies, implies_true, forall_const, and_false, false_and, Nat.le_refl, Nat.zero_le, Bool.false_eq_true, lv_args, s_rl_at, s_gf, s_pf, dn_q, kd_q, cl_q, nf_q, ln_q, tg_q, rr_q, cr_q, u_1, e_lsw, k_ti, List.drop_succ_cons, List.drop_zero, List.drop_nil, List.zip_cons_cons, List.zip_nil_right, List.zip_nil_left, List.all_cons, List.all_nil, Bool.and_true, Bool.and_self, decide_true, decide_false, Option.toList, List.cons_append, List.nil_append, List.append_nil, DX8_take_0, DX8_take_1, DX8_take_2, FLX8, LDX8, aS_1, aS_2, (show ¬ (nI (ρ.1 + 1) < 0) from nI_pos (by omega))]
            refine hbad (ρ.1 + 1) ?_ ?_ _ _ rfl
            · simp [tk3, e2, h10]
            · simp [tk3, e2]
        · have e2 : tk2 S n b L = (ρ.1, true, ρ.2.2) := by
            rw [ek2]
            unfold xpc
            rw [if_pos (Or.inr (Or.inr hx))]
          refine srnX8_take C Rt [] 80 ?_
          simp only [k_i, s_go, s_1, e_op, e_pi, e_pl, e_pr, e_p0, e_li, e_ll, e_lr, e_lk, e_ins, e_rm, e_to, e_sw, e_cmp, k_c, k_n, k_f, k_v, k_lg, ↓reduceIte, reduceCtorEq, Nat.reduceAdd, Nat.reduceSub, Nat.reduceMul, Nat.reduceEqDiff, Nat.reduceLT, Nat.reduceLeDiff, Int.reduceAdd, Int.reduceSub, Int.reduceNeg, Int.reduceLE, Int.reduceLT, Int.reduceToNat, Int.reduceEq, Int.cast_ofNat_Int, List.mem_cons, List.not_mem_nil, List.length_cons, List.length_nil, List.set_cons_zero, List.set_cons_succ, List.toList_toArray, eq_self, true_and, and_true, and_self, or_true, true_or, false_or, or_false, or_self, not_true_eq_false, not_false_eq_true, Classical.not_not, true_implies, false_implies, implies_true, forall_const, and_false, false_and, Nat.le_refl, Nat.zero_le, Bool.false_eq_true, lv_args, s_rl_at, s_gf, s_pf, dn_q, kd_q, cl_q, nf_q, ln_q, tg_q, rr_q, cr_q, u_1, e_lsw, k_ti, List.drop_succ_cons, List.drop_zero, List.drop_nil, List.zip_cons_cons, List.zip_nil_right, List.zip_nil_left, List.all_cons, List.all_nil, Bool.and_true, Bool.and_self, decide_true, decide_false, Option.toList, List.cons_append, List.nil_append, List.append_nil, DX8_take_0, DX8_take_1, DX8_take_2, FLX8, LDX8, aS_1, aS_2, aS_b, by_255, hx, (show ((0 : Int32) ≤ -1) = False by decide), (show ((0 : Int32) ≤ nI ρ.1) from Int32.not_lt.mp (nI_pos (by omega))), (show ¬ (nI ρ.1 < 0) from nI_pos (by omega))]
          refine hbad ρ.1 ?_ ?_ _ _ rfl
          · simp [tk3, e2]
          · simp [tk3, e2]
  · rw [show uI T 30 0 0 0 = aS (t0 T) ((t0 T).1 30 0 32) ((t0 T).1 30 0 41) from aS_id.symm]
    refine takP_n ?_ ?_
    · simp [takG, hk]
    · simp [takC, hd, hk]
  · rw [show uI T 30 0 0 0 = aS (t0 T) ((t0 T).1 30 0 32) ((t0 T).1 30 0 41) from aS_id.symm]
    refine takP_n ?_ ?_
    · simp [takG, hd]
    · simp [takC, hd]
