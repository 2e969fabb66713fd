/-! bits of ints; the reference: next, nextBytes -/
def biI (s : Int32) (n : Nat) : Bool := s.toBitVec.getLsbD n
theorem sm_I : ∀ c, c < 32 → (nI c &&& 31).toBitVec.smod 32 = BitVec.ofNat 32 c := by decide +kernel
theorem sm_J : ∀ c, c < 64 → ((nI c).toInt64 &&& 63).toBitVec.smod 64 = BitVec.ofNat 64 c := by decide +kernel
theorem one_bit {w : Nat} (x : BitVec w) (hw : 1 < w) : (x &&& 1#w = 1#w) ↔ x.getLsbD 0 = true := by
  constructor
  · intro h
    have := congrArg (fun y => y.getLsbD 0) h
    have h1 : (1#w).getLsbD 0 = true := by simp; omega
    simpa [h1] using this
  · intro h
    apply BitVec.eq_of_getLsbD_eq
    intro i hi
    by_cases hi0 : i = 0
    · subst hi0
      simp [h]
    · simp [hi0]
theorem shr_I {s : Int32} {c : Nat} (hc : c < 32) : ((s >>> (nI c &&& 31)) &&& 1 = 1) ↔ biI s c = true := by
  rw [← Int32.toBitVec_inj, Int32.toBitVec_and]
  have e : (s >>> (nI c &&& 31)).toBitVec = s.toBitVec.sshiftRight c := by
    rw [Int32.toBitVec_shiftRight, sm_I c hc]
    simp [BitVec.sshiftRight', Nat.mod_eq_of_lt (show c < 4294967296 by omega)]
  rw [e]
  show (s.toBitVec.sshiftRight c &&& 1#32 = 1#32) ↔ _
  rw [one_bit _ (by decide), BitVec.getLsbD_sshiftRight]
  simp [biI, hc]
theorem shr_J {s : Int64} {c : Nat} (hc : c < 64) : ((s >>> ((nI c).toInt64 &&& 63)) &&& 1 = 1) ↔ bit s c = true := by
  rw [← Int64.toBitVec_inj, Int64.toBitVec_and]
  have e : (s >>> ((nI c).toInt64 &&& 63)).toBitVec = s.toBitVec.sshiftRight c := by
    rw [Int64.toBitVec_shiftRight, sm_J c hc]
    simp [BitVec.sshiftRight', Nat.mod_eq_of_lt (show c < 18446744073709551616 by omega)]
  rw [e]
  show (s.toBitVec.sshiftRight c &&& 1#64 = 1#64) ↔ _
  rw [one_bit _ (by decide), BitVec.getLsbD_sshiftRight]
  simp [bit, hc]
theorem shl_I : ∀ j, j < 32 → ((1 : Int32) <<< (nI j &&& 31)).toBitVec = BitVec.twoPow 32 j := by decide +kernel
theorem biI_put {s : Int32} {c : Nat} (hc : c < 32) (n : Nat) : biI (s ||| (1 : Int32) <<< (nI c &&& 31)) n = (biI s n || decide (c = n)) := by
  unfold biI
  rw [Int32.toBitVec_or, shl_I c hc, BitVec.getLsbD_or, BitVec.getLsbD_twoPow]
  simp [hc]
def aS (T : pS) (a b : Int32) : pS := (fun k' i' j' => if k' = 30 ∧ i' = 0 ∧ j' = 32 then a else if k' = 30 ∧ i' = 0 ∧ j' = 41 then b else T.1 k' i' j', T.2)
theorem aS_1 (T : pS) (a b : Int32) (k' i' j' : Nat) : (aS T a b).1 k' i' j' = if k' = 30 ∧ i' = 0 ∧ j' = 32 then a else if k' = 30 ∧ i' = 0 ∧ j' = 41 then b else T.1 k' i' j' := rfl
theorem aS_2 (T : pS) (a b : Int32) : (aS T a b).2 = T.2 := rfl
theorem aS_a {T : pS} {a b x : Int32} : uI (aS T a b) 30 0 32 x = aS T x b := by
  refine Prod.ext ?_ rfl
  funext k' i' j'
  simp only [u_1, aS_1]
  by_cases h : k' = 30 ∧ i' = 0 ∧ j' = 32 <;> simp [h]
theorem aS_b {T : pS} {a b x : Int32} : uI (aS T a b) 30 0 41 x = aS T a x := by
  refine Prod.ext ?_ rfl
  funext k' i' j'
  simp only [u_1, aS_1]
  by_cases h : k' = 30 ∧ i' = 0 ∧ j' = 41
  · obtain ⟨rfl, rfl, rfl⟩ := h
    simp
  · simp [h]
theorem aS_0 {T : pS} {a b : Int32} : uI (uI T 30 0 32 a) 30 0 41 b = aS T a b := by
  refine Prod.ext ?_ rfl
  funext k' i' j'
  simp only [u_1, aS_1]
  by_cases h : k' = 30 ∧ i' = 0 ∧ j' = 32
  · obtain ⟨rfl, rfl, rfl⟩ := h
    simp
  · simp [h]
/-- the reference's place and wrong place are as the reader's -/
def okR (ρ : pR) (a b : Int32) : Prop := (ρ.2.1 = false → a = nI ρ.1 ∧ b = -1) ∧ (ρ.2.1 = true → b = nI ρ.1)
/-- what the reference needs of OUT -/
def oQ (T : pS) (d : Nat → Int32) (e : Nat) : Prop := T.1 30 0 36 = nI e ∧ e ≤ 4000 ∧ ∀ j, j < 4000 → T.1 68 0 j = d j
theorem in_m (x m : Int32) : decide ((0 : Int64) ≤ x.toInt64 ∧ x.toInt64 ≤ m.toInt64) = decide (¬ (x < 0 ∨ m < x)) := by
  apply decide_eq_decide.mpr
  rw [Int64.le_iff_toInt_le, Int64.le_iff_toInt_le, i64_toInt, i64_toInt, Int32.lt_iff_toInt_lt, Int32.lt_iff_toInt_lt]
  have h1 : ((0 : Int64)).toInt = 0 := by decide
  have h3 : ((0 : Int32)).toInt = 0 := by decide
  omega
set_option maxHeartbeats 4000000 in
set_option maxRecDepth 100000 in
theorem m_X8_next (l : Launch) (A : pA) (T : pS) {d : Nat → Int32} {e : Nat} {ρ : pR} {a b : Int32} (hQ : oQ T d e) (ha : ρ.1 ≤ e) (hok : okR ρ a b) (most : Int32) : e_MX8_next l [.ref (ad A 30 0), .int most] (gS A (aS T a b)) (s_P A (fun v S2 => ∃ a' b', S2 = aS T a' b' ∧ okR (nxt d e most ρ).2 a' b' ∧ v = some (.int (nxt d e most ρ).1))) := by
  obtain ⟨o1, o2, o3⟩ := hQ
  refine ofX8_next (Nat.le_of_ble_eq_true rfl) ?_
  intro V C Rt
  obtain ⟨p, f, σ⟩ := ρ
  cases f with
  | true =>
    have hb : b = nI p := hok.2 rfl
    have h0 : ¬ b < 0 := by rw [hb]; exact nI_pos (by show p < _; have : p ≤ e := ha; omega)
    refine srnX8_next C Rt [] 40 ?_
    simp only [k_i, s_go, s_1, e_op, e_pi, e_pl, e_pr, e_p0, e_li, e_ll, e_lr, e_lk, e_ins, e_rm, e_to, e_sw, e_cmp, k_c, k_n, k_f, k_v, k_lg, ↓reduceIte, reduceCtorEq, Nat.reduceAdd, Nat.reduceSub, Nat.reduceMul, Nat.reduceEqDiff, Nat.reduceLT, Nat.reduceLeDiff, Int.reduceAdd, Int.reduceSub, Int.reduceNeg, Int.reduceLE, Int.reduceLT, Int.reduceToNat, Int.reduceEq, Int.cast_ofNat_Int, List.mem_cons, List.not_mem_nil, List.length_cons, List.length_nil, List.set_cons_zero, List.set_cons_succ, List.toList_toArray, eq_self, true_and, and_true, and_self, or_true, true_or, false_or, or_false, or_self, not_true_eq_false, not_false_eq_true, Classical.not_not, true_implies, false_implies, implies_true, forall_const, and_false, false_and, Nat.le_refl, Nat.zero_le, Bool.false_eq_true, lv_args, s_rl_at, s_gf, s_pf, dn_q, kd_q, cl_q, nf_q, ln_q, tg_q, rr_q, cr_q, u_1, e_lsw, k_ti, List.drop_succ_cons, List.drop_zero, List.drop_nil, List.zip_cons_cons, List.zip_nil_right, List.zip_nil_left, List.all_cons, List.all_nil, Bool.and_true, Bool.and_self, decide_true, decide_false, Option.toList, List.cons_append, List.nil_append, List.append_nil, DX8_next_0, DX8_next_1, FLX8, LDX8, aS_1, aS_2, h0]
    refine ⟨a, b, rfl, ?_, ?_⟩
    · refine ⟨fun h => ?_, fun _ => hb⟩
      simp [nxt] at h
    · simp [nxt]
  | false =>
    obtain ⟨hA, hb⟩ := hok.1 rfl
    have hA : a = nI p := hA
    have ha : p ≤ e := ha
    subst hb
    subst hA
    refine srnX8_next C Rt [] 40 ?_
    simp only [k_i, s_go, s_1, e_op, e_pi, e_pl, e_pr, e_p0, e_li, e_ll, e_lr, e_lk, e_ins, e_rm, e_to, e_sw, e_cmp, k_c, k_n, k_f, k_v, k_lg, ↓reduceIte, reduceCtorEq, Nat.reduceAdd, Nat.reduceSub, Nat.reduceMul, Nat.reduceEqDiff, Nat.reduceLT, Nat.reduceLeDiff, Int.reduceAdd, Int.reduceSub, Int.reduceNeg, Int.reduceLE, Int.reduceLT, Int.reduceToNat, Int.reduceEq, Int.cast_ofNat_Int, List.mem_cons, List.not_mem_nil, List.length_cons, List.length_nil, List.set_cons_zero, List.set_cons_succ, List.toList_toArray, eq_self, true_and, and_true, and_self, or_true, true_or, false_or, or_false, or_self, not_true_eq_false, not_false_eq_true, Classical.not_not, true_implies, false_implies, implies_true, forall_const, and_false, false_and, Nat.le_refl, Nat.zero_le, Bool.false_eq_true, lv_args, s_rl_at, s_gf, s_pf, dn_q, kd_q, cl_q, nf_q, ln_q, tg_q, rr_q, cr_q, u_1, e_lsw, k_ti, List.drop_succ_cons, List.drop_zero, List.drop_nil, List.zip_cons_cons, List.zip_nil_right, List.zip_nil_left, List.all_cons, List.all_nil, Bool.and_true, Bool.and_self, decide_true, decide_false, Option.toList, List.cons_append, List.nil_append, List.append_nil, DX8_next_0, DX8_next_1, FLX8, LDX8, aS_1, aS_2, (show ((-1 : Int32) < 0) = True by decide), o1, x_eq (a := p) (b := e) (by omega) (by omega), x_cl (a := p) (by omega), x_in (a := p) (n := 4000) (by omega)]
    refine ⟨fun h => ?_, fun h => ⟨by omega, ?_⟩⟩
    · rw [aS_b]
      have h2 : e ≤ p := by omega
      refine ⟨_, _, rfl, ⟨fun h => ?_, fun _ => ?_⟩, ?_⟩
      · simp [nxt, h2] at h
      · simp [nxt, h2]
      · simp [nxt, h2]
    · have hi := m_X8_in l (gS A (aS T (nI p) (-1))) (d p).toInt64 0 most.toInt64
      rw [in_m] at hi
      rw [o3 p (by omega)]
      refine sX8_next_33 C hi (hcat := Nat.le_of_ble_eq_true rfl) (k := ?_)
      rintro v2 G2 ⟨rfl, rfl⟩
      have h2 : ¬ e ≤ p := by omega
      by_cases hc : d p < 0 ∨ most < d p
      · simp only [hc, not_true_eq_false, decide_false]
        refine srnX8_next C Rt [] 40 ?_
        simp only [k_i, s_go, s_1, e_op, e_pi, e_pl, e_pr, e_p0, e_li, e_ll, e_lr, e_lk, e_ins, e_rm, e_to, e_sw, e_cmp, k_c, k_n, k_f, k_v, k_lg, ↓reduceIte, reduceCtorEq, Nat.reduceAdd, Nat.reduceSub, Nat.reduceMul, Nat.reduceEqDiff, Nat.reduceLT, Nat.reduceLeDiff, Int.reduceAdd, Int.reduceSub, Int.reduceNeg, Int.reduceLE, Int.reduceLT, Int.reduceToNat, Int.reduceEq, Int.cast_ofNat_Int, List.mem_cons, List.not_mem_nil, List.length_cons, List.length_nil, List.set_cons_zero, List.set_cons_succ, List.toList_toArray, eq_self, true_and, and_true, and_self, or_true, true_or, false_or, or_false, or_self, not_true_eq_false, not_false_eq_true, Classical.not_not, true_implies, false_implies, implies_true, forall_const, and_false, false_and, Nat.le_refl, Nat.zero_le, Bool.false_eq_true, lv_args, s_rl_at, s_gf, s_pf, dn_q, kd_q, cl_q, nf_q, ln_q, tg_q, rr_q, cr_q, u_1, e_lsw, k_ti, List.drop_succ_cons, List.drop_zero, List.drop_nil, List.zip_cons_cons, List.zip_nil_right, List.zip_nil_left, List.all_cons, List.all_nil, Bool.and_true, Bool.and_self, decide_true, decide_false, Option.toList, List.cons_append, List.nil_append, List.append_nil, DX8_next_0, DX8_next_1, FLX8, LDX8, b2i_f, aS_1, aS_2]
        rw [aS_b]
        refine ⟨_, _, rfl, ⟨fun h => ?_, fun _ => ?_⟩, ?_⟩
        · simp [nxt, hc] at h
        · simp [nxt, hc]
        · simp [nxt, hc]
      · simp only [hc, not_false_eq_true, decide_true]
        refine srnX8_next C Rt [] 40 ?_
        simp only [k_i, s_go, s_1, e_op, e_pi, e_pl, e_pr, e_p0, e_li, e_ll, e_lr, e_lk, e_ins, e_rm, e_to, e_sw, e_cmp, k_c, k_n, k_f, k_v, k_lg, ↓reduceIte, reduceCtorEq, Nat.reduceAdd, Nat.reduceSub, Nat.reduceMul, Nat.reduceEqDiff, Nat.reduceLT, Nat.reduceLeDiff, Int.reduceAdd, Int.reduceSub, Int.reduceNeg, Int.reduceLE, Int.reduceLT, Int.reduceToNat, Int.reduceEq, Int.cast_ofNat_Int, List.mem_cons, List.not_mem_nil, List.length_cons, List.length_nil, List.set_cons_zero, List.set_cons_succ, List.toList_toArray, eq_self, true_and, and_true, and_self, or_true, true_or, false_or, or_false, or_self, not_true_eq_false, not_false_eq_true, Classical.not_not, true_implies, false_implies, implies_true, forall_const, and_false, false_and, Nat.le_refl, Nat.zero_le, Bool.false_eq_true, lv_args, s_rl_at, s_gf, s_pf, dn_q, kd_q, cl_q, nf_q, ln_q, tg_q, rr_q, cr_q, u_1, e_lsw, k_ti, List.drop_succ_cons, List.drop_zero, List.drop_nil, List.zip_cons_cons, List.zip_nil_right, List.zip_nil_left, List.all_cons, List.all_nil, Bool.and_true, Bool.and_self, decide_true, decide_false, Option.toList, List.cons_append, List.nil_append, List.append_nil, DX8_next_0, DX8_next_1, FLX8, LDX8, b2i_t, aS_1, aS_2, nI_1, nI_pred, x_cl (a := p) (by omega), x_in (a := p) (n := 4000) (by omega), o3 p (by omega)]
        refine ⟨by omega, ?_⟩
        rw [aS_a]
        have hc2 : ¬ ((p, false, σ).2.1 = true ∨ e ≤ (p, false, σ).1 ∨ d (p, false, σ).1 < 0 ∨ most < d (p, false, σ).1) := by
          show ¬ (false = true ∨ e ≤ p ∨ d p < 0 ∨ most < d p)
          simp [h2, hc]
        refine ⟨_, _, rfl, ?_, ?_⟩
        · unfold nxt
          rw [if_neg hc2]
          exact ⟨fun _ => ⟨rfl, rfl⟩, fun h => by cases h⟩
        · unfold nxt
          rw [if_neg hc2]
section
variable {V : pV} {l : Launch} {A : pA} {post : Option Value → pS → Prop} {T : pS}
set_option maxHeartbeats 4000000 in
set_option maxRecDepth 100000 in
theorem lp_X8_nextBytes (C : e_CX8_nextBytes V l) (Rt : e_RX8_nextBytes V (s_P A post)) {d : Nat → Int32} {e n : Nat} (hQ : oQ T d e) (hn : n ≤ 8) : ∀ k i v ρ a b, i + k = n → ρ.1 ≤ e → okR ρ a b → (∀ a' b', okR (num d e k v ρ).2 a' b' → post (some (.long (num d e k v ρ).1)) (aS T a' b')) → V 0 0 5 [(0, .ref (ad A 30 0)), (1, .int (nI n)), (2, .long v), (4, .int (nI i))] [] (gS A (aS T a b)) := by
  intro k
  induction k with
  | zero =>
    intro i v ρ a b hi ha hok hp
    have hi2 : i = n := by omega
    subst hi2
    refine srnX8_nextBytes C Rt [5] 40 ?_
    simp only [k_i, s_go, s_1, e_op, e_pi, e_pl, e_pr, e_p0, e_li, e_ll, e_lr, e_lk, e_ins, e_rm, e_to, e_sw, e_cmp, k_c, k_n, k_f, k_v, k_lg, ↓reduceIte, reduceCtorEq, Nat.reduceAdd, Nat.reduceSub, Nat.reduceMul, Nat.reduceEqDiff, Nat.reduceLT, Nat.reduceLeDiff, Int.reduceAdd, Int.reduceSub, Int.reduceNeg, Int.reduceLE, Int.reduceLT, Int.reduceToNat, Int.reduceEq, Int.cast_ofNat_Int, List.mem_cons, List.not_mem_nil, List.length_cons, List.length_nil, List.set_cons_zero, List.set_cons_succ, List.toList_toArray, eq_self, true_and, and_true, and_self, or_true, true_or, false_or, or_false, or_self, not_true_eq_false, not_false_eq_true, Classical.not_not, true_implies, false_implies, implies_true, forall_const, and_false, false_and, Nat.le_refl, Nat.zero_le, Bool.false_eq_true, lv_args, s_rl_at, s_gf, s_pf, dn_q, kd_q, cl_q, nf_q, ln_q, tg_q, rr_q, cr_q, u_1, e_lsw, k_ti, List.drop_succ_cons, List.drop_zero, List.drop_nil, List.zip_cons_cons, List.zip_nil_right, List.zip_nil_left, List.all_cons, List.all_nil, Bool.and_true, Bool.and_self, decide_true, decide_false, Option.toList, List.cons_append, List.nil_append, List.append_nil, DX8_nextBytes_0, FLX8, LDX8, x_le (a := i) (b := i) (by omega) (by omega)]
    exact hp a b hok
  | succ k ih =>
    intro i v ρ a b hi ha hok hp
    refine srnX8_nextBytes C Rt [5] 40 ?_
    simp only [k_i, s_go, s_1, e_op, e_pi, e_pl, e_pr, e_p0, e_li, e_ll, e_lr, e_lk, e_ins, e_rm, e_to, e_sw, e_cmp, k_c, k_n, k_f, k_v, k_lg, ↓reduceIte, reduceCtorEq, Nat.reduceAdd, Nat.reduceSub, Nat.reduceMul, Nat.reduceEqDiff, Nat.reduceLT, Nat.reduceLeDiff, Int.reduceAdd, Int.reduceSub, Int.reduceNeg, Int.reduceLE, Int.reduceLT, Int.reduceToNat, Int.reduceEq, Int.cast_ofNat_Int, List.mem_cons, List.not_mem_nil, List.length_cons, List.length_nil, List.set_cons_zero, List.set_cons_succ, List.toList_toArray, eq_self, true_and, and_true, and_self, or_true, true_or, false_or, or_false, or_self, not_true_eq_false, not_false_eq_true, Classical.not_not, true_implies, false_implies, implies_true, forall_const, and_false, false_and, Nat.le_refl, Nat.zero_le, Bool.false_eq_true, lv_args, s_rl_at, s_gf, s_pf, dn_q, kd_q, cl_q, nf_q, ln_q, tg_q, rr_q, cr_q, u_1, e_lsw, k_ti, List.drop_succ_cons, List.drop_zero, List.drop_nil, List.zip_cons_cons, List.zip_nil_right, List.zip_nil_left, List.all_cons, List.all_nil, Bool.and_true, Bool.and_self, decide_true, decide_false, Option.toList, List.cons_append, List.nil_append, List.append_nil, DX8_nextBytes_0, FLX8, LDX8, x_le (a := n) (b := i) (by omega) (by omega)]
    refine ⟨fun h => by omega, fun _ => ?_⟩
    refine sX8_nextBytes_19 C (m_X8_next l A T hQ ha hok 255) (s_obj (show 0 < 1 by decide) rfl) (hcat := Nat.le_of_ble_eq_true rfl) (k := ?_)
    rintro v2 G2 ⟨S2, rfl, a', b', rfl, hok2, rfl⟩
    refine srnX8_nextBytes C Rt [5] 40 ?_
    simp only [k_i, s_go, s_1, e_op, e_pi, e_pl, e_pr, e_p0, e_li, e_ll, e_lr, e_lk, e_ins, e_rm, e_to, e_sw, e_cmp, k_c, k_n, k_f, k_v, k_lg, ↓reduceIte, reduceCtorEq, Nat.reduceAdd, Nat.reduceSub, Nat.reduceMul, Nat.reduceEqDiff, Nat.reduceLT, Nat.reduceLeDiff, Int.reduceAdd, Int.reduceSub, Int.reduceNeg, Int.reduceLE, Int.reduceLT, Int.reduceToNat, Int.reduceEq, Int.cast_ofNat_Int, List.mem_cons, List.not_mem_nil, List.length_cons, List.length_nil, List.set_cons_zero, List.set_cons_succ, List.toList_toArray, eq_self, true_and, and_true, and_self, or_true, true_or, false_or, or_false, or_self, not_true_eq_false, not_false_eq_true, Classical.not_not, true_implies, false_implies, implies_true, forall_const, and_false, false_and, Nat.le_refl, Nat.zero_le, Bool.false_eq_true, lv_args, s_rl_at, s_gf, s_pf, dn_q, kd_q, cl_q, nf_q, ln_q, tg_q, rr_q, cr_q, u_1, e_lsw, k_ti, List.drop_succ_cons, List.drop_zero, List.drop_nil, List.zip_cons_cons, List.zip_nil_right, List.zip_nil_left, List.all_cons, List.all_nil, Bool.and_true, Bool.and_self, decide_true, decide_false, Option.toList, List.cons_append, List.nil_append, List.append_nil, DX8_nextBytes_0, FLX8, LDX8, nI_1]
    exact ih (i + 1) _ _ a' b' (by omega) (nxt_le ha) hok2 hp
end
set_option maxHeartbeats 4000000 in
set_option maxRecDepth 100000 in
theorem m_X8_nextBytes (l : Launch) (A : pA) (T : pS) {d : Nat → Int32} {e n : Nat} {ρ : pR} {a b : Int32} (hQ : oQ T d e) (ha : ρ.1 ≤ e) (hok : okR ρ a b) (hn : n ≤ 8) : e_MX8_nextBytes l [.ref (ad A 30 0), .int (nI n)] (gS A (aS T a b)) (s_P A (fun v S2 => ∃ a' b', S2 = aS T a' b' ∧ okR (num d e n 0 ρ).2 a' b' ∧ v = some (.long (num d e n 0 ρ).1))) := by
  refine ofX8_nextBytes (Nat.le_of_ble_eq_true rfl) ?_
  intro V C Rt
  refine srnX8_nextBytes C Rt [5] 5 ?_
  simp only [k_i, s_go, s_1, e_op, e_pi, e_pl, e_pr, e_p0, e_li, e_ll, e_lr, e_lk, e_ins, e_rm, e_to, e_sw, e_cmp, k_c, k_n, k_f, k_v, k_lg, ↓reduceIte, reduceCtorEq, Nat.reduceAdd, Nat.reduceSub, Nat.reduceMul, Nat.reduceEqDiff, Nat.reduceLT, Nat.reduceLeDiff, Int.reduceAdd, Int.reduceSub, Int.reduceNeg, Int.reduceLE, Int.reduceLT, Int.reduceToNat, Int.reduceEq, Int.cast_ofNat_Int, List.mem_cons, List.not_mem_nil, List.length_cons, List.length_nil, List.set_cons_zero, List.set_cons_succ, List.toList_toArray, eq_self, true_and, and_true, and_self, or_true, true_or, false_or, or_false, or_self, not_true_eq_false, not_false_eq_true, Classical.not_not, true_implies, false_implies, implies_true, forall_const, and_false, false_and, Nat.le_refl, Nat.zero_le, Bool.false_eq_true, lv_args, s_rl_at, s_gf, s_pf, dn_q, kd_q, cl_q, nf_q, ln_q, tg_q, rr_q, cr_q, u_1, e_lsw, k_ti, List.drop_succ_cons, List.drop_zero, List.drop_nil, List.zip_cons_cons, List.zip_nil_right, List.zip_nil_left, List.all_cons, List.all_nil, Bool.and_true, Bool.and_self, decide_true, decide_false, Option.toList, List.cons_append, List.nil_append, List.append_nil, DX8_nextBytes_0, FLX8, LDX8]
  exact lp_X8_nextBytes C Rt hQ hn n 0 0 ρ a b (by omega) ha hok (fun a' b' h => ⟨a', b', rfl, h, rfl⟩)
