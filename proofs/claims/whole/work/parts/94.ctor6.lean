/-! constructors: FactLog -/
def zA (n : Nat) : pE := .inl (0, n, .inl (fun _ => 0))
def zL (n : Nat) : pE := .inl (1, n, .inr (.inl (fun _ => 0)))
def obP (G G2 : pH) (L : List (Nat × pE)) : Prop := ∀ (G0 : pH) (a : Nat) (al : List (Nat × pE)), ¬ G0 a = none → nwC G0 G a al → ¬ G a = none → nwC G0 G2 a (L ++ al) ∧ ∀ y v, G y = some v → G2 y = some v
theorem obP_of {G G2 : pH} {b : Nat} {df cb : pE} {al2 : List (Nat × pE)} (hb : G b = none) (h : nwC (e_up G b df) G2 b al2) (hb2 : G2 b = some cb) : obP G G2 (al2 ++ [(b, cb)]) := by
  intro G0 a al ha hn ha1
  refine ⟨?_, fun y v hy => nwC_kp h hy hb⟩
  rw [List.append_assoc]
  exact nwC_obj ha hn ha1 hb h hb2
theorem m_X5_init2 (l : Launch) {G : pH} {b : Nat} (hb : G b = none) : e_MX5_init l [.ref b] (e_up G b (.inr (7, dfX5))) (fun v G2 => v = none ∧ ∃ t0 t1, obP G G2 [(t1, zA 16), (t0, zA 16), (b, .inr (7, [.ref t0, .ref t1]))]) := by
  refine e_M_mono (m_X5_init l (a := b) e_up_1) ?_
  rintro v G2 ⟨rfl, t0, t1, w, f0, f1, f2⟩
  refine ⟨rfl, t0, t1, obP_of (al2 := [(t1, zA 16), (t0, zA 16)]) hb ⟨w, fun p hp => ?_⟩ f0⟩
  simp only [List.mem_cons, List.not_mem_nil, or_false] at hp
  rcases hp with rfl | rfl
  · exact f2
  · exact f1
theorem m_X3_init2 (l : Launch) {G : pH} {b : Nat} (hb : G b = none) : e_MX3_init l [.ref b] (e_up G b (.inr (5, dfX3))) (fun v G2 => v = none ∧ ∃ t0, obP G G2 [(t0, zA 4000), (b, .inr (5, [.int 0, .int 0, .ref t0]))]) := by
  refine e_M_mono (m_X3_init l (a := b) e_up_1) ?_
  rintro v G2 ⟨rfl, t0, w, f0, f1⟩
  refine ⟨rfl, t0, obP_of (al2 := [(t0, zA 4000)]) hb ⟨w, fun p hp => ?_⟩ f0⟩
  rw [List.mem_singleton.mp hp]
  exact f1
theorem m_X4_init2 (l : Launch) {G : pH} {b : Nat} (hb : G b = none) : e_MX4_init l [.ref b] (e_up G b (.inr (6, dfX4))) (fun v G2 => v = none ∧ ∃ t0, obP G G2 [(t0, zA 0), (b, .inr (6, [.int 0, .int 0, .long 0, .int 0, .ref t0]))]) := by
  refine e_M_mono (m_X4_init l (a := b) e_up_1) ?_
  rintro v G2 ⟨rfl, t0, w, f0, f1⟩
  refine ⟨rfl, t0, obP_of (al2 := [(t0, zA 0)]) hb ⟨w, fun p hp => ?_⟩ f0⟩
  rw [List.mem_singleton.mp hp]
  exact f1
theorem m_X6_init2 (l : Launch) {G : pH} {b : Nat} (hb : G b = none) : e_MX6_init l [.ref b] (e_up G b (.inr (8, dfX6))) (fun v G2 => v = none ∧ ∃ t0, obP G G2 [(t0, zA 0), (b, .inr (8, [.int 0, .int 0, .int 0, .long 0, .ref t0]))]) := by
  refine e_M_mono (m_X6_init l (a := b) e_up_1) ?_
  rintro v G2 ⟨rfl, t0, w, f0, f1⟩
  refine ⟨rfl, t0, obP_of (al2 := [(t0, zA 0)]) hb ⟨w, fun p hp => ?_⟩ f0⟩
  rw [List.mem_singleton.mp hp]
  exact f1
def dkE (b t0 t1 t2 t3 t4 : Nat) : List (Nat × pE) := [(t4, zL 61), (t3, zA 61), (t2, .inl (0, 60, .inl (owF 60))), (t1, .inl (0, 2, .inl wrF)), (t0, zA 3532), (b, .inr (3, dkL t0 t1 t2 t3 t4))]
theorem m_X1_init2 (l : Launch) {G : pH} {b : Nat} (hb : G b = none) : e_MX1_init l [.ref b] (e_up G b (.inr (3, dfX1))) (fun v G2 => v = none ∧ ∃ t0 t1 t2 t3 t4, obP G G2 (dkE b t0 t1 t2 t3 t4)) := by
  refine e_M_mono (m_X1_init l (a := b) e_up_1) ?_
  rintro v G2 ⟨rfl, t0, t1, t2, t3, t4, w, f0⟩
  exact ⟨rfl, t0, t1, t2, t3, t4, obP_of hb w f0⟩
theorem e_MA_mono {l : Launch} {y : MethodName} {ws : List Cond} {rm : Room} {As : List Value} {G : pH} {post post2 : Option Value → pH → Prop} (h : e_MA l y ws rm As G post) (hp : ∀ v G2, post v G2 → post2 v G2) : e_MA l y ws rm As G post2 := by
  intro D cs base
  refine MetFree.mono (h D cs base) (fun _ _ h => h) (fun _ _ _ _ _ h => h) (fun a s o t hP hQ => ?_)
  obtain ⟨⟨⟨v, G2, h1, h2, h3⟩, h4⟩, h5⟩ := hQ
  exact ⟨⟨⟨v, G2, h1, hp v G2 h2, h3⟩, h4⟩, h5⟩
def bkE (b arr : Nat) (e0 : pF5) (rl : List pF5) : List (Nat × pE) := (alF rl ++ (ent e0 ++ [(arr, fary (afF rl))])) ++ [(b, .inr (2, [.ref arr, .int 0, .ref e0.1]))]
theorem m_X0_init2 (l : Launch) {G : pH} {b : Nat} (hb : G b = none) : e_MA l yX0_init wX0_init rmX0_init [.ref b] (e_up G b (.inr (2, dfX0))) (fun v G2 => v = none ∧ ∃ (arr : Nat) (e0 : pF5) (rl : List pF5), rl.length = 60 ∧ obP G G2 (bkE b arr e0 rl)) := by
  refine e_MA_mono (m_X0_init l (a := b) e_up_1) ?_
  rintro v G2 ⟨rfl, arr, e0, rl, hl, w, f0⟩
  exact ⟨rfl, arr, e0, rl, hl, obP_of hb w f0⟩
def flE (b0 : Nat) (t00 : Nat) (t01 : Nat) (b1 : Nat) (arr : Nat) (e60 : pF5) (rl : List pF5) (e61 : pF5) (b3 : Nat) (d0 : Nat) (d1 : Nat) (d2 : Nat) (d3 : Nat) (d4 : Nat) (b4 : Nat) (t40 : Nat) (b5 : Nat) (t50 : Nat) (pn : Nat) (b7 : Nat) (t70 : Nat) (b8 : Nat) (t80 : Nat) : List (Nat × pE) := [(t80, zA 4000), (b8, .inr (5, [.int 0, .int 0, .ref t80]))] ++ ([(t70, zA 4000), (b7, .inr (5, [.int 0, .int 0, .ref t70]))] ++ ((pn, zA 60) :: ([(t50, zA 0), (b5, .inr (8, [.int 0, .int 0, .int 0, .long 0, .ref t50]))] ++ ([(t40, zA 0), (b4, .inr (6, [.int 0, .int 0, .long 0, .int 0, .ref t40]))] ++ (dkE b3 d0 d1 d2 d3 d4 ++ (ent e61 ++ (bkE b1 arr e60 rl ++ ([(t01, zA 16), (t00, zA 16), (b0, .inr (7, [.ref t00, .ref t01]))] ++ ([])))))))))
def fgL (b0 : Nat) (t00 : Nat) (t01 : Nat) (b1 : Nat) (arr : Nat) (e60 : pF5) (rl : List pF5) (e61 : pF5) (b3 : Nat) (d0 : Nat) (d1 : Nat) (d2 : Nat) (d3 : Nat) (d4 : Nat) (b4 : Nat) (t40 : Nat) (b5 : Nat) (t50 : Nat) (pn : Nat) (b7 : Nat) (t70 : Nat) (b8 : Nat) (t80 : Nat) : List Value := [.ref b0, .ref b1, .ref e61.1, .ref b3, .ref b4, .ref b5, .ref pn, .ref b7, .ref b8]
set_option maxHeartbeats 8000000 in
set_option maxRecDepth 100000 in
theorem m_X7_init (l : Launch) {G : pH} {a : Nat} (hG : G a = some (.inr (9, dfX7))) : e_MA l yX7_init wX7_init rmX7_init [.ref a] G (fun v G2 => v = none ∧ ∃ (b0 : Nat) (t00 : Nat) (t01 : Nat) (b1 : Nat) (arr : Nat) (e60 : pF5) (rl : List pF5) (e61 : pF5) (b3 : Nat) (d0 : Nat) (d1 : Nat) (d2 : Nat) (d3 : Nat) (d4 : Nat) (b4 : Nat) (t40 : Nat) (b5 : Nat) (t50 : Nat) (pn : Nat) (b7 : Nat) (t70 : Nat) (b8 : Nat) (t80 : Nat), rl.length = 60 ∧ nwC G G2 a (flE b0 t00 t01 b1 arr e60 rl e61 b3 d0 d1 d2 d3 d4 b4 t40 b5 t50 pn b7 t70 b8 t80) ∧ G2 a = some (.inr (9, fgL b0 t00 t01 b1 arr e60 rl e61 b3 d0 d1 d2 d3 d4 b4 t40 b5 t50 pn b7 t70 b8 t80))) := by
  have ha : ¬ G a = none := fun z => by rw [hG] at z; cases z
  refine e_MA_of (ini := true) (by decide) rfl rfl (Nat.le_of_ble_eq_true rfl) (fun _ => rfl) ?_
  intro V CA Rt
  have C : e_CX7_init V l := e_CA_C CA
  refine runX7_init C Rt [] 9 ?_
  simp only [e_go, e_1, e_op, e_pi, e_pl, e_pr, e_p0, e_li, e_ll, e_lr, e_lk, e_ins, e_rm, e_ob, e_ai, e_aj, e_aq, e_an, e_nth, e_to, e_sw, e_cmp, k_c, k_n, k_f, k_v, k_lg, ↓reduceIte, reduceCtorEq, Nat.reduceAdd, Nat.reduceSub, Nat.reduceMul, Nat.reduceEqDiff, Nat.reduceLT, Nat.reduceLeDiff, Int.reduceAdd, Int.reduceSub, Int.reduceNeg, Int.reduceLE, Int.reduceLT, Int.reduceToNat, Int.reduceEq, Int.cast_ofNat_Int, List.mem_cons, List.not_mem_nil, List.length_cons, List.length_nil, List.set_cons_zero, List.set_cons_succ, List.toList_toArray, eq_self, true_and, and_true, and_self, or_true, true_or, false_or, or_false, or_self, not_true_eq_false, not_false_eq_true, Classical.not_not, true_implies, false_implies, implies_true, forall_const, and_false, false_and, e_up_e, va_rf_s, va_rf_n, Nat.le_refl, Nat.zero_le, Bool.false_eq_true, lv_args, DX7_init_0, DX7_init_1, FLX7, LDX7]
  refine oX7_init_1 C (by decide) ?_
  obtain ⟨G0, hG0⟩ : ∃ G0, G = G0 := ⟨_, rfl⟩
  have w0 : nwC G G0 a [] := by rw [← hG0]; exact nwC_0
  have g0 : G0 a = some (.inr (9, [.null, .null, .null, .null, .null, .null, .null, .null, .null])) := by rw [← hG0]; exact hG
  have g0' : ¬ G0 a = none := fun z => by rw [g0] at z; cases z
  have h9 : V 0 0 4 [(0, .ref a)] [] G0 := ?_
  · rw [← hG0] at h9
    exact h9
  clear hG0
  refine runX7_init C Rt [] 9 ?_
  simp only [e_go, e_1, e_op, e_pi, e_pl, e_pr, e_p0, e_li, e_ll, e_lr, e_lk, e_ins, e_rm, e_ob, e_ai, e_aj, e_aq, e_an, e_nth, e_to, e_sw, e_cmp, k_c, k_n, k_f, k_v, k_lg, ↓reduceIte, reduceCtorEq, Nat.reduceAdd, Nat.reduceSub, Nat.reduceMul, Nat.reduceEqDiff, Nat.reduceLT, Nat.reduceLeDiff, Int.reduceAdd, Int.reduceSub, Int.reduceNeg, Int.reduceLE, Int.reduceLT, Int.reduceToNat, Int.reduceEq, Int.cast_ofNat_Int, List.mem_cons, List.not_mem_nil, List.length_cons, List.length_nil, List.set_cons_zero, List.set_cons_succ, List.toList_toArray, eq_self, true_and, and_true, and_self, or_true, true_or, false_or, or_false, or_self, not_true_eq_false, not_false_eq_true, Classical.not_not, true_implies, false_implies, implies_true, forall_const, and_false, false_and, e_up_e, va_rf_s, va_rf_n, Nat.le_refl, Nat.zero_le, Bool.false_eq_true, lv_args, DX7_init_0, DX7_init_1, FLX7, LDX7, g0]
  refine nX7_init_5 C (by decide) (fun b0 hb0 => ?_)
  refine runX7_init C Rt [] 9 ?_
  simp only [e_go, e_1, e_op, e_pi, e_pl, e_pr, e_p0, e_li, e_ll, e_lr, e_lk, e_ins, e_rm, e_ob, e_ai, e_aj, e_aq, e_an, e_nth, e_to, e_sw, e_cmp, k_c, k_n, k_f, k_v, k_lg, ↓reduceIte, reduceCtorEq, Nat.reduceAdd, Nat.reduceSub, Nat.reduceMul, Nat.reduceEqDiff, Nat.reduceLT, Nat.reduceLeDiff, Int.reduceAdd, Int.reduceSub, Int.reduceNeg, Int.reduceLE, Int.reduceLT, Int.reduceToNat, Int.reduceEq, Int.cast_ofNat_Int, List.mem_cons, List.not_mem_nil, List.length_cons, List.length_nil, List.set_cons_zero, List.set_cons_succ, List.toList_toArray, eq_self, true_and, and_true, and_self, or_true, true_or, false_or, or_false, or_self, not_true_eq_false, not_false_eq_true, Classical.not_not, true_implies, false_implies, implies_true, forall_const, and_false, false_and, e_up_e, va_rf_s, va_rf_n, Nat.le_refl, Nat.zero_le, Bool.false_eq_true, lv_args, DX7_init_0, DX7_init_1, FLX7, LDX7]
  refine sX7_init_9 C (m_X5_init2 l hb0) (by decide) (hcat := Nat.le_of_ble_eq_true rfl) (k := ?_)
  rintro v Gx0 ⟨rfl, t00, t01, ob0⟩
  obtain ⟨wx0, kp0⟩ := ob0 G a _ ha w0 g0'
  have gx0 : Gx0 a = some (.inr (9, [.null, .null, .null, .null, .null, .null, .null, .null, .null])) := kp0 a _ g0
  refine runX7_init C Rt [15] 9 ?_
  simp only [e_go, e_1, e_op, e_pi, e_pl, e_pr, e_p0, e_li, e_ll, e_lr, e_lk, e_ins, e_rm, e_ob, e_ai, e_aj, e_aq, e_an, e_nth, e_to, e_sw, e_cmp, k_c, k_n, k_f, k_v, k_lg, ↓reduceIte, reduceCtorEq, Nat.reduceAdd, Nat.reduceSub, Nat.reduceMul, Nat.reduceEqDiff, Nat.reduceLT, Nat.reduceLeDiff, Int.reduceAdd, Int.reduceSub, Int.reduceNeg, Int.reduceLE, Int.reduceLT, Int.reduceToNat, Int.reduceEq, Int.cast_ofNat_Int, List.mem_cons, List.not_mem_nil, List.length_cons, List.length_nil, List.set_cons_zero, List.set_cons_succ, List.toList_toArray, eq_self, true_and, and_true, and_self, or_true, true_or, false_or, or_false, or_self, not_true_eq_false, not_false_eq_true, Classical.not_not, true_implies, false_implies, implies_true, forall_const, and_false, false_and, e_up_e, va_rf_s, va_rf_n, Nat.le_refl, Nat.zero_le, Bool.false_eq_true, lv_args, DX7_init_0, DX7_init_1, FLX7, LDX7, gx0, Option.toList, List.nil_append]
  have w1 := nwC_set (x := .inr (9, [.ref b0, .null, .null, .null, .null, .null, .null, .null, .null])) ha wx0
  generalize hG1 : e_up Gx0 a (.inr (9, [.ref b0, .null, .null, .null, .null, .null, .null, .null, .null])) = G1 at w1 ⊢
  have g1 : G1 a = some (.inr (9, [.ref b0, .null, .null, .null, .null, .null, .null, .null, .null])) := by rw [← hG1, e_up_1]
  have g1' : ¬ G1 a = none := fun z => by rw [g1] at z; cases z
  clear hG1 gx0 kp0
  refine runX7_init C Rt [] 9 ?_
  simp only [e_go, e_1, e_op, e_pi, e_pl, e_pr, e_p0, e_li, e_ll, e_lr, e_lk, e_ins, e_rm, e_ob, e_ai, e_aj, e_aq, e_an, e_nth, e_to, e_sw, e_cmp, k_c, k_n, k_f, k_v, k_lg, ↓reduceIte, reduceCtorEq, Nat.reduceAdd, Nat.reduceSub, Nat.reduceMul, Nat.reduceEqDiff, Nat.reduceLT, Nat.reduceLeDiff, Int.reduceAdd, Int.reduceSub, Int.reduceNeg, Int.reduceLE, Int.reduceLT, Int.reduceToNat, Int.reduceEq, Int.cast_ofNat_Int, List.mem_cons, List.not_mem_nil, List.length_cons, List.length_nil, List.set_cons_zero, List.set_cons_succ, List.toList_toArray, eq_self, true_and, and_true, and_self, or_true, true_or, false_or, or_false, or_self, not_true_eq_false, not_false_eq_true, Classical.not_not, true_implies, false_implies, implies_true, forall_const, and_false, false_and, e_up_e, va_rf_s, va_rf_n, Nat.le_refl, Nat.zero_le, Bool.false_eq_true, lv_args, DX7_init_0, DX7_init_1, FLX7, LDX7, g1]
  refine nX7_init_16 C (by decide) (fun b1 hb1 => ?_)
  refine runX7_init C Rt [] 9 ?_
  simp only [e_go, e_1, e_op, e_pi, e_pl, e_pr, e_p0, e_li, e_ll, e_lr, e_lk, e_ins, e_rm, e_ob, e_ai, e_aj, e_aq, e_an, e_nth, e_to, e_sw, e_cmp, k_c, k_n, k_f, k_v, k_lg, ↓reduceIte, reduceCtorEq, Nat.reduceAdd, Nat.reduceSub, Nat.reduceMul, Nat.reduceEqDiff, Nat.reduceLT, Nat.reduceLeDiff, Int.reduceAdd, Int.reduceSub, Int.reduceNeg, Int.reduceLE, Int.reduceLT, Int.reduceToNat, Int.reduceEq, Int.cast_ofNat_Int, List.mem_cons, List.not_mem_nil, List.length_cons, List.length_nil, List.set_cons_zero, List.set_cons_succ, List.toList_toArray, eq_self, true_and, and_true, and_self, or_true, true_or, false_or, or_false, or_self, not_true_eq_false, not_false_eq_true, Classical.not_not, true_implies, false_implies, implies_true, forall_const, and_false, false_and, e_up_e, va_rf_s, va_rf_n, Nat.le_refl, Nat.zero_le, Bool.false_eq_true, lv_args, DX7_init_0, DX7_init_1, FLX7, LDX7]
  refine c_IA CA (fun _ h => List.mem_cons_of_mem _ h) (idx := 18) (As := []) YX0_init (WS_at 73 (by decide +kernel) rfl) (m_X0_init2 l hb1) rfl ⟨by decide, by decide⟩ (by decide) (Nat.le_of_ble_eq_true rfl) DX7_init_0.2.2.2.2.2.2.2.2.2.2.1 ?_
  rintro v Gx1 ⟨rfl, arr, e60, rl, hl, ob1⟩
  obtain ⟨wx1, kp1⟩ := ob1 G a _ ha w1 g1'
  have gx1 : Gx1 a = some (.inr (9, [.ref b0, .null, .null, .null, .null, .null, .null, .null, .null])) := kp1 a _ g1
  refine runX7_init C Rt [26] 9 ?_
  simp only [e_go, e_1, e_op, e_pi, e_pl, e_pr, e_p0, e_li, e_ll, e_lr, e_lk, e_ins, e_rm, e_ob, e_ai, e_aj, e_aq, e_an, e_nth, e_to, e_sw, e_cmp, k_c, k_n, k_f, k_v, k_lg, ↓reduceIte, reduceCtorEq, Nat.reduceAdd, Nat.reduceSub, Nat.reduceMul, Nat.reduceEqDiff, Nat.reduceLT, Nat.reduceLeDiff, Int.reduceAdd, Int.reduceSub, Int.reduceNeg, Int.reduceLE, Int.reduceLT, Int.reduceToNat, Int.reduceEq, Int.cast_ofNat_Int, List.mem_cons, List.not_mem_nil, List.length_cons, List.length_nil, List.set_cons_zero, List.set_cons_succ, List.toList_toArray, eq_self, true_and, and_true, and_self, or_true, true_or, false_or, or_false, or_self, not_true_eq_false, not_false_eq_true, Classical.not_not, true_implies, false_implies, implies_true, forall_const, and_false, false_and, e_up_e, va_rf_s, va_rf_n, Nat.le_refl, Nat.zero_le, Bool.false_eq_true, lv_args, DX7_init_0, DX7_init_1, FLX7, LDX7, gx1, Option.toList, List.nil_append]
  have w2 := nwC_set (x := .inr (9, [.ref b0, .ref b1, .null, .null, .null, .null, .null, .null, .null])) ha wx1
  generalize hG2 : e_up Gx1 a (.inr (9, [.ref b0, .ref b1, .null, .null, .null, .null, .null, .null, .null])) = G2 at w2 ⊢
  have g2 : G2 a = some (.inr (9, [.ref b0, .ref b1, .null, .null, .null, .null, .null, .null, .null])) := by rw [← hG2, e_up_1]
  have g2' : ¬ G2 a = none := fun z => by rw [g2] at z; cases z
  clear hG2 gx1 kp1
  refine runX7_init C Rt [] 9 ?_
  simp only [e_go, e_1, e_op, e_pi, e_pl, e_pr, e_p0, e_li, e_ll, e_lr, e_lk, e_ins, e_rm, e_ob, e_ai, e_aj, e_aq, e_an, e_nth, e_to, e_sw, e_cmp, k_c, k_n, k_f, k_v, k_lg, ↓reduceIte, reduceCtorEq, Nat.reduceAdd, Nat.reduceSub, Nat.reduceMul, Nat.reduceEqDiff, Nat.reduceLT, Nat.reduceLeDiff, Int.reduceAdd, Int.reduceSub, Int.reduceNeg, Int.reduceLE, Int.reduceLT, Int.reduceToNat, Int.reduceEq, Int.cast_ofNat_Int, List.mem_cons, List.not_mem_nil, List.length_cons, List.length_nil, List.set_cons_zero, List.set_cons_succ, List.toList_toArray, eq_self, true_and, and_true, and_self, or_true, true_or, false_or, or_false, or_self, not_true_eq_false, not_false_eq_true, Classical.not_not, true_implies, false_implies, implies_true, forall_const, and_false, false_and, e_up_e, va_rf_s, va_rf_n, Nat.le_refl, Nat.zero_le, Bool.false_eq_true, lv_args, DX7_init_0, DX7_init_1, FLX7, LDX7, g2]
  refine nX7_init_27 C (by decide) (fun b2 hb2 => ?_)
  refine runX7_init C Rt [] 9 ?_
  simp only [e_go, e_1, e_op, e_pi, e_pl, e_pr, e_p0, e_li, e_ll, e_lr, e_lk, e_ins, e_rm, e_ob, e_ai, e_aj, e_aq, e_an, e_nth, e_to, e_sw, e_cmp, k_c, k_n, k_f, k_v, k_lg, ↓reduceIte, reduceCtorEq, Nat.reduceAdd, Nat.reduceSub, Nat.reduceMul, Nat.reduceEqDiff, Nat.reduceLT, Nat.reduceLeDiff, Int.reduceAdd, Int.reduceSub, Int.reduceNeg, Int.reduceLE, Int.reduceLT, Int.reduceToNat, Int.reduceEq, Int.cast_ofNat_Int, List.mem_cons, List.not_mem_nil, List.length_cons, List.length_nil, List.set_cons_zero, List.set_cons_succ, List.toList_toArray, eq_self, true_and, and_true, and_self, or_true, true_or, false_or, or_false, or_self, not_true_eq_false, not_false_eq_true, Classical.not_not, true_implies, false_implies, implies_true, forall_const, and_false, false_and, e_up_e, va_rf_s, va_rf_n, Nat.le_refl, Nat.zero_le, Bool.false_eq_true, lv_args, DX7_init_0, DX7_init_1, FLX7, LDX7]
  refine sX7_init_31 C (m_X2_init2 l hb2) (by decide) (hcat := Nat.le_of_ble_eq_true rfl) (k := ?_)
  rintro v G201 ⟨rfl, e61, rfl, ob2⟩
  obtain ⟨w201, kp2⟩ := ob2 G a _ ha w2 g2'
  have g201 : G201 a = some (.inr (9, [.ref b0, .ref b1, .null, .null, .null, .null, .null, .null, .null])) := kp2 a _ g2
  refine runX7_init C Rt [37] 9 ?_
  simp only [e_go, e_1, e_op, e_pi, e_pl, e_pr, e_p0, e_li, e_ll, e_lr, e_lk, e_ins, e_rm, e_ob, e_ai, e_aj, e_aq, e_an, e_nth, e_to, e_sw, e_cmp, k_c, k_n, k_f, k_v, k_lg, ↓reduceIte, reduceCtorEq, Nat.reduceAdd, Nat.reduceSub, Nat.reduceMul, Nat.reduceEqDiff, Nat.reduceLT, Nat.reduceLeDiff, Int.reduceAdd, Int.reduceSub, Int.reduceNeg, Int.reduceLE, Int.reduceLT, Int.reduceToNat, Int.reduceEq, Int.cast_ofNat_Int, List.mem_cons, List.not_mem_nil, List.length_cons, List.length_nil, List.set_cons_zero, List.set_cons_succ, List.toList_toArray, eq_self, true_and, and_true, and_self, or_true, true_or, false_or, or_false, or_self, not_true_eq_false, not_false_eq_true, Classical.not_not, true_implies, false_implies, implies_true, forall_const, and_false, false_and, e_up_e, va_rf_s, va_rf_n, Nat.le_refl, Nat.zero_le, Bool.false_eq_true, lv_args, DX7_init_0, DX7_init_1, FLX7, LDX7, g201, Option.toList, List.nil_append]
  have w3 := nwC_set (x := .inr (9, [.ref b0, .ref b1, .ref e61.1, .null, .null, .null, .null, .null, .null])) ha w201
  generalize hG3 : e_up G201 a (.inr (9, [.ref b0, .ref b1, .ref e61.1, .null, .null, .null, .null, .null, .null])) = G3 at w3 ⊢
  have g3 : G3 a = some (.inr (9, [.ref b0, .ref b1, .ref e61.1, .null, .null, .null, .null, .null, .null])) := by rw [← hG3, e_up_1]
  have g3' : ¬ G3 a = none := fun z => by rw [g3] at z; cases z
  clear hG3 g201 kp2
  refine runX7_init C Rt [] 9 ?_
  simp only [e_go, e_1, e_op, e_pi, e_pl, e_pr, e_p0, e_li, e_ll, e_lr, e_lk, e_ins, e_rm, e_ob, e_ai, e_aj, e_aq, e_an, e_nth, e_to, e_sw, e_cmp, k_c, k_n, k_f, k_v, k_lg, ↓reduceIte, reduceCtorEq, Nat.reduceAdd, Nat.reduceSub, Nat.reduceMul, Nat.reduceEqDiff, Nat.reduceLT, Nat.reduceLeDiff, Int.reduceAdd, Int.reduceSub, Int.reduceNeg, Int.reduceLE, Int.reduceLT, Int.reduceToNat, Int.reduceEq, Int.cast_ofNat_Int, List.mem_cons, List.not_mem_nil, List.length_cons, List.length_nil, List.set_cons_zero, List.set_cons_succ, List.toList_toArray, eq_self, true_and, and_true, and_self, or_true, true_or, false_or, or_false, or_self, not_true_eq_false, not_false_eq_true, Classical.not_not, true_implies, false_implies, implies_true, forall_const, and_false, false_and, e_up_e, va_rf_s, va_rf_n, Nat.le_refl, Nat.zero_le, Bool.false_eq_true, lv_args, DX7_init_0, DX7_init_1, FLX7, LDX7, g3]
  refine nX7_init_38 C (by decide) (fun b3 hb3 => ?_)
  refine runX7_init C Rt [] 9 ?_
  simp only [e_go, e_1, e_op, e_pi, e_pl, e_pr, e_p0, e_li, e_ll, e_lr, e_lk, e_ins, e_rm, e_ob, e_ai, e_aj, e_aq, e_an, e_nth, e_to, e_sw, e_cmp, k_c, k_n, k_f, k_v, k_lg, ↓reduceIte, reduceCtorEq, Nat.reduceAdd, Nat.reduceSub, Nat.reduceMul, Nat.reduceEqDiff, Nat.reduceLT, Nat.reduceLeDiff, Int.reduceAdd, Int.reduceSub, Int.reduceNeg, Int.reduceLE, Int.reduceLT, Int.reduceToNat, Int.reduceEq, Int.cast_ofNat_Int, List.mem_cons, List.not_mem_nil, List.length_cons, List.length_nil, List.set_cons_zero, List.set_cons_succ, List.toList_toArray, eq_self, true_and, and_true, and_self, or_true, true_or, false_or, or_false, or_self, not_true_eq_false, not_false_eq_true, Classical.not_not, true_implies, false_implies, implies_true, forall_const, and_false, false_and, e_up_e, va_rf_s, va_rf_n, Nat.le_refl, Nat.zero_le, Bool.false_eq_true, lv_args, DX7_init_0, DX7_init_1, FLX7, LDX7]
  refine sX7_init_42 C (m_X1_init2 l hb3) (by decide) (hcat := Nat.le_of_ble_eq_true rfl) (k := ?_)
  rintro v Gx3 ⟨rfl, d0, d1, d2, d3, d4, ob3⟩
  obtain ⟨wx3, kp3⟩ := ob3 G a _ ha w3 g3'
  have gx3 : Gx3 a = some (.inr (9, [.ref b0, .ref b1, .ref e61.1, .null, .null, .null, .null, .null, .null])) := kp3 a _ g3
  refine runX7_init C Rt [48] 9 ?_
  simp only [e_go, e_1, e_op, e_pi, e_pl, e_pr, e_p0, e_li, e_ll, e_lr, e_lk, e_ins, e_rm, e_ob, e_ai, e_aj, e_aq, e_an, e_nth, e_to, e_sw, e_cmp, k_c, k_n, k_f, k_v, k_lg, ↓reduceIte, reduceCtorEq, Nat.reduceAdd, Nat.reduceSub, Nat.reduceMul, Nat.reduceEqDiff, Nat.reduceLT, Nat.reduceLeDiff, Int.reduceAdd, Int.reduceSub, Int.reduceNeg, Int.reduceLE, Int.reduceLT, Int.reduceToNat, Int.reduceEq, Int.cast_ofNat_Int, List.mem_cons, List.not_mem_nil, List.length_cons, List.length_nil, List.set_cons_zero, List.set_cons_succ, List.toList_toArray, eq_self, true_and, and_true, and_self, or_true, true_or, false_or, or_false, or_self, not_true_eq_false, not_false_eq_true, Classical.not_not, true_implies, false_implies, implies_true, forall_const, and_false, false_and, e_up_e, va_rf_s, va_rf_n, Nat.le_refl, Nat.zero_le, Bool.false_eq_true, lv_args, DX7_init_0, DX7_init_1, FLX7, LDX7, gx3, Option.toList, List.nil_append]
  have w4 := nwC_set (x := .inr (9, [.ref b0, .ref b1, .ref e61.1, .ref b3, .null, .null, .null, .null, .null])) ha wx3
  generalize hG4 : e_up Gx3 a (.inr (9, [.ref b0, .ref b1, .ref e61.1, .ref b3, .null, .null, .null, .null, .null])) = G4 at w4 ⊢
  have g4 : G4 a = some (.inr (9, [.ref b0, .ref b1, .ref e61.1, .ref b3, .null, .null, .null, .null, .null])) := by rw [← hG4, e_up_1]
  have g4' : ¬ G4 a = none := fun z => by rw [g4] at z; cases z
  clear hG4 gx3 kp3
  refine runX7_init C Rt [] 9 ?_
  simp only [e_go, e_1, e_op, e_pi, e_pl, e_pr, e_p0, e_li, e_ll, e_lr, e_lk, e_ins, e_rm, e_ob, e_ai, e_aj, e_aq, e_an, e_nth, e_to, e_sw, e_cmp, k_c, k_n, k_f, k_v, k_lg, ↓reduceIte, reduceCtorEq, Nat.reduceAdd, Nat.reduceSub, Nat.reduceMul, Nat.reduceEqDiff, Nat.reduceLT, Nat.reduceLeDiff, Int.reduceAdd, Int.reduceSub, Int.reduceNeg, Int.reduceLE, Int.reduceLT, Int.reduceToNat, Int.reduceEq, Int.cast_ofNat_Int, List.mem_cons, List.not_mem_nil, List.length_cons, List.length_nil, List.set_cons_zero, List.set_cons_succ, List.toList_toArray, eq_self, true_and, and_true, and_self, or_true, true_or, false_or, or_false, or_self, not_true_eq_false, not_false_eq_true, Classical.not_not, true_implies, false_implies, implies_true, forall_const, and_false, false_and, e_up_e, va_rf_s, va_rf_n, Nat.le_refl, Nat.zero_le, Bool.false_eq_true, lv_args, DX7_init_0, DX7_init_1, FLX7, LDX7, g4]
  refine nX7_init_49 C (by decide) (fun b4 hb4 => ?_)
  refine runX7_init C Rt [] 9 ?_
  simp only [e_go, e_1, e_op, e_pi, e_pl, e_pr, e_p0, e_li, e_ll, e_lr, e_lk, e_ins, e_rm, e_ob, e_ai, e_aj, e_aq, e_an, e_nth, e_to, e_sw, e_cmp, k_c, k_n, k_f, k_v, k_lg, ↓reduceIte, reduceCtorEq, Nat.reduceAdd, Nat.reduceSub, Nat.reduceMul, Nat.reduceEqDiff, Nat.reduceLT, Nat.reduceLeDiff, Int.reduceAdd, Int.reduceSub, Int.reduceNeg, Int.reduceLE, Int.reduceLT, Int.reduceToNat, Int.reduceEq, Int.cast_ofNat_Int, List.mem_cons, List.not_mem_nil, List.length_cons, List.length_nil, List.set_cons_zero, List.set_cons_succ, List.toList_toArray, eq_self, true_and, and_true, and_self, or_true, true_or, false_or, or_false, or_self, not_true_eq_false, not_false_eq_true, Classical.not_not, true_implies, false_implies, implies_true, forall_const, and_false, false_and, e_up_e, va_rf_s, va_rf_n, Nat.le_refl, Nat.zero_le, Bool.false_eq_true, lv_args, DX7_init_0, DX7_init_1, FLX7, LDX7]
  refine sX7_init_53 C (m_X4_init2 l hb4) (by decide) (hcat := Nat.le_of_ble_eq_true rfl) (k := ?_)
  rintro v Gx4 ⟨rfl, t40, ob4⟩
  obtain ⟨wx4, kp4⟩ := ob4 G a _ ha w4 g4'
  have gx4 : Gx4 a = some (.inr (9, [.ref b0, .ref b1, .ref e61.1, .ref b3, .null, .null, .null, .null, .null])) := kp4 a _ g4
  refine runX7_init C Rt [59] 9 ?_
  simp only [e_go, e_1, e_op, e_pi, e_pl, e_pr, e_p0, e_li, e_ll, e_lr, e_lk, e_ins, e_rm, e_ob, e_ai, e_aj, e_aq, e_an, e_nth, e_to, e_sw, e_cmp, k_c, k_n, k_f, k_v, k_lg, ↓reduceIte, reduceCtorEq, Nat.reduceAdd, Nat.reduceSub, Nat.reduceMul, Nat.reduceEqDiff, Nat.reduceLT, Nat.reduceLeDiff, Int.reduceAdd, Int.reduceSub, Int.reduceNeg, Int.reduceLE, Int.reduceLT, Int.reduceToNat, Int.reduceEq, Int.cast_ofNat_Int, List.mem_cons, List.not_mem_nil, List.length_cons, List.length_nil, List.set_cons_zero, List.set_cons_succ, List.toList_toArray, eq_self, true_and, and_true, and_self, or_true, true_or, false_or, or_false, or_self, not_true_eq_false, not_false_eq_true, Classical.not_not, true_implies, false_implies, implies_true, forall_const, and_false, false_and, e_up_e, va_rf_s, va_rf_n, Nat.le_refl, Nat.zero_le, Bool.false_eq_true, lv_args, DX7_init_0, DX7_init_1, FLX7, LDX7, gx4, Option.toList, List.nil_append]
  have w5 := nwC_set (x := .inr (9, [.ref b0, .ref b1, .ref e61.1, .ref b3, .ref b4, .null, .null, .null, .null])) ha wx4
  generalize hG5 : e_up Gx4 a (.inr (9, [.ref b0, .ref b1, .ref e61.1, .ref b3, .ref b4, .null, .null, .null, .null])) = G5 at w5 ⊢
  have g5 : G5 a = some (.inr (9, [.ref b0, .ref b1, .ref e61.1, .ref b3, .ref b4, .null, .null, .null, .null])) := by rw [← hG5, e_up_1]
  have g5' : ¬ G5 a = none := fun z => by rw [g5] at z; cases z
  clear hG5 gx4 kp4
  refine runX7_init C Rt [] 9 ?_
  simp only [e_go, e_1, e_op, e_pi, e_pl, e_pr, e_p0, e_li, e_ll, e_lr, e_lk, e_ins, e_rm, e_ob, e_ai, e_aj, e_aq, e_an, e_nth, e_to, e_sw, e_cmp, k_c, k_n, k_f, k_v, k_lg, ↓reduceIte, reduceCtorEq, Nat.reduceAdd, Nat.reduceSub, Nat.reduceMul, Nat.reduceEqDiff, Nat.reduceLT, Nat.reduceLeDiff, Int.reduceAdd, Int.reduceSub, Int.reduceNeg, Int.reduceLE, Int.reduceLT, Int.reduceToNat, Int.reduceEq, Int.cast_ofNat_Int, List.mem_cons, List.not_mem_nil, List.length_cons, List.length_nil, List.set_cons_zero, List.set_cons_succ, List.toList_toArray, eq_self, true_and, and_true, and_self, or_true, true_or, false_or, or_false, or_self, not_true_eq_false, not_false_eq_true, Classical.not_not, true_implies, false_implies, implies_true, forall_const, and_false, false_and, e_up_e, va_rf_s, va_rf_n, Nat.le_refl, Nat.zero_le, Bool.false_eq_true, lv_args, DX7_init_0, DX7_init_1, FLX7, LDX7, g5]
  refine nX7_init_60 C (by decide) (fun b5 hb5 => ?_)
  refine runX7_init C Rt [] 9 ?_
  simp only [e_go, e_1, e_op, e_pi, e_pl, e_pr, e_p0, e_li, e_ll, e_lr, e_lk, e_ins, e_rm, e_ob, e_ai, e_aj, e_aq, e_an, e_nth, e_to, e_sw, e_cmp, k_c, k_n, k_f, k_v, k_lg, ↓reduceIte, reduceCtorEq, Nat.reduceAdd, Nat.reduceSub, Nat.reduceMul, Nat.reduceEqDiff, Nat.reduceLT, Nat.reduceLeDiff, Int.reduceAdd, Int.reduceSub, Int.reduceNeg, Int.reduceLE, Int.reduceLT, Int.reduceToNat, Int.reduceEq, Int.cast_ofNat_Int, List.mem_cons, List.not_mem_nil, List.length_cons, List.length_nil, List.set_cons_zero, List.set_cons_succ, List.toList_toArray, eq_self, true_and, and_true, and_self, or_true, true_or, false_or, or_false, or_self, not_true_eq_false, not_false_eq_true, Classical.not_not, true_implies, false_implies, implies_true, forall_const, and_false, false_and, e_up_e, va_rf_s, va_rf_n, Nat.le_refl, Nat.zero_le, Bool.false_eq_true, lv_args, DX7_init_0, DX7_init_1, FLX7, LDX7]
  refine sX7_init_64 C (m_X6_init2 l hb5) (by decide) (hcat := Nat.le_of_ble_eq_true rfl) (k := ?_)
  rintro v Gx5 ⟨rfl, t50, ob5⟩
  obtain ⟨wx5, kp5⟩ := ob5 G a _ ha w5 g5'
  have gx5 : Gx5 a = some (.inr (9, [.ref b0, .ref b1, .ref e61.1, .ref b3, .ref b4, .null, .null, .null, .null])) := kp5 a _ g5
  refine runX7_init C Rt [70] 9 ?_
  simp only [e_go, e_1, e_op, e_pi, e_pl, e_pr, e_p0, e_li, e_ll, e_lr, e_lk, e_ins, e_rm, e_ob, e_ai, e_aj, e_aq, e_an, e_nth, e_to, e_sw, e_cmp, k_c, k_n, k_f, k_v, k_lg, ↓reduceIte, reduceCtorEq, Nat.reduceAdd, Nat.reduceSub, Nat.reduceMul, Nat.reduceEqDiff, Nat.reduceLT, Nat.reduceLeDiff, Int.reduceAdd, Int.reduceSub, Int.reduceNeg, Int.reduceLE, Int.reduceLT, Int.reduceToNat, Int.reduceEq, Int.cast_ofNat_Int, List.mem_cons, List.not_mem_nil, List.length_cons, List.length_nil, List.set_cons_zero, List.set_cons_succ, List.toList_toArray, eq_self, true_and, and_true, and_self, or_true, true_or, false_or, or_false, or_self, not_true_eq_false, not_false_eq_true, Classical.not_not, true_implies, false_implies, implies_true, forall_const, and_false, false_and, e_up_e, va_rf_s, va_rf_n, Nat.le_refl, Nat.zero_le, Bool.false_eq_true, lv_args, DX7_init_0, DX7_init_1, FLX7, LDX7, gx5, Option.toList, List.nil_append]
  have w6 := nwC_set (x := .inr (9, [.ref b0, .ref b1, .ref e61.1, .ref b3, .ref b4, .ref b5, .null, .null, .null])) ha wx5
  generalize hG6 : e_up Gx5 a (.inr (9, [.ref b0, .ref b1, .ref e61.1, .ref b3, .ref b4, .ref b5, .null, .null, .null])) = G6 at w6 ⊢
  have g6 : G6 a = some (.inr (9, [.ref b0, .ref b1, .ref e61.1, .ref b3, .ref b4, .ref b5, .null, .null, .null])) := by rw [← hG6, e_up_1]
  have g6' : ¬ G6 a = none := fun z => by rw [g6] at z; cases z
  clear hG6 gx5 kp5
  refine runX7_init C Rt [] 9 ?_
  simp only [e_go, e_1, e_op, e_pi, e_pl, e_pr, e_p0, e_li, e_ll, e_lr, e_lk, e_ins, e_rm, e_ob, e_ai, e_aj, e_aq, e_an, e_nth, e_to, e_sw, e_cmp, k_c, k_n, k_f, k_v, k_lg, ↓reduceIte, reduceCtorEq, Nat.reduceAdd, Nat.reduceSub, Nat.reduceMul, Nat.reduceEqDiff, Nat.reduceLT, Nat.reduceLeDiff, Int.reduceAdd, Int.reduceSub, Int.reduceNeg, Int.reduceLE, Int.reduceLT, Int.reduceToNat, Int.reduceEq, Int.cast_ofNat_Int, List.mem_cons, List.not_mem_nil, List.length_cons, List.length_nil, List.set_cons_zero, List.set_cons_succ, List.toList_toArray, eq_self, true_and, and_true, and_self, or_true, true_or, false_or, or_false, or_self, not_true_eq_false, not_false_eq_true, Classical.not_not, true_implies, false_implies, implies_true, forall_const, and_false, false_and, e_up_e, va_rf_s, va_rf_n, Nat.le_refl, Nat.zero_le, Bool.false_eq_true, lv_args, DX7_init_0, DX7_init_1, FLX7, LDX7, g6]
  refine aX7_init_73 C (by decide) (show ((60 : Int32)).toNatClampNeg = 60 by decide) (by decide) (by decide) (fun pn hpn => ?_)
  have npn : ¬ pn = a := fun z => by rw [z, g6] at hpn; cases hpn
  have npn' : ¬ a = pn := fun z => npn z.symm
  refine runX7_init C Rt [78] 9 ?_
  simp only [e_go, e_1, e_op, e_pi, e_pl, e_pr, e_p0, e_li, e_ll, e_lr, e_lk, e_ins, e_rm, e_ob, e_ai, e_aj, e_aq, e_an, e_nth, e_to, e_sw, e_cmp, k_c, k_n, k_f, k_v, k_lg, ↓reduceIte, reduceCtorEq, Nat.reduceAdd, Nat.reduceSub, Nat.reduceMul, Nat.reduceEqDiff, Nat.reduceLT, Nat.reduceLeDiff, Int.reduceAdd, Int.reduceSub, Int.reduceNeg, Int.reduceLE, Int.reduceLT, Int.reduceToNat, Int.reduceEq, Int.cast_ofNat_Int, List.mem_cons, List.not_mem_nil, List.length_cons, List.length_nil, List.set_cons_zero, List.set_cons_succ, List.toList_toArray, eq_self, true_and, and_true, and_self, or_true, true_or, false_or, or_false, or_self, not_true_eq_false, not_false_eq_true, Classical.not_not, true_implies, false_implies, implies_true, forall_const, and_false, false_and, e_up_e, va_rf_s, va_rf_n, Nat.le_refl, Nat.zero_le, Bool.false_eq_true, lv_args, DX7_init_0, DX7_init_1, FLX7, LDX7, npn', g6]
  have w7 := nwC_new (c := zA 60) (x := .inr (9, [.ref b0, .ref b1, .ref e61.1, .ref b3, .ref b4, .ref b5, .ref pn, .null, .null])) ha w6 hpn npn
  rw [show (.inl (0, 60, .inl (fun _ => 0)) : pE) = zA 60 from rfl]
  generalize hG7 : e_up (e_up G6 pn (zA 60)) a (.inr (9, [.ref b0, .ref b1, .ref e61.1, .ref b3, .ref b4, .ref b5, .ref pn, .null, .null])) = G7 at w7 ⊢
  have g7 : G7 a = some (.inr (9, [.ref b0, .ref b1, .ref e61.1, .ref b3, .ref b4, .ref b5, .ref pn, .null, .null])) := by rw [← hG7, e_up_1]
  have g7' : ¬ G7 a = none := fun z => by rw [g7] at z; cases z
  clear hG7
  refine runX7_init C Rt [] 9 ?_
  simp only [e_go, e_1, e_op, e_pi, e_pl, e_pr, e_p0, e_li, e_ll, e_lr, e_lk, e_ins, e_rm, e_ob, e_ai, e_aj, e_aq, e_an, e_nth, e_to, e_sw, e_cmp, k_c, k_n, k_f, k_v, k_lg, ↓reduceIte, reduceCtorEq, Nat.reduceAdd, Nat.reduceSub, Nat.reduceMul, Nat.reduceEqDiff, Nat.reduceLT, Nat.reduceLeDiff, Int.reduceAdd, Int.reduceSub, Int.reduceNeg, Int.reduceLE, Int.reduceLT, Int.reduceToNat, Int.reduceEq, Int.cast_ofNat_Int, List.mem_cons, List.not_mem_nil, List.length_cons, List.length_nil, List.set_cons_zero, List.set_cons_succ, List.toList_toArray, eq_self, true_and, and_true, and_self, or_true, true_or, false_or, or_false, or_self, not_true_eq_false, not_false_eq_true, Classical.not_not, true_implies, false_implies, implies_true, forall_const, and_false, false_and, e_up_e, va_rf_s, va_rf_n, Nat.le_refl, Nat.zero_le, Bool.false_eq_true, lv_args, DX7_init_0, DX7_init_1, FLX7, LDX7, g7]
  refine nX7_init_79 C (by decide) (fun b7 hb7 => ?_)
  refine runX7_init C Rt [] 9 ?_
  simp only [e_go, e_1, e_op, e_pi, e_pl, e_pr, e_p0, e_li, e_ll, e_lr, e_lk, e_ins, e_rm, e_ob, e_ai, e_aj, e_aq, e_an, e_nth, e_to, e_sw, e_cmp, k_c, k_n, k_f, k_v, k_lg, ↓reduceIte, reduceCtorEq, Nat.reduceAdd, Nat.reduceSub, Nat.reduceMul, Nat.reduceEqDiff, Nat.reduceLT, Nat.reduceLeDiff, Int.reduceAdd, Int.reduceSub, Int.reduceNeg, Int.reduceLE, Int.reduceLT, Int.reduceToNat, Int.reduceEq, Int.cast_ofNat_Int, List.mem_cons, List.not_mem_nil, List.length_cons, List.length_nil, List.set_cons_zero, List.set_cons_succ, List.toList_toArray, eq_self, true_and, and_true, and_self, or_true, true_or, false_or, or_false, or_self, not_true_eq_false, not_false_eq_true, Classical.not_not, true_implies, false_implies, implies_true, forall_const, and_false, false_and, e_up_e, va_rf_s, va_rf_n, Nat.le_refl, Nat.zero_le, Bool.false_eq_true, lv_args, DX7_init_0, DX7_init_1, FLX7, LDX7]
  refine sX7_init_83 C (m_X3_init2 l hb7) (by decide) (hcat := Nat.le_of_ble_eq_true rfl) (k := ?_)
  rintro v Gx7 ⟨rfl, t70, ob7⟩
  obtain ⟨wx7, kp7⟩ := ob7 G a _ ha w7 g7'
  have gx7 : Gx7 a = some (.inr (9, [.ref b0, .ref b1, .ref e61.1, .ref b3, .ref b4, .ref b5, .ref pn, .null, .null])) := kp7 a _ g7
  refine runX7_init C Rt [89] 9 ?_
  simp only [e_go, e_1, e_op, e_pi, e_pl, e_pr, e_p0, e_li, e_ll, e_lr, e_lk, e_ins, e_rm, e_ob, e_ai, e_aj, e_aq, e_an, e_nth, e_to, e_sw, e_cmp, k_c, k_n, k_f, k_v, k_lg, ↓reduceIte, reduceCtorEq, Nat.reduceAdd, Nat.reduceSub, Nat.reduceMul, Nat.reduceEqDiff, Nat.reduceLT, Nat.reduceLeDiff, Int.reduceAdd, Int.reduceSub, Int.reduceNeg, Int.reduceLE, Int.reduceLT, Int.reduceToNat, Int.reduceEq, Int.cast_ofNat_Int, List.mem_cons, List.not_mem_nil, List.length_cons, List.length_nil, List.set_cons_zero, List.set_cons_succ, List.toList_toArray, eq_self, true_and, and_true, and_self, or_true, true_or, false_or, or_false, or_self, not_true_eq_false, not_false_eq_true, Classical.not_not, true_implies, false_implies, implies_true, forall_const, and_false, false_and, e_up_e, va_rf_s, va_rf_n, Nat.le_refl, Nat.zero_le, Bool.false_eq_true, lv_args, DX7_init_0, DX7_init_1, FLX7, LDX7, gx7, Option.toList, List.nil_append]
  have w8 := nwC_set (x := .inr (9, [.ref b0, .ref b1, .ref e61.1, .ref b3, .ref b4, .ref b5, .ref pn, .ref b7, .null])) ha wx7
  generalize hG8 : e_up Gx7 a (.inr (9, [.ref b0, .ref b1, .ref e61.1, .ref b3, .ref b4, .ref b5, .ref pn, .ref b7, .null])) = G8 at w8 ⊢
  have g8 : G8 a = some (.inr (9, [.ref b0, .ref b1, .ref e61.1, .ref b3, .ref b4, .ref b5, .ref pn, .ref b7, .null])) := by rw [← hG8, e_up_1]
  have g8' : ¬ G8 a = none := fun z => by rw [g8] at z; cases z
  clear hG8 gx7 kp7
  refine runX7_init C Rt [] 9 ?_
  simp only [e_go, e_1, e_op, e_pi, e_pl, e_pr, e_p0, e_li, e_ll, e_lr, e_lk, e_ins, e_rm, e_ob, e_ai, e_aj, e_aq, e_an, e_nth, e_to, e_sw, e_cmp, k_c, k_n, k_f, k_v, k_lg, ↓reduceIte, reduceCtorEq, Nat.reduceAdd, Nat.reduceSub, Nat.reduceMul, Nat.reduceEqDiff, Nat.reduceLT, Nat.reduceLeDiff, Int.reduceAdd, Int.reduceSub, Int.reduceNeg, Int.reduceLE, Int.reduceLT, Int.reduceToNat, Int.reduceEq, Int.cast_ofNat_Int, List.mem_cons, List.not_mem_nil, List.length_cons, List.length_nil, List.set_cons_zero, List.set_cons_succ, List.toList_toArray, eq_self, true_and, and_true, and_self, or_true, true_or, false_or, or_false, or_self, not_true_eq_false, not_false_eq_true, Classical.not_not, true_implies, false_implies, implies_true, forall_const, and_false, false_and, e_up_e, va_rf_s, va_rf_n, Nat.le_refl, Nat.zero_le, Bool.false_eq_true, lv_args, DX7_init_0, DX7_init_1, FLX7, LDX7, g8]
  refine nX7_init_90 C (by decide) (fun b8 hb8 => ?_)
  refine runX7_init C Rt [] 9 ?_
  simp only [e_go, e_1, e_op, e_pi, e_pl, e_pr, e_p0, e_li, e_ll, e_lr, e_lk, e_ins, e_rm, e_ob, e_ai, e_aj, e_aq, e_an, e_nth, e_to, e_sw, e_cmp, k_c, k_n, k_f, k_v, k_lg, ↓reduceIte, reduceCtorEq, Nat.reduceAdd, Nat.reduceSub, Nat.reduceMul, Nat.reduceEqDiff, Nat.reduceLT, Nat.reduceLeDiff, Int.reduceAdd, Int.reduceSub, Int.reduceNeg, Int.reduceLE, Int.reduceLT, Int.reduceToNat, Int.reduceEq, Int.cast_ofNat_Int, List.mem_cons, List.not_mem_nil, List.length_cons, List.length_nil, List.set_cons_zero, List.set_cons_succ, List.toList_toArray, eq_self, true_and, and_true, and_self, or_true, true_or, false_or, or_false, or_self, not_true_eq_false, not_false_eq_true, Classical.not_not, true_implies, false_implies, implies_true, forall_const, and_false, false_and, e_up_e, va_rf_s, va_rf_n, Nat.le_refl, Nat.zero_le, Bool.false_eq_true, lv_args, DX7_init_0, DX7_init_1, FLX7, LDX7]
  refine sX7_init_94 C (m_X3_init2 l hb8) (by decide) (hcat := Nat.le_of_ble_eq_true rfl) (k := ?_)
  rintro v Gx8 ⟨rfl, t80, ob8⟩
  obtain ⟨wx8, kp8⟩ := ob8 G a _ ha w8 g8'
  have gx8 : Gx8 a = some (.inr (9, [.ref b0, .ref b1, .ref e61.1, .ref b3, .ref b4, .ref b5, .ref pn, .ref b7, .null])) := kp8 a _ g8
  refine runX7_init C Rt [100] 9 ?_
  simp only [e_go, e_1, e_op, e_pi, e_pl, e_pr, e_p0, e_li, e_ll, e_lr, e_lk, e_ins, e_rm, e_ob, e_ai, e_aj, e_aq, e_an, e_nth, e_to, e_sw, e_cmp, k_c, k_n, k_f, k_v, k_lg, ↓reduceIte, reduceCtorEq, Nat.reduceAdd, Nat.reduceSub, Nat.reduceMul, Nat.reduceEqDiff, Nat.reduceLT, Nat.reduceLeDiff, Int.reduceAdd, Int.reduceSub, Int.reduceNeg, Int.reduceLE, Int.reduceLT, Int.reduceToNat, Int.reduceEq, Int.cast_ofNat_Int, List.mem_cons, List.not_mem_nil, List.length_cons, List.length_nil, List.set_cons_zero, List.set_cons_succ, List.toList_toArray, eq_self, true_and, and_true, and_self, or_true, true_or, false_or, or_false, or_self, not_true_eq_false, not_false_eq_true, Classical.not_not, true_implies, false_implies, implies_true, forall_const, and_false, false_and, e_up_e, va_rf_s, va_rf_n, Nat.le_refl, Nat.zero_le, Bool.false_eq_true, lv_args, DX7_init_0, DX7_init_1, FLX7, LDX7, gx8, Option.toList, List.nil_append]
  have w9 := nwC_set (x := .inr (9, [.ref b0, .ref b1, .ref e61.1, .ref b3, .ref b4, .ref b5, .ref pn, .ref b7, .ref b8])) ha wx8
  generalize hG9 : e_up Gx8 a (.inr (9, [.ref b0, .ref b1, .ref e61.1, .ref b3, .ref b4, .ref b5, .ref pn, .ref b7, .ref b8])) = G9 at w9 ⊢
  have g9 : G9 a = some (.inr (9, [.ref b0, .ref b1, .ref e61.1, .ref b3, .ref b4, .ref b5, .ref pn, .ref b7, .ref b8])) := by rw [← hG9, e_up_1]
  have g9' : ¬ G9 a = none := fun z => by rw [g9] at z; cases z
  clear hG9 gx8 kp8
  refine runX7_init C Rt [] 9 ?_
  simp only [e_go, e_1, e_op, e_pi, e_pl, e_pr, e_p0, e_li, e_ll, e_lr, e_lk, e_ins, e_rm, e_ob, e_ai, e_aj, e_aq, e_an, e_nth, e_to, e_sw, e_cmp, k_c, k_n, k_f, k_v, k_lg, ↓reduceIte, reduceCtorEq, Nat.reduceAdd, Nat.reduceSub, Nat.reduceMul, Nat.reduceEqDiff, Nat.reduceLT, Nat.reduceLeDiff, Int.reduceAdd, Int.reduceSub, Int.reduceNeg, Int.reduceLE, Int.reduceLT, Int.reduceToNat, Int.reduceEq, Int.cast_ofNat_Int, List.mem_cons, List.not_mem_nil, List.length_cons, List.length_nil, List.set_cons_zero, List.set_cons_succ, List.toList_toArray, eq_self, true_and, and_true, and_self, or_true, true_or, false_or, or_false, or_self, not_true_eq_false, not_false_eq_true, Classical.not_not, true_implies, false_implies, implies_true, forall_const, and_false, false_and, e_up_e, va_rf_s, va_rf_n, Nat.le_refl, Nat.zero_le, Bool.false_eq_true, lv_args, DX7_init_0, DX7_init_1, FLX7, LDX7]
  exact ⟨by decide, by decide, b0, t00, t01, b1, arr, e60, rl, e61, b3, d0, d1, d2, d3, d4, b4, t40, b5, t50, pn, b7, t70, b8, t80, hl, w9, g9⟩
