/-! constructors: the disk -/
theorem e_up_up {G : pH} {a : Nat} {x y : pE} : e_up (e_up G a x) a y = e_up G a y := by
  funext b
  unfold e_up
  by_cases h : b = a
  · rw [if_pos h, if_pos h]
  · rw [if_neg h, if_neg h, if_neg h]
theorem nwC_mod {G G1 : pH} {a t : Nat} {c c' : pE} {al1 al2 : List (Nat × pE)} (h : nwC G G1 a (al1 ++ (t, c) :: al2)) : nwC G (e_up G1 t c') a (al1 ++ (t, c') :: al2) := by
  obtain ⟨h1, h2⟩ := h
  have e1 : (al1 ++ (t, c') :: al2).map Prod.fst = (al1 ++ (t, c) :: al2).map Prod.fst := by simp
  have hd := h1.1
  rw [List.map_append, List.map_cons] at hd
  have hd2 := List.nodup_append.mp hd
  refine ⟨by rw [e1]; exact nw_in h1 (by simp), fun p hp => ?_⟩
  rcases List.mem_append.mp hp with hp | hp
  · have hne : ¬ p.1 = t := fun z => hd2.2.2 p.1 (List.mem_map.mpr ⟨p, hp, rfl⟩) t List.mem_cons_self z
    rw [e_up_2 hne]
    exact h2 p (List.mem_append_left _ hp)
  · rcases List.mem_cons.mp hp with rfl | hp
    · exact e_up_1
    · have hne : ¬ p.1 = t := fun z => (List.nodup_cons.mp hd2.2.1).1 (by rw [← z]; exact List.mem_map.mpr ⟨p, hp, rfl⟩)
      rw [e_up_2 hne]
      exact h2 p (List.mem_append_right _ (List.mem_cons_of_mem _ hp))
def owF (i : Nat) : Nat → Int32 := fun j => if j < i then nI j else 0
theorem owF_s (i : Nat) : upd (owF i) i (nI i) = owF (i + 1) := by
  funext j
  unfold upd owF
  by_cases h : j = i
  · rw [if_pos h, if_pos (by omega), h]
  · rw [if_neg h]
    by_cases h2 : j < i
    · rw [if_pos h2, if_pos (by omega)]
    · rw [if_neg h2, if_neg (by omega)]
theorem owF_0 : owF 0 = fun _ => 0 := by
  funext j
  unfold owF
  rw [if_neg (by omega)]
def wrF : Nat → Int32 := upd (upd (fun _ => 0) 0 (-4)) 1 (-4)
def dkL (t0 t1 t2 t3 t4 : Nat) : List Value := [.ref t0, .int 0, .int 0, .int 0, .int 0, .int (-4), .ref t1, .long 1, .ref t2, .ref t3, .ref t4]
set_option maxHeartbeats 8000000 in
set_option maxRecDepth 100000 in
theorem m_X1_init (l : Launch) {G : pH} {a : Nat} (hG : G a = some (.inr (3, dfX1))) : e_MX1_init l [.ref a] G (fun v G2 => v = none ∧ ∃ t0 t1 t2 t3 t4, nwC G G2 a [(t4, .inl (1, 61, .inr (.inl (fun _ => 0)))), (t3, .inl (0, 61, .inl (fun _ => 0))), (t2, .inl (0, 60, .inl (owF 60))), (t1, .inl (0, 2, .inl wrF)), (t0, .inl (0, 3532, .inl (fun _ => 0)))] ∧ G2 a = some (.inr (3, dkL t0 t1 t2 t3 t4))) := by
  have ha : ¬ G a = none := fun z => by rw [hG] at z; cases z
  refine ofX1_init (Nat.le_of_ble_eq_true rfl) ?_
  intro V C Rt
  refine runX1_init C Rt [] 9 ?_
  simp only [e_go, e_1, e_op, e_pi, e_pl, e_pr, e_p0, e_li, e_ll, e_lr, e_lk, e_ins, e_rm, e_ob, e_ai, e_aj, e_aq, e_an, e_nth, e_to, e_sw, e_cmp, k_c, k_n, k_f, k_v, k_lg, ↓reduceIte, reduceCtorEq, Nat.reduceAdd, Nat.reduceSub, Nat.reduceMul, Nat.reduceEqDiff, Nat.reduceLT, Nat.reduceLeDiff, Int.reduceAdd, Int.reduceSub, Int.reduceNeg, Int.reduceLE, Int.reduceLT, Int.reduceToNat, Int.reduceEq, Int.cast_ofNat_Int, List.mem_cons, List.not_mem_nil, List.length_cons, List.length_nil, List.set_cons_zero, List.set_cons_succ, List.toList_toArray, eq_self, true_and, and_true, and_self, or_true, true_or, false_or, or_false, or_self, not_true_eq_false, not_false_eq_true, Classical.not_not, true_implies, false_implies, implies_true, forall_const, and_false, false_and, e_up_e, va_rf_s, va_rf_n, Nat.le_refl, Nat.zero_le, Bool.false_eq_true, lv_args, DX1_init_0, DX1_init_1, FLX1, LDX1]
  refine oX1_init_1 C (by decide) ?_
  refine runX1_init C Rt [] 9 ?_
  simp only [e_go, e_1, e_op, e_pi, e_pl, e_pr, e_p0, e_li, e_ll, e_lr, e_lk, e_ins, e_rm, e_ob, e_ai, e_aj, e_aq, e_an, e_nth, e_to, e_sw, e_cmp, k_c, k_n, k_f, k_v, k_lg, ↓reduceIte, reduceCtorEq, Nat.reduceAdd, Nat.reduceSub, Nat.reduceMul, Nat.reduceEqDiff, Nat.reduceLT, Nat.reduceLeDiff, Int.reduceAdd, Int.reduceSub, Int.reduceNeg, Int.reduceLE, Int.reduceLT, Int.reduceToNat, Int.reduceEq, Int.cast_ofNat_Int, List.mem_cons, List.not_mem_nil, List.length_cons, List.length_nil, List.set_cons_zero, List.set_cons_succ, List.toList_toArray, eq_self, true_and, and_true, and_self, or_true, true_or, false_or, or_false, or_self, not_true_eq_false, not_false_eq_true, Classical.not_not, true_implies, false_implies, implies_true, forall_const, and_false, false_and, e_up_e, va_rf_s, va_rf_n, Nat.le_refl, Nat.zero_le, Bool.false_eq_true, lv_args, DX1_init_0, DX1_init_1, FLX1, LDX1]
  refine aX1_init_8 C (by decide) (show ((3532 : Int32)).toNatClampNeg = 3532 by decide) (by decide) (by decide) (fun t0 h0 => ?_)
  have n0 : ¬ t0 = a := fun z => by rw [z, hG] at h0; cases h0
  have n0' : ¬ a = t0 := fun z => n0 z.symm
  refine runX1_init C Rt [13] 9 ?_
  simp only [e_go, e_1, e_op, e_pi, e_pl, e_pr, e_p0, e_li, e_ll, e_lr, e_lk, e_ins, e_rm, e_ob, e_ai, e_aj, e_aq, e_an, e_nth, e_to, e_sw, e_cmp, k_c, k_n, k_f, k_v, k_lg, ↓reduceIte, reduceCtorEq, Nat.reduceAdd, Nat.reduceSub, Nat.reduceMul, Nat.reduceEqDiff, Nat.reduceLT, Nat.reduceLeDiff, Int.reduceAdd, Int.reduceSub, Int.reduceNeg, Int.reduceLE, Int.reduceLT, Int.reduceToNat, Int.reduceEq, Int.cast_ofNat_Int, List.mem_cons, List.not_mem_nil, List.length_cons, List.length_nil, List.set_cons_zero, List.set_cons_succ, List.toList_toArray, eq_self, true_and, and_true, and_self, or_true, true_or, false_or, or_false, or_self, not_true_eq_false, not_false_eq_true, Classical.not_not, true_implies, false_implies, implies_true, forall_const, and_false, false_and, e_up_e, va_rf_s, va_rf_n, Nat.le_refl, Nat.zero_le, Bool.false_eq_true, lv_args, DX1_init_0, DX1_init_1, FLX1, LDX1, n0', hG, dfX1]
  have w1 := nwC_new (c := .inl (0, 3532, .inl (fun _ => 0))) (x := .inr (3, [.ref t0, .int 0, .int 0, .int 0, .int 0, .int 0, .null, .long 0, .null, .null, .null])) ha nwC_0 h0 n0
  generalize hG1 : e_up (e_up G t0 (.inl (0, 3532, .inl (fun _ => 0)))) a (.inr (3, [.ref t0, .int 0, .int 0, .int 0, .int 0, .int 0, .null, .long 0, .null, .null, .null])) = G1 at w1 ⊢
  have g1 : G1 a = some (.inr (3, [.ref t0, .int 0, .int 0, .int 0, .int 0, .int 0, .null, .long 0, .null, .null, .null])) := by rw [← hG1, e_up_1]
  clear hG1
  refine runX1_init C Rt [19] 9 ?_
  simp only [e_go, e_1, e_op, e_pi, e_pl, e_pr, e_p0, e_li, e_ll, e_lr, e_lk, e_ins, e_rm, e_ob, e_ai, e_aj, e_aq, e_an, e_nth, e_to, e_sw, e_cmp, k_c, k_n, k_f, k_v, k_lg, ↓reduceIte, reduceCtorEq, Nat.reduceAdd, Nat.reduceSub, Nat.reduceMul, Nat.reduceEqDiff, Nat.reduceLT, Nat.reduceLeDiff, Int.reduceAdd, Int.reduceSub, Int.reduceNeg, Int.reduceLE, Int.reduceLT, Int.reduceToNat, Int.reduceEq, Int.cast_ofNat_Int, List.mem_cons, List.not_mem_nil, List.length_cons, List.length_nil, List.set_cons_zero, List.set_cons_succ, List.toList_toArray, eq_self, true_and, and_true, and_self, or_true, true_or, false_or, or_false, or_self, not_true_eq_false, not_false_eq_true, Classical.not_not, true_implies, false_implies, implies_true, forall_const, and_false, false_and, e_up_e, va_rf_s, va_rf_n, Nat.le_refl, Nat.zero_le, Bool.false_eq_true, lv_args, DX1_init_0, DX1_init_1, FLX1, LDX1, g1]
  have w2 := nwC_set (x := .inr (3, [.ref t0, .int 0, .int 0, .int 0, .int 0, .int (-4), .null, .long 0, .null, .null, .null])) ha w1
  generalize hG2 : e_up G1 a (.inr (3, [.ref t0, .int 0, .int 0, .int 0, .int 0, .int (-4), .null, .long 0, .null, .null, .null])) = G2 at w2 ⊢
  have g2 : G2 a = some (.inr (3, [.ref t0, .int 0, .int 0, .int 0, .int 0, .int (-4), .null, .long 0, .null, .null, .null])) := by rw [← hG2, e_up_1]
  clear hG2
  refine runX1_init C Rt [] 9 ?_
  simp only [e_go, e_1, e_op, e_pi, e_pl, e_pr, e_p0, e_li, e_ll, e_lr, e_lk, e_ins, e_rm, e_ob, e_ai, e_aj, e_aq, e_an, e_nth, e_to, e_sw, e_cmp, k_c, k_n, k_f, k_v, k_lg, ↓reduceIte, reduceCtorEq, Nat.reduceAdd, Nat.reduceSub, Nat.reduceMul, Nat.reduceEqDiff, Nat.reduceLT, Nat.reduceLeDiff, Int.reduceAdd, Int.reduceSub, Int.reduceNeg, Int.reduceLE, Int.reduceLT, Int.reduceToNat, Int.reduceEq, Int.cast_ofNat_Int, List.mem_cons, List.not_mem_nil, List.length_cons, List.length_nil, List.set_cons_zero, List.set_cons_succ, List.toList_toArray, eq_self, true_and, and_true, and_self, or_true, true_or, false_or, or_false, or_self, not_true_eq_false, not_false_eq_true, Classical.not_not, true_implies, false_implies, implies_true, forall_const, and_false, false_and, e_up_e, va_rf_s, va_rf_n, Nat.le_refl, Nat.zero_le, Bool.false_eq_true, lv_args, DX1_init_0, DX1_init_1, FLX1, LDX1]
  refine aX1_init_21 C (by decide) (show ((2 : Int32)).toNatClampNeg = 2 by decide) (by decide) (by decide) (fun t1 h1 => ?_)
  have n1 : ¬ t1 = a := fun z => by rw [z, g2] at h1; cases h1
  have n1' : ¬ a = t1 := fun z => n1 z.symm
  refine runX1_init C Rt [33] 20 ?_
  simp only [e_go, e_1, e_op, e_pi, e_pl, e_pr, e_p0, e_li, e_ll, e_lr, e_lk, e_ins, e_rm, e_ob, e_ai, e_aj, e_aq, e_an, e_nth, e_to, e_sw, e_cmp, k_c, k_n, k_f, k_v, k_lg, ↓reduceIte, reduceCtorEq, Nat.reduceAdd, Nat.reduceSub, Nat.reduceMul, Nat.reduceEqDiff, Nat.reduceLT, Nat.reduceLeDiff, Int.reduceAdd, Int.reduceSub, Int.reduceNeg, Int.reduceLE, Int.reduceLT, Int.reduceToNat, Int.reduceEq, Int.cast_ofNat_Int, List.mem_cons, List.not_mem_nil, List.length_cons, List.length_nil, List.set_cons_zero, List.set_cons_succ, List.toList_toArray, eq_self, true_and, and_true, and_self, or_true, true_or, false_or, or_false, or_self, not_true_eq_false, not_false_eq_true, Classical.not_not, true_implies, false_implies, implies_true, forall_const, and_false, false_and, e_up_e, va_rf_s, va_rf_n, Nat.le_refl, Nat.zero_le, Bool.false_eq_true, lv_args, DX1_init_0, DX1_init_1, FLX1, LDX1, n1', g2, e_up_up, (show ((0 : Int32)).toNatClampNeg = 0 by decide), (show ((1 : Int32)).toNatClampNeg = 1 by decide), (show vp_in 0 2 from vp_in_iff.mpr (by decide)), (show vp_in 1 2 from vp_in_iff.mpr (by decide))]
  rw [show upd (upd (fun _ => 0) 0 (-4)) 1 (-4) = wrF from rfl]
  refine runX1_init C Rt [36] 9 ?_
  simp only [e_go, e_1, e_op, e_pi, e_pl, e_pr, e_p0, e_li, e_ll, e_lr, e_lk, e_ins, e_rm, e_ob, e_ai, e_aj, e_aq, e_an, e_nth, e_to, e_sw, e_cmp, k_c, k_n, k_f, k_v, k_lg, ↓reduceIte, reduceCtorEq, Nat.reduceAdd, Nat.reduceSub, Nat.reduceMul, Nat.reduceEqDiff, Nat.reduceLT, Nat.reduceLeDiff, Int.reduceAdd, Int.reduceSub, Int.reduceNeg, Int.reduceLE, Int.reduceLT, Int.reduceToNat, Int.reduceEq, Int.cast_ofNat_Int, List.mem_cons, List.not_mem_nil, List.length_cons, List.length_nil, List.set_cons_zero, List.set_cons_succ, List.toList_toArray, eq_self, true_and, and_true, and_self, or_true, true_or, false_or, or_false, or_self, not_true_eq_false, not_false_eq_true, Classical.not_not, true_implies, false_implies, implies_true, forall_const, and_false, false_and, e_up_e, va_rf_s, va_rf_n, Nat.le_refl, Nat.zero_le, Bool.false_eq_true, lv_args, DX1_init_0, DX1_init_1, FLX1, LDX1, n1', g2]
  have w3 := nwC_new (c := .inl (0, 2, .inl wrF)) (x := .inr (3, [.ref t0, .int 0, .int 0, .int 0, .int 0, .int (-4), .ref t1, .long 0, .null, .null, .null])) ha w2 h1 n1
  generalize hG3 : e_up (e_up G2 t1 (.inl (0, 2, .inl wrF))) a (.inr (3, [.ref t0, .int 0, .int 0, .int 0, .int 0, .int (-4), .ref t1, .long 0, .null, .null, .null])) = G3 at w3 ⊢
  have g3 : G3 a = some (.inr (3, [.ref t0, .int 0, .int 0, .int 0, .int 0, .int (-4), .ref t1, .long 0, .null, .null, .null])) := by rw [← hG3, e_up_1]
  clear hG3
  refine runX1_init C Rt [41] 9 ?_
  simp only [e_go, e_1, e_op, e_pi, e_pl, e_pr, e_p0, e_li, e_ll, e_lr, e_lk, e_ins, e_rm, e_ob, e_ai, e_aj, e_aq, e_an, e_nth, e_to, e_sw, e_cmp, k_c, k_n, k_f, k_v, k_lg, ↓reduceIte, reduceCtorEq, Nat.reduceAdd, Nat.reduceSub, Nat.reduceMul, Nat.reduceEqDiff, Nat.reduceLT, Nat.reduceLeDiff, Int.reduceAdd, Int.reduceSub, Int.reduceNeg, Int.reduceLE, Int.reduceLT, Int.reduceToNat, Int.reduceEq, Int.cast_ofNat_Int, List.mem_cons, List.not_mem_nil, List.length_cons, List.length_nil, List.set_cons_zero, List.set_cons_succ, List.toList_toArray, eq_self, true_and, and_true, and_self, or_true, true_or, false_or, or_false, or_self, not_true_eq_false, not_false_eq_true, Classical.not_not, true_implies, false_implies, implies_true, forall_const, and_false, false_and, e_up_e, va_rf_s, va_rf_n, Nat.le_refl, Nat.zero_le, Bool.false_eq_true, lv_args, DX1_init_0, DX1_init_1, FLX1, LDX1, g3]
  have w4 := nwC_set (x := .inr (3, [.ref t0, .int 0, .int 0, .int 0, .int 0, .int (-4), .ref t1, .long 1, .null, .null, .null])) ha w3
  generalize hG4 : e_up G3 a (.inr (3, [.ref t0, .int 0, .int 0, .int 0, .int 0, .int (-4), .ref t1, .long 1, .null, .null, .null])) = G4 at w4 ⊢
  have g4 : G4 a = some (.inr (3, [.ref t0, .int 0, .int 0, .int 0, .int 0, .int (-4), .ref t1, .long 1, .null, .null, .null])) := by rw [← hG4, e_up_1]
  clear hG4
  refine runX1_init C Rt [] 9 ?_
  simp only [e_go, e_1, e_op, e_pi, e_pl, e_pr, e_p0, e_li, e_ll, e_lr, e_lk, e_ins, e_rm, e_ob, e_ai, e_aj, e_aq, e_an, e_nth, e_to, e_sw, e_cmp, k_c, k_n, k_f, k_v, k_lg, ↓reduceIte, reduceCtorEq, Nat.reduceAdd, Nat.reduceSub, Nat.reduceMul, Nat.reduceEqDiff, Nat.reduceLT, Nat.reduceLeDiff, Int.reduceAdd, Int.reduceSub, Int.reduceNeg, Int.reduceLE, Int.reduceLT, Int.reduceToNat, Int.reduceEq, Int.cast_ofNat_Int, List.mem_cons, List.not_mem_nil, List.length_cons, List.length_nil, List.set_cons_zero, List.set_cons_succ, List.toList_toArray, eq_self, true_and, and_true, and_self, or_true, true_or, false_or, or_false, or_self, not_true_eq_false, not_false_eq_true, Classical.not_not, true_implies, false_implies, implies_true, forall_const, and_false, false_and, e_up_e, va_rf_s, va_rf_n, Nat.le_refl, Nat.zero_le, Bool.false_eq_true, lv_args, DX1_init_0, DX1_init_1, FLX1, LDX1]
  refine aX1_init_44 C (by decide) (show ((60 : Int32)).toNatClampNeg = 60 by decide) (by decide) (by decide) (fun t2 h2 => ?_)
  have n2 : ¬ t2 = a := fun z => by rw [z, g4] at h2; cases h2
  have n2' : ¬ a = t2 := fun z => n2 z.symm
  refine runX1_init C Rt [49] 9 ?_
  simp only [e_go, e_1, e_op, e_pi, e_pl, e_pr, e_p0, e_li, e_ll, e_lr, e_lk, e_ins, e_rm, e_ob, e_ai, e_aj, e_aq, e_an, e_nth, e_to, e_sw, e_cmp, k_c, k_n, k_f, k_v, k_lg, ↓reduceIte, reduceCtorEq, Nat.reduceAdd, Nat.reduceSub, Nat.reduceMul, Nat.reduceEqDiff, Nat.reduceLT, Nat.reduceLeDiff, Int.reduceAdd, Int.reduceSub, Int.reduceNeg, Int.reduceLE, Int.reduceLT, Int.reduceToNat, Int.reduceEq, Int.cast_ofNat_Int, List.mem_cons, List.not_mem_nil, List.length_cons, List.length_nil, List.set_cons_zero, List.set_cons_succ, List.toList_toArray, eq_self, true_and, and_true, and_self, or_true, true_or, false_or, or_false, or_self, not_true_eq_false, not_false_eq_true, Classical.not_not, true_implies, false_implies, implies_true, forall_const, and_false, false_and, e_up_e, va_rf_s, va_rf_n, Nat.le_refl, Nat.zero_le, Bool.false_eq_true, lv_args, DX1_init_0, DX1_init_1, FLX1, LDX1, n2', g4]
  have w5 := nwC_new (c := .inl (0, 60, .inl (fun _ => 0))) (x := .inr (3, [.ref t0, .int 0, .int 0, .int 0, .int 0, .int (-4), .ref t1, .long 1, .ref t2, .null, .null])) ha w4 h2 n2
  generalize hG5 : e_up (e_up G4 t2 (.inl (0, 60, .inl (fun _ => 0)))) a (.inr (3, [.ref t0, .int 0, .int 0, .int 0, .int 0, .int (-4), .ref t1, .long 1, .ref t2, .null, .null])) = G5 at w5 ⊢
  have g5 : G5 a = some (.inr (3, [.ref t0, .int 0, .int 0, .int 0, .int 0, .int (-4), .ref t1, .long 1, .ref t2, .null, .null])) := by rw [← hG5, e_up_1]
  clear hG5
  refine runX1_init C Rt [] 9 ?_
  simp only [e_go, e_1, e_op, e_pi, e_pl, e_pr, e_p0, e_li, e_ll, e_lr, e_lk, e_ins, e_rm, e_ob, e_ai, e_aj, e_aq, e_an, e_nth, e_to, e_sw, e_cmp, k_c, k_n, k_f, k_v, k_lg, ↓reduceIte, reduceCtorEq, Nat.reduceAdd, Nat.reduceSub, Nat.reduceMul, Nat.reduceEqDiff, Nat.reduceLT, Nat.reduceLeDiff, Int.reduceAdd, Int.reduceSub, Int.reduceNeg, Int.reduceLE, Int.reduceLT, Int.reduceToNat, Int.reduceEq, Int.cast_ofNat_Int, List.mem_cons, List.not_mem_nil, List.length_cons, List.length_nil, List.set_cons_zero, List.set_cons_succ, List.toList_toArray, eq_self, true_and, and_true, and_self, or_true, true_or, false_or, or_false, or_self, not_true_eq_false, not_false_eq_true, Classical.not_not, true_implies, false_implies, implies_true, forall_const, and_false, false_and, e_up_e, va_rf_s, va_rf_n, Nat.le_refl, Nat.zero_le, Bool.false_eq_true, lv_args, DX1_init_0, DX1_init_1, FLX1, LDX1]
  refine aX1_init_52 C (by decide) (show ((61 : Int32)).toNatClampNeg = 61 by decide) (by decide) (by decide) (fun t3 h3 => ?_)
  have n3 : ¬ t3 = a := fun z => by rw [z, g5] at h3; cases h3
  have n3' : ¬ a = t3 := fun z => n3 z.symm
  refine runX1_init C Rt [57] 9 ?_
  simp only [e_go, e_1, e_op, e_pi, e_pl, e_pr, e_p0, e_li, e_ll, e_lr, e_lk, e_ins, e_rm, e_ob, e_ai, e_aj, e_aq, e_an, e_nth, e_to, e_sw, e_cmp, k_c, k_n, k_f, k_v, k_lg, ↓reduceIte, reduceCtorEq, Nat.reduceAdd, Nat.reduceSub, Nat.reduceMul, Nat.reduceEqDiff, Nat.reduceLT, Nat.reduceLeDiff, Int.reduceAdd, Int.reduceSub, Int.reduceNeg, Int.reduceLE, Int.reduceLT, Int.reduceToNat, Int.reduceEq, Int.cast_ofNat_Int, List.mem_cons, List.not_mem_nil, List.length_cons, List.length_nil, List.set_cons_zero, List.set_cons_succ, List.toList_toArray, eq_self, true_and, and_true, and_self, or_true, true_or, false_or, or_false, or_self, not_true_eq_false, not_false_eq_true, Classical.not_not, true_implies, false_implies, implies_true, forall_const, and_false, false_and, e_up_e, va_rf_s, va_rf_n, Nat.le_refl, Nat.zero_le, Bool.false_eq_true, lv_args, DX1_init_0, DX1_init_1, FLX1, LDX1, n3', g5]
  have w6 := nwC_new (c := .inl (0, 61, .inl (fun _ => 0))) (x := .inr (3, [.ref t0, .int 0, .int 0, .int 0, .int 0, .int (-4), .ref t1, .long 1, .ref t2, .ref t3, .null])) ha w5 h3 n3
  generalize hG6 : e_up (e_up G5 t3 (.inl (0, 61, .inl (fun _ => 0)))) a (.inr (3, [.ref t0, .int 0, .int 0, .int 0, .int 0, .int (-4), .ref t1, .long 1, .ref t2, .ref t3, .null])) = G6 at w6 ⊢
  have g6 : G6 a = some (.inr (3, [.ref t0, .int 0, .int 0, .int 0, .int 0, .int (-4), .ref t1, .long 1, .ref t2, .ref t3, .null])) := by rw [← hG6, e_up_1]
  clear hG6
  refine runX1_init C Rt [] 9 ?_
  simp only [e_go, e_1, e_op, e_pi, e_pl, e_pr, e_p0, e_li, e_ll, e_lr, e_lk, e_ins, e_rm, e_ob, e_ai, e_aj, e_aq, e_an, e_nth, e_to, e_sw, e_cmp, k_c, k_n, k_f, k_v, k_lg, ↓reduceIte, reduceCtorEq, Nat.reduceAdd, Nat.reduceSub, Nat.reduceMul, Nat.reduceEqDiff, Nat.reduceLT, Nat.reduceLeDiff, Int.reduceAdd, Int.reduceSub, Int.reduceNeg, Int.reduceLE, Int.reduceLT, Int.reduceToNat, Int.reduceEq, Int.cast_ofNat_Int, List.mem_cons, List.not_mem_nil, List.length_cons, List.length_nil, List.set_cons_zero, List.set_cons_succ, List.toList_toArray, eq_self, true_and, and_true, and_self, or_true, true_or, false_or, or_false, or_self, not_true_eq_false, not_false_eq_true, Classical.not_not, true_implies, false_implies, implies_true, forall_const, and_false, false_and, e_up_e, va_rf_s, va_rf_n, Nat.le_refl, Nat.zero_le, Bool.false_eq_true, lv_args, DX1_init_0, DX1_init_1, FLX1, LDX1]
  refine aX1_init_60 C (by decide) (show ((61 : Int32)).toNatClampNeg = 61 by decide) (by decide) (by decide) (fun t4 h4 => ?_)
  have n4 : ¬ t4 = a := fun z => by rw [z, g6] at h4; cases h4
  have n4' : ¬ a = t4 := fun z => n4 z.symm
  refine runX1_init C Rt [65] 9 ?_
  simp only [e_go, e_1, e_op, e_pi, e_pl, e_pr, e_p0, e_li, e_ll, e_lr, e_lk, e_ins, e_rm, e_ob, e_ai, e_aj, e_aq, e_an, e_nth, e_to, e_sw, e_cmp, k_c, k_n, k_f, k_v, k_lg, ↓reduceIte, reduceCtorEq, Nat.reduceAdd, Nat.reduceSub, Nat.reduceMul, Nat.reduceEqDiff, Nat.reduceLT, Nat.reduceLeDiff, Int.reduceAdd, Int.reduceSub, Int.reduceNeg, Int.reduceLE, Int.reduceLT, Int.reduceToNat, Int.reduceEq, Int.cast_ofNat_Int, List.mem_cons, List.not_mem_nil, List.length_cons, List.length_nil, List.set_cons_zero, List.set_cons_succ, List.toList_toArray, eq_self, true_and, and_true, and_self, or_true, true_or, false_or, or_false, or_self, not_true_eq_false, not_false_eq_true, Classical.not_not, true_implies, false_implies, implies_true, forall_const, and_false, false_and, e_up_e, va_rf_s, va_rf_n, Nat.le_refl, Nat.zero_le, Bool.false_eq_true, lv_args, DX1_init_0, DX1_init_1, FLX1, LDX1, n4', g6]
  have w7 := nwC_new (c := .inl (1, 61, .inr (.inl (fun _ => 0)))) (x := .inr (3, [.ref t0, .int 0, .int 0, .int 0, .int 0, .int (-4), .ref t1, .long 1, .ref t2, .ref t3, .ref t4])) ha w6 h4 n4
  generalize hG7 : e_up (e_up G6 t4 (.inl (1, 61, .inr (.inl (fun _ => 0))))) a (.inr (3, [.ref t0, .int 0, .int 0, .int 0, .int 0, .int (-4), .ref t1, .long 1, .ref t2, .ref t3, .ref t4])) = G7 at w7 ⊢
  have g7 : G7 a = some (.inr (3, [.ref t0, .int 0, .int 0, .int 0, .int 0, .int (-4), .ref t1, .long 1, .ref t2, .ref t3, .ref t4])) := by rw [← hG7, e_up_1]
  clear hG7
  have loop : ∀ k i, i + k = 60 → V 5 3716 67 [(0, .ref a), (1, .int (nI i))] [] (e_up G7 t2 (.inl (0, 60, .inl (owF i)))) := by
    intro k
    induction k with
    | zero =>
      intro i hi
      have hi2 : i = 60 := by omega
      subst hi2
      refine runX1_init C Rt [67] 20 ?_
      simp only [e_go, e_1, e_op, e_pi, e_pl, e_pr, e_p0, e_li, e_ll, e_lr, e_lk, e_ins, e_rm, e_ob, e_ai, e_aj, e_aq, e_an, e_nth, e_to, e_sw, e_cmp, k_c, k_n, k_f, k_v, k_lg, ↓reduceIte, reduceCtorEq, Nat.reduceAdd, Nat.reduceSub, Nat.reduceMul, Nat.reduceEqDiff, Nat.reduceLT, Nat.reduceLeDiff, Int.reduceAdd, Int.reduceSub, Int.reduceNeg, Int.reduceLE, Int.reduceLT, Int.reduceToNat, Int.reduceEq, Int.cast_ofNat_Int, List.mem_cons, List.not_mem_nil, List.length_cons, List.length_nil, List.set_cons_zero, List.set_cons_succ, List.toList_toArray, eq_self, true_and, and_true, and_self, or_true, true_or, false_or, or_false, or_self, not_true_eq_false, not_false_eq_true, Classical.not_not, true_implies, false_implies, implies_true, forall_const, and_false, false_and, e_up_e, va_rf_s, va_rf_n, Nat.le_refl, Nat.zero_le, Bool.false_eq_true, lv_args, DX1_init_0, DX1_init_1, FLX1, LDX1, (show (60 : Int32) = nI 60 from rfl), x_le (a := 60) (b := 60) (by omega) (by omega)]
      refine ⟨t0, t1, t2, t3, t4, nwC_mod (al1 := [(t4, .inl (1, 61, .inr (.inl (fun _ => 0)))), (t3, .inl (0, 61, .inl (fun _ => 0)))]) w7, ?_⟩
      simp [n2', g7, dkL]
    | succ k ih =>
      intro i hi
      refine runX1_init C Rt [67] 20 ?_
      simp only [e_go, e_1, e_op, e_pi, e_pl, e_pr, e_p0, e_li, e_ll, e_lr, e_lk, e_ins, e_rm, e_ob, e_ai, e_aj, e_aq, e_an, e_nth, e_to, e_sw, e_cmp, k_c, k_n, k_f, k_v, k_lg, ↓reduceIte, reduceCtorEq, Nat.reduceAdd, Nat.reduceSub, Nat.reduceMul, Nat.reduceEqDiff, Nat.reduceLT, Nat.reduceLeDiff, Int.reduceAdd, Int.reduceSub, Int.reduceNeg, Int.reduceLE, Int.reduceLT, Int.reduceToNat, Int.reduceEq, Int.cast_ofNat_Int, List.mem_cons, List.not_mem_nil, List.length_cons, List.length_nil, List.set_cons_zero, List.set_cons_succ, List.toList_toArray, eq_self, true_and, and_true, and_self, or_true, true_or, false_or, or_false, or_self, not_true_eq_false, not_false_eq_true, Classical.not_not, true_implies, false_implies, implies_true, forall_const, and_false, false_and, e_up_e, va_rf_s, va_rf_n, Nat.le_refl, Nat.zero_le, Bool.false_eq_true, lv_args, DX1_init_0, DX1_init_1, FLX1, LDX1, (show (60 : Int32) = nI 60 from rfl), x_le (a := 60) (b := i) (by omega) (by omega), n2', g7, e_up_up, x_cl (a := i) (by omega), x_in (a := i) (n := 60) (by omega), owF_s, nI_1]
      exact ⟨fun h => by omega, fun _ => ⟨by omega, ih (i + 1) (by omega)⟩⟩
  have h67 := loop 60 0 (by omega)
  have hz : e_up G7 t2 (.inl (0, 60, .inl (owF 0))) = G7 := by
    rw [owF_0]
    funext b
    unfold e_up
    by_cases hb : b = t2
    · rw [if_pos hb, hb]
      exact (w7.2 (t2, .inl (0, 60, .inl (fun _ => 0))) (by simp)).symm
    · rw [if_neg hb]
  rw [hz] at h67
  refine runX1_init C Rt [67] 9 ?_
  simp only [e_go, e_1, e_op, e_pi, e_pl, e_pr, e_p0, e_li, e_ll, e_lr, e_lk, e_ins, e_rm, e_ob, e_ai, e_aj, e_aq, e_an, e_nth, e_to, e_sw, e_cmp, k_c, k_n, k_f, k_v, k_lg, ↓reduceIte, reduceCtorEq, Nat.reduceAdd, Nat.reduceSub, Nat.reduceMul, Nat.reduceEqDiff, Nat.reduceLT, Nat.reduceLeDiff, Int.reduceAdd, Int.reduceSub, Int.reduceNeg, Int.reduceLE, Int.reduceLT, Int.reduceToNat, Int.reduceEq, Int.cast_ofNat_Int, List.mem_cons, List.not_mem_nil, List.length_cons, List.length_nil, List.set_cons_zero, List.set_cons_succ, List.toList_toArray, eq_self, true_and, and_true, and_self, or_true, true_or, false_or, or_false, or_self, not_true_eq_false, not_false_eq_true, Classical.not_not, true_implies, false_implies, implies_true, forall_const, and_false, false_and, e_up_e, va_rf_s, va_rf_n, Nat.le_refl, Nat.zero_le, Bool.false_eq_true, lv_args, DX1_init_0, DX1_init_1, FLX1, LDX1]
  exact h67
