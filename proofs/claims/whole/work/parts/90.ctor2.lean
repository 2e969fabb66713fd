/-! constructors: what is new -/
def nwL (G G2 : pH) (E : Nat → Prop) (L : List Nat) : Prop := L.Nodup ∧ (∀ x ∈ L, G x = none ∧ ¬ G2 x = none) ∧ ∀ x, ¬ E x → ¬ x ∈ L → G2 x = G x
theorem e_up_1 {G : pH} {a : Nat} {x : pE} : e_up G a x a = some x := by simp [e_up]
theorem e_up_2 {G : pH} {a b : Nat} {x : pE} (h : ¬ b = a) : e_up G a x b = G b := by simp [e_up, h]
section
variable {G G1 G2 : pH} {E : Nat → Prop} {L L2 : List Nat} {t a : Nat} {c : pE}
theorem nw_0 : nwL G G E [] := ⟨List.nodup_nil, (fun _ h => absurd h List.not_mem_nil), (fun _ _ _ => rfl)⟩
theorem nw_new (h : nwL G G1 E L) (ht : G1 t = none) (hE : ¬ E t) : nwL G (e_up G1 t c) E (t :: L) := by
  obtain ⟨h1, h2, h3⟩ := h
  have hn : ¬ t ∈ L := fun z => (h2 t z).2 ht
  refine ⟨List.nodup_cons.mpr ⟨hn, h1⟩, fun x hx => ?_, fun x hx hl => ?_⟩
  · rcases List.mem_cons.mp hx with rfl | hx
    · exact ⟨by rw [← h3 x hE hn]; exact ht, by rw [e_up_1]; simp⟩
    · have hne : ¬ x = t := fun z => hn (by rw [← z]; exact hx)
      exact ⟨(h2 x hx).1, by rw [e_up_2 hne]; exact (h2 x hx).2⟩
  · have hne : ¬ x = t := fun z => hl (List.mem_cons.mpr (Or.inl z))
    rw [e_up_2 hne]
    exact h3 x hx (fun z => hl (List.mem_cons_of_mem _ z))
theorem nw_set (h : nwL G G1 E L) (ha : E a) : nwL G (e_up G1 a c) E L := by
  obtain ⟨h1, h2, h3⟩ := h
  refine ⟨h1, fun x hx => ⟨(h2 x hx).1, ?_⟩, fun x hx hl => ?_⟩
  · by_cases hxa : x = a
    · rw [hxa, e_up_1]; simp
    · rw [e_up_2 hxa]; exact (h2 x hx).2
  · rw [e_up_2 (fun z => hx (by rw [z]; exact ha))]
    exact h3 x hx hl
theorem nw_in (h : nwL G G1 E L) (ha : a ∈ L) : nwL G (e_up G1 a c) E L := by
  obtain ⟨h1, h2, h3⟩ := h
  refine ⟨h1, fun x hx => ⟨(h2 x hx).1, ?_⟩, fun x hx hl => ?_⟩
  · by_cases hxa : x = a
    · rw [hxa, e_up_1]; simp
    · rw [e_up_2 hxa]; exact (h2 x hx).2
  · rw [e_up_2 (fun z => hl (by rw [z]; exact ha))]
    exact h3 x hx hl
/-- a constructor of a thing that is new itself -/
theorem nw_call {b : Nat} (h : nwL G G1 E L) (hb : b ∈ L) (h2 : nwL G1 G2 (fun x => x = b) L2) (hb2 : ¬ G2 b = none) (hE : ∀ x, E x → ¬ G1 x = none) : nwL G G2 E (L2 ++ L) := by
  obtain ⟨a1, a2, a3⟩ := h
  obtain ⟨b1, b2, b3⟩ := h2
  have hd : ∀ x ∈ L2, ¬ x ∈ L := fun x hx hl => (a2 x hl).2 (b2 x hx).1
  refine ⟨List.nodup_append.mpr ⟨b1, a1, fun x hx y hy z => hd x hx (by rw [z]; exact hy)⟩, fun x hx => ?_, fun x hx hl => ?_⟩
  · rcases List.mem_append.mp hx with hx | hx
    · have hnE : ¬ E x := fun z => hE x z (b2 x hx).1
      exact ⟨by rw [← a3 x hnE (hd x hx)]; exact (b2 x hx).1, (b2 x hx).2⟩
    · refine ⟨(a2 x hx).1, ?_⟩
      by_cases hxb : x = b
      · rw [hxb]; exact hb2
      · rw [b3 x hxb (fun z => hd x z hx)]
        exact (a2 x hx).2
  · have hx1 : ¬ x ∈ L := fun z => hl (List.mem_append_right _ z)
    have hx2 : ¬ x ∈ L2 := fun z => hl (List.mem_append_left _ z)
    rw [b3 x (fun z => hx1 (by rw [z]; exact hb)) hx2]
    exact a3 x hx hx1
/-- what is there stays -/
theorem nw_keep {y : Nat} {v : pE} (h : nwL G G1 E L) (hy : G y = some v) (hE : ¬ E y) : G1 y = some v := by
  rw [h.2.2 y hE (fun z => by have := (h.2.1 y z).1; rw [hy] at this; cases this)]
  exact hy
end
set_option maxHeartbeats 4000000 in
set_option maxRecDepth 100000 in
theorem m_X5_init (l : Launch) {G : pH} {a : Nat} (hG : G a = some (.inr (7, dfX5))) : e_MX5_init l [.ref a] G (fun v G2 => v = none ∧ ∃ t0 t1, nwL G G2 (fun x => x = a) [t1, t0] ∧ G2 a = some (.inr (7, [.ref t0, .ref t1])) ∧ G2 t0 = some (.inl (0, 16, .inl (fun _ => 0))) ∧ G2 t1 = some (.inl (0, 16, .inl (fun _ => 0)))) := by
  refine ofX5_init (Nat.le_of_ble_eq_true rfl) ?_
  intro V C Rt
  refine runX5_init C Rt [] 20 ?_
  simp only [e_go, e_1, e_op, e_pi, e_pl, e_pr, e_p0, e_li, e_ll, e_lr, e_lk, e_ins, e_rm, e_ob, e_ai, e_aj, e_aq, e_an, e_nth, e_to, e_sw, e_cmp, k_c, k_n, k_f, k_v, k_lg, ↓reduceIte, reduceCtorEq, Nat.reduceAdd, Nat.reduceSub, Nat.reduceMul, Nat.reduceEqDiff, Nat.reduceLT, Nat.reduceLeDiff, Int.reduceAdd, Int.reduceSub, Int.reduceNeg, Int.reduceLE, Int.reduceLT, Int.reduceToNat, Int.reduceEq, Int.cast_ofNat_Int, List.mem_cons, List.not_mem_nil, List.length_cons, List.length_nil, List.set_cons_zero, List.set_cons_succ, List.toList_toArray, eq_self, true_and, and_true, and_self, or_true, true_or, false_or, or_false, or_self, not_true_eq_false, not_false_eq_true, Classical.not_not, true_implies, false_implies, implies_true, forall_const, and_false, false_and, e_up_e, va_rf_s, va_rf_n, Nat.le_refl, Nat.zero_le, Bool.false_eq_true, lv_args, DX5_init_0, FLX5, LDX5]
  refine oX5_init_1 C (by decide) ?_
  refine runX5_init C Rt [] 20 ?_
  simp only [e_go, e_1, e_op, e_pi, e_pl, e_pr, e_p0, e_li, e_ll, e_lr, e_lk, e_ins, e_rm, e_ob, e_ai, e_aj, e_aq, e_an, e_nth, e_to, e_sw, e_cmp, k_c, k_n, k_f, k_v, k_lg, ↓reduceIte, reduceCtorEq, Nat.reduceAdd, Nat.reduceSub, Nat.reduceMul, Nat.reduceEqDiff, Nat.reduceLT, Nat.reduceLeDiff, Int.reduceAdd, Int.reduceSub, Int.reduceNeg, Int.reduceLE, Int.reduceLT, Int.reduceToNat, Int.reduceEq, Int.cast_ofNat_Int, List.mem_cons, List.not_mem_nil, List.length_cons, List.length_nil, List.set_cons_zero, List.set_cons_succ, List.toList_toArray, eq_self, true_and, and_true, and_self, or_true, true_or, false_or, or_false, or_self, not_true_eq_false, not_false_eq_true, Classical.not_not, true_implies, false_implies, implies_true, forall_const, and_false, false_and, e_up_e, va_rf_s, va_rf_n, Nat.le_refl, Nat.zero_le, Bool.false_eq_true, lv_args, DX5_init_0, FLX5, LDX5]
  refine aX5_init_7 C (by decide) (show ((16 : Int32)).toNatClampNeg = 16 by decide) (by decide) (by decide) (fun t0 h0 => ?_)
  have n0 : ¬ t0 = a := fun z => by rw [z, hG] at h0; cases h0
  have n0' : ¬ a = t0 := fun z => n0 z.symm
  refine runX5_init C Rt [] 20 ?_
  simp only [e_go, e_1, e_op, e_pi, e_pl, e_pr, e_p0, e_li, e_ll, e_lr, e_lk, e_ins, e_rm, e_ob, e_ai, e_aj, e_aq, e_an, e_nth, e_to, e_sw, e_cmp, k_c, k_n, k_f, k_v, k_lg, ↓reduceIte, reduceCtorEq, Nat.reduceAdd, Nat.reduceSub, Nat.reduceMul, Nat.reduceEqDiff, Nat.reduceLT, Nat.reduceLeDiff, Int.reduceAdd, Int.reduceSub, Int.reduceNeg, Int.reduceLE, Int.reduceLT, Int.reduceToNat, Int.reduceEq, Int.cast_ofNat_Int, List.mem_cons, List.not_mem_nil, List.length_cons, List.length_nil, List.set_cons_zero, List.set_cons_succ, List.toList_toArray, eq_self, true_and, and_true, and_self, or_true, true_or, false_or, or_false, or_self, not_true_eq_false, not_false_eq_true, Classical.not_not, true_implies, false_implies, implies_true, forall_const, and_false, false_and, e_up_e, va_rf_s, va_rf_n, Nat.le_refl, Nat.zero_le, Bool.false_eq_true, lv_args, DX5_init_0, FLX5, LDX5, e_up, n0, n0', hG, dfX5]
  refine aX5_init_15 C (by decide) (show ((16 : Int32)).toNatClampNeg = 16 by decide) (by decide) (by decide) (fun t1 h1 => ?_)
  have n1 : ¬ t1 = a := fun z => by rw [z, e_up_1] at h1; cases h1
  have n1' : ¬ a = t1 := fun z => n1 z.symm
  have n01 : ¬ t0 = t1 := fun z => by rw [← z, e_up_2 n0, e_up_1] at h1; cases h1
  refine runX5_init C Rt [] 20 ?_
  simp only [e_go, e_1, e_op, e_pi, e_pl, e_pr, e_p0, e_li, e_ll, e_lr, e_lk, e_ins, e_rm, e_ob, e_ai, e_aj, e_aq, e_an, e_nth, e_to, e_sw, e_cmp, k_c, k_n, k_f, k_v, k_lg, ↓reduceIte, reduceCtorEq, Nat.reduceAdd, Nat.reduceSub, Nat.reduceMul, Nat.reduceEqDiff, Nat.reduceLT, Nat.reduceLeDiff, Int.reduceAdd, Int.reduceSub, Int.reduceNeg, Int.reduceLE, Int.reduceLT, Int.reduceToNat, Int.reduceEq, Int.cast_ofNat_Int, List.mem_cons, List.not_mem_nil, List.length_cons, List.length_nil, List.set_cons_zero, List.set_cons_succ, List.toList_toArray, eq_self, true_and, and_true, and_self, or_true, true_or, false_or, or_false, or_self, not_true_eq_false, not_false_eq_true, Classical.not_not, true_implies, false_implies, implies_true, forall_const, and_false, false_and, e_up_e, va_rf_s, va_rf_n, Nat.le_refl, Nat.zero_le, Bool.false_eq_true, lv_args, DX5_init_0, FLX5, LDX5, e_up, n1', n0', hG, dfX5]
  refine ⟨t0, t1, nw_set (nw_new (nw_set (nw_new nw_0 h0 n0) rfl) h1 n1) rfl, rfl, ?_, ?_⟩
  · simp [n0, n01]
  · simp [n1]
set_option maxHeartbeats 4000000 in
set_option maxRecDepth 100000 in
theorem m_X3_init (l : Launch) {G : pH} {a : Nat} (hG : G a = some (.inr (5, dfX3))) : e_MX3_init l [.ref a] G (fun v G2 => v = none ∧ ∃ t0, nwL G G2 (fun x => x = a) [t0] ∧ G2 a = some (.inr (5, [.int 0, .int 0, .ref t0])) ∧ G2 t0 = some (.inl (0, 4000, .inl (fun _ => 0)))) := by
  refine ofX3_init (Nat.le_of_ble_eq_true rfl) ?_
  intro V C Rt
  refine runX3_init C Rt [] 20 ?_
  simp only [e_go, e_1, e_op, e_pi, e_pl, e_pr, e_p0, e_li, e_ll, e_lr, e_lk, e_ins, e_rm, e_ob, e_ai, e_aj, e_aq, e_an, e_nth, e_to, e_sw, e_cmp, k_c, k_n, k_f, k_v, k_lg, ↓reduceIte, reduceCtorEq, Nat.reduceAdd, Nat.reduceSub, Nat.reduceMul, Nat.reduceEqDiff, Nat.reduceLT, Nat.reduceLeDiff, Int.reduceAdd, Int.reduceSub, Int.reduceNeg, Int.reduceLE, Int.reduceLT, Int.reduceToNat, Int.reduceEq, Int.cast_ofNat_Int, List.mem_cons, List.not_mem_nil, List.length_cons, List.length_nil, List.set_cons_zero, List.set_cons_succ, List.toList_toArray, eq_self, true_and, and_true, and_self, or_true, true_or, false_or, or_false, or_self, not_true_eq_false, not_false_eq_true, Classical.not_not, true_implies, false_implies, implies_true, forall_const, and_false, false_and, e_up_e, va_rf_s, va_rf_n, Nat.le_refl, Nat.zero_le, Bool.false_eq_true, lv_args, DX3_init_0, FLX3, LDX3]
  refine oX3_init_1 C (by decide) ?_
  refine runX3_init C Rt [] 20 ?_
  simp only [e_go, e_1, e_op, e_pi, e_pl, e_pr, e_p0, e_li, e_ll, e_lr, e_lk, e_ins, e_rm, e_ob, e_ai, e_aj, e_aq, e_an, e_nth, e_to, e_sw, e_cmp, k_c, k_n, k_f, k_v, k_lg, ↓reduceIte, reduceCtorEq, Nat.reduceAdd, Nat.reduceSub, Nat.reduceMul, Nat.reduceEqDiff, Nat.reduceLT, Nat.reduceLeDiff, Int.reduceAdd, Int.reduceSub, Int.reduceNeg, Int.reduceLE, Int.reduceLT, Int.reduceToNat, Int.reduceEq, Int.cast_ofNat_Int, List.mem_cons, List.not_mem_nil, List.length_cons, List.length_nil, List.set_cons_zero, List.set_cons_succ, List.toList_toArray, eq_self, true_and, and_true, and_self, or_true, true_or, false_or, or_false, or_self, not_true_eq_false, not_false_eq_true, Classical.not_not, true_implies, false_implies, implies_true, forall_const, and_false, false_and, e_up_e, va_rf_s, va_rf_n, Nat.le_refl, Nat.zero_le, Bool.false_eq_true, lv_args, DX3_init_0, FLX3, LDX3, hG, dfX3]
  refine aX3_init_13 C (by decide) (show ((4000 : Int32)).toNatClampNeg = 4000 by decide) (by decide) (by decide) (fun t0 h0 => ?_)
  have n0 : ¬ t0 = a := fun z => by rw [z, e_up_1] at h0; cases h0
  have n0' : ¬ a = t0 := fun z => n0 z.symm
  refine runX3_init C Rt [] 20 ?_
  simp only [e_go, e_1, e_op, e_pi, e_pl, e_pr, e_p0, e_li, e_ll, e_lr, e_lk, e_ins, e_rm, e_ob, e_ai, e_aj, e_aq, e_an, e_nth, e_to, e_sw, e_cmp, k_c, k_n, k_f, k_v, k_lg, ↓reduceIte, reduceCtorEq, Nat.reduceAdd, Nat.reduceSub, Nat.reduceMul, Nat.reduceEqDiff, Nat.reduceLT, Nat.reduceLeDiff, Int.reduceAdd, Int.reduceSub, Int.reduceNeg, Int.reduceLE, Int.reduceLT, Int.reduceToNat, Int.reduceEq, Int.cast_ofNat_Int, List.mem_cons, List.not_mem_nil, List.length_cons, List.length_nil, List.set_cons_zero, List.set_cons_succ, List.toList_toArray, eq_self, true_and, and_true, and_self, or_true, true_or, false_or, or_false, or_self, not_true_eq_false, not_false_eq_true, Classical.not_not, true_implies, false_implies, implies_true, forall_const, and_false, false_and, e_up_e, va_rf_s, va_rf_n, Nat.le_refl, Nat.zero_le, Bool.false_eq_true, lv_args, DX3_init_0, FLX3, LDX3, e_up, n0', hG, dfX3]
  refine ⟨t0, nw_set (nw_new (nw_set nw_0 rfl) h0 n0) rfl, rfl, ?_⟩
  simp [n0]
set_option maxHeartbeats 4000000 in
set_option maxRecDepth 100000 in
theorem m_X4_init (l : Launch) {G : pH} {a : Nat} (hG : G a = some (.inr (6, dfX4))) : e_MX4_init l [.ref a] G (fun v G2 => v = none ∧ ∃ t0, nwL G G2 (fun x => x = a) [t0] ∧ G2 a = some (.inr (6, [.int 0, .int 0, .long 0, .int 0, .ref t0])) ∧ G2 t0 = some (.inl (0, 0, .inl (fun _ => 0)))) := by
  refine ofX4_init (Nat.le_of_ble_eq_true rfl) ?_
  intro V C Rt
  refine runX4_init C Rt [] 20 ?_
  simp only [e_go, e_1, e_op, e_pi, e_pl, e_pr, e_p0, e_li, e_ll, e_lr, e_lk, e_ins, e_rm, e_ob, e_ai, e_aj, e_aq, e_an, e_nth, e_to, e_sw, e_cmp, k_c, k_n, k_f, k_v, k_lg, ↓reduceIte, reduceCtorEq, Nat.reduceAdd, Nat.reduceSub, Nat.reduceMul, Nat.reduceEqDiff, Nat.reduceLT, Nat.reduceLeDiff, Int.reduceAdd, Int.reduceSub, Int.reduceNeg, Int.reduceLE, Int.reduceLT, Int.reduceToNat, Int.reduceEq, Int.cast_ofNat_Int, List.mem_cons, List.not_mem_nil, List.length_cons, List.length_nil, List.set_cons_zero, List.set_cons_succ, List.toList_toArray, eq_self, true_and, and_true, and_self, or_true, true_or, false_or, or_false, or_self, not_true_eq_false, not_false_eq_true, Classical.not_not, true_implies, false_implies, implies_true, forall_const, and_false, false_and, e_up_e, va_rf_s, va_rf_n, Nat.le_refl, Nat.zero_le, Bool.false_eq_true, lv_args, DX4_init_0, FLX4, LDX4]
  refine oX4_init_1 C (by decide) ?_
  refine runX4_init C Rt [] 20 ?_
  simp only [e_go, e_1, e_op, e_pi, e_pl, e_pr, e_p0, e_li, e_ll, e_lr, e_lk, e_ins, e_rm, e_ob, e_ai, e_aj, e_aq, e_an, e_nth, e_to, e_sw, e_cmp, k_c, k_n, k_f, k_v, k_lg, ↓reduceIte, reduceCtorEq, Nat.reduceAdd, Nat.reduceSub, Nat.reduceMul, Nat.reduceEqDiff, Nat.reduceLT, Nat.reduceLeDiff, Int.reduceAdd, Int.reduceSub, Int.reduceNeg, Int.reduceLE, Int.reduceLT, Int.reduceToNat, Int.reduceEq, Int.cast_ofNat_Int, List.mem_cons, List.not_mem_nil, List.length_cons, List.length_nil, List.set_cons_zero, List.set_cons_succ, List.toList_toArray, eq_self, true_and, and_true, and_self, or_true, true_or, false_or, or_false, or_self, not_true_eq_false, not_false_eq_true, Classical.not_not, true_implies, false_implies, implies_true, forall_const, and_false, false_and, e_up_e, va_rf_s, va_rf_n, Nat.le_refl, Nat.zero_le, Bool.false_eq_true, lv_args, DX4_init_0, FLX4, LDX4, hG, dfX4]
  refine aX4_init_6 C (by decide) (show ((0 : Int32)).toNatClampNeg = 0 by decide) (by decide) (by decide) (fun t0 h0 => ?_)
  have n0 : ¬ t0 = a := fun z => by rw [z, hG] at h0; cases h0
  have n0' : ¬ a = t0 := fun z => n0 z.symm
  refine runX4_init C Rt [] 20 ?_
  simp only [e_go, e_1, e_op, e_pi, e_pl, e_pr, e_p0, e_li, e_ll, e_lr, e_lk, e_ins, e_rm, e_ob, e_ai, e_aj, e_aq, e_an, e_nth, e_to, e_sw, e_cmp, k_c, k_n, k_f, k_v, k_lg, ↓reduceIte, reduceCtorEq, Nat.reduceAdd, Nat.reduceSub, Nat.reduceMul, Nat.reduceEqDiff, Nat.reduceLT, Nat.reduceLeDiff, Int.reduceAdd, Int.reduceSub, Int.reduceNeg, Int.reduceLE, Int.reduceLT, Int.reduceToNat, Int.reduceEq, Int.cast_ofNat_Int, List.mem_cons, List.not_mem_nil, List.length_cons, List.length_nil, List.set_cons_zero, List.set_cons_succ, List.toList_toArray, eq_self, true_and, and_true, and_self, or_true, true_or, false_or, or_false, or_self, not_true_eq_false, not_false_eq_true, Classical.not_not, true_implies, false_implies, implies_true, forall_const, and_false, false_and, e_up_e, va_rf_s, va_rf_n, Nat.le_refl, Nat.zero_le, Bool.false_eq_true, lv_args, DX4_init_0, FLX4, LDX4, e_up, n0', hG, dfX4]
  refine ⟨t0, nw_set (nw_new nw_0 h0 n0) rfl, rfl, ?_⟩
  simp [n0]
set_option maxHeartbeats 4000000 in
set_option maxRecDepth 100000 in
theorem m_X6_init (l : Launch) {G : pH} {a : Nat} (hG : G a = some (.inr (8, dfX6))) : e_MX6_init l [.ref a] G (fun v G2 => v = none ∧ ∃ t0, nwL G G2 (fun x => x = a) [t0] ∧ G2 a = some (.inr (8, [.int 0, .int 0, .int 0, .long 0, .ref t0])) ∧ G2 t0 = some (.inl (0, 0, .inl (fun _ => 0)))) := by
  refine ofX6_init (Nat.le_of_ble_eq_true rfl) ?_
  intro V C Rt
  refine runX6_init C Rt [] 20 ?_
  simp only [e_go, e_1, e_op, e_pi, e_pl, e_pr, e_p0, e_li, e_ll, e_lr, e_lk, e_ins, e_rm, e_ob, e_ai, e_aj, e_aq, e_an, e_nth, e_to, e_sw, e_cmp, k_c, k_n, k_f, k_v, k_lg, ↓reduceIte, reduceCtorEq, Nat.reduceAdd, Nat.reduceSub, Nat.reduceMul, Nat.reduceEqDiff, Nat.reduceLT, Nat.reduceLeDiff, Int.reduceAdd, Int.reduceSub, Int.reduceNeg, Int.reduceLE, Int.reduceLT, Int.reduceToNat, Int.reduceEq, Int.cast_ofNat_Int, List.mem_cons, List.not_mem_nil, List.length_cons, List.length_nil, List.set_cons_zero, List.set_cons_succ, List.toList_toArray, eq_self, true_and, and_true, and_self, or_true, true_or, false_or, or_false, or_self, not_true_eq_false, not_false_eq_true, Classical.not_not, true_implies, false_implies, implies_true, forall_const, and_false, false_and, e_up_e, va_rf_s, va_rf_n, Nat.le_refl, Nat.zero_le, Bool.false_eq_true, lv_args, DX6_init_0, FLX6, LDX6]
  refine oX6_init_1 C (by decide) ?_
  refine runX6_init C Rt [] 20 ?_
  simp only [e_go, e_1, e_op, e_pi, e_pl, e_pr, e_p0, e_li, e_ll, e_lr, e_lk, e_ins, e_rm, e_ob, e_ai, e_aj, e_aq, e_an, e_nth, e_to, e_sw, e_cmp, k_c, k_n, k_f, k_v, k_lg, ↓reduceIte, reduceCtorEq, Nat.reduceAdd, Nat.reduceSub, Nat.reduceMul, Nat.reduceEqDiff, Nat.reduceLT, Nat.reduceLeDiff, Int.reduceAdd, Int.reduceSub, Int.reduceNeg, Int.reduceLE, Int.reduceLT, Int.reduceToNat, Int.reduceEq, Int.cast_ofNat_Int, List.mem_cons, List.not_mem_nil, List.length_cons, List.length_nil, List.set_cons_zero, List.set_cons_succ, List.toList_toArray, eq_self, true_and, and_true, and_self, or_true, true_or, false_or, or_false, or_self, not_true_eq_false, not_false_eq_true, Classical.not_not, true_implies, false_implies, implies_true, forall_const, and_false, false_and, e_up_e, va_rf_s, va_rf_n, Nat.le_refl, Nat.zero_le, Bool.false_eq_true, lv_args, DX6_init_0, FLX6, LDX6, hG, dfX6]
  refine aX6_init_6 C (by decide) (show ((0 : Int32)).toNatClampNeg = 0 by decide) (by decide) (by decide) (fun t0 h0 => ?_)
  have n0 : ¬ t0 = a := fun z => by rw [z, hG] at h0; cases h0
  have n0' : ¬ a = t0 := fun z => n0 z.symm
  refine runX6_init C Rt [] 20 ?_
  simp only [e_go, e_1, e_op, e_pi, e_pl, e_pr, e_p0, e_li, e_ll, e_lr, e_lk, e_ins, e_rm, e_ob, e_ai, e_aj, e_aq, e_an, e_nth, e_to, e_sw, e_cmp, k_c, k_n, k_f, k_v, k_lg, ↓reduceIte, reduceCtorEq, Nat.reduceAdd, Nat.reduceSub, Nat.reduceMul, Nat.reduceEqDiff, Nat.reduceLT, Nat.reduceLeDiff, Int.reduceAdd, Int.reduceSub, Int.reduceNeg, Int.reduceLE, Int.reduceLT, Int.reduceToNat, Int.reduceEq, Int.cast_ofNat_Int, List.mem_cons, List.not_mem_nil, List.length_cons, List.length_nil, List.set_cons_zero, List.set_cons_succ, List.toList_toArray, eq_self, true_and, and_true, and_self, or_true, true_or, false_or, or_false, or_self, not_true_eq_false, not_false_eq_true, Classical.not_not, true_implies, false_implies, implies_true, forall_const, and_false, false_and, e_up_e, va_rf_s, va_rf_n, Nat.le_refl, Nat.zero_le, Bool.false_eq_true, lv_args, DX6_init_0, FLX6, LDX6, e_up, n0', hG, dfX6]
  refine ⟨t0, nw_set (nw_new nw_0 h0 n0) rfl, rfl, ?_⟩
  simp [n0]
/-- a fact's cells -/
def fcel (t0 t1 t2 t3 : Nat) : List Value := [.int 0, .long 0, .int 0, .int 0, .int 0, .ref t0, .ref t1, .ref t2, .int 0, .ref t3]
def z4 : pE := .inl (0, 4, .inl (fun _ => 0))
def z3 : pE := .inl (0, 3, .inl (fun _ => 0))
def facA (G : pH) (a t0 t1 t2 t3 : Nat) : Prop := G a = some (.inr (4, fcel t0 t1 t2 t3)) ∧ G t0 = some z4 ∧ G t1 = some z4 ∧ G t2 = some z4 ∧ G t3 = some z3
set_option maxHeartbeats 4000000 in
set_option maxRecDepth 100000 in
theorem m_X2_init (l : Launch) {G : pH} {a : Nat} (hG : G a = some (.inr (4, dfX2))) : e_MX2_init l [.ref a] G (fun v G2 => v = none ∧ ∃ t0 t1 t2 t3, nwL G G2 (fun x => x = a) [t3, t2, t1, t0] ∧ facA G2 a t0 t1 t2 t3) := by
  refine ofX2_init (Nat.le_of_ble_eq_true rfl) ?_
  intro V C Rt
  refine runX2_init C Rt [] 20 ?_
  simp only [e_go, e_1, e_op, e_pi, e_pl, e_pr, e_p0, e_li, e_ll, e_lr, e_lk, e_ins, e_rm, e_ob, e_ai, e_aj, e_aq, e_an, e_nth, e_to, e_sw, e_cmp, k_c, k_n, k_f, k_v, k_lg, ↓reduceIte, reduceCtorEq, Nat.reduceAdd, Nat.reduceSub, Nat.reduceMul, Nat.reduceEqDiff, Nat.reduceLT, Nat.reduceLeDiff, Int.reduceAdd, Int.reduceSub, Int.reduceNeg, Int.reduceLE, Int.reduceLT, Int.reduceToNat, Int.reduceEq, Int.cast_ofNat_Int, List.mem_cons, List.not_mem_nil, List.length_cons, List.length_nil, List.set_cons_zero, List.set_cons_succ, List.toList_toArray, eq_self, true_and, and_true, and_self, or_true, true_or, false_or, or_false, or_self, not_true_eq_false, not_false_eq_true, Classical.not_not, true_implies, false_implies, implies_true, forall_const, and_false, false_and, e_up_e, va_rf_s, va_rf_n, Nat.le_refl, Nat.zero_le, Bool.false_eq_true, lv_args, DX2_init_0, FLX2, LDX2]
  refine oX2_init_1 C (by decide) ?_
  refine runX2_init C Rt [] 20 ?_
  simp only [e_go, e_1, e_op, e_pi, e_pl, e_pr, e_p0, e_li, e_ll, e_lr, e_lk, e_ins, e_rm, e_ob, e_ai, e_aj, e_aq, e_an, e_nth, e_to, e_sw, e_cmp, k_c, k_n, k_f, k_v, k_lg, ↓reduceIte, reduceCtorEq, Nat.reduceAdd, Nat.reduceSub, Nat.reduceMul, Nat.reduceEqDiff, Nat.reduceLT, Nat.reduceLeDiff, Int.reduceAdd, Int.reduceSub, Int.reduceNeg, Int.reduceLE, Int.reduceLT, Int.reduceToNat, Int.reduceEq, Int.cast_ofNat_Int, List.mem_cons, List.not_mem_nil, List.length_cons, List.length_nil, List.set_cons_zero, List.set_cons_succ, List.toList_toArray, eq_self, true_and, and_true, and_self, or_true, true_or, false_or, or_false, or_self, not_true_eq_false, not_false_eq_true, Classical.not_not, true_implies, false_implies, implies_true, forall_const, and_false, false_and, e_up_e, va_rf_s, va_rf_n, Nat.le_refl, Nat.zero_le, Bool.false_eq_true, lv_args, DX2_init_0, FLX2, LDX2, hG, dfX2]
  refine aX2_init_6 C (by decide) (show ((4 : Int32)).toNatClampNeg = 4 by decide) (by decide) (by decide) (fun t0 h0 => ?_)
  have n0 : ¬ t0 = a := fun z => by rw [z, hG] at h0; cases h0
  have n0' : ¬ a = t0 := fun z => n0 z.symm
  refine runX2_init C Rt [] 20 ?_
  simp only [e_go, e_1, e_op, e_pi, e_pl, e_pr, e_p0, e_li, e_ll, e_lr, e_lk, e_ins, e_rm, e_ob, e_ai, e_aj, e_aq, e_an, e_nth, e_to, e_sw, e_cmp, k_c, k_n, k_f, k_v, k_lg, ↓reduceIte, reduceCtorEq, Nat.reduceAdd, Nat.reduceSub, Nat.reduceMul, Nat.reduceEqDiff, Nat.reduceLT, Nat.reduceLeDiff, Int.reduceAdd, Int.reduceSub, Int.reduceNeg, Int.reduceLE, Int.reduceLT, Int.reduceToNat, Int.reduceEq, Int.cast_ofNat_Int, List.mem_cons, List.not_mem_nil, List.length_cons, List.length_nil, List.set_cons_zero, List.set_cons_succ, List.toList_toArray, eq_self, true_and, and_true, and_self, or_true, true_or, false_or, or_false, or_self, not_true_eq_false, not_false_eq_true, Classical.not_not, true_implies, false_implies, implies_true, forall_const, and_false, false_and, e_up_e, va_rf_s, va_rf_n, Nat.le_refl, Nat.zero_le, Bool.false_eq_true, lv_args, DX2_init_0, FLX2, LDX2, e_up, n0', hG, dfX2]
  refine aX2_init_13 C (by decide) (show ((4 : Int32)).toNatClampNeg = 4 by decide) (by decide) (by decide) (fun t1 h1 => ?_)
  have n1 : ¬ t1 = a := fun z => by rw [z, e_up_1] at h1; cases h1
  have n1' : ¬ a = t1 := fun z => n1 z.symm
  have w1 := nw_new (c := .inl (0, 4, .inl (fun _ => 0))) (nw_set (a := a) (c := .inr (4, [.int 0, .long 0, .int 0, .int 0, .int 0, .ref t0, .null, .null, .int 0, .null])) (nw_new (E := fun x => x = a) (c := .inl (0, 4, .inl (fun _ => 0))) nw_0 h0 n0) rfl) h1 n1
  refine runX2_init C Rt [] 20 ?_
  simp only [e_go, e_1, e_op, e_pi, e_pl, e_pr, e_p0, e_li, e_ll, e_lr, e_lk, e_ins, e_rm, e_ob, e_ai, e_aj, e_aq, e_an, e_nth, e_to, e_sw, e_cmp, k_c, k_n, k_f, k_v, k_lg, ↓reduceIte, reduceCtorEq, Nat.reduceAdd, Nat.reduceSub, Nat.reduceMul, Nat.reduceEqDiff, Nat.reduceLT, Nat.reduceLeDiff, Int.reduceAdd, Int.reduceSub, Int.reduceNeg, Int.reduceLE, Int.reduceLT, Int.reduceToNat, Int.reduceEq, Int.cast_ofNat_Int, List.mem_cons, List.not_mem_nil, List.length_cons, List.length_nil, List.set_cons_zero, List.set_cons_succ, List.toList_toArray, eq_self, true_and, and_true, and_self, or_true, true_or, false_or, or_false, or_self, not_true_eq_false, not_false_eq_true, Classical.not_not, true_implies, false_implies, implies_true, forall_const, and_false, false_and, e_up_e, va_rf_s, va_rf_n, Nat.le_refl, Nat.zero_le, Bool.false_eq_true, lv_args, DX2_init_0, FLX2, LDX2, e_up, n1', n0', hG, dfX2]
  refine aX2_init_20 C (by decide) (show ((4 : Int32)).toNatClampNeg = 4 by decide) (by decide) (by decide) (fun t2 h2 => ?_)
  have n2 : ¬ t2 = a := fun z => by rw [z, e_up_1] at h2; cases h2
  have n2' : ¬ a = t2 := fun z => n2 z.symm
  refine runX2_init C Rt [] 20 ?_
  simp only [e_go, e_1, e_op, e_pi, e_pl, e_pr, e_p0, e_li, e_ll, e_lr, e_lk, e_ins, e_rm, e_ob, e_ai, e_aj, e_aq, e_an, e_nth, e_to, e_sw, e_cmp, k_c, k_n, k_f, k_v, k_lg, ↓reduceIte, reduceCtorEq, Nat.reduceAdd, Nat.reduceSub, Nat.reduceMul, Nat.reduceEqDiff, Nat.reduceLT, Nat.reduceLeDiff, Int.reduceAdd, Int.reduceSub, Int.reduceNeg, Int.reduceLE, Int.reduceLT, Int.reduceToNat, Int.reduceEq, Int.cast_ofNat_Int, List.mem_cons, List.not_mem_nil, List.length_cons, List.length_nil, List.set_cons_zero, List.set_cons_succ, List.toList_toArray, eq_self, true_and, and_true, and_self, or_true, true_or, false_or, or_false, or_self, not_true_eq_false, not_false_eq_true, Classical.not_not, true_implies, false_implies, implies_true, forall_const, and_false, false_and, e_up_e, va_rf_s, va_rf_n, Nat.le_refl, Nat.zero_le, Bool.false_eq_true, lv_args, DX2_init_0, FLX2, LDX2, e_up, n2', hG, dfX2]
  refine aX2_init_27 C (by decide) (show ((3 : Int32)).toNatClampNeg = 3 by decide) (by decide) (by decide) (fun t3 h3 => ?_)
  have n3 : ¬ t3 = a := fun z => by rw [z, e_up_1] at h3; cases h3
  have n3' : ¬ a = t3 := fun z => n3 z.symm
  refine runX2_init C Rt [] 20 ?_
  simp only [e_go, e_1, e_op, e_pi, e_pl, e_pr, e_p0, e_li, e_ll, e_lr, e_lk, e_ins, e_rm, e_ob, e_ai, e_aj, e_aq, e_an, e_nth, e_to, e_sw, e_cmp, k_c, k_n, k_f, k_v, k_lg, ↓reduceIte, reduceCtorEq, Nat.reduceAdd, Nat.reduceSub, Nat.reduceMul, Nat.reduceEqDiff, Nat.reduceLT, Nat.reduceLeDiff, Int.reduceAdd, Int.reduceSub, Int.reduceNeg, Int.reduceLE, Int.reduceLT, Int.reduceToNat, Int.reduceEq, Int.cast_ofNat_Int, List.mem_cons, List.not_mem_nil, List.length_cons, List.length_nil, List.set_cons_zero, List.set_cons_succ, List.toList_toArray, eq_self, true_and, and_true, and_self, or_true, true_or, false_or, or_false, or_self, not_true_eq_false, not_false_eq_true, Classical.not_not, true_implies, false_implies, implies_true, forall_const, and_false, false_and, e_up_e, va_rf_s, va_rf_n, Nat.le_refl, Nat.zero_le, Bool.false_eq_true, lv_args, DX2_init_0, FLX2, LDX2, e_up, n3', hG, dfX2]
  have hw := nw_set (a := a) (c := .inr (4, fcel t0 t1 t2 t3)) (nw_new (c := z3) (nw_set (a := a) (c := .inr (4, [.int 0, .long 0, .int 0, .int 0, .int 0, .ref t0, .ref t1, .ref t2, .int 0, .null])) (nw_new (c := z4) (nw_set (a := a) (c := .inr (4, [.int 0, .long 0, .int 0, .int 0, .int 0, .ref t0, .ref t1, .null, .int 0, .null])) w1 rfl) h2 n2) rfl) h3 n3) rfl
  have hd := hw.1
  simp only [List.nodup_cons, List.mem_cons, List.not_mem_nil, or_false, not_or] at hd
  refine ⟨t0, t1, t2, t3, hw, e_up_1, ?_, ?_, ?_, ?_⟩
  · rw [e_up_2 n0, e_up_2 (fun z => hd.1.2.2 z.symm), e_up_2 n0, e_up_2 (fun z => hd.2.1.2 z.symm), e_up_2 n0, e_up_2 (fun z => hd.2.2.1 z.symm), e_up_2 n0, e_up_1]
    rfl
  · rw [e_up_2 n1, e_up_2 (fun z => hd.1.2.1 z.symm), e_up_2 n1, e_up_2 (fun z => hd.2.1.1 z.symm), e_up_2 n1, e_up_1]
    rfl
  · rw [e_up_2 n2, e_up_2 (fun z => hd.1.1 z.symm), e_up_2 n2, e_up_1]
    rfl
  · rw [e_up_2 n3, e_up_1]
    rfl
