/-! the start: its heap is its state -/
theorem arrV_ext {c : ClassId} {n : Nat} {f g : Nat → Value} (h : ∀ j, j < n → f j = g j) : arrV c n f = arrV c n g := by
  unfold arrV
  have e : (fun j : Fin n => f j.val) = (fun j : Fin n => g j.val) := funext fun j => h j.val j.isLt
  rw [e]
def adTT (A : pA) (T : List pTy) : Prop := ∀ q ∈ T, ad A q.1.1 q.1.2 = q.2.1
def okTT (A : pA) (T : List pTy) : Prop := ∀ q ∈ T, okc A q
theorem adTT_c {A : pA} {q : pTy} {T : List pTy} (h : adTT A (q :: T)) : ad A q.1.1 q.1.2 = q.2.1 ∧ adTT A T := List.forall_mem_cons.mp h
theorem adTT_a {A : pA} {T U : List pTy} (h : adTT A (T ++ U)) : adTT A T ∧ adTT A U := List.forall_mem_append.mp h
theorem okTT_n {A : pA} : okTT A [] := fun _ h => absurd h List.not_mem_nil
theorem okTT_c {A : pA} {q : pTy} {T : List pTy} (h : okc A q) (h2 : okTT A T) : okTT A (q :: T) := List.forall_mem_cons.mpr ⟨h, h2⟩
theorem okTT_a {A : pA} {T U : List pTy} (h : okTT A T) (h2 : okTT A U) : okTT A (T ++ U) := List.forall_mem_append.mpr ⟨h, h2⟩
theorem ck_32_0 {A : pA} {x : Nat} : okc A ((32, 0), (x, .inl (0, 16, .inl (fun _ => 0)))) := okc_e rfl
theorem ck_33_0 {A : pA} {x : Nat} : okc A ((33, 0), (x, .inl (0, 16, .inl (fun _ => 0)))) := okc_e rfl
theorem ck_35_0 {A : pA} {x : Nat} : okc A ((35, 0), (x, .inl (0, 60, .inl (fun _ => 0)))) := okc_e rfl
theorem ck_36_0 {A : pA} {x : Nat} : okc A ((36, 0), (x, .inl (1, 60, .inr (.inl (fun _ => 0))))) := okc_e rfl
theorem ck_37_0 {A : pA} {x : Nat} : okc A ((37, 0), (x, .inl (0, 60, .inl (fun _ => 0)))) := okc_e rfl
theorem ck_38_0 {A : pA} {x : Nat} : okc A ((38, 0), (x, .inl (0, 240, .inl (fun _ => 0)))) := okc_e rfl
theorem ck_39_0 {A : pA} {x : Nat} : okc A ((39, 0), (x, .inl (0, 240, .inl (fun _ => 0)))) := okc_e rfl
theorem ck_40_0 {A : pA} {x : Nat} : okc A ((40, 0), (x, .inl (0, 240, .inl (fun _ => 0)))) := okc_e rfl
theorem ck_41_0 {A : pA} {x : Nat} : okc A ((41, 0), (x, .inl (0, 60, .inl (fun _ => 0)))) := okc_e rfl
theorem ck_42_0 {A : pA} {x : Nat} : okc A ((42, 0), (x, .inl (0, 180, .inl (fun _ => 0)))) := okc_e rfl
theorem ck_43_0 {A : pA} {x : Nat} : okc A ((43, 0), (x, .inl (2, 60, .inl (fun _ => 0)))) := okc_e rfl
theorem ck_44_0 {A : pA} {x : Nat} : okc A ((44, 0), (x, .inl (2, 60, .inl (fun _ => 0)))) := okc_e rfl
theorem ck_46_0 {A : pA} {x : Nat} : okc A ((46, 0), (x, .inl (0, 4, .inl (fun _ => 0)))) := okc_e rfl
theorem ck_48_0 {A : pA} {x : Nat} : okc A ((48, 0), (x, .inl (0, 3, .inl (fun _ => 0)))) := okc_e rfl
theorem ck_50_0 {A : pA} {x : Nat} : okc A ((50, 0), (x, .inl (2, 60, .inl (fun _ => 0)))) := okc_e rfl
theorem ck_51_0 {A : pA} {x : Nat} : okc A ((51, 0), (x, .inl (2, 60, .inl (fun _ => 0)))) := okc_e rfl
theorem ck_52_0 {A : pA} {x : Nat} : okc A ((52, 0), (x, .inl (0, 3532, .inl (fun _ => 0)))) := okc_e rfl
theorem ck_58_0 {A : pA} {x : Nat} : okc A ((58, 0), (x, .inl (0, 2, .inl (fun _ => 0)))) := okc_e rfl
theorem ck_60_0 {A : pA} {x : Nat} : okc A ((60, 0), (x, .inl (0, 4000, .inl (fun _ => 0)))) := okc_e rfl
theorem ck_62_0 {A : pA} {x : Nat} : okc A ((62, 0), (x, .inl (0, 60, .inl (fun _ => 0)))) := okc_e rfl
theorem ck_68_0 {A : pA} {x : Nat} : okc A ((68, 0), (x, .inl (0, 4000, .inl (fun _ => 0)))) := okc_e rfl
theorem ck_71_0 {A : pA} {x : Nat} : okc A ((71, 0), (x, .inl (0, 4000, .inl (fun _ => 0)))) := okc_e rfl
theorem ck_2_0 {A : pA} {x : Nat} : okc A ((2, 0), (x, zA 16)) := okc_e rfl
theorem ck_3_0 {A : pA} {x : Nat} : okc A ((3, 0), (x, zA 16)) := okc_e rfl
theorem ck_12_0 {A : pA} {x : Nat} : okc A ((12, 0), (x, zA 3532)) := okc_e rfl
theorem ck_13_0 {A : pA} {x : Nat} : okc A ((13, 0), (x, .inl (0, 2, .inl wrF))) := okc_e rfl
theorem ck_14_0 {A : pA} {x : Nat} : okc A ((14, 0), (x, .inl (0, 60, .inl (owF 60)))) := okc_e rfl
theorem ck_15_0 {A : pA} {x : Nat} : okc A ((15, 0), (x, zA 61)) := okc_e rfl
theorem ck_16_0 {A : pA} {x : Nat} : okc A ((16, 0), (x, zL 61)) := okc_e rfl
theorem ck_19_0 {A : pA} {x : Nat} : okc A ((19, 0), (x, zA 60)) := okc_e rfl
theorem ck_21_0 {A : pA} {x : Nat} : okc A ((21, 0), (x, zA 4000)) := okc_e rfl
theorem ck_22_0 {A : pA} {x : Nat} : okc A ((22, 0), (x, zA 0)) := okc_e rfl
theorem ck_23_0 {A : pA} {x : Nat} : okc A ((23, 0), (x, zA 0)) := okc_e rfl
theorem ck_80_0 {A : pA} {x : Nat} : okc A ((80, 0), (x, zL 1)) := okc_e rfl
theorem ck_21_1 {A : pA} {x : Nat} : okc A ((21, 1), (x, zA 4000)) := okc_e rfl
theorem ck_7 {A : pA} {x m : Nat} : okc A ((7, m), (x, z4)) := okc_e rfl
theorem ck_8 {A : pA} {x m : Nat} : okc A ((8, m), (x, z4)) := okc_e rfl
theorem ck_9 {A : pA} {x m : Nat} : okc A ((9, m), (x, z4)) := okc_e rfl
theorem ck_10 {A : pA} {x m : Nat} : okc A ((10, m), (x, z3)) := okc_e rfl
theorem ck_1 {A : pA} {x : Nat} {p q : Nat} (h0 : ad A 2 0 = p) (h1 : ad A 3 0 = q) : okc A ((1, 0), (x, .inr (7, [.ref p, .ref q]))) := by
  rw [← h0, ← h1]
  exact okc_e rfl
theorem ck_4 {A : pA} {x : Nat} {p q : Nat} (h0 : ad A 5 0 = p) (h1 : ad A 6 60 = q) : okc A ((4, 0), (x, .inr (2, [.ref p, .int 0, .ref q]))) := by
  rw [← h0, ← h1]
  exact okc_e rfl
theorem ck_6 {A : pA} {x : Nat} {m p q r s : Nat} (h0 : ad A 7 m = p) (h1 : ad A 8 m = q) (h2 : ad A 9 m = r) (h3 : ad A 10 m = s) : okc A ((6, m), (x, .inr (4, fcel p q r s))) := by
  rw [← h0, ← h1, ← h2, ← h3]
  exact okc_e rfl
theorem ck_11 {A : pA} {x : Nat} {p q r s t : Nat} (h0 : ad A 12 0 = p) (h1 : ad A 13 0 = q) (h2 : ad A 14 0 = r) (h3 : ad A 15 0 = s) (h4 : ad A 16 0 = t) : okc A ((11, 0), (x, .inr (3, dkL p q r s t))) := by
  rw [← h0, ← h1, ← h2, ← h3, ← h4]
  exact okc_e rfl
theorem ck_17 {A : pA} {x : Nat} {p : Nat} (h0 : ad A 22 0 = p) : okc A ((17, 0), (x, .inr (6, [.int 0, .int 0, .long 0, .int 0, .ref p]))) := by
  rw [← h0]
  exact okc_e rfl
theorem ck_18 {A : pA} {x : Nat} {p : Nat} (h0 : ad A 23 0 = p) : okc A ((18, 0), (x, .inr (8, [.int 0, .int 0, .int 0, .long 0, .ref p]))) := by
  rw [← h0]
  exact okc_e rfl
theorem ck_20 {A : pA} {x : Nat} {p : Nat} (h0 : ad A 21 0 = p) : okc A ((20, 0), (x, .inr (5, [.int 0, .int 0, .ref p]))) := by
  rw [← h0]
  exact okc_e rfl
theorem ck_20b {A : pA} {x : Nat} {p : Nat} (h0 : ad A 21 1 = p) : okc A ((20, 1), (x, .inr (5, [.int 0, .int 0, .ref p]))) := by
  rw [← h0]
  exact okc_e rfl
theorem ck_0 {A : pA} {x : Nat} {q0 q1 q2 q3 q4 q5 q6 q7 q8 : Nat} (h0 : ad A 1 0 = q0) (h1 : ad A 4 0 = q1) (h2 : ad A 6 61 = q2) (h3 : ad A 11 0 = q3) (h4 : ad A 17 0 = q4) (h5 : ad A 18 0 = q5) (h6 : ad A 19 0 = q6) (h7 : ad A 20 0 = q7) (h8 : ad A 20 1 = q8) : okc A ((0, 0), (x, .inr (9, [.ref q0, .ref q1, .ref q2, .ref q3, .ref q4, .ref q5, .ref q6, .ref q7, .ref q8]))) := by
  rw [← h0, ← h1, ← h2, ← h3, ← h4, ← h5, ← h6, ← h7, ← h8]
  exact okc_e rfl
theorem ck_30 {A : pA} {x : Nat} {t0 t1 t2 t3 t4 t5 t6 t7 t8 t9 t10 t11 t12 t13 t14 t15 t16 t17 t18 t19 t20 t21 : Nat} (h0 : ad A 32 0 = t0) (h1 : ad A 33 0 = t1) (h2 : ad A 35 0 = t2) (h3 : ad A 36 0 = t3) (h4 : ad A 37 0 = t4) (h5 : ad A 38 0 = t5) (h6 : ad A 39 0 = t6) (h7 : ad A 40 0 = t7) (h8 : ad A 41 0 = t8) (h9 : ad A 42 0 = t9) (h10 : ad A 43 0 = t10) (h11 : ad A 44 0 = t11) (h12 : ad A 46 0 = t12) (h13 : ad A 48 0 = t13) (h14 : ad A 50 0 = t14) (h15 : ad A 51 0 = t15) (h16 : ad A 52 0 = t16) (h17 : ad A 58 0 = t17) (h18 : ad A 60 0 = t18) (h19 : ad A 62 0 = t19) (h20 : ad A 68 0 = t20) (h21 : ad A 71 0 = t21) : okc A ((30, 0), (x, .inr (10, f8 t0 t1 t2 t3 t4 t5 t6 t7 t8 t9 t10 t11 t12 t13 t14 t15 t16 t17 t18 t19 t20 t21))) := by
  rw [← h0, ← h1, ← h2, ← h3, ← h4, ← h5, ← h6, ← h7, ← h8, ← h9, ← h10, ← h11, ← h12, ← h13, ← h14, ← h15, ← h16, ← h17, ← h18, ← h19, ← h20, ← h21]
  exact okc_e rfl
theorem ck_5 {A : pA} {rl : List pF5} {x : Nat} (h : ∀ j, j < 60 → afF rl j = some (ad A 6 j)) : okc A ((5, 0), (x, fary (afF rl))) := by
  have e : ce A S0 5 0 = fary (fun j => some (ad A 6 j)) := rfl
  intro D cs H hx
  show va_at D vwCl (x, e_va cs (ce A S0 5 0)) H
  rw [e]
  have hx : H[x]? = some (arrV (cs 3) 60 (fun j => va_rf (afF rl j))) := hx
  show H[x]? = some (arrV (cs 3) 60 (fun j => va_rf (some (ad A 6 j))))
  rw [hx, arrV_ext (fun j hj => by rw [h j hj])]
theorem entT_6 {m : Nat} {e : pF5} : ((6, m), (e.1, .inr (4, fcel e.2.1 e.2.2.1 e.2.2.2.1 e.2.2.2.2))) ∈ entT m e := by
  unfold entT
  simp only [List.mem_cons, true_or, or_true]
theorem entT_ok {A : pA} {m : Nat} {e : pF5} (h : adTT A (entT m e)) : okTT A (entT m e) := by
  unfold entT at h ⊢
  obtain ⟨h1, h⟩ := adTT_c h
  obtain ⟨h2, h⟩ := adTT_c h
  obtain ⟨h3, h⟩ := adTT_c h
  obtain ⟨h4, h⟩ := adTT_c h
  exact okTT_c ck_10 (okTT_c ck_9 (okTT_c ck_8 (okTT_c ck_7 (okTT_c (ck_6 h4 h3 h2 h1) okTT_n))))
theorem trl_ok : ∀ {A : pA} {rl : List pF5}, adTT A (trl rl) → okTT A (trl rl)
  | _, [], _ => okTT_n
  | A, e :: rl, h => by
    have h : adTT A (entT rl.length e ++ trl rl) := h
    show okTT A (entT rl.length e ++ trl rl)
    exact okTT_a (entT_ok (adTT_a h).1) (trl_ok (adTT_a h).2)
theorem trl_ad {A : pA} {rl : List pF5} (hl : rl.length = 60) (h : adTT A (trl rl)) : ∀ j, j < 60 → afF rl j = some (ad A 6 j) := by
  intro j hj
  obtain ⟨e, h7, h8⟩ := trl_af (rl := rl) (m := j) (by rw [hl]; exact hj)
  have h9 : ad A 6 j = e.1 := h _ (h8 _ entT_6)
  rw [h7, h9]
theorem tb8_ok {A : pA} {t0 t1 t2 t3 t4 t5 t6 t7 t8 t9 t10 t11 t12 t13 t14 t15 t16 t17 t18 t19 t20 t21 : Nat} : okTT A (tb8 t0 t1 t2 t3 t4 t5 t6 t7 t8 t9 t10 t11 t12 t13 t14 t15 t16 t17 t18 t19 t20 t21) := okTT_c ck_71_0 <| okTT_c ck_68_0 <| okTT_c ck_62_0 <| okTT_c ck_60_0 <| okTT_c ck_58_0 <| okTT_c ck_52_0 <| okTT_c ck_51_0 <| okTT_c ck_50_0 <| okTT_c ck_48_0 <| okTT_c ck_46_0 <| okTT_c ck_44_0 <| okTT_c ck_43_0 <| okTT_c ck_42_0 <| okTT_c ck_41_0 <| okTT_c ck_40_0 <| okTT_c ck_39_0 <| okTT_c ck_38_0 <| okTT_c ck_37_0 <| okTT_c ck_36_0 <| okTT_c ck_35_0 <| okTT_c ck_33_0 <| okTT_c ck_32_0 <| okTT_n
theorem ck_30b {A : pA} {x t0 t1 t2 t3 t4 t5 t6 t7 t8 t9 t10 t11 t12 t13 t14 t15 t16 t17 t18 t19 t20 t21 : Nat} (h : adTT A (tb8 t0 t1 t2 t3 t4 t5 t6 t7 t8 t9 t10 t11 t12 t13 t14 t15 t16 t17 t18 t19 t20 t21)) : okc A ((30, 0), (x, .inr (10, f8 t0 t1 t2 t3 t4 t5 t6 t7 t8 t9 t10 t11 t12 t13 t14 t15 t16 t17 t18 t19 t20 t21))) := by
  obtain ⟨h21, h⟩ := adTT_c h
  obtain ⟨h20, h⟩ := adTT_c h
  obtain ⟨h19, h⟩ := adTT_c h
  obtain ⟨h18, h⟩ := adTT_c h
  obtain ⟨h17, h⟩ := adTT_c h
  obtain ⟨h16, h⟩ := adTT_c h
  obtain ⟨h15, h⟩ := adTT_c h
  obtain ⟨h14, h⟩ := adTT_c h
  obtain ⟨h13, h⟩ := adTT_c h
  obtain ⟨h12, h⟩ := adTT_c h
  obtain ⟨h11, h⟩ := adTT_c h
  obtain ⟨h10, h⟩ := adTT_c h
  obtain ⟨h9, h⟩ := adTT_c h
  obtain ⟨h8, h⟩ := adTT_c h
  obtain ⟨h7, h⟩ := adTT_c h
  obtain ⟨h6, h⟩ := adTT_c h
  obtain ⟨h5, h⟩ := adTT_c h
  obtain ⟨h4, h⟩ := adTT_c h
  obtain ⟨h3, h⟩ := adTT_c h
  obtain ⟨h2, h⟩ := adTT_c h
  obtain ⟨h1, h⟩ := adTT_c h
  obtain ⟨h0, h⟩ := adTT_c h
  exact ck_30 h0 h1 h2 h3 h4 h5 h6 h7 h8 h9 h10 h11 h12 h13 h14 h15 h16 h17 h18 h19 h20 h21
theorem tb7_ok {A : pA} {a b0 t00 t01 b1 arr b3 d0 d1 d2 d3 d4 b4 t40 b5 t50 pn b7 t70 b8 t80 : Nat} {e60 : pF5} {rl : List pF5} {e61 : pF5} (hl : rl.length = 60) (h : adTT A (tb7 a b0 t00 t01 b1 arr b3 d0 d1 d2 d3 d4 b4 t40 b5 t50 pn b7 t70 b8 t80 e60 rl e61)) : okTT A (tb7 a b0 t00 t01 b1 arr b3 d0 d1 d2 d3 d4 b4 t40 b5 t50 pn b7 t70 b8 t80 e60 rl e61) := by
  unfold tb7 at h ⊢
  obtain ⟨g1, h⟩ := adTT_a h
  obtain ⟨g2, h⟩ := adTT_a h
  obtain ⟨g3, h⟩ := adTT_c h
  obtain ⟨g4, h⟩ := adTT_a h
  obtain ⟨g5, h⟩ := adTT_a h
  obtain ⟨g6, h⟩ := adTT_a h
  obtain ⟨g7, h⟩ := adTT_a h
  obtain ⟨g8, h⟩ := adTT_a h
  obtain ⟨g9, g10⟩ := adTT_a h
  obtain ⟨g81, g82⟩ := adTT_a g8
  obtain ⟨gr, g83⟩ := adTT_a g81
  obtain ⟨g60, g84⟩ := adTT_a g83
  obtain ⟨k21b, g1⟩ := adTT_c g1
  obtain ⟨k20b, -⟩ := adTT_c g1
  obtain ⟨k21, g2⟩ := adTT_c g2
  obtain ⟨k20, -⟩ := adTT_c g2
  obtain ⟨k23, g4⟩ := adTT_c g4
  obtain ⟨k18, -⟩ := adTT_c g4
  obtain ⟨k22, g5⟩ := adTT_c g5
  obtain ⟨k17, -⟩ := adTT_c g5
  obtain ⟨k16, g6⟩ := adTT_c g6
  obtain ⟨k15, g6⟩ := adTT_c g6
  obtain ⟨k14, g6⟩ := adTT_c g6
  obtain ⟨k13, g6⟩ := adTT_c g6
  obtain ⟨k12, g6⟩ := adTT_c g6
  obtain ⟨k11, -⟩ := adTT_c g6
  have k661 : ad A 6 61 = e61.1 := g7 _ entT_6
  have k660 : ad A 6 60 = e60.1 := g60 _ entT_6
  obtain ⟨k5, -⟩ := adTT_c g84
  obtain ⟨k4, -⟩ := adTT_c g82
  obtain ⟨k3, g9⟩ := adTT_c g9
  obtain ⟨k2, g9⟩ := adTT_c g9
  obtain ⟨k1, -⟩ := adTT_c g9
  refine okTT_a (okTT_c ck_21_1 (okTT_c (ck_20b k21b) okTT_n)) ?_
  refine okTT_a (okTT_c ck_21_0 (okTT_c (ck_20 k21) okTT_n)) ?_
  refine okTT_c ck_19_0 ?_
  refine okTT_a (okTT_c ck_23_0 (okTT_c (ck_18 k23) okTT_n)) ?_
  refine okTT_a (okTT_c ck_22_0 (okTT_c (ck_17 k22) okTT_n)) ?_
  refine okTT_a (okTT_c ck_16_0 (okTT_c ck_15_0 (okTT_c ck_14_0 (okTT_c ck_13_0 (okTT_c ck_12_0 (okTT_c (ck_11 k12 k13 k14 k15 k16) okTT_n)))))) ?_
  refine okTT_a (entT_ok g7) ?_
  refine okTT_a (okTT_a (okTT_a (trl_ok gr) (okTT_a (entT_ok g60) (okTT_c (ck_5 (trl_ad hl gr)) okTT_n))) (okTT_c (ck_4 k5 k660) okTT_n)) ?_
  exact okTT_a (okTT_c ck_3_0 (okTT_c ck_2_0 (okTT_c (ck_1 k2 k3) okTT_n))) (okTT_c (ck_0 k1 k4 k661 k11 k17 k18 g3 k20 k20b) okTT_n)
def tbA (a a2 a3 b0 t00 t01 b1 arr b3 d0 d1 d2 d3 d4 b4 t40 b5 t50 pn b7 t70 b8 t80 t0 t1 t2 t3 t4 t5 t6 t7 t8 t9 t10 t11 t12 t13 t14 t15 t16 t17 t18 t19 t20 t21 : Nat) (e60 : pF5) (rl : List pF5) (e61 : pF5) : List pTy := ((80, 0), (a3, zL 1)) :: (tb8 t0 t1 t2 t3 t4 t5 t6 t7 t8 t9 t10 t11 t12 t13 t14 t15 t16 t17 t18 t19 t20 t21 ++ (((30, 0), (a2, .inr (10, f8 t0 t1 t2 t3 t4 t5 t6 t7 t8 t9 t10 t11 t12 t13 t14 t15 t16 t17 t18 t19 t20 t21))) :: tb7 a b0 t00 t01 b1 arr b3 d0 d1 d2 d3 d4 b4 t40 b5 t50 pn b7 t70 b8 t80 e60 rl e61))
theorem tbA_1 {a a2 a3 b0 t00 t01 b1 arr b3 d0 d1 d2 d3 d4 b4 t40 b5 t50 pn b7 t70 b8 t80 t0 t1 t2 t3 t4 t5 t6 t7 t8 t9 t10 t11 t12 t13 t14 t15 t16 t17 t18 t19 t20 t21 : Nat} {e60 : pF5} {rl : List pF5} {e61 : pF5} (hl : rl.length = 60) : (tbA a a2 a3 b0 t00 t01 b1 arr b3 d0 d1 d2 d3 d4 b4 t40 b5 t50 pn b7 t70 b8 t80 t0 t1 t2 t3 t4 t5 t6 t7 t8 t9 t10 t11 t12 t13 t14 t15 t16 t17 t18 t19 t20 t21 e60 rl e61).map (fun q => q.1) = rolA := by
  unfold tbA rolA rol8
  simp only [List.map_append, List.map_cons, List.map_nil, t7_1, hl]
  all_goals rfl
theorem tbA_2 {a a2 a3 b0 t00 t01 b1 arr b3 d0 d1 d2 d3 d4 b4 t40 b5 t50 pn b7 t70 b8 t80 t0 t1 t2 t3 t4 t5 t6 t7 t8 t9 t10 t11 t12 t13 t14 t15 t16 t17 t18 t19 t20 t21 : Nat} {e60 : pF5} {rl : List pF5} {e61 : pF5} : (tbA a a2 a3 b0 t00 t01 b1 arr b3 d0 d1 d2 d3 d4 b4 t40 b5 t50 pn b7 t70 b8 t80 t0 t1 t2 t3 t4 t5 t6 t7 t8 t9 t10 t11 t12 t13 t14 t15 t16 t17 t18 t19 t20 t21 e60 rl e61).map (fun q => q.2) = (a3, zL 1) :: (l8 t0 t1 t2 t3 t4 t5 t6 t7 t8 t9 t10 t11 t12 t13 t14 t15 t16 t17 t18 t19 t20 t21 ++ ((a2, .inr (10, f8 t0 t1 t2 t3 t4 t5 t6 t7 t8 t9 t10 t11 t12 t13 t14 t15 t16 t17 t18 t19 t20 t21)) :: (flE b0 t00 t01 b1 arr e60 rl e61 b3 d0 d1 d2 d3 d4 b4 t40 b5 t50 pn b7 t70 b8 t80 ++ [(a, .inr (9, fgL b0 t00 t01 b1 arr e60 rl e61 b3 d0 d1 d2 d3 d4 b4 t40 b5 t50 pn b7 t70 b8 t80))]))) := by
  unfold tbA
  simp only [List.map_append, List.map_cons, List.map_nil, t7_2]
  all_goals rfl
theorem tbA_ok {A : pA} {a a2 a3 b0 t00 t01 b1 arr b3 d0 d1 d2 d3 d4 b4 t40 b5 t50 pn b7 t70 b8 t80 t0 t1 t2 t3 t4 t5 t6 t7 t8 t9 t10 t11 t12 t13 t14 t15 t16 t17 t18 t19 t20 t21 : Nat} {e60 : pF5} {rl : List pF5} {e61 : pF5} (hl : rl.length = 60) (h : adTT A (tbA a a2 a3 b0 t00 t01 b1 arr b3 d0 d1 d2 d3 d4 b4 t40 b5 t50 pn b7 t70 b8 t80 t0 t1 t2 t3 t4 t5 t6 t7 t8 t9 t10 t11 t12 t13 t14 t15 t16 t17 t18 t19 t20 t21 e60 rl e61)) : okTT A (tbA a a2 a3 b0 t00 t01 b1 arr b3 d0 d1 d2 d3 d4 b4 t40 b5 t50 pn b7 t70 b8 t80 t0 t1 t2 t3 t4 t5 t6 t7 t8 t9 t10 t11 t12 t13 t14 t15 t16 t17 t18 t19 t20 t21 e60 rl e61) := by
  unfold tbA at h ⊢
  obtain ⟨-, h⟩ := adTT_c h
  obtain ⟨h8, h⟩ := adTT_a h
  obtain ⟨-, h7⟩ := adTT_c h
  exact okTT_c ck_80_0 (okTT_a tb8_ok (okTT_c (ck_30b h8) (tb7_ok hl h7)))
theorem tbA_0 {A : pA} {a a2 a3 b0 t00 t01 b1 arr b3 d0 d1 d2 d3 d4 b4 t40 b5 t50 pn b7 t70 b8 t80 t0 t1 t2 t3 t4 t5 t6 t7 t8 t9 t10 t11 t12 t13 t14 t15 t16 t17 t18 t19 t20 t21 : Nat} {e60 : pF5} {rl : List pF5} {e61 : pF5} (h : adTT A (tbA a a2 a3 b0 t00 t01 b1 arr b3 d0 d1 d2 d3 d4 b4 t40 b5 t50 pn b7 t70 b8 t80 t0 t1 t2 t3 t4 t5 t6 t7 t8 t9 t10 t11 t12 t13 t14 t15 t16 t17 t18 t19 t20 t21 e60 rl e61)) : ad A 0 0 = a ∧ ad A 30 0 = a2 ∧ ad A 80 0 = a3 := by
  unfold tbA tb7 at h
  obtain ⟨k80, h⟩ := adTT_c h
  obtain ⟨-, h⟩ := adTT_a h
  obtain ⟨k30, h⟩ := adTT_c h
  have h := (adTT_a (adTT_a (adTT_a (adTT_a (adTT_a (adTT_a (adTT_c (adTT_a (adTT_a h).2).2).2).2).2).2).2).2).2
  exact ⟨(adTT_c h).1, k30, k80⟩
theorem gS_start {G : pH} {a a2 a3 b0 t00 t01 b1 arr b3 d0 d1 d2 d3 d4 b4 t40 b5 t50 pn b7 t70 b8 t80 t0 t1 t2 t3 t4 t5 t6 t7 t8 t9 t10 t11 t12 t13 t14 t15 t16 t17 t18 t19 t20 t21 : Nat} {e60 : pF5} {rl : List pF5} {e61 : pF5} (hl : rl.length = 60) (hn : nwA G ((a3, zL 1) :: (l8 t0 t1 t2 t3 t4 t5 t6 t7 t8 t9 t10 t11 t12 t13 t14 t15 t16 t17 t18 t19 t20 t21 ++ ((a2, .inr (10, f8 t0 t1 t2 t3 t4 t5 t6 t7 t8 t9 t10 t11 t12 t13 t14 t15 t16 t17 t18 t19 t20 t21)) :: (flE b0 t00 t01 b1 arr e60 rl e61 b3 d0 d1 d2 d3 d4 b4 t40 b5 t50 pn b7 t70 b8 t80 ++ [(a, .inr (9, fgL b0 t00 t01 b1 arr e60 rl e61 b3 d0 d1 d2 d3 d4 b4 t40 b5 t50 pn b7 t70 b8 t80))]))))) : ∃ A : pA, ad A 0 0 = a ∧ ad A 30 0 = a2 ∧ ad A 80 0 = a3 ∧ ∀ D cs base H, e_H D cs base G H → e_H D cs base (gS A S0) H := by
  rw [← tbA_2] at hn
  have h1 := tbA_1 (a := a) (a2 := a2) (a3 := a3) (b0 := b0) (t00 := t00) (t01 := t01) (b1 := b1) (arr := arr) (b3 := b3) (d0 := d0) (d1 := d1) (d2 := d2) (d3 := d3) (d4 := d4) (b4 := b4) (t40 := t40) (b5 := b5) (t50 := t50) (pn := pn) (b7 := b7) (t70 := t70) (b8 := b8) (t80 := t80) (t0 := t0) (t1 := t1) (t2 := t2) (t3 := t3) (t4 := t4) (t5 := t5) (t6 := t6) (t7 := t7) (t8 := t8) (t9 := t9) (t10 := t10) (t11 := t11) (t12 := t12) (t13 := t13) (t14 := t14) (t15 := t15) (t16 := t16) (t17 := t17) (t18 := t18) (t19 := t19) (t20 := t20) (t21 := t21) (e60 := e60) (e61 := e61) (rl := rl) hl
  generalize hT : tbA a a2 a3 b0 t00 t01 b1 arr b3 d0 d1 d2 d3 d4 b4 t40 b5 t50 pn b7 t70 b8 t80 t0 t1 t2 t3 t4 t5 t6 t7 t8 t9 t10 t11 t12 t13 t14 t15 t16 t17 t18 t19 t20 t21 e60 rl e61 = T at hn h1
  obtain ⟨A, hA⟩ := pA_of T (by rw [h1]; exact rolA_nd) (by
    have h3 := hn.1
    rw [List.map_map] at h3
    exact h3)
  have hA2 : adTT A (tbA a a2 a3 b0 t00 t01 b1 arr b3 d0 d1 d2 d3 d4 b4 t40 b5 t50 pn b7 t70 b8 t80 t0 t1 t2 t3 t4 t5 t6 t7 t8 t9 t10 t11 t12 t13 t14 t15 t16 t17 t18 t19 t20 t21 e60 rl e61) := by rw [hT]; exact hA
  obtain ⟨k0, k30, k80⟩ := tbA_0 hA2
  refine ⟨A, k0, k30, k80, gS_ok hA (fun q hq => hn.2 q.2 (List.mem_map.mpr ⟨q, hq, rfl⟩)) ?_ (fun k i h => by rw [h1]; exact rolA_all k (dn_80 h) i h)⟩
  rw [← hT]
  exact tbA_ok hl hA2
