/-! the reference: parcel -/
theorem nxt_t {d : Nat → Int32} {e : Nat} {m : Int32} {ρ : pR} (h : ρ.2.1 = true) : nxt d e m ρ = (0, ρ) := by
  obtain ⟨p, f, σ⟩ := ρ
  have h : f = true := h
  subst h
  simp [nxt]
theorem num_t {d : Nat → Int32} {e : Nat} {ρ : pR} (h : ρ.2.1 = true) : ∀ {k : Nat} {v : Int64}, (num d e k v ρ).2 = ρ
  | 0, _ => rfl
  | k + 1, v => by
    unfold num
    rw [nxt_t h]
    exact num_t h
theorem unl_t {d : Nat → Int32} {e n : Nat} {m : Int32} {f : Nat → Int32} {ρ : pR} (h : ρ.2.1 = true) : (unl d e m f n ρ).2 = ρ := by
  obtain ⟨p, g, σ⟩ := ρ
  have h : g = true := h
  subst h
  unfold unl
  split <;> rw [nxt_t rfl]
theorem pT_t {d : Nat → Int32} {e : Nat} {ρ : pR} (h : ρ.2.1 = true) : ∀ {k t : Nat} {th dt ct : Nat → Int32}, pT d e k t th dt ct ρ = (t, th, dt, ct, ρ)
  | 0, _, _, _, _ => rfl
  | k + 1, t, th, dt, ct => by
    unfold pT
    rw [if_pos h]
theorem pF_t {d : Nat → Int32} {e : Nat} {m : Int32} {ρ : pR} (h : ρ.2.1 = true) : ∀ {k t : Nat} {on : Nat → Int32}, pF d e m k t on ρ = (t, on, ρ)
  | 0, _, _ => rfl
  | k + 1, t, on => by
    unfold pF
    rw [if_pos h]
theorem nf2 {b : Bool} (h : ¬ b = true) : b = false := by cases b <;> simp at h ⊢
theorem pT_s {d : Nat → Int32} {e k t : Nat} {th dt ct : Nat → Int32} {ρ : pR} (h : ρ.2.1 = false) : pT d e (k + 1) t th dt ct ρ = pT d e k (t + 1) (upd th t (unl d e 15 th t ρ).1) (upd dt t (num d e 4 0 (unl d e 15 th t ρ).2).1.toInt32) (upd ct t (num d e 4 0 (num d e 4 0 (unl d e 15 th t ρ).2).2).1.toInt32) (num d e 4 0 (num d e 4 0 (unl d e 15 th t ρ).2).2).2 := by
  rw [pT, if_neg (by rw [h]; decide)]
theorem pF_s {d : Nat → Int32} {e k t : Nat} {m : Int32} {on : Nat → Int32} {ρ : pR} (h : ρ.2.1 = false) : pF d e m (k + 1) t on ρ = pF d e m k (t + 1) (upd on t (unl d e m on t ρ).1) (unl d e m on t ρ).2 := by
  rw [pF, if_neg (by rw [h]; decide)]
/-- what has not failed at the end hadn't before -/
theorem pT_f {d : Nat → Int32} {e : Nat} {ρ : pR} {k t : Nat} {th dt ct : Nat → Int32} (h : (pT d e k t th dt ct ρ).2.2.2.2.2.1 = false) : ρ.2.1 = false := by
  apply nf2
  intro h2
  rw [pT_t h2] at h
  rw [h2] at h
  cases h
theorem pF_f {d : Nat → Int32} {e : Nat} {m : Int32} {ρ : pR} {k t : Nat} {on : Nat → Int32} (h : (pF d e m k t on ρ).2.2.2.1 = false) : ρ.2.1 = false := by
  apply nf2
  intro h2
  rw [pF_t h2] at h
  rw [h2] at h
  cases h
theorem num_f {d : Nat → Int32} {e : Nat} {ρ : pR} {k : Nat} {v : Int64} (h : (num d e k v ρ).2.2.1 = false) : ρ.2.1 = false := by
  apply nf2
  intro h2
  rw [num_t h2] at h
  rw [h2] at h
  cases h
theorem nxt_f {d : Nat → Int32} {e : Nat} {m : Int32} {ρ : pR} (h : (nxt d e m ρ).2.2.1 = false) : ρ.2.1 = false ∧ ¬ e ≤ ρ.1 ∧ ¬ d ρ.1 < 0 ∧ ¬ m < d ρ.1 ∧ nxt d e m ρ = (d ρ.1, (ρ.1 + 1, false, sw ρ.2.2 (d ρ.1))) := by
  unfold nxt at h ⊢
  by_cases hc : ρ.2.1 = true ∨ e ≤ ρ.1 ∨ d ρ.1 < 0 ∨ m < d ρ.1
  · rw [if_pos hc] at h
    cases h
  · rw [if_neg hc]
    exact ⟨nf2 fun z => hc (Or.inl z), fun z => hc (Or.inr (Or.inl z)), fun z => hc (Or.inr (Or.inr (Or.inl z))), fun z => hc (Or.inr (Or.inr (Or.inr z))), rfl⟩
theorem unl_f {d : Nat → Int32} {e n : Nat} {m : Int32} {f : Nat → Int32} {ρ : pR} (h : (unl d e m f n ρ).2.2.1 = false) : unl d e m f n ρ = nxt d e m ρ ∧ am f (d ρ.1) n = false := by
  unfold unl at h ⊢
  by_cases hc : ρ.1 < e ∧ am f (d ρ.1) n = true
  · rw [if_pos hc, nxt_t rfl] at h
    cases h
  · rw [if_neg hc] at h ⊢
    refine ⟨rfl, nf2 fun z => hc ⟨?_, z⟩⟩
    have := (nxt_f h).2.1
    omega
/-- the reference looks for a number that was there before after it has read it, the class before -/
theorem unl_ok {d : Nat → Int32} {e n : Nat} {m : Int32} {f : Nat → Int32} {ρ : pR} {a b : Int32} (he : e ≤ 4000) (hp : ρ.1 ≤ e) (hok : okR (nxt d e m ρ).2 a b) (x : Int32) (h1 : (nxt d e m ρ).2.2.1 = false → am f (d ρ.1) n = true → x = a - 1) (h2 : (nxt d e m ρ).2.2.1 = false → am f (d ρ.1) n = false → x = b) (h3 : (nxt d e m ρ).2.2.1 = true → x = b) : okR (unl d e m f n ρ).2 a x := by
  cases hf : (nxt d e m ρ).2.2.1 with
  | true =>
    have hb := hok.2 hf
    have e1 : (nxt d e m ρ).2 = (ρ.1, true, ρ.2.2) := by
      unfold nxt at hf ⊢
      split at hf
      · rename_i hc
        rw [if_pos hc]
      · cases hf
    have e2 : (unl d e m f n ρ).2 = (ρ.1, true, ρ.2.2) := by
      unfold unl
      split
      · rw [nxt_t rfl]
      · exact e1
    rw [e2]
    rw [e1] at hb
    exact ⟨fun h => (by cases h), fun _ => by rw [h3 hf]; exact hb⟩
  | false =>
    obtain ⟨g1, g2, g3, g4, g5⟩ := nxt_f hf
    obtain ⟨ha, hb⟩ := hok.1 hf
    rw [g5] at ha
    have ha : a = nI (ρ.1 + 1) := ha
    cases hc : am f (d ρ.1) n with
    | true =>
      have e2 : (unl d e m f n ρ).2 = (ρ.1, true, ρ.2.2) := by
        unfold unl
        rw [if_pos ⟨by omega, hc⟩, nxt_t rfl]
      rw [e2]
      refine ⟨fun h => (by cases h), fun _ => ?_⟩
      rw [h1 hf hc, ha, nI_pred]
    | false =>
      have e2 : unl d e m f n ρ = nxt d e m ρ := by
        unfold unl
        rw [if_neg (by rw [hc]; simp)]
      rw [e2, g5]
      exact ⟨fun _ => ⟨ha, by rw [h2 hf hc]; exact hb⟩, fun h => by cases h⟩
theorem am_upd {th : Nat → Int32} {t : Nat} {v x : Int32} : am (upd th t v) x (t + 1) = (am th x t || decide (v = x)) := by
  show (am (upd th t v) x t || decide (upd th t v t = x)) = _
  rw [am_congr (f := upd th t v) (g := th) (fun k hk => by unfold upd; rw [if_neg (by omega)])]
  simp [upd]
/-- bits of a set of numbers of things -/
def seO (seen : Int32) (th : Nat → Int32) (j : Nat) : Prop := ∀ x, x < 16 → biI seen x = am th (nI x) j
theorem seO_0 {th : Nat → Int32} : seO 0 th 0 := fun x _ => by
  show (0 : Int32).toBitVec.getLsbD x = false
  simp
theorem seO_s {seen : Int32} {th : Nat → Int32} {j c : Nat} (h : seO seen th j) (hc : c < 16) : seO (seen ||| (1 : Int32) <<< (nI c &&& 31)) (upd th j (nI c)) (j + 1) := by
  intro x hx
  rw [biI_put (by omega), am_upd, h x hx]
  congr 1
  apply decide_eq_decide.mpr
  rw [x_eq (by omega) (by omega)]
def pz (kp : Bool) (X T : pS) : pS := if kp = true then X else T
theorem nfT_congr {T : pS} {n k : Nat} {th dt ct th2 dt2 ct2 : Nat → Int32} (h1 : ∀ j, j < k → th j = th2 j) (h2 : ∀ j, j < k → dt j = dt2 j) (h3 : ∀ j, j < k → ct j = ct2 j) : nfT T n th dt ct k = nfT T n th2 dt2 ct2 k := by
  have e : ∀ (f g : Nat → Int32) (r : Nat → Int32), (∀ j, j < k → f j = g j) → (fun j => if 4 * n ≤ j ∧ j < 4 * n + k then f (j - 4 * n) else r j) = (fun j => if 4 * n ≤ j ∧ j < 4 * n + k then g (j - 4 * n) else r j) := by
    intro f g r h
    funext j
    by_cases hj : 4 * n ≤ j ∧ j < 4 * n + k
    · rw [if_pos hj, if_pos hj, h _ (by omega)]
    · rw [if_neg hj, if_neg hj]
  unfold nfT
  rw [e th th2 _ h1, e dt dt2 _ h2, e ct ct2 _ h3]
theorem nfO_congr {T : pS} {n k : Nat} {on on2 : Nat → Int32} (h1 : ∀ j, j < k → on j = on2 j) : nfO T n on k = nfO T n on2 k := by
  unfold nfO
  congr 1
  funext j
  by_cases hj : 3 * n ≤ j ∧ j < 3 * n + k
  · rw [if_pos hj, if_pos hj, h1 _ (by omega)]
  · rw [if_neg hj, if_neg hj]
theorem upd_lt {f : Nat → Int32} {t j : Nat} {v : Int32} (h : j < t) : upd f t v j = f j := by
  unfold upd
  rw [if_neg (by omega)]
theorem upd_eq {f : Nat → Int32} {t : Nat} {v : Int32} : upd f t v t = v := by
  unfold upd
  rw [if_pos rfl]
theorem nfT_u {T : pS} {n k : Nat} {th dt ct : Nat → Int32} {x y z : Int32} : uI (uI (uI (nfT T n th dt ct k) 38 0 (4 * n + k) x) 39 0 (4 * n + k) y) 40 0 (4 * n + k) z = nfT T n (upd th k x) (upd dt k y) (upd ct k z) (k + 1) := by
  rw [← nfT_s, upd_eq, upd_eq, upd_eq, nfT_congr (th := th) (th2 := upd th k x) (dt := dt) (dt2 := upd dt k y) (ct := ct) (ct2 := upd ct k z) (fun j hj => (upd_lt hj).symm) (fun j hj => (upd_lt hj).symm) (fun j hj => (upd_lt hj).symm)]
theorem aS_uI {T : pS} {a b v : Int32} {k i j : Nat} (h : ¬ k = 30) : uI (aS T a b) k i j v = aS (uI T k i j v) a b := by
  refine Prod.ext ?_ rfl
  funext k' i' j'
  simp only [u_1, aS_1]
  by_cases h1 : k' = k ∧ i' = i ∧ j' = j
  · obtain ⟨rfl, rfl, rfl⟩ := h1
    simp [h]
  · simp [h1]
theorem aS_uJ {T : pS} {a b : Int32} {v : Int64} {k i j : Nat} : uJ (aS T a b) k i j v = aS (uJ T k i j v) a b := rfl
theorem oQ_nfT {T : pS} {d : Nat → Int32} {e n k : Nat} {th dt ct : Nat → Int32} (h : oQ T d e) : oQ (nfT T n th dt ct k) d e := by
  unfold oQ at h ⊢
  rw [nfT_oth (by decide) (by decide) (by decide), nfT_oth (by decide) (by decide) (by decide)]
  exact h
theorem oQ_pz {kp : Bool} {X T : pS} {d : Nat → Int32} {e : Nat} (h1 : oQ X d e) (h2 : oQ T d e) : oQ (pz kp X T) d e := by
  unfold pz
  split
  · exact h1
  · exact h2
section
variable {V : pV} {l : Launch} {A : pA} {post : Option Value → pS → Prop} {T : pS}
set_option maxHeartbeats 8000000 in
set_option maxRecDepth 100000 in
theorem lp_parT (C : e_CX8_parcel V l) (Rt : e_RX8_parcel V (s_P A post)) {d : Nat → Int32} {e F tt : Nat} {kp : Bool} {nn rr F' kk : Int32} {vl : Int64} (hQ : oQ T d e) (htt : tt ≤ 4) (hF : kp = true → F' = nI F ∧ F < 60) : ∀ k j th dt ct ρ a b seen, j + k = tt → ρ.1 ≤ e → okR ρ a b → (ρ.2.1 = false → seO seen th j) → (kp = true → (pT d e k j th dt ct ρ).2.2.2.2.2.1 = false) → (∀ a' b' sn jj, okR (pT d e k j th dt ct ρ).2.2.2.2 a' b' → V 0 0 249 [(0, .ref (ad A 30 0)), (1, .int (b2i kp)), (2, .int nn), (3, .int rr), (4, .int F'), (5, .int kk), (6, .long vl), (8, .int (nI tt)), (9, .int sn), (10, .int jj)] [] (gS A (aS (pz kp (nfT T F (pT d e k j th dt ct ρ).2.1 (pT d e k j th dt ct ρ).2.2.1 (pT d e k j th dt ct ρ).2.2.2.1 (pT d e k j th dt ct ρ).1) T) a' b'))) → V 0 0 122 [(0, .ref (ad A 30 0)), (1, .int (b2i kp)), (2, .int nn), (3, .int rr), (4, .int F'), (5, .int kk), (6, .long vl), (8, .int (nI tt)), (9, .int seen), (10, .int (nI j))] [] (gS A (aS (pz kp (nfT T F th dt ct j) T) a b)) := by
  intro k
  induction k with
  | zero =>
    intro j th dt ct ρ a b seen hj ha hok hse hs hx
    have hj2 : j = tt := by omega
    refine srnX8_parcel C Rt [122, 249] 40 ?_
    simp only [k_i, s_go, s_1, e_op, e_pi, e_pl, e_pr, e_p0, e_li, e_ll, e_lr, e_lk, e_ins, e_rm, e_to, e_sw, e_cmp, k_c, k_n, k_f, k_v, k_lg, ↓reduceIte, reduceCtorEq, Nat.reduceAdd, Nat.reduceSub, Nat.reduceMul, Nat.reduceEqDiff, Nat.reduceLT, Nat.reduceLeDiff, Int.reduceAdd, Int.reduceSub, Int.reduceNeg, Int.reduceLE, Int.reduceLT, Int.reduceToNat, Int.reduceEq, Int.cast_ofNat_Int, List.mem_cons, List.not_mem_nil, List.length_cons, List.length_nil, List.set_cons_zero, List.set_cons_succ, List.toList_toArray, eq_self, true_and, and_true, and_self, or_true, true_or, false_or, or_false, or_self, not_true_eq_false, not_false_eq_true, Classical.not_not, true_implies, false_implies, implies_true, forall_const, and_false, false_and, Nat.le_refl, Nat.zero_le, Bool.false_eq_true, lv_args, s_rl_at, s_gf, s_pf, dn_q, kd_q, cl_q, nf_q, ln_q, tg_q, rr_q, cr_q, u_1, e_lsw, k_ti, List.drop_succ_cons, List.drop_zero, List.drop_nil, List.zip_cons_cons, List.zip_nil_right, List.zip_nil_left, List.all_cons, List.all_nil, Bool.and_true, Bool.and_self, decide_true, decide_false, Option.toList, List.cons_append, List.nil_append, List.append_nil, DX8_parcel_0, DX8_parcel_1, DX8_parcel_2, DX8_parcel_3, DX8_parcel_4, DX8_parcel_5, FLX8, LDX8, x_le (a := tt) (b := j) (by omega) (by omega), (show tt ≤ j by omega)]
    exact hx a b seen (nI j) hok
  | succ k ih =>
    intro j th dt ct ρ a b seen hj ha hok hse hs hx
    have hQ2 : oQ (pz kp (nfT T F th dt ct j) T) d e := oQ_pz (oQ_nfT hQ) hQ
    have he := hQ.2.1
    refine srnX8_parcel C Rt [122, 249] 40 ?_
    simp only [k_i, s_go, s_1, e_op, e_pi, e_pl, e_pr, e_p0, e_li, e_ll, e_lr, e_lk, e_ins, e_rm, e_to, e_sw, e_cmp, k_c, k_n, k_f, k_v, k_lg, ↓reduceIte, reduceCtorEq, Nat.reduceAdd, Nat.reduceSub, Nat.reduceMul, Nat.reduceEqDiff, Nat.reduceLT, Nat.reduceLeDiff, Int.reduceAdd, Int.reduceSub, Int.reduceNeg, Int.reduceLE, Int.reduceLT, Int.reduceToNat, Int.reduceEq, Int.cast_ofNat_Int, List.mem_cons, List.not_mem_nil, List.length_cons, List.length_nil, List.set_cons_zero, List.set_cons_succ, List.toList_toArray, eq_self, true_and, and_true, and_self, or_true, true_or, false_or, or_false, or_self, not_true_eq_false, not_false_eq_true, Classical.not_not, true_implies, false_implies, implies_true, forall_const, and_false, false_and, Nat.le_refl, Nat.zero_le, Bool.false_eq_true, lv_args, s_rl_at, s_gf, s_pf, dn_q, kd_q, cl_q, nf_q, ln_q, tg_q, rr_q, cr_q, u_1, e_lsw, k_ti, List.drop_succ_cons, List.drop_zero, List.drop_nil, List.zip_cons_cons, List.zip_nil_right, List.zip_nil_left, List.all_cons, List.all_nil, Bool.and_true, Bool.and_self, decide_true, decide_false, Option.toList, List.cons_append, List.nil_append, List.append_nil, DX8_parcel_0, DX8_parcel_1, DX8_parcel_2, DX8_parcel_3, DX8_parcel_4, DX8_parcel_5, FLX8, LDX8, x_le (a := tt) (b := j) (by omega) (by omega)]
    refine ⟨fun h => by omega, fun _ => ?_⟩
    refine sX8_parcel_132 C (m_X8_next l A _ hQ2 ha hok 15) (s_obj (show 0 < 1 by decide) rfl) (hcat := Nat.le_of_ble_eq_true rfl) (k := ?_)
    rintro v2 G2 ⟨S2, rfl, a1, b1, rfl, hok1, rfl⟩
    obtain ⟨c, hc, ec⟩ := nxt_nI (d := d) (e := e) (ρ := ρ) (m := 15) (M := 15) (by decide)
    rw [ec]
    have h172 : ∀ b2 : Int32, okR (unl d e 15 th j ρ).2 a1 b2 → V 0 0 172 [(0, .ref (ad A 30 0)), (1, .int (b2i kp)), (2, .int nn), (3, .int rr), (4, .int F'), (5, .int kk), (6, .long vl), (8, .int (nI tt)), (9, .int seen), (10, .int (nI j)), (11, .int (nI c))] [] (gS A (aS (pz kp (nfT T F th dt ct j) T) a1 b2)) := by
      intro b2 hok2
      refine srnX8_parcel C Rt [122, 249] 40 ?_
      simp only [k_i, s_go, s_1, e_op, e_pi, e_pl, e_pr, e_p0, e_li, e_ll, e_lr, e_lk, e_ins, e_rm, e_to, e_sw, e_cmp, k_c, k_n, k_f, k_v, k_lg, ↓reduceIte, reduceCtorEq, Nat.reduceAdd, Nat.reduceSub, Nat.reduceMul, Nat.reduceEqDiff, Nat.reduceLT, Nat.reduceLeDiff, Int.reduceAdd, Int.reduceSub, Int.reduceNeg, Int.reduceLE, Int.reduceLT, Int.reduceToNat, Int.reduceEq, Int.cast_ofNat_Int, List.mem_cons, List.not_mem_nil, List.length_cons, List.length_nil, List.set_cons_zero, List.set_cons_succ, List.toList_toArray, eq_self, true_and, and_true, and_self, or_true, true_or, false_or, or_false, or_self, not_true_eq_false, not_false_eq_true, Classical.not_not, true_implies, false_implies, implies_true, forall_const, and_false, false_and, Nat.le_refl, Nat.zero_le, Bool.false_eq_true, lv_args, s_rl_at, s_gf, s_pf, dn_q, kd_q, cl_q, nf_q, ln_q, tg_q, rr_q, cr_q, u_1, e_lsw, k_ti, List.drop_succ_cons, List.drop_zero, List.drop_nil, List.zip_cons_cons, List.zip_nil_right, List.zip_nil_left, List.all_cons, List.all_nil, Bool.and_true, Bool.and_self, decide_true, decide_false, Option.toList, List.cons_append, List.nil_append, List.append_nil, DX8_parcel_0, DX8_parcel_1, DX8_parcel_2, DX8_parcel_3, DX8_parcel_4, DX8_parcel_5, FLX8, LDX8, (show (4 : Int32) = nI 4 from rfl)]
      refine sX8_parcel_183 C (m_X8_nextBytes l A _ hQ2 (unl_le ha) hok2 (by decide)) (s_obj (show 0 < 1 by decide) rfl) (hcat := Nat.le_of_ble_eq_true rfl) (k := ?_)
      rintro v2 G2 ⟨S2, rfl, a3, b3, rfl, hok3, rfl⟩
      refine srnX8_parcel C Rt [122, 249] 40 ?_
      simp only [k_i, s_go, s_1, e_op, e_pi, e_pl, e_pr, e_p0, e_li, e_ll, e_lr, e_lk, e_ins, e_rm, e_to, e_sw, e_cmp, k_c, k_n, k_f, k_v, k_lg, ↓reduceIte, reduceCtorEq, Nat.reduceAdd, Nat.reduceSub, Nat.reduceMul, Nat.reduceEqDiff, Nat.reduceLT, Nat.reduceLeDiff, Int.reduceAdd, Int.reduceSub, Int.reduceNeg, Int.reduceLE, Int.reduceLT, Int.reduceToNat, Int.reduceEq, Int.cast_ofNat_Int, List.mem_cons, List.not_mem_nil, List.length_cons, List.length_nil, List.set_cons_zero, List.set_cons_succ, List.toList_toArray, eq_self, true_and, and_true, and_self, or_true, true_or, false_or, or_false, or_self, not_true_eq_false, not_false_eq_true, Classical.not_not, true_implies, false_implies, implies_true, forall_const, and_false, false_and, Nat.le_refl, Nat.zero_le, Bool.false_eq_true, lv_args, s_rl_at, s_gf, s_pf, dn_q, kd_q, cl_q, nf_q, ln_q, tg_q, rr_q, cr_q, u_1, e_lsw, k_ti, List.drop_succ_cons, List.drop_zero, List.drop_nil, List.zip_cons_cons, List.zip_nil_right, List.zip_nil_left, List.all_cons, List.all_nil, Bool.and_true, Bool.and_self, decide_true, decide_false, Option.toList, List.cons_append, List.nil_append, List.append_nil, DX8_parcel_0, DX8_parcel_1, DX8_parcel_2, DX8_parcel_3, DX8_parcel_4, DX8_parcel_5, FLX8, LDX8, (show (4 : Int32) = nI 4 from rfl)]
      refine sX8_parcel_191 C (m_X8_nextBytes l A _ hQ2 (num_le (unl_le ha)) hok3 (by decide)) (s_obj (show 0 < 1 by decide) rfl) (hcat := Nat.le_of_ble_eq_true rfl) (k := ?_)
      rintro v2 G2 ⟨S2, rfl, a4, b4, rfl, hok4, rfl⟩
      have hok5 : okR (num d e 4 0 (num d e 4 0 (unl d e 15 th j ρ).2).2).2 a4 b4 := hok4
      have hse2 : (num d e 4 0 (num d e 4 0 (unl d e 15 th j ρ).2).2).2.2.1 = false → seO (seen ||| (1 : Int32) <<< (nI c &&& 31)) (upd th j (unl d e 15 th j ρ).1) (j + 1) ∧ (unl d e 15 th j ρ).1 = nI c := by
        intro h
        have h5 := unl_f (num_f (num_f h))
        have h6 : (nxt d e 15 ρ).2.2.1 = false := by rw [← h5.1]; exact num_f (num_f h)
        rw [h5.1, ec]
        exact ⟨seO_s (hse (nxt_f h6).1) (by omega), rfl⟩
      cases kp with
      | false =>
        refine srnX8_parcel C Rt [122] 40 ?_
        simp only [k_i, s_go, s_1, e_op, e_pi, e_pl, e_pr, e_p0, e_li, e_ll, e_lr, e_lk, e_ins, e_rm, e_to, e_sw, e_cmp, k_c, k_n, k_f, k_v, k_lg, ↓reduceIte, reduceCtorEq, Nat.reduceAdd, Nat.reduceSub, Nat.reduceMul, Nat.reduceEqDiff, Nat.reduceLT, Nat.reduceLeDiff, Int.reduceAdd, Int.reduceSub, Int.reduceNeg, Int.reduceLE, Int.reduceLT, Int.reduceToNat, Int.reduceEq, Int.cast_ofNat_Int, List.mem_cons, List.not_mem_nil, List.length_cons, List.length_nil, List.set_cons_zero, List.set_cons_succ, List.toList_toArray, eq_self, true_and, and_true, and_self, or_true, true_or, false_or, or_false, or_self, not_true_eq_false, not_false_eq_true, Classical.not_not, true_implies, false_implies, implies_true, forall_const, and_false, false_and, Nat.le_refl, Nat.zero_le, Bool.false_eq_true, lv_args, s_rl_at, s_gf, s_pf, dn_q, kd_q, cl_q, nf_q, ln_q, tg_q, rr_q, cr_q, u_1, e_lsw, k_ti, List.drop_succ_cons, List.drop_zero, List.drop_nil, List.zip_cons_cons, List.zip_nil_right, List.zip_nil_left, List.all_cons, List.all_nil, Bool.and_true, Bool.and_self, decide_true, decide_false, Option.toList, List.cons_append, List.nil_append, List.append_nil, DX8_parcel_0, DX8_parcel_1, DX8_parcel_2, DX8_parcel_3, DX8_parcel_4, DX8_parcel_5, FLX8, LDX8, b2i_f, nI_1]
        refine w_pre C (ih (j + 1) _ (upd dt j (num d e 4 0 (unl d e 15 th j ρ).2).1.toInt32) (upd ct j (num d e 4 0 (num d e 4 0 (unl d e 15 th j ρ).2).2).1.toInt32) _ a4 b4 _ (by omega) (num_le (num_le (unl_le ha))) hok5 (fun h => (hse2 h).1) (fun h => by cases h) ?_)
        intro a' b' sn jj ho
        refine hx a' b' sn jj ?_
        cases hf : ρ.2.1 with
        | true =>
          rw [unl_t hf, num_t hf, num_t hf, pT_t hf] at ho
          rw [pT_t hf]
          exact ho
        | false =>
          rw [pT_s hf]
          exact ho
      | true =>
        obtain ⟨eF, hF60⟩ := hF rfl
        have hfin := hs rfl
        have hf := pT_f hfin
        rw [pT_s hf] at hfin hx
        have h5 := hse2 (pT_f hfin)
        have h9 := ih (j + 1) _ _ _ _ a4 b4 _ (by omega) (num_le (num_le (unl_le ha))) hok5 (fun h => (hse2 h).1) (fun _ => hfin) hx
        rw [h5.2] at h9
        rw [eF]
        rw [eF] at h9
        refine srnX8_parcel C Rt [122] 60 ?_
        simp only [k_i, s_go, s_1, e_op, e_pi, e_pl, e_pr, e_p0, e_li, e_ll, e_lr, e_lk, e_ins, e_rm, e_to, e_sw, e_cmp, k_c, k_n, k_f, k_v, k_lg, ↓reduceIte, reduceCtorEq, Nat.reduceAdd, Nat.reduceSub, Nat.reduceMul, Nat.reduceEqDiff, Nat.reduceLT, Nat.reduceLeDiff, Int.reduceAdd, Int.reduceSub, Int.reduceNeg, Int.reduceLE, Int.reduceLT, Int.reduceToNat, Int.reduceEq, Int.cast_ofNat_Int, List.mem_cons, List.not_mem_nil, List.length_cons, List.length_nil, List.set_cons_zero, List.set_cons_succ, List.toList_toArray, eq_self, true_and, and_true, and_self, or_true, true_or, false_or, or_false, or_self, not_true_eq_false, not_false_eq_true, Classical.not_not, true_implies, false_implies, implies_true, forall_const, and_false, false_and, Nat.le_refl, Nat.zero_le, Bool.false_eq_true, lv_args, s_rl_at, s_gf, s_pf, dn_q, kd_q, cl_q, nf_q, ln_q, tg_q, rr_q, cr_q, u_1, e_lsw, k_ti, List.drop_succ_cons, List.drop_zero, List.drop_nil, List.zip_cons_cons, List.zip_nil_right, List.zip_nil_left, List.all_cons, List.all_nil, Bool.and_true, Bool.and_self, decide_true, decide_false, Option.toList, List.cons_append, List.nil_append, List.append_nil, DX8_parcel_0, DX8_parcel_1, DX8_parcel_2, DX8_parcel_3, DX8_parcel_4, DX8_parcel_5, FLX8, LDX8, b2i_t, (show (4 : Int32) = nI 4 from rfl), pk_mul, nI_add, x_cl (a := 4 * F + j) (by omega), x_in (a := 4 * F + j) (n := 240) (by omega), nI_1]
        refine ⟨by omega, by omega, by omega, ?_⟩
        rw [aS_uI (by decide), aS_uI (by decide), aS_uI (by decide)]
        have e9 : uI (uI (uI (pz true (nfT T F th dt ct j) T) 38 0 (4 * F + j) (nI c)) 39 0 (4 * F + j) (num d e 4 0 (unl d e 15 th j ρ).2).1.toInt32) 40 0 (4 * F + j) (num d e 4 0 (num d e 4 0 (unl d e 15 th j ρ).2).2).1.toInt32 = pz true (nfT T F (upd th j (nI c)) (upd dt j (num d e 4 0 (unl d e 15 th j ρ).2).1.toInt32) (upd ct j (num d e 4 0 (num d e 4 0 (unl d e 15 th j ρ).2).2).1.toInt32) (j + 1)) T := nfT_u
        rw [e9]
        exact w_pre C h9
    have hneg : (nxt d e 15 ρ).2.2.1 = false → b1 = -1 := fun h => (hok1.1 h).2
    have hpos : (nxt d e 15 ρ).2.2.1 = true → ¬ b1 < 0 := fun h => by
      rw [hok1.2 h]
      have := nxt_le (d := d) (m := 15) ha
      exact nI_pos (by omega)
    have hbit : (nxt d e 15 ρ).2.2.1 = false → ((seen >>> (nI c &&& 31) &&& 1 = 1) ↔ am th (d ρ.1) j = true) := by
      intro h
      obtain ⟨g1, g2, g3, g4, g5⟩ := nxt_f h
      have hdc : d ρ.1 = nI c := by rw [← ec, g5]
      rw [shr_I (by omega), hse g1 c (by omega), hdc]
    refine srnX8_parcel C Rt [172] 40 ?_
    simp only [k_i, s_go, s_1, e_op, e_pi, e_pl, e_pr, e_p0, e_li, e_ll, e_lr, e_lk, e_ins, e_rm, e_to, e_sw, e_cmp, k_c, k_n, k_f, k_v, k_lg, ↓reduceIte, reduceCtorEq, Nat.reduceAdd, Nat.reduceSub, Nat.reduceMul, Nat.reduceEqDiff, Nat.reduceLT, Nat.reduceLeDiff, Int.reduceAdd, Int.reduceSub, Int.reduceNeg, Int.reduceLE, Int.reduceLT, Int.reduceToNat, Int.reduceEq, Int.cast_ofNat_Int, List.mem_cons, List.not_mem_nil, List.length_cons, List.length_nil, List.set_cons_zero, List.set_cons_succ, List.toList_toArray, eq_self, true_and, and_true, and_self, or_true, true_or, false_or, or_false, or_self, not_true_eq_false, not_false_eq_true, Classical.not_not, true_implies, false_implies, implies_true, forall_const, and_false, false_and, Nat.le_refl, Nat.zero_le, Bool.false_eq_true, lv_args, s_rl_at, s_gf, s_pf, dn_q, kd_q, cl_q, nf_q, ln_q, tg_q, rr_q, cr_q, u_1, e_lsw, k_ti, List.drop_succ_cons, List.drop_zero, List.drop_nil, List.zip_cons_cons, List.zip_nil_right, List.zip_nil_left, List.all_cons, List.all_nil, Bool.and_true, Bool.and_self, decide_true, decide_false, Option.toList, List.cons_append, List.nil_append, List.append_nil, DX8_parcel_0, DX8_parcel_1, DX8_parcel_2, DX8_parcel_3, DX8_parcel_4, DX8_parcel_5, FLX8, LDX8, aS_1, aS_2]
    rw [aS_b, aS_b]
    refine ⟨fun h => h172 _ ?_, fun h => ⟨fun h2 => h172 _ ?_, fun h2 => h172 _ ?_⟩⟩
    · refine unl_ok he ha hok1 b1 (fun h3 => ?_) (fun _ _ => rfl) (fun _ => rfl)
      rw [hneg h3] at h
      exact absurd h (by decide)
    · refine unl_ok he ha hok1 b1 (fun h3 h4 => absurd ((hbit h3).mpr h4) h2) (fun _ _ => rfl) (fun _ => rfl)
    · refine unl_ok he ha hok1 (a1 - 1) (fun _ _ => rfl) (fun h3 h4 => ?_) (fun h3 => absurd (Int32.not_le.mp h) (hpos h3))
      rw [(hbit h3).mp h2] at h4
      cases h4
end
