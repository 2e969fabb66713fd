/-! disk, poke; and the law's methods that call them -/
abbrev e_CT (V : pV) (l : Launch) (y : MethodName) (cc : ByteArray) (mx : Nat) : Prop := e_C V l "FactLog" cc mx (Cond.code y cc mx (some .int) :: WS) rmT false
theorem srnTX7_disk {V : pV} {l : Launch} {A : pA} {post : Option Value → pS → Prop} {cells slots : Nat} (C : e_CT V l yX7_disk cX7_disk 2) (Rt : e_R V cX7_disk (some .int) 1 6 (s_P A post)) (stops : List Nat) (n : Nat) {pc : Nat} {lv : pL} {st : List Value} {S : pS} (h : s_go cX7_disk A 2 flX7 ldX7 (some .int) 1 6 post cells slots V stops n pc lv st S) : V cells slots pc lv st (gS A S) := s_run C Rt (fun _ h => List.mem_cons_of_mem _ h) eFLX7 eLDX7 stops n h
theorem srnTX7_poke {V : pV} {l : Launch} {A : pA} {post : Option Value → pS → Prop} {cells slots : Nat} (C : e_CT V l yX7_poke cX7_poke 3) (Rt : e_R V cX7_poke (some .int) 1 6 (s_P A post)) (stops : List Nat) (n : Nat) {pc : Nat} {lv : pL} {st : List Value} {S : pS} (h : s_go cX7_poke A 3 flX7 ldX7 (some .int) 1 6 post cells slots V stops n pc lv st S) : V cells slots pc lv st (gS A S) := s_run C Rt (fun _ h => List.mem_cons_of_mem _ h) eFLX7 eLDX7 stops n h
theorem inr_f {x : Int32} {n : Nat} (h : x < 0 ∨ ¬ x < nI n) (hn : n < 2147483648) : inr x n = false := by
  unfold inr
  refine decide_eq_false (fun z => ?_)
  rw [Int32.lt_iff_toInt_lt, Int32.lt_iff_toInt_lt, nI_toInt hn] at h
  have h0 : (0 : Int32).toInt = 0 := by decide
  omega
theorem inr_t {x : Int32} {n : Nat} (h1 : ¬ x < 0) (h2 : x < nI n) (hn : n < 2147483648) : inr x n = true := by
  unfold inr
  refine decide_eq_true ?_
  rw [Int32.lt_iff_toInt_lt] at h1
  rw [Int32.lt_iff_toInt_lt, nI_toInt hn] at h2
  have h0 : (0 : Int32).toInt = 0 := by decide
  omega
set_option maxHeartbeats 4000000 in
set_option maxRecDepth 100000 in
theorem m_disk (l : Launch) (hst : l.stackTraces = false) (A : pA) (S : pS) (x : Int32) : e_T l yX7_disk (Cond.code yX7_disk cX7_disk 2 (some .int) :: WS) rmT [.ref (ad A 0 0), .int x] (gS A S) (s_P A (fun v S2 => inr x 3532 = true ∧ S2 = S ∧ v = some (.int (S.1 12 0 (nN x))))) (inr x 3532 = false) := by
  refine e_T_of hst rfl (Nat.le_of_ble_eq_true rfl) DX7_disk_0.2.2.2.2.2.1 DX7_disk_0.2.2.2.2.2.2.1 DX7_disk_0.2.2.2.2.2.2.2.1 DX7_disk_0.2.2.2.2.2.2.2.2.1 DX7_disk_0.2.2.2.2.2.2.2.2.2.1 ?_
  intro V C Rt thr
  refine srnTX7_disk C Rt [11, 21] 20 ?_
  simp only [k_i, s_go, s_1, e_op, e_pi, e_pl, e_pr, e_p0, e_li, e_ll, e_lr, e_lk, e_ins, e_rm, e_to, e_sw, e_cmp, k_c, k_n, k_f, k_v, k_lg, ↓reduceIte, reduceCtorEq, Nat.reduceAdd, Nat.reduceSub, Nat.reduceMul, Nat.reduceEqDiff, Nat.reduceLT, Nat.reduceLeDiff, Int.reduceAdd, Int.reduceSub, Int.reduceNeg, Int.reduceLE, Int.reduceLT, Int.reduceToNat, Int.reduceEq, Int.cast_ofNat_Int, List.mem_cons, List.not_mem_nil, List.length_cons, List.length_nil, List.set_cons_zero, List.set_cons_succ, List.toList_toArray, eq_self, true_and, and_true, and_self, or_true, true_or, false_or, or_false, or_self, not_true_eq_false, not_false_eq_true, Classical.not_not, true_implies, false_implies, implies_true, forall_const, and_false, false_and, Nat.le_refl, Nat.zero_le, Bool.false_eq_true, lv_args, s_rl_at, s_gf, s_pf, dn_q, kd_q, cl_q, nf_q, ln_q, tg_q, rr_q, cr_q, u_1, e_lsw, k_ti, List.drop_succ_cons, List.drop_zero, List.drop_nil, List.zip_cons_cons, List.zip_nil_right, List.zip_nil_left, List.all_cons, List.all_nil, Bool.and_true, Bool.and_self, decide_true, decide_false, Option.toList, List.cons_append, List.nil_append, List.append_nil, DX7_disk_0, FLX7, LDX7, (show (3532 : Int32) = nI 3532 from rfl)]
  refine ⟨fun h1 => thr _ (inr_f (Or.inl h1) (by omega)), fun h1 => ⟨fun h2 => ?_, fun h2 => thr _ (inr_f (Or.inr h2) (by omega))⟩⟩
  have hx := inr_t h1 h2 (by omega)
  obtain ⟨y, hy, rfl⟩ := inr_of (by omega) hx
  refine srnTX7_disk C Rt [] 20 ?_
  simp only [k_i, s_go, s_1, e_op, e_pi, e_pl, e_pr, e_p0, e_li, e_ll, e_lr, e_lk, e_ins, e_rm, e_to, e_sw, e_cmp, k_c, k_n, k_f, k_v, k_lg, ↓reduceIte, reduceCtorEq, Nat.reduceAdd, Nat.reduceSub, Nat.reduceMul, Nat.reduceEqDiff, Nat.reduceLT, Nat.reduceLeDiff, Int.reduceAdd, Int.reduceSub, Int.reduceNeg, Int.reduceLE, Int.reduceLT, Int.reduceToNat, Int.reduceEq, Int.cast_ofNat_Int, List.mem_cons, List.not_mem_nil, List.length_cons, List.length_nil, List.set_cons_zero, List.set_cons_succ, List.toList_toArray, eq_self, true_and, and_true, and_self, or_true, true_or, false_or, or_false, or_self, not_true_eq_false, not_false_eq_true, Classical.not_not, true_implies, false_implies, implies_true, forall_const, and_false, false_and, Nat.le_refl, Nat.zero_le, Bool.false_eq_true, lv_args, s_rl_at, s_gf, s_pf, dn_q, kd_q, cl_q, nf_q, ln_q, tg_q, rr_q, cr_q, u_1, e_lsw, k_ti, List.drop_succ_cons, List.drop_zero, List.drop_nil, List.zip_cons_cons, List.zip_nil_right, List.zip_nil_left, List.all_cons, List.all_nil, Bool.and_true, Bool.and_self, decide_true, decide_false, Option.toList, List.cons_append, List.nil_append, List.append_nil, DX7_disk_0, FLX7, LDX7, x_cl (a := y) (by omega), x_in (a := y) (n := 3532) (by omega)]
  refine ⟨by omega, hx, ?_⟩
  rw [nN_nI (by omega)]
set_option maxHeartbeats 4000000 in
set_option maxRecDepth 100000 in
theorem m_poke (l : Launch) (hst : l.stackTraces = false) (A : pA) (S : pS) (x m : Int32) : e_T l yX7_poke (Cond.code yX7_poke cX7_poke 3 (some .int) :: WS) rmT [.ref (ad A 0 0), .int x, .int m] (gS A S) (s_P A (fun v S2 => inr x 3532 = true ∧ S2 = pokC S x m ∧ v = some (.int (S.1 12 0 (nN x) ^^^ (m &&& 255))))) (inr x 3532 = false) := by
  refine e_T_of hst rfl (Nat.le_of_ble_eq_true rfl) DX7_poke_0.2.2.2.2.2.1 DX7_poke_0.2.2.2.2.2.2.1 DX7_poke_0.2.2.2.2.2.2.2.1 DX7_poke_0.2.2.2.2.2.2.2.2.1 DX7_poke_0.2.2.2.2.2.2.2.2.2.1 ?_
  intro V C Rt thr
  refine srnTX7_poke C Rt [11, 21] 20 ?_
  simp only [k_i, s_go, s_1, e_op, e_pi, e_pl, e_pr, e_p0, e_li, e_ll, e_lr, e_lk, e_ins, e_rm, e_to, e_sw, e_cmp, k_c, k_n, k_f, k_v, k_lg, ↓reduceIte, reduceCtorEq, Nat.reduceAdd, Nat.reduceSub, Nat.reduceMul, Nat.reduceEqDiff, Nat.reduceLT, Nat.reduceLeDiff, Int.reduceAdd, Int.reduceSub, Int.reduceNeg, Int.reduceLE, Int.reduceLT, Int.reduceToNat, Int.reduceEq, Int.cast_ofNat_Int, List.mem_cons, List.not_mem_nil, List.length_cons, List.length_nil, List.set_cons_zero, List.set_cons_succ, List.toList_toArray, eq_self, true_and, and_true, and_self, or_true, true_or, false_or, or_false, or_self, not_true_eq_false, not_false_eq_true, Classical.not_not, true_implies, false_implies, implies_true, forall_const, and_false, false_and, Nat.le_refl, Nat.zero_le, Bool.false_eq_true, lv_args, s_rl_at, s_gf, s_pf, dn_q, kd_q, cl_q, nf_q, ln_q, tg_q, rr_q, cr_q, u_1, e_lsw, k_ti, List.drop_succ_cons, List.drop_zero, List.drop_nil, List.zip_cons_cons, List.zip_nil_right, List.zip_nil_left, List.all_cons, List.all_nil, Bool.and_true, Bool.and_self, decide_true, decide_false, Option.toList, List.cons_append, List.nil_append, List.append_nil, DX7_poke_0, FLX7, LDX7, (show (3532 : Int32) = nI 3532 from rfl)]
  refine ⟨fun h1 => thr _ (inr_f (Or.inl h1) (by omega)), fun h1 => ⟨fun h2 => ?_, fun h2 => thr _ (inr_f (Or.inr h2) (by omega))⟩⟩
  have hx := inr_t h1 h2 (by omega)
  obtain ⟨y, hy, rfl⟩ := inr_of (by omega) hx
  refine srnTX7_poke C Rt [] 30 ?_
  simp only [k_i, s_go, s_1, e_op, e_pi, e_pl, e_pr, e_p0, e_li, e_ll, e_lr, e_lk, e_ins, e_rm, e_to, e_sw, e_cmp, k_c, k_n, k_f, k_v, k_lg, ↓reduceIte, reduceCtorEq, Nat.reduceAdd, Nat.reduceSub, Nat.reduceMul, Nat.reduceEqDiff, Nat.reduceLT, Nat.reduceLeDiff, Int.reduceAdd, Int.reduceSub, Int.reduceNeg, Int.reduceLE, Int.reduceLT, Int.reduceToNat, Int.reduceEq, Int.cast_ofNat_Int, List.mem_cons, List.not_mem_nil, List.length_cons, List.length_nil, List.set_cons_zero, List.set_cons_succ, List.toList_toArray, eq_self, true_and, and_true, and_self, or_true, true_or, false_or, or_false, or_self, not_true_eq_false, not_false_eq_true, Classical.not_not, true_implies, false_implies, implies_true, forall_const, and_false, false_and, Nat.le_refl, Nat.zero_le, Bool.false_eq_true, lv_args, s_rl_at, s_gf, s_pf, dn_q, kd_q, cl_q, nf_q, ln_q, tg_q, rr_q, cr_q, u_1, e_lsw, k_ti, List.drop_succ_cons, List.drop_zero, List.drop_nil, List.zip_cons_cons, List.zip_nil_right, List.zip_nil_left, List.all_cons, List.all_nil, Bool.and_true, Bool.and_self, decide_true, decide_false, Option.toList, List.cons_append, List.nil_append, List.append_nil, DX7_poke_0, FLX7, LDX7, x_cl (a := y) (by omega), x_in (a := y) (n := 3532) (by omega)]
  refine ⟨by omega, by omega, by omega, hx, ?_, ?_⟩
  · unfold pokC
    rw [if_pos hx, nN_nI (by omega)]
  · rw [nN_nI (by omega)]
section EX
variable {p : Program} {l : Launch} {e : Env} {R : Room} {s : State} {m : MethodId} {args : Array Value} {below : List Frame} {meth : Method} {c : Code} {D : va_G} {cs : Nat → ClassId} {base nL cells slots pc mc ms : Nat} {Q : State → Prop} {lv : pL} {rest st0 : List Value} {G : pH} {H : Heap} {locs : List Loc} {ls : Array Slot} {post : Option Value → pH → Prop} {px : Prop}
theorem e_backT (hS : va_S (e_A base) s.heap H locs) (hl : lv_has ls nL lv) (hr : vx_Run p l e R s m args below meth c H locs cells slots mc ms (F0 m pc ls st0) rest (fun st oc t => (∃ (v : Option Value) (G2 : pH), oc = .returned v ∧ post v G2 ∧ e_H D cs base G2 t.heap) ∧ va_F (e_A base) st t) (fun E st t => E = xAI ∧ px ∧ e_H D cs base G t.heap ∧ va_F (e_A base) st t) (e_A base))
    (k : ∀ v G2, post v G2 → e_W p l e R s m args below meth c D cs base nL Q (cells + mc) (slots + ms) (pc + 3) lv (v.toList ++ rest) G2)
    (kx : px → ∀ (q : Addr) (ce : Cell) (H1 : Heap) (locs1 : List Loc), e_H D cs base G H1 → va_S (e_A base) s.heap H1 locs1 → H1[q]? = some ce → ce.vm = .none → s.vm.findClass xAI = some ce.cls → vx_W p l e R s m args below meth c H1 locs1 (cells + mc) (slots + ms) Q (F0 m pc ls rest) q) : W p l e R s m args below meth c H locs cells slots Q (F0 m pc ls st0) := by
  intro T hT X
  rcases hr T hT X with ⟨v, st₀, t, T', L, h0, X', hL, e1, e2, ⟨⟨v', G2, hv, hp, hH2⟩, hz, hk⟩, st⟩ | ⟨q, st₀, t, T', L, E, ce, h0, X', hL, e1, e2, ⟨rfl, hpx, hH2, hz, hk⟩, hce, hcv, hcl, st⟩
  · cases hv
    rw [h0] at hz hk
    obtain ⟨t2, a1, b1⟩ := k v G2 hp T'.heap (locs ++ L) ls (by rw [e1]; exact hH2) ⟨Nat.le_trans hS.1 (by rw [e1]; exact hz), fun q h1 h2 => by rw [e1, hk q (Nat.lt_of_lt_of_le h1 hS.1) h2]; exact hS.2.1 q h1 h2, fun q hq => by
        rcases List.mem_append.mp hq with h | h
        · exact hS.2.2 q h
        · exact hL q h⟩ hl T' rfl X'
    exact ⟨t2, st t2 a1, b1⟩
  · rw [h0] at hz hk
    obtain ⟨t2, a1, b1⟩ := kx hpx q ce T'.heap (locs ++ L) (by rw [e1]; exact hH2) ⟨Nat.le_trans hS.1 (by rw [e1]; exact hz), fun q h1 h2 => by rw [e1, hk q (Nat.lt_of_lt_of_le h1 hS.1) h2]; exact hS.2.1 q h1 h2, fun q hq => by
        rcases List.mem_append.mp hq with h | h
        · exact hS.2.2 q h
        · exact hL q h⟩ (by rw [e1]; exact hce) hcv hcl T' rfl X'
    exact ⟨t2, st.trans a1, b1⟩
end EX
def e_X (l : Launch) (y : MethodName) (ws : List Cond) (rm : Room) (As : List Value) (G : pH) (post : Option Value → pH → Prop) : Prop :=
  ∀ (D : va_G) (cs : Nat → ClassId) (base : Nat), Met l y ws rm (va_Pc As (fun U => (base ≤ U.heap.size ∧ e_H D cs base G U.heap ∧ va_K D vwCl (e_tys cs) U ∧ e_N U) ∧ xZ base U)) (fun _ st oc t => (∃ (v : Option Value) (G2 : pH), oc = .returned v ∧ post v G2 ∧ e_H D cs base G2 t.heap) ∧ va_F (e_A base) st t) rm.cells rm.slots (e_A base)
def rmX : Room := { frames := 12, cells := 1, slots := 6, locals := 300 }
abbrev wsX (y : MethodName) (cc : ByteArray) (mx st en hp : Nat) : List Cond := Cond.codeWith y cc mx (some .int) [(st, en, hp, 13)] :: WS
abbrev e_CX (V : pV) (l : Launch) (y : MethodName) (cc : ByteArray) (mx st en hp : Nat) : Prop := e_C V l "FactLogLaw" cc mx (wsX y cc mx st en hp) rmX false
/-- the call with its catching -/
def e_catch (V : pV) (l : Launch) (cc : ByteArray) (st en hp : Nat) : Prop := ∀ {cells slots pc idx n : Nat} {y2 : MethodName} {bytes2 : ByteArray} {maxL2 b : Nat} {As2 rest : List Value} {lv : pL} {G1 : pH} {post2 : Option Value → pH → Prop} {px : Prop} {fs : List Value}, e_YV y2 bytes2 maxL2 (some .int) n → Cond.methodLink "FactLogLaw" idx y2 ∈ WS → vwCl[9]? = some (y2.cls, TX7, 9) → e_T l y2 (Cond.code y2 bytes2 maxL2 (some .int) :: WS) rmT (.ref b :: As2) G1 post2 px → G1 b = some (.inr (9, fs)) → As2.length = n → 8 + (maxL2 + 11) + 200 ≤ 300 → cells + 1 ≤ 1 ∧ slots + 6 ≤ 6 → (rest.map fun v => v.category).sum ≤ 8 → decode cc pc = .ok (.invokevirtual idx, 3) → covers ⟨st, en, hp, 13⟩ pc = true → (∀ v G2, post2 v G2 → V (cells + 1) (slots + 6) (pc + 3) lv (v.toList ++ rest) G2) → (px → ∀ q, V (cells + 1) (slots + 6) hp lv [.ref q] G1) → V cells slots pc lv (As2.reverse ++ .ref b :: rest) G1
theorem e_X_of {l : Launch} {y : MethodName} {cc : ByteArray} {maxL st en hp : Nat} {As : List Value} {G : pH} {post : Option Value → pH → Prop} (hyo : y.cls = "FactLogLaw") (hn : (lg_sl As).length ≤ maxL)
    (body : ∀ V : pV, e_CX V l y cc maxL st en hp → e_R V cc (some .int) 1 6 post → e_catch V l cc st en hp → V 0 0 0 (lv_args 0 As) [] G) : e_X l y (wsX y cc maxL st en hp) rmX As G post := by
  intro D cs base
  have hV : vx_Met l y (wsX y cc maxL st en hp) rmX (va_Pc As (fun U => (base ≤ U.heap.size ∧ e_H D cs base G U.heap ∧ va_K D vwCl (e_tys cs) U ∧ e_N U) ∧ xZ base U)) (fun _ st oc t => (∃ (v : Option Value) (G2 : pH), oc = .returned v ∧ post v G2 ∧ e_H D cs base G2 t.heap) ∧ va_F (e_A base) st t) (fun _ _ _ => False) 1 6 (e_A base) := by
    refine vx_ofWH (cc := cc) (maxL := maxL) (ret := some .int) (hh := [(st, en, hp, 13)]) (by rw [hyo]; decide) rfl ?_
    intro p e s m args below meth c s₁ B hml hv
    obtain ⟨rfl, ⟨hbs, hH, hK, hN⟩, hxz⟩ := hv
    have hx := B.exec
    have hb := B.bytes
    have hr := B.returns
    have hts := atoms_spec (ws := wsX y cc maxL st en hp) B.pre
    have hown : s.vm.findClass "FactLogLaw" = some m.cls := by rw [← hyo]; exact findClass_of_methodNamed B.named
    have htab : c.exceptionTable.toList = tableOf [(st, en, hp, 13)] := vx_table (x := y) B (hts _ List.mem_cons_self)
    have hl := lv_entry As (n := maxL) hn
    have hw : ∀ w ∈ WS, w.before As.toArray s = true := fun w h => hts w (List.mem_cons_of_mem _ h)
    rw [lg_entry_eq]
    refine body (e_W p l e rmX s m As.toArray below meth c D cs base maxL (vx_MQ below (fun _ st oc t => (∃ (v : Option Value) (G2 : pH), oc = .returned v ∧ post v G2 ∧ e_H D cs base G2 t.heap) ∧ va_F (e_A base) st t) (fun _ _ _ => False) As.toArray s 1 6 (e_A base))) ⟨p, e, s, m, _, below, meth, c, D, cs, base, _, rfl, ⟨hx, hb, hml, hown, hts⟩, ⟨hK, hN⟩, hbs, fun h => by cases h⟩ ?_ ?_ s.heap [] _ hH va_S.rf hl
    · intro pc lv G2
      refine ⟨fun v t hd h0 h1 h2 => ?_, fun v hd h1 h2 => ?_, fun v t hd h0 h1 h2 => ?_, fun hd h1 h2 => ?_⟩
      · intro H locs ls hH2 hS2 hl2
        exact vx_ret (W.zret hx hb (hr.trans h0) h1 (fun t ht hW => ⟨⟨_, G2, rfl, h2, by rw [ht]; exact hH2⟩, hS2.F ht⟩) hS2.2.2 hd)
      · cases h1
      · intro H locs ls hH2 hS2 hl2
        exact vx_ret (W.aret hx hb (hr.trans h0) h1 (Or.inr ⟨v, rfl⟩) (fun t ht hW => ⟨⟨_, G2, rfl, h2, by rw [ht]; exact hH2⟩, hS2.F ht⟩) hS2.2.2 hd)
      · cases h1
    · intro cells slots pc idx n y2 bytes2 maxL2 b As2 rest lv G1 post2 px fs Y hlk hci hM hg hlen hmx hcs hcat hd hcov k kx H locs ls hH2 hS2 hl2
      obtain ⟨y1, y2', y3, y4, y5⟩ := Y
      subst hlen
      have hcast : (Cond.castable xAI xAI).before As.toArray s = true := va_Nw.use rfl (hxz.2.2.2 _ (List.mem_cons_of_mem _ (List.mem_cons_of_mem _ (List.mem_cons_of_mem _ (List.mem_cons_of_mem _ List.mem_cons_self)))))
      refine e_backT hS2 hl2 (vx_runV (As := As2) (rest := rest) ⟨hx, hb, hml, hown, hts⟩ (hM D cs base) ⟨callB_of As2.length hts (e_good (fun _ h => List.mem_cons_of_mem _ h) y1) rfl rfl rfl (hw _ y2') (hw _ hlk) y5 ⟨by decide, hmx⟩, hw _ y3, hw _ y4⟩ ⟨e_blindT, va_recv hK (hH2.one hg) (q0 := 0) hci rfl, fun U hU hW => ⟨rfl, ⟨by rw [hU]; exact Nat.le_trans hbs hS2.1, by rw [hU]; exact hH2, va_K.moved hW.alike hK, e_N.warm hW hN⟩, xZ_to hxz hS2 hU hW⟩⟩ rfl rfl hl2.1 rfl (lv_room hcat) hd hcs) k (fun hpx q ce H1 locs1 hH3 hS3 hce hcv hcl => ?_)
      exact vx_catch (own := "FactLogLaw") (name := xAI) (E := xAI) hown [] ⟨st, en, hp, 13⟩ [] htab (fun z hz => absurd hz List.not_mem_nil) hcov (show (13 : Nat) ≠ 0 by decide) (hw (Cond.classLink "FactLogLaw" 13 xAI) (WS_at 633 (by decide +kernel) rfl)) hcast hce hcv hcl (kx hpx q H1 locs1 ls hH3 hS3 hl2)
  refine MetFree.mono hV (fun _ _ h => h) (fun _ _ _ _ _ h => h) (fun a s o t hP hQ => ?_)
  rcases hQ with h | ⟨q, -, E, ce, L, h, -⟩
  · exact h
  · exact h.elim
theorem srnTL_disk {V : pV} {l : Launch} {A : pA} {post : Option Value → pS → Prop} {cells slots : Nat} (C : e_CX V l yL_disk cL_disk 4 0 9 12) (Rt : e_R V cL_disk (some .int) 1 6 (s_P A post)) (stops : List Nat) (n : Nat) {pc : Nat} {lv : pL} {st : List Value} {S : pS} (h : s_go cL_disk A 4 flL ldL (some .int) 1 6 post cells slots V stops n pc lv st S) : V cells slots pc lv st (gS A S) := s_run C Rt (fun _ h => List.mem_cons_of_mem _ h) eFLL eLDL stops n h
theorem srnTL_poke {V : pV} {l : Launch} {A : pA} {post : Option Value → pS → Prop} {cells slots : Nat} (C : e_CX V l yL_poke cL_poke 5 0 10 13) (Rt : e_R V cL_poke (some .int) 1 6 (s_P A post)) (stops : List Nat) (n : Nat) {pc : Nat} {lv : pL} {st : List Value} {S : pS} (h : s_go cL_poke A 5 flL ldL (some .int) 1 6 post cells slots V stops n pc lv st S) : V cells slots pc lv st (gS A S) := s_run C Rt (fun _ h => List.mem_cons_of_mem _ h) eFLL eLDL stops n h
set_option maxHeartbeats 4000000 in
set_option maxRecDepth 100000 in
theorem m_L_disk (l : Launch) (hst : l.stackTraces = false) (A : pA) (S : pS) (x : Int32) : e_X l yL_disk (wsX yL_disk cL_disk 4 0 9 12) rmX [.ref (ad A 0 0), .int x, .ref (ad A 80 0)] (gS A S) (s_P A (fun v S2 => (inr x 3532 = true ∧ S2 = uJ S 80 0 0 (S.1 12 0 (nN x)).toInt64 ∧ v = some (.int 0)) ∨ (inr x 3532 = false ∧ S2 = S ∧ v = some (.int 1)))) := by
  refine e_X_of rfl (Nat.le_of_ble_eq_true rfl) ?_
  intro V C Rt cat
  refine srnTL_disk C Rt [] 20 ?_
  simp only [k_i, s_go, s_1, e_op, e_pi, e_pl, e_pr, e_p0, e_li, e_ll, e_lr, e_lk, e_ins, e_rm, e_to, e_sw, e_cmp, k_c, k_n, k_f, k_v, k_lg, ↓reduceIte, reduceCtorEq, Nat.reduceAdd, Nat.reduceSub, Nat.reduceMul, Nat.reduceEqDiff, Nat.reduceLT, Nat.reduceLeDiff, Int.reduceAdd, Int.reduceSub, Int.reduceNeg, Int.reduceLE, Int.reduceLT, Int.reduceToNat, Int.reduceEq, Int.cast_ofNat_Int, List.mem_cons, List.not_mem_nil, List.length_cons, List.length_nil, List.set_cons_zero, List.set_cons_succ, List.toList_toArray, eq_self, true_and, and_true, and_self, or_true, true_or, false_or, or_false, or_self, not_true_eq_false, not_false_eq_true, Classical.not_not, true_implies, false_implies, implies_true, forall_const, and_false, false_and, Nat.le_refl, Nat.zero_le, Bool.false_eq_true, lv_args, s_rl_at, s_gf, s_pf, dn_q, kd_q, cl_q, nf_q, ln_q, tg_q, rr_q, cr_q, u_1, e_lsw, k_ti, List.drop_succ_cons, List.drop_zero, List.drop_nil, List.zip_cons_cons, List.zip_nil_right, List.zip_nil_left, List.all_cons, List.all_nil, Bool.and_true, Bool.and_self, decide_true, decide_false, Option.toList, List.cons_append, List.nil_append, List.append_nil, DL_disk_0, FLL, LDL]
  refine cat (As2 := [.int x]) (rest := [.int 0, .ref (ad A 80 0)]) YX7_disk (WS_at 707 (by decide +kernel) rfl) rfl (m_disk l hst A S x) (s_obj (show 0 < 1 by decide) rfl) rfl (by decide) (by decide) (Nat.le_of_ble_eq_true rfl) DL_disk_0.2.2.2.2.1 (by decide) ?_ ?_
  · rintro v G2 ⟨S2, rfl, hx, rfl, rfl⟩
    refine srnTL_disk C Rt [] 20 ?_
    simp only [k_i, s_go, s_1, e_op, e_pi, e_pl, e_pr, e_p0, e_li, e_ll, e_lr, e_lk, e_ins, e_rm, e_to, e_sw, e_cmp, k_c, k_n, k_f, k_v, k_lg, ↓reduceIte, reduceCtorEq, Nat.reduceAdd, Nat.reduceSub, Nat.reduceMul, Nat.reduceEqDiff, Nat.reduceLT, Nat.reduceLeDiff, Int.reduceAdd, Int.reduceSub, Int.reduceNeg, Int.reduceLE, Int.reduceLT, Int.reduceToNat, Int.reduceEq, Int.cast_ofNat_Int, List.mem_cons, List.not_mem_nil, List.length_cons, List.length_nil, List.set_cons_zero, List.set_cons_succ, List.toList_toArray, eq_self, true_and, and_true, and_self, or_true, true_or, false_or, or_false, or_self, not_true_eq_false, not_false_eq_true, Classical.not_not, true_implies, false_implies, implies_true, forall_const, and_false, false_and, Nat.le_refl, Nat.zero_le, Bool.false_eq_true, lv_args, s_rl_at, s_gf, s_pf, dn_q, kd_q, cl_q, nf_q, ln_q, tg_q, rr_q, cr_q, u_1, e_lsw, k_ti, List.drop_succ_cons, List.drop_zero, List.drop_nil, List.zip_cons_cons, List.zip_nil_right, List.zip_nil_left, List.all_cons, List.all_nil, Bool.and_true, Bool.and_self, decide_true, decide_false, Option.toList, List.cons_append, List.nil_append, List.append_nil, DL_disk_0, FLL, LDL, (show ((0 : Int32)).toNatClampNeg = 0 by decide), (show vp_in 0 1 from vp_in_iff.mpr (by decide))]
    exact Or.inl hx
  · intro hx q
    refine srnTL_disk C Rt [] 20 ?_
    simp only [k_i, s_go, s_1, e_op, e_pi, e_pl, e_pr, e_p0, e_li, e_ll, e_lr, e_lk, e_ins, e_rm, e_to, e_sw, e_cmp, k_c, k_n, k_f, k_v, k_lg, ↓reduceIte, reduceCtorEq, Nat.reduceAdd, Nat.reduceSub, Nat.reduceMul, Nat.reduceEqDiff, Nat.reduceLT, Nat.reduceLeDiff, Int.reduceAdd, Int.reduceSub, Int.reduceNeg, Int.reduceLE, Int.reduceLT, Int.reduceToNat, Int.reduceEq, Int.cast_ofNat_Int, List.mem_cons, List.not_mem_nil, List.length_cons, List.length_nil, List.set_cons_zero, List.set_cons_succ, List.toList_toArray, eq_self, true_and, and_true, and_self, or_true, true_or, false_or, or_false, or_self, not_true_eq_false, not_false_eq_true, Classical.not_not, true_implies, false_implies, implies_true, forall_const, and_false, false_and, Nat.le_refl, Nat.zero_le, Bool.false_eq_true, lv_args, s_rl_at, s_gf, s_pf, dn_q, kd_q, cl_q, nf_q, ln_q, tg_q, rr_q, cr_q, u_1, e_lsw, k_ti, List.drop_succ_cons, List.drop_zero, List.drop_nil, List.zip_cons_cons, List.zip_nil_right, List.zip_nil_left, List.all_cons, List.all_nil, Bool.and_true, Bool.and_self, decide_true, decide_false, Option.toList, List.cons_append, List.nil_append, List.append_nil, DL_disk_0, FLL, LDL]
    exact Or.inr hx
set_option maxHeartbeats 4000000 in
set_option maxRecDepth 100000 in
theorem m_L_poke (l : Launch) (hst : l.stackTraces = false) (A : pA) (S : pS) (x m : Int32) : e_X l yL_poke (wsX yL_poke cL_poke 5 0 10 13) rmX [.ref (ad A 0 0), .int x, .int m, .ref (ad A 80 0)] (gS A S) (s_P A (fun v S2 => (inr x 3532 = true ∧ S2 = uJ (pokC S x m) 80 0 0 (S.1 12 0 (nN x) ^^^ (m &&& 255)).toInt64 ∧ v = some (.int 0)) ∨ (inr x 3532 = false ∧ S2 = S ∧ v = some (.int 1)))) := by
  refine e_X_of rfl (Nat.le_of_ble_eq_true rfl) ?_
  intro V C Rt cat
  refine srnTL_poke C Rt [] 20 ?_
  simp only [k_i, s_go, s_1, e_op, e_pi, e_pl, e_pr, e_p0, e_li, e_ll, e_lr, e_lk, e_ins, e_rm, e_to, e_sw, e_cmp, k_c, k_n, k_f, k_v, k_lg, ↓reduceIte, reduceCtorEq, Nat.reduceAdd, Nat.reduceSub, Nat.reduceMul, Nat.reduceEqDiff, Nat.reduceLT, Nat.reduceLeDiff, Int.reduceAdd, Int.reduceSub, Int.reduceNeg, Int.reduceLE, Int.reduceLT, Int.reduceToNat, Int.reduceEq, Int.cast_ofNat_Int, List.mem_cons, List.not_mem_nil, List.length_cons, List.length_nil, List.set_cons_zero, List.set_cons_succ, List.toList_toArray, eq_self, true_and, and_true, and_self, or_true, true_or, false_or, or_false, or_self, not_true_eq_false, not_false_eq_true, Classical.not_not, true_implies, false_implies, implies_true, forall_const, and_false, false_and, Nat.le_refl, Nat.zero_le, Bool.false_eq_true, lv_args, s_rl_at, s_gf, s_pf, dn_q, kd_q, cl_q, nf_q, ln_q, tg_q, rr_q, cr_q, u_1, e_lsw, k_ti, List.drop_succ_cons, List.drop_zero, List.drop_nil, List.zip_cons_cons, List.zip_nil_right, List.zip_nil_left, List.all_cons, List.all_nil, Bool.and_true, Bool.and_self, decide_true, decide_false, Option.toList, List.cons_append, List.nil_append, List.append_nil, DL_poke_0, FLL, LDL]
  refine cat (As2 := [.int x, .int m]) (rest := [.int 0, .ref (ad A 80 0)]) YX7_poke (WS_at 717 (by decide +kernel) rfl) rfl (m_poke l hst A S x m) (s_obj (show 0 < 1 by decide) rfl) rfl (by decide) (by decide) (Nat.le_of_ble_eq_true rfl) DL_poke_0.2.2.2.2.2.1 (by decide) ?_ ?_
  · rintro v G2 ⟨S2, rfl, hx, rfl, rfl⟩
    refine srnTL_poke C Rt [] 20 ?_
    simp only [k_i, s_go, s_1, e_op, e_pi, e_pl, e_pr, e_p0, e_li, e_ll, e_lr, e_lk, e_ins, e_rm, e_to, e_sw, e_cmp, k_c, k_n, k_f, k_v, k_lg, ↓reduceIte, reduceCtorEq, Nat.reduceAdd, Nat.reduceSub, Nat.reduceMul, Nat.reduceEqDiff, Nat.reduceLT, Nat.reduceLeDiff, Int.reduceAdd, Int.reduceSub, Int.reduceNeg, Int.reduceLE, Int.reduceLT, Int.reduceToNat, Int.reduceEq, Int.cast_ofNat_Int, List.mem_cons, List.not_mem_nil, List.length_cons, List.length_nil, List.set_cons_zero, List.set_cons_succ, List.toList_toArray, eq_self, true_and, and_true, and_self, or_true, true_or, false_or, or_false, or_self, not_true_eq_false, not_false_eq_true, Classical.not_not, true_implies, false_implies, implies_true, forall_const, and_false, false_and, Nat.le_refl, Nat.zero_le, Bool.false_eq_true, lv_args, s_rl_at, s_gf, s_pf, dn_q, kd_q, cl_q, nf_q, ln_q, tg_q, rr_q, cr_q, u_1, e_lsw, k_ti, List.drop_succ_cons, List.drop_zero, List.drop_nil, List.zip_cons_cons, List.zip_nil_right, List.zip_nil_left, List.all_cons, List.all_nil, Bool.and_true, Bool.and_self, decide_true, decide_false, Option.toList, List.cons_append, List.nil_append, List.append_nil, DL_poke_0, FLL, LDL, (show ((0 : Int32)).toNatClampNeg = 0 by decide), (show vp_in 0 1 from vp_in_iff.mpr (by decide))]
    exact Or.inl hx
  · intro hx q
    refine srnTL_poke C Rt [] 20 ?_
    simp only [k_i, s_go, s_1, e_op, e_pi, e_pl, e_pr, e_p0, e_li, e_ll, e_lr, e_lk, e_ins, e_rm, e_to, e_sw, e_cmp, k_c, k_n, k_f, k_v, k_lg, ↓reduceIte, reduceCtorEq, Nat.reduceAdd, Nat.reduceSub, Nat.reduceMul, Nat.reduceEqDiff, Nat.reduceLT, Nat.reduceLeDiff, Int.reduceAdd, Int.reduceSub, Int.reduceNeg, Int.reduceLE, Int.reduceLT, Int.reduceToNat, Int.reduceEq, Int.cast_ofNat_Int, List.mem_cons, List.not_mem_nil, List.length_cons, List.length_nil, List.set_cons_zero, List.set_cons_succ, List.toList_toArray, eq_self, true_and, and_true, and_self, or_true, true_or, false_or, or_false, or_self, not_true_eq_false, not_false_eq_true, Classical.not_not, true_implies, false_implies, implies_true, forall_const, and_false, false_and, Nat.le_refl, Nat.zero_le, Bool.false_eq_true, lv_args, s_rl_at, s_gf, s_pf, dn_q, kd_q, cl_q, nf_q, ln_q, tg_q, rr_q, cr_q, u_1, e_lsw, k_ti, List.drop_succ_cons, List.drop_zero, List.drop_nil, List.zip_cons_cons, List.zip_nil_right, List.zip_nil_left, List.all_cons, List.all_nil, Bool.and_true, Bool.and_self, decide_true, decide_false, Option.toList, List.cons_append, List.nil_append, List.append_nil, DL_poke_0, FLL, LDL]
    exact Or.inr hx
