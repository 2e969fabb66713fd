/-! constructors: the book -/
section
variable {G G1 G2 : pH} {al al2 : List (Nat × pE)} {a b : Nat} {df cb : pE}
theorem nwC_obj (ha : ¬ G a = none) (h : nwC G G1 a al) (ha1 : ¬ G1 a = none) (hb : G1 b = none) (h2 : nwC (e_up G1 b df) G2 b al2) (hb2 : G2 b = some cb) : nwC G G2 a (al2 ++ (b, cb) :: al) := by
  have hba : ¬ b = a := fun z => ha1 (by rw [← z]; exact hb)
  have w := nw_call (nw_new (c := df) h.1 hb hba) List.mem_cons_self h2.1 (by rw [hb2]; simp) (fun x hx => by
    rw [hx, e_up_2 (fun z => hba z.symm)]
    exact ha1)
  refine ⟨by rw [List.map_append, List.map_cons]; exact w, fun p hp => ?_⟩
  rcases List.mem_append.mp hp with hp | hp
  · exact h2.2 p hp
  · rcases List.mem_cons.mp hp with rfl | hp
    · exact hb2
    · have hne := nwC_ne h hb hp
      exact nw_keep h2.1 (by rw [e_up_2 hne]; exact h.2 p hp) hne
theorem nwC_kp {y : Nat} {v : pE} (h : nwC (e_up G1 b df) G2 b al2) (hy : G1 y = some v) (hb : G1 b = none) : G2 y = some v := by
  have hne : ¬ y = b := fun z => by rw [z, hb] at hy; cases hy
  exact nw_keep h.1 (by rw [e_up_2 hne]; exact hy) hne
end
abbrev pF5 : Type := Nat × Nat × Nat × Nat × Nat
def ent (e : pF5) : List (Nat × pE) := [(e.2.2.2.2, z3), (e.2.2.2.1, z4), (e.2.2.1, z4), (e.2.1, z4), (e.1, .inr (4, fcel e.2.1 e.2.2.1 e.2.2.2.1 e.2.2.2.2))]
def alF : List pF5 → List (Nat × pE)
  | [] => []
  | e :: rl => ent e ++ alF rl
def afF : List pF5 → Nat → Option Nat
  | [] => fun _ => none
  | e :: rl => va_up (afF rl) rl.length (some e.1)
abbrev fary (f : Nat → Option Nat) : pE := .inl (3, 60, .inr (.inr (.inr (.inr f))))
theorem e_M_mono {l : Launch} {y : MethodName} {ws : List Cond} {rm : Room} {As : List Value} {G : pH} {post post2 : Option Value → pH → Prop} (h : e_M l y ws rm As G post) (hp : ∀ v G2, post v G2 → post2 v G2) : e_M l y ws rm As G post2 := by
  intro D cs base
  refine MetFree.mono (h D cs base) (fun _ _ h => h) (fun _ _ _ _ _ h => h) (fun a s o t hP hQ => ?_)
  obtain ⟨⟨⟨v, G2, h1, h2, h3⟩, h4⟩, h5⟩ := hQ
  exact ⟨⟨⟨v, G2, h1, hp v G2 h2, h3⟩, h4⟩, h5⟩
set_option maxHeartbeats 4000000 in
set_option maxRecDepth 100000 in
theorem m_X2_init2 (l : Launch) {G : pH} {b : Nat} (hb : G b = none) : e_MX2_init l [.ref b] (e_up G b (.inr (4, dfX2))) (fun v G2 => v = none ∧ ∃ e : pF5, e.1 = b ∧ ∀ (G0 : pH) (a : Nat) (al : List (Nat × pE)), ¬ G0 a = none → nwC G0 G a al → ¬ G a = none → nwC G0 G2 a (ent e ++ al) ∧ ∀ y v, G y = some v → G2 y = some v) := by
  have h := m_X2_init l (G := e_up G b (.inr (4, dfX2))) (a := b) e_up_1
  refine e_M_mono h ?_
  rintro v G2 ⟨rfl, t0, t1, t2, t3, w, f0, f1, f2, f3, f4⟩
  refine ⟨rfl, (b, t0, t1, t2, t3), rfl, fun G0 a al ha hn ha1 => ?_⟩
  have hc : nwC (e_up G b (.inr (4, dfX2))) G2 b [(t3, z3), (t2, z4), (t1, z4), (t0, z4)] := by
    refine ⟨w, fun p hp => ?_⟩
    simp only [List.mem_cons, List.not_mem_nil, or_false] at hp
    rcases hp with rfl | rfl | rfl | rfl
    · exact f4
    · exact f3
    · exact f2
    · exact f1
  exact ⟨nwC_obj ha hn ha1 hb hc f0, fun y v hy => nwC_kp hc hy hb⟩
/-! methods that make an array of facts: what they need of the tables besides -/
abbrev aoF (U : State) : Prop := va_AO "FactLog$Fact" U
def e_MA (l : Launch) (y : MethodName) (ws : List Cond) (rm : Room) (As : List Value) (G : pH) (post : Option Value → pH → Prop) : Prop :=
  ∀ (D : va_G) (cs : Nat → ClassId) (base : Nat), Met l y ws rm (va_Pc As (fun U => (base ≤ U.heap.size ∧ e_H D cs base G U.heap ∧ va_K D vwCl (e_tys cs) U ∧ e_N U) ∧ aoF U)) (fun _ st oc t => (∃ (v : Option Value) (G2 : pH), oc = .returned v ∧ post v G2 ∧ e_H D cs base G2 t.heap) ∧ va_F (e_A base) st t) rm.cells rm.slots (e_A base)
def e_CA (V : pV) (l : Launch) (own : String) (cc : ByteArray) (nL : Nat) (ws : List Cond) (R : Room) (ini : Bool) : Prop :=
  ∃ (p : Program) (e : Env) (s : State) (m : MethodId) (args : Array Value) (below : List Frame) (meth : Method) (c : Code) (D : va_G) (cs : Nat → ClassId) (base : Nat) (Q : State → Prop), (V = e_W p l e R s m args below meth c D cs base nL Q ∧ CallFix p m c cc nL s args ws own ∧ (va_K D vwCl (e_tys cs) s ∧ e_N s) ∧ base ≤ s.heap.size ∧ (ini = true → meth.name = "<init>")) ∧ aoF s
theorem e_CA_C {V : pV} {l : Launch} {own : String} {cc : ByteArray} {nL : Nat} {ws : List Cond} {R : Room} {ini : Bool} (h : e_CA V l own cc nL ws R ini) : e_C V l own cc nL ws R ini := by
  obtain ⟨p, e, s, m, args, below, meth, c, D, cs, base, Q, h1, -⟩ := h
  exact ⟨p, e, s, m, args, below, meth, c, D, cs, base, Q, h1⟩
theorem e_blindA {As : List Value} {base : Nat} {D : va_G} {cs : Nat → ClassId} {G : pH} : FrameBlind (va_Pc As (fun U => (base ≤ U.heap.size ∧ e_H D cs base G U.heap ∧ va_K D vwCl (e_tys cs) U ∧ e_N U) ∧ aoF U)) := fun a U g mk q => by
  obtain ⟨q0, ⟨q1, q2, q3, q4⟩, q5⟩ := q
  exact ⟨q0, ⟨q1, q2, va_K.moved (u := U) (U := U.calling g mk a) (Vm.Alike.refl U.vm) q3, e_N.same (s := U) (U := U.calling g mk a) rfl q4⟩, va_AO.moved (u := U) (U := U.calling g mk a) (Vm.Alike.refl U.vm) q5⟩
theorem e_MA_of {l : Launch} {y : MethodName} {own : String} {ws ws2 : List Cond} {rm : Room} {cc : ByteArray} {maxL : Nat} {ret : Option FieldType} {ini : Bool} {As : List Value} {G : pH} {post : Option Value → pH → Prop}
    (hy : plainName y.cls = true) (hyo : y.cls = own) (hw : ws = Cond.code y cc maxL ret :: ws2) (hn : (lg_sl As).length ≤ maxL) (hini : ini = true → y.name = "<init>")
    (body : ∀ V : pV, e_CA V l own cc maxL ws rm ini → e_R V cc ret rm.cells rm.slots post → V 0 0 0 (lv_args 0 As) [] G) : e_MA l y ws rm As G post := by
  subst hyo
  intro D cs base
  refine Met.ofW (cc := cc) (maxL := maxL) (ret := ret) hy hw ?_
  intro p e s m args below meth c s₁ B hml hv
  obtain ⟨rfl, ⟨hbs, hH, hK, hN⟩, hao⟩ := hv
  have hx := B.exec
  have hb := B.bytes
  have hr := B.returns
  have hts := atoms_spec (ws := ws) B.pre
  have hown : s.vm.findClass y.cls = some m.cls := findClass_of_methodNamed B.named
  have hlocks := B.notSynchronized
  have hnm : meth.name = y.name := (name_of_methodNamed B.named B.method).1
  have hl := lv_entry As (n := maxL) hn
  rw [lg_entry_eq]
  refine body (e_W p l e rm s m As.toArray below meth c D cs base maxL (MQ below (fun _ st oc t => (∃ (v : Option Value) (G2 : pH), oc = .returned v ∧ post v G2 ∧ e_H D cs base G2 t.heap) ∧ va_F (e_A base) st t) As.toArray s rm.cells rm.slots (e_A base))) ⟨p, e, s, m, _, below, meth, c, D, cs, base, _, ⟨rfl, ⟨hx, hb, hml, hown, hts⟩, ⟨hK, hN⟩, hbs, fun h => hnm.trans (hini h)⟩, hao⟩ ?_ s.heap [] _ hH va_S.rf hl
  intro pc lv G2
  refine ⟨fun v t hd h0 h1 h2 => ?_, fun v hd h1 h2 => ?_, fun v t hd h0 h1 h2 => ?_, fun hd h1 h2 => ?_⟩
  · intro H locs ls hH2 hS2 hl2
    exact W.zret hx hb (hr.trans h0) h1 (fun t ht hW => ⟨⟨_, G2, rfl, h2, by rw [ht]; exact hH2⟩, hS2.F ht⟩) hS2.2.2 hd
  · intro H locs ls hH2 hS2 hl2
    exact W.lret hx hb (hr.trans h1) (fun t ht hW => ⟨⟨_, G2, rfl, h2, by rw [ht]; exact hH2⟩, hS2.F ht⟩) hS2.2.2 hd
  · intro H locs ls hH2 hS2 hl2
    exact W.aret hx hb (hr.trans h0) h1 (Or.inr ⟨v, rfl⟩) (fun t ht hW => ⟨⟨_, G2, rfl, h2, by rw [ht]; exact hH2⟩, hS2.F ht⟩) hS2.2.2 hd
  · intro H locs ls hH2 hS2 hl2
    exact W.vret hx hb (hr.trans h1) (fun t ht hW => ⟨⟨_, G2, rfl, h2, by rw [ht]; exact hH2⟩, hS2.F ht⟩) hS2.2.2 hd
theorem c_IA {V : pV} {l : Launch} {own : String} {cc : ByteArray} {nL : Nat} {ws : List Cond} {R : Room} {ini : Bool} {cells slots pc : Nat} {lv : pL} {rest : List Value} {G : pH} (C : e_CA V l own cc nL ws R ini) (hws : ∀ w ∈ WS, w ∈ ws) {y : MethodName} {bytes : ByteArray} {maxL n : Nat} {rm : Room} {idx : Nat} {As : List Value} {post : Option Value → pH → Prop} {b : Nat} (Y : e_YI y bytes maxL n) (hlk : Cond.methodLink own idx y ∈ WS) (hM : e_MA l y (Cond.code y bytes maxL none :: WS) rm (.ref b :: As) G post) (hn : As.length = n) (hR : rm.frames + 1 ≤ R.frames ∧ 8 + (maxL + 11) + rm.locals ≤ R.locals) (hcs : cells + rm.cells ≤ R.cells ∧ slots + rm.slots ≤ R.slots) (hcat : (rest.map fun v => v.category).sum ≤ 8) (hd : decode cc pc = .ok (.invokespecial idx, 3)) (k : ∀ v G2, post v G2 → V (cells + rm.cells) (slots + rm.slots) (pc + 3) lv (v.toList ++ rest) G2) : V cells slots pc lv (As.reverse ++ .ref b :: rest) G := by
  obtain ⟨p, e, s, m, args, below, meth, c, D, cs, base, Q, ⟨rfl, ⟨hx, hb, hml, hown, hts⟩, ⟨hK, hN⟩, hbs, hin⟩, hao⟩ := C
  intro H locs ls hH hS hl
  obtain ⟨y1, y2, y3, y4, y5⟩ := Y
  have hw : ∀ w ∈ WS, w.before args s = true := fun w h => hts w (hws w h)
  subst hn
  exact e_back hS hl (va_runI (As := As) (rest := rest) ⟨hx, hb, hml, hown, hts⟩ (hM D cs base) ⟨callB_of As.length hts (e_good hws y1) rfl rfl rfl (hw _ y2) (hw _ hlk) y5 hR, y4, hw _ y3⟩ ⟨e_blindA, fun U hU hW => ⟨rfl, ⟨by rw [hU]; exact Nat.le_trans hbs hS.1, by rw [hU]; exact hH, va_K.moved hW.alike hK, e_N.warm hW hN⟩, va_AO.moved hW.alike hao⟩⟩ rfl rfl hl.1 rfl (lv_room hcat) hd hcs) k
theorem c_anewA {V : pV} {l : Launch} {own : String} {cc : ByteArray} {nL : Nat} {ws : List Cond} {R : Room} {ini : Bool} {cells slots pc : Nat} {lv : pL} {rest : List Value} {G : pH} (C : e_CA V l own cc nL ws R ini) (hws : ∀ w ∈ WS, w ∈ ws) {idx : Nat} {n : Int32} {N : Nat} (hn : ¬ n < 0) (hNn : n.toNatClampNeg = N) (hbytes : N * 4 ≤ 536870912) (hcs : cells + 1 ≤ R.cells ∧ slots + N ≤ R.slots) (hlk : Cond.classLink own idx "FactLog$Fact" ∈ WS) (hd : decode cc pc = .ok (.anewarray idx, 3)) (k : ∀ a, G a = none → V (cells + 1) (slots + N) (pc + 3) lv (.ref a :: rest) (e_up G a (.inl (3, N, .inr (.inr (.inr (.inr (fun _ => none)))))))) : V cells slots pc lv (.int n :: rest) G := by
  obtain ⟨p, e, s, m, args, below, meth, c, D, cs, base, Q, ⟨rfl, ⟨hx, hb, hml, hown, hts⟩, ⟨hK, hN⟩, hbs, hin⟩, hao⟩ := C
  intro H locs ls hH hS hl
  have hw : ∀ w ∈ WS, w.before args s = true := fun w h => hts w (hws w h)
  subst hNn
  refine W.anew hx hb hown (hw _ hlk) (va_AO.use hao) rfl hd rfl hn hbytes hcs.1 hcs.2 fun cA kA comp f1 f2 f3 f4 => ?_
  generalize hH1 : H.push ({ cls := cA, slots := Array.replicate n.toNatClampNeg .null, vm := .none } : Cell) = H1
  have z1 : H1.size = H.size + 1 := by rw [← hH1, Array.size_push]
  have e1 : H1[H.size]? = some (arrV cA n.toNatClampNeg (fun _ => .null)) := by rw [← hH1, Array.getElem?_push_size, ← arrV_new]
  have o1 : ∀ q : Nat, q < H.size → H1[q]? = H[q]? := fun q hq => by rw [← hH1, Array.getElem?_push, if_neg (Nat.ne_of_lt hq)]
  have hcA : cs 3 = cA := by
    obtain ⟨kA9, comp9, h1, h2, h3, h4⟩ := (hK.2 3 _ rfl).2
    exact Option.some.inj (h4.symm.trans f1)
  obtain ⟨g1, g2⟩ := hH.add (x := .inl (3, n.toNatClampNeg, .inr (.inr (.inr (.inr (fun _ => none)))))) (Nat.le_trans hbs hS.1) (by show H1[H.size]? = some (vp_cell (cs 3) _); rw [hcA, vp_cell_q]; exact e1) o1
  exact k H.size g1 H1 locs ls g2 ⟨Nat.le_trans hS.1 (by omega), fun x h1 h2 => (o1 x (Nat.lt_of_lt_of_le h1 hS.1)).trans (hS.2.1 x h1 h2), hS.2.2⟩ hl
theorem nwC_in {G G1 : pH} {a : Nat} {al : List (Nat × pE)} {p : Nat × pE} (h : nwC G G1 a al) (hp : p ∈ al) : G1 p.1 = some p.2 := h.2 p hp
section
variable {V : pV} {l : Launch} {post : Option Value → pH → Prop} {G : pH} {a : Nat}
set_option maxHeartbeats 4000000 in
set_option maxRecDepth 100000 in
theorem lp_X0_init (C : e_CX0_init V l) (Rt : e_RX0_init V post) (ha : ¬ G a = none) {arr : Nat} {e0 : pF5} (hp : ∀ rl G2, rl.length = 60 → nwC G G2 a (alF rl ++ (ent e0 ++ [(arr, fary (afF rl))])) → G2 a = some (.inr (2, [.ref arr, .int 0, .ref e0.1])) → post none G2) : ∀ k rl G1, rl.length + k = 60 → nwC G G1 a (alF rl ++ (ent e0 ++ [(arr, fary (afF rl))])) → G1 a = some (.inr (2, [.ref arr, .int 0, .ref e0.1])) → V (6 + 5 * rl.length) (85 + 25 * rl.length) 26 [(0, .ref a), (1, .int (nI rl.length))] [] G1 := by
  intro k
  induction k with
  | zero =>
    intro rl G1 hk hw hG1
    have hl : rl.length = 60 := by omega
    have h5 : 6 + 5 * rl.length ≤ 306 := by omega
    have h6 : 85 + 25 * rl.length ≤ 1585 := by omega
    refine runX0_init C Rt [26] 20 ?_
    simp only [e_go, e_1, e_op, e_pi, e_pl, e_pr, e_p0, e_li, e_ll, e_lr, e_lk, e_ins, e_rm, e_ob, e_ai, e_aj, e_aq, e_an, e_nth, e_to, e_sw, e_cmp, k_c, k_n, k_f, k_v, k_lg, ↓reduceIte, reduceCtorEq, Nat.reduceAdd, Nat.reduceSub, Nat.reduceMul, Nat.reduceEqDiff, Nat.reduceLT, Nat.reduceLeDiff, Int.reduceAdd, Int.reduceSub, Int.reduceNeg, Int.reduceLE, Int.reduceLT, Int.reduceToNat, Int.reduceEq, Int.cast_ofNat_Int, List.mem_cons, List.not_mem_nil, List.length_cons, List.length_nil, List.set_cons_zero, List.set_cons_succ, List.toList_toArray, eq_self, true_and, and_true, and_self, or_true, true_or, false_or, or_false, or_self, not_true_eq_false, not_false_eq_true, Classical.not_not, true_implies, false_implies, implies_true, forall_const, and_false, false_and, e_up_e, va_rf_s, va_rf_n, Nat.le_refl, Nat.zero_le, Bool.false_eq_true, lv_args, DX0_init_0, FLX0, LDX0, (show (60 : Int32) = nI 60 from rfl), hl, x_le (a := 60) (b := 60) (by omega) (by omega)]
    exact hp rl G1 hl hw hG1
  | succ k ih =>
    intro rl G1 hk hw hG1
    have hl : ¬ 60 ≤ rl.length := by omega
    have h1 : ¬ G1 a = none := fun z => by rw [hG1] at z; cases z
    have harr : G1 arr = some (fary (afF rl)) := hw.2 (arr, fary (afF rl)) (by simp)
    refine runX0_init C Rt [26] 20 ?_
    simp only [e_go, e_1, e_op, e_pi, e_pl, e_pr, e_p0, e_li, e_ll, e_lr, e_lk, e_ins, e_rm, e_ob, e_ai, e_aj, e_aq, e_an, e_nth, e_to, e_sw, e_cmp, k_c, k_n, k_f, k_v, k_lg, ↓reduceIte, reduceCtorEq, Nat.reduceAdd, Nat.reduceSub, Nat.reduceMul, Nat.reduceEqDiff, Nat.reduceLT, Nat.reduceLeDiff, Int.reduceAdd, Int.reduceSub, Int.reduceNeg, Int.reduceLE, Int.reduceLT, Int.reduceToNat, Int.reduceEq, Int.cast_ofNat_Int, List.mem_cons, List.not_mem_nil, List.length_cons, List.length_nil, List.set_cons_zero, List.set_cons_succ, List.toList_toArray, eq_self, true_and, and_true, and_self, or_true, true_or, false_or, or_false, or_self, not_true_eq_false, not_false_eq_true, Classical.not_not, true_implies, false_implies, implies_true, forall_const, and_false, false_and, e_up_e, va_rf_s, va_rf_n, Nat.le_refl, Nat.zero_le, Bool.false_eq_true, lv_args, DX0_init_0, FLX0, LDX0, (show (60 : Int32) = nI 60 from rfl), x_le (a := 60) (b := rl.length) (by omega) (by omega), hl, hG1]
    refine nX0_init_37 C (by constructor <;> simp [rmX0_init] <;> omega) (fun b hb => ?_)
    refine runX0_init C Rt [26] 20 ?_
    simp only [e_go, e_1, e_op, e_pi, e_pl, e_pr, e_p0, e_li, e_ll, e_lr, e_lk, e_ins, e_rm, e_ob, e_ai, e_aj, e_aq, e_an, e_nth, e_to, e_sw, e_cmp, k_c, k_n, k_f, k_v, k_lg, ↓reduceIte, reduceCtorEq, Nat.reduceAdd, Nat.reduceSub, Nat.reduceMul, Nat.reduceEqDiff, Nat.reduceLT, Nat.reduceLeDiff, Int.reduceAdd, Int.reduceSub, Int.reduceNeg, Int.reduceLE, Int.reduceLT, Int.reduceToNat, Int.reduceEq, Int.cast_ofNat_Int, List.mem_cons, List.not_mem_nil, List.length_cons, List.length_nil, List.set_cons_zero, List.set_cons_succ, List.toList_toArray, eq_self, true_and, and_true, and_self, or_true, true_or, false_or, or_false, or_self, not_true_eq_false, not_false_eq_true, Classical.not_not, true_implies, false_implies, implies_true, forall_const, and_false, false_and, e_up_e, va_rf_s, va_rf_n, Nat.le_refl, Nat.zero_le, Bool.false_eq_true, lv_args, DX0_init_0, FLX0, LDX0]
    refine sX0_init_41 C (m_X2_init2 l hb) (by constructor <;> simp [rmX0_init] <;> omega) (hcat := Nat.le_of_ble_eq_true rfl) (k := ?_)
    rintro v G2 ⟨rfl, e, rfl, hf⟩
    obtain ⟨w2, kp⟩ := hf G a _ ha hw h1
    have hG2 : G2 a = some (.inr (2, [.ref arr, .int 0, .ref e0.1])) := kp a _ hG1
    have harr2 : G2 arr = some (fary (afF rl)) := kp arr _ harr
    have hb2 : G2 e.1 = some (.inr (4, fcel e.2.1 e.2.2.1 e.2.2.2.1 e.2.2.2.2)) := w2.2 (e.1, .inr (4, fcel e.2.1 e.2.2.1 e.2.2.2.1 e.2.2.2.2)) (by simp [ent])
    have hna : ¬ a = arr := fun z => by rw [← z, hG2] at harr2; cases harr2
    refine r_aast C harr2 hb2 ((x_in (by omega)).mpr (by omega)) DX0_init_0.2.2.2.2.2.2.2.2.2.2.2.2.2.2.2.2.2.2.2.2.2.2.1 ?_
    rw [x_cl (a := rl.length) (by omega)]
    have w3 : nwC G (e_up G2 arr (fary (afF (e :: rl)))) a (alF (e :: rl) ++ (ent e0 ++ [(arr, fary (afF (e :: rl)))])) := by
      have h9 := nwC_mod (c' := fary (afF (e :: rl))) (al1 := ent e ++ alF rl ++ ent e0) (al2 := []) (t := arr) (c := fary (afF rl)) (G := G) (G1 := G2) (a := a) (by
        rw [List.append_assoc, List.append_assoc]
        exact w2)
      rw [List.append_assoc] at h9
      exact h9
    have hG3 : (e_up G2 arr (fary (afF (e :: rl)))) a = some (.inr (2, [.ref arr, .int 0, .ref e0.1])) := by rw [e_up_2 hna]; exact hG2
    have h26 := ih (e :: rl) _ (by simp only [List.length_cons]; omega) w3 hG3
    have e5 : 6 + 5 * (e :: rl).length = 6 + 5 * rl.length + 1 + 4 := by simp only [List.length_cons]; omega
    have e6 : 85 + 25 * (e :: rl).length = 85 + 25 * rl.length + 10 + 15 := by simp only [List.length_cons]; omega
    rw [e5, e6] at h26
    refine runX0_init C Rt [26] 20 ?_
    simp only [e_go, e_1, e_op, e_pi, e_pl, e_pr, e_p0, e_li, e_ll, e_lr, e_lk, e_ins, e_rm, e_ob, e_ai, e_aj, e_aq, e_an, e_nth, e_to, e_sw, e_cmp, k_c, k_n, k_f, k_v, k_lg, ↓reduceIte, reduceCtorEq, Nat.reduceAdd, Nat.reduceSub, Nat.reduceMul, Nat.reduceEqDiff, Nat.reduceLT, Nat.reduceLeDiff, Int.reduceAdd, Int.reduceSub, Int.reduceNeg, Int.reduceLE, Int.reduceLT, Int.reduceToNat, Int.reduceEq, Int.cast_ofNat_Int, List.mem_cons, List.not_mem_nil, List.length_cons, List.length_nil, List.set_cons_zero, List.set_cons_succ, List.toList_toArray, eq_self, true_and, and_true, and_self, or_true, true_or, false_or, or_false, or_self, not_true_eq_false, not_false_eq_true, Classical.not_not, true_implies, false_implies, implies_true, forall_const, and_false, false_and, e_up_e, va_rf_s, va_rf_n, Nat.le_refl, Nat.zero_le, Bool.false_eq_true, lv_args, DX0_init_0, FLX0, LDX0, nI_1]
    exact h26
end
set_option maxHeartbeats 4000000 in
set_option maxRecDepth 100000 in
theorem m_X0_init (l : Launch) {G : pH} {a : Nat} (hG : G a = some (.inr (2, dfX0))) : e_MA l yX0_init wX0_init rmX0_init [.ref a] G (fun v G2 => v = none ∧ ∃ (arr : Nat) (e0 : pF5) (rl : List pF5), rl.length = 60 ∧ nwC G G2 a (alF rl ++ (ent e0 ++ [(arr, fary (afF rl))])) ∧ G2 a = some (.inr (2, [.ref arr, .int 0, .ref e0.1]))) := by
  have ha : ¬ G a = none := fun z => by rw [hG] at z; cases z
  refine e_MA_of (ini := true) (by decide) rfl rfl (Nat.le_of_ble_eq_true rfl) (fun _ => rfl) ?_
  intro V CA Rt
  have C : e_CX0_init V l := e_CA_C CA
  refine runX0_init C Rt [] 9 ?_
  simp only [e_go, e_1, e_op, e_pi, e_pl, e_pr, e_p0, e_li, e_ll, e_lr, e_lk, e_ins, e_rm, e_ob, e_ai, e_aj, e_aq, e_an, e_nth, e_to, e_sw, e_cmp, k_c, k_n, k_f, k_v, k_lg, ↓reduceIte, reduceCtorEq, Nat.reduceAdd, Nat.reduceSub, Nat.reduceMul, Nat.reduceEqDiff, Nat.reduceLT, Nat.reduceLeDiff, Int.reduceAdd, Int.reduceSub, Int.reduceNeg, Int.reduceLE, Int.reduceLT, Int.reduceToNat, Int.reduceEq, Int.cast_ofNat_Int, List.mem_cons, List.not_mem_nil, List.length_cons, List.length_nil, List.set_cons_zero, List.set_cons_succ, List.toList_toArray, eq_self, true_and, and_true, and_self, or_true, true_or, false_or, or_false, or_self, not_true_eq_false, not_false_eq_true, Classical.not_not, true_implies, false_implies, implies_true, forall_const, and_false, false_and, e_up_e, va_rf_s, va_rf_n, Nat.le_refl, Nat.zero_le, Bool.false_eq_true, lv_args, DX0_init_0, FLX0, LDX0]
  refine oX0_init_1 C (by decide) ?_
  refine runX0_init C Rt [] 9 ?_
  simp only [e_go, e_1, e_op, e_pi, e_pl, e_pr, e_p0, e_li, e_ll, e_lr, e_lk, e_ins, e_rm, e_ob, e_ai, e_aj, e_aq, e_an, e_nth, e_to, e_sw, e_cmp, k_c, k_n, k_f, k_v, k_lg, ↓reduceIte, reduceCtorEq, Nat.reduceAdd, Nat.reduceSub, Nat.reduceMul, Nat.reduceEqDiff, Nat.reduceLT, Nat.reduceLeDiff, Int.reduceAdd, Int.reduceSub, Int.reduceNeg, Int.reduceLE, Int.reduceLT, Int.reduceToNat, Int.reduceEq, Int.cast_ofNat_Int, List.mem_cons, List.not_mem_nil, List.length_cons, List.length_nil, List.set_cons_zero, List.set_cons_succ, List.toList_toArray, eq_self, true_and, and_true, and_self, or_true, true_or, false_or, or_false, or_self, not_true_eq_false, not_false_eq_true, Classical.not_not, true_implies, false_implies, implies_true, forall_const, and_false, false_and, e_up_e, va_rf_s, va_rf_n, Nat.le_refl, Nat.zero_le, Bool.false_eq_true, lv_args, DX0_init_0, FLX0, LDX0]
  refine c_anewA CA (fun w h => List.mem_cons_of_mem _ h) (idx := 9) (by decide) (show ((60 : Int32)).toNatClampNeg = 60 by decide) (by decide) (by decide) (WS_at 77 (by decide +kernel) rfl) DX0_init_0.2.2.2.2.1 (fun arr h0 => ?_)
  have n0 : ¬ arr = a := fun z => by rw [z, hG] at h0; cases h0
  have n0' : ¬ a = arr := fun z => n0 z.symm
  refine runX0_init C Rt [13] 9 ?_
  simp only [e_go, e_1, e_op, e_pi, e_pl, e_pr, e_p0, e_li, e_ll, e_lr, e_lk, e_ins, e_rm, e_ob, e_ai, e_aj, e_aq, e_an, e_nth, e_to, e_sw, e_cmp, k_c, k_n, k_f, k_v, k_lg, ↓reduceIte, reduceCtorEq, Nat.reduceAdd, Nat.reduceSub, Nat.reduceMul, Nat.reduceEqDiff, Nat.reduceLT, Nat.reduceLeDiff, Int.reduceAdd, Int.reduceSub, Int.reduceNeg, Int.reduceLE, Int.reduceLT, Int.reduceToNat, Int.reduceEq, Int.cast_ofNat_Int, List.mem_cons, List.not_mem_nil, List.length_cons, List.length_nil, List.set_cons_zero, List.set_cons_succ, List.toList_toArray, eq_self, true_and, and_true, and_self, or_true, true_or, false_or, or_false, or_self, not_true_eq_false, not_false_eq_true, Classical.not_not, true_implies, false_implies, implies_true, forall_const, and_false, false_and, e_up_e, va_rf_s, va_rf_n, Nat.le_refl, Nat.zero_le, Bool.false_eq_true, lv_args, DX0_init_0, FLX0, LDX0, n0', hG, dfX0]
  have w1 := nwC_new (c := fary (fun _ => none)) (x := .inr (2, [.ref arr, .int 0, .null])) ha nwC_0 h0 n0
  generalize hG1 : e_up (e_up G arr (fary (fun _ => none))) a (.inr (2, [.ref arr, .int 0, .null])) = G1 at w1 ⊢
  have g1 : G1 a = some (.inr (2, [.ref arr, .int 0, .null])) := by rw [← hG1, e_up_1]
  have g1' : ¬ G1 a = none := fun z => by rw [g1] at z; cases z
  clear hG1
  refine runX0_init C Rt [] 9 ?_
  simp only [e_go, e_1, e_op, e_pi, e_pl, e_pr, e_p0, e_li, e_ll, e_lr, e_lk, e_ins, e_rm, e_ob, e_ai, e_aj, e_aq, e_an, e_nth, e_to, e_sw, e_cmp, k_c, k_n, k_f, k_v, k_lg, ↓reduceIte, reduceCtorEq, Nat.reduceAdd, Nat.reduceSub, Nat.reduceMul, Nat.reduceEqDiff, Nat.reduceLT, Nat.reduceLeDiff, Int.reduceAdd, Int.reduceSub, Int.reduceNeg, Int.reduceLE, Int.reduceLT, Int.reduceToNat, Int.reduceEq, Int.cast_ofNat_Int, List.mem_cons, List.not_mem_nil, List.length_cons, List.length_nil, List.set_cons_zero, List.set_cons_succ, List.toList_toArray, eq_self, true_and, and_true, and_self, or_true, true_or, false_or, or_false, or_self, not_true_eq_false, not_false_eq_true, Classical.not_not, true_implies, false_implies, implies_true, forall_const, and_false, false_and, e_up_e, va_rf_s, va_rf_n, Nat.le_refl, Nat.zero_le, Bool.false_eq_true, lv_args, DX0_init_0, FLX0, LDX0]
  refine nX0_init_14 C (by decide) (fun b hb => ?_)
  refine runX0_init C Rt [] 9 ?_
  simp only [e_go, e_1, e_op, e_pi, e_pl, e_pr, e_p0, e_li, e_ll, e_lr, e_lk, e_ins, e_rm, e_ob, e_ai, e_aj, e_aq, e_an, e_nth, e_to, e_sw, e_cmp, k_c, k_n, k_f, k_v, k_lg, ↓reduceIte, reduceCtorEq, Nat.reduceAdd, Nat.reduceSub, Nat.reduceMul, Nat.reduceEqDiff, Nat.reduceLT, Nat.reduceLeDiff, Int.reduceAdd, Int.reduceSub, Int.reduceNeg, Int.reduceLE, Int.reduceLT, Int.reduceToNat, Int.reduceEq, Int.cast_ofNat_Int, List.mem_cons, List.not_mem_nil, List.length_cons, List.length_nil, List.set_cons_zero, List.set_cons_succ, List.toList_toArray, eq_self, true_and, and_true, and_self, or_true, true_or, false_or, or_false, or_self, not_true_eq_false, not_false_eq_true, Classical.not_not, true_implies, false_implies, implies_true, forall_const, and_false, false_and, e_up_e, va_rf_s, va_rf_n, Nat.le_refl, Nat.zero_le, Bool.false_eq_true, lv_args, DX0_init_0, FLX0, LDX0]
  refine sX0_init_18 C (m_X2_init2 l hb) (by decide) (hcat := Nat.le_of_ble_eq_true rfl) (k := ?_)
  rintro v G2 ⟨rfl, e, rfl, hf⟩
  obtain ⟨w2, kp⟩ := hf G a _ ha w1 g1'
  have g2 : G2 a = some (.inr (2, [.ref arr, .int 0, .null])) := kp a _ g1
  refine runX0_init C Rt [26] 9 ?_
  simp only [e_go, e_1, e_op, e_pi, e_pl, e_pr, e_p0, e_li, e_ll, e_lr, e_lk, e_ins, e_rm, e_ob, e_ai, e_aj, e_aq, e_an, e_nth, e_to, e_sw, e_cmp, k_c, k_n, k_f, k_v, k_lg, ↓reduceIte, reduceCtorEq, Nat.reduceAdd, Nat.reduceSub, Nat.reduceMul, Nat.reduceEqDiff, Nat.reduceLT, Nat.reduceLeDiff, Int.reduceAdd, Int.reduceSub, Int.reduceNeg, Int.reduceLE, Int.reduceLT, Int.reduceToNat, Int.reduceEq, Int.cast_ofNat_Int, List.mem_cons, List.not_mem_nil, List.length_cons, List.length_nil, List.set_cons_zero, List.set_cons_succ, List.toList_toArray, eq_self, true_and, and_true, and_self, or_true, true_or, false_or, or_false, or_self, not_true_eq_false, not_false_eq_true, Classical.not_not, true_implies, false_implies, implies_true, forall_const, and_false, false_and, e_up_e, va_rf_s, va_rf_n, Nat.le_refl, Nat.zero_le, Bool.false_eq_true, lv_args, DX0_init_0, FLX0, LDX0, g2, Option.toList, List.nil_append]
  have w3 := nwC_set (x := .inr (2, [.ref arr, .int 0, .ref e.1])) ha w2
  exact lp_X0_init (e0 := e) C Rt ha (fun rl G2 h1 h2 h3 => ⟨rfl, arr, e, rl, h1, h2, h3⟩) 60 [] _ rfl w3 e_up_1
