/-! disk and poke: what they throw -/
def xAI : String := "java/lang/ArrayIndexOutOfBoundsException"
def xnm : List String := ["java/lang/IndexOutOfBoundsException", "java/lang/RuntimeException", "java/lang/Exception"]
def xL : List Cond := Cond.classLink "FactLog" 174 xAI :: Cond.initialized xAI :: vx_atS "FactLog" 178 xAI xnm
def xB : List Cond := [.declares (Bundle.initS "java/lang/IndexOutOfBoundsException"), .declares (Bundle.initS "java/lang/RuntimeException"), .declares (Bundle.initS "java/lang/Exception"), .declares (Bundle.initS "java/lang/Throwable"), .castable xAI xAI]
theorem xL_good : ∀ w ∈ xL.filter goodWord, w ∈ WS := by decide +kernel
theorem xL_bad : ∀ w ∈ xL.filter (fun w => !goodWord w), w ∈ xB := by decide +kernel
theorem xL_ot : ∀ w ∈ xL, vx_ot w = true := by decide +kernel
theorem xB_ot : ∀ w ∈ xB, w.onTables = true := by decide +kernel
theorem xB_s : ∀ w ∈ xB, (∃ x : MethodName, w = .declares x) ∨ ∃ a b : String, w = .castable a b := List.forall_mem_cons.mpr ⟨Or.inl ⟨_, rfl⟩, List.forall_mem_cons.mpr ⟨Or.inl ⟨_, rfl⟩, List.forall_mem_cons.mpr ⟨Or.inl ⟨_, rfl⟩, List.forall_mem_cons.mpr ⟨Or.inl ⟨_, rfl⟩, List.forall_mem_cons.mpr ⟨Or.inr ⟨_, _, rfl⟩, fun _ h => absurd h List.not_mem_nil⟩⟩⟩⟩⟩
def xtx : String := "no such place on the disk"
/-- what a throw needs of the state besides -/
def xZ (base : Nat) (U : State) : Prop := vx_Zq Bundle.tN "UNASSIGNED_STACK" Bundle.steD (e_A base) U U.heap ∧ vx_Zq Bundle.tN "SUPPRESSED_SENTINEL" Bundle.listD (e_A base) U U.heap ∧ (∃ sa, vk_R "FactLog" 176 xtx sa U) ∧ ∀ w ∈ xB, va_Nw w U
theorem xZ_to {base : Nat} {s U : State} {H : Heap} {locs : List Loc} (h : xZ base s) (hS : va_S (e_A base) s.heap H locs) (hU : U.heap = H) (hW : s.WarmedH U.vm) : xZ base U := by
  obtain ⟨h1, h2, ⟨sa, h3⟩, h4⟩ := h
  refine ⟨?_, ?_, ⟨sa, vk_R.warm hW h3⟩, fun w hw => ?_⟩
  · rw [hU]; exact vx_Zq.moved hW.alike (h1.kept hS.2.1)
  · rw [hU]; exact vx_Zq.moved hW.alike (h2.kept hS.2.1)
  · have h5 := h4 w hw
    rcases xB_s w hw with ⟨x, rfl⟩ | ⟨a, b, rfl⟩
    · exact va_Nw.warmD hW h5
    · exact va_Nw.warmC hW h5
theorem xZ_same {base : Nat} {U U2 : State} (h : xZ base U) (hv : U.vm = U2.vm) (hh : U.heap = U2.heap) : xZ base U2 := by
  obtain ⟨h1, h2, ⟨sa, h3⟩, h4⟩ := h
  have ha : U.vm.Alike U2.vm := by rw [hv]; exact Vm.Alike.refl _
  refine ⟨?_, ?_, ⟨sa, vk_R.same hv.symm h3⟩, fun w hw => va_Nw.same (xB_ot w hw) hv (h4 w hw)⟩
  · rw [← hh]; exact vx_Zq.moved ha h1
  · rw [← hh]; exact vx_Zq.moved ha h2
def e_T (l : Launch) (y : MethodName) (ws : List Cond) (rm : Room) (As : List Value) (G : pH) (post : Option Value → pH → Prop) (px : Prop) : Prop :=
  ∀ (D : va_G) (cs : Nat → ClassId) (base : Nat), vx_Met l y ws rm (va_Pc As (fun U => (base ≤ U.heap.size ∧ e_H D cs base G U.heap ∧ va_K D vwCl (e_tys cs) U ∧ e_N U) ∧ xZ base U)) (fun _ st oc t => (∃ (v : Option Value) (G2 : pH), oc = .returned v ∧ post v G2 ∧ e_H D cs base G2 t.heap) ∧ va_F (e_A base) st t) (fun E st t => E = xAI ∧ px ∧ e_H D cs base G t.heap ∧ va_F (e_A base) st t) rm.cells rm.slots (e_A base)
theorem e_blindT {As : List Value} {base : Nat} {D : va_G} {cs : Nat → ClassId} {G : pH} : FrameBlind (va_Pc As (fun U => (base ≤ U.heap.size ∧ e_H D cs base G U.heap ∧ va_K D vwCl (e_tys cs) U ∧ e_N U) ∧ xZ base U)) := fun a U g mk q => by
  obtain ⟨q0, ⟨q1, q2, q3, q4⟩, q5⟩ := q
  exact ⟨q0, ⟨q1, q2, va_K.moved (u := U) (U := U.calling g mk a) (Vm.Alike.refl U.vm) q3, e_N.same (s := U) (U := U.calling g mk a) rfl q4⟩, xZ_same (U := U) (U2 := U.calling g mk a) q5 rfl rfl⟩
def rmT : Room := { frames := 10, cells := 1, slots := 6, locals := 200 }
theorem e_T_of {l : Launch} {y : MethodName} {cc : ByteArray} {maxL : Nat} {ret : Option FieldType} {As : List Value} {G : pH} {post : Option Value → pH → Prop} {px : Prop} (hst : l.stackTraces = false)
    (hyo : y.cls = "FactLog") (hn : (lg_sl As).length ≤ maxL)
    (d0 : decode cc 11 = .ok (.new 174, 3)) (d3 : decode cc 14 = .ok (.dup, 1)) (d4 : decode cc 15 = .ok (.ldc 176, 2)) (d6 : decode cc 17 = .ok (.invokespecial 178, 3)) (d9 : decode cc 20 = .ok (.athrow, 1))
    (body : ∀ V : pV, e_C V l "FactLog" cc maxL (Cond.code y cc maxL ret :: WS) rmT false → e_R V cc ret 1 6 post → (∀ lv, px → V 0 0 11 lv [] G) → V 0 0 0 (lv_args 0 As) [] G) : e_T l y (Cond.code y cc maxL ret :: WS) rmT As G post px := by
  intro D cs base
  refine vx_ofW (cc := cc) (maxL := maxL) (ret := ret) (by rw [hyo]; decide) rfl ?_
  intro p e s m args below meth c s₁ B hml hnoh hv
  obtain ⟨rfl, ⟨hbs, hH, hK, hN⟩, hxz⟩ := hv
  have hx := B.exec
  have hb := B.bytes
  have hr := B.returns
  have hts := atoms_spec (ws := Cond.code y cc maxL ret :: WS) B.pre
  have hown : s.vm.findClass "FactLog" = some m.cls := by rw [← hyo]; exact findClass_of_methodNamed B.named
  have hlocks := B.notSynchronized
  have hl := lv_entry As (n := maxL) hn
  have hw : ∀ w ∈ WS, w.before As.toArray s = true := fun w h => hts w (List.mem_cons_of_mem _ h)
  rw [lg_entry_eq]
  refine body (e_W p l e rmT s m As.toArray below meth c D cs base maxL (vx_MQ below (fun _ st oc t => (∃ (v : Option Value) (G2 : pH), oc = .returned v ∧ post v G2 ∧ e_H D cs base G2 t.heap) ∧ va_F (e_A base) st t) (fun E st t => E = xAI ∧ px ∧ e_H D cs base G t.heap ∧ va_F (e_A base) st t) As.toArray s 1 6 (e_A base))) ⟨p, e, s, m, _, below, meth, c, D, cs, base, _, rfl, ⟨hx, hb, hml, hown, hts⟩, ⟨hK, hN⟩, hbs, fun h => by cases h⟩ ?_ ?_ s.heap [] _ hH va_S.rf hl
  · intro pc lv G2
    refine ⟨fun v t hd h0 h1 h2 => ?_, fun v hd h1 h2 => ?_, fun v t hd h0 h1 h2 => ?_, fun hd h1 h2 => ?_⟩
    · intro H locs ls hH2 hS2 hl2
      exact vx_ret (W.zret hx hb (hr.trans h0) h1 (fun t ht hW => ⟨⟨_, G2, rfl, h2, by rw [ht]; exact hH2⟩, hS2.F ht⟩) hS2.2.2 hd)
    · intro H locs ls hH2 hS2 hl2
      exact vx_ret (W.lret hx hb (hr.trans h1) (fun t ht hW => ⟨⟨_, G2, rfl, h2, by rw [ht]; exact hH2⟩, hS2.F ht⟩) hS2.2.2 hd)
    · intro H locs ls hH2 hS2 hl2
      exact vx_ret (W.aret hx hb (hr.trans h0) h1 (Or.inr ⟨v, rfl⟩) (fun t ht hW => ⟨⟨_, G2, rfl, h2, by rw [ht]; exact hH2⟩, hS2.F ht⟩) hS2.2.2 hd)
    · intro H locs ls hH2 hS2 hl2
      exact vx_ret (W.vret hx hb (hr.trans h1) (fun t ht hW => ⟨⟨_, G2, rfl, h2, by rw [ht]; exact hH2⟩, hS2.F ht⟩) hS2.2.2 hd)
  · intro lv hpx H locs ls hH2 hS2 hl2
    obtain ⟨z1, z2, ⟨sa, z3⟩, z4⟩ := hxz
    have hat : ∀ w ∈ xL, w.before As.toArray s = true := vx_hat (B := xB) (fun w h => hw w (xL_good w h)) xL_bad (fun w h => va_Nw.use (xB_ot w h) (z4 w h))
    exact vx_throwS (own := "FactLog") (cls := xAI) (text := xtx) (names := xnm) (ik := 174) (is := 176) (ic := 178) (sa := sa) (A := e_A base) (pc := 11) (rest := []) hx hb hst hown (by decide +kernel) (by decide +kernel) (hat _ List.mem_cons_self) (hat _ (List.mem_cons_of_mem _ List.mem_cons_self)) z3 (fun w h => hat w (List.mem_cons_of_mem _ (List.mem_cons_of_mem _ h))) xL_ot z1 z2 hS2 (by rw [hml]; exact hl2.1) d0 d3 d4 d6 d9 (fun x h => absurd h (fun h => hnoh x h)) (by decide) (by decide) (by decide) (by decide) hlocks (fun t hal hsz hkp => ⟨rfl, hpx, fun a x ha => ⟨(hH2 a x ha).1, (hH2 a x ha).2.kept (hkp a (hH2 a x ha).2.lt)⟩, Nat.le_trans hS2.1 hsz, fun q h1 h2 => by rw [hkp q (Nat.lt_of_lt_of_le h1 hS2.1)]; exact hS2.2.1 q h1 h2⟩) hS2.2.2 (by decide) (by decide)
