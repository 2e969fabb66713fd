theorem e_good {ws : List Cond} {w : Cond} (hws : ∀ w ∈ WS, w ∈ ws) (hw : w ∈ WS) : GoodIn ws (w :: WS) := fun x hx => (List.mem_cons.mp hx).elim (fun h => by subst h; exact ⟨hws _ hw, WS_good _ hw⟩) (fun h => ⟨hws _ h, WS_good _ h⟩)
theorem e_blind {As : List Value} {base : Nat} {D : va_G} {cs : Nat → ClassId} {G : pH} : FrameBlind (va_Pc As (fun U => base ≤ U.heap.size ∧ e_H D cs base G U.heap ∧ va_K D vwCl (e_tys cs) U ∧ e_N U)) := fun a U g mk q => by
  obtain ⟨q0, q1, q2, q3, q4⟩ := q
  exact ⟨q0, q1, q2, va_K.moved (u := U) (U := U.calling g mk a) (Vm.Alike.refl U.vm) q3, e_N.same (s := U) (U := U.calling g mk a) rfl q4⟩
section EC
variable {p : Program} {l : Launch} {e : Env} {R : Room} {s : State} {m : MethodId} {args : Array Value} {below : List Frame} {meth : Method} {c : Code} {D : va_G} {cs : Nat → ClassId} {base nL cells slots pc mc ms : Nat} {Q : State → Prop} {lv : pL} {rest st0 : List Value} {G : pH} {H : Heap} {locs : List Loc} {ls : Array Slot} {post : Option Value → pH → Prop}
theorem e_back (hS : va_S (e_A base) s.heap H locs) (hl : lv_has ls nL lv) (hr : va_Run p l e R s m args below meth c H locs cells slots mc ms (F0 m pc ls st0) rest (fun st oc t => (∃ (v : Option Value) (G2 : pH), oc = .returned v ∧ post v G2 ∧ e_H D cs base G2 t.heap) ∧ va_F (e_A base) st t) (e_A base))
    (k : ∀ v G2, post v G2 → e_W p l e R s m args below meth c D cs base nL Q (cells + mc) (slots + ms) (pc + 3) lv (v.toList ++ rest) G2) : W p l e R s m args below meth c H locs cells slots Q (F0 m pc ls st0) := by
  intro T hT X
  obtain ⟨v, st₀, t, T', L, h0, X', hL, e1, e2, ⟨⟨v', G2, hv, hp, hH2⟩, hz, hk⟩, st⟩ := hr T hT X
  cases hv
  rw [h0] at hz hk
  obtain ⟨t2, a1, b1⟩ := k v G2 hp T'.heap (locs ++ L) ls (by rw [e1]; exact hH2) ⟨Nat.le_trans hS.1 (by rw [e1]; exact hz), fun q h1 h2 => by rw [e1, hk q (Nat.lt_of_lt_of_le h1 hS.1) h2]; exact hS.2.1 q h1 h2, fun q hq => by
      rcases List.mem_append.mp hq with h | h
      · exact hS.2.2 q h
      · exact hL q h⟩ hl T' rfl X'
  exact ⟨t2, st t2 a1, b1⟩
end EC
def e_yc (y : MethodName) (n : Nat) : Prop := y.cls ≠ "java/lang/invoke/MethodHandle" ∧ y.cls ≠ "java/lang/invoke/VarHandle" ∧ (parseMethodDescriptor y.desc).map (fun d => d.parameters.length) = some n
def e_YV (y : MethodName) (bytes : ByteArray) (maxL : Nat) (ret : Option FieldType) (n : Nat) : Prop := Cond.code y bytes maxL ret ∈ WS ∧ Cond.initialized y.cls ∈ WS ∧ Cond.instanceMethod y ∈ WS ∧ Cond.selects y.cls y y ∈ WS ∧ e_yc y n
def e_YS (y : MethodName) (bytes : ByteArray) (maxL : Nat) (ret : Option FieldType) (n : Nat) : Prop := Cond.code y bytes maxL ret ∈ WS ∧ Cond.initialized y.cls ∈ WS ∧ Cond.static y ∈ WS ∧ e_yc y n
def e_YI (y : MethodName) (bytes : ByteArray) (maxL : Nat) (n : Nat) : Prop := Cond.code y bytes maxL none ∈ WS ∧ Cond.initialized y.cls ∈ WS ∧ Cond.instanceMethod y ∈ WS ∧ y.name = "<init>" ∧ e_yc y n
theorem c_V {V : pV} {l : Launch} {own : String} {cc : ByteArray} {nL : Nat} {ws : List Cond} {R : Room} {ini : Bool} {cells slots pc : Nat} {lv : pL} {rest : List Value} {G : pH} (C : e_C V l own cc nL ws R ini) (hws : ∀ w ∈ WS, w ∈ ws) {y : MethodName} {bytes : ByteArray} {maxL n : Nat} {rm : Room} {idx : Nat} {As : List Value} {post : Option Value → pH → Prop} {ret : Option FieldType} {b : Nat} (Y : e_YV y bytes maxL ret n) (hlk : Cond.methodLink own idx y ∈ WS) (hM : e_M l y (Cond.code y bytes maxL ret :: WS) rm (.ref b :: As) G post) {ci : Nat} {fs : List Value} (hg : G b = some (.inr (ci, fs))) {T : u_T} {N : Nat} (hci : vwCl[ci]? = some (y.cls, T, N)) (hn : As.length = n) (hR : rm.frames + 1 ≤ R.frames ∧ 8 + (maxL + 11) + rm.locals ≤ R.locals) (hcs : cells + rm.cells ≤ R.cells ∧ slots + rm.slots ≤ R.slots) (hcat : (rest.map fun v => v.category).sum ≤ 8) (hd : decode cc pc = .ok (.invokevirtual idx, 3)) (k : ∀ v G2, post v G2 → V (cells + rm.cells) (slots + rm.slots) (pc + 3) lv (v.toList ++ rest) G2) : V cells slots pc lv (As.reverse ++ .ref b :: rest) G := by
  obtain ⟨p, e, s, m, args, below, meth, c, D, cs, base, Q, rfl, ⟨hx, hb, hml, hown, hts⟩, ⟨hK, hN⟩, hbs, hin⟩ := C
  intro H locs ls hH hS hl
  obtain ⟨y1, y2, y3, y4, y5⟩ := Y
  have hw : ∀ w ∈ WS, w.before args s = true := fun w h => hts w (hws w h)
  subst hn
  exact e_back hS hl (va_runV (As := As) (rest := rest) ⟨hx, hb, hml, hown, hts⟩ (hM D cs base) ⟨callB_of As.length hts (e_good hws y1) rfl rfl rfl (hw _ y2) (hw _ hlk) y5 hR, hw _ y3, hw _ y4⟩ ⟨e_blind, va_recv hK (hH.one hg) (q0 := 0) hci rfl, fun U hU hW => ⟨rfl, by rw [hU]; exact Nat.le_trans hbs hS.1, by rw [hU]; exact hH, va_K.moved hW.alike hK, e_N.warm hW hN⟩⟩ rfl rfl hl.1 rfl (lv_room hcat) hd hcs) k
theorem c_S {V : pV} {l : Launch} {own : String} {cc : ByteArray} {nL : Nat} {ws : List Cond} {R : Room} {ini : Bool} {cells slots pc : Nat} {lv : pL} {rest : List Value} {G : pH} (C : e_C V l own cc nL ws R ini) (hws : ∀ w ∈ WS, w ∈ ws) {y : MethodName} {bytes : ByteArray} {maxL n : Nat} {rm : Room} {idx : Nat} {As : List Value} {post : Option Value → pH → Prop} {ret : Option FieldType} (Y : e_YS y bytes maxL ret n) (hlk : Cond.methodLink own idx y ∈ WS) (hM : e_M l y (Cond.code y bytes maxL ret :: WS) rm As G post) (hn : As.length = n) (hR : rm.frames + 1 ≤ R.frames ∧ 8 + (maxL + 11) + rm.locals ≤ R.locals) (hcs : cells + rm.cells ≤ R.cells ∧ slots + rm.slots ≤ R.slots) (hcat : (rest.map fun v => v.category).sum ≤ 8) (hd : decode cc pc = .ok (.invokestatic idx, 3)) (k : ∀ v G2, post v G2 → V (cells + rm.cells) (slots + rm.slots) (pc + 3) lv (v.toList ++ rest) G2) : V cells slots pc lv (As.reverse ++ rest) G := by
  obtain ⟨p, e, s, m, args, below, meth, c, D, cs, base, Q, rfl, ⟨hx, hb, hml, hown, hts⟩, ⟨hK, hN⟩, hbs, hin⟩ := C
  intro H locs ls hH hS hl
  obtain ⟨y1, y2, y3, y5⟩ := Y
  have hw : ∀ w ∈ WS, w.before args s = true := fun w h => hts w (hws w h)
  subst hn
  exact e_back hS hl (va_runS (As := As) (rest := rest) ⟨hx, hb, hml, hown, hts⟩ (hM D cs base) ⟨callB_of As.length hts (e_good hws y1) rfl rfl rfl (hw _ y2) (hw _ hlk) y5 hR, hw _ y3⟩ ⟨e_blind, fun U hU hW => ⟨rfl, by rw [hU]; exact Nat.le_trans hbs hS.1, by rw [hU]; exact hH, va_K.moved hW.alike hK, e_N.warm hW hN⟩⟩ rfl rfl hl.1 rfl (lv_room hcat) hd hcs) k
theorem c_SN {V : pV} {l : Launch} {own : String} {cc : ByteArray} {nL : Nat} {ws : List Cond} {R : Room} {ini : Bool} {cells slots pc : Nat} {lv : pL} {rest : List Value} {G : pH} (C : e_C V l own cc nL ws R ini) (hws : ∀ w ∈ WS, w ∈ ws) {y : MethodName} {bytes : ByteArray} {maxL n : Nat} {rm : Room} {idx : Nat} {As : List Value} {post : Option Value → pH → Prop} {ret : Option FieldType} {host : String} (Y : e_YS y bytes maxL ret n) (hlk : Cond.methodLinkNest own idx y host ∈ NWS) (hM : e_M l y (Cond.code y bytes maxL ret :: WS) rm As G post) (hn : As.length = n) (hR : rm.frames + 1 ≤ R.frames ∧ 8 + (maxL + 11) + rm.locals ≤ R.locals) (hcs : cells + rm.cells ≤ R.cells ∧ slots + rm.slots ≤ R.slots) (hcat : (rest.map fun v => v.category).sum ≤ 8) (hd : decode cc pc = .ok (.invokestatic idx, 3)) (k : ∀ v G2, post v G2 → V (cells + rm.cells) (slots + rm.slots) (pc + 3) lv (v.toList ++ rest) G2) : V cells slots pc lv (As.reverse ++ rest) G := by
  obtain ⟨p, e, s, m, args, below, meth, c, D, cs, base, Q, rfl, ⟨hx, hb, hml, hown, hts⟩, ⟨hK, hN⟩, hbs, hin⟩ := C
  intro H locs ls hH hS hl
  obtain ⟨y1, y2, y3, y5⟩ := Y
  have hw : ∀ w ∈ WS, w.before args s = true := fun w h => hts w (hws w h)
  subst hn
  exact e_back hS hl (va_runSN (As := As) (rest := rest) ⟨hx, hb, hml, hown, hts⟩ (hM D cs base) ⟨va_cnB As.length hts (e_good hws y1) rfl rfl rfl (hN _ hlk) (hw _ y2) y5 hR, hw _ y3, trivial⟩ ⟨e_blind, fun U hU hW => ⟨rfl, by rw [hU]; exact Nat.le_trans hbs hS.1, by rw [hU]; exact hH, va_K.moved hW.alike hK, e_N.warm hW hN⟩⟩ rfl rfl hl.1 rfl (lv_room hcat) hd hcs) k
theorem c_I {V : pV} {l : Launch} {own : String} {cc : ByteArray} {nL : Nat} {ws : List Cond} {R : Room} {ini : Bool} {cells slots pc : Nat} {lv : pL} {rest : List Value} {G : pH} (C : e_C V l own cc nL ws R ini) (hws : ∀ w ∈ WS, w ∈ ws) {y : MethodName} {bytes : ByteArray} {maxL n : Nat} {rm : Room} {idx : Nat} {As : List Value} {post : Option Value → pH → Prop} {b : Nat} (Y : e_YI y bytes maxL n) (hlk : Cond.methodLink own idx y ∈ WS) (hM : e_M l y (Cond.code y bytes maxL none :: WS) rm (.ref b :: As) G post) (hn : As.length = n) (hR : rm.frames + 1 ≤ R.frames ∧ 8 + (maxL + 11) + rm.locals ≤ R.locals) (hcs : cells + rm.cells ≤ R.cells ∧ slots + rm.slots ≤ R.slots) (hcat : (rest.map fun v => v.category).sum ≤ 8) (hd : decode cc pc = .ok (.invokespecial idx, 3)) (k : ∀ v G2, post v G2 → V (cells + rm.cells) (slots + rm.slots) (pc + 3) lv (v.toList ++ rest) G2) : V cells slots pc lv (As.reverse ++ .ref b :: rest) G := by
  obtain ⟨p, e, s, m, args, below, meth, c, D, cs, base, Q, rfl, ⟨hx, hb, hml, hown, hts⟩, ⟨hK, hN⟩, hbs, hin⟩ := C
  intro H locs ls hH hS hl
  obtain ⟨y1, y2, y3, y4, y5⟩ := Y
  have hw : ∀ w ∈ WS, w.before args s = true := fun w h => hts w (hws w h)
  subst hn
  exact e_back hS hl (va_runI (As := As) (rest := rest) ⟨hx, hb, hml, hown, hts⟩ (hM D cs base) ⟨callB_of As.length hts (e_good hws y1) rfl rfl rfl (hw _ y2) (hw _ hlk) y5 hR, y4, hw _ y3⟩ ⟨e_blind, fun U hU hW => ⟨rfl, by rw [hU]; exact Nat.le_trans hbs hS.1, by rw [hU]; exact hH, va_K.moved hW.alike hK, e_N.warm hW hN⟩⟩ rfl rfl hl.1 rfl (lv_room hcat) hd hcs) k
theorem c_IN {V : pV} {l : Launch} {own : String} {cc : ByteArray} {nL : Nat} {ws : List Cond} {R : Room} {ini : Bool} {cells slots pc : Nat} {lv : pL} {rest : List Value} {G : pH} (C : e_C V l own cc nL ws R ini) (hws : ∀ w ∈ WS, w ∈ ws) {y : MethodName} {bytes : ByteArray} {maxL n : Nat} {rm : Room} {idx : Nat} {As : List Value} {post : Option Value → pH → Prop} {b : Nat} {host : String} (Y : e_YI y bytes maxL n) (hlk : Cond.methodLinkNest own idx y host ∈ NWS) (hM : e_M l y (Cond.code y bytes maxL none :: WS) rm (.ref b :: As) G post) (hn : As.length = n) (hR : rm.frames + 1 ≤ R.frames ∧ 8 + (maxL + 11) + rm.locals ≤ R.locals) (hcs : cells + rm.cells ≤ R.cells ∧ slots + rm.slots ≤ R.slots) (hcat : (rest.map fun v => v.category).sum ≤ 8) (hd : decode cc pc = .ok (.invokespecial idx, 3)) (k : ∀ v G2, post v G2 → V (cells + rm.cells) (slots + rm.slots) (pc + 3) lv (v.toList ++ rest) G2) : V cells slots pc lv (As.reverse ++ .ref b :: rest) G := by
  obtain ⟨p, e, s, m, args, below, meth, c, D, cs, base, Q, rfl, ⟨hx, hb, hml, hown, hts⟩, ⟨hK, hN⟩, hbs, hin⟩ := C
  intro H locs ls hH hS hl
  obtain ⟨y1, y2, y3, y4, y5⟩ := Y
  have hw : ∀ w ∈ WS, w.before args s = true := fun w h => hts w (hws w h)
  subst hn
  exact e_back hS hl (va_runIN (As := As) (rest := rest) ⟨hx, hb, hml, hown, hts⟩ (hM D cs base) ⟨va_cnB As.length hts (e_good hws y1) rfl rfl rfl (hN _ hlk) (hw _ y2) y5 hR, y4, hw _ y3⟩ ⟨e_blind, fun U hU hW => ⟨rfl, by rw [hU]; exact Nat.le_trans hbs hS.1, by rw [hU]; exact hH, va_K.moved hW.alike hK, e_N.warm hW hN⟩⟩ rfl rfl hl.1 rfl (lv_room hcat) hd hcs) k
theorem c_new {V : pV} {l : Launch} {own : String} {cc : ByteArray} {nL : Nat} {ws : List Cond} {R : Room} {ini : Bool} {cells slots pc : Nat} {lv : pL} {rest : List Value} {G : pH} (C : e_C V l own cc nL ws R ini) (hws : ∀ w ∈ WS, w ∈ ws) {idx ci N : Nat} {Cn : String} {T : u_T} {fs : List Value} (ty : Nat → FieldType) (hci : vwCl[ci]? = some (Cn, T, N)) (hin9 : ∀ w ∈ u_ws Cn T N, w ∈ WS) (hty : ∀ k, k < N → parseFieldDescriptor (T k).2.2.1 = some (ty k)) (hlk : Cond.classLink own idx Cn ∈ WS) (hins : Cond.instantiable Cn N ∈ WS) (hini : Cond.initialized Cn ∈ WS) (hfs : ∀ j, j < N → defaultValue (ty j) = vp_V fs j) (hcs : cells + 1 ≤ R.cells ∧ slots + N ≤ R.slots) (hd : decode cc pc = .ok (.new idx, 3)) (k : ∀ a, G a = none → V (cells + 1) (slots + N) (pc + 3) lv (.ref a :: rest) (e_up G a (.inr (ci, fs)))) : V cells slots pc lv rest G := by
  obtain ⟨p, e, s, m, args, below, meth, c, D, cs, base, Q, rfl, ⟨hx, hb, hml, hown, hts⟩, ⟨hK, hN⟩, hbs, hin⟩ := C
  intro H locs ls hH hS hl
  have hw : ∀ w ∈ WS, w.before args s = true := fun w h => hts w (hws w h)
  have hKn := hK.1 ci _ hci
  refine W.newcK hx hb hown (hw _ hlk) (hw _ hins) (hw _ hini) rfl hd hcs.1 hcs.2 hKn.2.1 rfl fun H1 kC hkC e1 z1 o1 => ?_
  obtain ⟨g1, g2⟩ := hH.add (x := .inr (ci, fs)) (Nat.le_trans hbs hS.1) ⟨_, hci, (u_born ty hw hin9 hKn hkC e1 hty).to hfs⟩ o1
  exact k H.size g1 H1 locs ls g2 ⟨Nat.le_trans hS.1 (by omega), fun x h1 h2 => (o1 x (Nat.lt_of_lt_of_le h1 hS.1)).trans (hS.2.1 x h1 h2), hS.2.2⟩ hl
theorem c_newa_int {V : pV} {l : Launch} {own : String} {cc : ByteArray} {nL : Nat} {ws : List Cond} {R : Room} {ini : Bool} {cells slots pc : Nat} {lv : pL} {rest : List Value} {G : pH} (C : e_C V l own cc nL ws R ini) (hws : ∀ w ∈ WS, w ∈ ws) {n : Int32} {N : Nat} (hn : ¬ n < 0) (hNn : n.toNatClampNeg = N) (hbytes : N * componentBytes .int ≤ 536870912) (hcs : cells + 1 ≤ R.cells ∧ slots + N ≤ R.slots) (hwd : Cond.arrayClass .int ∈ WS) (hd : decode cc pc = .ok (.newarray .int, 2)) (k : ∀ a, G a = none → V (cells + 1) (slots + N) (pc + 2) lv (.ref a :: rest) (e_up G a (.inl (0, N, .inl (fun _ => 0))))) : V cells slots pc lv (.int n :: rest) G := by
  obtain ⟨p, e, s, m, args, below, meth, c, D, cs, base, Q, rfl, ⟨hx, hb, hml, hown, hts⟩, ⟨hK, hN⟩, hbs, hin⟩ := C
  intro H locs ls hH hS hl
  have hw : ∀ w ∈ WS, w.before args s = true := fun w h => hts w (hws w h)
  refine va_newaK (atype := .int) hx hb (hw _ hwd) rfl hd rfl hn hNn hbytes hcs.1 hcs.2 rfl fun H1 cA e1 z1 o1 hAr hNm => ?_
  have hcA : cs 0 = cA := Option.some.inj ((hK.2 0 _ rfl).2.symm.trans hNm)
  obtain ⟨g1, g2⟩ := hH.add (x := .inl (0, N, .inl (fun _ => 0))) (Nat.le_trans hbs hS.1) (by show H1[H.size]? = some (vp_cell (cs 0) _); rw [hcA]; exact e1) o1
  exact k H.size g1 H1 locs ls g2 ⟨Nat.le_trans hS.1 (by omega), fun x h1 h2 => (o1 x (Nat.lt_of_lt_of_le h1 hS.1)).trans (hS.2.1 x h1 h2), hS.2.2⟩ hl
theorem c_newa_long {V : pV} {l : Launch} {own : String} {cc : ByteArray} {nL : Nat} {ws : List Cond} {R : Room} {ini : Bool} {cells slots pc : Nat} {lv : pL} {rest : List Value} {G : pH} (C : e_C V l own cc nL ws R ini) (hws : ∀ w ∈ WS, w ∈ ws) {n : Int32} {N : Nat} (hn : ¬ n < 0) (hNn : n.toNatClampNeg = N) (hbytes : N * componentBytes .long ≤ 536870912) (hcs : cells + 1 ≤ R.cells ∧ slots + N ≤ R.slots) (hwd : Cond.arrayClass .long ∈ WS) (hd : decode cc pc = .ok (.newarray .long, 2)) (k : ∀ a, G a = none → V (cells + 1) (slots + N) (pc + 2) lv (.ref a :: rest) (e_up G a (.inl (1, N, .inr (.inl (fun _ => 0)))))) : V cells slots pc lv (.int n :: rest) G := by
  obtain ⟨p, e, s, m, args, below, meth, c, D, cs, base, Q, rfl, ⟨hx, hb, hml, hown, hts⟩, ⟨hK, hN⟩, hbs, hin⟩ := C
  intro H locs ls hH hS hl
  have hw : ∀ w ∈ WS, w.before args s = true := fun w h => hts w (hws w h)
  refine va_newaK (atype := .long) hx hb (hw _ hwd) rfl hd rfl hn hNn hbytes hcs.1 hcs.2 rfl fun H1 cA e1 z1 o1 hAr hNm => ?_
  have hcA : cs 1 = cA := Option.some.inj ((hK.2 1 _ rfl).2.symm.trans hNm)
  obtain ⟨g1, g2⟩ := hH.add (x := .inl (1, N, .inr (.inl (fun _ => 0)))) (Nat.le_trans hbs hS.1) (by show H1[H.size]? = some (vp_cell (cs 1) _); rw [hcA]; exact e1) o1
  exact k H.size g1 H1 locs ls g2 ⟨Nat.le_trans hS.1 (by omega), fun x h1 h2 => (o1 x (Nat.lt_of_lt_of_le h1 hS.1)).trans (hS.2.1 x h1 h2), hS.2.2⟩ hl
theorem c_newa_bool {V : pV} {l : Launch} {own : String} {cc : ByteArray} {nL : Nat} {ws : List Cond} {R : Room} {ini : Bool} {cells slots pc : Nat} {lv : pL} {rest : List Value} {G : pH} (C : e_C V l own cc nL ws R ini) (hws : ∀ w ∈ WS, w ∈ ws) {n : Int32} {N : Nat} (hn : ¬ n < 0) (hNn : n.toNatClampNeg = N) (hbytes : N * componentBytes .boolean ≤ 536870912) (hcs : cells + 1 ≤ R.cells ∧ slots + N ≤ R.slots) (hwd : Cond.arrayClass .boolean ∈ WS) (hd : decode cc pc = .ok (.newarray .boolean, 2)) (k : ∀ a, G a = none → V (cells + 1) (slots + N) (pc + 2) lv (.ref a :: rest) (e_up G a (.inl (2, N, .inl (fun _ => 0))))) : V cells slots pc lv (.int n :: rest) G := by
  obtain ⟨p, e, s, m, args, below, meth, c, D, cs, base, Q, rfl, ⟨hx, hb, hml, hown, hts⟩, ⟨hK, hN⟩, hbs, hin⟩ := C
  intro H locs ls hH hS hl
  have hw : ∀ w ∈ WS, w.before args s = true := fun w h => hts w (hws w h)
  refine va_newaK (atype := .boolean) hx hb (hw _ hwd) rfl hd rfl hn hNn hbytes hcs.1 hcs.2 rfl fun H1 cA e1 z1 o1 hAr hNm => ?_
  have hcA : cs 2 = cA := Option.some.inj ((hK.2 2 _ rfl).2.symm.trans hNm)
  obtain ⟨g1, g2⟩ := hH.add (x := .inl (2, N, .inl (fun _ => 0))) (Nat.le_trans hbs hS.1) (by show H1[H.size]? = some (vp_cell (cs 2) _); rw [hcA]; exact e1) o1
  exact k H.size g1 H1 locs ls g2 ⟨Nat.le_trans hS.1 (by omega), fun x h1 h2 => (o1 x (Nat.lt_of_lt_of_le h1 hS.1)).trans (hS.2.1 x h1 h2), hS.2.2⟩ hl
theorem c_obj {V : pV} {l : Launch} {own : String} {cc : ByteArray} {nL : Nat} {ws : List Cond} {R : Room} {ini : Bool} {cells slots pc : Nat} {lv : pL} {rest : List Value} {G : pH} (C : e_C V l own cc nL ws R ini) (hws : ∀ w ∈ WS, w ∈ ws) {idx a : Nat} (hlk : Cond.methodLink own idx Lib.objectInit ∈ WS) (hinst : Cond.instanceMethod Lib.objectInit ∈ WS) (hcode : Cond.code Lib.objectInit ⟨#[0xb1]⟩ 1 none ∈ WS) (hd : decode cc pc = .ok (.invokespecial idx, 3)) (hR : 1 ≤ R.frames ∧ (rest.map fun v => v.category).sum + 12 ≤ R.locals) (k : V cells slots (pc + 3) lv rest G) : V cells slots pc lv (.ref a :: rest) G := by
  obtain ⟨p, e, s, m, args, below, meth, c, D, cs, base, Q, rfl, ⟨hx, hb, hml, hown, hts⟩, ⟨hK, hN⟩, hbs, hin⟩ := C
  intro H locs ls hH hS hl
  have hw : ∀ w ∈ WS, w.before args s = true := fun w h => hts w (hws w h)
  refine W.objInit hx hb hown (hw _ hlk) (hw _ hinst) (hw _ hcode) rfl (by rw [hml]; exact hl.1) rfl hd hR.1 (by have h9 := hR.2; have h8 : (F0 m pc ls (.ref a :: rest)).monitorRoom = 0 := rfl; rw [h8]; omega) ?_
  exact k H locs ls hH hS hl
