/-! System.arraycopy of ints -/
set_option maxHeartbeats 1000000 in
theorem r_copy {V : pV} {l : Launch} {own : String} {cc : ByteArray} {nL : Nat} {ws : List Cond} {R : Room} {ini : Bool} {cells slots pc : Nat} {lv : pL} {rest : List Value} {G : pH} (C : e_C V l own cc nL ws R ini) (hws : ∀ w ∈ WS, w ∈ ws) {idx : Nat} (hlk : Cond.methodLink own idx arraycopyName ∈ WS) (hnt : Cond.native arraycopyName ∈ WS) (hst : Cond.static arraycopyName ∈ WS) (hi0 : Cond.initialized "java/lang/System" ∈ WS)
    {a0 a n0 n1 : Nat} {f g : Nat → Int32} (hg0 : G a0 = some (.inl (0, n0, .inl f))) (hg1 : G a = some (.inl (0, n1, .inl g))) {sp dp n : Int32} (h1 : ¬ sp < 0) (h2 : ¬ dp < 0) (h3 : ¬ n < 0) (h4 : sp.toNatClampNeg + n.toNatClampNeg ≤ n0) (h5 : dp.toNatClampNeg + n.toNatClampNeg ≤ n1)
    (hR : 1 ≤ R.frames ∧ (rest.map fun v => v.category).sum + (nativeFrameWords "java/lang/System" "arraycopy" 5 + 11) ≤ R.locals) (hd : decode cc pc = .ok (.invokestatic idx, 3)) (k : V cells slots (pc + 3) lv rest (e_up G a (.inl (0, n1, .inl (va_cpy f g sp.toNatClampNeg dp.toNatClampNeg n.toNatClampNeg))))) : V cells slots pc lv (.int n :: .int dp :: .ref a :: .int sp :: .ref a0 :: rest) G := by
  obtain ⟨p, e, s, m, args, below, meth, c, D, cs, base, Q, rfl, ⟨hx, hb, hml, hown, hts⟩, ⟨hK, hN⟩, hbs, hin⟩ := C
  intro H locs ls hH hS hl
  have hw : ∀ w ∈ WS, w.before args s = true := fun w h => hts w (hws w h)
  have nn : ∀ z : Int32, ¬ z < 0 → z.toInt = (z.toNatClampNeg : Int) := by
    intro z hz
    have hz0 : (0 : Int) ≤ z.toInt := by
      have := Int32.not_lt.mp hz
      simpa using Int32.le_iff_toInt_le.mp this
    show z.toInt = ((z.toInt.toNat : Nat) : Int)
    omega
  obtain ⟨hb0, hc0⟩ := hH a0 _ hg0
  obtain ⟨hb1, hc1⟩ := hH a _ hg1
  have hc0 : H[a0]? = some (vp_cell (cs 0) (n0, .inl f)) := hc0
  have hc1 : H[a]? = some (vp_cell (cs 0) (n1, .inl g)) := hc1
  intro T hT X
  obtain ⟨-, k0, hk0, cm0, hkk0⟩ := (hK.2 0 _ rfl).1 n0 (fun j => .int (f j))
  obtain ⟨-, k1, hk1, cm1, hkk1⟩ := (hK.2 0 _ rfl).1 n1 (fun j => .int (g j))
  obtain ⟨vm', X', step⟩ := X.arraycopy hx hown (hw _ hlk) (hw _ hnt) (hw _ hst) (hw _ hi0) (src := a0) (dst := a) (cs := vp_cell (cs 0) (n0, .inl f)) (cd := vp_cell (cs 0) (n1, .inl g)) (srcPos := sp) (destPos := dp) (n := n) (by rw [hT]; exact hc0) (by rw [hT]; exact hc1)
    (fun _ h => by cases h) (fun _ h => by cases h) (fun h => by cases h) (fun h => by cases h) hk0 hk1 hkk0 hkk1 (by simp [refKind]) h1 h2 h3
    (by rw [nn sp h1, nn n h3]; show ¬ _ > ((arrV (cs 0) n0 (fun j => .int (f j))).slots.size : Int); rw [arrV_size]; omega)
    (by rw [nn dp h2, nn n h3]; show ¬ _ > ((arrV (cs 0) n1 (fun j => .int (g j))).slots.size : Int); rw [arrV_size]; omega)
    (fun vm₁ _ i hi => by
      have e : (vp_cell (cs 0) (n0, .inl f)).slots.getD (sp.toNatClampNeg + i) .null = .int (f (sp.toNatClampNeg + i)) := by
        show (arrV (cs 0) n0 (fun j => .int (f j))).slots.getD _ _ = _
        rw [Array.getD_eq_getD_getElem?, arrV_read _ _ (by omega)]
        rfl
      refine ⟨?_, ?_⟩
      · rw [e]
        rfl
      · rw [e]
        exact trivial)
    (g := F0 m pc ls (.int n :: .int dp :: .ref a :: .int sp :: .ref a0 :: rest)) rfl (by rw [hml]; exact hl.1) (rest := rest) rfl (by rw [hb]; exact hd) hR.1 (by have h9 := hR.2; show 2 * 0 + _ + _ ≤ _; omega)
  have e1 : copied (vp_cell (cs 0) (n0, .inl f)) (vp_cell (cs 0) (n1, .inl g)) sp dp n = vp_cell (cs 0) (n1, .inl (va_cpy f g sp.toNatClampNeg dp.toNatClampNeg n.toNatClampNeg)) := va_copied (fun z => .int z) (cs 0) (cs 0) f g h4
  rw [e1] at X' step
  have hla : a < H.size := (Array.getElem?_eq_some_iff.mp hc1).1
  have hheap : ((T.setVm vm').setCell a (vp_cell (cs 0) (n1, .inl (va_cpy f g sp.toNatClampNeg dp.toNatClampNeg n.toNatClampNeg)))).heap = H.setIfInBounds a (vp_cell (cs 0) (n1, .inl (va_cpy f g sp.toNatClampNeg dp.toNatClampNeg n.toNatClampNeg))) := by rw [← hT]; rfl
  have oq : ∀ q : Nat, q ≠ a → (H.setIfInBounds a (vp_cell (cs 0) (n1, .inl (va_cpy f g sp.toNatClampNeg dp.toNatClampNeg n.toNatClampNeg))))[q]? = H[q]? := fun q hq => by simp [Array.getElem?_setIfInBounds, Ne.symm hq]
  obtain ⟨t, a1, b1⟩ := k _ _ ls (hH.set hb1 (show (H.setIfInBounds a _)[a]? = some _ by simp [Array.getElem?_setIfInBounds, hla]) oq) ⟨by simp; exact hS.1, fun q g1 g2 => by
      rw [oq q (fun e => g2 (by rw [e]; exact hb1))]
      exact hS.2.1 q g1 g2, fun q hq => by
      rcases List.mem_append.mp hq with h | h
      · exact hS.2.2 q h
      · obtain ⟨z, -, hz⟩ := List.mem_map.mp h
        rw [← hz]
        exact hb1⟩ hl _ hheap X'
  exact ⟨t, step t a1, b1⟩
/-- n items of array b from i on are at array c from j on -/
def cpS (S : pS) (b c i j n : Nat) : pS := (fun k' i' j' => if k' = 21 ∧ i' = c ∧ j ≤ j' ∧ j' < j + n then S.1 21 b (i + (j' - j)) else S.1 k' i' j', S.2)
theorem cpS_up {A : pA} {S : pS} {b c i j n : Nat} (hc : c < 2) : e_up (gS A S) (ad A 21 c) (.inl (0, 4000, .inl (va_cpy (S.1 21 b) (S.1 21 c) i j n))) = gS A (cpS S b c i j n) := by
  refine gS_up hc ?_ (fun k' i' h => ce_same ?_ rfl rfl)
  · have h1 : va_cpy (S.1 21 b) (S.1 21 c) i j n = (cpS S b c i j n).1 21 c := by
      funext z
      simp [va_cpy, cpS]
    rw [h1]
    rfl
  · funext z
    simp only [cpS]
    rw [if_neg (fun q => h ⟨q.1, q.2.1⟩)]
