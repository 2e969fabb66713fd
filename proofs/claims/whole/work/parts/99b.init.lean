/-! the start: its state, its addresses -/
def S0 : pS := (fun k i j => if k = 11 ∧ i = 0 ∧ j = 5 then -4 else if k = 13 then wrF j else if k = 14 then owF 60 j else if k = 30 ∧ i = 0 ∧ j = 26 then -4 else 0, fun k i j => if k = 11 ∧ i = 0 ∧ j = 7 then 1 else if k = 30 ∧ i = 0 ∧ j = 25 then 1 else 0, fun k i j => if k = 0 ∧ i = 0 ∧ j = 7 then (20, 0) else if k = 0 ∧ i = 0 ∧ j = 8 then (20, 1) else if k = 17 then (22, 0) else (23, 0))
theorem J_0 : J S0 0 0 1 0 0 := by
  refine ⟨⟨rfl, rfl⟩, ⟨⟨rfl, by omega, fun i h => absurd h (Nat.not_lt_zero _)⟩, ⟨rfl, fun i h => absurd h (Nat.not_lt_zero _)⟩, fun i h => absurd h (Nat.not_lt_zero _), fun i h => absurd h (Nat.not_lt_zero _), fun i h => absurd h (Nat.not_lt_zero _)⟩, ⟨⟨rfl, by decide, rfl, by decide, fun k h => absurd h (Nat.not_lt_zero _), fun k h => absurd h (Nat.not_lt_zero _)⟩, ⟨rfl, fun k h => absurd h (Nat.not_lt_zero _), rfl, fun k h => absurd h (Nat.not_lt_zero _)⟩⟩, ⟨⟨rfl, by omega, rfl, by omega, fun j hj => ?_⟩, rfl, ⟨rfl, rfl, rfl, rfl, rfl, rfl, fun _ => ⟨rfl, rfl⟩, fun h => absurd rfl h⟩, fun j hj => ⟨0, by omega, rfl⟩⟩, ⟨⟨rfl, rfl, by omega, by omega, by omega, ⟨rfl, by decide⟩, ⟨rfl, by decide⟩⟩, ⟨rfl, rfl, fun j _ => rfl, rfl, rfl, fun j _ => rfl⟩⟩⟩
  show owF 60 j = nI j
  unfold owF
  rw [if_pos hj]
theorem nd_inj {α β : Type} {g : α → β} : ∀ {T : List α}, (T.map g).Nodup → ∀ {x y : α}, x ∈ T → y ∈ T → g x = g y → x = y
  | [], _, x, y, hx, _, _ => absurd hx List.not_mem_nil
  | a :: T, h, x, y, hx, hy, e => by
    rw [List.map_cons, List.nodup_cons] at h
    rcases List.mem_cons.mp hx with ex | hx2
    · rcases List.mem_cons.mp hy with ey | hy2
      · rw [ex, ey]
      · exact absurd (List.mem_map.mpr ⟨y, hy2, by rw [← e, ex]⟩) h.1
    · rcases List.mem_cons.mp hy with ey | hy2
      · exact absurd (List.mem_map.mpr ⟨x, hx2, by rw [e, ey]⟩) h.1
      · exact nd_inj h.2 hx2 hy2 e
theorem sq_lt {s t a c : Nat} (h : s < t) (ha : a ≤ s) : s * s + a < t * t + c := by
  have h1 : (s + 1) * (s + 1) ≤ t * t := Nat.mul_le_mul h h
  rw [Nat.add_mul, Nat.mul_add, Nat.one_mul, Nat.mul_one] at h1
  omega
theorem sq_inj {k i k' i' : Nat} (h : (k + i) * (k + i) + k = (k' + i') * (k' + i') + k') : k = k' ∧ i = i' := by
  rcases Nat.lt_trichotomy (k + i) (k' + i') with h1 | h1 | h1
  · have := sq_lt (c := k') h1 (Nat.le_add_right k i); omega
  · rw [h1] at h; omega
  · have := sq_lt (c := k) h1 (Nat.le_add_right k' i'); omega
abbrev pTy : Type := (Nat × Nat) × (Nat × pE)
theorem T_bd : ∀ T : List pTy, ∃ M : Nat, ∀ q ∈ T, q.2.1 < M
  | [] => ⟨0, fun _ h => absurd h List.not_mem_nil⟩
  | a :: T => by
    obtain ⟨M, h⟩ := T_bd T
    refine ⟨M + a.2.1 + 1, fun q hq => ?_⟩
    rcases List.mem_cons.mp hq with rfl | hq
    · omega
    · have := h q hq; omega
theorem pA_of (T : List pTy) (h1 : (T.map (fun q => q.1)).Nodup) (h2 : (T.map (fun q => q.2.1)).Nodup) : ∃ A : pA, ∀ q ∈ T, ad A q.1.1 q.1.2 = q.2.1 := by
  obtain ⟨M, hM⟩ := T_bd T
  have hF : ∃ f : Nat → Nat → Nat, (∀ q ∈ T, f q.1.1 q.1.2 = q.2.1) ∧ ∀ k i, (¬ ∃ q ∈ T, q.1 = (k, i)) → f k i = M + ((k + i) * (k + i) + k) := by
    refine ⟨fun k i => @dite _ (∃ q ∈ T, q.1 = (k, i)) (Classical.propDecidable _) (fun h => (Classical.choose h).2.1) (fun _ => M + ((k + i) * (k + i) + k)), fun q hq => ?_, fun k i hk => ?_⟩
    · have hx : ∃ r ∈ T, r.1 = (q.1.1, q.1.2) := ⟨q, hq, rfl⟩
      show @dite _ (∃ r ∈ T, r.1 = (q.1.1, q.1.2)) (Classical.propDecidable _) (fun h => (Classical.choose h).2.1) _ = _
      rw [dif_pos hx]
      have h3 := Classical.choose_spec hx
      rw [nd_inj h1 h3.1 hq h3.2]
    · exact dif_neg hk
  obtain ⟨f, hf, hg⟩ := hF
  refine ⟨⟨f, fun k i k' i' e => ?_⟩, hf⟩
  by_cases ha : ∃ q ∈ T, q.1 = (k, i)
  · obtain ⟨q, hq, hqe⟩ := ha
    have e1 := hf q hq
    rw [hqe] at e1
    have e1 : f k i = q.2.1 := e1
    by_cases hb : ∃ q ∈ T, q.1 = (k', i')
    · obtain ⟨r, hr, hre⟩ := hb
      have e2 := hf r hr
      rw [hre] at e2
      have e2 : f k' i' = r.2.1 := e2
      have := nd_inj h2 hq hr (by show q.2.1 = r.2.1; rw [← e1, ← e2, e])
      rw [this, hre] at hqe
      cases hqe
      exact ⟨rfl, rfl⟩
    · have h3 := hM q hq
      have h4 := hg k' i' hb
      omega
  · have h3 := hg k i ha
    by_cases hb : ∃ q ∈ T, q.1 = (k', i')
    · obtain ⟨r, hr, hre⟩ := hb
      have e2 := hf r hr
      rw [hre] at e2
      have e2 : f k' i' = r.2.1 := e2
      have h4 := hM r hr
      omega
    · have h4 := hg k' i' hb
      exact sq_inj (by omega)
def nwA (G : pH) (al : List (Nat × pE)) : Prop := (al.map Prod.fst).Nodup ∧ ∀ p ∈ al, G p.1 = some p.2
theorem nwA_obj {G G2 : pH} {b : Nat} {df c : pE} {al0 al : List (Nat × pE)} (h : nwA G al0) (hb : G b = none) (w : nwC (e_up G b df) G2 b al) (hc : G2 b = some c) : nwA G2 (al ++ (b, c) :: al0) := by
  refine ⟨?_, fun p hp => ?_⟩
  · rw [List.map_append, List.map_cons, List.nodup_append, List.nodup_cons]
    refine ⟨w.1.1, ⟨fun hm => ?_, h.1⟩, fun x hx y hy e => ?_⟩
    · obtain ⟨p, hp, e⟩ := List.mem_map.mp hm
      have h1 := h.2 p hp
      rw [e, hb] at h1
      cases h1
    · subst e
      have h1 := (w.1.2.1 x hx).1
      by_cases hxb : x = b
      · rw [hxb, e_up_1] at h1; cases h1
      · rcases List.mem_cons.mp hy with hy | hy
        · exact hxb hy
        · obtain ⟨p, hp, rfl⟩ := List.mem_map.mp hy
          have h2 := h.2 p hp
          rw [e_up_2 hxb, h2] at h1
          cases h1
  · rcases List.mem_append.mp hp with hp | hp
    · exact w.2 p hp
    · rcases List.mem_cons.mp hp with rfl | hp
      · exact hc
      · exact nwC_kp w (h.2 p hp) hb
theorem nwA_one {G : pH} {t : Nat} {c : pE} {al : List (Nat × pE)} (h : nwA G al) (ht : G t = none) : nwA (e_up G t c) ((t, c) :: al) := by
  have hne : ∀ p ∈ al, ¬ p.1 = t := fun p hp z => by
    have h1 := h.2 p hp
    rw [z, ht] at h1
    cases h1
  refine ⟨?_, fun p hp => ?_⟩
  · rw [List.map_cons, List.nodup_cons]
    refine ⟨fun hm => ?_, h.1⟩
    obtain ⟨p, hp, e⟩ := List.mem_map.mp hm
    exact hne p hp e
  · rcases List.mem_cons.mp hp with rfl | hp
    · exact e_up_1
    · rw [e_up_2 (hne p hp)]
      exact h.2 p hp
def entT (m : Nat) (e : pF5) : List pTy := [((10, m), (e.2.2.2.2, z3)), ((9, m), (e.2.2.2.1, z4)), ((8, m), (e.2.2.1, z4)), ((7, m), (e.2.1, z4)), ((6, m), (e.1, .inr (4, fcel e.2.1 e.2.2.1 e.2.2.2.1 e.2.2.2.2)))]
def trl : List pF5 → List pTy
  | [] => []
  | e :: rl => entT rl.length e ++ trl rl
def rolE (n : Nat) : List (Nat × Nat) := [(10, n), (9, n), (8, n), (7, n), (6, n)]
def rolF : Nat → List (Nat × Nat)
  | 0 => []
  | n + 1 => rolE n ++ rolF n
theorem trl_2 : ∀ rl : List pF5, (trl rl).map (fun q => q.2) = alF rl
  | [] => rfl
  | e :: rl => by
    show ((entT rl.length e ++ trl rl).map (fun q => q.2)) = ent e ++ alF rl
    rw [List.map_append, trl_2 rl]
    rfl
theorem trl_1 : ∀ rl : List pF5, (trl rl).map (fun q => q.1) = rolF rl.length
  | [] => rfl
  | e :: rl => by
    show ((entT rl.length e ++ trl rl).map (fun q => q.1)) = rolE rl.length ++ rolF rl.length
    rw [List.map_append, trl_1 rl]
    rfl
theorem trl_in : ∀ {rl : List pF5} {q : pTy}, q ∈ trl rl → ∃ m e, q ∈ entT m e ∧ ∀ r ∈ entT m e, r ∈ trl rl
  | [], q, h => absurd h List.not_mem_nil
  | e :: rl, q, h => by
    rcases List.mem_append.mp (show q ∈ entT rl.length e ++ trl rl from h) with h | h
    · exact ⟨_, e, h, fun r hr => List.mem_append.mpr (Or.inl hr)⟩
    · obtain ⟨m, e2, h1, h2⟩ := trl_in h
      exact ⟨m, e2, h1, fun r hr => List.mem_append.mpr (Or.inr (h2 r hr))⟩
theorem trl_af : ∀ {rl : List pF5} {m : Nat}, m < rl.length → ∃ e : pF5, afF rl m = some e.1 ∧ ∀ r ∈ entT m e, r ∈ trl rl
  | [], m, h => absurd h (Nat.not_lt_zero _)
  | e :: rl, m, h => by
    by_cases hm : m = rl.length
    · subst hm
      refine ⟨e, ?_, fun r hr => List.mem_append.mpr (Or.inl hr)⟩
      show va_up (afF rl) rl.length (some e.1) rl.length = _
      unfold va_up
      simp
    · have h1 : m < rl.length := by
        have h2 : m < rl.length + 1 := h
        omega
      obtain ⟨e2, h2, h3⟩ := trl_af h1
      refine ⟨e2, ?_, fun r hr => List.mem_append.mpr (Or.inr (h3 r hr))⟩
      show va_up (afF rl) rl.length (some e.1) m = _
      unfold va_up
      simp [hm, h2]
theorem w_H {V : pV} {l : Launch} {own : String} {cc : ByteArray} {nL : Nat} {ws : List Cond} {R : Room} {ini : Bool} {cells slots pc : Nat} {lv : pL} {st : List Value} {G G2 : pH} (C : e_C V l own cc nL ws R ini) (hG : ∀ D cs base H, e_H D cs base G H → e_H D cs base G2 H) (h : V cells slots pc lv st G2) : V cells slots pc lv st G := by
  obtain ⟨p, e, s, m, args, below, meth, c, D, cs, base, Q, rfl, -⟩ := C
  intro H locs ls hH hS hl
  exact h H locs ls (hG _ _ _ _ hH) hS hl
def okc (A : pA) (q : pTy) : Prop := ∀ (D : va_G) (cs : Nat → ClassId) (H : Heap), va_at D vwCl (q.2.1, e_va cs q.2.2) H → va_at D vwCl (q.2.1, e_va cs (ce A S0 q.1.1 q.1.2)) H
theorem okc_e {A : pA} {q : pTy} (h : q.2.2 = ce A S0 q.1.1 q.1.2) : okc A q := fun D cs H x => by rw [← h]; exact x
theorem dn_80 {k i : Nat} (h : i < dn k) : k < 81 := by
  by_cases hk : k < 81
  · exact hk
  · exfalso
    have : dn k = 0 := by
      unfold dn
      split <;> first | rfl | (exfalso; omega)
    omega
theorem gS_ok {A : pA} {T : List pTy} {G : pH} (hA : ∀ q ∈ T, ad A q.1.1 q.1.2 = q.2.1) (hG : ∀ q ∈ T, G q.2.1 = some q.2.2) (hc : ∀ q ∈ T, okc A q) (hf : ∀ k i, i < dn k → (k, i) ∈ T.map (fun q => q.1)) : ∀ D cs base H, e_H D cs base G H → e_H D cs base (gS A S0) H := by
  intro D cs base H h a x hx
  by_cases hq : ∃ q : Nat × Nat, a = ad A q.1 q.2 ∧ q.2 < dn q.1
  · obtain ⟨⟨k, i⟩, rfl, hd⟩ := hq
    rw [gS_at hd] at hx
    cases hx
    obtain ⟨q, hq, hqe⟩ := List.mem_map.mp (hf k i hd)
    have e1 := hA q hq
    have h2 := h _ _ (hG q hq)
    have h3 := hc q hq D cs H h2.2
    rw [← e1, hqe] at h3 h2
    exact ⟨h2.1, h3⟩
  · rw [gS_no hq] at hx
    cases hx
