/-! the start: its table; the law from its first step -/
abbrev l8 (t0 t1 t2 t3 t4 t5 t6 t7 t8 t9 t10 t11 t12 t13 t14 t15 t16 t17 t18 t19 t20 t21 : Nat) : List (Nat × pE) := [(t21, .inl (0, 4000, .inl (fun _ => 0))), (t20, .inl (0, 4000, .inl (fun _ => 0))), (t19, .inl (0, 60, .inl (fun _ => 0))), (t18, .inl (0, 4000, .inl (fun _ => 0))), (t17, .inl (0, 2, .inl (fun _ => 0))), (t16, .inl (0, 3532, .inl (fun _ => 0))), (t15, .inl (2, 60, .inl (fun _ => 0))), (t14, .inl (2, 60, .inl (fun _ => 0))), (t13, .inl (0, 3, .inl (fun _ => 0))), (t12, .inl (0, 4, .inl (fun _ => 0))), (t11, .inl (2, 60, .inl (fun _ => 0))), (t10, .inl (2, 60, .inl (fun _ => 0))), (t9, .inl (0, 180, .inl (fun _ => 0))), (t8, .inl (0, 60, .inl (fun _ => 0))), (t7, .inl (0, 240, .inl (fun _ => 0))), (t6, .inl (0, 240, .inl (fun _ => 0))), (t5, .inl (0, 240, .inl (fun _ => 0))), (t4, .inl (0, 60, .inl (fun _ => 0))), (t3, .inl (1, 60, .inr (.inl (fun _ => 0)))), (t2, .inl (0, 60, .inl (fun _ => 0))), (t1, .inl (0, 16, .inl (fun _ => 0))), (t0, .inl (0, 16, .inl (fun _ => 0)))]
abbrev f8 (t0 t1 t2 t3 t4 t5 t6 t7 t8 t9 t10 t11 t12 t13 t14 t15 t16 t17 t18 t19 t20 t21 : Nat) : List Value := [.int 0, .ref t0, .ref t1, .int 0, .ref t2, .ref t3, .ref t4, .ref t5, .ref t6, .ref t7, .ref t8, .ref t9, .ref t10, .ref t11, .int 0, .ref t12, .int 0, .ref t13, .int 0, .ref t14, .ref t15, .ref t16, .int 0, .int 0, .int 0, .long 1, .int (-4), .ref t17, .int 0, .ref t18, .int 0, .ref t19, .int 0, .int 0, .long 0, .int 0, .int 0, .ref t20, .int 0, .int 0, .ref t21, .int 0]
abbrev tb8 (t0 t1 t2 t3 t4 t5 t6 t7 t8 t9 t10 t11 t12 t13 t14 t15 t16 t17 t18 t19 t20 t21 : Nat) : List pTy := [((71, 0), (t21, .inl (0, 4000, .inl (fun _ => 0)))), ((68, 0), (t20, .inl (0, 4000, .inl (fun _ => 0)))), ((62, 0), (t19, .inl (0, 60, .inl (fun _ => 0)))), ((60, 0), (t18, .inl (0, 4000, .inl (fun _ => 0)))), ((58, 0), (t17, .inl (0, 2, .inl (fun _ => 0)))), ((52, 0), (t16, .inl (0, 3532, .inl (fun _ => 0)))), ((51, 0), (t15, .inl (2, 60, .inl (fun _ => 0)))), ((50, 0), (t14, .inl (2, 60, .inl (fun _ => 0)))), ((48, 0), (t13, .inl (0, 3, .inl (fun _ => 0)))), ((46, 0), (t12, .inl (0, 4, .inl (fun _ => 0)))), ((44, 0), (t11, .inl (2, 60, .inl (fun _ => 0)))), ((43, 0), (t10, .inl (2, 60, .inl (fun _ => 0)))), ((42, 0), (t9, .inl (0, 180, .inl (fun _ => 0)))), ((41, 0), (t8, .inl (0, 60, .inl (fun _ => 0)))), ((40, 0), (t7, .inl (0, 240, .inl (fun _ => 0)))), ((39, 0), (t6, .inl (0, 240, .inl (fun _ => 0)))), ((38, 0), (t5, .inl (0, 240, .inl (fun _ => 0)))), ((37, 0), (t4, .inl (0, 60, .inl (fun _ => 0)))), ((36, 0), (t3, .inl (1, 60, .inr (.inl (fun _ => 0))))), ((35, 0), (t2, .inl (0, 60, .inl (fun _ => 0)))), ((33, 0), (t1, .inl (0, 16, .inl (fun _ => 0)))), ((32, 0), (t0, .inl (0, 16, .inl (fun _ => 0))))]
def tb7 (a b0 t00 t01 b1 arr b3 d0 d1 d2 d3 d4 b4 t40 b5 t50 pn b7 t70 b8 t80 : Nat) (e60 : pF5) (rl : List pF5) (e61 : pF5) : List pTy := [((21, 1), (t80, zA 4000)), ((20, 1), (b8, .inr (5, [.int 0, .int 0, .ref t80])))] ++ ([((21, 0), (t70, zA 4000)), ((20, 0), (b7, .inr (5, [.int 0, .int 0, .ref t70])))] ++ (((19, 0), (pn, zA 60)) :: ([((23, 0), (t50, zA 0)), ((18, 0), (b5, .inr (8, [.int 0, .int 0, .int 0, .long 0, .ref t50])))] ++ ([((22, 0), (t40, zA 0)), ((17, 0), (b4, .inr (6, [.int 0, .int 0, .long 0, .int 0, .ref t40])))] ++ ([((16, 0), (d4, zL 61)), ((15, 0), (d3, zA 61)), ((14, 0), (d2, .inl (0, 60, .inl (owF 60)))), ((13, 0), (d1, .inl (0, 2, .inl wrF))), ((12, 0), (d0, zA 3532)), ((11, 0), (b3, .inr (3, dkL d0 d1 d2 d3 d4)))] ++ (entT 61 e61 ++ (((trl rl ++ (entT 60 e60 ++ [((5, 0), (arr, fary (afF rl)))])) ++ [((4, 0), (b1, .inr (2, [.ref arr, .int 0, .ref e60.1])))]) ++ ([((3, 0), (t01, zA 16)), ((2, 0), (t00, zA 16)), ((1, 0), (b0, .inr (7, [.ref t00, .ref t01])))] ++ [((0, 0), (a, .inr (9, fgL b0 t00 t01 b1 arr e60 rl e61 b3 d0 d1 d2 d3 d4 b4 t40 b5 t50 pn b7 t70 b8 t80)))]))))))))
def rol7 (n : Nat) : List (Nat × Nat) := [(21, 1), (20, 1)] ++ ([(21, 0), (20, 0)] ++ ((19, 0) :: ([(23, 0), (18, 0)] ++ ([(22, 0), (17, 0)] ++ ([(16, 0), (15, 0), (14, 0), (13, 0), (12, 0), (11, 0)] ++ (rolE 61 ++ (((rolF n ++ (rolE 60 ++ [(5, 0)])) ++ [(4, 0)]) ++ ([(3, 0), (2, 0), (1, 0)] ++ [(0, 0)]))))))))
def rol8 : List (Nat × Nat) := [(71, 0), (68, 0), (62, 0), (60, 0), (58, 0), (52, 0), (51, 0), (50, 0), (48, 0), (46, 0), (44, 0), (43, 0), (42, 0), (41, 0), (40, 0), (39, 0), (38, 0), (37, 0), (36, 0), (35, 0), (33, 0), (32, 0)]
def rolA : List (Nat × Nat) := (80, 0) :: (rol8 ++ ((30, 0) :: rol7 60))
theorem rolA_nd : rolA.Nodup := by decide +kernel
theorem rolA_all : ∀ k, k < 81 → ∀ i, i < dn k → (k, i) ∈ rolA := by decide +kernel
section
variable {a b0 t00 t01 b1 arr b3 d0 d1 d2 d3 d4 b4 t40 b5 t50 pn b7 t70 b8 t80 : Nat} {e60 : pF5} {rl : List pF5} {e61 : pF5}
theorem t7_1 : (tb7 a b0 t00 t01 b1 arr b3 d0 d1 d2 d3 d4 b4 t40 b5 t50 pn b7 t70 b8 t80 e60 rl e61).map (fun q => q.1) = rol7 rl.length := by
  unfold tb7 rol7
  simp only [List.map_append, List.map_cons, List.map_nil, trl_1]
  rfl
theorem t7_2 : (tb7 a b0 t00 t01 b1 arr b3 d0 d1 d2 d3 d4 b4 t40 b5 t50 pn b7 t70 b8 t80 e60 rl e61).map (fun q => q.2) = flE b0 t00 t01 b1 arr e60 rl e61 b3 d0 d1 d2 d3 d4 b4 t40 b5 t50 pn b7 t70 b8 t80 ++ [(a, .inr (9, fgL b0 t00 t01 b1 arr e60 rl e61 b3 d0 d1 d2 d3 d4 b4 t40 b5 t50 pn b7 t70 b8 t80))] := by
  unfold tb7 flE dkE bkE
  simp only [List.map_append, List.map_cons, List.map_nil, trl_2, List.append_assoc, List.cons_append, List.nil_append, List.append_nil]
  rfl
end
set_option maxHeartbeats 8000000 in
set_option maxRecDepth 100000 in
theorem gS_start {G : pH} {a a2 a3 b0 t00 t01 b1 arr b3 d0 d1 d2 d3 d4 b4 t40 b5 t50 pn b7 t70 b8 t80 t0 t1 t2 t3 t4 t5 t6 t7 t8 t9 t10 t11 t12 t13 t14 t15 t16 t17 t18 t19 t20 t21 : Nat} {e60 : pF5} {rl : List pF5} {e61 : pF5} (hl : rl.length = 60) (hn : nwA G ((a3, zL 1) :: (l8 t0 t1 t2 t3 t4 t5 t6 t7 t8 t9 t10 t11 t12 t13 t14 t15 t16 t17 t18 t19 t20 t21 ++ ((a2, .inr (10, f8 t0 t1 t2 t3 t4 t5 t6 t7 t8 t9 t10 t11 t12 t13 t14 t15 t16 t17 t18 t19 t20 t21)) :: (flE b0 t00 t01 b1 arr e60 rl e61 b3 d0 d1 d2 d3 d4 b4 t40 b5 t50 pn b7 t70 b8 t80 ++ [(a, .inr (9, fgL b0 t00 t01 b1 arr e60 rl e61 b3 d0 d1 d2 d3 d4 b4 t40 b5 t50 pn b7 t70 b8 t80))]))))) : ∃ A : pA, ad A 0 0 = a ∧ ad A 30 0 = a2 ∧ ad A 80 0 = a3 ∧ ∀ D cs base H, e_H D cs base G H → e_H D cs base (gS A S0) H := by
  obtain ⟨T, hT⟩ : ∃ T : List pTy, T = ((80, 0), (a3, zL 1)) :: (tb8 t0 t1 t2 t3 t4 t5 t6 t7 t8 t9 t10 t11 t12 t13 t14 t15 t16 t17 t18 t19 t20 t21 ++ (((30, 0), (a2, .inr (10, f8 t0 t1 t2 t3 t4 t5 t6 t7 t8 t9 t10 t11 t12 t13 t14 t15 t16 t17 t18 t19 t20 t21))) :: tb7 a b0 t00 t01 b1 arr b3 d0 d1 d2 d3 d4 b4 t40 b5 t50 pn b7 t70 b8 t80 e60 rl e61)) := ⟨_, rfl⟩
  have h1 : T.map (fun q => q.1) = rolA := by
    rw [hT]
    simp only [List.map_append, List.map_cons, List.map_nil, t7_1, hl]
    rfl
  have h2 : T.map (fun q => q.2) = (a3, zL 1) :: (l8 t0 t1 t2 t3 t4 t5 t6 t7 t8 t9 t10 t11 t12 t13 t14 t15 t16 t17 t18 t19 t20 t21 ++ ((a2, .inr (10, f8 t0 t1 t2 t3 t4 t5 t6 t7 t8 t9 t10 t11 t12 t13 t14 t15 t16 t17 t18 t19 t20 t21)) :: (flE b0 t00 t01 b1 arr e60 rl e61 b3 d0 d1 d2 d3 d4 b4 t40 b5 t50 pn b7 t70 b8 t80 ++ [(a, .inr (9, fgL b0 t00 t01 b1 arr e60 rl e61 b3 d0 d1 d2 d3 d4 b4 t40 b5 t50 pn b7 t70 b8 t80))]))) := by
    rw [hT]
    simp only [List.map_append, List.map_cons, List.map_nil, t7_2]
  rw [← h2] at hn
  obtain ⟨A, hA⟩ := pA_of T (by rw [h1]; exact rolA_nd) (by
    have h3 := hn.1
    rw [List.map_map] at h3
    exact h3)
  have hG : ∀ q ∈ T, G q.2.1 = some q.2.2 := fun q hq => hn.2 q.2 (List.mem_map.mpr ⟨q, hq, rfl⟩)
  have hf : ∀ k i, i < dn k → (k, i) ∈ T.map (fun q => q.1) := fun k i h => by rw [h1]; exact rolA_all k (dn_80 h) i h
  have hA2 := hA
  have hTr : ∀ q ∈ trl rl, q ∈ T := by
    intro q hq
    rw [hT]
    unfold tb7
    simp only [List.mem_append, List.mem_cons, hq, true_or, or_true]
  rw [hT] at hA2
  unfold tb7 entT at hA2
  simp only [List.forall_mem_append, List.forall_mem_cons] at hA2
  obtain ⟨g61, x1, x2, x3, x4⟩ := e61
  obtain ⟨g60, y1, y2, y3, y4⟩ := e60
  obtain ⟨k80, ⟨k71, k68, k62, k60, k58, k52, k51, k50, k48, k46, k44, k43, k42, k41, k40, k39, k38, k37, k36, k35, k33, k32, -⟩, k30, ⟨k21b, k20b, -⟩, ⟨k21, k20, -⟩, k19, ⟨k23, k18, -⟩, ⟨k22, k17, -⟩, ⟨k16, k15, k14, k13, k12, k11, -⟩, ⟨k10x, k9x, k8x, k7x, k6x, -⟩, ⟨⟨-, ⟨k10y, k9y, k8y, k7y, k6y, -⟩, k5, -⟩, k4, -⟩, ⟨k3, k2, k1, -⟩, k0, -⟩ := hA2
  refine ⟨A, k0, k30, k80, gS_ok hA hG ?_ hf⟩
  have hrl : ∀ q ∈ trl rl, okc A q := by
    intro q hq
    obtain ⟨m, e, h5, h6⟩ := trl_in hq
    have h7 : ∀ r ∈ entT m e, ad A r.1.1 r.1.2 = r.2.1 := fun r hr => hA r (hTr r (h6 r hr))
    obtain ⟨z0, z1, z2, z3x, z4x⟩ := e
    unfold entT at h7 h5
    simp only [List.forall_mem_cons] at h7
    obtain ⟨w1, w2, w3, w4, w5, -⟩ := h7
    simp only [List.mem_cons, List.not_mem_nil, or_false] at h5
    rw [← w1, ← w2, ← w3, ← w4, ← w5] at h5
    clear hn hG hA hTr hT h1 h2 hf h6 hq
    rcases h5 with h5 | h5 | h5 | h5 | h5 <;> (rw [h5]; exact okc_e rfl)
  have har : okc A ((5, 0), (arr, fary (afF rl))) := by
    intro D cs H hx
    have h5 : arrV (cs 3) 60 (fun j => va_rf (afF rl j)) = arrV (cs 3) 60 (fun j => va_rf (some (ad A 6 j))) := by
      unfold arrV
      congr 1
      apply congrArg
      funext j
      obtain ⟨e, h7, h8⟩ := trl_af (rl := rl) (m := j.val) (by rw [hl]; exact j.isLt)
      have h9 := hA _ (hTr _ (h8 ((6, j.val), (e.1, .inr (4, fcel e.2.1 e.2.2.1 e.2.2.2.1 e.2.2.2.2))) (by unfold entT; simp)))
      have h9 : ad A 6 j.val = e.1 := h9
      rw [h7, h9]
    have hx : H[arr]? = some (arrV (cs 3) 60 (fun j => va_rf (afF rl j))) := hx
    rw [h5] at hx
    exact hx
  clear hn hG hA hTr h1 h2 hf
  rw [hT]
  clear hT
  unfold tb7 entT
  simp only [List.forall_mem_append, List.forall_mem_cons]
  subst k80 k71 k68 k62 k60 k58 k52 k51 k50 k48 k46 k44 k43 k42 k41 k40 k39 k38 k37 k36 k35 k33 k32 k30 k21b k20b k21 k20 k19 k23 k18 k22 k17 k16 k15 k14 k13 k12 k11 k10x k9x k8x k7x k6x k10y k9y k8y k7y k6y k5 k4 k3 k2 k1 k0
  exact ⟨okc_e rfl, ⟨okc_e rfl, okc_e rfl, okc_e rfl, okc_e rfl, okc_e rfl, okc_e rfl, okc_e rfl, okc_e rfl, okc_e rfl, okc_e rfl, okc_e rfl, okc_e rfl, okc_e rfl, okc_e rfl, okc_e rfl, okc_e rfl, okc_e rfl, okc_e rfl, okc_e rfl, okc_e rfl, okc_e rfl, okc_e rfl, fun _ h => absurd h List.not_mem_nil⟩, okc_e rfl, ⟨okc_e rfl, okc_e rfl, fun _ h => absurd h List.not_mem_nil⟩, ⟨okc_e rfl, okc_e rfl, fun _ h => absurd h List.not_mem_nil⟩, okc_e rfl, ⟨okc_e rfl, okc_e rfl, fun _ h => absurd h List.not_mem_nil⟩, ⟨okc_e rfl, okc_e rfl, fun _ h => absurd h List.not_mem_nil⟩, ⟨okc_e rfl, okc_e rfl, okc_e rfl, okc_e rfl, okc_e rfl, okc_e rfl, fun _ h => absurd h List.not_mem_nil⟩, ⟨okc_e rfl, okc_e rfl, okc_e rfl, okc_e rfl, okc_e rfl, fun _ h => absurd h List.not_mem_nil⟩, ⟨⟨hrl, ⟨okc_e rfl, okc_e rfl, okc_e rfl, okc_e rfl, okc_e rfl, fun _ h => absurd h List.not_mem_nil⟩, har, fun _ h => absurd h List.not_mem_nil⟩, okc_e rfl, fun _ h => absurd h List.not_mem_nil⟩, ⟨okc_e rfl, okc_e rfl, okc_e rfl, fun _ h => absurd h List.not_mem_nil⟩, okc_e rfl, fun _ h => absurd h List.not_mem_nil⟩
