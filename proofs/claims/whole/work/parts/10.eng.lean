/-! ENGINE: heaps as functions of addresses; V cells slots pc locals stack heap: the machine, there, comes to its end -/
abbrev pE : Type := (Nat × vp_A) ⊕ (Nat × List Value)
abbrev pH : Type := Nat → Option pE
abbrev pL : Type := List (Nat × Value)
abbrev pK : Type := Nat → pL → List Value → pH → Prop
abbrev pV : Type := Nat → Nat → pK
def e_up (G : pH) (a : Nat) (x : pE) : pH := fun b => if b = a then some x else G b
def e_va (cs : Nat → ClassId) (x : pE) : va_E := match x with
  | .inl q => .inl (cs q.1, q.2)
  | .inr o => .inr o
def e_H (D : va_G) (cs : Nat → ClassId) (base : Nat) (G : pH) (H : Heap) : Prop := ∀ (a : Nat) (x : pE), G a = some x → base ≤ a ∧ va_at D vwCl (a, e_va cs x) H
abbrev e_A (base : Nat) : Nat → Prop := fun q => base ≤ q
abbrev e_tys (cs : Nat → ClassId) : List (ClassId × FieldType) := [(cs 0, .int), (cs 1, .long), (cs 2, .boolean), (cs 3, .object "FactLog$Fact")]
theorem e_H.one {D : va_G} {cs : Nat → ClassId} {base a : Nat} {G : pH} {H : Heap} {x : pE} (h : e_H D cs base G H) (ha : G a = some x) : va_P D vwCl [(a, e_va cs x)] H := by
  intro k q hk
  match k, hk with
  | 0, hk => cases hk; exact (h a x ha).2
  | k + 1, hk => simp at hk
theorem e_H.set {D : va_G} {cs : Nat → ClassId} {base a : Nat} {G : pH} {H H1 : Heap} {x : pE} (h : e_H D cs base G H) (ha : base ≤ a) (he : va_at D vwCl (a, e_va cs x) H1) (oq : ∀ q : Nat, q ≠ a → H1[q]? = H[q]?) : e_H D cs base (e_up G a x) H1 := by
  intro b y hb
  unfold e_up at hb
  by_cases hba : b = a
  · subst hba
    rw [if_pos rfl] at hb
    cases hb
    exact ⟨ha, he⟩
  · rw [if_neg hba] at hb
    obtain ⟨h1, h2⟩ := h b y hb
    exact ⟨h1, h2.kept (oq b hba)⟩
theorem e_H.add {D : va_G} {cs : Nat → ClassId} {base : Nat} {G : pH} {H H1 : Heap} {x : pE} (h : e_H D cs base G H) (hb : base ≤ H.size) (he : va_at D vwCl (H.size, e_va cs x) H1) (oq : ∀ q : Nat, q < H.size → H1[q]? = H[q]?) : G H.size = none ∧ e_H D cs base (e_up G H.size x) H1 := by
  refine ⟨?_, fun b y hby => ?_⟩
  · cases hn : G H.size with
    | none => rfl
    | some y => exact absurd ((h _ y hn).2.lt) (Nat.lt_irrefl _)
  · unfold e_up at hby
    by_cases hba : b = H.size
    · subst hba
      rw [if_pos rfl] at hby
      cases hby
      exact ⟨hb, he⟩
    · rw [if_neg hba] at hby
      obtain ⟨h1, h2⟩ := h b y hby
      exact ⟨h1, h2.kept (oq b h2.lt)⟩
/-- the links that a nest's classes have to each other's private members -/
def NWS : List Cond := [.methodLinkNest "FactLog" 11 ⟨"FactLog$Things", "<init>", "()V"⟩ "FactLog", .methodLinkNest "FactLog$Book" 17 ⟨"FactLog$Fact", "<init>", "()V"⟩ "FactLog", .methodLinkNest "FactLog" 25 ⟨"FactLog$Fact", "<init>", "()V"⟩ "FactLog", .methodLinkNest "FactLog" 39 ⟨"FactLog$Reader", "<init>", "()V"⟩ "FactLog", .methodLinkNest "FactLog" 46 ⟨"FactLog$Writer", "<init>", "()V"⟩ "FactLog", .methodLinkNest "FactLog" 57 ⟨"FactLog$Items", "<init>", "()V"⟩ "FactLog", .methodLinkNest "FactLog$Fact" 45 ⟨"FactLog", "isAmong", "(I[II)Z"⟩ "FactLog", .methodLinkNest "FactLog$Writer" 28 ⟨"FactLog", "sumWith", "(JI)J"⟩ "FactLog", .methodLinkNest "FactLog$Writer" 38 ⟨"FactLog", "lowestByte", "(J)I"⟩ "FactLog", .methodLinkNest "FactLog$Reader" 30 ⟨"FactLog", "sumWith", "(JI)J"⟩ "FactLog", .methodLinkNest "FactLog$Reader" 34 ⟨"FactLog", "isAmong", "(I[II)Z"⟩ "FactLog", .methodLinkNest "FactLog$Reader" 81 ⟨"FactLog", "lowestByte", "(J)I"⟩ "FactLog", .methodLinkNest "FactLog$Disk" 132 ⟨"FactLog", "sumWith", "(JI)J"⟩ "FactLog", .methodLinkNest "FactLog$Book" 64 ⟨"FactLog", "isIn", "(JI)Z"⟩ "FactLog"]
theorem NWS_n : ∀ w ∈ NWS, ∃ (a : String) (i : Nat) (x : MethodName) (h : String), w = .methodLinkNest a i x h := List.forall_mem_cons.mpr ⟨⟨_, _, _, _, rfl⟩, List.forall_mem_cons.mpr ⟨⟨_, _, _, _, rfl⟩, List.forall_mem_cons.mpr ⟨⟨_, _, _, _, rfl⟩, List.forall_mem_cons.mpr ⟨⟨_, _, _, _, rfl⟩, List.forall_mem_cons.mpr ⟨⟨_, _, _, _, rfl⟩, List.forall_mem_cons.mpr ⟨⟨_, _, _, _, rfl⟩, List.forall_mem_cons.mpr ⟨⟨_, _, _, _, rfl⟩, List.forall_mem_cons.mpr ⟨⟨_, _, _, _, rfl⟩, List.forall_mem_cons.mpr ⟨⟨_, _, _, _, rfl⟩, List.forall_mem_cons.mpr ⟨⟨_, _, _, _, rfl⟩, List.forall_mem_cons.mpr ⟨⟨_, _, _, _, rfl⟩, List.forall_mem_cons.mpr ⟨⟨_, _, _, _, rfl⟩, List.forall_mem_cons.mpr ⟨⟨_, _, _, _, rfl⟩, List.forall_mem_cons.mpr ⟨⟨_, _, _, _, rfl⟩, fun _ h => absurd h List.not_mem_nil⟩⟩⟩⟩⟩⟩⟩⟩⟩⟩⟩⟩⟩⟩
theorem NWS_t : ∀ w ∈ NWS, w ∈ lw_tbl := List.forall_mem_cons.mpr ⟨List.mem_of_getElem? (i := 55) (by decide +kernel), List.forall_mem_cons.mpr ⟨List.mem_of_getElem? (i := 80) (by decide +kernel), List.forall_mem_cons.mpr ⟨List.mem_of_getElem? (i := 156) (by decide +kernel), List.forall_mem_cons.mpr ⟨List.mem_of_getElem? (i := 207) (by decide +kernel), List.forall_mem_cons.mpr ⟨List.mem_of_getElem? (i := 235) (by decide +kernel), List.forall_mem_cons.mpr ⟨List.mem_of_getElem? (i := 263) (by decide +kernel), List.forall_mem_cons.mpr ⟨List.mem_of_getElem? (i := 324) (by decide +kernel), List.forall_mem_cons.mpr ⟨List.mem_of_getElem? (i := 455) (by decide +kernel), List.forall_mem_cons.mpr ⟨List.mem_of_getElem? (i := 467) (by decide +kernel), List.forall_mem_cons.mpr ⟨List.mem_of_getElem? (i := 508) (by decide +kernel), List.forall_mem_cons.mpr ⟨List.mem_of_getElem? (i := 517) (by decide +kernel), List.forall_mem_cons.mpr ⟨List.mem_of_getElem? (i := 524) (by decide +kernel), List.forall_mem_cons.mpr ⟨List.mem_of_getElem? (i := 545) (by decide +kernel), List.forall_mem_cons.mpr ⟨List.mem_of_getElem? (i := 562) (by decide +kernel), fun _ h => absurd h List.not_mem_nil⟩⟩⟩⟩⟩⟩⟩⟩⟩⟩⟩⟩⟩⟩
def e_N (U : State) : Prop := ∀ w ∈ NWS, va_Nw w U
theorem e_N.warm {s U : State} (hW : s.WarmedH U.vm) (h : e_N s) : e_N U := fun w hw => by
  obtain ⟨a, i, x, z, rfl⟩ := NWS_n w hw
  exact va_Nw.warmM hW (h _ hw)
theorem e_N.same {s U : State} (hv : s.vm = U.vm) (h : e_N s) : e_N U := fun w hw => by
  obtain ⟨a, i, x, z, rfl⟩ := NWS_n w hw
  exact va_tabs rfl hv (h _ hw)
theorem e_N.of {s : State} {args : Array Value} (h : ∀ w ∈ lw_tbl, w.before args s = true) : e_N s := fun w hw => by
  have h1 := h w (NWS_t w hw)
  obtain ⟨a, i, x, z, rfl⟩ := NWS_n w hw
  exact va_tabs rfl rfl h1
def e_W (p : Program) (l : Launch) (e : Env) (R : Room) (s : State) (m : MethodId) (args : Array Value) (below : List Frame) (meth : Method) (c : Code) (D : va_G) (cs : Nat → ClassId) (base nL : Nat) (Q : State → Prop) : pV := fun cells slots pc lv st G =>
  ∀ (H : Heap) (locs : List Loc) (ls : Array Slot), e_H D cs base G H → va_S (e_A base) s.heap H locs → lv_has ls nL lv → W p l e R s m args below meth c H locs cells slots Q (F0 m pc ls st)
/-- V is a method's walk: own class, code, words, room -/
def e_C (V : pV) (l : Launch) (own : String) (cc : ByteArray) (nL : Nat) (ws : List Cond) (R : Room) (ini : Bool) : Prop :=
  ∃ (p : Program) (e : Env) (s : State) (m : MethodId) (args : Array Value) (below : List Frame) (meth : Method) (c : Code) (D : va_G) (cs : Nat → ClassId) (base : Nat) (Q : State → Prop), V = e_W p l e R s m args below meth c D cs base nL Q ∧ CallFix p m c cc nL s args ws own ∧ (va_K D vwCl (e_tys cs) s ∧ e_N s) ∧ base ≤ s.heap.size ∧ (ini = true → meth.name = "<init>")
/-- .. and so it may end -/
def e_R (V : pV) (cc : ByteArray) (ret : Option FieldType) (mc ms : Nat) (post : Option Value → pH → Prop) : Prop := ∀ (pc : Nat) (lv : pL) (G : pH),
  (∀ (v : Int32) (t : FieldType), decode cc pc = .ok (.ireturn, 1) → ret = some t → narrow t (.int v) = .int v → post (some (.int v)) G → V mc ms pc lv [.int v] G) ∧
  (∀ v : Int64, decode cc pc = .ok (.lreturn, 1) → ret = some .long → post (some (.long v)) G → V mc ms pc lv [.long v] G) ∧
  (∀ (v : Nat) (t : FieldType), decode cc pc = .ok (.areturn, 1) → ret = some t → ((∃ n, t = .object n) ∨ ∃ u, t = .array u) → post (some (.ref v)) G → V mc ms pc lv [.ref v] G) ∧
  (decode cc pc = .ok (.return_, 1) → ret = none → post none G → V mc ms pc lv [] G)
def e_lk (lv : pL) (i : Nat) : Option Value := match lv with
  | [] => none
  | (j, v) :: t => if i = j then some v else e_lk t i
theorem e_lk_mem {i : Nat} {v : Value} : ∀ {lv : pL}, e_lk lv i = some v → (i, v) ∈ lv
  | [], h => by simp [e_lk] at h
  | (j, w) :: t, h => by
    unfold e_lk at h
    by_cases hij : i = j
    · subst hij
      rw [if_pos rfl] at h
      cases h
      exact List.mem_cons_self
    · rw [if_neg hij] at h
      exact List.mem_cons_of_mem _ (e_lk_mem h)
def e_rm (i : Nat) (two : Bool) (lv : pL) : pL := match lv with
  | [] => []
  | (j, w) :: t => if j = i then e_rm i two t else if two = true ∧ j = i + 1 then e_rm i two t else if j + 1 = i ∧ w.category = 2 then e_rm i two t else (j, w) :: e_rm i two t
theorem e_rm_mem {i : Nat} {two : Bool} {q : Nat × Value} : ∀ {lv : pL}, q ∈ e_rm i two lv → q ∈ lv ∧ ¬ q.1 = i ∧ ¬ (two = true ∧ q.1 = i + 1) ∧ ¬ (q.1 + 1 = i ∧ q.2.category = 2)
  | [], h => by simp [e_rm] at h
  | (j, w) :: t, h => by
    unfold e_rm at h
    by_cases h1 : j = i
    · rw [if_pos h1] at h
      exact ⟨List.mem_cons_of_mem _ (e_rm_mem h).1, (e_rm_mem h).2⟩
    · rw [if_neg h1] at h
      by_cases h2 : two = true ∧ j = i + 1
      · rw [if_pos h2] at h
        exact ⟨List.mem_cons_of_mem _ (e_rm_mem h).1, (e_rm_mem h).2⟩
      · rw [if_neg h2] at h
        by_cases h3 : j + 1 = i ∧ w.category = 2
        · rw [if_pos h3] at h
          exact ⟨List.mem_cons_of_mem _ (e_rm_mem h).1, (e_rm_mem h).2⟩
        · rw [if_neg h3] at h
          rcases List.mem_cons.mp h with rfl | h4
          · exact ⟨List.mem_cons_self, h1, h2, h3⟩
          · exact ⟨List.mem_cons_of_mem _ (e_rm_mem h4).1, (e_rm_mem h4).2⟩
def e_ins (i : Nat) (v : Value) (lv : pL) : pL := match lv with
  | [] => [(i, v)]
  | (j, w) :: t => if j < i then (j, w) :: e_ins i v t else (i, v) :: (j, w) :: t
theorem e_ins_mem {i : Nat} {v : Value} {q : Nat × Value} : ∀ {lv : pL}, q ∈ e_ins i v lv → q = (i, v) ∨ q ∈ lv
  | [], h => by
    simp [e_ins] at h
    exact Or.inl h
  | (j, w) :: t, h => by
    unfold e_ins at h
    by_cases h1 : j < i
    · rw [if_pos h1] at h
      rcases List.mem_cons.mp h with rfl | h2
      · exact Or.inr List.mem_cons_self
      · rcases e_ins_mem h2 with h3 | h3
        · exact Or.inl h3
        · exact Or.inr (List.mem_cons_of_mem _ h3)
    · rw [if_neg h1] at h
      rcases List.mem_cons.mp h with rfl | h2
      · exact Or.inl rfl
      · exact Or.inr h2
theorem e_st1 {ls : Array Slot} {nL i : Nat} {v : Value} {lv : pL} (h : lv_has ls nL ((i, v) :: lv.filter (fun q => !(q.1 == i) && !(q.1 + 1 == i && q.2.category == 2)))) : lv_has ls nL (e_ins i v (e_rm i false lv)) := by
  refine ⟨h.1, h.2.1, fun q hq => h.2.2 q ?_⟩
  rcases e_ins_mem hq with rfl | h1
  · exact List.mem_cons_self
  · obtain ⟨h2, h3, -, h5⟩ := e_rm_mem h1
    refine List.mem_cons_of_mem _ (List.mem_filter.mpr ⟨h2, ?_⟩)
    simp [h3]
    rcases Classical.em (q.1 + 1 = i) with h6 | h6
    · exact Or.inr (fun h7 => h5 ⟨h6, h7⟩)
    · exact Or.inl h6
theorem e_st2 {ls : Array Slot} {nL i : Nat} {v : Value} {lv : pL} (h : lv_has ls nL ((i, v) :: lv.filter (fun q => !(q.1 == i) && (!(q.1 == i + 1) && !(q.1 + 1 == i && q.2.category == 2))))) : lv_has ls nL (e_ins i v (e_rm i true lv)) := by
  refine ⟨h.1, h.2.1, fun q hq => h.2.2 q ?_⟩
  rcases e_ins_mem hq with rfl | h1
  · exact List.mem_cons_self
  · obtain ⟨h2, h3, h4, h5⟩ := e_rm_mem h1
    refine List.mem_cons_of_mem _ (List.mem_filter.mpr ⟨h2, ?_⟩)
    have h4' : ¬ q.1 = i + 1 := fun z => h4 ⟨rfl, z⟩
    simp [h3, h4']
    rcases Classical.em (q.1 + 1 = i) with h6 | h6
    · exact Or.inr (fun h7 => h5 ⟨h6, h7⟩)
    · exact Or.inl h6
def e_nth (fs : List Value) (k : Nat) : Option Value := match fs, k with
  | [], _ => none
  | v :: _, 0 => some v
  | _ :: t, k + 1 => e_nth t k
theorem e_nth_eq : ∀ (fs : List Value) (k : Nat), e_nth fs k = fs[k]?
  | [], k => by simp [e_nth]
  | v :: t, 0 => by simp [e_nth]
  | v :: t, k + 1 => by simp [e_nth, e_nth_eq t k]
def e_ushr (x : Int64) (y : Int32) : Int64 := (x.toUInt64 >>> (y.toInt64.toUInt64 &&& Int64.toUInt64 63)).toInt64
def e_pi (st : List Value) (k : Int32 → List Value → Prop) : Prop := match st with
  | .int x :: r => k x r
  | _ => False
def e_pl (st : List Value) (k : Int64 → List Value → Prop) : Prop := match st with
  | .long x :: r => k x r
  | _ => False
def e_pr (st : List Value) (k : Nat → List Value → Prop) : Prop := match st with
  | .ref x :: r => k x r
  | _ => False
def e_p0 (st : List Value) (k : Value → List Value → Prop) : Prop := match st with
  | v :: r => k v r
  | _ => False
theorem e_pi_inv {st : List Value} {k : Int32 → List Value → Prop} (h : e_pi st k) : ∃ x r, st = .int x :: r ∧ k x r := by
  unfold e_pi at h
  split at h
  · exact ⟨_, _, rfl, h⟩
  · exact h.elim
theorem e_pl_inv {st : List Value} {k : Int64 → List Value → Prop} (h : e_pl st k) : ∃ x r, st = .long x :: r ∧ k x r := by
  unfold e_pl at h
  split at h
  · exact ⟨_, _, rfl, h⟩
  · exact h.elim
theorem e_pr_inv {st : List Value} {k : Nat → List Value → Prop} (h : e_pr st k) : ∃ x r, st = .ref x :: r ∧ k x r := by
  unfold e_pr at h
  split at h
  · exact ⟨_, _, rfl, h⟩
  · exact h.elim
theorem e_p0_inv {st : List Value} {k : Value → List Value → Prop} (h : e_p0 st k) : ∃ x r, st = x :: r ∧ k x r := by
  unfold e_p0 at h
  split at h
  · exact ⟨_, _, rfl, h⟩
  · exact h.elim
def e_li (lv : pL) (i : Nat) (k : Int32 → Prop) : Prop := match e_lk lv i with
  | some (.int x) => k x
  | _ => False
def e_ll (lv : pL) (i : Nat) (k : Int64 → Prop) : Prop := match e_lk lv i with
  | some (.long x) => k x
  | _ => False
def e_lr (lv : pL) (i : Nat) (k : Nat → Prop) : Prop := match e_lk lv i with
  | some (.ref x) => k x
  | _ => False
theorem e_li_inv {lv : pL} {i : Nat} {k : Int32 → Prop} (h : e_li lv i k) : ∃ x, (i, Value.int x) ∈ lv ∧ k x := by
  unfold e_li at h
  split at h
  · rename_i x hx
    exact ⟨x, e_lk_mem hx, h⟩
  · exact h.elim
theorem e_ll_inv {lv : pL} {i : Nat} {k : Int64 → Prop} (h : e_ll lv i k) : ∃ x, (i, Value.long x) ∈ lv ∧ k x := by
  unfold e_ll at h
  split at h
  · rename_i x hx
    exact ⟨x, e_lk_mem hx, h⟩
  · exact h.elim
theorem e_lr_inv {lv : pL} {i : Nat} {k : Nat → Prop} (h : e_lr lv i k) : ∃ x, (i, Value.ref x) ∈ lv ∧ k x := by
  unfold e_lr at h
  split at h
  · rename_i x hx
    exact ⟨x, e_lk_mem hx, h⟩
  · exact h.elim
def e_ob (G : pH) (a : Nat) (k : Nat → List Value → Prop) : Prop := match G a with
  | some (.inr o) => k o.1 o.2
  | _ => False
def e_ai (G : pH) (a t : Nat) (k : Nat → (Nat → Int32) → Prop) : Prop := match G a with
  | some (.inl (t', n, .inl f)) => t' = t ∧ k n f
  | _ => False
def e_aj (G : pH) (a : Nat) (k : Nat → (Nat → Int64) → Prop) : Prop := match G a with
  | some (.inl (t', n, .inr (.inl f))) => t' = 1 ∧ k n f
  | _ => False
def e_aq (G : pH) (a : Nat) (k : Nat → (Nat → Option Nat) → Prop) : Prop := match G a with
  | some (.inl (t', n, .inr (.inr (.inr (.inr f))))) => t' = 3 ∧ k n f
  | _ => False
def e_an (G : pH) (a : Nat) (k : Nat → Prop) : Prop := match G a with
  | some (.inl q) => q.1 < 4 ∧ k q.2.1
  | _ => False
theorem e_ob_inv {G : pH} {a : Nat} {k : Nat → List Value → Prop} (h : e_ob G a k) : ∃ c fs, G a = some (.inr (c, fs)) ∧ k c fs := by
  unfold e_ob at h
  split at h
  · rename_i o ho
    exact ⟨o.1, o.2, ho, h⟩
  · exact h.elim
theorem e_ai_inv {G : pH} {a t : Nat} {k : Nat → (Nat → Int32) → Prop} (h : e_ai G a t k) : ∃ n f, G a = some (.inl (t, n, .inl f)) ∧ k n f := by
  unfold e_ai at h
  split at h
  · rename_i t' n f ho
    obtain ⟨rfl, h⟩ := h
    exact ⟨n, f, ho, h⟩
  · exact h.elim
theorem e_aj_inv {G : pH} {a : Nat} {k : Nat → (Nat → Int64) → Prop} (h : e_aj G a k) : ∃ n f, G a = some (.inl (1, n, .inr (.inl f))) ∧ k n f := by
  unfold e_aj at h
  split at h
  · rename_i t' n f ho
    obtain ⟨rfl, h⟩ := h
    exact ⟨n, f, ho, h⟩
  · exact h.elim
theorem e_aq_inv {G : pH} {a : Nat} {k : Nat → (Nat → Option Nat) → Prop} (h : e_aq G a k) : ∃ n f, G a = some (.inl (3, n, .inr (.inr (.inr (.inr f))))) ∧ k n f := by
  unfold e_aq at h
  split at h
  · rename_i t' n f ho
    obtain ⟨rfl, h⟩ := h
    exact ⟨n, f, ho, h⟩
  · exact h.elim
theorem e_an_inv {G : pH} {a : Nat} {k : Nat → Prop} (h : e_an G a k) : ∃ t x, G a = some (.inl (t, x)) ∧ t < 4 ∧ k x.1 := by
  unfold e_an at h
  split at h
  · rename_i q ho
    exact ⟨q.1, q.2, ho, h.1, h.2⟩
  · exact h.elim
def e_cmp (c : ClassFile.Cond) (x y : Int32) : Prop := match c with
  | .eq => x = y
  | .ne => ¬ x = y
  | .lt => x < y
  | .ge => y ≤ x
  | .gt => y < x
  | .le => x ≤ y
def e_to (pc : Nat) (off : Int) (k : Nat → Prop) : Prop := 0 ≤ (pc : Int) + off ∧ k ((pc : Int) + off).toNat
theorem e_to_inv {pc : Nat} {off : Int} {k : Nat → Prop} (h : e_to pc off k) : ∃ t : Nat, (pc : Int) + off = (t : Int) ∧ k t := ⟨_, (Int.toNat_of_nonneg h.1).symm, h.2⟩
def e_sw (k : Int → Prop) (x lo : Int) (offs : List Int) (d : Int) : Prop := match offs with
  | [] => k d
  | o :: t => (x = lo → k o) ∧ (¬ x = lo → e_sw k x (lo + 1) t d)

def e_FL (own : String) (fl : Nat → Option (Nat × Nat × FieldType × Nat)) : Prop := ∀ (idx ci k : Nat) (ty : FieldType) (fn : Nat), fl idx = some (ci, k, ty, fn) → ∃ (C : String) (T : u_T) (N : Nat) (ty0 : Nat → FieldType), vwCl[ci]? = some (C, T, N) ∧ k < N ∧ (∀ w ∈ u_ws C T N, w ∈ WS) ∧ Cond.fieldLink own idx (T k).1 (T k).2.1 (T k).2.2.1 ∈ WS ∧ (∀ j, j < N → parseFieldDescriptor (T j).2.2.1 = some (ty0 j)) ∧ ty0 k = ty ∧ (∀ a, a < N → ∀ b, b < N → a ≠ b → (T a).2.1 ≠ (T b).2.1) ∧ (fn = 0 → (T k).2.2.2 = false) ∧ (fn = 1 → (T k).2.2.2 = true ∧ (T k).1 = own)
def e_LD (own : String) (ld : Nat → Option Int64) : Prop := ∀ (idx : Nat) (v : Int64), ld idx = some v → Cond.constantLong own idx v ∈ WS

theorem r_null {V : pV} {l : Launch} {own : String} {cc : ByteArray} {nL : Nat} {ws : List Cond} {R : Room} {ini : Bool} {cells slots pc : Nat} {lv : pL} {rest : List Value} {G : pH} (C : e_C V l own cc nL ws R ini) (hd : decode cc pc = .ok (.aconst_null, 1)) (h : V cells slots (pc + 1) lv (.null :: rest) G) : V cells slots pc lv (rest) G := by
  obtain ⟨p, e, s, m, args, below, meth, c, D, cs, base, Q, rfl, ⟨hx, hb, hml, hown, hts⟩, ⟨hK, hN⟩, hbs, hin⟩ := C
  intro H locs ls hH hS hl
  exact lv_null hx hb hd (h H locs ls hH hS hl)
theorem r_iconst {V : pV} {l : Launch} {own : String} {cc : ByteArray} {nL : Nat} {ws : List Cond} {R : Room} {ini : Bool} {cells slots pc : Nat} {lv : pL} {rest : List Value} {G : pH} (C : e_C V l own cc nL ws R ini) {n : Int} (hd : decode cc pc = .ok (.iconst n, 1)) (h : V cells slots (pc + 1) lv (.int (Int32.ofInt n) :: rest) G) : V cells slots pc lv (rest) G := by
  obtain ⟨p, e, s, m, args, below, meth, c, D, cs, base, Q, rfl, ⟨hx, hb, hml, hown, hts⟩, ⟨hK, hN⟩, hbs, hin⟩ := C
  intro H locs ls hH hS hl
  exact lv_iconst hx hb hd rfl (h H locs ls hH hS hl)
theorem r_bipush {V : pV} {l : Launch} {own : String} {cc : ByteArray} {nL : Nat} {ws : List Cond} {R : Room} {ini : Bool} {cells slots pc : Nat} {lv : pL} {rest : List Value} {G : pH} (C : e_C V l own cc nL ws R ini) {n : Int} (hd : decode cc pc = .ok (.bipush n, 2)) (h : V cells slots (pc + 2) lv (.int (Int8.ofInt n).toInt32 :: rest) G) : V cells slots pc lv (rest) G := by
  obtain ⟨p, e, s, m, args, below, meth, c, D, cs, base, Q, rfl, ⟨hx, hb, hml, hown, hts⟩, ⟨hK, hN⟩, hbs, hin⟩ := C
  intro H locs ls hH hS hl
  exact lv_bipush hx hb hd rfl (h H locs ls hH hS hl)
theorem r_sipush {V : pV} {l : Launch} {own : String} {cc : ByteArray} {nL : Nat} {ws : List Cond} {R : Room} {ini : Bool} {cells slots pc : Nat} {lv : pL} {rest : List Value} {G : pH} (C : e_C V l own cc nL ws R ini) {n : Int} (hd : decode cc pc = .ok (.sipush n, 3)) (h : V cells slots (pc + 3) lv (.int (Int16.ofInt n).toInt32 :: rest) G) : V cells slots pc lv (rest) G := by
  obtain ⟨p, e, s, m, args, below, meth, c, D, cs, base, Q, rfl, ⟨hx, hb, hml, hown, hts⟩, ⟨hK, hN⟩, hbs, hin⟩ := C
  intro H locs ls hH hS hl
  exact lv_sipush hx hb hd rfl (h H locs ls hH hS hl)
theorem r_lconst {V : pV} {l : Launch} {own : String} {cc : ByteArray} {nL : Nat} {ws : List Cond} {R : Room} {ini : Bool} {cells slots pc : Nat} {lv : pL} {rest : List Value} {G : pH} (C : e_C V l own cc nL ws R ini) {n : Fin 2} (hd : decode cc pc = .ok (.lconst n, 1)) (h : V cells slots (pc + 1) lv (.long (Int64.ofNat (n : Nat)) :: rest) G) : V cells slots pc lv (rest) G := by
  obtain ⟨p, e, s, m, args, below, meth, c, D, cs, base, Q, rfl, ⟨hx, hb, hml, hown, hts⟩, ⟨hK, hN⟩, hbs, hin⟩ := C
  intro H locs ls hH hS hl
  exact lv_lconst hx hb hd rfl (h H locs ls hH hS hl)
theorem r_ldc2 {V : pV} {l : Launch} {own : String} {cc : ByteArray} {nL : Nat} {ws : List Cond} {R : Room} {ini : Bool} {cells slots pc : Nat} {lv : pL} {rest : List Value} {G : pH} (C : e_C V l own cc nL ws R ini) {idx : Nat} {v : Int64} (hw : Cond.constantLong own idx v ∈ ws) (hd : decode cc pc = .ok (.ldc2_w idx, 3)) (h : V cells slots (pc + 3) lv (.long v :: rest) G) : V cells slots pc lv (rest) G := by
  obtain ⟨p, e, s, m, args, below, meth, c, D, cs, base, Q, rfl, ⟨hx, hb, hml, hown, hts⟩, ⟨hK, hN⟩, hbs, hin⟩ := C
  intro H locs ls hH hS hl
  exact lv_ldc2 hx hb hown (hts _ hw) hd (h H locs ls hH hS hl)
theorem r_iload_n {V : pV} {l : Launch} {own : String} {cc : ByteArray} {nL : Nat} {ws : List Cond} {R : Room} {ini : Bool} {cells slots pc : Nat} {lv : pL} {rest : List Value} {G : pH} (C : e_C V l own cc nL ws R ini) {k : Fin 4} {x : Int32} (hm : ((k : Nat), Value.int x) ∈ lv) (hd : decode cc pc = .ok (.iload_n k, 1)) (h : V cells slots (pc + 1) lv (.int x :: rest) G) : V cells slots pc lv (rest) G := by
  obtain ⟨p, e, s, m, args, below, meth, c, D, cs, base, Q, rfl, ⟨hx, hb, hml, hown, hts⟩, ⟨hK, hN⟩, hbs, hin⟩ := C
  intro H locs ls hH hS hl
  exact lv_iload_n hx hb hd rfl (hl.2.2 _ hm) (h H locs ls hH hS hl)
theorem r_iload {V : pV} {l : Launch} {own : String} {cc : ByteArray} {nL : Nat} {ws : List Cond} {R : Room} {ini : Bool} {cells slots pc : Nat} {lv : pL} {rest : List Value} {G : pH} (C : e_C V l own cc nL ws R ini) {k : Nat} {x : Int32} (hm : (k, Value.int x) ∈ lv) (hd : decode cc pc = .ok (.iload k, 2)) (h : V cells slots (pc + 2) lv (.int x :: rest) G) : V cells slots pc lv (rest) G := by
  obtain ⟨p, e, s, m, args, below, meth, c, D, cs, base, Q, rfl, ⟨hx, hb, hml, hown, hts⟩, ⟨hK, hN⟩, hbs, hin⟩ := C
  intro H locs ls hH hS hl
  exact lv_iload hx hb hd (hl.2.2 _ hm) (h H locs ls hH hS hl)
theorem r_lload_n {V : pV} {l : Launch} {own : String} {cc : ByteArray} {nL : Nat} {ws : List Cond} {R : Room} {ini : Bool} {cells slots pc : Nat} {lv : pL} {rest : List Value} {G : pH} (C : e_C V l own cc nL ws R ini) {k : Fin 4} {x : Int64} (hm : ((k : Nat), Value.long x) ∈ lv) (hd : decode cc pc = .ok (.lload_n k, 1)) (h : V cells slots (pc + 1) lv (.long x :: rest) G) : V cells slots pc lv (rest) G := by
  obtain ⟨p, e, s, m, args, below, meth, c, D, cs, base, Q, rfl, ⟨hx, hb, hml, hown, hts⟩, ⟨hK, hN⟩, hbs, hin⟩ := C
  intro H locs ls hH hS hl
  exact lv_lload_n hx hb hd rfl (hl.2.2 _ hm) (h H locs ls hH hS hl)
theorem r_lload {V : pV} {l : Launch} {own : String} {cc : ByteArray} {nL : Nat} {ws : List Cond} {R : Room} {ini : Bool} {cells slots pc : Nat} {lv : pL} {rest : List Value} {G : pH} (C : e_C V l own cc nL ws R ini) {k : Nat} {x : Int64} (hm : (k, Value.long x) ∈ lv) (hd : decode cc pc = .ok (.lload k, 2)) (h : V cells slots (pc + 2) lv (.long x :: rest) G) : V cells slots pc lv (rest) G := by
  obtain ⟨p, e, s, m, args, below, meth, c, D, cs, base, Q, rfl, ⟨hx, hb, hml, hown, hts⟩, ⟨hK, hN⟩, hbs, hin⟩ := C
  intro H locs ls hH hS hl
  exact lv_lload hx hb hd (hl.2.2 _ hm) (h H locs ls hH hS hl)
theorem r_aload_n {V : pV} {l : Launch} {own : String} {cc : ByteArray} {nL : Nat} {ws : List Cond} {R : Room} {ini : Bool} {cells slots pc : Nat} {lv : pL} {rest : List Value} {G : pH} (C : e_C V l own cc nL ws R ini) {k : Fin 4} {x : Nat} (hm : ((k : Nat), Value.ref x) ∈ lv) (hd : decode cc pc = .ok (.aload_n k, 1)) (h : V cells slots (pc + 1) lv (.ref x :: rest) G) : V cells slots pc lv (rest) G := by
  obtain ⟨p, e, s, m, args, below, meth, c, D, cs, base, Q, rfl, ⟨hx, hb, hml, hown, hts⟩, ⟨hK, hN⟩, hbs, hin⟩ := C
  intro H locs ls hH hS hl
  exact lv_aload_n hx hb hd rfl (hl.2.2 _ hm) (h H locs ls hH hS hl)
theorem r_aload {V : pV} {l : Launch} {own : String} {cc : ByteArray} {nL : Nat} {ws : List Cond} {R : Room} {ini : Bool} {cells slots pc : Nat} {lv : pL} {rest : List Value} {G : pH} (C : e_C V l own cc nL ws R ini) {k : Nat} {x : Nat} (hm : (k, Value.ref x) ∈ lv) (hd : decode cc pc = .ok (.aload k, 2)) (h : V cells slots (pc + 2) lv (.ref x :: rest) G) : V cells slots pc lv (rest) G := by
  obtain ⟨p, e, s, m, args, below, meth, c, D, cs, base, Q, rfl, ⟨hx, hb, hml, hown, hts⟩, ⟨hK, hN⟩, hbs, hin⟩ := C
  intro H locs ls hH hS hl
  exact lv_aload hx hb hd (hl.2.2 _ hm) (h H locs ls hH hS hl)
theorem r_istore_n {V : pV} {l : Launch} {own : String} {cc : ByteArray} {nL : Nat} {ws : List Cond} {R : Room} {ini : Bool} {cells slots pc : Nat} {lv : pL} {rest : List Value} {G : pH} (C : e_C V l own cc nL ws R ini) {k : Fin 4} {x : Int32} (hn : (k : Nat) < nL) (hd : decode cc pc = .ok (.istore_n k, 1)) (h : V cells slots (pc + 1) (e_ins (k : Nat) (.int x) (e_rm (k : Nat) false lv)) rest G) : V cells slots pc lv (.int x :: rest) G := by
  obtain ⟨p, e, s, m, args, below, meth, c, D, cs, base, Q, rfl, ⟨hx, hb, hml, hown, hts⟩, ⟨hK, hN⟩, hbs, hin⟩ := C
  intro H locs ls hH hS hl
  exact lv_istore_n hx hb hd rfl hl hn rfl (fun ls2 hl2 => h H locs ls2 hH hS (e_st1 hl2))
theorem r_istore {V : pV} {l : Launch} {own : String} {cc : ByteArray} {nL : Nat} {ws : List Cond} {R : Room} {ini : Bool} {cells slots pc : Nat} {lv : pL} {rest : List Value} {G : pH} (C : e_C V l own cc nL ws R ini) {k : Nat} {x : Int32} (hn : k < nL) (hd : decode cc pc = .ok (.istore k, 2)) (h : V cells slots (pc + 2) (e_ins k (.int x) (e_rm k false lv)) rest G) : V cells slots pc lv (.int x :: rest) G := by
  obtain ⟨p, e, s, m, args, below, meth, c, D, cs, base, Q, rfl, ⟨hx, hb, hml, hown, hts⟩, ⟨hK, hN⟩, hbs, hin⟩ := C
  intro H locs ls hH hS hl
  exact lv_istore hx hb hd hl hn rfl (fun ls2 hl2 => h H locs ls2 hH hS (e_st1 hl2))
theorem r_lstore_n {V : pV} {l : Launch} {own : String} {cc : ByteArray} {nL : Nat} {ws : List Cond} {R : Room} {ini : Bool} {cells slots pc : Nat} {lv : pL} {rest : List Value} {G : pH} (C : e_C V l own cc nL ws R ini) {k : Fin 4} {x : Int64} (hn : (k : Nat) + 1 < nL) (hd : decode cc pc = .ok (.lstore_n k, 1)) (h : V cells slots (pc + 1) (e_ins (k : Nat) (.long x) (e_rm (k : Nat) true lv)) rest G) : V cells slots pc lv (.long x :: rest) G := by
  obtain ⟨p, e, s, m, args, below, meth, c, D, cs, base, Q, rfl, ⟨hx, hb, hml, hown, hts⟩, ⟨hK, hN⟩, hbs, hin⟩ := C
  intro H locs ls hH hS hl
  exact lv_lstore_n hx hb hd rfl hl hn rfl (fun ls2 hl2 => h H locs ls2 hH hS (e_st2 hl2))
theorem r_lstore {V : pV} {l : Launch} {own : String} {cc : ByteArray} {nL : Nat} {ws : List Cond} {R : Room} {ini : Bool} {cells slots pc : Nat} {lv : pL} {rest : List Value} {G : pH} (C : e_C V l own cc nL ws R ini) {k : Nat} {x : Int64} (hn : k + 1 < nL) (hd : decode cc pc = .ok (.lstore k, 2)) (h : V cells slots (pc + 2) (e_ins k (.long x) (e_rm k true lv)) rest G) : V cells slots pc lv (.long x :: rest) G := by
  obtain ⟨p, e, s, m, args, below, meth, c, D, cs, base, Q, rfl, ⟨hx, hb, hml, hown, hts⟩, ⟨hK, hN⟩, hbs, hin⟩ := C
  intro H locs ls hH hS hl
  exact lv_lstore hx hb hd hl hn rfl (fun ls2 hl2 => h H locs ls2 hH hS (e_st2 hl2))
theorem r_astore_n {V : pV} {l : Launch} {own : String} {cc : ByteArray} {nL : Nat} {ws : List Cond} {R : Room} {ini : Bool} {cells slots pc : Nat} {lv : pL} {rest : List Value} {G : pH} (C : e_C V l own cc nL ws R ini) {k : Fin 4} {x : Nat} (hn : (k : Nat) < nL) (hd : decode cc pc = .ok (.astore_n k, 1)) (h : V cells slots (pc + 1) (e_ins (k : Nat) (.ref x) (e_rm (k : Nat) false lv)) rest G) : V cells slots pc lv (.ref x :: rest) G := by
  obtain ⟨p, e, s, m, args, below, meth, c, D, cs, base, Q, rfl, ⟨hx, hb, hml, hown, hts⟩, ⟨hK, hN⟩, hbs, hin⟩ := C
  intro H locs ls hH hS hl
  exact lv_astore_n hx hb hd rfl hl hn rfl (fun ls2 hl2 => h H locs ls2 hH hS (e_st1 hl2))
theorem r_astore {V : pV} {l : Launch} {own : String} {cc : ByteArray} {nL : Nat} {ws : List Cond} {R : Room} {ini : Bool} {cells slots pc : Nat} {lv : pL} {rest : List Value} {G : pH} (C : e_C V l own cc nL ws R ini) {k : Nat} {x : Nat} (hn : k < nL) (hd : decode cc pc = .ok (.astore k, 2)) (h : V cells slots (pc + 2) (e_ins k (.ref x) (e_rm k false lv)) rest G) : V cells slots pc lv (.ref x :: rest) G := by
  obtain ⟨p, e, s, m, args, below, meth, c, D, cs, base, Q, rfl, ⟨hx, hb, hml, hown, hts⟩, ⟨hK, hN⟩, hbs, hin⟩ := C
  intro H locs ls hH hS hl
  exact lv_astore hx hb hd hl hn rfl (fun ls2 hl2 => h H locs ls2 hH hS (e_st1 hl2))
theorem r_iinc {V : pV} {l : Launch} {own : String} {cc : ByteArray} {nL : Nat} {ws : List Cond} {R : Room} {ini : Bool} {cells slots pc : Nat} {lv : pL} {rest : List Value} {G : pH} (C : e_C V l own cc nL ws R ini) {k : Nat} {n : Int} {x : Int32} (hm : (k, Value.int x) ∈ lv) (hn : k < nL) (hd : decode cc pc = .ok (.iinc k n, 3)) (h : V cells slots (pc + 3) (e_ins k (.int (x + Int32.ofInt n)) (e_rm k false lv)) rest G) : V cells slots pc lv rest G := by
  obtain ⟨p, e, s, m, args, below, meth, c, D, cs, base, Q, rfl, ⟨hx, hb, hml, hown, hts⟩, ⟨hK, hN⟩, hbs, hin⟩ := C
  intro H locs ls hH hS hl
  obtain ⟨j, hj⟩ := List.getElem?_of_mem hm
  exact lv_iinc hx hb hd hl hj rfl hn rfl (fun ls2 hl2 => h H locs ls2 hH hS (e_st1 hl2))
theorem r_iadd {V : pV} {l : Launch} {own : String} {cc : ByteArray} {nL : Nat} {ws : List Cond} {R : Room} {ini : Bool} {cells slots pc : Nat} {lv : pL} {rest : List Value} {G : pH} (C : e_C V l own cc nL ws R ini) {x y : Int32} (hd : decode cc pc = .ok (.iadd, 1)) (h : V cells slots (pc + 1) lv (.int (x + y) :: rest) G) : V cells slots pc lv (.int y :: .int x :: rest) G := by
  obtain ⟨p, e, s, m, args, below, meth, c, D, cs, base, Q, rfl, ⟨hx, hb, hml, hown, hts⟩, ⟨hK, hN⟩, hbs, hin⟩ := C
  intro H locs ls hH hS hl
  exact lv_iadd hx hb hd (h H locs ls hH hS hl)
theorem r_isub {V : pV} {l : Launch} {own : String} {cc : ByteArray} {nL : Nat} {ws : List Cond} {R : Room} {ini : Bool} {cells slots pc : Nat} {lv : pL} {rest : List Value} {G : pH} (C : e_C V l own cc nL ws R ini) {x y : Int32} (hd : decode cc pc = .ok (.isub, 1)) (h : V cells slots (pc + 1) lv (.int (x - y) :: rest) G) : V cells slots pc lv (.int y :: .int x :: rest) G := by
  obtain ⟨p, e, s, m, args, below, meth, c, D, cs, base, Q, rfl, ⟨hx, hb, hml, hown, hts⟩, ⟨hK, hN⟩, hbs, hin⟩ := C
  intro H locs ls hH hS hl
  exact lv_isub hx hb hd (h H locs ls hH hS hl)
theorem r_imul {V : pV} {l : Launch} {own : String} {cc : ByteArray} {nL : Nat} {ws : List Cond} {R : Room} {ini : Bool} {cells slots pc : Nat} {lv : pL} {rest : List Value} {G : pH} (C : e_C V l own cc nL ws R ini) {x y : Int32} (hd : decode cc pc = .ok (.imul, 1)) (h : V cells slots (pc + 1) lv (.int (x * y) :: rest) G) : V cells slots pc lv (.int y :: .int x :: rest) G := by
  obtain ⟨p, e, s, m, args, below, meth, c, D, cs, base, Q, rfl, ⟨hx, hb, hml, hown, hts⟩, ⟨hK, hN⟩, hbs, hin⟩ := C
  intro H locs ls hH hS hl
  exact lv_imul hx hb hd (h H locs ls hH hS hl)
theorem r_iand {V : pV} {l : Launch} {own : String} {cc : ByteArray} {nL : Nat} {ws : List Cond} {R : Room} {ini : Bool} {cells slots pc : Nat} {lv : pL} {rest : List Value} {G : pH} (C : e_C V l own cc nL ws R ini) {x y : Int32} (hd : decode cc pc = .ok (.iand, 1)) (h : V cells slots (pc + 1) lv (.int (x &&& y) :: rest) G) : V cells slots pc lv (.int y :: .int x :: rest) G := by
  obtain ⟨p, e, s, m, args, below, meth, c, D, cs, base, Q, rfl, ⟨hx, hb, hml, hown, hts⟩, ⟨hK, hN⟩, hbs, hin⟩ := C
  intro H locs ls hH hS hl
  exact lv_iand hx hb hd (h H locs ls hH hS hl)
theorem r_ior {V : pV} {l : Launch} {own : String} {cc : ByteArray} {nL : Nat} {ws : List Cond} {R : Room} {ini : Bool} {cells slots pc : Nat} {lv : pL} {rest : List Value} {G : pH} (C : e_C V l own cc nL ws R ini) {x y : Int32} (hd : decode cc pc = .ok (.ior, 1)) (h : V cells slots (pc + 1) lv (.int (x ||| y) :: rest) G) : V cells slots pc lv (.int y :: .int x :: rest) G := by
  obtain ⟨p, e, s, m, args, below, meth, c, D, cs, base, Q, rfl, ⟨hx, hb, hml, hown, hts⟩, ⟨hK, hN⟩, hbs, hin⟩ := C
  intro H locs ls hH hS hl
  exact lv_ior hx hb hd (h H locs ls hH hS hl)
theorem r_ixor {V : pV} {l : Launch} {own : String} {cc : ByteArray} {nL : Nat} {ws : List Cond} {R : Room} {ini : Bool} {cells slots pc : Nat} {lv : pL} {rest : List Value} {G : pH} (C : e_C V l own cc nL ws R ini) {x y : Int32} (hd : decode cc pc = .ok (.ixor, 1)) (h : V cells slots (pc + 1) lv (.int (x ^^^ y) :: rest) G) : V cells slots pc lv (.int y :: .int x :: rest) G := by
  obtain ⟨p, e, s, m, args, below, meth, c, D, cs, base, Q, rfl, ⟨hx, hb, hml, hown, hts⟩, ⟨hK, hN⟩, hbs, hin⟩ := C
  intro H locs ls hH hS hl
  exact lv_ixor hx hb hd (h H locs ls hH hS hl)
theorem r_ishl {V : pV} {l : Launch} {own : String} {cc : ByteArray} {nL : Nat} {ws : List Cond} {R : Room} {ini : Bool} {cells slots pc : Nat} {lv : pL} {rest : List Value} {G : pH} (C : e_C V l own cc nL ws R ini) {x y : Int32} (hd : decode cc pc = .ok (.ishl, 1)) (h : V cells slots (pc + 1) lv (.int (x <<< (y &&& 31)) :: rest) G) : V cells slots pc lv (.int y :: .int x :: rest) G := by
  obtain ⟨p, e, s, m, args, below, meth, c, D, cs, base, Q, rfl, ⟨hx, hb, hml, hown, hts⟩, ⟨hK, hN⟩, hbs, hin⟩ := C
  intro H locs ls hH hS hl
  exact lv_ishl hx hb hd (h H locs ls hH hS hl)
theorem r_ishr {V : pV} {l : Launch} {own : String} {cc : ByteArray} {nL : Nat} {ws : List Cond} {R : Room} {ini : Bool} {cells slots pc : Nat} {lv : pL} {rest : List Value} {G : pH} (C : e_C V l own cc nL ws R ini) {x y : Int32} (hd : decode cc pc = .ok (.ishr, 1)) (h : V cells slots (pc + 1) lv (.int (x >>> (y &&& 31)) :: rest) G) : V cells slots pc lv (.int y :: .int x :: rest) G := by
  obtain ⟨p, e, s, m, args, below, meth, c, D, cs, base, Q, rfl, ⟨hx, hb, hml, hown, hts⟩, ⟨hK, hN⟩, hbs, hin⟩ := C
  intro H locs ls hH hS hl
  exact lv_ishr hx hb hd (h H locs ls hH hS hl)
theorem r_idiv {V : pV} {l : Launch} {own : String} {cc : ByteArray} {nL : Nat} {ws : List Cond} {R : Room} {ini : Bool} {cells slots pc : Nat} {lv : pL} {rest : List Value} {G : pH} (C : e_C V l own cc nL ws R ini) {x y : Int32} (hne : ¬ y = 0) (hd : decode cc pc = .ok (.idiv, 1)) (h : V cells slots (pc + 1) lv (.int (x / y) :: rest) G) : V cells slots pc lv (.int y :: .int x :: rest) G := by
  obtain ⟨p, e, s, m, args, below, meth, c, D, cs, base, Q, rfl, ⟨hx, hb, hml, hown, hts⟩, ⟨hK, hN⟩, hbs, hin⟩ := C
  intro H locs ls hH hS hl
  exact lv_idiv hx hb hd hne (h H locs ls hH hS hl)
theorem r_irem {V : pV} {l : Launch} {own : String} {cc : ByteArray} {nL : Nat} {ws : List Cond} {R : Room} {ini : Bool} {cells slots pc : Nat} {lv : pL} {rest : List Value} {G : pH} (C : e_C V l own cc nL ws R ini) {x y : Int32} (hne : ¬ y = 0) (hd : decode cc pc = .ok (.irem, 1)) (h : V cells slots (pc + 1) lv (.int (x - x / y * y) :: rest) G) : V cells slots pc lv (.int y :: .int x :: rest) G := by
  obtain ⟨p, e, s, m, args, below, meth, c, D, cs, base, Q, rfl, ⟨hx, hb, hml, hown, hts⟩, ⟨hK, hN⟩, hbs, hin⟩ := C
  intro H locs ls hH hS hl
  exact lv_irem hx hb hd hne (h H locs ls hH hS hl)
theorem r_ladd {V : pV} {l : Launch} {own : String} {cc : ByteArray} {nL : Nat} {ws : List Cond} {R : Room} {ini : Bool} {cells slots pc : Nat} {lv : pL} {rest : List Value} {G : pH} (C : e_C V l own cc nL ws R ini) {x y : Int64} (hd : decode cc pc = .ok (.ladd, 1)) (h : V cells slots (pc + 1) lv (.long (x + y) :: rest) G) : V cells slots pc lv (.long y :: .long x :: rest) G := by
  obtain ⟨p, e, s, m, args, below, meth, c, D, cs, base, Q, rfl, ⟨hx, hb, hml, hown, hts⟩, ⟨hK, hN⟩, hbs, hin⟩ := C
  intro H locs ls hH hS hl
  exact lv_ladd hx hb hd (h H locs ls hH hS hl)
theorem r_lsub {V : pV} {l : Launch} {own : String} {cc : ByteArray} {nL : Nat} {ws : List Cond} {R : Room} {ini : Bool} {cells slots pc : Nat} {lv : pL} {rest : List Value} {G : pH} (C : e_C V l own cc nL ws R ini) {x y : Int64} (hd : decode cc pc = .ok (.lsub, 1)) (h : V cells slots (pc + 1) lv (.long (x - y) :: rest) G) : V cells slots pc lv (.long y :: .long x :: rest) G := by
  obtain ⟨p, e, s, m, args, below, meth, c, D, cs, base, Q, rfl, ⟨hx, hb, hml, hown, hts⟩, ⟨hK, hN⟩, hbs, hin⟩ := C
  intro H locs ls hH hS hl
  exact lv_lsub hx hb hd (h H locs ls hH hS hl)
theorem r_lmul {V : pV} {l : Launch} {own : String} {cc : ByteArray} {nL : Nat} {ws : List Cond} {R : Room} {ini : Bool} {cells slots pc : Nat} {lv : pL} {rest : List Value} {G : pH} (C : e_C V l own cc nL ws R ini) {x y : Int64} (hd : decode cc pc = .ok (.lmul, 1)) (h : V cells slots (pc + 1) lv (.long (x * y) :: rest) G) : V cells slots pc lv (.long y :: .long x :: rest) G := by
  obtain ⟨p, e, s, m, args, below, meth, c, D, cs, base, Q, rfl, ⟨hx, hb, hml, hown, hts⟩, ⟨hK, hN⟩, hbs, hin⟩ := C
  intro H locs ls hH hS hl
  exact lv_lmul hx hb hd (h H locs ls hH hS hl)
theorem r_land {V : pV} {l : Launch} {own : String} {cc : ByteArray} {nL : Nat} {ws : List Cond} {R : Room} {ini : Bool} {cells slots pc : Nat} {lv : pL} {rest : List Value} {G : pH} (C : e_C V l own cc nL ws R ini) {x y : Int64} (hd : decode cc pc = .ok (.land, 1)) (h : V cells slots (pc + 1) lv (.long (x &&& y) :: rest) G) : V cells slots pc lv (.long y :: .long x :: rest) G := by
  obtain ⟨p, e, s, m, args, below, meth, c, D, cs, base, Q, rfl, ⟨hx, hb, hml, hown, hts⟩, ⟨hK, hN⟩, hbs, hin⟩ := C
  intro H locs ls hH hS hl
  exact lv_land hx hb hd (h H locs ls hH hS hl)
theorem r_lor {V : pV} {l : Launch} {own : String} {cc : ByteArray} {nL : Nat} {ws : List Cond} {R : Room} {ini : Bool} {cells slots pc : Nat} {lv : pL} {rest : List Value} {G : pH} (C : e_C V l own cc nL ws R ini) {x y : Int64} (hd : decode cc pc = .ok (.lor, 1)) (h : V cells slots (pc + 1) lv (.long (x ||| y) :: rest) G) : V cells slots pc lv (.long y :: .long x :: rest) G := by
  obtain ⟨p, e, s, m, args, below, meth, c, D, cs, base, Q, rfl, ⟨hx, hb, hml, hown, hts⟩, ⟨hK, hN⟩, hbs, hin⟩ := C
  intro H locs ls hH hS hl
  exact lv_lor hx hb hd (h H locs ls hH hS hl)
theorem r_lxor {V : pV} {l : Launch} {own : String} {cc : ByteArray} {nL : Nat} {ws : List Cond} {R : Room} {ini : Bool} {cells slots pc : Nat} {lv : pL} {rest : List Value} {G : pH} (C : e_C V l own cc nL ws R ini) {x y : Int64} (hd : decode cc pc = .ok (.lxor, 1)) (h : V cells slots (pc + 1) lv (.long (x ^^^ y) :: rest) G) : V cells slots pc lv (.long y :: .long x :: rest) G := by
  obtain ⟨p, e, s, m, args, below, meth, c, D, cs, base, Q, rfl, ⟨hx, hb, hml, hown, hts⟩, ⟨hK, hN⟩, hbs, hin⟩ := C
  intro H locs ls hH hS hl
  exact lv_lxor hx hb hd (h H locs ls hH hS hl)
theorem r_lshl {V : pV} {l : Launch} {own : String} {cc : ByteArray} {nL : Nat} {ws : List Cond} {R : Room} {ini : Bool} {cells slots pc : Nat} {lv : pL} {rest : List Value} {G : pH} (C : e_C V l own cc nL ws R ini) {x : Int64} {y : Int32} (hd : decode cc pc = .ok (.lshl, 1)) (h : V cells slots (pc + 1) lv (.long (x <<< (y.toInt64 &&& 63)) :: rest) G) : V cells slots pc lv (.int y :: .long x :: rest) G := by
  obtain ⟨p, e, s, m, args, below, meth, c, D, cs, base, Q, rfl, ⟨hx, hb, hml, hown, hts⟩, ⟨hK, hN⟩, hbs, hin⟩ := C
  intro H locs ls hH hS hl
  exact lv_lshl hx hb hd rfl (h H locs ls hH hS hl)
theorem r_lshr {V : pV} {l : Launch} {own : String} {cc : ByteArray} {nL : Nat} {ws : List Cond} {R : Room} {ini : Bool} {cells slots pc : Nat} {lv : pL} {rest : List Value} {G : pH} (C : e_C V l own cc nL ws R ini) {x : Int64} {y : Int32} (hd : decode cc pc = .ok (.lshr, 1)) (h : V cells slots (pc + 1) lv (.long (x >>> (y.toInt64 &&& 63)) :: rest) G) : V cells slots pc lv (.int y :: .long x :: rest) G := by
  obtain ⟨p, e, s, m, args, below, meth, c, D, cs, base, Q, rfl, ⟨hx, hb, hml, hown, hts⟩, ⟨hK, hN⟩, hbs, hin⟩ := C
  intro H locs ls hH hS hl
  exact lv_lshr hx hb hd rfl (h H locs ls hH hS hl)
theorem r_lushr {V : pV} {l : Launch} {own : String} {cc : ByteArray} {nL : Nat} {ws : List Cond} {R : Room} {ini : Bool} {cells slots pc : Nat} {lv : pL} {rest : List Value} {G : pH} (C : e_C V l own cc nL ws R ini) {x : Int64} {y : Int32} (hd : decode cc pc = .ok (.lushr, 1)) (h : V cells slots (pc + 1) lv (.long (e_ushr x y) :: rest) G) : V cells slots pc lv (.int y :: .long x :: rest) G := by
  obtain ⟨p, e, s, m, args, below, meth, c, D, cs, base, Q, rfl, ⟨hx, hb, hml, hown, hts⟩, ⟨hK, hN⟩, hbs, hin⟩ := C
  intro H locs ls hH hS hl
  exact lv_lushr hx hb hd rfl (h H locs ls hH hS hl)
theorem r_i2l {V : pV} {l : Launch} {own : String} {cc : ByteArray} {nL : Nat} {ws : List Cond} {R : Room} {ini : Bool} {cells slots pc : Nat} {lv : pL} {rest : List Value} {G : pH} (C : e_C V l own cc nL ws R ini) {x : Int32} (hd : decode cc pc = .ok (.i2l, 1)) (h : V cells slots (pc + 1) lv (.long x.toInt64 :: rest) G) : V cells slots pc lv (.int x :: rest) G := by
  obtain ⟨p, e, s, m, args, below, meth, c, D, cs, base, Q, rfl, ⟨hx, hb, hml, hown, hts⟩, ⟨hK, hN⟩, hbs, hin⟩ := C
  intro H locs ls hH hS hl
  exact lv_i2l hx hb hd rfl (h H locs ls hH hS hl)
theorem r_l2i {V : pV} {l : Launch} {own : String} {cc : ByteArray} {nL : Nat} {ws : List Cond} {R : Room} {ini : Bool} {cells slots pc : Nat} {lv : pL} {rest : List Value} {G : pH} (C : e_C V l own cc nL ws R ini) {x : Int64} (hd : decode cc pc = .ok (.l2i, 1)) (h : V cells slots (pc + 1) lv (.int x.toInt32 :: rest) G) : V cells slots pc lv (.long x :: rest) G := by
  obtain ⟨p, e, s, m, args, below, meth, c, D, cs, base, Q, rfl, ⟨hx, hb, hml, hown, hts⟩, ⟨hK, hN⟩, hbs, hin⟩ := C
  intro H locs ls hH hS hl
  exact lv_l2i hx hb hd rfl (h H locs ls hH hS hl)
theorem r_lcmp {V : pV} {l : Launch} {own : String} {cc : ByteArray} {nL : Nat} {ws : List Cond} {R : Room} {ini : Bool} {cells slots pc : Nat} {lv : pL} {rest : List Value} {G : pH} (C : e_C V l own cc nL ws R ini) {x y : Int64} (hd : decode cc pc = .ok (.lcmp, 1)) (h : V cells slots (pc + 1) lv (.int (lg_cmp x y) :: rest) G) : V cells slots pc lv (.long y :: .long x :: rest) G := by
  obtain ⟨p, e, s, m, args, below, meth, c, D, cs, base, Q, rfl, ⟨hx, hb, hml, hown, hts⟩, ⟨hK, hN⟩, hbs, hin⟩ := C
  intro H locs ls hH hS hl
  exact W.lcmp hx hb hd (h H locs ls hH hS hl)
theorem r_dup {V : pV} {l : Launch} {own : String} {cc : ByteArray} {nL : Nat} {ws : List Cond} {R : Room} {ini : Bool} {cells slots pc : Nat} {lv : pL} {rest : List Value} {G : pH} (C : e_C V l own cc nL ws R ini) {a : Value} (ha : a.category = 1) (hd : decode cc pc = .ok (.dup, 1)) (h : V cells slots (pc + 1) lv (a :: a :: rest) G) : V cells slots pc lv (a :: rest) G := by
  obtain ⟨p, e, s, m, args, below, meth, c, D, cs, base, Q, rfl, ⟨hx, hb, hml, hown, hts⟩, ⟨hK, hN⟩, hbs, hin⟩ := C
  intro H locs ls hH hS hl
  exact lv_dup hx hb hd ha (h H locs ls hH hS hl)
theorem r_pop {V : pV} {l : Launch} {own : String} {cc : ByteArray} {nL : Nat} {ws : List Cond} {R : Room} {ini : Bool} {cells slots pc : Nat} {lv : pL} {rest : List Value} {G : pH} (C : e_C V l own cc nL ws R ini) {a : Value} (ha : a.category = 1) (hd : decode cc pc = .ok (.pop, 1)) (h : V cells slots (pc + 1) lv (rest) G) : V cells slots pc lv (a :: rest) G := by
  obtain ⟨p, e, s, m, args, below, meth, c, D, cs, base, Q, rfl, ⟨hx, hb, hml, hown, hts⟩, ⟨hK, hN⟩, hbs, hin⟩ := C
  intro H locs ls hH hS hl
  exact lv_pop hx hb hd ha (h H locs ls hH hS hl)
theorem r_dup_x1 {V : pV} {l : Launch} {own : String} {cc : ByteArray} {nL : Nat} {ws : List Cond} {R : Room} {ini : Bool} {cells slots pc : Nat} {lv : pL} {rest : List Value} {G : pH} (C : e_C V l own cc nL ws R ini) {a b : Value} (ha : a.category = 1) (hb9 : b.category = 1) (hd : decode cc pc = .ok (.dup_x1, 1)) (h : V cells slots (pc + 1) lv (a :: b :: a :: rest) G) : V cells slots pc lv (a :: b :: rest) G := by
  obtain ⟨p, e, s, m, args, below, meth, c, D, cs, base, Q, rfl, ⟨hx, hb, hml, hown, hts⟩, ⟨hK, hN⟩, hbs, hin⟩ := C
  intro H locs ls hH hS hl
  exact lv_dup_x1 hx hb hd ha hb9 (h H locs ls hH hS hl)
theorem r_dup2 {V : pV} {l : Launch} {own : String} {cc : ByteArray} {nL : Nat} {ws : List Cond} {R : Room} {ini : Bool} {cells slots pc : Nat} {lv : pL} {rest : List Value} {G : pH} (C : e_C V l own cc nL ws R ini) {a b : Value} (ha : a.category = 1) (hb9 : b.category = 1) (hd : decode cc pc = .ok (.dup2, 1)) (h : V cells slots (pc + 1) lv (a :: b :: a :: b :: rest) G) : V cells slots pc lv (a :: b :: rest) G := by
  obtain ⟨p, e, s, m, args, below, meth, c, D, cs, base, Q, rfl, ⟨hx, hb, hml, hown, hts⟩, ⟨hK, hN⟩, hbs, hin⟩ := C
  intro H locs ls hH hS hl
  exact lv_dup2_11 hx hb hd ha hb9 (h H locs ls hH hS hl)
theorem r_goto {V : pV} {l : Launch} {own : String} {cc : ByteArray} {nL : Nat} {ws : List Cond} {R : Room} {ini : Bool} {cells slots pc : Nat} {lv : pL} {rest : List Value} {G : pH} (C : e_C V l own cc nL ws R ini) {off : Int} {t : Nat} (ht : (pc : Int) + off = (t : Int)) (hd : decode cc pc = .ok (.goto off, 3)) (h : V cells slots t lv rest G) : V cells slots pc lv rest G := by
  obtain ⟨p, e, s, m, args, below, meth, c, D, cs, base, Q, rfl, ⟨hx, hb, hml, hown, hts⟩, ⟨hK, hN⟩, hbs, hin⟩ := C
  intro H locs ls hH hS hl
  exact lv_goto hx hb hd ht (h H locs ls hH hS hl)
theorem r_if {V : pV} {l : Launch} {own : String} {cc : ByteArray} {nL : Nat} {ws : List Cond} {R : Room} {ini : Bool} {cells slots pc : Nat} {lv : pL} {rest : List Value} {G : pH} (C : e_C V l own cc nL ws R ini) {cd : ClassFile.Cond} {x : Int32} {off : Int} {t : Nat} (ht : (pc : Int) + off = (t : Int)) (hd : decode cc pc = .ok (.ifCond cd off, 3)) (h1 : e_cmp cd x 0 → V cells slots t lv rest G) (h2 : ¬ e_cmp cd x 0 → V cells slots (pc + 3) lv rest G) : V cells slots pc lv (.int x :: rest) G := by
  obtain ⟨p, e, s, m, args, below, meth, c, D, cs, base, Q, rfl, ⟨hx, hb, hml, hown, hts⟩, ⟨hK, hN⟩, hbs, hin⟩ := C
  intro H locs ls hH hS hl
  cases cd
  · exact lv_if_eq hx hb hd ht (fun z => h1 z H locs ls hH hS hl) (fun z => h2 z H locs ls hH hS hl)
  · exact lv_if_ne hx hb hd ht (fun z => h1 z H locs ls hH hS hl) (fun z => h2 (fun w => w z) H locs ls hH hS hl)
  · exact lv_if_lt hx hb hd ht (fun z => h1 z H locs ls hH hS hl) (fun z => h2 z H locs ls hH hS hl)
  · exact lv_if_ge hx hb hd ht (fun z => h1 z H locs ls hH hS hl) (fun z => h2 z H locs ls hH hS hl)
  · exact lv_if_gt hx hb hd ht (fun z => h1 z H locs ls hH hS hl) (fun z => h2 z H locs ls hH hS hl)
  · exact lv_if_le hx hb hd ht (fun z => h1 z H locs ls hH hS hl) (fun z => h2 z H locs ls hH hS hl)

theorem r_icmp {V : pV} {l : Launch} {own : String} {cc : ByteArray} {nL : Nat} {ws : List Cond} {R : Room} {ini : Bool} {cells slots pc : Nat} {lv : pL} {rest : List Value} {G : pH} (C : e_C V l own cc nL ws R ini) {cd : ClassFile.Cond} {x y : Int32} {off : Int} {t : Nat} (ht : (pc : Int) + off = (t : Int)) (hd : decode cc pc = .ok (.if_icmp cd off, 3)) (h1 : e_cmp cd x y → V cells slots t lv rest G) (h2 : ¬ e_cmp cd x y → V cells slots (pc + 3) lv rest G) : V cells slots pc lv (.int y :: .int x :: rest) G := by
  obtain ⟨p, e, s, m, args, below, meth, c, D, cs, base, Q, rfl, ⟨hx, hb, hml, hown, hts⟩, ⟨hK, hN⟩, hbs, hin⟩ := C
  intro H locs ls hH hS hl
  cases cd
  · exact lv_icmp_eq hx hb hd ht (fun z => h1 z H locs ls hH hS hl) (fun z => h2 z H locs ls hH hS hl)
  · exact lv_icmp_ne hx hb hd ht (fun z => h1 z H locs ls hH hS hl) (fun z => h2 (fun w => w z) H locs ls hH hS hl)
  · exact lv_icmp_lt hx hb hd ht (fun z => h1 z H locs ls hH hS hl) (fun z => h2 z H locs ls hH hS hl)
  · exact lv_icmp_ge hx hb hd ht (fun z => h1 z H locs ls hH hS hl) (fun z => h2 z H locs ls hH hS hl)
  · exact lv_icmp_gt hx hb hd ht (fun z => h1 z H locs ls hH hS hl) (fun z => h2 z H locs ls hH hS hl)
  · exact lv_icmp_le hx hb hd ht (fun z => h1 z H locs ls hH hS hl) (fun z => h2 z H locs ls hH hS hl)

theorem r_get {V : pV} {l : Launch} {own : String} {cc : ByteArray} {nL : Nat} {ws : List Cond} {R : Room} {ini : Bool} {cells slots pc : Nat} {lv : pL} {rest : List Value} {G : pH} (C : e_C V l own cc nL ws R ini) {fl : Nat → Option (Nat × Nat × FieldType × Nat)} (F : e_FL own fl) (hws : ∀ w ∈ WS, w ∈ ws) {idx ci k a fn : Nat} {ty : FieldType} {fs : List Value} {v : Value} (hf : fl idx = some (ci, k, ty, fn)) (hg : G a = some (.inr (ci, fs))) (hv : fs[k]? = some v) (hd : decode cc pc = .ok (.getfield idx, 3)) (h : V cells slots (pc + 3) lv (v :: rest) G) : V cells slots pc lv (.ref a :: rest) G := by
  obtain ⟨p, e, s, m, args, below, meth, c, D, cs, base, Q, rfl, ⟨hx, hb, hml, hown, hts⟩, ⟨hK, hN⟩, hbs, hin⟩ := C
  intro H locs ls hH hS hl
  obtain ⟨C, T, N, ty0, h1, h2, h3, h4, -⟩ := F idx ci k ty fn hf
  exact va_get (D := D) (ci := ci) (C := C) (T := T) (N := N) hx hb hts (fun w hw => hws w (h3 w hw)) hown hK (hH.one hg) 0 rfl h1 k h2 (hts _ (hws _ h4)) (fun _ h9 => h9) hv hd (h H locs ls hH hS hl)
theorem r_put {V : pV} {l : Launch} {own : String} {cc : ByteArray} {nL : Nat} {ws : List Cond} {R : Room} {ini : Bool} {cells slots pc : Nat} {lv : pL} {rest : List Value} {G : pH} (C : e_C V l own cc nL ws R ini) {fl : Nat → Option (Nat × Nat × FieldType × Nat)} (F : e_FL own fl) (hws : ∀ w ∈ WS, w ∈ ws) {idx ci k a fn : Nat} {ty : FieldType} {fs : List Value} {v : Value} (hf : fl idx = some (ci, k, ty, fn)) (hfn : fn = 0 ∨ (fn = 1 ∧ ini = true)) (hg : G a = some (.inr (ci, fs))) (hk : k < fs.length) (hn : narrow ty v = v) (hfit : fits ty v = true) (hd : decode cc pc = .ok (.putfield idx, 3)) (h : V cells slots (pc + 3) lv rest (e_up G a (.inr (ci, fs.set k v)))) : V cells slots pc lv (v :: .ref a :: rest) G := by
  obtain ⟨p, e, s, m, args, below, meth, c, D, cs, base, Q, rfl, ⟨hx, hb, hml, hown, hts⟩, ⟨hK, hN⟩, hbs, hin⟩ := C
  intro H locs ls hH hS hl
  obtain ⟨C, T, N, ty0, h1, h2, h3, h4, h5, h6, h7, h8, h9⟩ := F idx ci k ty fn hf
  have hin3 : ∀ w ∈ u_ws C T N, w ∈ ws := fun w hw => hws w (h3 w hw)
  have hap := va_apart (own := own) hts hin3 ty0 h5 h7 hK h1
  obtain ⟨r, e1, cell, q1, q2, q3, q4⟩ := (hH a _ hg).2
  have hr : r = (C, T, N) := Option.some.inj (e1.symm.trans h1)
  subst hr
  obtain ⟨hSl, hfc, kC, hkC, hkind⟩ := hK.1 ci _ h1
  obtain ⟨cf, kf, fi, f, hi, hsl⟩ := hSl k h2
  have hlay := hts _ (hin3 _ (u_in_lay h2))
  have hd5 : parseFieldDescriptor (T k).2.2.1 = some ty := by rw [h5 k h2, h6]
  have hst := (u_facts hfc hkC (u_lays hts hin3 h2) hi).1
  have hbA : base ≤ a := (hH a _ hg).1
  have fin : ∀ H1 : Heap, H1[a]? = some (cell.setSlot (D.2 ci k) v) → H1.size = H.size → (∀ q, q ≠ a → H1[q]? = H[q]?) → ∀ sl, W p l e R s m args below meth c H1 (locs ++ [⟨a, sl⟩]) cells slots Q (F0 m (pc + 3) ls rest) := by
    intro H1 e1 e2 e3 sl
    exact h H1 _ ls (hH.set hbA ⟨_, h1, t_OB.to (V := updV (vp_V fs) k v) ⟨_, e1, q2, q3, t_set q4 hap h2 v⟩ (fun j _ => vp_updV_set hk v j)⟩ e3) (hS.put e2 e3 hbA) hl
  rcases hfn with h0 | ⟨h0, hi0⟩
  · unfold u_lay at hlay
    rw [if_neg (by rw [h8 h0]; decide)] at hlay
    have h66 := u_store hfc hkC hkind hlay hi hd5 hn hfit
    refine W.putK hx hb (f := f) ⟨hown, hts _ (hws _ h4), ⟨_, _, _, hi⟩, hst⟩ (by rw [q2]; exact h66) q1 q3 (by rw [hsl]; exact k2_hasslot (q4 k h2)) rfl rfl hd fun H1 e1 e2 e3 => ?_
    rw [hsl] at e1
    exact fin H1 e1 e2 e3 _
  · obtain ⟨hfin, hdecl⟩ := h9 h0
    unfold u_lay at hlay
    rw [if_pos hfin] at hlay
    have hcf : m.cls = cf := by
      obtain ⟨_, _, c', _, _, _, -, -, hf', -, -, -, hown2, -⟩ := Cond.laysFinal_spec hlay
      have e1 : c' = cf := by have := hi.symm.trans hf'; simp at this; exact this.1.symm
      rw [hdecl] at hown2
      rw [← e1]; exact Option.some.inj (hown.symm.trans hown2)
    have h66 := u_fits hfc hkC hkind (Or.inr hlay) hi hd5 hn hfit
    refine W.putFinK hx hb hown (hts _ (hws _ h4)) hi hst hcf (hin hi0) (by rw [q2]; exact h66) q1 q3 (by rw [hsl]; exact k2_hasslot (q4 k h2)) rfl rfl hd fun H1 e1 e2 e3 => ?_
    rw [hsl] at e1
    exact fin H1 e1 e2 e3 _
theorem r_iald {V : pV} {l : Launch} {own : String} {cc : ByteArray} {nL : Nat} {ws : List Cond} {R : Room} {ini : Bool} {cells slots pc : Nat} {lv : pL} {rest : List Value} {G : pH} (C : e_C V l own cc nL ws R ini) {a n : Nat} {f : Nat → Int32} {i : Int32} (hg : G a = some (.inl (0, n, .inl f))) (hi : vp_in i n) (hd : decode cc pc = .ok (.iaload, 1)) (h : V cells slots (pc + 1) lv (.int (f i.toNatClampNeg) :: rest) G) : V cells slots pc lv (.int i :: .ref a :: rest) G := by
  obtain ⟨p, e, s, m, args, below, meth, c, D, cs, base, Q, rfl, ⟨hx, hb, hml, hown, hts⟩, ⟨hK, hN⟩, hbs, hin⟩ := C
  intro H locs ls hH hS hl
  exact va_iald hx hb hK (hH.one hg) 0 0 rfl rfl hi hd (h H locs ls hH hS hl)
theorem r_zald {V : pV} {l : Launch} {own : String} {cc : ByteArray} {nL : Nat} {ws : List Cond} {R : Room} {ini : Bool} {cells slots pc : Nat} {lv : pL} {rest : List Value} {G : pH} (C : e_C V l own cc nL ws R ini) {a n : Nat} {f : Nat → Int32} {i : Int32} (hg : G a = some (.inl (2, n, .inl f))) (hi : vp_in i n) (hd : decode cc pc = .ok (.baload, 1)) (h : V cells slots (pc + 1) lv (.int (f i.toNatClampNeg) :: rest) G) : V cells slots pc lv (.int i :: .ref a :: rest) G := by
  obtain ⟨p, e, s, m, args, below, meth, c, D, cs, base, Q, rfl, ⟨hx, hb, hml, hown, hts⟩, ⟨hK, hN⟩, hbs, hin⟩ := C
  intro H locs ls hH hS hl
  exact va_zald hx hb hK (hH.one hg) 0 2 rfl rfl hi hd (h H locs ls hH hS hl)
theorem r_lald {V : pV} {l : Launch} {own : String} {cc : ByteArray} {nL : Nat} {ws : List Cond} {R : Room} {ini : Bool} {cells slots pc : Nat} {lv : pL} {rest : List Value} {G : pH} (C : e_C V l own cc nL ws R ini) {a n : Nat} {f : Nat → Int64} {i : Int32} (hg : G a = some (.inl (1, n, .inr (.inl f)))) (hi : vp_in i n) (hd : decode cc pc = .ok (.laload, 1)) (h : V cells slots (pc + 1) lv (.long (f i.toNatClampNeg) :: rest) G) : V cells slots pc lv (.int i :: .ref a :: rest) G := by
  obtain ⟨p, e, s, m, args, below, meth, c, D, cs, base, Q, rfl, ⟨hx, hb, hml, hown, hts⟩, ⟨hK, hN⟩, hbs, hin⟩ := C
  intro H locs ls hH hS hl
  exact va_lald hx hb hK (hH.one hg) 0 1 rfl rfl hi hd (h H locs ls hH hS hl)
theorem r_aald {V : pV} {l : Launch} {own : String} {cc : ByteArray} {nL : Nat} {ws : List Cond} {R : Room} {ini : Bool} {cells slots pc : Nat} {lv : pL} {rest : List Value} {G : pH} (C : e_C V l own cc nL ws R ini) {a n : Nat} {f : Nat → Option Nat} {i : Int32} (hg : G a = some (.inl (3, n, .inr (.inr (.inr (.inr f)))))) (hi : vp_in i n) (hd : decode cc pc = .ok (.aaload, 1)) (h : V cells slots (pc + 1) lv (va_rf (f i.toNatClampNeg) :: rest) G) : V cells slots pc lv (.int i :: .ref a :: rest) G := by
  obtain ⟨p, e, s, m, args, below, meth, c, D, cs, base, Q, rfl, ⟨hx, hb, hml, hown, hts⟩, ⟨hK, hN⟩, hbs, hin⟩ := C
  intro H locs ls hH hS hl
  exact va_aldq hx hb hK (hH.one hg) 0 3 rfl rfl hi hd (h H locs ls hH hS hl)
theorem r_alen {V : pV} {l : Launch} {own : String} {cc : ByteArray} {nL : Nat} {ws : List Cond} {R : Room} {ini : Bool} {cells slots pc : Nat} {lv : pL} {rest : List Value} {G : pH} (C : e_C V l own cc nL ws R ini) {a t : Nat} {x : vp_A} (hg : G a = some (.inl (t, x))) (ht : t < 4) (hd : decode cc pc = .ok (.arraylength, 1)) (h : V cells slots (pc + 1) lv (.int (Int32.ofNat x.1) :: rest) G) : V cells slots pc lv (.ref a :: rest) G := by
  obtain ⟨p, e, s, m, args, below, meth, c, D, cs, base, Q, rfl, ⟨hx, hb, hml, hown, hts⟩, ⟨hK, hN⟩, hbs, hin⟩ := C
  intro H locs ls hH hS hl
  obtain ⟨ty, hty⟩ : ∃ ty : FieldType, (e_tys cs)[t]? = some (cs t, ty) := by
    match t, ht with
    | 0, _ => exact ⟨_, rfl⟩
    | 1, _ => exact ⟨_, rfl⟩
    | 2, _ => exact ⟨_, rfl⟩
    | 3, _ => exact ⟨_, rfl⟩
  exact va_alen hx hb hK (hH.one hg) 0 t rfl hty rfl hd (h H locs ls hH hS hl)
theorem r_iast {V : pV} {l : Launch} {own : String} {cc : ByteArray} {nL : Nat} {ws : List Cond} {R : Room} {ini : Bool} {cells slots pc : Nat} {lv : pL} {rest : List Value} {G : pH} (C : e_C V l own cc nL ws R ini) {a n : Nat} {f : Nat → Int32} {i : Int32} {x : Int32} (hg : G a = some (.inl (0, n, .inl f))) (hi : vp_in i n) (hd : decode cc pc = .ok (.iastore, 1)) (h : V cells slots (pc + 1) lv rest (e_up G a (.inl (0, n, .inl (upd f i.toNatClampNeg x))))) : V cells slots pc lv (.int x :: .int i :: .ref a :: rest) G := by
  obtain ⟨p, e, s, m, args, below, meth, c, D, cs, base, Q, rfl, ⟨hx, hb, hml, hown, hts⟩, ⟨hK, hN⟩, hbs, hin⟩ := C
  intro H locs ls hH hS hl
  obtain ⟨hbA, hat⟩ := hH a _ hg
  refine W.iast hx hb hat ((hK.2 0 _ rfl).1 n (fun j => .int (f j))) (fun q => by cases q) (by show ¬ (i < 0 ∨ (arrV _ _ _).slots.size ≤ _); rw [arrV_size]; exact hi) rfl rfl hd fun H1 e1 z oq => ?_
  refine h H1 _ ls (hH.set hbA ?_ oq) (hS.put z oq hbA) hl
  show H1[a]? = some (vp_cell (cs 0) (n, .inl (upd f i.toNatClampNeg x)))
  rw [e1]
  show some ((vp_cell (cs 0) (n, .inl f)).setSlot _ _) = _
  rw [vp_cell_i, vp_cell_i, arrV_store]
  congr 2
  funext q
  by_cases hq : q = i.toNatClampNeg
  · subst hq
    simp [updV, upd]
  · simp [updV, upd, hq]
theorem r_zast {V : pV} {l : Launch} {own : String} {cc : ByteArray} {nL : Nat} {ws : List Cond} {R : Room} {ini : Bool} {cells slots pc : Nat} {lv : pL} {rest : List Value} {G : pH} (C : e_C V l own cc nL ws R ini) {a n : Nat} {f : Nat → Int32} {i : Int32} {x : Int32} (hg : G a = some (.inl (2, n, .inl f))) (hi : vp_in i n) (hz : narrow .boolean (.int x) = .int x) (hd : decode cc pc = .ok (.bastore, 1)) (h : V cells slots (pc + 1) lv rest (e_up G a (.inl (2, n, .inl (upd f i.toNatClampNeg x))))) : V cells slots pc lv (.int x :: .int i :: .ref a :: rest) G := by
  obtain ⟨p, e, s, m, args, below, meth, c, D, cs, base, Q, rfl, ⟨hx, hb, hml, hown, hts⟩, ⟨hK, hN⟩, hbs, hin⟩ := C
  intro H locs ls hH hS hl
  obtain ⟨hbA, hat⟩ := hH a _ hg
  refine W.zast hx hb hat ((hK.2 2 _ rfl).1 n (fun j => .int (f j))) (fun q => by cases q) (by show ¬ (i < 0 ∨ (arrV _ _ _).slots.size ≤ _); rw [arrV_size]; exact hi) rfl rfl hd fun H1 e1 z oq => ?_
  refine h H1 _ ls (hH.set hbA ?_ oq) (hS.put z oq hbA) hl
  show H1[a]? = some (vp_cell (cs 2) (n, .inl (upd f i.toNatClampNeg x)))
  rw [e1]
  rw [hz]
  show some ((vp_cell (cs 2) (n, .inl f)).setSlot _ _) = _
  rw [vp_cell_i, vp_cell_i, arrV_store]
  congr 2
  funext q
  by_cases hq : q = i.toNatClampNeg
  · subst hq
    simp [updV, upd]
  · simp [updV, upd, hq]
theorem r_last {V : pV} {l : Launch} {own : String} {cc : ByteArray} {nL : Nat} {ws : List Cond} {R : Room} {ini : Bool} {cells slots pc : Nat} {lv : pL} {rest : List Value} {G : pH} (C : e_C V l own cc nL ws R ini) {a n : Nat} {f : Nat → Int64} {i : Int32} {x : Int64} (hg : G a = some (.inl (1, n, .inr (.inl f)))) (hi : vp_in i n) (hd : decode cc pc = .ok (.lastore, 1)) (h : V cells slots (pc + 1) lv rest (e_up G a (.inl (1, n, .inr (.inl (vp_updL f i.toNatClampNeg x)))))) : V cells slots pc lv (.long x :: .int i :: .ref a :: rest) G := by
  obtain ⟨p, e, s, m, args, below, meth, c, D, cs, base, Q, rfl, ⟨hx, hb, hml, hown, hts⟩, ⟨hK, hN⟩, hbs, hin⟩ := C
  intro H locs ls hH hS hl
  obtain ⟨hbA, hat⟩ := hH a _ hg
  refine W.last hx hb hat ((hK.2 1 _ rfl).1 n (fun j => .long (f j))) (fun q => by cases q) (by show ¬ (i < 0 ∨ (arrV _ _ _).slots.size ≤ _); rw [arrV_size]; exact hi) rfl rfl hd fun H1 e1 z oq => ?_
  refine h H1 _ ls (hH.set hbA ?_ oq) (hS.put z oq hbA) hl
  show H1[a]? = some (vp_cell (cs 1) (n, .inr (.inl (vp_updL f i.toNatClampNeg x))))
  rw [e1]
  show some ((vp_cell (cs 1) (n, .inr (.inl f))).setSlot _ _) = _
  rw [vp_cell_l, vp_cell_l, arrV_store]
  congr 2
  funext q
  by_cases hq : q = i.toNatClampNeg
  · subst hq
    simp [updV, vp_updL]
  · simp [updV, vp_updL, hq]
theorem r_sub {V : pV} {l : Launch} {own : String} {cc : ByteArray} {nL : Nat} {ws : List Cond} {R : Room} {ini : Bool} {cells slots pc : Nat} {lv : pL} {rest : List Value} {G : pH} (C : e_C V l own cc nL ws R ini) {lv2 : pL} (hm : ∀ q ∈ lv2, q ∈ lv) (h : V cells slots pc lv2 rest G) : V cells slots pc lv rest G := by
  obtain ⟨p, e, s, m, args, below, meth, c, D, cs, base, Q, rfl, ⟨hx, hb, hml, hown, hts⟩, ⟨hK, hN⟩, hbs, hin⟩ := C
  intro H locs ls hH hS hl
  exact h H locs ls hH hS ⟨hl.1, hl.2.1, fun q hq => hl.2.2 q (hm q hq)⟩
theorem r_wid {V : pV} {l : Launch} {own : String} {cc : ByteArray} {nL : Nat} {ws : List Cond} {R : Room} {ini : Bool} {cells slots pc : Nat} {lv : pL} {rest : List Value} {G : pH} (C : e_C V l own cc nL ws R ini) {k n : Nat} (h1 : cells ≤ k) (h2 : slots ≤ n) (h : V k n pc lv rest G) : V cells slots pc lv rest G := by
  obtain ⟨p, e, s, m, args, below, meth, c, D, cs, base, Q, rfl, ⟨hx, hb, hml, hown, hts⟩, ⟨hK, hN⟩, hbs, hin⟩ := C
  intro H locs ls hH hS hl
  exact W.widen h1 h2 (h H locs ls hH hS hl)
theorem r_heap {V : pV} {l : Launch} {own : String} {cc : ByteArray} {nL : Nat} {ws : List Cond} {R : Room} {ini : Bool} {cells slots pc : Nat} {lv : pL} {rest : List Value} {G : pH} (C : e_C V l own cc nL ws R ini) {G2 : pH} (hg : ∀ a x, G2 a = some x → G a = some x) (h : V cells slots pc lv rest G2) : V cells slots pc lv rest G := by
  obtain ⟨p, e, s, m, args, below, meth, c, D, cs, base, Q, rfl, ⟨hx, hb, hml, hown, hts⟩, ⟨hK, hN⟩, hbs, hin⟩ := C
  intro H locs ls hH hS hl
  exact h H locs ls (fun a x hx => hH a x (hg a x hx)) hS hl
theorem e_sw_ok {k : Int → Prop} {x d : Int} : ∀ {offs : List Int} {lo : Int}, e_sw k x lo offs d → (∃ (j : Nat) (o : Int), offs[j]? = some o ∧ x = lo + j ∧ k o) ∨ ((x < lo ∨ lo + offs.length ≤ x) ∧ k d)
  | [], lo, h => Or.inr ⟨by simp; omega, h⟩
  | o :: t, lo, h => by
    by_cases hx : x = lo
    · exact Or.inl ⟨0, o, rfl, by simp [hx], h.1 hx⟩
    · rcases e_sw_ok (h.2 hx) with ⟨j, o2, h1, h2, h3⟩ | ⟨h1, h2⟩
      · exact Or.inl ⟨j + 1, o2, by simpa using h1, by simp; omega, h3⟩
      · refine Or.inr ⟨?_, h2⟩
        simp only [List.length_cons]
        omega
theorem r_tsw {V : pV} {l : Launch} {own : String} {cc : ByteArray} {nL : Nat} {ws : List Cond} {R : Room} {ini : Bool} {cells slots pc : Nat} {lv : pL} {rest : List Value} {G : pH} (C : e_C V l own cc nL ws R ini) {K : Nat → Prop} (hK9 : ∀ t, K t → V cells slots t lv rest G) {d lo hi : Int} {offs : Array Int} {len : Nat} {x : Int32} (hhi : hi = lo + offs.toList.length - 1) (hd : decode cc pc = .ok (.tableswitch d lo hi offs, len)) (h : e_sw (fun o => e_to pc o K) x.toInt lo offs.toList d) : V cells slots pc lv (.int x :: rest) G := by
  obtain ⟨p, e, s, m, args, below, meth, c, D, cs, base, Q, rfl, ⟨hx, hb, hml, hown, hts⟩, ⟨hK, hN⟩, hbs, hin⟩ := C
  intro H locs ls hH hS hl
  rcases e_sw_ok h with ⟨j, o, h1, h2, h3⟩ | ⟨h1, h2⟩
  · obtain ⟨t, ht, h4⟩ := e_to_inv h3
    have hj : j < offs.toList.length := (List.getElem?_eq_some_iff.mp h1).1
    refine lv_tableIn hx hb hd (by omega) (by omega) (off := o) ?_ ht (hK9 t h4 H locs ls hH hS hl)
    rw [h2, show (lo + (j : Int) - lo).toNat = j by omega, ← Array.getElem?_toList]
    exact h1
  · obtain ⟨t, ht, h4⟩ := e_to_inv h2
    exact lv_tableOut hx hb hd (by omega) ht (hK9 t h4 H locs ls hH hS hl)
