def e_op {α : Type} (x : Option α) (k : α → Prop) : Prop := match x with
  | some a => k a
  | none => False
theorem e_op_inv {α : Type} {x : Option α} {k : α → Prop} (h : e_op x k) : ∃ a, x = some a ∧ k a := by
  unfold e_op at h
  split at h
  · exact ⟨_, rfl, h⟩
  · exact h.elim
/-- what must hold for one instruction; what isn't here stops -/
def e_1 (nL : Nat) (ini : Bool) (fl : Nat → Option (Nat × Nat × FieldType × Nat)) (ld : Nat → Option Int64) (ret : Option FieldType) (mc ms : Nat) (post : Option Value → pH → Prop) (cells slots : Nat) (X : Prop) (K : pK) (len pc : Nat) (lv : pL) (st : List Value) (G : pH) (i : Instr) : Prop := match i with
  | .aconst_null => len = 1 ∧ K (pc + 1) lv (.null :: st) G
  | .iconst n => len = 1 ∧ K (pc + 1) lv (.int (Int32.ofInt n) :: st) G
  | .bipush n => len = 2 ∧ K (pc + 2) lv (.int (Int8.ofInt n).toInt32 :: st) G
  | .sipush n => len = 3 ∧ K (pc + 3) lv (.int (Int16.ofInt n).toInt32 :: st) G
  | .lconst n => len = 1 ∧ K (pc + 1) lv (.long (Int64.ofNat (n : Nat)) :: st) G
  | .ldc2_w idx => len = 3 ∧ e_op (ld idx) (fun v => K (pc + 3) lv (.long v :: st) G)
  | .iload_n k => len = 1 ∧ e_li lv (k : Nat) (fun x => K (pc + 1) lv (.int x :: st) G)
  | .iload k => len = 2 ∧ e_li lv k (fun x => K (pc + 2) lv (.int x :: st) G)
  | .istore_n k => len = 1 ∧ e_pi st (fun x r => (k : Nat) < nL ∧ K (pc + 1) (e_ins (k : Nat) (.int x) (e_rm (k : Nat) false lv)) r G)
  | .istore k => len = 2 ∧ e_pi st (fun x r => k < nL ∧ K (pc + 2) (e_ins k (.int x) (e_rm k false lv)) r G)
  | .lload_n k => len = 1 ∧ e_ll lv (k : Nat) (fun x => K (pc + 1) lv (.long x :: st) G)
  | .lload k => len = 2 ∧ e_ll lv k (fun x => K (pc + 2) lv (.long x :: st) G)
  | .lstore_n k => len = 1 ∧ e_pl st (fun x r => (k : Nat) + 1 < nL ∧ K (pc + 1) (e_ins (k : Nat) (.long x) (e_rm (k : Nat) true lv)) r G)
  | .lstore k => len = 2 ∧ e_pl st (fun x r => k + 1 < nL ∧ K (pc + 2) (e_ins k (.long x) (e_rm k true lv)) r G)
  | .aload_n k => len = 1 ∧ e_lr lv (k : Nat) (fun x => K (pc + 1) lv (.ref x :: st) G)
  | .aload k => len = 2 ∧ e_lr lv k (fun x => K (pc + 2) lv (.ref x :: st) G)
  | .astore_n k => len = 1 ∧ e_pr st (fun x r => (k : Nat) < nL ∧ K (pc + 1) (e_ins (k : Nat) (.ref x) (e_rm (k : Nat) false lv)) r G)
  | .astore k => len = 2 ∧ e_pr st (fun x r => k < nL ∧ K (pc + 2) (e_ins k (.ref x) (e_rm k false lv)) r G)
  | .iinc k n => len = 3 ∧ e_li lv k (fun x => k < nL ∧ K (pc + 3) (e_ins k (.int (x + Int32.ofInt n)) (e_rm k false lv)) st G)
  | .iadd => len = 1 ∧ e_pi st (fun y r => e_pi r (fun x r => K (pc + 1) lv (.int (x + y) :: r) G))
  | .isub => len = 1 ∧ e_pi st (fun y r => e_pi r (fun x r => K (pc + 1) lv (.int (x - y) :: r) G))
  | .imul => len = 1 ∧ e_pi st (fun y r => e_pi r (fun x r => K (pc + 1) lv (.int (x * y) :: r) G))
  | .iand => len = 1 ∧ e_pi st (fun y r => e_pi r (fun x r => K (pc + 1) lv (.int (x &&& y) :: r) G))
  | .ior => len = 1 ∧ e_pi st (fun y r => e_pi r (fun x r => K (pc + 1) lv (.int (x ||| y) :: r) G))
  | .ixor => len = 1 ∧ e_pi st (fun y r => e_pi r (fun x r => K (pc + 1) lv (.int (x ^^^ y) :: r) G))
  | .ishl => len = 1 ∧ e_pi st (fun y r => e_pi r (fun x r => K (pc + 1) lv (.int (x <<< (y &&& 31)) :: r) G))
  | .ishr => len = 1 ∧ e_pi st (fun y r => e_pi r (fun x r => K (pc + 1) lv (.int (x >>> (y &&& 31)) :: r) G))
  | .idiv => len = 1 ∧ e_pi st (fun y r => e_pi r (fun x r => (¬ y = 0) ∧ K (pc + 1) lv (.int (x / y) :: r) G))
  | .irem => len = 1 ∧ e_pi st (fun y r => e_pi r (fun x r => (¬ y = 0) ∧ K (pc + 1) lv (.int (x - x / y * y) :: r) G))
  | .ladd => len = 1 ∧ e_pl st (fun y r => e_pl r (fun x r => K (pc + 1) lv (.long (x + y) :: r) G))
  | .lsub => len = 1 ∧ e_pl st (fun y r => e_pl r (fun x r => K (pc + 1) lv (.long (x - y) :: r) G))
  | .lmul => len = 1 ∧ e_pl st (fun y r => e_pl r (fun x r => K (pc + 1) lv (.long (x * y) :: r) G))
  | .land => len = 1 ∧ e_pl st (fun y r => e_pl r (fun x r => K (pc + 1) lv (.long (x &&& y) :: r) G))
  | .lor => len = 1 ∧ e_pl st (fun y r => e_pl r (fun x r => K (pc + 1) lv (.long (x ||| y) :: r) G))
  | .lxor => len = 1 ∧ e_pl st (fun y r => e_pl r (fun x r => K (pc + 1) lv (.long (x ^^^ y) :: r) G))
  | .lshl => len = 1 ∧ e_pi st (fun y r => e_pl r (fun x r => K (pc + 1) lv (.long (x <<< (y.toInt64 &&& 63)) :: r) G))
  | .lshr => len = 1 ∧ e_pi st (fun y r => e_pl r (fun x r => K (pc + 1) lv (.long (x >>> (y.toInt64 &&& 63)) :: r) G))
  | .lushr => len = 1 ∧ e_pi st (fun y r => e_pl r (fun x r => K (pc + 1) lv (.long (e_ushr x y) :: r) G))
  | .i2l => len = 1 ∧ e_pi st (fun x r => K (pc + 1) lv (.long x.toInt64 :: r) G)
  | .l2i => len = 1 ∧ e_pl st (fun x r => K (pc + 1) lv (.int x.toInt32 :: r) G)
  | .lcmp => len = 1 ∧ e_pl st (fun y r => e_pl r (fun x r => K (pc + 1) lv (.int (lg_cmp x y) :: r) G))
  | .dup => len = 1 ∧ e_p0 st (fun a r => a.category = 1 ∧ K (pc + 1) lv (a :: a :: r) G)
  | .pop => len = 1 ∧ e_p0 st (fun a r => a.category = 1 ∧ K (pc + 1) lv r G)
  | .dup_x1 => len = 1 ∧ e_p0 st (fun a r => e_p0 r (fun b r => a.category = 1 ∧ b.category = 1 ∧ K (pc + 1) lv (a :: b :: a :: r) G))
  | .dup2 => len = 1 ∧ e_p0 st (fun a r => e_p0 r (fun b r => a.category = 1 ∧ b.category = 1 ∧ K (pc + 1) lv (a :: b :: a :: b :: r) G))
  | .goto off => len = 3 ∧ e_to pc off (fun t => K t lv st G)
  | .ifCond cd off => len = 3 ∧ e_pi st (fun x r => e_to pc off (fun t => (e_cmp cd x 0 → K t lv r G) ∧ (¬ e_cmp cd x 0 → K (pc + 3) lv r G)))
  | .if_icmp cd off => len = 3 ∧ e_pi st (fun y r => e_pi r (fun x r => e_to pc off (fun t => (e_cmp cd x y → K t lv r G) ∧ (¬ e_cmp cd x y → K (pc + 3) lv r G))))
  | .tableswitch d lo hi offs => hi = lo + offs.toList.length - 1 ∧ e_pi st (fun x r => e_sw (fun o => e_to pc o (fun t => K t lv r G)) x.toInt lo offs.toList d)
  | .ireturn => len = 1 ∧ e_pi st (fun v r => r = [] ∧ cells ≤ mc ∧ slots ≤ ms ∧ e_op ret (fun t => narrow t (.int v) = .int v) ∧ post (some (.int v)) G)
  | .lreturn => len = 1 ∧ e_pl st (fun v r => r = [] ∧ cells ≤ mc ∧ slots ≤ ms ∧ ret = some .long ∧ post (some (.long v)) G)
  | .areturn => len = 1 ∧ e_pr st (fun v r => r = [] ∧ cells ≤ mc ∧ slots ≤ ms ∧ e_op ret (fun t => (∃ n, t = .object n) ∨ ∃ u, t = .array u) ∧ post (some (.ref v)) G)
  | .return_ => len = 1 ∧ st = [] ∧ cells ≤ mc ∧ slots ≤ ms ∧ ret = none ∧ post none G
  | .getfield idx => len = 3 ∧ e_op (fl idx) (fun f => e_pr st (fun a r => e_ob G a (fun c fs => c = f.1 ∧ e_op (e_nth fs f.2.1) (fun v => K (pc + 3) lv (v :: r) G))))
  | .putfield idx => len = 3 ∧ e_op (fl idx) (fun f => e_p0 st (fun v r => e_pr r (fun a r => e_ob G a (fun c fs => c = f.1 ∧ f.2.1 < fs.length ∧ (f.2.2.2 = 0 ∨ (f.2.2.2 = 1 ∧ ini = true)) ∧ narrow f.2.2.1 v = v ∧ fits f.2.2.1 v = true ∧ K (pc + 3) lv r (e_up G a (.inr (c, fs.set f.2.1 v)))))))
  | .iaload => len = 1 ∧ e_pi st (fun i r => e_pr r (fun a r => e_ai G a 0 (fun n f => vp_in i n ∧ K (pc + 1) lv (.int (f i.toNatClampNeg) :: r) G)))
  | .baload => len = 1 ∧ e_pi st (fun i r => e_pr r (fun a r => e_ai G a 2 (fun n f => vp_in i n ∧ K (pc + 1) lv (.int (f i.toNatClampNeg) :: r) G)))
  | .laload => len = 1 ∧ e_pi st (fun i r => e_pr r (fun a r => e_aj G a (fun n f => vp_in i n ∧ K (pc + 1) lv (.long (f i.toNatClampNeg) :: r) G)))
  | .aaload => len = 1 ∧ e_pi st (fun i r => e_pr r (fun a r => e_aq G a (fun n f => vp_in i n ∧ K (pc + 1) lv (va_rf (f i.toNatClampNeg) :: r) G)))
  | .arraylength => len = 1 ∧ e_pr st (fun a r => e_an G a (fun n => K (pc + 1) lv (.int (Int32.ofNat n) :: r) G))
  | .iastore => len = 1 ∧ e_pi st (fun x r => e_pi r (fun i r => e_pr r (fun a r => e_ai G a 0 (fun n f => vp_in i n ∧ K (pc + 1) lv r (e_up G a (.inl (0, n, .inl (upd f i.toNatClampNeg x))))))))
  | .bastore => len = 1 ∧ e_pi st (fun x r => e_pi r (fun i r => e_pr r (fun a r => e_ai G a 2 (fun n f => vp_in i n ∧ narrow .boolean (.int x) = .int x ∧ K (pc + 1) lv r (e_up G a (.inl (2, n, .inl (upd f i.toNatClampNeg x))))))))
  | .lastore => len = 1 ∧ e_pl st (fun x r => e_pi r (fun i r => e_pr r (fun a r => e_aj G a (fun n f => vp_in i n ∧ K (pc + 1) lv r (e_up G a (.inl (1, n, .inr (.inl (vp_updL f i.toNatClampNeg x)))))))))
  | _ => X
theorem e_1_ok {V : pV} {l : Launch} {own : String} {cc : ByteArray} {nL : Nat} {ws : List Cond} {R : Room} {ini : Bool} {fl : Nat → Option (Nat × Nat × FieldType × Nat)} {ld : Nat → Option Int64} {ret : Option FieldType} {mc ms : Nat} {post : Option Value → pH → Prop} {cells slots : Nat} {K : pK} {len pc : Nat} {lv : pL} {st : List Value} {G : pH} {i : Instr}
    (C : e_C V l own cc nL ws R ini) (Rt : e_R V cc ret mc ms post) (hws : ∀ w ∈ WS, w ∈ ws) (hfl : e_FL own fl) (hld : e_LD own ld) (hK : ∀ pc lv st G, K pc lv st G → V cells slots pc lv st G)
    (hd : decode cc pc = .ok (i, len)) (h : e_1 nL ini fl ld ret mc ms post cells slots (V cells slots pc lv st G) K len pc lv st G i) : V cells slots pc lv st G := by
  cases i
  case aconst_null  => obtain ⟨rfl, g1⟩ := h; exact r_null C hd (hK _ _ _ _ g1)
  case iconst n => obtain ⟨rfl, g1⟩ := h; exact r_iconst C hd (hK _ _ _ _ g1)
  case bipush n => obtain ⟨rfl, g1⟩ := h; exact r_bipush C hd (hK _ _ _ _ g1)
  case sipush n => obtain ⟨rfl, g1⟩ := h; exact r_sipush C hd (hK _ _ _ _ g1)
  case lconst n => obtain ⟨rfl, g1⟩ := h; exact r_lconst C hd (hK _ _ _ _ g1)
  case ldc2_w idx => obtain ⟨rfl, g1⟩ := h; obtain ⟨v, h1, g2⟩ := e_op_inv g1; exact r_ldc2 C (hws _ (hld _ _ h1)) hd (hK _ _ _ _ g2)
  case iload_n k => obtain ⟨rfl, g1⟩ := h; obtain ⟨x, h1, g2⟩ := e_li_inv g1; exact r_iload_n C h1 hd (hK _ _ _ _ g2)
  case iload k => obtain ⟨rfl, g1⟩ := h; obtain ⟨x, h1, g2⟩ := e_li_inv g1; exact r_iload C h1 hd (hK _ _ _ _ g2)
  case istore_n k => obtain ⟨rfl, g1⟩ := h; obtain ⟨x, r, rfl, h1, g2⟩ := e_pi_inv g1; exact r_istore_n C h1 hd (hK _ _ _ _ g2)
  case istore k => obtain ⟨rfl, g1⟩ := h; obtain ⟨x, r, rfl, h1, g2⟩ := e_pi_inv g1; exact r_istore C h1 hd (hK _ _ _ _ g2)
  case lload_n k => obtain ⟨rfl, g1⟩ := h; obtain ⟨x, h1, g2⟩ := e_ll_inv g1; exact r_lload_n C h1 hd (hK _ _ _ _ g2)
  case lload k => obtain ⟨rfl, g1⟩ := h; obtain ⟨x, h1, g2⟩ := e_ll_inv g1; exact r_lload C h1 hd (hK _ _ _ _ g2)
  case lstore_n k => obtain ⟨rfl, g1⟩ := h; obtain ⟨x, r, rfl, h1, g2⟩ := e_pl_inv g1; exact r_lstore_n C h1 hd (hK _ _ _ _ g2)
  case lstore k => obtain ⟨rfl, g1⟩ := h; obtain ⟨x, r, rfl, h1, g2⟩ := e_pl_inv g1; exact r_lstore C h1 hd (hK _ _ _ _ g2)
  case aload_n k => obtain ⟨rfl, g1⟩ := h; obtain ⟨x, h1, g2⟩ := e_lr_inv g1; exact r_aload_n C h1 hd (hK _ _ _ _ g2)
  case aload k => obtain ⟨rfl, g1⟩ := h; obtain ⟨x, h1, g2⟩ := e_lr_inv g1; exact r_aload C h1 hd (hK _ _ _ _ g2)
  case astore_n k => obtain ⟨rfl, g1⟩ := h; obtain ⟨x, r, rfl, h1, g2⟩ := e_pr_inv g1; exact r_astore_n C h1 hd (hK _ _ _ _ g2)
  case astore k => obtain ⟨rfl, g1⟩ := h; obtain ⟨x, r, rfl, h1, g2⟩ := e_pr_inv g1; exact r_astore C h1 hd (hK _ _ _ _ g2)
  case iinc k n => obtain ⟨rfl, g1⟩ := h; obtain ⟨x, h1, h2, g2⟩ := e_li_inv g1; exact r_iinc C h1 h2 hd (hK _ _ _ _ g2)
  case iadd  => obtain ⟨rfl, g1⟩ := h; obtain ⟨y, r, rfl, g2⟩ := e_pi_inv g1; obtain ⟨x, r, rfl, g3⟩ := e_pi_inv g2; exact r_iadd C hd (hK _ _ _ _ g3)
  case isub  => obtain ⟨rfl, g1⟩ := h; obtain ⟨y, r, rfl, g2⟩ := e_pi_inv g1; obtain ⟨x, r, rfl, g3⟩ := e_pi_inv g2; exact r_isub C hd (hK _ _ _ _ g3)
  case imul  => obtain ⟨rfl, g1⟩ := h; obtain ⟨y, r, rfl, g2⟩ := e_pi_inv g1; obtain ⟨x, r, rfl, g3⟩ := e_pi_inv g2; exact r_imul C hd (hK _ _ _ _ g3)
  case iand  => obtain ⟨rfl, g1⟩ := h; obtain ⟨y, r, rfl, g2⟩ := e_pi_inv g1; obtain ⟨x, r, rfl, g3⟩ := e_pi_inv g2; exact r_iand C hd (hK _ _ _ _ g3)
  case ior  => obtain ⟨rfl, g1⟩ := h; obtain ⟨y, r, rfl, g2⟩ := e_pi_inv g1; obtain ⟨x, r, rfl, g3⟩ := e_pi_inv g2; exact r_ior C hd (hK _ _ _ _ g3)
  case ixor  => obtain ⟨rfl, g1⟩ := h; obtain ⟨y, r, rfl, g2⟩ := e_pi_inv g1; obtain ⟨x, r, rfl, g3⟩ := e_pi_inv g2; exact r_ixor C hd (hK _ _ _ _ g3)
  case ishl  => obtain ⟨rfl, g1⟩ := h; obtain ⟨y, r, rfl, g2⟩ := e_pi_inv g1; obtain ⟨x, r, rfl, g3⟩ := e_pi_inv g2; exact r_ishl C hd (hK _ _ _ _ g3)
  case ishr  => obtain ⟨rfl, g1⟩ := h; obtain ⟨y, r, rfl, g2⟩ := e_pi_inv g1; obtain ⟨x, r, rfl, g3⟩ := e_pi_inv g2; exact r_ishr C hd (hK _ _ _ _ g3)
  case idiv  => obtain ⟨rfl, g1⟩ := h; obtain ⟨y, r, rfl, g2⟩ := e_pi_inv g1; obtain ⟨x, r, rfl, h0, g3⟩ := e_pi_inv g2; exact r_idiv C h0 hd (hK _ _ _ _ g3)
  case irem  => obtain ⟨rfl, g1⟩ := h; obtain ⟨y, r, rfl, g2⟩ := e_pi_inv g1; obtain ⟨x, r, rfl, h0, g3⟩ := e_pi_inv g2; exact r_irem C h0 hd (hK _ _ _ _ g3)
  case ladd  => obtain ⟨rfl, g1⟩ := h; obtain ⟨y, r, rfl, g2⟩ := e_pl_inv g1; obtain ⟨x, r, rfl, g3⟩ := e_pl_inv g2; exact r_ladd C hd (hK _ _ _ _ g3)
  case lsub  => obtain ⟨rfl, g1⟩ := h; obtain ⟨y, r, rfl, g2⟩ := e_pl_inv g1; obtain ⟨x, r, rfl, g3⟩ := e_pl_inv g2; exact r_lsub C hd (hK _ _ _ _ g3)
  case lmul  => obtain ⟨rfl, g1⟩ := h; obtain ⟨y, r, rfl, g2⟩ := e_pl_inv g1; obtain ⟨x, r, rfl, g3⟩ := e_pl_inv g2; exact r_lmul C hd (hK _ _ _ _ g3)
  case land  => obtain ⟨rfl, g1⟩ := h; obtain ⟨y, r, rfl, g2⟩ := e_pl_inv g1; obtain ⟨x, r, rfl, g3⟩ := e_pl_inv g2; exact r_land C hd (hK _ _ _ _ g3)
  case lor  => obtain ⟨rfl, g1⟩ := h; obtain ⟨y, r, rfl, g2⟩ := e_pl_inv g1; obtain ⟨x, r, rfl, g3⟩ := e_pl_inv g2; exact r_lor C hd (hK _ _ _ _ g3)
  case lxor  => obtain ⟨rfl, g1⟩ := h; obtain ⟨y, r, rfl, g2⟩ := e_pl_inv g1; obtain ⟨x, r, rfl, g3⟩ := e_pl_inv g2; exact r_lxor C hd (hK _ _ _ _ g3)
  case lshl  => obtain ⟨rfl, g1⟩ := h; obtain ⟨y, r, rfl, g2⟩ := e_pi_inv g1; obtain ⟨x, r, rfl, g3⟩ := e_pl_inv g2; exact r_lshl C hd (hK _ _ _ _ g3)
  case lshr  => obtain ⟨rfl, g1⟩ := h; obtain ⟨y, r, rfl, g2⟩ := e_pi_inv g1; obtain ⟨x, r, rfl, g3⟩ := e_pl_inv g2; exact r_lshr C hd (hK _ _ _ _ g3)
  case lushr  => obtain ⟨rfl, g1⟩ := h; obtain ⟨y, r, rfl, g2⟩ := e_pi_inv g1; obtain ⟨x, r, rfl, g3⟩ := e_pl_inv g2; exact r_lushr C hd (hK _ _ _ _ g3)
  case i2l  => obtain ⟨rfl, g1⟩ := h; obtain ⟨x, r, rfl, g2⟩ := e_pi_inv g1; exact r_i2l C hd (hK _ _ _ _ g2)
  case l2i  => obtain ⟨rfl, g1⟩ := h; obtain ⟨x, r, rfl, g2⟩ := e_pl_inv g1; exact r_l2i C hd (hK _ _ _ _ g2)
  case lcmp  => obtain ⟨rfl, g1⟩ := h; obtain ⟨y, r, rfl, g2⟩ := e_pl_inv g1; obtain ⟨x, r, rfl, g3⟩ := e_pl_inv g2; exact r_lcmp C hd (hK _ _ _ _ g3)
  case dup  => obtain ⟨rfl, g1⟩ := h; obtain ⟨a, r, rfl, h1, g2⟩ := e_p0_inv g1; exact r_dup C h1 hd (hK _ _ _ _ g2)
  case pop  => obtain ⟨rfl, g1⟩ := h; obtain ⟨a, r, rfl, h1, g2⟩ := e_p0_inv g1; exact r_pop C h1 hd (hK _ _ _ _ g2)
  case dup_x1  => obtain ⟨rfl, g1⟩ := h; obtain ⟨a, r, rfl, g2⟩ := e_p0_inv g1; obtain ⟨b, r, rfl, h1, h2, g3⟩ := e_p0_inv g2; exact r_dup_x1 C h1 h2 hd (hK _ _ _ _ g3)
  case dup2  => obtain ⟨rfl, g1⟩ := h; obtain ⟨a, r, rfl, g2⟩ := e_p0_inv g1; obtain ⟨b, r, rfl, h1, h2, g3⟩ := e_p0_inv g2; exact r_dup2 C h1 h2 hd (hK _ _ _ _ g3)
  case goto off => obtain ⟨rfl, g1⟩ := h; obtain ⟨t, ht, g2⟩ := e_to_inv g1; exact r_goto C ht hd (hK _ _ _ _ g2)
  case ifCond cd off => obtain ⟨rfl, g1⟩ := h; obtain ⟨x, r, rfl, g2⟩ := e_pi_inv g1; obtain ⟨t, ht, h1, h2⟩ := e_to_inv g2; exact r_if C ht hd (fun z => hK _ _ _ _ (h1 z)) (fun z => hK _ _ _ _ (h2 z))
  case if_icmp cd off => obtain ⟨rfl, g1⟩ := h; obtain ⟨y, r, rfl, g2⟩ := e_pi_inv g1; obtain ⟨x, r, rfl, g3⟩ := e_pi_inv g2; obtain ⟨t, ht, h1, h2⟩ := e_to_inv g3; exact r_icmp C ht hd (fun z => hK _ _ _ _ (h1 z)) (fun z => hK _ _ _ _ (h2 z))
  case tableswitch d lo hi offs => obtain ⟨h0, g1⟩ := h; obtain ⟨x, r, rfl, g2⟩ := e_pi_inv g1; exact r_tsw C (fun t ht => hK _ _ _ _ ht) h0 hd g2
  case ireturn  => obtain ⟨rfl, g1⟩ := h; obtain ⟨v, r, rfl, rfl, h1, h2, h3, g2⟩ := e_pi_inv g1; obtain ⟨t, h5, h6⟩ := e_op_inv h3; exact r_wid C h1 h2 ((Rt pc lv G).1 v t hd h5 h6 g2)
  case lreturn  => obtain ⟨rfl, g1⟩ := h; obtain ⟨v, r, rfl, rfl, h1, h2, h3, g2⟩ := e_pl_inv g1; exact r_wid C h1 h2 ((Rt pc lv G).2.1 v hd h3 g2)
  case areturn  => obtain ⟨rfl, g1⟩ := h; obtain ⟨v, r, rfl, rfl, h1, h2, h3, g2⟩ := e_pr_inv g1; obtain ⟨t, h5, h6⟩ := e_op_inv h3; exact r_wid C h1 h2 ((Rt pc lv G).2.2.1 v t hd h5 h6 g2)
  case return_  => obtain ⟨rfl, rfl, h1, h2, h3, g1⟩ := h; exact r_wid C h1 h2 ((Rt pc lv G).2.2.2 hd h3 g1)
  case getfield idx => obtain ⟨rfl, g1⟩ := h; obtain ⟨⟨ci, k, ty, fn⟩, h1, g2⟩ := e_op_inv g1; obtain ⟨a, r, rfl, g3⟩ := e_pr_inv g2; obtain ⟨c, fs, h2, rfl, g4⟩ := e_ob_inv g3; obtain ⟨v, h3, g5⟩ := e_op_inv g4; exact r_get C hfl hws h1 h2 (by rw [← e_nth_eq]; exact h3) hd (hK _ _ _ _ g5)
  case putfield idx => obtain ⟨rfl, g1⟩ := h; obtain ⟨⟨ci, k, ty, fn⟩, h1, g2⟩ := e_op_inv g1; obtain ⟨v, r, rfl, g3⟩ := e_p0_inv g2; obtain ⟨a, r, rfl, g4⟩ := e_pr_inv g3; obtain ⟨c, fs, h2, rfl, h3, h4, h5, h6, g5⟩ := e_ob_inv g4; exact r_put C hfl hws h1 h4 h2 h3 h5 h6 hd (hK _ _ _ _ g5)
  case iaload  => obtain ⟨rfl, g1⟩ := h; obtain ⟨i, r, rfl, g2⟩ := e_pi_inv g1; obtain ⟨a, r, rfl, g3⟩ := e_pr_inv g2; obtain ⟨n, f, h1, h2, g4⟩ := e_ai_inv g3; exact r_iald C h1 h2 hd (hK _ _ _ _ g4)
  case baload  => obtain ⟨rfl, g1⟩ := h; obtain ⟨i, r, rfl, g2⟩ := e_pi_inv g1; obtain ⟨a, r, rfl, g3⟩ := e_pr_inv g2; obtain ⟨n, f, h1, h2, g4⟩ := e_ai_inv g3; exact r_zald C h1 h2 hd (hK _ _ _ _ g4)
  case laload  => obtain ⟨rfl, g1⟩ := h; obtain ⟨i, r, rfl, g2⟩ := e_pi_inv g1; obtain ⟨a, r, rfl, g3⟩ := e_pr_inv g2; obtain ⟨n, f, h1, h2, g4⟩ := e_aj_inv g3; exact r_lald C h1 h2 hd (hK _ _ _ _ g4)
  case aaload  => obtain ⟨rfl, g1⟩ := h; obtain ⟨i, r, rfl, g2⟩ := e_pi_inv g1; obtain ⟨a, r, rfl, g3⟩ := e_pr_inv g2; obtain ⟨n, f, h1, h2, g4⟩ := e_aq_inv g3; exact r_aald C h1 h2 hd (hK _ _ _ _ g4)
  case arraylength  => obtain ⟨rfl, g1⟩ := h; obtain ⟨a, r, rfl, g2⟩ := e_pr_inv g1; obtain ⟨t, x, h1, h2, g3⟩ := e_an_inv g2; exact r_alen C h1 h2 hd (hK _ _ _ _ g3)
  case iastore  => obtain ⟨rfl, g1⟩ := h; obtain ⟨x, r, rfl, g2⟩ := e_pi_inv g1; obtain ⟨i, r, rfl, g3⟩ := e_pi_inv g2; obtain ⟨a, r, rfl, g4⟩ := e_pr_inv g3; obtain ⟨n, f, h1, h2, g5⟩ := e_ai_inv g4; exact r_iast C h1 h2 hd (hK _ _ _ _ g5)
  case bastore  => obtain ⟨rfl, g1⟩ := h; obtain ⟨x, r, rfl, g2⟩ := e_pi_inv g1; obtain ⟨i, r, rfl, g3⟩ := e_pi_inv g2; obtain ⟨a, r, rfl, g4⟩ := e_pr_inv g3; obtain ⟨n, f, h1, h2, h3, g5⟩ := e_ai_inv g4; exact r_zast C h1 h2 h3 hd (hK _ _ _ _ g5)
  case lastore  => obtain ⟨rfl, g1⟩ := h; obtain ⟨x, r, rfl, g2⟩ := e_pl_inv g1; obtain ⟨i, r, rfl, g3⟩ := e_pi_inv g2; obtain ⟨a, r, rfl, g4⟩ := e_pr_inv g3; obtain ⟨n, f, h1, h2, g5⟩ := e_aj_inv g4; exact r_last C h1 h2 hd (hK _ _ _ _ g5)
  all_goals exact h
def e_go (cc : ByteArray) (nL : Nat) (ini : Bool) (fl : Nat → Option (Nat × Nat × FieldType × Nat)) (ld : Nat → Option Int64) (ret : Option FieldType) (mc ms : Nat) (post : Option Value → pH → Prop) (cells slots : Nat) (V : pV) (stops : List Nat) : Nat → pK
  | 0, pc, lv, st, G => V cells slots pc lv st G
  | n + 1, pc, lv, st, G => match decode cc pc with
    | .ok q => e_1 nL ini fl ld ret mc ms post cells slots (V cells slots pc lv st G) (fun pc2 lv2 st2 G2 => if pc2 ∈ stops then V cells slots pc2 lv2 st2 G2 else e_go cc nL ini fl ld ret mc ms post cells slots V stops n pc2 lv2 st2 G2) q.2 pc lv st G q.1
    | .error _ => False
theorem e_run {V : pV} {l : Launch} {own : String} {cc : ByteArray} {nL : Nat} {ws : List Cond} {R : Room} {ini : Bool} {fl : Nat → Option (Nat × Nat × FieldType × Nat)} {ld : Nat → Option Int64} {ret : Option FieldType} {mc ms : Nat} {post : Option Value → pH → Prop} {cells slots : Nat}
    (C : e_C V l own cc nL ws R ini) (Rt : e_R V cc ret mc ms post) (hws : ∀ w ∈ WS, w ∈ ws) (hfl : e_FL own fl) (hld : e_LD own ld) (stops : List Nat) : ∀ (n : Nat) {pc : Nat} {lv : pL} {st : List Value} {G : pH}, e_go cc nL ini fl ld ret mc ms post cells slots V stops n pc lv st G → V cells slots pc lv st G
  | 0, _, _, _, _, h => h
  | n + 1, pc, lv, st, G, h => by
    unfold e_go at h
    split at h
    · rename_i q hq
      refine e_1_ok C Rt hws hfl hld (fun pc2 lv2 st2 G2 h2 => ?_) hq h
      by_cases hs : pc2 ∈ stops
      · rw [if_pos hs] at h2
        exact h2
      · rw [if_neg hs] at h2
        exact e_run C Rt hws hfl hld stops n h2
    · exact h.elim
/-- a method's contract over heaps: from the arguments As and the heap G it returns, with 'post' -/
def e_M (l : Launch) (y : MethodName) (ws : List Cond) (rm : Room) (As : List Value) (G : pH) (post : Option Value → pH → Prop) : Prop :=
  ∀ (D : va_G) (cs : Nat → ClassId) (base : Nat), Met l y ws rm (va_Pc As (fun U => base ≤ U.heap.size ∧ e_H D cs base G U.heap ∧ va_K D vwCl (e_tys cs) U ∧ e_N U)) (fun _ st oc t => (∃ (v : Option Value) (G2 : pH), oc = .returned v ∧ post v G2 ∧ e_H D cs base G2 t.heap) ∧ va_F (e_A base) st t) rm.cells rm.slots (e_A base)
theorem e_M_of {l : Launch} {y : MethodName} {own : String} {ws ws2 : List Cond} {rm : Room} {cc : ByteArray} {maxL : Nat} {ret : Option FieldType} {ini : Bool} {As : List Value} {G : pH} {post : Option Value → pH → Prop}
    (hy : plainName y.cls = true) (hyo : y.cls = own) (hw : ws = Cond.code y cc maxL ret :: ws2) (hn : (lg_sl As).length ≤ maxL) (hini : ini = true → y.name = "<init>")
    (body : ∀ V : pV, e_C V l own cc maxL ws rm ini → e_R V cc ret rm.cells rm.slots post → V 0 0 0 (lv_args 0 As) [] G) : e_M l y ws rm As G post := by
  subst hyo
  intro D cs base
  refine Met.ofW (cc := cc) (maxL := maxL) (ret := ret) hy hw ?_
  intro p e s m args below meth c s₁ B hml hv
  obtain ⟨rfl, hbs, hH, hK, hN⟩ := hv
  have hx := B.exec
  have hb := B.bytes
  have hr := B.returns
  have hts := atoms_spec (ws := ws) B.pre
  have hown : s.vm.findClass y.cls = some m.cls := findClass_of_methodNamed B.named
  have hlocks := B.notSynchronized
  have hnm : meth.name = y.name := (name_of_methodNamed B.named B.method).1
  have hl := lv_entry As (n := maxL) hn
  rw [lg_entry_eq]
  refine body (e_W p l e rm s m As.toArray below meth c D cs base maxL (MQ below (fun _ st oc t => (∃ (v : Option Value) (G2 : pH), oc = .returned v ∧ post v G2 ∧ e_H D cs base G2 t.heap) ∧ va_F (e_A base) st t) As.toArray s rm.cells rm.slots (e_A base))) ⟨p, e, s, m, _, below, meth, c, D, cs, base, _, rfl, ⟨hx, hb, hml, hown, hts⟩, ⟨hK, hN⟩, hbs, fun h => hnm.trans (hini h)⟩ ?_ s.heap [] _ hH va_S.rf hl
  intro pc lv G2
  refine ⟨fun v t hd h0 h1 h2 => ?_, fun v hd h1 h2 => ?_, fun v t hd h0 h1 h2 => ?_, fun hd h1 h2 => ?_⟩
  · intro H locs ls hH2 hS2 hl2
    exact W.zret hx hb (hr.trans h0) h1 (fun t ht hW => ⟨⟨_, G2, rfl, h2, by rw [ht]; exact hH2⟩, hS2.F ht⟩) hS2.2.2 hd
  · intro H locs ls hH2 hS2 hl2
    exact W.lret hx hb (hr.trans h1) (fun t ht hW => ⟨⟨_, G2, rfl, h2, by rw [ht]; exact hH2⟩, hS2.F ht⟩) hS2.2.2 hd
  · intro H locs ls hH2 hS2 hl2
    exact W.aret hx hb (hr.trans h0) h1 (Or.inr ⟨v, rfl⟩) (fun t ht hW => ⟨⟨_, G2, rfl, h2, by rw [ht]; exact hH2⟩, hS2.F ht⟩) hS2.2.2 hd
  · intro H locs ls hH2 hS2 hl2
    exact W.vret hx hb (hr.trans h1) (fun t ht hW => ⟨⟨_, G2, rfl, h2, by rw [ht]; exact hH2⟩, hS2.F ht⟩) hS2.2.2 hd
