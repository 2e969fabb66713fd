/-! constructors: rows of new, of arrays, of Object.<init> -/
def dfX0 : List Value := [.null, .int 0, .null]
theorem dfX0_ok : ∀ j, j < 3 → defaultValue (tyX0 j) = vp_V dfX0 j := fun j hj => by
  match j, hj with
  | 0, _ => rfl
  | 1, _ => rfl
  | 2, _ => rfl
  | j + 3, h => exact absurd h (by omega)
def dfX1 : List Value := [.null, .int 0, .int 0, .int 0, .int 0, .int 0, .null, .long 0, .null, .null, .null]
theorem dfX1_ok : ∀ j, j < 11 → defaultValue (tyX1 j) = vp_V dfX1 j := fun j hj => by
  match j, hj with
  | 0, _ => rfl
  | 1, _ => rfl
  | 2, _ => rfl
  | 3, _ => rfl
  | 4, _ => rfl
  | 5, _ => rfl
  | 6, _ => rfl
  | 7, _ => rfl
  | 8, _ => rfl
  | 9, _ => rfl
  | 10, _ => rfl
  | j + 11, h => exact absurd h (by omega)
def dfX2 : List Value := [.int 0, .long 0, .int 0, .int 0, .int 0, .null, .null, .null, .int 0, .null]
theorem dfX2_ok : ∀ j, j < 10 → defaultValue (tyX2 j) = vp_V dfX2 j := fun j hj => by
  match j, hj with
  | 0, _ => rfl
  | 1, _ => rfl
  | 2, _ => rfl
  | 3, _ => rfl
  | 4, _ => rfl
  | 5, _ => rfl
  | 6, _ => rfl
  | 7, _ => rfl
  | 8, _ => rfl
  | 9, _ => rfl
  | j + 10, h => exact absurd h (by omega)
def dfX3 : List Value := [.int 0, .int 0, .null]
theorem dfX3_ok : ∀ j, j < 3 → defaultValue (tyX3 j) = vp_V dfX3 j := fun j hj => by
  match j, hj with
  | 0, _ => rfl
  | 1, _ => rfl
  | 2, _ => rfl
  | j + 3, h => exact absurd h (by omega)
def dfX4 : List Value := [.int 0, .int 0, .long 0, .int 0, .null]
theorem dfX4_ok : ∀ j, j < 5 → defaultValue (tyX4 j) = vp_V dfX4 j := fun j hj => by
  match j, hj with
  | 0, _ => rfl
  | 1, _ => rfl
  | 2, _ => rfl
  | 3, _ => rfl
  | 4, _ => rfl
  | j + 5, h => exact absurd h (by omega)
def dfX5 : List Value := [.null, .null]
theorem dfX5_ok : ∀ j, j < 2 → defaultValue (tyX5 j) = vp_V dfX5 j := fun j hj => by
  match j, hj with
  | 0, _ => rfl
  | 1, _ => rfl
  | j + 2, h => exact absurd h (by omega)
def dfX6 : List Value := [.int 0, .int 0, .int 0, .long 0, .null]
theorem dfX6_ok : ∀ j, j < 5 → defaultValue (tyX6 j) = vp_V dfX6 j := fun j hj => by
  match j, hj with
  | 0, _ => rfl
  | 1, _ => rfl
  | 2, _ => rfl
  | 3, _ => rfl
  | 4, _ => rfl
  | j + 5, h => exact absurd h (by omega)
def dfX7 : List Value := [.null, .null, .null, .null, .null, .null, .null, .null, .null]
theorem dfX7_ok : ∀ j, j < 9 → defaultValue (tyX7 j) = vp_V dfX7 j := fun j hj => by
  match j, hj with
  | 0, _ => rfl
  | 1, _ => rfl
  | 2, _ => rfl
  | 3, _ => rfl
  | 4, _ => rfl
  | 5, _ => rfl
  | 6, _ => rfl
  | 7, _ => rfl
  | 8, _ => rfl
  | j + 9, h => exact absurd h (by omega)
def dfX8 : List Value := [.int 0, .null, .null, .int 0, .null, .null, .null, .null, .null, .null, .null, .null, .null, .null, .int 0, .null, .int 0, .null, .int 0, .null, .null, .null, .int 0, .int 0, .int 0, .long 0, .int 0, .null, .int 0, .null, .int 0, .null, .int 0, .int 0, .long 0, .int 0, .int 0, .null, .int 0, .int 0, .null, .int 0]
theorem dfX8_ok : ∀ j, j < 42 → defaultValue (tyX8 j) = vp_V dfX8 j := fun j hj => by
  match j, hj with
  | 0, _ => rfl
  | 1, _ => rfl
  | 2, _ => rfl
  | 3, _ => rfl
  | 4, _ => rfl
  | 5, _ => rfl
  | 6, _ => rfl
  | 7, _ => rfl
  | 8, _ => rfl
  | 9, _ => rfl
  | 10, _ => rfl
  | 11, _ => rfl
  | 12, _ => rfl
  | 13, _ => rfl
  | 14, _ => rfl
  | 15, _ => rfl
  | 16, _ => rfl
  | 17, _ => rfl
  | 18, _ => rfl
  | 19, _ => rfl
  | 20, _ => rfl
  | 21, _ => rfl
  | 22, _ => rfl
  | 23, _ => rfl
  | 24, _ => rfl
  | 25, _ => rfl
  | 26, _ => rfl
  | 27, _ => rfl
  | 28, _ => rfl
  | 29, _ => rfl
  | 30, _ => rfl
  | 31, _ => rfl
  | 32, _ => rfl
  | 33, _ => rfl
  | 34, _ => rfl
  | 35, _ => rfl
  | 36, _ => rfl
  | 37, _ => rfl
  | 38, _ => rfl
  | 39, _ => rfl
  | 40, _ => rfl
  | 41, _ => rfl
  | j + 42, h => exact absurd h (by omega)
abbrev e_CL_law (V : pV) (l : Launch) : Prop := e_C V l RL cL_law 7 WS room_1 false
theorem oX0_init_1 {V : pV} {l : Launch} {cells slots : Nat} {lv : pL} {rest : List Value} {G : pH} {a : Nat} (C : e_CX0_init V l) (hr : (rest.map fun v => v.category).sum + 12 ≤ rmX0_init.locals) (k : V cells slots 4 lv rest G) : V cells slots 1 lv (.ref a :: rest) G := c_obj C (fun w h => List.mem_cons_of_mem _ h) (idx := 3) (WS_at 76 (by decide +kernel) rfl) (WS_at 51 (by decide +kernel) rfl) (WS_at 52 (by decide +kernel) rfl) DX0_init_0.2.1 ⟨by decide, hr⟩ k
theorem nX0_init_14 {V : pV} {l : Launch} {cells slots : Nat} {lv : pL} {rest : List Value} {G : pH} (C : e_CX0_init V l) (hcs : cells + 1 ≤ rmX0_init.cells ∧ slots + 10 ≤ rmX0_init.slots) (k : ∀ a, G a = none → V (cells + 1) (slots + 10) 17 lv (.ref a :: rest) (e_up G a (.inr (4, dfX2)))) : V cells slots 14 lv rest G := c_new C (fun w h => List.mem_cons_of_mem _ h) (idx := 9) (fs := dfX2) tyX2 (show vwCl[4]? = some (RX2, TX2, 10) from rfl) inX2 tyX2_ok (WS_at 77 (by decide +kernel) rfl) (WS_at 79 (by decide +kernel) rfl) (WS_at 31 (by decide +kernel) rfl) dfX2_ok hcs DX0_init_0.2.2.2.2.2.2.2.1 k
theorem nX0_init_37 {V : pV} {l : Launch} {cells slots : Nat} {lv : pL} {rest : List Value} {G : pH} (C : e_CX0_init V l) (hcs : cells + 1 ≤ rmX0_init.cells ∧ slots + 10 ≤ rmX0_init.slots) (k : ∀ a, G a = none → V (cells + 1) (slots + 10) 40 lv (.ref a :: rest) (e_up G a (.inr (4, dfX2)))) : V cells slots 37 lv rest G := c_new C (fun w h => List.mem_cons_of_mem _ h) (idx := 9) (fs := dfX2) tyX2 (show vwCl[4]? = some (RX2, TX2, 10) from rfl) inX2 tyX2_ok (WS_at 77 (by decide +kernel) rfl) (WS_at 79 (by decide +kernel) rfl) (WS_at 31 (by decide +kernel) rfl) dfX2_ok hcs DX0_init_0.2.2.2.2.2.2.2.2.2.2.2.2.2.2.2.2.2.2.2.1 k
theorem oX1_init_1 {V : pV} {l : Launch} {cells slots : Nat} {lv : pL} {rest : List Value} {G : pH} {a : Nat} (C : e_CX1_init V l) (hr : (rest.map fun v => v.category).sum + 12 ≤ rmX1_init.locals) (k : V cells slots 4 lv rest G) : V cells slots 1 lv (.ref a :: rest) G := c_obj C (fun w h => List.mem_cons_of_mem _ h) (idx := 3) (WS_at 162 (by decide +kernel) rfl) (WS_at 51 (by decide +kernel) rfl) (WS_at 52 (by decide +kernel) rfl) DX1_init_0.2.1 ⟨by decide, hr⟩ k
theorem aX1_init_8 {V : pV} {l : Launch} {cells slots : Nat} {lv : pL} {rest : List Value} {G : pH} {n : Int32} {N : Nat} (C : e_CX1_init V l) (hn : ¬ n < 0) (hN : n.toNatClampNeg = N) (hb : N * componentBytes .int ≤ 536870912) (hcs : cells + 1 ≤ rmX1_init.cells ∧ slots + N ≤ rmX1_init.slots) (k : ∀ a, G a = none → V (cells + 1) (slots + N) 10 lv (.ref a :: rest) (e_up G a (.inl (0, N, .inl (fun _ => 0))))) : V cells slots 8 lv (.int n :: rest) G := c_newa_int C (fun w h => List.mem_cons_of_mem _ h) hn hN hb hcs (WS_at 70 (by decide +kernel) rfl) DX1_init_0.2.2.2.2.1 k
theorem aX1_init_21 {V : pV} {l : Launch} {cells slots : Nat} {lv : pL} {rest : List Value} {G : pH} {n : Int32} {N : Nat} (C : e_CX1_init V l) (hn : ¬ n < 0) (hN : n.toNatClampNeg = N) (hb : N * componentBytes .int ≤ 536870912) (hcs : cells + 1 ≤ rmX1_init.cells ∧ slots + N ≤ rmX1_init.slots) (k : ∀ a, G a = none → V (cells + 1) (slots + N) 23 lv (.ref a :: rest) (e_up G a (.inl (0, N, .inl (fun _ => 0))))) : V cells slots 21 lv (.int n :: rest) G := c_newa_int C (fun w h => List.mem_cons_of_mem _ h) hn hN hb hcs (WS_at 70 (by decide +kernel) rfl) DX1_init_0.2.2.2.2.2.2.2.2.2.2.2.1 k
theorem aX1_init_44 {V : pV} {l : Launch} {cells slots : Nat} {lv : pL} {rest : List Value} {G : pH} {n : Int32} {N : Nat} (C : e_CX1_init V l) (hn : ¬ n < 0) (hN : n.toNatClampNeg = N) (hb : N * componentBytes .int ≤ 536870912) (hcs : cells + 1 ≤ rmX1_init.cells ∧ slots + N ≤ rmX1_init.slots) (k : ∀ a, G a = none → V (cells + 1) (slots + N) 46 lv (.ref a :: rest) (e_up G a (.inl (0, N, .inl (fun _ => 0))))) : V cells slots 44 lv (.int n :: rest) G := c_newa_int C (fun w h => List.mem_cons_of_mem _ h) hn hN hb hcs (WS_at 70 (by decide +kernel) rfl) DX1_init_0.2.2.2.2.2.2.2.2.2.2.2.2.2.2.2.2.2.2.2.2.2.2.2.2.2.2.1 k
theorem aX1_init_52 {V : pV} {l : Launch} {cells slots : Nat} {lv : pL} {rest : List Value} {G : pH} {n : Int32} {N : Nat} (C : e_CX1_init V l) (hn : ¬ n < 0) (hN : n.toNatClampNeg = N) (hb : N * componentBytes .int ≤ 536870912) (hcs : cells + 1 ≤ rmX1_init.cells ∧ slots + N ≤ rmX1_init.slots) (k : ∀ a, G a = none → V (cells + 1) (slots + N) 54 lv (.ref a :: rest) (e_up G a (.inl (0, N, .inl (fun _ => 0))))) : V cells slots 52 lv (.int n :: rest) G := c_newa_int C (fun w h => List.mem_cons_of_mem _ h) hn hN hb hcs (WS_at 70 (by decide +kernel) rfl) DX1_init_0.2.2.2.2.2.2.2.2.2.2.2.2.2.2.2.2.2.2.2.2.2.2.2.2.2.2.2.2.2.2.1 k
theorem aX1_init_60 {V : pV} {l : Launch} {cells slots : Nat} {lv : pL} {rest : List Value} {G : pH} {n : Int32} {N : Nat} (C : e_CX1_init V l) (hn : ¬ n < 0) (hN : n.toNatClampNeg = N) (hb : N * componentBytes .long ≤ 536870912) (hcs : cells + 1 ≤ rmX1_init.cells ∧ slots + N ≤ rmX1_init.slots) (k : ∀ a, G a = none → V (cells + 1) (slots + N) 62 lv (.ref a :: rest) (e_up G a (.inl (1, N, .inr (.inl (fun _ => 0)))))) : V cells slots 60 lv (.int n :: rest) G := c_newa_long C (fun w h => List.mem_cons_of_mem _ h) hn hN hb hcs (WS_at 204 (by decide +kernel) rfl) DX1_init_0.2.2.2.2.2.2.2.2.2.2.2.2.2.2.2.2.2.2.2.2.2.2.2.2.2.2.2.2.2.2.2.2.2.2.1 k
theorem oX2_init_1 {V : pV} {l : Launch} {cells slots : Nat} {lv : pL} {rest : List Value} {G : pH} {a : Nat} (C : e_CX2_init V l) (hr : (rest.map fun v => v.category).sum + 12 ≤ rmX2_init.locals) (k : V cells slots 4 lv rest G) : V cells slots 1 lv (.ref a :: rest) G := c_obj C (fun w h => List.mem_cons_of_mem _ h) (idx := 3) (WS_at 83 (by decide +kernel) rfl) (WS_at 51 (by decide +kernel) rfl) (WS_at 52 (by decide +kernel) rfl) DX2_init_0.2.1 ⟨by decide, hr⟩ k
theorem aX2_init_6 {V : pV} {l : Launch} {cells slots : Nat} {lv : pL} {rest : List Value} {G : pH} {n : Int32} {N : Nat} (C : e_CX2_init V l) (hn : ¬ n < 0) (hN : n.toNatClampNeg = N) (hb : N * componentBytes .int ≤ 536870912) (hcs : cells + 1 ≤ rmX2_init.cells ∧ slots + N ≤ rmX2_init.slots) (k : ∀ a, G a = none → V (cells + 1) (slots + N) 8 lv (.ref a :: rest) (e_up G a (.inl (0, N, .inl (fun _ => 0))))) : V cells slots 6 lv (.int n :: rest) G := c_newa_int C (fun w h => List.mem_cons_of_mem _ h) hn hN hb hcs (WS_at 70 (by decide +kernel) rfl) DX2_init_0.2.2.2.2.1 k
theorem aX2_init_13 {V : pV} {l : Launch} {cells slots : Nat} {lv : pL} {rest : List Value} {G : pH} {n : Int32} {N : Nat} (C : e_CX2_init V l) (hn : ¬ n < 0) (hN : n.toNatClampNeg = N) (hb : N * componentBytes .int ≤ 536870912) (hcs : cells + 1 ≤ rmX2_init.cells ∧ slots + N ≤ rmX2_init.slots) (k : ∀ a, G a = none → V (cells + 1) (slots + N) 15 lv (.ref a :: rest) (e_up G a (.inl (0, N, .inl (fun _ => 0))))) : V cells slots 13 lv (.int n :: rest) G := c_newa_int C (fun w h => List.mem_cons_of_mem _ h) hn hN hb hcs (WS_at 70 (by decide +kernel) rfl) DX2_init_0.2.2.2.2.2.2.2.2.1 k
theorem aX2_init_20 {V : pV} {l : Launch} {cells slots : Nat} {lv : pL} {rest : List Value} {G : pH} {n : Int32} {N : Nat} (C : e_CX2_init V l) (hn : ¬ n < 0) (hN : n.toNatClampNeg = N) (hb : N * componentBytes .int ≤ 536870912) (hcs : cells + 1 ≤ rmX2_init.cells ∧ slots + N ≤ rmX2_init.slots) (k : ∀ a, G a = none → V (cells + 1) (slots + N) 22 lv (.ref a :: rest) (e_up G a (.inl (0, N, .inl (fun _ => 0))))) : V cells slots 20 lv (.int n :: rest) G := c_newa_int C (fun w h => List.mem_cons_of_mem _ h) hn hN hb hcs (WS_at 70 (by decide +kernel) rfl) DX2_init_0.2.2.2.2.2.2.2.2.2.2.2.2.1 k
theorem aX2_init_27 {V : pV} {l : Launch} {cells slots : Nat} {lv : pL} {rest : List Value} {G : pH} {n : Int32} {N : Nat} (C : e_CX2_init V l) (hn : ¬ n < 0) (hN : n.toNatClampNeg = N) (hb : N * componentBytes .int ≤ 536870912) (hcs : cells + 1 ≤ rmX2_init.cells ∧ slots + N ≤ rmX2_init.slots) (k : ∀ a, G a = none → V (cells + 1) (slots + N) 29 lv (.ref a :: rest) (e_up G a (.inl (0, N, .inl (fun _ => 0))))) : V cells slots 27 lv (.int n :: rest) G := c_newa_int C (fun w h => List.mem_cons_of_mem _ h) hn hN hb hcs (WS_at 70 (by decide +kernel) rfl) DX2_init_0.2.2.2.2.2.2.2.2.2.2.2.2.2.2.2.2.1 k
theorem oX3_init_1 {V : pV} {l : Launch} {cells slots : Nat} {lv : pL} {rest : List Value} {G : pH} {a : Nat} (C : e_CX3_init V l) (hr : (rest.map fun v => v.category).sum + 12 ≤ rmX3_init.locals) (k : V cells slots 4 lv rest G) : V cells slots 1 lv (.ref a :: rest) G := c_obj C (fun w h => List.mem_cons_of_mem _ h) (idx := 3) (WS_at 266 (by decide +kernel) rfl) (WS_at 51 (by decide +kernel) rfl) (WS_at 52 (by decide +kernel) rfl) DX3_init_0.2.1 ⟨by decide, hr⟩ k
theorem aX3_init_13 {V : pV} {l : Launch} {cells slots : Nat} {lv : pL} {rest : List Value} {G : pH} {n : Int32} {N : Nat} (C : e_CX3_init V l) (hn : ¬ n < 0) (hN : n.toNatClampNeg = N) (hb : N * componentBytes .int ≤ 536870912) (hcs : cells + 1 ≤ rmX3_init.cells ∧ slots + N ≤ rmX3_init.slots) (k : ∀ a, G a = none → V (cells + 1) (slots + N) 15 lv (.ref a :: rest) (e_up G a (.inl (0, N, .inl (fun _ => 0))))) : V cells slots 13 lv (.int n :: rest) G := c_newa_int C (fun w h => List.mem_cons_of_mem _ h) hn hN hb hcs (WS_at 70 (by decide +kernel) rfl) DX3_init_0.2.2.2.2.2.2.2.1 k
theorem oX4_init_1 {V : pV} {l : Launch} {cells slots : Nat} {lv : pL} {rest : List Value} {G : pH} {a : Nat} (C : e_CX4_init V l) (hr : (rest.map fun v => v.category).sum + 12 ≤ rmX4_init.locals) (k : V cells slots 4 lv rest G) : V cells slots 1 lv (.ref a :: rest) G := c_obj C (fun w h => List.mem_cons_of_mem _ h) (idx := 3) (WS_at 210 (by decide +kernel) rfl) (WS_at 51 (by decide +kernel) rfl) (WS_at 52 (by decide +kernel) rfl) DX4_init_0.2.1 ⟨by decide, hr⟩ k
theorem aX4_init_6 {V : pV} {l : Launch} {cells slots : Nat} {lv : pL} {rest : List Value} {G : pH} {n : Int32} {N : Nat} (C : e_CX4_init V l) (hn : ¬ n < 0) (hN : n.toNatClampNeg = N) (hb : N * componentBytes .int ≤ 536870912) (hcs : cells + 1 ≤ rmX4_init.cells ∧ slots + N ≤ rmX4_init.slots) (k : ∀ a, G a = none → V (cells + 1) (slots + N) 8 lv (.ref a :: rest) (e_up G a (.inl (0, N, .inl (fun _ => 0))))) : V cells slots 6 lv (.int n :: rest) G := c_newa_int C (fun w h => List.mem_cons_of_mem _ h) hn hN hb hcs (WS_at 70 (by decide +kernel) rfl) DX4_init_0.2.2.2.2.1 k
theorem oX5_init_1 {V : pV} {l : Launch} {cells slots : Nat} {lv : pL} {rest : List Value} {G : pH} {a : Nat} (C : e_CX5_init V l) (hr : (rest.map fun v => v.category).sum + 12 ≤ rmX5_init.locals) (k : V cells slots 4 lv rest G) : V cells slots 1 lv (.ref a :: rest) G := c_obj C (fun w h => List.mem_cons_of_mem _ h) (idx := 3) (WS_at 58 (by decide +kernel) rfl) (WS_at 51 (by decide +kernel) rfl) (WS_at 52 (by decide +kernel) rfl) DX5_init_0.2.1 ⟨by decide, hr⟩ k
theorem aX5_init_7 {V : pV} {l : Launch} {cells slots : Nat} {lv : pL} {rest : List Value} {G : pH} {n : Int32} {N : Nat} (C : e_CX5_init V l) (hn : ¬ n < 0) (hN : n.toNatClampNeg = N) (hb : N * componentBytes .int ≤ 536870912) (hcs : cells + 1 ≤ rmX5_init.cells ∧ slots + N ≤ rmX5_init.slots) (k : ∀ a, G a = none → V (cells + 1) (slots + N) 9 lv (.ref a :: rest) (e_up G a (.inl (0, N, .inl (fun _ => 0))))) : V cells slots 7 lv (.int n :: rest) G := c_newa_int C (fun w h => List.mem_cons_of_mem _ h) hn hN hb hcs (WS_at 70 (by decide +kernel) rfl) DX5_init_0.2.2.2.2.1 k
theorem aX5_init_15 {V : pV} {l : Launch} {cells slots : Nat} {lv : pL} {rest : List Value} {G : pH} {n : Int32} {N : Nat} (C : e_CX5_init V l) (hn : ¬ n < 0) (hN : n.toNatClampNeg = N) (hb : N * componentBytes .int ≤ 536870912) (hcs : cells + 1 ≤ rmX5_init.cells ∧ slots + N ≤ rmX5_init.slots) (k : ∀ a, G a = none → V (cells + 1) (slots + N) 17 lv (.ref a :: rest) (e_up G a (.inl (0, N, .inl (fun _ => 0))))) : V cells slots 15 lv (.int n :: rest) G := c_newa_int C (fun w h => List.mem_cons_of_mem _ h) hn hN hb hcs (WS_at 70 (by decide +kernel) rfl) DX5_init_0.2.2.2.2.2.2.2.2.1 k
theorem oX6_init_1 {V : pV} {l : Launch} {cells slots : Nat} {lv : pL} {rest : List Value} {G : pH} {a : Nat} (C : e_CX6_init V l) (hr : (rest.map fun v => v.category).sum + 12 ≤ rmX6_init.locals) (k : V cells slots 4 lv rest G) : V cells slots 1 lv (.ref a :: rest) G := c_obj C (fun w h => List.mem_cons_of_mem _ h) (idx := 1) (WS_at 238 (by decide +kernel) rfl) (WS_at 51 (by decide +kernel) rfl) (WS_at 52 (by decide +kernel) rfl) DX6_init_0.2.1 ⟨by decide, hr⟩ k
theorem aX6_init_6 {V : pV} {l : Launch} {cells slots : Nat} {lv : pL} {rest : List Value} {G : pH} {n : Int32} {N : Nat} (C : e_CX6_init V l) (hn : ¬ n < 0) (hN : n.toNatClampNeg = N) (hb : N * componentBytes .int ≤ 536870912) (hcs : cells + 1 ≤ rmX6_init.cells ∧ slots + N ≤ rmX6_init.slots) (k : ∀ a, G a = none → V (cells + 1) (slots + N) 8 lv (.ref a :: rest) (e_up G a (.inl (0, N, .inl (fun _ => 0))))) : V cells slots 6 lv (.int n :: rest) G := c_newa_int C (fun w h => List.mem_cons_of_mem _ h) hn hN hb hcs (WS_at 70 (by decide +kernel) rfl) DX6_init_0.2.2.2.2.1 k
theorem oX7_init_1 {V : pV} {l : Launch} {cells slots : Nat} {lv : pL} {rest : List Value} {G : pH} {a : Nat} (C : e_CX7_init V l) (hr : (rest.map fun v => v.category).sum + 12 ≤ rmX7_init.locals) (k : V cells slots 4 lv rest G) : V cells slots 1 lv (.ref a :: rest) G := c_obj C (fun w h => List.mem_cons_of_mem _ h) (idx := 3) (WS_at 50 (by decide +kernel) rfl) (WS_at 51 (by decide +kernel) rfl) (WS_at 52 (by decide +kernel) rfl) DX7_init_0.2.1 ⟨by decide, hr⟩ k
theorem nX7_init_5 {V : pV} {l : Launch} {cells slots : Nat} {lv : pL} {rest : List Value} {G : pH} (C : e_CX7_init V l) (hcs : cells + 1 ≤ rmX7_init.cells ∧ slots + 2 ≤ rmX7_init.slots) (k : ∀ a, G a = none → V (cells + 1) (slots + 2) 8 lv (.ref a :: rest) (e_up G a (.inr (7, dfX5)))) : V cells slots 5 lv rest G := c_new C (fun w h => List.mem_cons_of_mem _ h) (idx := 9) (fs := dfX5) tyX5 (show vwCl[7]? = some (RX5, TX5, 2) from rfl) inX5 tyX5_ok (WS_at 53 (by decide +kernel) rfl) (WS_at 54 (by decide +kernel) rfl) (WS_at 29 (by decide +kernel) rfl) dfX5_ok hcs DX7_init_0.2.2.2.1 k
theorem nX7_init_16 {V : pV} {l : Launch} {cells slots : Nat} {lv : pL} {rest : List Value} {G : pH} (C : e_CX7_init V l) (hcs : cells + 1 ≤ rmX7_init.cells ∧ slots + 3 ≤ rmX7_init.slots) (k : ∀ a, G a = none → V (cells + 1) (slots + 3) 19 lv (.ref a :: rest) (e_up G a (.inr (2, dfX0)))) : V cells slots 16 lv rest G := c_new C (fun w h => List.mem_cons_of_mem _ h) (idx := 16) (fs := dfX0) tyX0 (show vwCl[2]? = some (RX0, TX0, 3) from rfl) inX0 tyX0_ok (WS_at 71 (by decide +kernel) rfl) (WS_at 72 (by decide +kernel) rfl) (WS_at 30 (by decide +kernel) rfl) dfX0_ok hcs DX7_init_0.2.2.2.2.2.2.2.2.1 k
theorem nX7_init_27 {V : pV} {l : Launch} {cells slots : Nat} {lv : pL} {rest : List Value} {G : pH} (C : e_CX7_init V l) (hcs : cells + 1 ≤ rmX7_init.cells ∧ slots + 10 ≤ rmX7_init.slots) (k : ∀ a, G a = none → V (cells + 1) (slots + 10) 30 lv (.ref a :: rest) (e_up G a (.inr (4, dfX2)))) : V cells slots 27 lv rest G := c_new C (fun w h => List.mem_cons_of_mem _ h) (idx := 23) (fs := dfX2) tyX2 (show vwCl[4]? = some (RX2, TX2, 10) from rfl) inX2 tyX2_ok (WS_at 155 (by decide +kernel) rfl) (WS_at 79 (by decide +kernel) rfl) (WS_at 31 (by decide +kernel) rfl) dfX2_ok hcs DX7_init_0.2.2.2.2.2.2.2.2.2.2.2.2.2.1 k
theorem nX7_init_38 {V : pV} {l : Launch} {cells slots : Nat} {lv : pL} {rest : List Value} {G : pH} (C : e_CX7_init V l) (hcs : cells + 1 ≤ rmX7_init.cells ∧ slots + 11 ≤ rmX7_init.slots) (k : ∀ a, G a = none → V (cells + 1) (slots + 11) 41 lv (.ref a :: rest) (e_up G a (.inr (3, dfX1)))) : V cells slots 38 lv rest G := c_new C (fun w h => List.mem_cons_of_mem _ h) (idx := 30) (fs := dfX1) tyX1 (show vwCl[3]? = some (RX1, TX1, 11) from rfl) inX1 tyX1_ok (WS_at 157 (by decide +kernel) rfl) (WS_at 158 (by decide +kernel) rfl) (WS_at 32 (by decide +kernel) rfl) dfX1_ok hcs DX7_init_0.2.2.2.2.2.2.2.2.2.2.2.2.2.2.2.2.2.2.1 k
theorem nX7_init_49 {V : pV} {l : Launch} {cells slots : Nat} {lv : pL} {rest : List Value} {G : pH} (C : e_CX7_init V l) (hcs : cells + 1 ≤ rmX7_init.cells ∧ slots + 5 ≤ rmX7_init.slots) (k : ∀ a, G a = none → V (cells + 1) (slots + 5) 52 lv (.ref a :: rest) (e_up G a (.inr (6, dfX4)))) : V cells slots 49 lv rest G := c_new C (fun w h => List.mem_cons_of_mem _ h) (idx := 37) (fs := dfX4) tyX4 (show vwCl[6]? = some (RX4, TX4, 5) from rfl) inX4 tyX4_ok (WS_at 205 (by decide +kernel) rfl) (WS_at 206 (by decide +kernel) rfl) (WS_at 33 (by decide +kernel) rfl) dfX4_ok hcs DX7_init_0.2.2.2.2.2.2.2.2.2.2.2.2.2.2.2.2.2.2.2.2.2.2.2.1 k
theorem nX7_init_60 {V : pV} {l : Launch} {cells slots : Nat} {lv : pL} {rest : List Value} {G : pH} (C : e_CX7_init V l) (hcs : cells + 1 ≤ rmX7_init.cells ∧ slots + 5 ≤ rmX7_init.slots) (k : ∀ a, G a = none → V (cells + 1) (slots + 5) 63 lv (.ref a :: rest) (e_up G a (.inr (8, dfX6)))) : V cells slots 60 lv rest G := c_new C (fun w h => List.mem_cons_of_mem _ h) (idx := 44) (fs := dfX6) tyX6 (show vwCl[8]? = some (RX6, TX6, 5) from rfl) inX6 tyX6_ok (WS_at 233 (by decide +kernel) rfl) (WS_at 234 (by decide +kernel) rfl) (WS_at 34 (by decide +kernel) rfl) dfX6_ok hcs DX7_init_0.2.2.2.2.2.2.2.2.2.2.2.2.2.2.2.2.2.2.2.2.2.2.2.2.2.2.2.2.1 k
theorem aX7_init_73 {V : pV} {l : Launch} {cells slots : Nat} {lv : pL} {rest : List Value} {G : pH} {n : Int32} {N : Nat} (C : e_CX7_init V l) (hn : ¬ n < 0) (hN : n.toNatClampNeg = N) (hb : N * componentBytes .int ≤ 536870912) (hcs : cells + 1 ≤ rmX7_init.cells ∧ slots + N ≤ rmX7_init.slots) (k : ∀ a, G a = none → V (cells + 1) (slots + N) 75 lv (.ref a :: rest) (e_up G a (.inl (0, N, .inl (fun _ => 0))))) : V cells slots 73 lv (.int n :: rest) G := c_newa_int C (fun w h => List.mem_cons_of_mem _ h) hn hN hb hcs (WS_at 70 (by decide +kernel) rfl) DX7_init_0.2.2.2.2.2.2.2.2.2.2.2.2.2.2.2.2.2.2.2.2.2.2.2.2.2.2.2.2.2.2.2.2.2.2.1 k
theorem nX7_init_79 {V : pV} {l : Launch} {cells slots : Nat} {lv : pL} {rest : List Value} {G : pH} (C : e_CX7_init V l) (hcs : cells + 1 ≤ rmX7_init.cells ∧ slots + 3 ≤ rmX7_init.slots) (k : ∀ a, G a = none → V (cells + 1) (slots + 3) 82 lv (.ref a :: rest) (e_up G a (.inr (5, dfX3)))) : V cells slots 79 lv rest G := c_new C (fun w h => List.mem_cons_of_mem _ h) (idx := 55) (fs := dfX3) tyX3 (show vwCl[5]? = some (RX3, TX3, 3) from rfl) inX3 tyX3_ok (WS_at 261 (by decide +kernel) rfl) (WS_at 262 (by decide +kernel) rfl) (WS_at 35 (by decide +kernel) rfl) dfX3_ok hcs DX7_init_0.2.2.2.2.2.2.2.2.2.2.2.2.2.2.2.2.2.2.2.2.2.2.2.2.2.2.2.2.2.2.2.2.2.2.2.2.2.1 k
theorem nX7_init_90 {V : pV} {l : Launch} {cells slots : Nat} {lv : pL} {rest : List Value} {G : pH} (C : e_CX7_init V l) (hcs : cells + 1 ≤ rmX7_init.cells ∧ slots + 3 ≤ rmX7_init.slots) (k : ∀ a, G a = none → V (cells + 1) (slots + 3) 93 lv (.ref a :: rest) (e_up G a (.inr (5, dfX3)))) : V cells slots 90 lv rest G := c_new C (fun w h => List.mem_cons_of_mem _ h) (idx := 55) (fs := dfX3) tyX3 (show vwCl[5]? = some (RX3, TX3, 3) from rfl) inX3 tyX3_ok (WS_at 261 (by decide +kernel) rfl) (WS_at 262 (by decide +kernel) rfl) (WS_at 35 (by decide +kernel) rfl) dfX3_ok hcs DX7_init_1.2.2.1 k
theorem oX8_init_1 {V : pV} {l : Launch} {cells slots : Nat} {lv : pL} {rest : List Value} {G : pH} {a : Nat} (C : e_CX8_init V l) (hr : (rest.map fun v => v.category).sum + 12 ≤ rmX8_init.locals) (k : V cells slots 4 lv rest G) : V cells slots 1 lv (.ref a :: rest) G := c_obj C (fun w h => List.mem_cons_of_mem _ h) (idx := 1) (WS_at 726 (by decide +kernel) rfl) (WS_at 51 (by decide +kernel) rfl) (WS_at 52 (by decide +kernel) rfl) DX8_init_0.2.1 ⟨by decide, hr⟩ k
theorem aX8_init_7 {V : pV} {l : Launch} {cells slots : Nat} {lv : pL} {rest : List Value} {G : pH} {n : Int32} {N : Nat} (C : e_CX8_init V l) (hn : ¬ n < 0) (hN : n.toNatClampNeg = N) (hb : N * componentBytes .int ≤ 536870912) (hcs : cells + 1 ≤ rmX8_init.cells ∧ slots + N ≤ rmX8_init.slots) (k : ∀ a, G a = none → V (cells + 1) (slots + N) 9 lv (.ref a :: rest) (e_up G a (.inl (0, N, .inl (fun _ => 0))))) : V cells slots 7 lv (.int n :: rest) G := c_newa_int C (fun w h => List.mem_cons_of_mem _ h) hn hN hb hcs (WS_at 70 (by decide +kernel) rfl) DX8_init_0.2.2.2.2.1 k
theorem aX8_init_15 {V : pV} {l : Launch} {cells slots : Nat} {lv : pL} {rest : List Value} {G : pH} {n : Int32} {N : Nat} (C : e_CX8_init V l) (hn : ¬ n < 0) (hN : n.toNatClampNeg = N) (hb : N * componentBytes .int ≤ 536870912) (hcs : cells + 1 ≤ rmX8_init.cells ∧ slots + N ≤ rmX8_init.slots) (k : ∀ a, G a = none → V (cells + 1) (slots + N) 17 lv (.ref a :: rest) (e_up G a (.inl (0, N, .inl (fun _ => 0))))) : V cells slots 15 lv (.int n :: rest) G := c_newa_int C (fun w h => List.mem_cons_of_mem _ h) hn hN hb hcs (WS_at 70 (by decide +kernel) rfl) DX8_init_0.2.2.2.2.2.2.2.2.1 k
theorem aX8_init_23 {V : pV} {l : Launch} {cells slots : Nat} {lv : pL} {rest : List Value} {G : pH} {n : Int32} {N : Nat} (C : e_CX8_init V l) (hn : ¬ n < 0) (hN : n.toNatClampNeg = N) (hb : N * componentBytes .int ≤ 536870912) (hcs : cells + 1 ≤ rmX8_init.cells ∧ slots + N ≤ rmX8_init.slots) (k : ∀ a, G a = none → V (cells + 1) (slots + N) 25 lv (.ref a :: rest) (e_up G a (.inl (0, N, .inl (fun _ => 0))))) : V cells slots 23 lv (.int n :: rest) G := c_newa_int C (fun w h => List.mem_cons_of_mem _ h) hn hN hb hcs (WS_at 70 (by decide +kernel) rfl) DX8_init_0.2.2.2.2.2.2.2.2.2.2.2.2.1 k
theorem aX8_init_31 {V : pV} {l : Launch} {cells slots : Nat} {lv : pL} {rest : List Value} {G : pH} {n : Int32} {N : Nat} (C : e_CX8_init V l) (hn : ¬ n < 0) (hN : n.toNatClampNeg = N) (hb : N * componentBytes .long ≤ 536870912) (hcs : cells + 1 ≤ rmX8_init.cells ∧ slots + N ≤ rmX8_init.slots) (k : ∀ a, G a = none → V (cells + 1) (slots + N) 33 lv (.ref a :: rest) (e_up G a (.inl (1, N, .inr (.inl (fun _ => 0)))))) : V cells slots 31 lv (.int n :: rest) G := c_newa_long C (fun w h => List.mem_cons_of_mem _ h) hn hN hb hcs (WS_at 204 (by decide +kernel) rfl) DX8_init_0.2.2.2.2.2.2.2.2.2.2.2.2.2.2.2.2.1 k
theorem aX8_init_39 {V : pV} {l : Launch} {cells slots : Nat} {lv : pL} {rest : List Value} {G : pH} {n : Int32} {N : Nat} (C : e_CX8_init V l) (hn : ¬ n < 0) (hN : n.toNatClampNeg = N) (hb : N * componentBytes .int ≤ 536870912) (hcs : cells + 1 ≤ rmX8_init.cells ∧ slots + N ≤ rmX8_init.slots) (k : ∀ a, G a = none → V (cells + 1) (slots + N) 41 lv (.ref a :: rest) (e_up G a (.inl (0, N, .inl (fun _ => 0))))) : V cells slots 39 lv (.int n :: rest) G := c_newa_int C (fun w h => List.mem_cons_of_mem _ h) hn hN hb hcs (WS_at 70 (by decide +kernel) rfl) DX8_init_0.2.2.2.2.2.2.2.2.2.2.2.2.2.2.2.2.2.2.2.2.1 k
theorem aX8_init_48 {V : pV} {l : Launch} {cells slots : Nat} {lv : pL} {rest : List Value} {G : pH} {n : Int32} {N : Nat} (C : e_CX8_init V l) (hn : ¬ n < 0) (hN : n.toNatClampNeg = N) (hb : N * componentBytes .int ≤ 536870912) (hcs : cells + 1 ≤ rmX8_init.cells ∧ slots + N ≤ rmX8_init.slots) (k : ∀ a, G a = none → V (cells + 1) (slots + N) 50 lv (.ref a :: rest) (e_up G a (.inl (0, N, .inl (fun _ => 0))))) : V cells slots 48 lv (.int n :: rest) G := c_newa_int C (fun w h => List.mem_cons_of_mem _ h) hn hN hb hcs (WS_at 70 (by decide +kernel) rfl) DX8_init_0.2.2.2.2.2.2.2.2.2.2.2.2.2.2.2.2.2.2.2.2.2.2.2.2.1 k
theorem aX8_init_57 {V : pV} {l : Launch} {cells slots : Nat} {lv : pL} {rest : List Value} {G : pH} {n : Int32} {N : Nat} (C : e_CX8_init V l) (hn : ¬ n < 0) (hN : n.toNatClampNeg = N) (hb : N * componentBytes .int ≤ 536870912) (hcs : cells + 1 ≤ rmX8_init.cells ∧ slots + N ≤ rmX8_init.slots) (k : ∀ a, G a = none → V (cells + 1) (slots + N) 59 lv (.ref a :: rest) (e_up G a (.inl (0, N, .inl (fun _ => 0))))) : V cells slots 57 lv (.int n :: rest) G := c_newa_int C (fun w h => List.mem_cons_of_mem _ h) hn hN hb hcs (WS_at 70 (by decide +kernel) rfl) DX8_init_0.2.2.2.2.2.2.2.2.2.2.2.2.2.2.2.2.2.2.2.2.2.2.2.2.2.2.2.2.1 k
theorem aX8_init_66 {V : pV} {l : Launch} {cells slots : Nat} {lv : pL} {rest : List Value} {G : pH} {n : Int32} {N : Nat} (C : e_CX8_init V l) (hn : ¬ n < 0) (hN : n.toNatClampNeg = N) (hb : N * componentBytes .int ≤ 536870912) (hcs : cells + 1 ≤ rmX8_init.cells ∧ slots + N ≤ rmX8_init.slots) (k : ∀ a, G a = none → V (cells + 1) (slots + N) 68 lv (.ref a :: rest) (e_up G a (.inl (0, N, .inl (fun _ => 0))))) : V cells slots 66 lv (.int n :: rest) G := c_newa_int C (fun w h => List.mem_cons_of_mem _ h) hn hN hb hcs (WS_at 70 (by decide +kernel) rfl) DX8_init_0.2.2.2.2.2.2.2.2.2.2.2.2.2.2.2.2.2.2.2.2.2.2.2.2.2.2.2.2.2.2.2.2.1 k
theorem aX8_init_74 {V : pV} {l : Launch} {cells slots : Nat} {lv : pL} {rest : List Value} {G : pH} {n : Int32} {N : Nat} (C : e_CX8_init V l) (hn : ¬ n < 0) (hN : n.toNatClampNeg = N) (hb : N * componentBytes .int ≤ 536870912) (hcs : cells + 1 ≤ rmX8_init.cells ∧ slots + N ≤ rmX8_init.slots) (k : ∀ a, G a = none → V (cells + 1) (slots + N) 76 lv (.ref a :: rest) (e_up G a (.inl (0, N, .inl (fun _ => 0))))) : V cells slots 74 lv (.int n :: rest) G := c_newa_int C (fun w h => List.mem_cons_of_mem _ h) hn hN hb hcs (WS_at 70 (by decide +kernel) rfl) DX8_init_0.2.2.2.2.2.2.2.2.2.2.2.2.2.2.2.2.2.2.2.2.2.2.2.2.2.2.2.2.2.2.2.2.2.2.2.2.1 k
theorem aX8_init_83 {V : pV} {l : Launch} {cells slots : Nat} {lv : pL} {rest : List Value} {G : pH} {n : Int32} {N : Nat} (C : e_CX8_init V l) (hn : ¬ n < 0) (hN : n.toNatClampNeg = N) (hb : N * componentBytes .int ≤ 536870912) (hcs : cells + 1 ≤ rmX8_init.cells ∧ slots + N ≤ rmX8_init.slots) (k : ∀ a, G a = none → V (cells + 1) (slots + N) 85 lv (.ref a :: rest) (e_up G a (.inl (0, N, .inl (fun _ => 0))))) : V cells slots 83 lv (.int n :: rest) G := c_newa_int C (fun w h => List.mem_cons_of_mem _ h) hn hN hb hcs (WS_at 70 (by decide +kernel) rfl) DX8_init_1.1 k
theorem aX8_init_91 {V : pV} {l : Launch} {cells slots : Nat} {lv : pL} {rest : List Value} {G : pH} {n : Int32} {N : Nat} (C : e_CX8_init V l) (hn : ¬ n < 0) (hN : n.toNatClampNeg = N) (hb : N * componentBytes .boolean ≤ 536870912) (hcs : cells + 1 ≤ rmX8_init.cells ∧ slots + N ≤ rmX8_init.slots) (k : ∀ a, G a = none → V (cells + 1) (slots + N) 93 lv (.ref a :: rest) (e_up G a (.inl (2, N, .inl (fun _ => 0))))) : V cells slots 91 lv (.int n :: rest) G := c_newa_bool C (fun w h => List.mem_cons_of_mem _ h) hn hN hb hcs (WS_at 854 (by decide +kernel) rfl) DX8_init_1.2.2.2.2.1 k
theorem aX8_init_99 {V : pV} {l : Launch} {cells slots : Nat} {lv : pL} {rest : List Value} {G : pH} {n : Int32} {N : Nat} (C : e_CX8_init V l) (hn : ¬ n < 0) (hN : n.toNatClampNeg = N) (hb : N * componentBytes .boolean ≤ 536870912) (hcs : cells + 1 ≤ rmX8_init.cells ∧ slots + N ≤ rmX8_init.slots) (k : ∀ a, G a = none → V (cells + 1) (slots + N) 101 lv (.ref a :: rest) (e_up G a (.inl (2, N, .inl (fun _ => 0))))) : V cells slots 99 lv (.int n :: rest) G := c_newa_bool C (fun w h => List.mem_cons_of_mem _ h) hn hN hb hcs (WS_at 854 (by decide +kernel) rfl) DX8_init_1.2.2.2.2.2.2.2.2.1 k
theorem aX8_init_106 {V : pV} {l : Launch} {cells slots : Nat} {lv : pL} {rest : List Value} {G : pH} {n : Int32} {N : Nat} (C : e_CX8_init V l) (hn : ¬ n < 0) (hN : n.toNatClampNeg = N) (hb : N * componentBytes .int ≤ 536870912) (hcs : cells + 1 ≤ rmX8_init.cells ∧ slots + N ≤ rmX8_init.slots) (k : ∀ a, G a = none → V (cells + 1) (slots + N) 108 lv (.ref a :: rest) (e_up G a (.inl (0, N, .inl (fun _ => 0))))) : V cells slots 106 lv (.int n :: rest) G := c_newa_int C (fun w h => List.mem_cons_of_mem _ h) hn hN hb hcs (WS_at 70 (by decide +kernel) rfl) DX8_init_1.2.2.2.2.2.2.2.2.2.2.2.2.1 k
theorem aX8_init_113 {V : pV} {l : Launch} {cells slots : Nat} {lv : pL} {rest : List Value} {G : pH} {n : Int32} {N : Nat} (C : e_CX8_init V l) (hn : ¬ n < 0) (hN : n.toNatClampNeg = N) (hb : N * componentBytes .int ≤ 536870912) (hcs : cells + 1 ≤ rmX8_init.cells ∧ slots + N ≤ rmX8_init.slots) (k : ∀ a, G a = none → V (cells + 1) (slots + N) 115 lv (.ref a :: rest) (e_up G a (.inl (0, N, .inl (fun _ => 0))))) : V cells slots 113 lv (.int n :: rest) G := c_newa_int C (fun w h => List.mem_cons_of_mem _ h) hn hN hb hcs (WS_at 70 (by decide +kernel) rfl) DX8_init_1.2.2.2.2.2.2.2.2.2.2.2.2.2.2.2.2.1 k
theorem aX8_init_121 {V : pV} {l : Launch} {cells slots : Nat} {lv : pL} {rest : List Value} {G : pH} {n : Int32} {N : Nat} (C : e_CX8_init V l) (hn : ¬ n < 0) (hN : n.toNatClampNeg = N) (hb : N * componentBytes .boolean ≤ 536870912) (hcs : cells + 1 ≤ rmX8_init.cells ∧ slots + N ≤ rmX8_init.slots) (k : ∀ a, G a = none → V (cells + 1) (slots + N) 123 lv (.ref a :: rest) (e_up G a (.inl (2, N, .inl (fun _ => 0))))) : V cells slots 121 lv (.int n :: rest) G := c_newa_bool C (fun w h => List.mem_cons_of_mem _ h) hn hN hb hcs (WS_at 854 (by decide +kernel) rfl) DX8_init_1.2.2.2.2.2.2.2.2.2.2.2.2.2.2.2.2.2.2.2.2.1 k
theorem aX8_init_129 {V : pV} {l : Launch} {cells slots : Nat} {lv : pL} {rest : List Value} {G : pH} {n : Int32} {N : Nat} (C : e_CX8_init V l) (hn : ¬ n < 0) (hN : n.toNatClampNeg = N) (hb : N * componentBytes .boolean ≤ 536870912) (hcs : cells + 1 ≤ rmX8_init.cells ∧ slots + N ≤ rmX8_init.slots) (k : ∀ a, G a = none → V (cells + 1) (slots + N) 131 lv (.ref a :: rest) (e_up G a (.inl (2, N, .inl (fun _ => 0))))) : V cells slots 129 lv (.int n :: rest) G := c_newa_bool C (fun w h => List.mem_cons_of_mem _ h) hn hN hb hcs (WS_at 854 (by decide +kernel) rfl) DX8_init_1.2.2.2.2.2.2.2.2.2.2.2.2.2.2.2.2.2.2.2.2.2.2.2.2.1 k
theorem aX8_init_138 {V : pV} {l : Launch} {cells slots : Nat} {lv : pL} {rest : List Value} {G : pH} {n : Int32} {N : Nat} (C : e_CX8_init V l) (hn : ¬ n < 0) (hN : n.toNatClampNeg = N) (hb : N * componentBytes .int ≤ 536870912) (hcs : cells + 1 ≤ rmX8_init.cells ∧ slots + N ≤ rmX8_init.slots) (k : ∀ a, G a = none → V (cells + 1) (slots + N) 140 lv (.ref a :: rest) (e_up G a (.inl (0, N, .inl (fun _ => 0))))) : V cells slots 138 lv (.int n :: rest) G := c_newa_int C (fun w h => List.mem_cons_of_mem _ h) hn hN hb hcs (WS_at 70 (by decide +kernel) rfl) DX8_init_1.2.2.2.2.2.2.2.2.2.2.2.2.2.2.2.2.2.2.2.2.2.2.2.2.2.2.2.2.1 k
theorem aX8_init_156 {V : pV} {l : Launch} {cells slots : Nat} {lv : pL} {rest : List Value} {G : pH} {n : Int32} {N : Nat} (C : e_CX8_init V l) (hn : ¬ n < 0) (hN : n.toNatClampNeg = N) (hb : N * componentBytes .int ≤ 536870912) (hcs : cells + 1 ≤ rmX8_init.cells ∧ slots + N ≤ rmX8_init.slots) (k : ∀ a, G a = none → V (cells + 1) (slots + N) 158 lv (.ref a :: rest) (e_up G a (.inl (0, N, .inl (fun _ => 0))))) : V cells slots 156 lv (.int n :: rest) G := c_newa_int C (fun w h => List.mem_cons_of_mem _ h) hn hN hb hcs (WS_at 70 (by decide +kernel) rfl) DX8_init_1.2.2.2.2.2.2.2.2.2.2.2.2.2.2.2.2.2.2.2.2.2.2.2.2.2.2.2.2.2.2.2.2.2.2.2.2.2.2.1 k
theorem aX8_init_165 {V : pV} {l : Launch} {cells slots : Nat} {lv : pL} {rest : List Value} {G : pH} {n : Int32} {N : Nat} (C : e_CX8_init V l) (hn : ¬ n < 0) (hN : n.toNatClampNeg = N) (hb : N * componentBytes .int ≤ 536870912) (hcs : cells + 1 ≤ rmX8_init.cells ∧ slots + N ≤ rmX8_init.slots) (k : ∀ a, G a = none → V (cells + 1) (slots + N) 167 lv (.ref a :: rest) (e_up G a (.inl (0, N, .inl (fun _ => 0))))) : V cells slots 165 lv (.int n :: rest) G := c_newa_int C (fun w h => List.mem_cons_of_mem _ h) hn hN hb hcs (WS_at 70 (by decide +kernel) rfl) DX8_init_2.2.2.1 k
theorem aX8_init_173 {V : pV} {l : Launch} {cells slots : Nat} {lv : pL} {rest : List Value} {G : pH} {n : Int32} {N : Nat} (C : e_CX8_init V l) (hn : ¬ n < 0) (hN : n.toNatClampNeg = N) (hb : N * componentBytes .int ≤ 536870912) (hcs : cells + 1 ≤ rmX8_init.cells ∧ slots + N ≤ rmX8_init.slots) (k : ∀ a, G a = none → V (cells + 1) (slots + N) 175 lv (.ref a :: rest) (e_up G a (.inl (0, N, .inl (fun _ => 0))))) : V cells slots 173 lv (.int n :: rest) G := c_newa_int C (fun w h => List.mem_cons_of_mem _ h) hn hN hb hcs (WS_at 70 (by decide +kernel) rfl) DX8_init_2.2.2.2.2.2.2.1 k
theorem aX8_init_182 {V : pV} {l : Launch} {cells slots : Nat} {lv : pL} {rest : List Value} {G : pH} {n : Int32} {N : Nat} (C : e_CX8_init V l) (hn : ¬ n < 0) (hN : n.toNatClampNeg = N) (hb : N * componentBytes .int ≤ 536870912) (hcs : cells + 1 ≤ rmX8_init.cells ∧ slots + N ≤ rmX8_init.slots) (k : ∀ a, G a = none → V (cells + 1) (slots + N) 184 lv (.ref a :: rest) (e_up G a (.inl (0, N, .inl (fun _ => 0))))) : V cells slots 182 lv (.int n :: rest) G := c_newa_int C (fun w h => List.mem_cons_of_mem _ h) hn hN hb hcs (WS_at 70 (by decide +kernel) rfl) DX8_init_2.2.2.2.2.2.2.2.2.2.2.1 k
theorem aX8_init_191 {V : pV} {l : Launch} {cells slots : Nat} {lv : pL} {rest : List Value} {G : pH} {n : Int32} {N : Nat} (C : e_CX8_init V l) (hn : ¬ n < 0) (hN : n.toNatClampNeg = N) (hb : N * componentBytes .int ≤ 536870912) (hcs : cells + 1 ≤ rmX8_init.cells ∧ slots + N ≤ rmX8_init.slots) (k : ∀ a, G a = none → V (cells + 1) (slots + N) 193 lv (.ref a :: rest) (e_up G a (.inl (0, N, .inl (fun _ => 0))))) : V cells slots 191 lv (.int n :: rest) G := c_newa_int C (fun w h => List.mem_cons_of_mem _ h) hn hN hb hcs (WS_at 70 (by decide +kernel) rfl) DX8_init_2.2.2.2.2.2.2.2.2.2.2.2.2.2.2.1 k
theorem nL_law_0 {V : pV} {l : Launch} {cells slots : Nat} {lv : pL} {rest : List Value} {G : pH} (C : e_CL_law V l) (hcs : cells + 1 ≤ room_1.cells ∧ slots + 9 ≤ room_1.slots) (k : ∀ a, G a = none → V (cells + 1) (slots + 9) 3 lv (.ref a :: rest) (e_up G a (.inr (9, dfX7)))) : V cells slots 0 lv rest G := c_new C (fun w h => h) (idx := 8) (fs := dfX7) tyX7 (show vwCl[9]? = some (RX7, TX7, 9) from rfl) inX7 tyX7_ok (WS_at 45 (by decide +kernel) rfl) (WS_at 46 (by decide +kernel) rfl) (WS_at 28 (by decide +kernel) rfl) dfX7_ok hcs DL_law_0.1 k
theorem nL_law_8 {V : pV} {l : Launch} {cells slots : Nat} {lv : pL} {rest : List Value} {G : pH} (C : e_CL_law V l) (hcs : cells + 1 ≤ room_1.cells ∧ slots + 42 ≤ room_1.slots) (k : ∀ a, G a = none → V (cells + 1) (slots + 42) 11 lv (.ref a :: rest) (e_up G a (.inr (10, dfX8)))) : V cells slots 8 lv rest G := c_new C (fun w h => h) (idx := 20) (fs := dfX8) tyX8 (show vwCl[10]? = some (RX8, TX8, 42) from rfl) inX8 tyX8_ok (WS_at 721 (by decide +kernel) rfl) (WS_at 722 (by decide +kernel) rfl) (WS_at 36 (by decide +kernel) rfl) dfX8_ok hcs DL_law_0.2.2.2.2.1 k
theorem aL_law_17 {V : pV} {l : Launch} {cells slots : Nat} {lv : pL} {rest : List Value} {G : pH} {n : Int32} {N : Nat} (C : e_CL_law V l) (hn : ¬ n < 0) (hN : n.toNatClampNeg = N) (hb : N * componentBytes .long ≤ 536870912) (hcs : cells + 1 ≤ room_1.cells ∧ slots + N ≤ room_1.slots) (k : ∀ a, G a = none → V (cells + 1) (slots + N) 19 lv (.ref a :: rest) (e_up G a (.inl (1, N, .inr (.inl (fun _ => 0)))))) : V cells slots 17 lv (.int n :: rest) G := c_newa_long C (fun w h => h) hn hN hb hcs (WS_at 204 (by decide +kernel) rfl) DL_law_0.2.2.2.2.2.2.2.2.2.1 k
/-- an array of facts -/
theorem c_anew {V : pV} {l : Launch} {own : String} {cc : ByteArray} {nL : Nat} {ws : List Cond} {R : Room} {ini : Bool} {cells slots pc : Nat} {lv : pL} {rest : List Value} {G : pH} (C : e_C V l own cc nL ws R ini) (hws : ∀ w ∈ WS, w ∈ ws) {idx : Nat} {n : Int32} {N : Nat} (hn : ¬ n < 0) (hNn : n.toNatClampNeg = N) (hbytes : N * 4 ≤ 536870912) (hcs : cells + 1 ≤ R.cells ∧ slots + N ≤ R.slots) (hlk : Cond.classLink own idx "FactLog$Fact" ∈ WS) (hov : Cond.arrayOver (.object "FactLog$Fact") ∈ WS) (hd : decode cc pc = .ok (.anewarray idx, 3)) (k : ∀ a, G a = none → V (cells + 1) (slots + N) (pc + 3) lv (.ref a :: rest) (e_up G a (.inl (3, N, .inr (.inr (.inr (.inr (fun _ => none)))))))) : V cells slots pc lv (.int n :: rest) G := by
  obtain ⟨p, e, s, m, args, below, meth, c, D, cs, base, Q, rfl, ⟨hx, hb, hml, hown, hts⟩, ⟨hK, hN⟩, hbs, hin⟩ := C
  intro H locs ls hH hS hl
  have hw : ∀ w ∈ WS, w.before args s = true := fun w h => hts w (hws w h)
  subst hNn
  refine W.anew hx hb hown (hw _ hlk) (hw _ hov) rfl hd rfl hn hbytes hcs.1 hcs.2 fun cA kA comp f1 f2 f3 f4 => ?_
  generalize hH1 : H.push ({ cls := cA, slots := Array.replicate n.toNatClampNeg .null, vm := .none } : Cell) = H1
  have z1 : H1.size = H.size + 1 := by rw [← hH1, Array.size_push]
  have e1 : H1[H.size]? = some (arrV cA n.toNatClampNeg (fun _ => .null)) := by rw [← hH1, Array.getElem?_push_size, ← arrV_new]
  have o1 : ∀ q : Nat, q < H.size → H1[q]? = H[q]? := fun q hq => by rw [← hH1, Array.getElem?_push, if_neg (Nat.ne_of_lt hq)]
  have hcA : cs 3 = cA := by
    obtain ⟨kA9, comp9, h1, h2, h3, h4⟩ := (hK.2 3 _ rfl).2
    exact Option.some.inj (h4.symm.trans f1)
  obtain ⟨g1, g2⟩ := hH.add (x := .inl (3, n.toNatClampNeg, .inr (.inr (.inr (.inr (fun _ => none)))))) (Nat.le_trans hbs hS.1) (by show H1[H.size]? = some (vp_cell (cs 3) _); rw [hcA, vp_cell_q]; exact e1) o1
  exact k H.size g1 H1 locs ls g2 ⟨Nat.le_trans hS.1 (by omega), fun x h1 h2 => (o1 x (Nat.lt_of_lt_of_le h1 hS.1)).trans (hS.2.1 x h1 h2), hS.2.2⟩ hl
theorem r_aast {V : pV} {l : Launch} {own : String} {cc : ByteArray} {nL : Nat} {ws : List Cond} {R : Room} {ini : Bool} {cells slots pc : Nat} {lv : pL} {rest : List Value} {G : pH} (C : e_C V l own cc nL ws R ini) {a n v : Nat} {f : Nat → Option Nat} {vs : List Value} {i : Int32} (hg : G a = some (.inl (3, n, .inr (.inr (.inr (.inr f)))))) (hv : G v = some (.inr (4, vs))) (hi : vp_in i n) (hd : decode cc pc = .ok (.aastore, 1)) (h : V cells slots (pc + 1) lv rest (e_up G a (.inl (3, n, .inr (.inr (.inr (.inr (va_up f i.toNatClampNeg (some v))))))))) : V cells slots pc lv (.ref v :: .int i :: .ref a :: rest) G := by
  obtain ⟨p, e, s, m, args, below, meth, c, D, cs, base, Q, rfl, ⟨hx, hb, hml, hown, hts⟩, ⟨hK, hN⟩, hbs, hin⟩ := C
  intro H locs ls hH hS hl
  have hlt : i.toNatClampNeg < n := Nat.not_le.mp fun q => hi (Or.inr q)
  have h0 : ¬ i < 0 := fun q => hi (Or.inl q)
  obtain ⟨hbA, hat⟩ := hH a _ hg
  obtain ⟨-, r', hr', cellV, g1, g2, g3, -⟩ := hH v _ hv
  have hcls := (hK.1 4 _ (show vwCl[4]? = some (RX2, TX2, 10) from rfl)).2
  obtain ⟨kA, comp, k1, k2, k3, -⟩ := (hK.2 3 _ rfl).2
  have hcomp : comp = D.1 4 := Option.some.inj (k3.symm.trans hcls.1)
  subst hcomp
  obtain ⟨kC, hkC, -⟩ := hcls.2
  refine W.aast hx hb hat (fun q h => by cases h) (fun h => by cases h) k1 k2 rfl hkC ⟨h0, by show _ < (arrV _ _ _).slots.size; rw [arrV_size]; exact hlt⟩ g1 (fun q h => by rw [g3] at h; cases h) (by rw [g2]; exact hkC) (by rw [g2]; exact va_assign hcls) rfl rfl hd fun H1 e z oq => ?_
  refine h H1 _ ls (hH.set hbA ?_ oq) (hS.put z oq hbA) hl
  show H1[a]? = some (vp_cell (cs 3) _)
  rw [e]
  show some ((vp_cell (cs 3) (n, .inr (.inr (.inr (.inr f))))).setSlot _ _) = _
  rw [vp_cell_q, vp_cell_q, arrV_store]
  congr 2
  funext q
  by_cases hq : q = i.toNatClampNeg
  · subst hq
    simp [updV, va_up, va_rf]
  · simp [updV, va_up, hq]
