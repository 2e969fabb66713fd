/-! STATES BY ROLES: an address for each role and number, apart; S.1 k i j, S.2.1 k i j, S.2.2 k i j: the ints, longs, references (as roles) of the cell of role k, number i, at its field or place j -/
abbrev pA : Type := { A : Nat → Nat → Nat // ∀ k i k' i' : Nat, A k i = A k' i' → k = k' ∧ i = i' }
def ad (A : pA) (k i : Nat) : Nat := A.1 k i
theorem ad_q (A : pA) (k i k' i' : Nat) : (ad A k i = ad A k' i') = (k = k' ∧ i = i') := propext ⟨A.2 k i k' i', fun h => by rw [h.1, h.2]⟩
abbrev pS : Type := (Nat → Nat → Nat → Int32) × (Nat → Nat → Nat → Int64) × (Nat → Nat → Nat → Nat × Nat)
def uI (S : pS) (k i j : Nat) (v : Int32) : pS := (fun k' i' j' => if k' = k ∧ i' = i ∧ j' = j then v else S.1 k' i' j', S.2)
def uJ (S : pS) (k i j : Nat) (v : Int64) : pS := (S.1, fun k' i' j' => if k' = k ∧ i' = i ∧ j' = j then v else S.2.1 k' i' j', S.2.2)
def uQ (S : pS) (k i j : Nat) (v : Nat × Nat) : pS := (S.1, S.2.1, fun k' i' j' => if k' = k ∧ i' = i ∧ j' = j then v else S.2.2 k' i' j')
theorem u_1 : (∀ (S : pS) (k i j : Nat) (v : Int32) (k' i' j' : Nat), (uI S k i j v).1 k' i' j' = if k' = k ∧ i' = i ∧ j' = j then v else S.1 k' i' j') ∧ (∀ (S : pS) (k i j : Nat) (v : Int32), (uI S k i j v).2 = S.2) ∧ (∀ (S : pS) (k i j : Nat) (v : Int64), (uJ S k i j v).1 = S.1) ∧ (∀ (S : pS) (k i j : Nat) (v : Int64) (k' i' j' : Nat), (uJ S k i j v).2.1 k' i' j' = if k' = k ∧ i' = i ∧ j' = j then v else S.2.1 k' i' j') ∧ (∀ (S : pS) (k i j : Nat) (v : Int64), (uJ S k i j v).2.2 = S.2.2) ∧ (∀ (S : pS) (k i j : Nat) (v : Nat × Nat), (uQ S k i j v).1 = S.1) ∧ (∀ (S : pS) (k i j : Nat) (v : Nat × Nat), (uQ S k i j v).2.1 = S.2.1) ∧ (∀ (S : pS) (k i j : Nat) (v : Nat × Nat) (k' i' j' : Nat), (uQ S k i j v).2.2 k' i' j' = if k' = k ∧ i' = i ∧ j' = j then v else S.2.2 k' i' j') := ⟨fun _ _ _ _ _ _ _ _ => rfl, fun _ _ _ _ _ => rfl, fun _ _ _ _ _ => rfl, fun _ _ _ _ _ _ _ _ => rfl, fun _ _ _ _ _ => rfl, fun _ _ _ _ _ => rfl, fun _ _ _ _ _ => rfl, fun _ _ _ _ _ _ _ _ => rfl⟩
def dn (k : Nat) : Nat := match k with
  | 0 => 1
  | 1 => 1
  | 2 => 1
  | 3 => 1
  | 4 => 1
  | 5 => 1
  | 6 => 62
  | 7 => 62
  | 8 => 62
  | 9 => 62
  | 10 => 62
  | 11 => 1
  | 12 => 1
  | 13 => 1
  | 14 => 1
  | 15 => 1
  | 16 => 1
  | 17 => 1
  | 18 => 1
  | 19 => 1
  | 20 => 2
  | 21 => 2
  | 22 => 1
  | 23 => 1
  | 30 => 1
  | 32 => 1
  | 33 => 1
  | 35 => 1
  | 36 => 1
  | 37 => 1
  | 38 => 1
  | 39 => 1
  | 40 => 1
  | 41 => 1
  | 42 => 1
  | 43 => 1
  | 44 => 1
  | 46 => 1
  | 48 => 1
  | 50 => 1
  | 51 => 1
  | 52 => 1
  | 58 => 1
  | 60 => 1
  | 62 => 1
  | 68 => 1
  | 71 => 1
  | 80 => 1
  | _ => 0
theorem dn_q : dn 0 = 1 ∧ dn 1 = 1 ∧ dn 2 = 1 ∧ dn 3 = 1 ∧ dn 4 = 1 ∧ dn 5 = 1 ∧ dn 6 = 62 ∧ dn 7 = 62 ∧ dn 8 = 62 ∧ dn 9 = 62 ∧ dn 10 = 62 ∧ dn 11 = 1 ∧ dn 12 = 1 ∧ dn 13 = 1 ∧ dn 14 = 1 ∧ dn 15 = 1 ∧ dn 16 = 1 ∧ dn 17 = 1 ∧ dn 18 = 1 ∧ dn 19 = 1 ∧ dn 20 = 2 ∧ dn 21 = 2 ∧ dn 22 = 1 ∧ dn 23 = 1 ∧ dn 30 = 1 ∧ dn 32 = 1 ∧ dn 33 = 1 ∧ dn 35 = 1 ∧ dn 36 = 1 ∧ dn 37 = 1 ∧ dn 38 = 1 ∧ dn 39 = 1 ∧ dn 40 = 1 ∧ dn 41 = 1 ∧ dn 42 = 1 ∧ dn 43 = 1 ∧ dn 44 = 1 ∧ dn 46 = 1 ∧ dn 48 = 1 ∧ dn 50 = 1 ∧ dn 51 = 1 ∧ dn 52 = 1 ∧ dn 58 = 1 ∧ dn 60 = 1 ∧ dn 62 = 1 ∧ dn 68 = 1 ∧ dn 71 = 1 ∧ dn 80 = 1 := ⟨rfl, rfl, rfl, rfl, rfl, rfl, rfl, rfl, rfl, rfl, rfl, rfl, rfl, rfl, rfl, rfl, rfl, rfl, rfl, rfl, rfl, rfl, rfl, rfl, rfl, rfl, rfl, rfl, rfl, rfl, rfl, rfl, rfl, rfl, rfl, rfl, rfl, rfl, rfl, rfl, rfl, rfl, rfl, rfl, rfl, rfl, rfl, rfl⟩
def kd (k : Nat) : Nat := match k with
  | 0 => 1
  | 1 => 1
  | 2 => 2
  | 3 => 2
  | 4 => 1
  | 5 => 5
  | 6 => 1
  | 7 => 2
  | 8 => 2
  | 9 => 2
  | 10 => 2
  | 11 => 1
  | 12 => 2
  | 13 => 2
  | 14 => 2
  | 15 => 2
  | 16 => 3
  | 17 => 1
  | 18 => 1
  | 19 => 2
  | 20 => 1
  | 21 => 2
  | 22 => 2
  | 23 => 2
  | 30 => 1
  | 32 => 2
  | 33 => 2
  | 35 => 2
  | 36 => 3
  | 37 => 2
  | 38 => 2
  | 39 => 2
  | 40 => 2
  | 41 => 2
  | 42 => 2
  | 43 => 4
  | 44 => 4
  | 46 => 2
  | 48 => 2
  | 50 => 4
  | 51 => 4
  | 52 => 2
  | 58 => 2
  | 60 => 2
  | 62 => 2
  | 68 => 2
  | 71 => 2
  | 80 => 3
  | _ => 0
theorem kd_q : kd 0 = 1 ∧ kd 1 = 1 ∧ kd 2 = 2 ∧ kd 3 = 2 ∧ kd 4 = 1 ∧ kd 5 = 5 ∧ kd 6 = 1 ∧ kd 7 = 2 ∧ kd 8 = 2 ∧ kd 9 = 2 ∧ kd 10 = 2 ∧ kd 11 = 1 ∧ kd 12 = 2 ∧ kd 13 = 2 ∧ kd 14 = 2 ∧ kd 15 = 2 ∧ kd 16 = 3 ∧ kd 17 = 1 ∧ kd 18 = 1 ∧ kd 19 = 2 ∧ kd 20 = 1 ∧ kd 21 = 2 ∧ kd 22 = 2 ∧ kd 23 = 2 ∧ kd 30 = 1 ∧ kd 32 = 2 ∧ kd 33 = 2 ∧ kd 35 = 2 ∧ kd 36 = 3 ∧ kd 37 = 2 ∧ kd 38 = 2 ∧ kd 39 = 2 ∧ kd 40 = 2 ∧ kd 41 = 2 ∧ kd 42 = 2 ∧ kd 43 = 4 ∧ kd 44 = 4 ∧ kd 46 = 2 ∧ kd 48 = 2 ∧ kd 50 = 4 ∧ kd 51 = 4 ∧ kd 52 = 2 ∧ kd 58 = 2 ∧ kd 60 = 2 ∧ kd 62 = 2 ∧ kd 68 = 2 ∧ kd 71 = 2 ∧ kd 80 = 3 := ⟨rfl, rfl, rfl, rfl, rfl, rfl, rfl, rfl, rfl, rfl, rfl, rfl, rfl, rfl, rfl, rfl, rfl, rfl, rfl, rfl, rfl, rfl, rfl, rfl, rfl, rfl, rfl, rfl, rfl, rfl, rfl, rfl, rfl, rfl, rfl, rfl, rfl, rfl, rfl, rfl, rfl, rfl, rfl, rfl, rfl, rfl, rfl, rfl⟩
def cl (k : Nat) : Nat := match k with
  | 0 => 9
  | 1 => 7
  | 4 => 2
  | 6 => 4
  | 11 => 3
  | 17 => 6
  | 18 => 8
  | 20 => 5
  | 30 => 10
  | _ => 99
theorem cl_q : cl 0 = 9 ∧ cl 1 = 7 ∧ cl 4 = 2 ∧ cl 6 = 4 ∧ cl 11 = 3 ∧ cl 17 = 6 ∧ cl 18 = 8 ∧ cl 20 = 5 ∧ cl 30 = 10 := ⟨rfl, rfl, rfl, rfl, rfl, rfl, rfl, rfl, rfl⟩
def nf (k : Nat) : Nat := match k with
  | 0 => 9
  | 1 => 2
  | 4 => 3
  | 6 => 10
  | 11 => 11
  | 17 => 5
  | 18 => 5
  | 20 => 3
  | 30 => 42
  | _ => 0
theorem nf_q : nf 0 = 9 ∧ nf 1 = 2 ∧ nf 4 = 3 ∧ nf 6 = 10 ∧ nf 11 = 11 ∧ nf 17 = 5 ∧ nf 18 = 5 ∧ nf 20 = 3 ∧ nf 30 = 42 := ⟨rfl, rfl, rfl, rfl, rfl, rfl, rfl, rfl, rfl⟩
def ln (k : Nat) : Nat := match k with
  | 2 => 16
  | 3 => 16
  | 5 => 60
  | 7 => 4
  | 8 => 4
  | 9 => 4
  | 10 => 3
  | 12 => 3532
  | 13 => 2
  | 14 => 60
  | 15 => 61
  | 16 => 61
  | 19 => 60
  | 21 => 4000
  | 22 => 0
  | 23 => 0
  | 32 => 16
  | 33 => 16
  | 35 => 60
  | 36 => 60
  | 37 => 60
  | 38 => 240
  | 39 => 240
  | 40 => 240
  | 41 => 60
  | 42 => 180
  | 43 => 60
  | 44 => 60
  | 46 => 4
  | 48 => 3
  | 50 => 60
  | 51 => 60
  | 52 => 3532
  | 58 => 2
  | 60 => 4000
  | 62 => 60
  | 68 => 4000
  | 71 => 4000
  | 80 => 1
  | _ => 0
theorem ln_q : ln 2 = 16 ∧ ln 3 = 16 ∧ ln 5 = 60 ∧ ln 7 = 4 ∧ ln 8 = 4 ∧ ln 9 = 4 ∧ ln 10 = 3 ∧ ln 12 = 3532 ∧ ln 13 = 2 ∧ ln 14 = 60 ∧ ln 15 = 61 ∧ ln 16 = 61 ∧ ln 19 = 60 ∧ ln 21 = 4000 ∧ ln 22 = 0 ∧ ln 23 = 0 ∧ ln 32 = 16 ∧ ln 33 = 16 ∧ ln 35 = 60 ∧ ln 36 = 60 ∧ ln 37 = 60 ∧ ln 38 = 240 ∧ ln 39 = 240 ∧ ln 40 = 240 ∧ ln 41 = 60 ∧ ln 42 = 180 ∧ ln 43 = 60 ∧ ln 44 = 60 ∧ ln 46 = 4 ∧ ln 48 = 3 ∧ ln 50 = 60 ∧ ln 51 = 60 ∧ ln 52 = 3532 ∧ ln 58 = 2 ∧ ln 60 = 4000 ∧ ln 62 = 60 ∧ ln 68 = 4000 ∧ ln 71 = 4000 ∧ ln 80 = 1 := ⟨rfl, rfl, rfl, rfl, rfl, rfl, rfl, rfl, rfl, rfl, rfl, rfl, rfl, rfl, rfl, rfl, rfl, rfl, rfl, rfl, rfl, rfl, rfl, rfl, rfl, rfl, rfl, rfl, rfl, rfl, rfl, rfl, rfl, rfl, rfl, rfl, rfl, rfl, rfl⟩
def tg (k f : Nat) : Nat := match k, f with
  | 0, 0 => 2
  | 0, 1 => 2
  | 0, 2 => 2
  | 0, 3 => 2
  | 0, 4 => 2
  | 0, 5 => 2
  | 0, 6 => 2
  | 0, 7 => 2
  | 0, 8 => 2
  | 1, 0 => 2
  | 1, 1 => 2
  | 4, 0 => 2
  | 4, 2 => 2
  | 6, 1 => 1
  | 6, 5 => 2
  | 6, 6 => 2
  | 6, 7 => 2
  | 6, 9 => 2
  | 11, 0 => 2
  | 11, 6 => 2
  | 11, 7 => 1
  | 11, 8 => 2
  | 11, 9 => 2
  | 11, 10 => 2
  | 17, 2 => 1
  | 17, 4 => 2
  | 18, 3 => 1
  | 18, 4 => 2
  | 20, 2 => 2
  | 30, 1 => 2
  | 30, 2 => 2
  | 30, 4 => 2
  | 30, 5 => 2
  | 30, 6 => 2
  | 30, 7 => 2
  | 30, 8 => 2
  | 30, 9 => 2
  | 30, 10 => 2
  | 30, 11 => 2
  | 30, 12 => 2
  | 30, 13 => 2
  | 30, 15 => 2
  | 30, 17 => 2
  | 30, 19 => 2
  | 30, 20 => 2
  | 30, 21 => 2
  | 30, 25 => 1
  | 30, 27 => 2
  | 30, 29 => 2
  | 30, 31 => 2
  | 30, 34 => 1
  | 30, 37 => 2
  | 30, 40 => 2
  | _, _ => 0
theorem tg_q : tg 0 0 = 2 ∧ tg 0 1 = 2 ∧ tg 0 2 = 2 ∧ tg 0 3 = 2 ∧ tg 0 4 = 2 ∧ tg 0 5 = 2 ∧ tg 0 6 = 2 ∧ tg 0 7 = 2 ∧ tg 0 8 = 2 ∧ tg 1 0 = 2 ∧ tg 1 1 = 2 ∧ tg 4 0 = 2 ∧ tg 4 1 = 0 ∧ tg 4 2 = 2 ∧ tg 6 0 = 0 ∧ tg 6 1 = 1 ∧ tg 6 2 = 0 ∧ tg 6 3 = 0 ∧ tg 6 4 = 0 ∧ tg 6 5 = 2 ∧ tg 6 6 = 2 ∧ tg 6 7 = 2 ∧ tg 6 8 = 0 ∧ tg 6 9 = 2 ∧ tg 11 0 = 2 ∧ tg 11 1 = 0 ∧ tg 11 2 = 0 ∧ tg 11 3 = 0 ∧ tg 11 4 = 0 ∧ tg 11 5 = 0 ∧ tg 11 6 = 2 ∧ tg 11 7 = 1 ∧ tg 11 8 = 2 ∧ tg 11 9 = 2 ∧ tg 11 10 = 2 ∧ tg 17 0 = 0 ∧ tg 17 1 = 0 ∧ tg 17 2 = 1 ∧ tg 17 3 = 0 ∧ tg 17 4 = 2 ∧ tg 18 0 = 0 ∧ tg 18 1 = 0 ∧ tg 18 2 = 0 ∧ tg 18 3 = 1 ∧ tg 18 4 = 2 ∧ tg 20 0 = 0 ∧ tg 20 1 = 0 ∧ tg 20 2 = 2 ∧ tg 30 0 = 0 ∧ tg 30 1 = 2 ∧ tg 30 2 = 2 ∧ tg 30 3 = 0 ∧ tg 30 4 = 2 ∧ tg 30 5 = 2 ∧ tg 30 6 = 2 ∧ tg 30 7 = 2 ∧ tg 30 8 = 2 ∧ tg 30 9 = 2 ∧ tg 30 10 = 2 ∧ tg 30 11 = 2 ∧ tg 30 12 = 2 ∧ tg 30 13 = 2 ∧ tg 30 14 = 0 ∧ tg 30 15 = 2 ∧ tg 30 16 = 0 ∧ tg 30 17 = 2 ∧ tg 30 18 = 0 ∧ tg 30 19 = 2 ∧ tg 30 20 = 2 ∧ tg 30 21 = 2 ∧ tg 30 22 = 0 ∧ tg 30 23 = 0 ∧ tg 30 24 = 0 ∧ tg 30 25 = 1 ∧ tg 30 26 = 0 ∧ tg 30 27 = 2 ∧ tg 30 28 = 0 ∧ tg 30 29 = 2 ∧ tg 30 30 = 0 ∧ tg 30 31 = 2 ∧ tg 30 32 = 0 ∧ tg 30 33 = 0 ∧ tg 30 34 = 1 ∧ tg 30 35 = 0 ∧ tg 30 36 = 0 ∧ tg 30 37 = 2 ∧ tg 30 38 = 0 ∧ tg 30 39 = 0 ∧ tg 30 40 = 2 ∧ tg 30 41 = 0 := ⟨rfl, rfl, rfl, rfl, rfl, rfl, rfl, rfl, rfl, rfl, rfl, rfl, rfl, rfl, rfl, rfl, rfl, rfl, rfl, rfl, rfl, rfl, rfl, rfl, rfl, rfl, rfl, rfl, rfl, rfl, rfl, rfl, rfl, rfl, rfl, rfl, rfl, rfl, rfl, rfl, rfl, rfl, rfl, rfl, rfl, rfl, rfl, rfl, rfl, rfl, rfl, rfl, rfl, rfl, rfl, rfl, rfl, rfl, rfl, rfl, rfl, rfl, rfl, rfl, rfl, rfl, rfl, rfl, rfl, rfl, rfl, rfl, rfl, rfl, rfl, rfl, rfl, rfl, rfl, rfl, rfl, rfl, rfl, rfl, rfl, rfl, rfl, rfl, rfl, rfl⟩
def cr (k i f : Nat) : Option (Nat × Nat) := match k, f with
  | 0, 0 => some (1, 0)
  | 0, 1 => some (4, 0)
  | 0, 2 => some (6, 61)
  | 0, 3 => some (11, 0)
  | 0, 4 => some (17, 0)
  | 0, 5 => some (18, 0)
  | 0, 6 => some (19, 0)
  | 1, 0 => some (2, 0)
  | 1, 1 => some (3, 0)
  | 4, 0 => some (5, 0)
  | 4, 2 => some (6, 60)
  | 6, 5 => some (7, i)
  | 6, 6 => some (8, i)
  | 6, 7 => some (9, i)
  | 6, 9 => some (10, i)
  | 11, 0 => some (12, 0)
  | 11, 6 => some (13, 0)
  | 11, 8 => some (14, 0)
  | 11, 9 => some (15, 0)
  | 11, 10 => some (16, 0)
  | 20, 2 => some (21, i)
  | 30, 1 => some (32, 0)
  | 30, 2 => some (33, 0)
  | 30, 4 => some (35, 0)
  | 30, 5 => some (36, 0)
  | 30, 6 => some (37, 0)
  | 30, 7 => some (38, 0)
  | 30, 8 => some (39, 0)
  | 30, 9 => some (40, 0)
  | 30, 10 => some (41, 0)
  | 30, 11 => some (42, 0)
  | 30, 12 => some (43, 0)
  | 30, 13 => some (44, 0)
  | 30, 15 => some (46, 0)
  | 30, 17 => some (48, 0)
  | 30, 19 => some (50, 0)
  | 30, 20 => some (51, 0)
  | 30, 21 => some (52, 0)
  | 30, 27 => some (58, 0)
  | 30, 29 => some (60, 0)
  | 30, 31 => some (62, 0)
  | 30, 37 => some (68, 0)
  | 30, 40 => some (71, 0)
  | _, _ => none
def rr (S : pS) (k i f : Nat) : Nat × Nat := (cr k i f).getD (S.2.2 k i f)
theorem rr_q : (∀ (S : pS) (i : Nat), rr S 0 i 0 = (1, 0)) ∧ (∀ (S : pS) (i : Nat), rr S 0 i 1 = (4, 0)) ∧ (∀ (S : pS) (i : Nat), rr S 0 i 2 = (6, 61)) ∧ (∀ (S : pS) (i : Nat), rr S 0 i 3 = (11, 0)) ∧ (∀ (S : pS) (i : Nat), rr S 0 i 4 = (17, 0)) ∧ (∀ (S : pS) (i : Nat), rr S 0 i 5 = (18, 0)) ∧ (∀ (S : pS) (i : Nat), rr S 0 i 6 = (19, 0)) ∧ (∀ (S : pS) (i : Nat), rr S 0 i 7 = S.2.2 0 i 7) ∧ (∀ (S : pS) (i : Nat), rr S 0 i 8 = S.2.2 0 i 8) ∧ (∀ (S : pS) (i : Nat), rr S 1 i 0 = (2, 0)) ∧ (∀ (S : pS) (i : Nat), rr S 1 i 1 = (3, 0)) ∧ (∀ (S : pS) (i : Nat), rr S 4 i 0 = (5, 0)) ∧ (∀ (S : pS) (i : Nat), rr S 4 i 2 = (6, 60)) ∧ (∀ (S : pS) (i : Nat), rr S 6 i 5 = (7, i)) ∧ (∀ (S : pS) (i : Nat), rr S 6 i 6 = (8, i)) ∧ (∀ (S : pS) (i : Nat), rr S 6 i 7 = (9, i)) ∧ (∀ (S : pS) (i : Nat), rr S 6 i 9 = (10, i)) ∧ (∀ (S : pS) (i : Nat), rr S 11 i 0 = (12, 0)) ∧ (∀ (S : pS) (i : Nat), rr S 11 i 6 = (13, 0)) ∧ (∀ (S : pS) (i : Nat), rr S 11 i 8 = (14, 0)) ∧ (∀ (S : pS) (i : Nat), rr S 11 i 9 = (15, 0)) ∧ (∀ (S : pS) (i : Nat), rr S 11 i 10 = (16, 0)) ∧ (∀ (S : pS) (i : Nat), rr S 17 i 4 = S.2.2 17 i 4) ∧ (∀ (S : pS) (i : Nat), rr S 18 i 4 = S.2.2 18 i 4) ∧ (∀ (S : pS) (i : Nat), rr S 20 i 2 = (21, i)) ∧ (∀ (S : pS) (i : Nat), rr S 30 i 1 = (32, 0)) ∧ (∀ (S : pS) (i : Nat), rr S 30 i 2 = (33, 0)) ∧ (∀ (S : pS) (i : Nat), rr S 30 i 4 = (35, 0)) ∧ (∀ (S : pS) (i : Nat), rr S 30 i 5 = (36, 0)) ∧ (∀ (S : pS) (i : Nat), rr S 30 i 6 = (37, 0)) ∧ (∀ (S : pS) (i : Nat), rr S 30 i 7 = (38, 0)) ∧ (∀ (S : pS) (i : Nat), rr S 30 i 8 = (39, 0)) ∧ (∀ (S : pS) (i : Nat), rr S 30 i 9 = (40, 0)) ∧ (∀ (S : pS) (i : Nat), rr S 30 i 10 = (41, 0)) ∧ (∀ (S : pS) (i : Nat), rr S 30 i 11 = (42, 0)) ∧ (∀ (S : pS) (i : Nat), rr S 30 i 12 = (43, 0)) ∧ (∀ (S : pS) (i : Nat), rr S 30 i 13 = (44, 0)) ∧ (∀ (S : pS) (i : Nat), rr S 30 i 15 = (46, 0)) ∧ (∀ (S : pS) (i : Nat), rr S 30 i 17 = (48, 0)) ∧ (∀ (S : pS) (i : Nat), rr S 30 i 19 = (50, 0)) ∧ (∀ (S : pS) (i : Nat), rr S 30 i 20 = (51, 0)) ∧ (∀ (S : pS) (i : Nat), rr S 30 i 21 = (52, 0)) ∧ (∀ (S : pS) (i : Nat), rr S 30 i 27 = (58, 0)) ∧ (∀ (S : pS) (i : Nat), rr S 30 i 29 = (60, 0)) ∧ (∀ (S : pS) (i : Nat), rr S 30 i 31 = (62, 0)) ∧ (∀ (S : pS) (i : Nat), rr S 30 i 37 = (68, 0)) ∧ (∀ (S : pS) (i : Nat), rr S 30 i 40 = (71, 0)) := ⟨fun _ _ => rfl, fun _ _ => rfl, fun _ _ => rfl, fun _ _ => rfl, fun _ _ => rfl, fun _ _ => rfl, fun _ _ => rfl, fun _ _ => rfl, fun _ _ => rfl, fun _ _ => rfl, fun _ _ => rfl, fun _ _ => rfl, fun _ _ => rfl, fun _ _ => rfl, fun _ _ => rfl, fun _ _ => rfl, fun _ _ => rfl, fun _ _ => rfl, fun _ _ => rfl, fun _ _ => rfl, fun _ _ => rfl, fun _ _ => rfl, fun _ _ => rfl, fun _ _ => rfl, fun _ _ => rfl, fun _ _ => rfl, fun _ _ => rfl, fun _ _ => rfl, fun _ _ => rfl, fun _ _ => rfl, fun _ _ => rfl, fun _ _ => rfl, fun _ _ => rfl, fun _ _ => rfl, fun _ _ => rfl, fun _ _ => rfl, fun _ _ => rfl, fun _ _ => rfl, fun _ _ => rfl, fun _ _ => rfl, fun _ _ => rfl, fun _ _ => rfl, fun _ _ => rfl, fun _ _ => rfl, fun _ _ => rfl, fun _ _ => rfl, fun _ _ => rfl⟩
def fv (A : pA) (S : pS) (k i f : Nat) : Value := if tg k f = 0 then .int (S.1 k i f) else if tg k f = 1 then .long (S.2.1 k i f) else .ref (ad A (rr S k i f).1 (rr S k i f).2)
def ce (A : pA) (S : pS) (k i : Nat) : pE := if kd k = 1 then .inr (cl k, (List.range (nf k)).map (fv A S k i)) else if kd k = 2 then .inl (0, ln k, .inl (S.1 k i)) else if kd k = 3 then .inl (1, ln k, .inr (.inl (S.2.1 k i))) else if kd k = 4 then .inl (2, ln k, .inl (S.1 k i)) else .inl (3, ln k, .inr (.inr (.inr (.inr (fun j => some (ad A 6 j))))))
noncomputable def gS (A : pA) (S : pS) : pH := fun a => @dite _ (∃ q : Nat × Nat, a = ad A q.1 q.2 ∧ q.2 < dn q.1) (Classical.propDecidable _) (fun h => some (ce A S (Classical.choose h).1 (Classical.choose h).2)) (fun _ => none)
theorem gS_at {A : pA} {S : pS} {k i : Nat} (h : i < dn k) : gS A S (ad A k i) = some (ce A S k i) := by
  unfold gS
  have hx : ∃ q : Nat × Nat, ad A k i = ad A q.1 q.2 ∧ q.2 < dn q.1 := ⟨(k, i), rfl, h⟩
  rw [dif_pos hx]
  have h1 := (Classical.choose_spec hx).1
  rw [ad_q] at h1
  rw [← h1.1, ← h1.2]
theorem gS_no {A : pA} {S : pS} {a : Nat} (h : ¬ ∃ q : Nat × Nat, a = ad A q.1 q.2 ∧ q.2 < dn q.1) : gS A S a = none := by
  unfold gS
  rw [dif_neg h]
theorem gS_up {A : pA} {S S2 : pS} {k i : Nat} {x : pE} (h : i < dn k) (hx : x = ce A S2 k i) (ho : ∀ k' i' : Nat, ¬ (k' = k ∧ i' = i) → ce A S2 k' i' = ce A S k' i') : e_up (gS A S) (ad A k i) x = gS A S2 := by
  funext b
  unfold e_up
  by_cases hb : b = ad A k i
  · rw [if_pos hb, hb, gS_at h, hx]
  · rw [if_neg hb]
    by_cases hq : ∃ q : Nat × Nat, b = ad A q.1 q.2 ∧ q.2 < dn q.1
    · obtain ⟨⟨k', i'⟩, rfl, hd⟩ := hq
      rw [gS_at hd, gS_at hd, ho]
      intro hk
      exact hb (by rw [hk.1, hk.2])
    · rw [gS_no hq, gS_no hq]
theorem ce_same {A : pA} {S S2 : pS} {k i : Nat} (h1 : S2.1 k i = S.1 k i) (h2 : S2.2.1 k i = S.2.1 k i) (h3 : S2.2.2 k i = S.2.2 k i) : ce A S2 k i = ce A S k i := by
  have hf : fv A S2 k i = fv A S k i := by
    funext f
    unfold fv rr
    rw [h1, h2, h3]
  unfold ce
  rw [hf, h1, h2]
theorem fv_set {A : pA} {S S2 : pS} {k i f : Nat} {v : Value} (hf : f < nf k) (hv : v = fv A S2 k i f) (ho : ∀ g, ¬ g = f → fv A S2 k i g = fv A S k i g) : ((List.range (nf k)).map (fv A S k i)).set f v = (List.range (nf k)).map (fv A S2 k i) := by
  apply List.ext_getElem?
  intro n
  rw [List.getElem?_set]
  by_cases hn : f = n
  · subst hn
    simp [hf, hv]
  · rw [if_neg hn]
    by_cases hl : n < nf k
    · simp [hl, ho n (fun h => hn h.symm)]
    · simp [hl]
theorem uI_same {S : pS} {k i j : Nat} {v : Int32} {k' i' : Nat} (h : ¬ (k' = k ∧ i' = i)) : (uI S k i j v).1 k' i' = S.1 k' i' := by
  funext j'
  show (if k' = k ∧ i' = i ∧ j' = j then v else S.1 k' i' j') = _
  rw [if_neg (fun z => h ⟨z.1, z.2.1⟩)]
theorem uJ_same {S : pS} {k i j : Nat} {v : Int64} {k' i' : Nat} (h : ¬ (k' = k ∧ i' = i)) : (uJ S k i j v).2.1 k' i' = S.2.1 k' i' := by
  funext j'
  show (if k' = k ∧ i' = i ∧ j' = j then v else S.2.1 k' i' j') = _
  rw [if_neg (fun z => h ⟨z.1, z.2.1⟩)]
theorem uQ_same {S : pS} {k i j : Nat} {v : Nat × Nat} {k' i' : Nat} (h : ¬ (k' = k ∧ i' = i)) : (uQ S k i j v).2.2 k' i' = S.2.2 k' i' := by
  funext j'
  show (if k' = k ∧ i' = i ∧ j' = j then v else S.2.2 k' i' j') = _
  rw [if_neg (fun z => h ⟨z.1, z.2.1⟩)]
theorem uI_row {S : pS} {k i j : Nat} {v : Int32} : (uI S k i j v).1 k i = upd (S.1 k i) j v := by
  funext j'
  show (if k = k ∧ i = i ∧ j' = j then v else S.1 k i j') = (if j' = j then v else S.1 k i j')
  by_cases h : j' = j <;> simp [h]
theorem uJ_row {S : pS} {k i j : Nat} {v : Int64} : (uJ S k i j v).2.1 k i = vp_updL (S.2.1 k i) j v := by
  funext j'
  show (if k = k ∧ i = i ∧ j' = j then v else S.2.1 k i j') = (if j' = j then v else S.2.1 k i j')
  by_cases h : j' = j <;> simp [h]
def s_rl (A : pA) (a : Nat) (k : Nat → Nat → Prop) : Prop := ∃ x y : Nat, a = ad A x y ∧ k x y
theorem s_rl_at (A : pA) (x y : Nat) (k : Nat → Nat → Prop) : s_rl A (ad A x y) k = k x y := propext ⟨fun ⟨x', y', h, hk⟩ => by
  rw [ad_q] at h
  rw [h.1, h.2]
  exact hk, fun h => ⟨x, y, rfl, h⟩⟩
/-- a field read -/
def s_gf (A : pA) (S : pS) (k i f : Nat) (ty : FieldType) (K : Value → Prop) : Prop := match ty with
  | .int => tg k f = 0 ∧ K (.int (S.1 k i f))
  | .boolean => tg k f = 0 ∧ K (.int (S.1 k i f))
  | .long => tg k f = 1 ∧ K (.long (S.2.1 k i f))
  | _ => tg k f = 2 ∧ K (.ref (ad A (rr S k i f).1 (rr S k i f).2))
/-- a field written -/
def s_pf (A : pA) (S : pS) (k i f : Nat) (v : Value) (K : pS → Prop) : Prop := match v with
  | .int x => tg k f = 0 ∧ K (uI S k i f x)
  | .long x => tg k f = 1 ∧ K (uJ S k i f x)
  | .ref a => s_rl A a (fun x y => tg k f = 2 ∧ cr k i f = none ∧ K (uQ S k i f (x, y)))
  | _ => False
theorem s_gf_inv {A : pA} {S : pS} {k i f : Nat} {ty : FieldType} {K : Value → Prop} (h : s_gf A S k i f ty K) : K (fv A S k i f) := by
  unfold s_gf at h
  split at h <;> (obtain ⟨h1, h2⟩ := h; unfold fv; rw [h1]; exact h2)
theorem s_pf_inv {A : pA} {S : pS} {k i f : Nat} {v : Value} {K : pS → Prop} (hf : f < nf k) (h : s_pf A S k i f v K) : ∃ S2 : pS, K S2 ∧ ((List.range (nf k)).map (fv A S k i)).set f v = (List.range (nf k)).map (fv A S2 k i) ∧ ∀ k' i' : Nat, ¬ (k' = k ∧ i' = i) → ce A S2 k' i' = ce A S k' i' := by
  unfold s_pf at h
  split at h
  · obtain ⟨h1, h2⟩ := h
    rename_i x
    refine ⟨uI S k i f x, h2, fv_set hf ?_ ?_, fun k' i' hk => ce_same (uI_same hk) rfl rfl⟩
    · unfold fv
      rw [if_pos h1, uI_row]
      simp [upd]
    · intro g hg
      unfold fv rr
      rw [uI_row]
      simp [upd, hg]
      rfl
  · obtain ⟨h1, h2⟩ := h
    rename_i x
    refine ⟨uJ S k i f x, h2, fv_set hf ?_ ?_, fun k' i' hk => ce_same rfl (uJ_same hk) rfl⟩
    · unfold fv
      rw [if_neg (by omega), if_pos h1, uJ_row]
      simp [vp_updL]
    · intro g hg
      unfold fv rr
      rw [uJ_row]
      simp [vp_updL, hg]
      rfl
  · obtain ⟨x, y, rfl, h1, h2, h3⟩ := h
    refine ⟨uQ S k i f (x, y), h3, fv_set hf ?_ ?_, fun k' i' hk => ce_same rfl rfl (uQ_same hk)⟩
    · unfold fv rr
      rw [if_neg (by omega), if_neg (by omega), h2]
      simp [uQ]
    · intro g hg
      unfold fv rr
      simp [uQ, hg]
  · exact h.elim
theorem s_obj {A : pA} {S : pS} {k i : Nat} (hi : i < dn k) (hk : kd k = 1) : gS A S (ad A k i) = some (.inr (cl k, (List.range (nf k)).map (fv A S k i))) := by
  rw [gS_at hi]
  unfold ce
  rw [if_pos hk]
theorem s_a2 {A : pA} {S : pS} {k i : Nat} (hi : i < dn k) (hk : kd k = 2) : gS A S (ad A k i) = some (.inl (0, ln k, .inl (S.1 k i))) := by
  rw [gS_at hi]
  simp [ce, hk]
theorem s_a3 {A : pA} {S : pS} {k i : Nat} (hi : i < dn k) (hk : kd k = 3) : gS A S (ad A k i) = some (.inl (1, ln k, .inr (.inl (S.2.1 k i)))) := by
  rw [gS_at hi]
  simp [ce, hk]
theorem s_a4 {A : pA} {S : pS} {k i : Nat} (hi : i < dn k) (hk : kd k = 4) : gS A S (ad A k i) = some (.inl (2, ln k, .inl (S.1 k i))) := by
  rw [gS_at hi]
  simp [ce, hk]
theorem s_a5 {A : pA} {S : pS} {k i : Nat} (hi : i < dn k) (hk : kd k = 5) : gS A S (ad A k i) = some (.inl (3, ln k, .inr (.inr (.inr (.inr (fun j => some (ad A 6 j))))))) := by
  rw [gS_at hi]
  simp [ce, hk]
theorem s_u2 {A : pA} {S : pS} {k i j : Nat} {v : Int32} (hi : i < dn k) (hk : kd k = 2) : e_up (gS A S) (ad A k i) (.inl (0, ln k, .inl (upd (S.1 k i) j v))) = gS A (uI S k i j v) := by
  refine gS_up hi ?_ (fun k' i' h => ce_same (uI_same h) rfl rfl)
  simp [ce, hk, uI_row]
theorem s_u3 {A : pA} {S : pS} {k i j : Nat} {v : Int64} (hi : i < dn k) (hk : kd k = 3) : e_up (gS A S) (ad A k i) (.inl (1, ln k, .inr (.inl (vp_updL (S.2.1 k i) j v)))) = gS A (uJ S k i j v) := by
  refine gS_up hi ?_ (fun k' i' h => ce_same rfl (uJ_same h) rfl)
  simp [ce, hk, uJ_row]
theorem s_u4 {A : pA} {S : pS} {k i j : Nat} {v : Int32} (hi : i < dn k) (hk : kd k = 4) : e_up (gS A S) (ad A k i) (.inl (2, ln k, .inl (upd (S.1 k i) j v))) = gS A (uI S k i j v) := by
  refine gS_up hi ?_ (fun k' i' h => ce_same (uI_same h) rfl rfl)
  simp [ce, hk, uI_row]
abbrev sK : Type := Nat → pL → List Value → pS → Prop
def e_lsw (k : Int → Prop) (x : Int) (ps : List (Int × Int)) (d : Int) : Prop := match ps with
  | [] => k d
  | (a, o) :: t => (x = a → k o) ∧ (¬ x = a → e_lsw k x t d)
theorem e_lsw_ok {k : Int → Prop} {x d : Int} : ∀ {ps : List (Int × Int)}, e_lsw k x ps d → k (Op.lookupswitch.offset ps d x)
  | [], h => h
  | (a, o) :: t, h => by
    by_cases hx : x = a
    · have h1 := h.1 hx
      simpa [Op.lookupswitch.offset, hx] using h1
    · have h1 := e_lsw_ok (h.2 hx)
      have e1 : Op.lookupswitch.offset ((a, o) :: t) d x = Op.lookupswitch.offset t d x := by
        simp [Op.lookupswitch.offset, hx]
        try (intro h9; exact absurd h9.symm hx)
        try (intro h9; exact absurd h9 hx)
      rw [e1]
      exact h1
theorem r_lsw {V : pV} {l : Launch} {own : String} {cc : ByteArray} {nL : Nat} {ws : List Cond} {R : Room} {ini : Bool} {cells slots pc : Nat} {lv : pL} {rest : List Value} {G : pH} (C : e_C V l own cc nL ws R ini) {K : Nat → Prop} (hK9 : ∀ t, K t → V cells slots t lv rest G) {d : Int} {ps : Array (Int × Int)} {len : Nat} {x : Int32} (hp : (ps.toList.zip (ps.toList.drop 1)).all (fun (a, next) => a.1 < next.1) = true) (hd : decode cc pc = .ok (.lookupswitch d ps, len)) (h : e_lsw (fun o => e_to pc o K) x.toInt ps.toList d) : V cells slots pc lv (.int x :: rest) G := by
  obtain ⟨p, e, s, m, args, below, meth, c, D, cs, base, Q, rfl, ⟨hx, hb, hml, hown, hts⟩, ⟨hK, hN⟩, hbs, hin⟩ := C
  intro H locs ls hH hS hl
  obtain ⟨t, ht, h4⟩ := e_to_inv (e_lsw_ok h)
  exact lv_lookup hx hb hd hp rfl ht (hK9 t h4 H locs ls hH hS hl)
theorem k_ti : (∀ x : Int32, (x.toInt = 0) = (x = 0)) ∧ (∀ x : Int32, (x.toInt = 1) = (x = 1)) ∧ (∀ x : Int32, (x.toInt = 2) = (x = 2)) ∧ (∀ x : Int32, (x.toInt = 3) = (x = 3)) ∧ (∀ x : Int32, (x.toInt = 4) = (x = 4)) ∧ (∀ x : Int32, (x.toInt = 5) = (x = 5)) ∧ (∀ x : Int32, (x.toInt = 6) = (x = 6)) ∧ (∀ x : Int32, (x.toInt = 7) = (x = 7)) ∧ (∀ x : Int32, (x.toInt = 8) = (x = 8)) ∧ (∀ x : Int32, (x.toInt = 9) = (x = 9)) ∧ (∀ x : Int32, (x.toInt = 10) = (x = 10)) ∧ (∀ x : Int32, (x.toInt = 11) = (x = 11)) ∧ (∀ x : Int32, (x.toInt = 12) = (x = 12)) ∧ (∀ x : Int32, (x.toInt = 13) = (x = 13)) ∧ (∀ x : Int32, (x.toInt = 14) = (x = 14)) ∧ (∀ x : Int32, (x.toInt = 15) = (x = 15)) ∧ (∀ x : Int32, (x.toInt = 16) = (x = 16)) ∧ (∀ x : Int32, (x.toInt = 17) = (x = 17)) ∧ (∀ x : Int32, (x.toInt = 18) = (x = 18)) ∧ (∀ x : Int32, (x.toInt = 19) = (x = 19)) ∧ (∀ x : Int32, (x.toInt = 20) = (x = 20)) ∧ (∀ x : Int32, (x.toInt = 21) = (x = 21)) ∧ (∀ x : Int32, (x.toInt = 22) = (x = 22)) ∧ (∀ x : Int32, (x.toInt = 23) = (x = 23)) ∧ (∀ x : Int32, (x.toInt = 24) = (x = 24)) ∧ (∀ x : Int32, (x.toInt = 25) = (x = 25)) ∧ (∀ x : Int32, (x.toInt = 26) = (x = 26)) ∧ (∀ x : Int32, (x.toInt = 27) = (x = 27)) ∧ (∀ x : Int32, (x.toInt = 28) = (x = 28)) ∧ (∀ x : Int32, (x.toInt = 29) = (x = 29)) ∧ (∀ x : Int32, (x.toInt = 30) = (x = 30)) ∧ (∀ x : Int32, (x.toInt = 31) = (x = 31)) := ⟨fun x => propext ⟨fun h => Int32.toInt_inj.mp (h.trans (by decide)), fun h => by rw [h]; decide⟩, fun x => propext ⟨fun h => Int32.toInt_inj.mp (h.trans (by decide)), fun h => by rw [h]; decide⟩, fun x => propext ⟨fun h => Int32.toInt_inj.mp (h.trans (by decide)), fun h => by rw [h]; decide⟩, fun x => propext ⟨fun h => Int32.toInt_inj.mp (h.trans (by decide)), fun h => by rw [h]; decide⟩, fun x => propext ⟨fun h => Int32.toInt_inj.mp (h.trans (by decide)), fun h => by rw [h]; decide⟩, fun x => propext ⟨fun h => Int32.toInt_inj.mp (h.trans (by decide)), fun h => by rw [h]; decide⟩, fun x => propext ⟨fun h => Int32.toInt_inj.mp (h.trans (by decide)), fun h => by rw [h]; decide⟩, fun x => propext ⟨fun h => Int32.toInt_inj.mp (h.trans (by decide)), fun h => by rw [h]; decide⟩, fun x => propext ⟨fun h => Int32.toInt_inj.mp (h.trans (by decide)), fun h => by rw [h]; decide⟩, fun x => propext ⟨fun h => Int32.toInt_inj.mp (h.trans (by decide)), fun h => by rw [h]; decide⟩, fun x => propext ⟨fun h => Int32.toInt_inj.mp (h.trans (by decide)), fun h => by rw [h]; decide⟩, fun x => propext ⟨fun h => Int32.toInt_inj.mp (h.trans (by decide)), fun h => by rw [h]; decide⟩, fun x => propext ⟨fun h => Int32.toInt_inj.mp (h.trans (by decide)), fun h => by rw [h]; decide⟩, fun x => propext ⟨fun h => Int32.toInt_inj.mp (h.trans (by decide)), fun h => by rw [h]; decide⟩, fun x => propext ⟨fun h => Int32.toInt_inj.mp (h.trans (by decide)), fun h => by rw [h]; decide⟩, fun x => propext ⟨fun h => Int32.toInt_inj.mp (h.trans (by decide)), fun h => by rw [h]; decide⟩, fun x => propext ⟨fun h => Int32.toInt_inj.mp (h.trans (by decide)), fun h => by rw [h]; decide⟩, fun x => propext ⟨fun h => Int32.toInt_inj.mp (h.trans (by decide)), fun h => by rw [h]; decide⟩, fun x => propext ⟨fun h => Int32.toInt_inj.mp (h.trans (by decide)), fun h => by rw [h]; decide⟩, fun x => propext ⟨fun h => Int32.toInt_inj.mp (h.trans (by decide)), fun h => by rw [h]; decide⟩, fun x => propext ⟨fun h => Int32.toInt_inj.mp (h.trans (by decide)), fun h => by rw [h]; decide⟩, fun x => propext ⟨fun h => Int32.toInt_inj.mp (h.trans (by decide)), fun h => by rw [h]; decide⟩, fun x => propext ⟨fun h => Int32.toInt_inj.mp (h.trans (by decide)), fun h => by rw [h]; decide⟩, fun x => propext ⟨fun h => Int32.toInt_inj.mp (h.trans (by decide)), fun h => by rw [h]; decide⟩, fun x => propext ⟨fun h => Int32.toInt_inj.mp (h.trans (by decide)), fun h => by rw [h]; decide⟩, fun x => propext ⟨fun h => Int32.toInt_inj.mp (h.trans (by decide)), fun h => by rw [h]; decide⟩, fun x => propext ⟨fun h => Int32.toInt_inj.mp (h.trans (by decide)), fun h => by rw [h]; decide⟩, fun x => propext ⟨fun h => Int32.toInt_inj.mp (h.trans (by decide)), fun h => by rw [h]; decide⟩, fun x => propext ⟨fun h => Int32.toInt_inj.mp (h.trans (by decide)), fun h => by rw [h]; decide⟩, fun x => propext ⟨fun h => Int32.toInt_inj.mp (h.trans (by decide)), fun h => by rw [h]; decide⟩, fun x => propext ⟨fun h => Int32.toInt_inj.mp (h.trans (by decide)), fun h => by rw [h]; decide⟩, fun x => propext ⟨fun h => Int32.toInt_inj.mp (h.trans (by decide)), fun h => by rw [h]; decide⟩⟩
def s_1 (A : pA) (nL : Nat) (fl : Nat → Option (Nat × Nat × FieldType × Nat)) (ld : Nat → Option Int64) (ret : Option FieldType) (mc ms : Nat) (post : Option Value → pS → Prop) (cells slots : Nat) (X : Prop) (K : sK) (len pc : Nat) (lv : pL) (st : List Value) (S : pS) (i : Instr) : Prop := match i with
  | .aconst_null => len = 1 ∧ K (pc + 1) lv (.null :: st) S
  | .iconst n => len = 1 ∧ K (pc + 1) lv (.int (Int32.ofInt n) :: st) S
  | .bipush n => len = 2 ∧ K (pc + 2) lv (.int (Int8.ofInt n).toInt32 :: st) S
  | .sipush n => len = 3 ∧ K (pc + 3) lv (.int (Int16.ofInt n).toInt32 :: st) S
  | .lconst n => len = 1 ∧ K (pc + 1) lv (.long (Int64.ofNat (n : Nat)) :: st) S
  | .ldc2_w idx => len = 3 ∧ e_op (ld idx) (fun v => K (pc + 3) lv (.long v :: st) S)
  | .iload_n k => len = 1 ∧ e_li lv (k : Nat) (fun x => K (pc + 1) lv (.int x :: st) S)
  | .iload k => len = 2 ∧ e_li lv k (fun x => K (pc + 2) lv (.int x :: st) S)
  | .istore_n k => len = 1 ∧ e_pi st (fun x r => (k : Nat) < nL ∧ K (pc + 1) (e_ins (k : Nat) (.int x) (e_rm (k : Nat) false lv)) r S)
  | .istore k => len = 2 ∧ e_pi st (fun x r => k < nL ∧ K (pc + 2) (e_ins k (.int x) (e_rm k false lv)) r S)
  | .lload_n k => len = 1 ∧ e_ll lv (k : Nat) (fun x => K (pc + 1) lv (.long x :: st) S)
  | .lload k => len = 2 ∧ e_ll lv k (fun x => K (pc + 2) lv (.long x :: st) S)
  | .lstore_n k => len = 1 ∧ e_pl st (fun x r => (k : Nat) + 1 < nL ∧ K (pc + 1) (e_ins (k : Nat) (.long x) (e_rm (k : Nat) true lv)) r S)
  | .lstore k => len = 2 ∧ e_pl st (fun x r => k + 1 < nL ∧ K (pc + 2) (e_ins k (.long x) (e_rm k true lv)) r S)
  | .aload_n k => len = 1 ∧ e_lr lv (k : Nat) (fun x => K (pc + 1) lv (.ref x :: st) S)
  | .aload k => len = 2 ∧ e_lr lv k (fun x => K (pc + 2) lv (.ref x :: st) S)
  | .astore_n k => len = 1 ∧ e_pr st (fun x r => (k : Nat) < nL ∧ K (pc + 1) (e_ins (k : Nat) (.ref x) (e_rm (k : Nat) false lv)) r S)
  | .astore k => len = 2 ∧ e_pr st (fun x r => k < nL ∧ K (pc + 2) (e_ins k (.ref x) (e_rm k false lv)) r S)
  | .iinc k n => len = 3 ∧ e_li lv k (fun x => k < nL ∧ K (pc + 3) (e_ins k (.int (x + Int32.ofInt n)) (e_rm k false lv)) st S)
  | .iadd => len = 1 ∧ e_pi st (fun y r => e_pi r (fun x r => K (pc + 1) lv (.int (x + y) :: r) S))
  | .isub => len = 1 ∧ e_pi st (fun y r => e_pi r (fun x r => K (pc + 1) lv (.int (x - y) :: r) S))
  | .imul => len = 1 ∧ e_pi st (fun y r => e_pi r (fun x r => K (pc + 1) lv (.int (x * y) :: r) S))
  | .iand => len = 1 ∧ e_pi st (fun y r => e_pi r (fun x r => K (pc + 1) lv (.int (x &&& y) :: r) S))
  | .ior => len = 1 ∧ e_pi st (fun y r => e_pi r (fun x r => K (pc + 1) lv (.int (x ||| y) :: r) S))
  | .ixor => len = 1 ∧ e_pi st (fun y r => e_pi r (fun x r => K (pc + 1) lv (.int (x ^^^ y) :: r) S))
  | .ishl => len = 1 ∧ e_pi st (fun y r => e_pi r (fun x r => K (pc + 1) lv (.int (x <<< (y &&& 31)) :: r) S))
  | .ishr => len = 1 ∧ e_pi st (fun y r => e_pi r (fun x r => K (pc + 1) lv (.int (x >>> (y &&& 31)) :: r) S))
  | .idiv => len = 1 ∧ e_pi st (fun y r => e_pi r (fun x r => (¬ y = 0) ∧ K (pc + 1) lv (.int (x / y) :: r) S))
  | .irem => len = 1 ∧ e_pi st (fun y r => e_pi r (fun x r => (¬ y = 0) ∧ K (pc + 1) lv (.int (x - x / y * y) :: r) S))
  | .ladd => len = 1 ∧ e_pl st (fun y r => e_pl r (fun x r => K (pc + 1) lv (.long (x + y) :: r) S))
  | .lsub => len = 1 ∧ e_pl st (fun y r => e_pl r (fun x r => K (pc + 1) lv (.long (x - y) :: r) S))
  | .lmul => len = 1 ∧ e_pl st (fun y r => e_pl r (fun x r => K (pc + 1) lv (.long (x * y) :: r) S))
  | .land => len = 1 ∧ e_pl st (fun y r => e_pl r (fun x r => K (pc + 1) lv (.long (x &&& y) :: r) S))
  | .lor => len = 1 ∧ e_pl st (fun y r => e_pl r (fun x r => K (pc + 1) lv (.long (x ||| y) :: r) S))
  | .lxor => len = 1 ∧ e_pl st (fun y r => e_pl r (fun x r => K (pc + 1) lv (.long (x ^^^ y) :: r) S))
  | .lshl => len = 1 ∧ e_pi st (fun y r => e_pl r (fun x r => K (pc + 1) lv (.long (x <<< (y.toInt64 &&& 63)) :: r) S))
  | .lshr => len = 1 ∧ e_pi st (fun y r => e_pl r (fun x r => K (pc + 1) lv (.long (x >>> (y.toInt64 &&& 63)) :: r) S))
  | .lushr => len = 1 ∧ e_pi st (fun y r => e_pl r (fun x r => K (pc + 1) lv (.long (e_ushr x y) :: r) S))
  | .i2l => len = 1 ∧ e_pi st (fun x r => K (pc + 1) lv (.long x.toInt64 :: r) S)
  | .l2i => len = 1 ∧ e_pl st (fun x r => K (pc + 1) lv (.int x.toInt32 :: r) S)
  | .lcmp => len = 1 ∧ e_pl st (fun y r => e_pl r (fun x r => K (pc + 1) lv (.int (lg_cmp x y) :: r) S))
  | .dup => len = 1 ∧ e_p0 st (fun a r => a.category = 1 ∧ K (pc + 1) lv (a :: a :: r) S)
  | .pop => len = 1 ∧ e_p0 st (fun a r => a.category = 1 ∧ K (pc + 1) lv r S)
  | .dup_x1 => len = 1 ∧ e_p0 st (fun a r => e_p0 r (fun b r => a.category = 1 ∧ b.category = 1 ∧ K (pc + 1) lv (a :: b :: a :: r) S))
  | .dup2 => len = 1 ∧ e_p0 st (fun a r => e_p0 r (fun b r => a.category = 1 ∧ b.category = 1 ∧ K (pc + 1) lv (a :: b :: a :: b :: r) S))
  | .goto off => len = 3 ∧ e_to pc off (fun t => K t lv st S)
  | .ifCond cd off => len = 3 ∧ e_pi st (fun x r => e_to pc off (fun t => (e_cmp cd x 0 → K t lv r S) ∧ (¬ e_cmp cd x 0 → K (pc + 3) lv r S)))
  | .if_icmp cd off => len = 3 ∧ e_pi st (fun y r => e_pi r (fun x r => e_to pc off (fun t => (e_cmp cd x y → K t lv r S) ∧ (¬ e_cmp cd x y → K (pc + 3) lv r S))))
  | .tableswitch d lo hi offs => hi = lo + offs.toList.length - 1 ∧ e_pi st (fun x r => e_sw (fun o => e_to pc o (fun t => K t lv r S)) x.toInt lo offs.toList d)
  | .ireturn => len = 1 ∧ e_pi st (fun v r => r = [] ∧ cells ≤ mc ∧ slots ≤ ms ∧ e_op ret (fun t => narrow t (.int v) = .int v) ∧ post (some (.int v)) S)
  | .lreturn => len = 1 ∧ e_pl st (fun v r => r = [] ∧ cells ≤ mc ∧ slots ≤ ms ∧ ret = some .long ∧ post (some (.long v)) S)
  | .areturn => len = 1 ∧ e_pr st (fun v r => r = [] ∧ cells ≤ mc ∧ slots ≤ ms ∧ e_op ret (fun t => (∃ n, t = .object n) ∨ ∃ u, t = .array u) ∧ post (some (.ref v)) S)
  | .return_ => len = 1 ∧ st = [] ∧ cells ≤ mc ∧ slots ≤ ms ∧ ret = none ∧ post none S
  | .lookupswitch d ps => (ps.toList.zip (ps.toList.drop 1)).all (fun (a, next) => a.1 < next.1) = true ∧ e_pi st (fun x r => e_lsw (fun o => e_to pc o (fun t => K t lv r S)) x.toInt ps.toList d)
  | .getfield idx => len = 3 ∧ e_op (fl idx) (fun f => e_pr st (fun a r => s_rl A a (fun x y => y < dn x ∧ kd x = 1 ∧ cl x = f.1 ∧ f.2.1 < nf x ∧ s_gf A S x y f.2.1 f.2.2.1 (fun v => K (pc + 3) lv (v :: r) S))))
  | .putfield idx => len = 3 ∧ e_op (fl idx) (fun f => e_p0 st (fun v r => e_pr r (fun a r => s_rl A a (fun x y => y < dn x ∧ kd x = 1 ∧ cl x = f.1 ∧ f.2.1 < nf x ∧ f.2.2.2 = 0 ∧ narrow f.2.2.1 v = v ∧ fits f.2.2.1 v = true ∧ s_pf A S x y f.2.1 v (fun S2 => K (pc + 3) lv r S2)))))
  | .iaload => len = 1 ∧ e_pi st (fun i r => e_pr r (fun a r => s_rl A a (fun x y => y < dn x ∧ kd x = 2 ∧ vp_in i (ln x) ∧ K (pc + 1) lv (.int (S.1 x y i.toNatClampNeg) :: r) S)))
  | .baload => len = 1 ∧ e_pi st (fun i r => e_pr r (fun a r => s_rl A a (fun x y => y < dn x ∧ kd x = 4 ∧ vp_in i (ln x) ∧ K (pc + 1) lv (.int (S.1 x y i.toNatClampNeg) :: r) S)))
  | .laload => len = 1 ∧ e_pi st (fun i r => e_pr r (fun a r => s_rl A a (fun x y => y < dn x ∧ kd x = 3 ∧ vp_in i (ln x) ∧ K (pc + 1) lv (.long (S.2.1 x y i.toNatClampNeg) :: r) S)))
  | .aaload => len = 1 ∧ e_pi st (fun i r => e_pr r (fun a r => s_rl A a (fun x y => y < dn x ∧ kd x = 5 ∧ vp_in i (ln x) ∧ K (pc + 1) lv (.ref (ad A 6 i.toNatClampNeg) :: r) S)))
  | .arraylength => len = 1 ∧ e_pr st (fun a r => s_rl A a (fun x y => y < dn x ∧ kd x = 2 ∧ K (pc + 1) lv (.int (Int32.ofNat (ln x)) :: r) S))
  | .iastore => len = 1 ∧ e_pi st (fun v r => e_pi r (fun i r => e_pr r (fun a r => s_rl A a (fun x y => y < dn x ∧ kd x = 2 ∧ vp_in i (ln x) ∧ K (pc + 1) lv r (uI S x y i.toNatClampNeg v)))))
  | .bastore => len = 1 ∧ e_pi st (fun v r => e_pi r (fun i r => e_pr r (fun a r => s_rl A a (fun x y => y < dn x ∧ kd x = 4 ∧ vp_in i (ln x) ∧ narrow .boolean (.int v) = .int v ∧ K (pc + 1) lv r (uI S x y i.toNatClampNeg v)))))
  | .lastore => len = 1 ∧ e_pl st (fun v r => e_pi r (fun i r => e_pr r (fun a r => s_rl A a (fun x y => y < dn x ∧ kd x = 3 ∧ vp_in i (ln x) ∧ K (pc + 1) lv r (uJ S x y i.toNatClampNeg v)))))
  | _ => X
abbrev s_P (A : pA) (post : Option Value → pS → Prop) : Option Value → pH → Prop := fun v G => ∃ S : pS, G = gS A S ∧ post v S
set_option maxHeartbeats 1000000 in
theorem s_1_ok {V : pV} {l : Launch} {own : String} {cc : ByteArray} {nL : Nat} {ws : List Cond} {R : Room} {ini : Bool} {A : pA} {fl : Nat → Option (Nat × Nat × FieldType × Nat)} {ld : Nat → Option Int64} {ret : Option FieldType} {mc ms : Nat} {post : Option Value → pS → Prop} {cells slots : Nat} {K : sK} {len pc : Nat} {lv : pL} {st : List Value} {S : pS} {i : Instr}
    (C : e_C V l own cc nL ws R ini) (Rt : e_R V cc ret mc ms (s_P A post)) (hws : ∀ w ∈ WS, w ∈ ws) (hfl : e_FL own fl) (hld : e_LD own ld) (hK : ∀ pc lv st S, K pc lv st S → V cells slots pc lv st (gS A S))
    (hd : decode cc pc = .ok (i, len)) (h : s_1 A nL fl ld ret mc ms post cells slots (V cells slots pc lv st (gS A S)) K len pc lv st S i) : V cells slots pc lv st (gS A S) := by
  cases i
  case aconst_null  => obtain ⟨rfl, g1⟩ := h; exact r_null C hd (hK _ _ _ _ g1)
  case iconst n => obtain ⟨rfl, g1⟩ := h; exact r_iconst C hd (hK _ _ _ _ g1)
  case bipush n => obtain ⟨rfl, g1⟩ := h; exact r_bipush C hd (hK _ _ _ _ g1)
  case sipush n => obtain ⟨rfl, g1⟩ := h; exact r_sipush C hd (hK _ _ _ _ g1)
  case lconst n => obtain ⟨rfl, g1⟩ := h; exact r_lconst C hd (hK _ _ _ _ g1)
  case ldc2_w idx => obtain ⟨rfl, g1⟩ := h; obtain ⟨v, h1, g2⟩ := e_op_inv g1; exact r_ldc2 C (hws _ (hld _ _ h1)) hd (hK _ _ _ _ g2)
  case iload_n k => obtain ⟨rfl, g1⟩ := h; obtain ⟨x, h1, g2⟩ := e_li_inv g1; exact r_iload_n C h1 hd (hK _ _ _ _ g2)
  case iload k => obtain ⟨rfl, g1⟩ := h; obtain ⟨x, h1, g2⟩ := e_li_inv g1; exact r_iload C h1 hd (hK _ _ _ _ g2)
  case istore_n k => obtain ⟨rfl, g1⟩ := h; obtain ⟨x, r, rfl, h1, g2⟩ := e_pi_inv g1; exact r_istore_n C h1 hd (hK _ _ _ _ g2)
  case istore k => obtain ⟨rfl, g1⟩ := h; obtain ⟨x, r, rfl, h1, g2⟩ := e_pi_inv g1; exact r_istore C h1 hd (hK _ _ _ _ g2)
  case lload_n k => obtain ⟨rfl, g1⟩ := h; obtain ⟨x, h1, g2⟩ := e_ll_inv g1; exact r_lload_n C h1 hd (hK _ _ _ _ g2)
  case lload k => obtain ⟨rfl, g1⟩ := h; obtain ⟨x, h1, g2⟩ := e_ll_inv g1; exact r_lload C h1 hd (hK _ _ _ _ g2)
  case lstore_n k => obtain ⟨rfl, g1⟩ := h; obtain ⟨x, r, rfl, h1, g2⟩ := e_pl_inv g1; exact r_lstore_n C h1 hd (hK _ _ _ _ g2)
  case lstore k => obtain ⟨rfl, g1⟩ := h; obtain ⟨x, r, rfl, h1, g2⟩ := e_pl_inv g1; exact r_lstore C h1 hd (hK _ _ _ _ g2)
  case aload_n k => obtain ⟨rfl, g1⟩ := h; obtain ⟨x, h1, g2⟩ := e_lr_inv g1; exact r_aload_n C h1 hd (hK _ _ _ _ g2)
  case aload k => obtain ⟨rfl, g1⟩ := h; obtain ⟨x, h1, g2⟩ := e_lr_inv g1; exact r_aload C h1 hd (hK _ _ _ _ g2)
  case astore_n k => obtain ⟨rfl, g1⟩ := h; obtain ⟨x, r, rfl, h1, g2⟩ := e_pr_inv g1; exact r_astore_n C h1 hd (hK _ _ _ _ g2)
  case astore k => obtain ⟨rfl, g1⟩ := h; obtain ⟨x, r, rfl, h1, g2⟩ := e_pr_inv g1; exact r_astore C h1 hd (hK _ _ _ _ g2)
  case iinc k n => obtain ⟨rfl, g1⟩ := h; obtain ⟨x, h1, h2, g2⟩ := e_li_inv g1; exact r_iinc C h1 h2 hd (hK _ _ _ _ g2)
  case iadd  => obtain ⟨rfl, g1⟩ := h; obtain ⟨y, r, rfl, g2⟩ := e_pi_inv g1; obtain ⟨x, r, rfl, g3⟩ := e_pi_inv g2; exact r_iadd C hd (hK _ _ _ _ g3)
  case isub  => obtain ⟨rfl, g1⟩ := h; obtain ⟨y, r, rfl, g2⟩ := e_pi_inv g1; obtain ⟨x, r, rfl, g3⟩ := e_pi_inv g2; exact r_isub C hd (hK _ _ _ _ g3)
  case imul  => obtain ⟨rfl, g1⟩ := h; obtain ⟨y, r, rfl, g2⟩ := e_pi_inv g1; obtain ⟨x, r, rfl, g3⟩ := e_pi_inv g2; exact r_imul C hd (hK _ _ _ _ g3)
  case iand  => obtain ⟨rfl, g1⟩ := h; obtain ⟨y, r, rfl, g2⟩ := e_pi_inv g1; obtain ⟨x, r, rfl, g3⟩ := e_pi_inv g2; exact r_iand C hd (hK _ _ _ _ g3)
  case ior  => obtain ⟨rfl, g1⟩ := h; obtain ⟨y, r, rfl, g2⟩ := e_pi_inv g1; obtain ⟨x, r, rfl, g3⟩ := e_pi_inv g2; exact r_ior C hd (hK _ _ _ _ g3)
  case ixor  => obtain ⟨rfl, g1⟩ := h; obtain ⟨y, r, rfl, g2⟩ := e_pi_inv g1; obtain ⟨x, r, rfl, g3⟩ := e_pi_inv g2; exact r_ixor C hd (hK _ _ _ _ g3)
  case ishl  => obtain ⟨rfl, g1⟩ := h; obtain ⟨y, r, rfl, g2⟩ := e_pi_inv g1; obtain ⟨x, r, rfl, g3⟩ := e_pi_inv g2; exact r_ishl C hd (hK _ _ _ _ g3)
  case ishr  => obtain ⟨rfl, g1⟩ := h; obtain ⟨y, r, rfl, g2⟩ := e_pi_inv g1; obtain ⟨x, r, rfl, g3⟩ := e_pi_inv g2; exact r_ishr C hd (hK _ _ _ _ g3)
  case idiv  => obtain ⟨rfl, g1⟩ := h; obtain ⟨y, r, rfl, g2⟩ := e_pi_inv g1; obtain ⟨x, r, rfl, h0, g3⟩ := e_pi_inv g2; exact r_idiv C h0 hd (hK _ _ _ _ g3)
  case irem  => obtain ⟨rfl, g1⟩ := h; obtain ⟨y, r, rfl, g2⟩ := e_pi_inv g1; obtain ⟨x, r, rfl, h0, g3⟩ := e_pi_inv g2; exact r_irem C h0 hd (hK _ _ _ _ g3)
  case ladd  => obtain ⟨rfl, g1⟩ := h; obtain ⟨y, r, rfl, g2⟩ := e_pl_inv g1; obtain ⟨x, r, rfl, g3⟩ := e_pl_inv g2; exact r_ladd C hd (hK _ _ _ _ g3)
  case lsub  => obtain ⟨rfl, g1⟩ := h; obtain ⟨y, r, rfl, g2⟩ := e_pl_inv g1; obtain ⟨x, r, rfl, g3⟩ := e_pl_inv g2; exact r_lsub C hd (hK _ _ _ _ g3)
  case lmul  => obtain ⟨rfl, g1⟩ := h; obtain ⟨y, r, rfl, g2⟩ := e_pl_inv g1; obtain ⟨x, r, rfl, g3⟩ := e_pl_inv g2; exact r_lmul C hd (hK _ _ _ _ g3)
  case land  => obtain ⟨rfl, g1⟩ := h; obtain ⟨y, r, rfl, g2⟩ := e_pl_inv g1; obtain ⟨x, r, rfl, g3⟩ := e_pl_inv g2; exact r_land C hd (hK _ _ _ _ g3)
  case lor  => obtain ⟨rfl, g1⟩ := h; obtain ⟨y, r, rfl, g2⟩ := e_pl_inv g1; obtain ⟨x, r, rfl, g3⟩ := e_pl_inv g2; exact r_lor C hd (hK _ _ _ _ g3)
  case lxor  => obtain ⟨rfl, g1⟩ := h; obtain ⟨y, r, rfl, g2⟩ := e_pl_inv g1; obtain ⟨x, r, rfl, g3⟩ := e_pl_inv g2; exact r_lxor C hd (hK _ _ _ _ g3)
  case lshl  => obtain ⟨rfl, g1⟩ := h; obtain ⟨y, r, rfl, g2⟩ := e_pi_inv g1; obtain ⟨x, r, rfl, g3⟩ := e_pl_inv g2; exact r_lshl C hd (hK _ _ _ _ g3)
  case lshr  => obtain ⟨rfl, g1⟩ := h; obtain ⟨y, r, rfl, g2⟩ := e_pi_inv g1; obtain ⟨x, r, rfl, g3⟩ := e_pl_inv g2; exact r_lshr C hd (hK _ _ _ _ g3)
  case lushr  => obtain ⟨rfl, g1⟩ := h; obtain ⟨y, r, rfl, g2⟩ := e_pi_inv g1; obtain ⟨x, r, rfl, g3⟩ := e_pl_inv g2; exact r_lushr C hd (hK _ _ _ _ g3)
  case i2l  => obtain ⟨rfl, g1⟩ := h; obtain ⟨x, r, rfl, g2⟩ := e_pi_inv g1; exact r_i2l C hd (hK _ _ _ _ g2)
  case l2i  => obtain ⟨rfl, g1⟩ := h; obtain ⟨x, r, rfl, g2⟩ := e_pl_inv g1; exact r_l2i C hd (hK _ _ _ _ g2)
  case lcmp  => obtain ⟨rfl, g1⟩ := h; obtain ⟨y, r, rfl, g2⟩ := e_pl_inv g1; obtain ⟨x, r, rfl, g3⟩ := e_pl_inv g2; exact r_lcmp C hd (hK _ _ _ _ g3)
  case dup  => obtain ⟨rfl, g1⟩ := h; obtain ⟨a, r, rfl, h1, g2⟩ := e_p0_inv g1; exact r_dup C h1 hd (hK _ _ _ _ g2)
  case pop  => obtain ⟨rfl, g1⟩ := h; obtain ⟨a, r, rfl, h1, g2⟩ := e_p0_inv g1; exact r_pop C h1 hd (hK _ _ _ _ g2)
  case dup_x1  => obtain ⟨rfl, g1⟩ := h; obtain ⟨a, r, rfl, g2⟩ := e_p0_inv g1; obtain ⟨b, r, rfl, h1, h2, g3⟩ := e_p0_inv g2; exact r_dup_x1 C h1 h2 hd (hK _ _ _ _ g3)
  case dup2  => obtain ⟨rfl, g1⟩ := h; obtain ⟨a, r, rfl, g2⟩ := e_p0_inv g1; obtain ⟨b, r, rfl, h1, h2, g3⟩ := e_p0_inv g2; exact r_dup2 C h1 h2 hd (hK _ _ _ _ g3)
  case goto off => obtain ⟨rfl, g1⟩ := h; obtain ⟨t, ht, g2⟩ := e_to_inv g1; exact r_goto C ht hd (hK _ _ _ _ g2)
  case ifCond cd off => obtain ⟨rfl, g1⟩ := h; obtain ⟨x, r, rfl, g2⟩ := e_pi_inv g1; obtain ⟨t, ht, h1, h2⟩ := e_to_inv g2; exact r_if C ht hd (fun z => hK _ _ _ _ (h1 z)) (fun z => hK _ _ _ _ (h2 z))
  case if_icmp cd off => obtain ⟨rfl, g1⟩ := h; obtain ⟨y, r, rfl, g2⟩ := e_pi_inv g1; obtain ⟨x, r, rfl, g3⟩ := e_pi_inv g2; obtain ⟨t, ht, h1, h2⟩ := e_to_inv g3; exact r_icmp C ht hd (fun z => hK _ _ _ _ (h1 z)) (fun z => hK _ _ _ _ (h2 z))
  case tableswitch d lo hi offs => obtain ⟨h0, g1⟩ := h; obtain ⟨x, r, rfl, g2⟩ := e_pi_inv g1; exact r_tsw C (fun t ht => hK _ _ _ _ ht) h0 hd g2
  case ireturn  => obtain ⟨rfl, g1⟩ := h; obtain ⟨v, r, rfl, rfl, h1, h2, h3, g2⟩ := e_pi_inv g1; obtain ⟨t, h5, h6⟩ := e_op_inv h3; exact r_wid C h1 h2 ((Rt pc lv (gS A S)).1 v t hd h5 h6 ⟨S, rfl, g2⟩)
  case lreturn  => obtain ⟨rfl, g1⟩ := h; obtain ⟨v, r, rfl, rfl, h1, h2, h3, g2⟩ := e_pl_inv g1; exact r_wid C h1 h2 ((Rt pc lv (gS A S)).2.1 v hd h3 ⟨S, rfl, g2⟩)
  case areturn  => obtain ⟨rfl, g1⟩ := h; obtain ⟨v, r, rfl, rfl, h1, h2, h3, g2⟩ := e_pr_inv g1; obtain ⟨t, h5, h6⟩ := e_op_inv h3; exact r_wid C h1 h2 ((Rt pc lv (gS A S)).2.2.1 v t hd h5 h6 ⟨S, rfl, g2⟩)
  case return_  => obtain ⟨rfl, rfl, h1, h2, h3, g1⟩ := h; exact r_wid C h1 h2 ((Rt pc lv (gS A S)).2.2.2 hd h3 ⟨S, rfl, g1⟩)
  case lookupswitch d ps => obtain ⟨h0, h⟩ := h; obtain ⟨x, r, rfl, h1⟩ := e_pi_inv h; exact r_lsw C (fun t ht => hK _ _ _ _ ht) h0 hd h1
  case getfield idx => obtain ⟨rfl, h⟩ := h; obtain ⟨⟨ci, k, ty, fn⟩, h1, h2⟩ := e_op_inv h; obtain ⟨a, r, rfl, h3⟩ := e_pr_inv h2; obtain ⟨x, y, rfl, h4, h5, rfl, h6, h7⟩ := h3; exact r_get C hfl hws h1 (s_obj h4 h5) (by simp [h6]) hd (hK _ _ _ _ (s_gf_inv h7))
  case putfield idx => obtain ⟨rfl, h⟩ := h; obtain ⟨⟨ci, k, ty, fn⟩, h1, h2⟩ := e_op_inv h; obtain ⟨v, r, rfl, h3⟩ := e_p0_inv h2; obtain ⟨a, r, rfl, h4⟩ := e_pr_inv h3; obtain ⟨x, y, rfl, h5, h6, rfl, h7, h8, h9, h10, h11⟩ := h4; obtain ⟨S2, h12, h13, h14⟩ := s_pf_inv h7 h11; refine r_put C hfl hws h1 (Or.inl h8) (s_obj h5 h6) (by simpa using h7) h9 h10 hd ?_; rw [gS_up (S2 := S2) h5 (by dsimp only at h13 ⊢; rw [h13]; simp [ce, h6]) h14]; exact hK _ _ _ _ h12
  case iaload  => obtain ⟨rfl, h⟩ := h; obtain ⟨i, r, rfl, h1⟩ := e_pi_inv h; obtain ⟨a, r, rfl, h2⟩ := e_pr_inv h1; obtain ⟨x, y, rfl, h3, h4, h5, h6⟩ := h2; exact r_iald C (s_a2 h3 h4) h5 hd (hK _ _ _ _ h6)
  case baload  => obtain ⟨rfl, h⟩ := h; obtain ⟨i, r, rfl, h1⟩ := e_pi_inv h; obtain ⟨a, r, rfl, h2⟩ := e_pr_inv h1; obtain ⟨x, y, rfl, h3, h4, h5, h6⟩ := h2; exact r_zald C (s_a4 h3 h4) h5 hd (hK _ _ _ _ h6)
  case laload  => obtain ⟨rfl, h⟩ := h; obtain ⟨i, r, rfl, h1⟩ := e_pi_inv h; obtain ⟨a, r, rfl, h2⟩ := e_pr_inv h1; obtain ⟨x, y, rfl, h3, h4, h5, h6⟩ := h2; exact r_lald C (s_a3 h3 h4) h5 hd (hK _ _ _ _ h6)
  case aaload  => obtain ⟨rfl, h⟩ := h; obtain ⟨i, r, rfl, h1⟩ := e_pi_inv h; obtain ⟨a, r, rfl, h2⟩ := e_pr_inv h1; obtain ⟨x, y, rfl, h3, h4, h5, h6⟩ := h2; exact r_aald C (s_a5 h3 h4) h5 hd (hK _ _ _ _ h6)
  case arraylength  => obtain ⟨rfl, h⟩ := h; obtain ⟨a, r, rfl, h1⟩ := e_pr_inv h; obtain ⟨x, y, rfl, h2, h3, h4⟩ := h1; exact r_alen C (s_a2 h2 h3) (by decide) hd (hK _ _ _ _ h4)
  case iastore  => obtain ⟨rfl, h⟩ := h; obtain ⟨v, r, rfl, h1⟩ := e_pi_inv h; obtain ⟨i, r, rfl, h2⟩ := e_pi_inv h1; obtain ⟨a, r, rfl, h3⟩ := e_pr_inv h2; obtain ⟨x, y, rfl, h4, h5, h6, h7⟩ := h3; refine r_iast C (s_a2 h4 h5) h6 hd ?_; rw [s_u2 h4 h5]; exact hK _ _ _ _ h7
  case bastore  => obtain ⟨rfl, h⟩ := h; obtain ⟨v, r, rfl, h1⟩ := e_pi_inv h; obtain ⟨i, r, rfl, h2⟩ := e_pi_inv h1; obtain ⟨a, r, rfl, h3⟩ := e_pr_inv h2; obtain ⟨x, y, rfl, h4, h5, h6, hz, h7⟩ := h3; refine r_zast C (s_a4 h4 h5) h6 hz hd ?_; rw [s_u4 h4 h5]; exact hK _ _ _ _ h7
  case lastore  => obtain ⟨rfl, h⟩ := h; obtain ⟨v, r, rfl, h1⟩ := e_pl_inv h; obtain ⟨i, r, rfl, h2⟩ := e_pi_inv h1; obtain ⟨a, r, rfl, h3⟩ := e_pr_inv h2; obtain ⟨x, y, rfl, h4, h5, h6, h7⟩ := h3; refine r_last C (s_a3 h4 h5) h6 hd ?_; rw [s_u3 h4 h5]; exact hK _ _ _ _ h7
  all_goals exact h
def s_go (cc : ByteArray) (A : pA) (nL : Nat) (fl : Nat → Option (Nat × Nat × FieldType × Nat)) (ld : Nat → Option Int64) (ret : Option FieldType) (mc ms : Nat) (post : Option Value → pS → Prop) (cells slots : Nat) (V : pV) (stops : List Nat) : Nat → sK
  | 0, pc, lv, st, S => V cells slots pc lv st (gS A S)
  | n + 1, pc, lv, st, S => match decode cc pc with
    | .ok q => s_1 A nL fl ld ret mc ms post cells slots (V cells slots pc lv st (gS A S)) (fun pc2 lv2 st2 S2 => if pc2 ∈ stops then V cells slots pc2 lv2 st2 (gS A S2) else s_go cc A nL fl ld ret mc ms post cells slots V stops n pc2 lv2 st2 S2) q.2 pc lv st S q.1
    | .error _ => False
theorem s_run {V : pV} {l : Launch} {own : String} {cc : ByteArray} {nL : Nat} {ws : List Cond} {R : Room} {ini : Bool} {A : pA} {fl : Nat → Option (Nat × Nat × FieldType × Nat)} {ld : Nat → Option Int64} {ret : Option FieldType} {mc ms : Nat} {post : Option Value → pS → Prop} {cells slots : Nat}
    (C : e_C V l own cc nL ws R ini) (Rt : e_R V cc ret mc ms (s_P A post)) (hws : ∀ w ∈ WS, w ∈ ws) (hfl : e_FL own fl) (hld : e_LD own ld) (stops : List Nat) : ∀ (n : Nat) {pc : Nat} {lv : pL} {st : List Value} {S : pS}, s_go cc A nL fl ld ret mc ms post cells slots V stops n pc lv st S → V cells slots pc lv st (gS A S)
  | 0, _, _, _, _, h => h
  | n + 1, pc, lv, st, S, h => by
    unfold s_go at h
    split at h
    · rename_i q hq
      refine s_1_ok C Rt hws hfl hld (fun pc2 lv2 st2 S2 h2 => ?_) hq h
      by_cases hs : pc2 ∈ stops
      · rw [if_pos hs] at h2
        exact h2
      · rw [if_neg hs] at h2
        exact s_run C Rt hws hfl hld stops n h2
    · exact h.elim
theorem srnX7_init {V : pV} {l : Launch} {A : pA} {post : Option Value → pS → Prop} {cells slots : Nat} (C : e_CX7_init V l) (Rt : e_RX7_init V (s_P A post)) (stops : List Nat) (n : Nat) {pc : Nat} {lv : pL} {st : List Value} {S : pS} (h : s_go cX7_init A 1 flX7 ldX7 none rmX7_init.cells rmX7_init.slots post cells slots V stops n pc lv st S) : V cells slots pc lv st (gS A S) := s_run C Rt (fun _ h => List.mem_cons_of_mem _ h) eFLX7 eLDX7 stops n h
theorem srnX5_init {V : pV} {l : Launch} {A : pA} {post : Option Value → pS → Prop} {cells slots : Nat} (C : e_CX5_init V l) (Rt : e_RX5_init V (s_P A post)) (stops : List Nat) (n : Nat) {pc : Nat} {lv : pL} {st : List Value} {S : pS} (h : s_go cX5_init A 1 flX5 ldX5 none rmX5_init.cells rmX5_init.slots post cells slots V stops n pc lv st S) : V cells slots pc lv st (gS A S) := s_run C Rt (fun _ h => List.mem_cons_of_mem _ h) eFLX5 eLDX5 stops n h
theorem srnX0_init {V : pV} {l : Launch} {A : pA} {post : Option Value → pS → Prop} {cells slots : Nat} (C : e_CX0_init V l) (Rt : e_RX0_init V (s_P A post)) (stops : List Nat) (n : Nat) {pc : Nat} {lv : pL} {st : List Value} {S : pS} (h : s_go cX0_init A 2 flX0 ldX0 none rmX0_init.cells rmX0_init.slots post cells slots V stops n pc lv st S) : V cells slots pc lv st (gS A S) := s_run C Rt (fun _ h => List.mem_cons_of_mem _ h) eFLX0 eLDX0 stops n h
theorem srnX2_init {V : pV} {l : Launch} {A : pA} {post : Option Value → pS → Prop} {cells slots : Nat} (C : e_CX2_init V l) (Rt : e_RX2_init V (s_P A post)) (stops : List Nat) (n : Nat) {pc : Nat} {lv : pL} {st : List Value} {S : pS} (h : s_go cX2_init A 1 flX2 ldX2 none rmX2_init.cells rmX2_init.slots post cells slots V stops n pc lv st S) : V cells slots pc lv st (gS A S) := s_run C Rt (fun _ h => List.mem_cons_of_mem _ h) eFLX2 eLDX2 stops n h
theorem srnX1_init {V : pV} {l : Launch} {A : pA} {post : Option Value → pS → Prop} {cells slots : Nat} (C : e_CX1_init V l) (Rt : e_RX1_init V (s_P A post)) (stops : List Nat) (n : Nat) {pc : Nat} {lv : pL} {st : List Value} {S : pS} (h : s_go cX1_init A 2 flX1 ldX1 none rmX1_init.cells rmX1_init.slots post cells slots V stops n pc lv st S) : V cells slots pc lv st (gS A S) := s_run C Rt (fun _ h => List.mem_cons_of_mem _ h) eFLX1 eLDX1 stops n h
theorem srnX4_init {V : pV} {l : Launch} {A : pA} {post : Option Value → pS → Prop} {cells slots : Nat} (C : e_CX4_init V l) (Rt : e_RX4_init V (s_P A post)) (stops : List Nat) (n : Nat) {pc : Nat} {lv : pL} {st : List Value} {S : pS} (h : s_go cX4_init A 1 flX4 ldX4 none rmX4_init.cells rmX4_init.slots post cells slots V stops n pc lv st S) : V cells slots pc lv st (gS A S) := s_run C Rt (fun _ h => List.mem_cons_of_mem _ h) eFLX4 eLDX4 stops n h
theorem srnX6_init {V : pV} {l : Launch} {A : pA} {post : Option Value → pS → Prop} {cells slots : Nat} (C : e_CX6_init V l) (Rt : e_RX6_init V (s_P A post)) (stops : List Nat) (n : Nat) {pc : Nat} {lv : pL} {st : List Value} {S : pS} (h : s_go cX6_init A 1 flX6 ldX6 none rmX6_init.cells rmX6_init.slots post cells slots V stops n pc lv st S) : V cells slots pc lv st (gS A S) := s_run C Rt (fun _ h => List.mem_cons_of_mem _ h) eFLX6 eLDX6 stops n h
theorem srnX3_init {V : pV} {l : Launch} {A : pA} {post : Option Value → pS → Prop} {cells slots : Nat} (C : e_CX3_init V l) (Rt : e_RX3_init V (s_P A post)) (stops : List Nat) (n : Nat) {pc : Nat} {lv : pL} {st : List Value} {S : pS} (h : s_go cX3_init A 1 flX3 ldX3 none rmX3_init.cells rmX3_init.slots post cells slots V stops n pc lv st S) : V cells slots pc lv st (gS A S) := s_run C Rt (fun _ h => List.mem_cons_of_mem _ h) eFLX3 eLDX3 stops n h
theorem srnX7_change {V : pV} {l : Launch} {A : pA} {post : Option Value → pS → Prop} {cells slots : Nat} (C : e_CX7_change V l) (Rt : e_RX7_change V (s_P A post)) (stops : List Nat) (n : Nat) {pc : Nat} {lv : pL} {st : List Value} {S : pS} (h : s_go cX7_change A 3 flX7 ldX7 (some .int) rmX7_change.cells rmX7_change.slots post cells slots V stops n pc lv st S) : V cells slots pc lv st (gS A S) := s_run C Rt (fun _ h => List.mem_cons_of_mem _ h) eFLX7 eLDX7 stops n h
theorem srnX5_hasNumber {V : pV} {l : Launch} {A : pA} {post : Option Value → pS → Prop} {cells slots : Nat} (C : e_CX5_hasNumber V l) (Rt : e_RX5_hasNumber V (s_P A post)) (stops : List Nat) (n : Nat) {pc : Nat} {lv : pL} {st : List Value} {S : pS} (h : s_go cX5_hasNumber A 2 flX5 ldX5 (some .boolean) rmX5_hasNumber.cells rmX5_hasNumber.slots post cells slots V stops n pc lv st S) : V cells slots pc lv st (gS A S) := s_run C Rt (fun _ h => List.mem_cons_of_mem _ h) eFLX5 eLDX5 stops n h
theorem srnX0_uncheckAllOn {V : pV} {l : Launch} {A : pA} {post : Option Value → pS → Prop} {cells slots : Nat} (C : e_CX0_uncheckAllOn V l) (Rt : e_RX0_uncheckAllOn V (s_P A post)) (stops : List Nat) (n : Nat) {pc : Nat} {lv : pL} {st : List Value} {S : pS} (h : s_go cX0_uncheckAllOn A 7 flX0 ldX0 (some .int) rmX0_uncheckAllOn.cells rmX0_uncheckAllOn.slots post cells slots V stops n pc lv st S) : V cells slots pc lv st (gS A S) := s_run C Rt (fun _ h => List.mem_cons_of_mem _ h) eFLX0 eLDX0 stops n h
theorem srnX2_restsOn {V : pV} {l : Launch} {A : pA} {post : Option Value → pS → Prop} {cells slots : Nat} (C : e_CX2_restsOn V l) (Rt : e_RX2_restsOn V (s_P A post)) (stops : List Nat) (n : Nat) {pc : Nat} {lv : pL} {st : List Value} {S : pS} (h : s_go cX2_restsOn A 2 flX2 ldX2 (some .boolean) rmX2_restsOn.cells rmX2_restsOn.slots post cells slots V stops n pc lv st S) : V cells slots pc lv st (gS A S) := s_run C Rt (fun _ h => List.mem_cons_of_mem _ h) eFLX2 eLDX2 stops n h
theorem srnX7_isAmong {V : pV} {l : Launch} {A : pA} {post : Option Value → pS → Prop} {cells slots : Nat} (C : e_CX7_isAmong V l) (Rt : e_RX7_isAmong V (s_P A post)) (stops : List Nat) (n : Nat) {pc : Nat} {lv : pL} {st : List Value} {S : pS} (h : s_go cX7_isAmong A 4 flX7 ldX7 (some .boolean) rmX7_isAmong.cells rmX7_isAmong.slots post cells slots V stops n pc lv st S) : V cells slots pc lv st (gS A S) := s_run C Rt (fun _ h => List.mem_cons_of_mem _ h) eFLX7 eLDX7 stops n h
theorem srnX2_leanSet {V : pV} {l : Launch} {A : pA} {post : Option Value → pS → Prop} {cells slots : Nat} (C : e_CX2_leanSet V l) (Rt : e_RX2_leanSet V (s_P A post)) (stops : List Nat) (n : Nat) {pc : Nat} {lv : pL} {st : List Value} {S : pS} (h : s_go cX2_leanSet A 4 flX2 ldX2 (some .long) rmX2_leanSet.cells rmX2_leanSet.slots post cells slots V stops n pc lv st S) : V cells slots pc lv st (gS A S) := s_run C Rt (fun _ h => List.mem_cons_of_mem _ h) eFLX2 eLDX2 stops n h
theorem srnX7_thing {V : pV} {l : Launch} {A : pA} {post : Option Value → pS → Prop} {cells slots : Nat} (C : e_CX7_thing V l) (Rt : e_RX7_thing V (s_P A post)) (stops : List Nat) (n : Nat) {pc : Nat} {lv : pL} {st : List Value} {S : pS} (h : s_go cX7_thing A 3 flX7 ldX7 (some .int) rmX7_thing.cells rmX7_thing.slots post cells slots V stops n pc lv st S) : V cells slots pc lv st (gS A S) := s_run C Rt (fun _ h => List.mem_cons_of_mem _ h) eFLX7 eLDX7 stops n h
theorem srnX7_rest {V : pV} {l : Launch} {A : pA} {post : Option Value → pS → Prop} {cells slots : Nat} (C : e_CX7_rest V l) (Rt : e_RX7_rest V (s_P A post)) (stops : List Nat) (n : Nat) {pc : Nat} {lv : pL} {st : List Value} {S : pS} (h : s_go cX7_rest A 2 flX7 ldX7 (some .int) rmX7_rest.cells rmX7_rest.slots post cells slots V stops n pc lv st S) : V cells slots pc lv st (gS A S) := s_run C Rt (fun _ h => List.mem_cons_of_mem _ h) eFLX7 eLDX7 stops n h
theorem srnX2_addThing {V : pV} {l : Launch} {A : pA} {post : Option Value → pS → Prop} {cells slots : Nat} (C : e_CX2_addThing V l) (Rt : e_RX2_addThing V (s_P A post)) (stops : List Nat) (n : Nat) {pc : Nat} {lv : pL} {st : List Value} {S : pS} (h : s_go cX2_addThing A 4 flX2 ldX2 none rmX2_addThing.cells rmX2_addThing.slots post cells slots V stops n pc lv st S) : V cells slots pc lv st (gS A S) := s_run C Rt (fun _ h => List.mem_cons_of_mem _ h) eFLX2 eLDX2 stops n h
theorem srnX7_lean {V : pV} {l : Launch} {A : pA} {post : Option Value → pS → Prop} {cells slots : Nat} (C : e_CX7_lean V l) (Rt : e_RX7_lean V (s_P A post)) (stops : List Nat) (n : Nat) {pc : Nat} {lv : pL} {st : List Value} {S : pS} (h : s_go cX7_lean A 2 flX7 ldX7 (some .int) rmX7_lean.cells rmX7_lean.slots post cells slots V stops n pc lv st S) : V cells slots pc lv st (gS A S) := s_run C Rt (fun _ h => List.mem_cons_of_mem _ h) eFLX7 eLDX7 stops n h
theorem srnX0_hasNumber {V : pV} {l : Launch} {A : pA} {post : Option Value → pS → Prop} {cells slots : Nat} (C : e_CX0_hasNumber V l) (Rt : e_RX0_hasNumber V (s_P A post)) (stops : List Nat) (n : Nat) {pc : Nat} {lv : pL} {st : List Value} {S : pS} (h : s_go cX0_hasNumber A 2 flX0 ldX0 (some .boolean) rmX0_hasNumber.cells rmX0_hasNumber.slots post cells slots V stops n pc lv st S) : V cells slots pc lv st (gS A S) := s_run C Rt (fun _ h => List.mem_cons_of_mem _ h) eFLX0 eLDX0 stops n h
theorem srnX2_leansOn {V : pV} {l : Launch} {A : pA} {post : Option Value → pS → Prop} {cells slots : Nat} (C : e_CX2_leansOn V l) (Rt : e_RX2_leansOn V (s_P A post)) (stops : List Nat) (n : Nat) {pc : Nat} {lv : pL} {st : List Value} {S : pS} (h : s_go cX2_leansOn A 2 flX2 ldX2 (some .boolean) rmX2_leansOn.cells rmX2_leansOn.slots post cells slots V stops n pc lv st S) : V cells slots pc lv st (gS A S) := s_run C Rt (fun _ h => List.mem_cons_of_mem _ h) eFLX2 eLDX2 stops n h
theorem srnX2_addFact {V : pV} {l : Launch} {A : pA} {post : Option Value → pS → Prop} {cells slots : Nat} (C : e_CX2_addFact V l) (Rt : e_RX2_addFact V (s_P A post)) (stops : List Nat) (n : Nat) {pc : Nat} {lv : pL} {st : List Value} {S : pS} (h : s_go cX2_addFact A 2 flX2 ldX2 none rmX2_addFact.cells rmX2_addFact.slots post cells slots V stops n pc lv st S) : V cells slots pc lv st (gS A S) := s_run C Rt (fun _ h => List.mem_cons_of_mem _ h) eFLX2 eLDX2 stops n h
theorem srnX7_fact {V : pV} {l : Launch} {A : pA} {post : Option Value → pS → Prop} {cells slots : Nat} (C : e_CX7_fact V l) (Rt : e_RX7_fact V (s_P A post)) (stops : List Nat) (n : Nat) {pc : Nat} {lv : pL} {st : List Value} {S : pS} (h : s_go cX7_fact A 5 flX7 ldX7 (some .int) rmX7_fact.cells rmX7_fact.slots post cells slots V stops n pc lv st S) : V cells slots pc lv st (gS A S) := s_run C Rt (fun _ h => List.mem_cons_of_mem _ h) eFLX7 eLDX7 stops n h
theorem srnX2_clear {V : pV} {l : Launch} {A : pA} {post : Option Value → pS → Prop} {cells slots : Nat} (C : e_CX2_clear V l) (Rt : e_RX2_clear V (s_P A post)) (stops : List Nat) (n : Nat) {pc : Nat} {lv : pL} {st : List Value} {S : pS} (h : s_go cX2_clear A 1 flX2 ldX2 none rmX2_clear.cells rmX2_clear.slots post cells slots V stops n pc lv st S) : V cells slots pc lv st (gS A S) := s_run C Rt (fun _ h => List.mem_cons_of_mem _ h) eFLX2 eLDX2 stops n h
theorem srnX2_restAsTold {V : pV} {l : Launch} {A : pA} {post : Option Value → pS → Prop} {cells slots : Nat} (C : e_CX2_restAsTold V l) (Rt : e_RX2_restAsTold V (s_P A post)) (stops : List Nat) (n : Nat) {pc : Nat} {lv : pL} {st : List Value} {S : pS} (h : s_go cX2_restAsTold A 5 flX2 ldX2 none rmX2_restAsTold.cells rmX2_restAsTold.slots post cells slots V stops n pc lv st S) : V cells slots pc lv st (gS A S) := s_run C Rt (fun _ h => List.mem_cons_of_mem _ h) eFLX2 eLDX2 stops n h
theorem srnX7_check {V : pV} {l : Launch} {A : pA} {post : Option Value → pS → Prop} {cells slots : Nat} (C : e_CX7_check V l) (Rt : e_RX7_check V (s_P A post)) (stops : List Nat) (n : Nat) {pc : Nat} {lv : pL} {st : List Value} {S : pS} (h : s_go cX7_check A 3 flX7 ldX7 (some .int) rmX7_check.cells rmX7_check.slots post cells slots V stops n pc lv st S) : V cells slots pc lv st (gS A S) := s_run C Rt (fun _ h => List.mem_cons_of_mem _ h) eFLX7 eLDX7 stops n h
theorem srnX0_groundIsUsable {V : pV} {l : Launch} {A : pA} {post : Option Value → pS → Prop} {cells slots : Nat} (C : e_CX0_groundIsUsable V l) (Rt : e_RX0_groundIsUsable V (s_P A post)) (stops : List Nat) (n : Nat) {pc : Nat} {lv : pL} {st : List Value} {S : pS} (h : s_go cX0_groundIsUsable A 3 flX0 ldX0 (some .boolean) rmX0_groundIsUsable.cells rmX0_groundIsUsable.slots post cells slots V stops n pc lv st S) : V cells slots pc lv st (gS A S) := s_run C Rt (fun _ h => List.mem_cons_of_mem _ h) eFLX0 eLDX0 stops n h
theorem srnX0_usableUpTo {V : pV} {l : Launch} {A : pA} {post : Option Value → pS → Prop} {cells slots : Nat} (C : e_CX0_usableUpTo V l) (Rt : e_RX0_usableUpTo V (s_P A post)) (stops : List Nat) (n : Nat) {pc : Nat} {lv : pL} {st : List Value} {S : pS} (h : s_go cX0_usableUpTo A 8 flX0 ldX0 (some .long) rmX0_usableUpTo.cells rmX0_usableUpTo.slots post cells slots V stops n pc lv st S) : V cells slots pc lv st (gS A S) := s_run C Rt (fun _ h => List.mem_cons_of_mem _ h) eFLX0 eLDX0 stops n h
theorem srnX2_isFresh {V : pV} {l : Launch} {A : pA} {post : Option Value → pS → Prop} {cells slots : Nat} (C : e_CX2_isFresh V l) (Rt : e_RX2_isFresh V (s_P A post)) (stops : List Nat) (n : Nat) {pc : Nat} {lv : pL} {st : List Value} {S : pS} (h : s_go cX2_isFresh A 6 flX2 ldX2 (some .boolean) rmX2_isFresh.cells rmX2_isFresh.slots post cells slots V stops n pc lv st S) : V cells slots pc lv st (gS A S) := s_run C Rt (fun _ h => List.mem_cons_of_mem _ h) eFLX2 eLDX2 stops n h
theorem srnX2_standsWith {V : pV} {l : Launch} {A : pA} {post : Option Value → pS → Prop} {cells slots : Nat} (C : e_CX2_standsWith V l) (Rt : e_RX2_standsWith V (s_P A post)) (stops : List Nat) (n : Nat) {pc : Nat} {lv : pL} {st : List Value} {S : pS} (h : s_go cX2_standsWith A 3 flX2 ldX2 (some .boolean) rmX2_standsWith.cells rmX2_standsWith.slots post cells slots V stops n pc lv st S) : V cells slots pc lv st (gS A S) := s_run C Rt (fun _ h => List.mem_cons_of_mem _ h) eFLX2 eLDX2 stops n h
theorem srnX0_holds {V : pV} {l : Launch} {A : pA} {post : Option Value → pS → Prop} {cells slots : Nat} (C : e_CX0_holds V l) (Rt : e_RX0_holds V (s_P A post)) (stops : List Nat) (n : Nat) {pc : Nat} {lv : pL} {st : List Value} {S : pS} (h : s_go cX0_holds A 6 flX0 ldX0 (some .boolean) rmX0_holds.cells rmX0_holds.slots post cells slots V stops n pc lv st S) : V cells slots pc lv st (gS A S) := s_run C Rt (fun _ h => List.mem_cons_of_mem _ h) eFLX0 eLDX0 stops n h
theorem srnX7_drop {V : pV} {l : Launch} {A : pA} {post : Option Value → pS → Prop} {cells slots : Nat} (C : e_CX7_drop V l) (Rt : e_RX7_drop V (s_P A post)) (stops : List Nat) (n : Nat) {pc : Nat} {lv : pL} {st : List Value} {S : pS} (h : s_go cX7_drop A 2 flX7 ldX7 (some .int) rmX7_drop.cells rmX7_drop.slots post cells slots V stops n pc lv st S) : V cells slots pc lv st (gS A S) := s_run C Rt (fun _ h => List.mem_cons_of_mem _ h) eFLX7 eLDX7 stops n h
theorem srnX7_usable {V : pV} {l : Launch} {A : pA} {post : Option Value → pS → Prop} {cells slots : Nat} (C : e_CX7_usable V l) (Rt : e_RX7_usable V (s_P A post)) (stops : List Nat) (n : Nat) {pc : Nat} {lv : pL} {st : List Value} {S : pS} (h : s_go cX7_usable A 2 flX7 ldX7 (some .int) rmX7_usable.cells rmX7_usable.slots post cells slots V stops n pc lv st S) : V cells slots pc lv st (gS A S) := s_run C Rt (fun _ h => List.mem_cons_of_mem _ h) eFLX7 eLDX7 stops n h
theorem srnX7_isIn {V : pV} {l : Launch} {A : pA} {post : Option Value → pS → Prop} {cells slots : Nat} (C : e_CX7_isIn V l) (Rt : e_RX7_isIn V (s_P A post)) (stops : List Nat) (n : Nat) {pc : Nat} {lv : pL} {st : List Value} {S : pS} (h : s_go cX7_isIn A 3 flX7 ldX7 (some .boolean) rmX7_isIn.cells rmX7_isIn.slots post cells slots V stops n pc lv st S) : V cells slots pc lv st (gS A S) := s_run C Rt (fun _ h => List.mem_cons_of_mem _ h) eFLX7 eLDX7 stops n h
theorem srnX7_oneIf {V : pV} {l : Launch} {A : pA} {post : Option Value → pS → Prop} {cells slots : Nat} (C : e_CX7_oneIf V l) (Rt : e_RX7_oneIf V (s_P A post)) (stops : List Nat) (n : Nat) {pc : Nat} {lv : pL} {st : List Value} {S : pS} (h : s_go cX7_oneIf A 1 flX7 ldX7 (some .int) rmX7_oneIf.cells rmX7_oneIf.slots post cells slots V stops n pc lv st S) : V cells slots pc lv st (gS A S) := s_run C Rt (fun _ h => List.mem_cons_of_mem _ h) eFLX7 eLDX7 stops n h
theorem srnX7_of {V : pV} {l : Launch} {A : pA} {post : Option Value → pS → Prop} {cells slots : Nat} (C : e_CX7_of V l) (Rt : e_RX7_of V (s_P A post)) (stops : List Nat) (n : Nat) {pc : Nat} {lv : pL} {st : List Value} {S : pS} (h : s_go cX7_of A 4 flX7 ldX7 (some .int) rmX7_of.cells rmX7_of.slots post cells slots V stops n pc lv st S) : V cells slots pc lv st (gS A S) := s_run C Rt (fun _ h => List.mem_cons_of_mem _ h) eFLX7 eLDX7 stops n h
theorem srnX2_groundAt {V : pV} {l : Launch} {A : pA} {post : Option Value → pS → Prop} {cells slots : Nat} (C : e_CX2_groundAt V l) (Rt : e_RX2_groundAt V (s_P A post)) (stops : List Nat) (n : Nat) {pc : Nat} {lv : pL} {st : List Value} {S : pS} (h : s_go cX2_groundAt A 3 flX2 ldX2 (some .int) rmX2_groundAt.cells rmX2_groundAt.slots post cells slots V stops n pc lv st S) : V cells slots pc lv st (gS A S) := s_run C Rt (fun _ h => List.mem_cons_of_mem _ h) eFLX2 eLDX2 stops n h
theorem srnX7_value {V : pV} {l : Launch} {A : pA} {post : Option Value → pS → Prop} {cells slots : Nat} (C : e_CX7_value V l) (Rt : e_RX7_value V (s_P A post)) (stops : List Nat) (n : Nat) {pc : Nat} {lv : pL} {st : List Value} {S : pS} (h : s_go cX7_value A 2 flX7 ldX7 (some .long) rmX7_value.cells rmX7_value.slots post cells slots V stops n pc lv st S) : V cells slots pc lv st (gS A S) := s_run C Rt (fun _ h => List.mem_cons_of_mem _ h) eFLX7 eLDX7 stops n h
theorem srnX7_save {V : pV} {l : Launch} {A : pA} {post : Option Value → pS → Prop} {cells slots : Nat} (C : e_CX7_save V l) (Rt : e_RX7_save V (s_P A post)) (stops : List Nat) (n : Nat) {pc : Nat} {lv : pL} {st : List Value} {S : pS} (h : s_go cX7_save A 2 flX7 ldX7 (some .int) rmX7_save.cells rmX7_save.slots post cells slots V stops n pc lv st S) : V cells slots pc lv st (gS A S) := s_run C Rt (fun _ h => List.mem_cons_of_mem _ h) eFLX7 eLDX7 stops n h
theorem srnX1_hasRoomFor {V : pV} {l : Launch} {A : pA} {post : Option Value → pS → Prop} {cells slots : Nat} (C : e_CX1_hasRoomFor V l) (Rt : e_RX1_hasRoomFor V (s_P A post)) (stops : List Nat) (n : Nat) {pc : Nat} {lv : pL} {st : List Value} {S : pS} (h : s_go cX1_hasRoomFor A 4 flX1 ldX1 (some .boolean) rmX1_hasRoomFor.cells rmX1_hasRoomFor.slots post cells slots V stops n pc lv st S) : V cells slots pc lv st (gS A S) := s_run C Rt (fun _ h => List.mem_cons_of_mem _ h) eFLX1 eLDX1 stops n h
theorem srnX2_rowBytes {V : pV} {l : Launch} {A : pA} {post : Option Value → pS → Prop} {cells slots : Nat} (C : e_CX2_rowBytes V l) (Rt : e_RX2_rowBytes V (s_P A post)) (stops : List Nat) (n : Nat) {pc : Nat} {lv : pL} {st : List Value} {S : pS} (h : s_go cX2_rowBytes A 1 flX2 ldX2 (some .int) rmX2_rowBytes.cells rmX2_rowBytes.slots post cells slots V stops n pc lv st S) : V cells slots pc lv st (gS A S) := s_run C Rt (fun _ h => List.mem_cons_of_mem _ h) eFLX2 eLDX2 stops n h
theorem srnX1_writeAll {V : pV} {l : Launch} {A : pA} {post : Option Value → pS → Prop} {cells slots : Nat} (C : e_CX1_writeAll V l) (Rt : e_RX1_writeAll V (s_P A post)) (stops : List Nat) (n : Nat) {pc : Nat} {lv : pL} {st : List Value} {S : pS} (h : s_go cX1_writeAll A 7 flX1 ldX1 (some .int) rmX1_writeAll.cells rmX1_writeAll.slots post cells slots V stops n pc lv st S) : V cells slots pc lv st (gS A S) := s_run C Rt (fun _ h => List.mem_cons_of_mem _ h) eFLX1 eLDX1 stops n h
theorem srnX6_begin {V : pV} {l : Launch} {A : pA} {post : Option Value → pS → Prop} {cells slots : Nat} (C : e_CX6_begin V l) (Rt : e_RX6_begin V (s_P A post)) (stops : List Nat) (n : Nat) {pc : Nat} {lv : pL} {st : List Value} {S : pS} (h : s_go cX6_begin A 5 flX6 ldX6 none rmX6_begin.cells rmX6_begin.slots post cells slots V stops n pc lv st S) : V cells slots pc lv st (gS A S) := s_run C Rt (fun _ h => List.mem_cons_of_mem _ h) eFLX6 eLDX6 stops n h
theorem srnX6_putRow {V : pV} {l : Launch} {A : pA} {post : Option Value → pS → Prop} {cells slots : Nat} (C : e_CX6_putRow V l) (Rt : e_RX6_putRow V (s_P A post)) (stops : List Nat) (n : Nat) {pc : Nat} {lv : pL} {st : List Value} {S : pS} (h : s_go cX6_putRow A 4 flX6 ldX6 none rmX6_putRow.cells rmX6_putRow.slots post cells slots V stops n pc lv st S) : V cells slots pc lv st (gS A S) := s_run C Rt (fun _ h => List.mem_cons_of_mem _ h) eFLX6 eLDX6 stops n h
theorem srnX6_put {V : pV} {l : Launch} {A : pA} {post : Option Value → pS → Prop} {cells slots : Nat} (C : e_CX6_put V l) (Rt : e_RX6_put V (s_P A post)) (stops : List Nat) (n : Nat) {pc : Nat} {lv : pL} {st : List Value} {S : pS} (h : s_go cX6_put A 2 flX6 ldX6 none rmX6_put.cells rmX6_put.slots post cells slots V stops n pc lv st S) : V cells slots pc lv st (gS A S) := s_run C Rt (fun _ h => List.mem_cons_of_mem _ h) eFLX6 eLDX6 stops n h
theorem srnX7_sumWith {V : pV} {l : Launch} {A : pA} {post : Option Value → pS → Prop} {cells slots : Nat} (C : e_CX7_sumWith V l) (Rt : e_RX7_sumWith V (s_P A post)) (stops : List Nat) (n : Nat) {pc : Nat} {lv : pL} {st : List Value} {S : pS} (h : s_go cX7_sumWith A 5 flX7 ldX7 (some .long) rmX7_sumWith.cells rmX7_sumWith.slots post cells slots V stops n pc lv st S) : V cells slots pc lv st (gS A S) := s_run C Rt (fun _ h => List.mem_cons_of_mem _ h) eFLX7 eLDX7 stops n h
theorem srnX6_putOne {V : pV} {l : Launch} {A : pA} {post : Option Value → pS → Prop} {cells slots : Nat} (C : e_CX6_putOne V l) (Rt : e_RX6_putOne V (s_P A post)) (stops : List Nat) (n : Nat) {pc : Nat} {lv : pL} {st : List Value} {S : pS} (h : s_go cX6_putOne A 2 flX6 ldX6 none rmX6_putOne.cells rmX6_putOne.slots post cells slots V stops n pc lv st S) : V cells slots pc lv st (gS A S) := s_run C Rt (fun _ h => List.mem_cons_of_mem _ h) eFLX6 eLDX6 stops n h
theorem srnX6_putNumber {V : pV} {l : Launch} {A : pA} {post : Option Value → pS → Prop} {cells slots : Nat} (C : e_CX6_putNumber V l) (Rt : e_RX6_putNumber V (s_P A post)) (stops : List Nat) (n : Nat) {pc : Nat} {lv : pL} {st : List Value} {S : pS} (h : s_go cX6_putNumber A 5 flX6 ldX6 none rmX6_putNumber.cells rmX6_putNumber.slots post cells slots V stops n pc lv st S) : V cells slots pc lv st (gS A S) := s_run C Rt (fun _ h => List.mem_cons_of_mem _ h) eFLX6 eLDX6 stops n h
theorem srnX7_lowestByte {V : pV} {l : Launch} {A : pA} {post : Option Value → pS → Prop} {cells slots : Nat} (C : e_CX7_lowestByte V l) (Rt : e_RX7_lowestByte V (s_P A post)) (stops : List Nat) (n : Nat) {pc : Nat} {lv : pL} {st : List Value} {S : pS} (h : s_go cX7_lowestByte A 2 flX7 ldX7 (some .int) rmX7_lowestByte.cells rmX7_lowestByte.slots post cells slots V stops n pc lv st S) : V cells slots pc lv st (gS A S) := s_run C Rt (fun _ h => List.mem_cons_of_mem _ h) eFLX7 eLDX7 stops n h
theorem srnX6_putPlain {V : pV} {l : Launch} {A : pA} {post : Option Value → pS → Prop} {cells slots : Nat} (C : e_CX6_putPlain V l) (Rt : e_RX6_putPlain V (s_P A post)) (stops : List Nat) (n : Nat) {pc : Nat} {lv : pL} {st : List Value} {S : pS} (h : s_go cX6_putPlain A 5 flX6 ldX6 none rmX6_putPlain.cells rmX6_putPlain.slots post cells slots V stops n pc lv st S) : V cells slots pc lv st (gS A S) := s_run C Rt (fun _ h => List.mem_cons_of_mem _ h) eFLX6 eLDX6 stops n h
theorem srnX1_writeHead {V : pV} {l : Launch} {A : pA} {post : Option Value → pS → Prop} {cells slots : Nat} (C : e_CX1_writeHead V l) (Rt : e_RX1_writeHead V (s_P A post)) (stops : List Nat) (n : Nat) {pc : Nat} {lv : pL} {st : List Value} {S : pS} (h : s_go cX1_writeHead A 4 flX1 ldX1 none rmX1_writeHead.cells rmX1_writeHead.slots post cells slots V stops n pc lv st S) : V cells slots pc lv st (gS A S) := s_run C Rt (fun _ h => List.mem_cons_of_mem _ h) eFLX1 eLDX1 stops n h
theorem srnX1_headPlace {V : pV} {l : Launch} {A : pA} {post : Option Value → pS → Prop} {cells slots : Nat} (C : e_CX1_headPlace V l) (Rt : e_RX1_headPlace V (s_P A post)) (stops : List Nat) (n : Nat) {pc : Nat} {lv : pL} {st : List Value} {S : pS} (h : s_go cX1_headPlace A 1 flX1 ldX1 (some .int) rmX1_headPlace.cells rmX1_headPlace.slots post cells slots V stops n pc lv st S) : V cells slots pc lv st (gS A S) := s_run C Rt (fun _ h => List.mem_cons_of_mem _ h) eFLX1 eLDX1 stops n h
theorem srnX7_open {V : pV} {l : Launch} {A : pA} {post : Option Value → pS → Prop} {cells slots : Nat} (C : e_CX7_open V l) (Rt : e_RX7_open V (s_P A post)) (stops : List Nat) (n : Nat) {pc : Nat} {lv : pL} {st : List Value} {S : pS} (h : s_go cX7_open A 1 flX7 ldX7 (some .int) rmX7_open.cells rmX7_open.slots post cells slots V stops n pc lv st S) : V cells slots pc lv st (gS A S) := s_run C Rt (fun _ h => List.mem_cons_of_mem _ h) eFLX7 eLDX7 stops n h
theorem srnX1_readAll {V : pV} {l : Launch} {A : pA} {post : Option Value → pS → Prop} {cells slots : Nat} (C : e_CX1_readAll V l) (Rt : e_RX1_readAll V (s_P A post)) (stops : List Nat) (n : Nat) {pc : Nat} {lv : pL} {st : List Value} {S : pS} (h : s_go cX1_readAll A 5 flX1 ldX1 none rmX1_readAll.cells rmX1_readAll.slots post cells slots V stops n pc lv st S) : V cells slots pc lv st (gS A S) := s_run C Rt (fun _ h => List.mem_cons_of_mem _ h) eFLX1 eLDX1 stops n h
theorem srnX1_readRows {V : pV} {l : Launch} {A : pA} {post : Option Value → pS → Prop} {cells slots : Nat} (C : e_CX1_readRows V l) (Rt : e_RX1_readRows V (s_P A post)) (stops : List Nat) (n : Nat) {pc : Nat} {lv : pL} {st : List Value} {S : pS} (h : s_go cX1_readRows A 4 flX1 ldX1 (some .int) rmX1_readRows.cells rmX1_readRows.slots post cells slots V stops n pc lv st S) : V cells slots pc lv st (gS A S) := s_run C Rt (fun _ h => List.mem_cons_of_mem _ h) eFLX1 eLDX1 stops n h
theorem srnX4_begin {V : pV} {l : Launch} {A : pA} {post : Option Value → pS → Prop} {cells slots : Nat} (C : e_CX4_begin V l) (Rt : e_RX4_begin V (s_P A post)) (stops : List Nat) (n : Nat) {pc : Nat} {lv : pL} {st : List Value} {S : pS} (h : s_go cX4_begin A 5 flX4 ldX4 none rmX4_begin.cells rmX4_begin.slots post cells slots V stops n pc lv st S) : V cells slots pc lv st (gS A S) := s_run C Rt (fun _ h => List.mem_cons_of_mem _ h) eFLX4 eLDX4 stops n h
theorem srnX4_nextRow {V : pV} {l : Launch} {A : pA} {post : Option Value → pS → Prop} {cells slots : Nat} (C : e_CX4_nextRow V l) (Rt : e_RX4_nextRow V (s_P A post)) (stops : List Nat) (n : Nat) {pc : Nat} {lv : pL} {st : List Value} {S : pS} (h : s_go cX4_nextRow A 8 flX4 ldX4 none rmX4_nextRow.cells rmX4_nextRow.slots post cells slots V stops n pc lv st S) : V cells slots pc lv st (gS A S) := s_run C Rt (fun _ h => List.mem_cons_of_mem _ h) eFLX4 eLDX4 stops n h
theorem srnX4_nextUpTo {V : pV} {l : Launch} {A : pA} {post : Option Value → pS → Prop} {cells slots : Nat} (C : e_CX4_nextUpTo V l) (Rt : e_RX4_nextUpTo V (s_P A post)) (stops : List Nat) (n : Nat) {pc : Nat} {lv : pL} {st : List Value} {S : pS} (h : s_go cX4_nextUpTo A 3 flX4 ldX4 (some .int) rmX4_nextUpTo.cells rmX4_nextUpTo.slots post cells slots V stops n pc lv st S) : V cells slots pc lv st (gS A S) := s_run C Rt (fun _ h => List.mem_cons_of_mem _ h) eFLX4 eLDX4 stops n h
theorem srnX4_nextNumber {V : pV} {l : Launch} {A : pA} {post : Option Value → pS → Prop} {cells slots : Nat} (C : e_CX4_nextNumber V l) (Rt : e_RX4_nextNumber V (s_P A post)) (stops : List Nat) (n : Nat) {pc : Nat} {lv : pL} {st : List Value} {S : pS} (h : s_go cX4_nextNumber A 5 flX4 ldX4 (some .long) rmX4_nextNumber.cells rmX4_nextNumber.slots post cells slots V stops n pc lv st S) : V cells slots pc lv st (gS A S) := s_run C Rt (fun _ h => List.mem_cons_of_mem _ h) eFLX4 eLDX4 stops n h
theorem srnX4_nextUnlike {V : pV} {l : Launch} {A : pA} {post : Option Value → pS → Prop} {cells slots : Nat} (C : e_CX4_nextUnlike V l) (Rt : e_RX4_nextUnlike V (s_P A post)) (stops : List Nat) (n : Nat) {pc : Nat} {lv : pL} {st : List Value} {S : pS} (h : s_go cX4_nextUnlike A 4 flX4 ldX4 (some .int) rmX4_nextUnlike.cells rmX4_nextUnlike.slots post cells slots V stops n pc lv st S) : V cells slots pc lv st (gS A S) := s_run C Rt (fun _ h => List.mem_cons_of_mem _ h) eFLX4 eLDX4 stops n h
theorem srnX4_expectSum {V : pV} {l : Launch} {A : pA} {post : Option Value → pS → Prop} {cells slots : Nat} (C : e_CX4_expectSum V l) (Rt : e_RX4_expectSum V (s_P A post)) (stops : List Nat) (n : Nat) {pc : Nat} {lv : pL} {st : List Value} {S : pS} (h : s_go cX4_expectSum A 2 flX4 ldX4 none rmX4_expectSum.cells rmX4_expectSum.slots post cells slots V stops n pc lv st S) : V cells slots pc lv st (gS A S) := s_run C Rt (fun _ h => List.mem_cons_of_mem _ h) eFLX4 eLDX4 stops n h
theorem srnX4_expect {V : pV} {l : Launch} {A : pA} {post : Option Value → pS → Prop} {cells slots : Nat} (C : e_CX4_expect V l) (Rt : e_RX4_expect V (s_P A post)) (stops : List Nat) (n : Nat) {pc : Nat} {lv : pL} {st : List Value} {S : pS} (h : s_go cX4_expect A 2 flX4 ldX4 none rmX4_expect.cells rmX4_expect.slots post cells slots V stops n pc lv st S) : V cells slots pc lv st (gS A S) := s_run C Rt (fun _ h => List.mem_cons_of_mem _ h) eFLX4 eLDX4 stops n h
theorem srnX1_firstWrongRow {V : pV} {l : Launch} {A : pA} {post : Option Value → pS → Prop} {cells slots : Nat} (C : e_CX1_firstWrongRow V l) (Rt : e_RX1_firstWrongRow V (s_P A post)) (stops : List Nat) (n : Nat) {pc : Nat} {lv : pL} {st : List Value} {S : pS} (h : s_go cX1_firstWrongRow A 4 flX1 ldX1 (some .int) rmX1_firstWrongRow.cells rmX1_firstWrongRow.slots post cells slots V stops n pc lv st S) : V cells slots pc lv st (gS A S) := s_run C Rt (fun _ h => List.mem_cons_of_mem _ h) eFLX1 eLDX1 stops n h
theorem srnX1_rowsOf {V : pV} {l : Launch} {A : pA} {post : Option Value → pS → Prop} {cells slots : Nat} (C : e_CX1_rowsOf V l) (Rt : e_RX1_rowsOf V (s_P A post)) (stops : List Nat) (n : Nat) {pc : Nat} {lv : pL} {st : List Value} {S : pS} (h : s_go cX1_rowsOf A 2 flX1 ldX1 (some .int) rmX1_rowsOf.cells rmX1_rowsOf.slots post cells slots V stops n pc lv st S) : V cells slots pc lv st (gS A S) := s_run C Rt (fun _ h => List.mem_cons_of_mem _ h) eFLX1 eLDX1 stops n h
theorem srnX1_numberAt {V : pV} {l : Launch} {A : pA} {post : Option Value → pS → Prop} {cells slots : Nat} (C : e_CX1_numberAt V l) (Rt : e_RX1_numberAt V (s_P A post)) (stops : List Nat) (n : Nat) {pc : Nat} {lv : pL} {st : List Value} {S : pS} (h : s_go cX1_numberAt A 6 flX1 ldX1 (some .long) rmX1_numberAt.cells rmX1_numberAt.slots post cells slots V stops n pc lv st S) : V cells slots pc lv st (gS A S) := s_run C Rt (fun _ h => List.mem_cons_of_mem _ h) eFLX1 eLDX1 stops n h
theorem srnX1_isWhole {V : pV} {l : Launch} {A : pA} {post : Option Value → pS → Prop} {cells slots : Nat} (C : e_CX1_isWhole V l) (Rt : e_RX1_isWhole V (s_P A post)) (stops : List Nat) (n : Nat) {pc : Nat} {lv : pL} {st : List Value} {S : pS} (h : s_go cX1_isWhole A 6 flX1 ldX1 (some .boolean) rmX1_isWhole.cells rmX1_isWhole.slots post cells slots V stops n pc lv st S) : V cells slots pc lv st (gS A S) := s_run C Rt (fun _ h => List.mem_cons_of_mem _ h) eFLX1 eLDX1 stops n h
theorem srnX1_generationOf {V : pV} {l : Launch} {A : pA} {post : Option Value → pS → Prop} {cells slots : Nat} (C : e_CX1_generationOf V l) (Rt : e_RX1_generationOf V (s_P A post)) (stops : List Nat) (n : Nat) {pc : Nat} {lv : pL} {st : List Value} {S : pS} (h : s_go cX1_generationOf A 2 flX1 ldX1 (some .int) rmX1_generationOf.cells rmX1_generationOf.slots post cells slots V stops n pc lv st S) : V cells slots pc lv st (gS A S) := s_run C Rt (fun _ h => List.mem_cons_of_mem _ h) eFLX1 eLDX1 stops n h
theorem srnX7_told {V : pV} {l : Launch} {A : pA} {post : Option Value → pS → Prop} {cells slots : Nat} (C : e_CX7_told V l) (Rt : e_RX7_told V (s_P A post)) (stops : List Nat) (n : Nat) {pc : Nat} {lv : pL} {st : List Value} {S : pS} (h : s_go cX7_told A 2 flX7 ldX7 (some .int) rmX7_told.cells rmX7_told.slots post cells slots V stops n pc lv st S) : V cells slots pc lv st (gS A S) := s_run C Rt (fun _ h => List.mem_cons_of_mem _ h) eFLX7 eLDX7 stops n h
theorem srnX7_pack {V : pV} {l : Launch} {A : pA} {post : Option Value → pS → Prop} {cells slots : Nat} (C : e_CX7_pack V l) (Rt : e_RX7_pack V (s_P A post)) (stops : List Nat) (n : Nat) {pc : Nat} {lv : pL} {st : List Value} {S : pS} (h : s_go cX7_pack A 7 flX7 ldX7 (some .int) rmX7_pack.cells rmX7_pack.slots post cells slots V stops n pc lv st S) : V cells slots pc lv st (gS A S) := s_run C Rt (fun _ h => List.mem_cons_of_mem _ h) eFLX7 eLDX7 stops n h
theorem srnX0_withGround {V : pV} {l : Launch} {A : pA} {post : Option Value → pS → Prop} {cells slots : Nat} (C : e_CX0_withGround V l) (Rt : e_RX0_withGround V (s_P A post)) (stops : List Nat) (n : Nat) {pc : Nat} {lv : pL} {st : List Value} {S : pS} (h : s_go cX0_withGround A 5 flX0 ldX0 (some .long) rmX0_withGround.cells rmX0_withGround.slots post cells slots V stops n pc lv st S) : V cells slots pc lv st (gS A S) := s_run C Rt (fun _ h => List.mem_cons_of_mem _ h) eFLX0 eLDX0 stops n h
theorem srnJ13_bitCount_95d88 {V : pV} {l : Launch} {A : pA} {post : Option Value → pS → Prop} {cells slots : Nat} (C : e_CJ13_bitCount_95d88 V l) (Rt : e_RJ13_bitCount_95d88 V (s_P A post)) (stops : List Nat) (n : Nat) {pc : Nat} {lv : pL} {st : List Value} {S : pS} (h : s_go cJ13_bitCount_95d88 A 2 flJ13 ldJ13 (some .int) rmJ13_bitCount_95d88.cells rmJ13_bitCount_95d88.slots post cells slots V stops n pc lv st S) : V cells slots pc lv st (gS A S) := s_run C Rt (fun _ h => List.mem_cons_of_mem _ h) eFLJ13 eLDJ13 stops n h
theorem srnX7_take {V : pV} {l : Launch} {A : pA} {post : Option Value → pS → Prop} {cells slots : Nat} (C : e_CX7_take V l) (Rt : e_RX7_take V (s_P A post)) (stops : List Nat) (n : Nat) {pc : Nat} {lv : pL} {st : List Value} {S : pS} (h : s_go cX7_take A 2 flX7 ldX7 (some .int) rmX7_take.cells rmX7_take.slots post cells slots V stops n pc lv st S) : V cells slots pc lv st (gS A S) := s_run C Rt (fun _ h => List.mem_cons_of_mem _ h) eFLX7 eLDX7 stops n h
theorem srnX7_readParcel {V : pV} {l : Launch} {A : pA} {post : Option Value → pS → Prop} {cells slots : Nat} (C : e_CX7_readParcel V l) (Rt : e_RX7_readParcel V (s_P A post)) (stops : List Nat) (n : Nat) {pc : Nat} {lv : pL} {st : List Value} {S : pS} (h : s_go cX7_readParcel A 3 flX7 ldX7 (some .int) rmX7_readParcel.cells rmX7_readParcel.slots post cells slots V stops n pc lv st S) : V cells slots pc lv st (gS A S) := s_run C Rt (fun _ h => List.mem_cons_of_mem _ h) eFLX7 eLDX7 stops n h
theorem srnX0_freePlace {V : pV} {l : Launch} {A : pA} {post : Option Value → pS → Prop} {cells slots : Nat} (C : e_CX0_freePlace V l) (Rt : e_RX0_freePlace V (s_P A post)) (stops : List Nat) (n : Nat) {pc : Nat} {lv : pL} {st : List Value} {S : pS} (h : s_go cX0_freePlace A 2 flX0 ldX0 (some (.object "FactLog$Fact")) rmX0_freePlace.cells rmX0_freePlace.slots post cells slots V stops n pc lv st S) : V cells slots pc lv st (gS A S) := s_run C Rt (fun _ h => List.mem_cons_of_mem _ h) eFLX0 eLDX0 stops n h
theorem srnX4_expectEnd {V : pV} {l : Launch} {A : pA} {post : Option Value → pS → Prop} {cells slots : Nat} (C : e_CX4_expectEnd V l) (Rt : e_RX4_expectEnd V (s_P A post)) (stops : List Nat) (n : Nat) {pc : Nat} {lv : pL} {st : List Value} {S : pS} (h : s_go cX4_expectEnd A 1 flX4 ldX4 none rmX4_expectEnd.cells rmX4_expectEnd.slots post cells slots V stops n pc lv st S) : V cells slots pc lv st (gS A S) := s_run C Rt (fun _ h => List.mem_cons_of_mem _ h) eFLX4 eLDX4 stops n h
theorem srnX0_addRead {V : pV} {l : Launch} {A : pA} {post : Option Value → pS → Prop} {cells slots : Nat} (C : e_CX0_addRead V l) (Rt : e_RX0_addRead V (s_P A post)) (stops : List Nat) (n : Nat) {pc : Nat} {lv : pL} {st : List Value} {S : pS} (h : s_go cX0_addRead A 6 flX0 ldX0 none rmX0_addRead.cells rmX0_addRead.slots post cells slots V stops n pc lv st S) : V cells slots pc lv st (gS A S) := s_run C Rt (fun _ h => List.mem_cons_of_mem _ h) eFLX0 eLDX0 stops n h
theorem srnX7_shelf {V : pV} {l : Launch} {A : pA} {post : Option Value → pS → Prop} {cells slots : Nat} (C : e_CX7_shelf V l) (Rt : e_RX7_shelf V (s_P A post)) (stops : List Nat) (n : Nat) {pc : Nat} {lv : pL} {st : List Value} {S : pS} (h : s_go cX7_shelf A 3 flX7 ldX7 (some .int) rmX7_shelf.cells rmX7_shelf.slots post cells slots V stops n pc lv st S) : V cells slots pc lv st (gS A S) := s_run C Rt (fun _ h => List.mem_cons_of_mem _ h) eFLX7 eLDX7 stops n h
theorem srnX3_beginAnew {V : pV} {l : Launch} {A : pA} {post : Option Value → pS → Prop} {cells slots : Nat} (C : e_CX3_beginAnew V l) (Rt : e_RX3_beginAnew V (s_P A post)) (stops : List Nat) (n : Nat) {pc : Nat} {lv : pL} {st : List Value} {S : pS} (h : s_go cX3_beginAnew A 4 flX3 ldX3 none rmX3_beginAnew.cells rmX3_beginAnew.slots post cells slots V stops n pc lv st S) : V cells slots pc lv st (gS A S) := s_run C Rt (fun _ h => List.mem_cons_of_mem _ h) eFLX3 eLDX3 stops n h
theorem srnX7_swap {V : pV} {l : Launch} {A : pA} {post : Option Value → pS → Prop} {cells slots : Nat} (C : e_CX7_swap V l) (Rt : e_RX7_swap V (s_P A post)) (stops : List Nat) (n : Nat) {pc : Nat} {lv : pL} {st : List Value} {S : pS} (h : s_go cX7_swap A 2 flX7 ldX7 (some .int) rmX7_swap.cells rmX7_swap.slots post cells slots V stops n pc lv st S) : V cells slots pc lv st (gS A S) := s_run C Rt (fun _ h => List.mem_cons_of_mem _ h) eFLX7 eLDX7 stops n h
theorem srnX7_move {V : pV} {l : Launch} {A : pA} {post : Option Value → pS → Prop} {cells slots : Nat} (C : e_CX7_move V l) (Rt : e_RX7_move V (s_P A post)) (stops : List Nat) (n : Nat) {pc : Nat} {lv : pL} {st : List Value} {S : pS} (h : s_go cX7_move A 4 flX7 ldX7 (some .int) rmX7_move.cells rmX7_move.slots post cells slots V stops n pc lv st S) : V cells slots pc lv st (gS A S) := s_run C Rt (fun _ h => List.mem_cons_of_mem _ h) eFLX7 eLDX7 stops n h
theorem srnX3_hasSpan {V : pV} {l : Launch} {A : pA} {post : Option Value → pS → Prop} {cells slots : Nat} (C : e_CX3_hasSpan V l) (Rt : e_RX3_hasSpan V (s_P A post)) (stops : List Nat) (n : Nat) {pc : Nat} {lv : pL} {st : List Value} {S : pS} (h : s_go cX3_hasSpan A 3 flX3 ldX3 (some .boolean) rmX3_hasSpan.cells rmX3_hasSpan.slots post cells slots V stops n pc lv st S) : V cells slots pc lv st (gS A S) := s_run C Rt (fun _ h => List.mem_cons_of_mem _ h) eFLX3 eLDX3 stops n h
theorem srnX7_item {V : pV} {l : Launch} {A : pA} {post : Option Value → pS → Prop} {cells slots : Nat} (C : e_CX7_item V l) (Rt : e_RX7_item V (s_P A post)) (stops : List Nat) (n : Nat) {pc : Nat} {lv : pL} {st : List Value} {S : pS} (h : s_go cX7_item A 2 flX7 ldX7 (some .int) rmX7_item.cells rmX7_item.slots post cells slots V stops n pc lv st S) : V cells slots pc lv st (gS A S) := s_run C Rt (fun _ h => List.mem_cons_of_mem _ h) eFLX7 eLDX7 stops n h
theorem srnX7_set {V : pV} {l : Launch} {A : pA} {post : Option Value → pS → Prop} {cells slots : Nat} (C : e_CX7_set V l) (Rt : e_RX7_set V (s_P A post)) (stops : List Nat) (n : Nat) {pc : Nat} {lv : pL} {st : List Value} {S : pS} (h : s_go cX7_set A 3 flX7 ldX7 (some .int) rmX7_set.cells rmX7_set.slots post cells slots V stops n pc lv st S) : V cells slots pc lv st (gS A S) := s_run C Rt (fun _ h => List.mem_cons_of_mem _ h) eFLX7 eLDX7 stops n h
theorem srnJx00060_init_a7421 {V : pV} {l : Launch} {A : pA} {post : Option Value → pS → Prop} {cells slots : Nat} (C : e_CJx00060_init_a7421 V l) (Rt : e_RJx00060_init_a7421 V (s_P A post)) (stops : List Nat) (n : Nat) {pc : Nat} {lv : pL} {st : List Value} {S : pS} (h : s_go cJx00060_init_a7421 A 2 flJx00060 ldJx00060 none rmJx00060_init_a7421.cells rmJx00060_init_a7421.slots post cells slots V stops n pc lv st S) : V cells slots pc lv st (gS A S) := s_run C Rt (fun _ h => List.mem_cons_of_mem _ h) eFLJx00060 eLDJx00060 stops n h
theorem srnX7_disk {V : pV} {l : Launch} {A : pA} {post : Option Value → pS → Prop} {cells slots : Nat} (C : e_CX7_disk V l) (Rt : e_RX7_disk V (s_P A post)) (stops : List Nat) (n : Nat) {pc : Nat} {lv : pL} {st : List Value} {S : pS} (h : s_go cX7_disk A 2 flX7 ldX7 (some .int) rmX7_disk.cells rmX7_disk.slots post cells slots V stops n pc lv st S) : V cells slots pc lv st (gS A S) := s_run C Rt (fun _ h => List.mem_cons_of_mem _ h) eFLX7 eLDX7 stops n h
theorem srnX7_poke {V : pV} {l : Launch} {A : pA} {post : Option Value → pS → Prop} {cells slots : Nat} (C : e_CX7_poke V l) (Rt : e_RX7_poke V (s_P A post)) (stops : List Nat) (n : Nat) {pc : Nat} {lv : pL} {st : List Value} {S : pS} (h : s_go cX7_poke A 3 flX7 ldX7 (some .int) rmX7_poke.cells rmX7_poke.slots post cells slots V stops n pc lv st S) : V cells slots pc lv st (gS A S) := s_run C Rt (fun _ h => List.mem_cons_of_mem _ h) eFLX7 eLDX7 stops n h
theorem srnX8_init {V : pV} {l : Launch} {A : pA} {post : Option Value → pS → Prop} {cells slots : Nat} (C : e_CX8_init V l) (Rt : e_RX8_init V (s_P A post)) (stops : List Nat) (n : Nat) {pc : Nat} {lv : pL} {st : List Value} {S : pS} (h : s_go cX8_init A 1 flX8 ldX8 none rmX8_init.cells rmX8_init.slots post cells slots V stops n pc lv st S) : V cells slots pc lv st (gS A S) := s_run C Rt (fun _ h => List.mem_cons_of_mem _ h) eFLX8 eLDX8 stops n h
theorem srnX8_thrown {V : pV} {l : Launch} {A : pA} {post : Option Value → pS → Prop} {cells slots : Nat} (C : e_CX8_thrown V l) (Rt : e_RX8_thrown V (s_P A post)) (stops : List Nat) (n : Nat) {pc : Nat} {lv : pL} {st : List Value} {S : pS} (h : s_go cX8_thrown A 1 flX8 ldX8 (some .int) rmX8_thrown.cells rmX8_thrown.slots post cells slots V stops n pc lv st S) : V cells slots pc lv st (gS A S) := s_run C Rt (fun _ h => List.mem_cons_of_mem _ h) eFLX8 eLDX8 stops n h
theorem srnX8_change {V : pV} {l : Launch} {A : pA} {post : Option Value → pS → Prop} {cells slots : Nat} (C : e_CX8_change V l) (Rt : e_RX8_change V (s_P A post)) (stops : List Nat) (n : Nat) {pc : Nat} {lv : pL} {st : List Value} {S : pS} (h : s_go cX8_change A 6 flX8 ldX8 (some .int) rmX8_change.cells rmX8_change.slots post cells slots V stops n pc lv st S) : V cells slots pc lv st (gS A S) := s_run C Rt (fun _ h => List.mem_cons_of_mem _ h) eFLX8 eLDX8 stops n h
theorem srnX8_in {V : pV} {l : Launch} {A : pA} {post : Option Value → pS → Prop} {cells slots : Nat} (C : e_CX8_in V l) (Rt : e_RX8_in V (s_P A post)) (stops : List Nat) (n : Nat) {pc : Nat} {lv : pL} {st : List Value} {S : pS} (h : s_go cX8_in A 6 flX8 ldX8 (some .boolean) rmX8_in.cells rmX8_in.slots post cells slots V stops n pc lv st S) : V cells slots pc lv st (gS A S) := s_run C Rt (fun _ h => List.mem_cons_of_mem _ h) eFLX8 eLDX8 stops n h
theorem srnX8_thing {V : pV} {l : Launch} {A : pA} {post : Option Value → pS → Prop} {cells slots : Nat} (C : e_CX8_thing V l) (Rt : e_RX8_thing V (s_P A post)) (stops : List Nat) (n : Nat) {pc : Nat} {lv : pL} {st : List Value} {S : pS} (h : s_go cX8_thing A 3 flX8 ldX8 (some .int) rmX8_thing.cells rmX8_thing.slots post cells slots V stops n pc lv st S) : V cells slots pc lv st (gS A S) := s_run C Rt (fun _ h => List.mem_cons_of_mem _ h) eFLX8 eLDX8 stops n h
theorem srnX8_rest {V : pV} {l : Launch} {A : pA} {post : Option Value → pS → Prop} {cells slots : Nat} (C : e_CX8_rest V l) (Rt : e_RX8_rest V (s_P A post)) (stops : List Nat) (n : Nat) {pc : Nat} {lv : pL} {st : List Value} {S : pS} (h : s_go cX8_rest A 3 flX8 ldX8 (some .int) rmX8_rest.cells rmX8_rest.slots post cells slots V stops n pc lv st S) : V cells slots pc lv st (gS A S) := s_run C Rt (fun _ h => List.mem_cons_of_mem _ h) eFLX8 eLDX8 stops n h
theorem srnX8_lean {V : pV} {l : Launch} {A : pA} {post : Option Value → pS → Prop} {cells slots : Nat} (C : e_CX8_lean V l) (Rt : e_RX8_lean V (s_P A post)) (stops : List Nat) (n : Nat) {pc : Nat} {lv : pL} {st : List Value} {S : pS} (h : s_go cX8_lean A 3 flX8 ldX8 (some .int) rmX8_lean.cells rmX8_lean.slots post cells slots V stops n pc lv st S) : V cells slots pc lv st (gS A S) := s_run C Rt (fun _ h => List.mem_cons_of_mem _ h) eFLX8 eLDX8 stops n h
theorem srnX8_isFact {V : pV} {l : Launch} {A : pA} {post : Option Value → pS → Prop} {cells slots : Nat} (C : e_CX8_isFact V l) (Rt : e_RX8_isFact V (s_P A post)) (stops : List Nat) (n : Nat) {pc : Nat} {lv : pL} {st : List Value} {S : pS} (h : s_go cX8_isFact A 2 flX8 ldX8 (some .boolean) rmX8_isFact.cells rmX8_isFact.slots post cells slots V stops n pc lv st S) : V cells slots pc lv st (gS A S) := s_run C Rt (fun _ h => List.mem_cons_of_mem _ h) eFLX8 eLDX8 stops n h
theorem srnX8_fact {V : pV} {l : Launch} {A : pA} {post : Option Value → pS → Prop} {cells slots : Nat} (C : e_CX8_fact V l) (Rt : e_RX8_fact V (s_P A post)) (stops : List Nat) (n : Nat) {pc : Nat} {lv : pL} {st : List Value} {S : pS} (h : s_go cX8_fact A 6 flX8 ldX8 (some .int) rmX8_fact.cells rmX8_fact.slots post cells slots V stops n pc lv st S) : V cells slots pc lv st (gS A S) := s_run C Rt (fun _ h => List.mem_cons_of_mem _ h) eFLX8 eLDX8 stops n h
theorem srnX8_check {V : pV} {l : Launch} {A : pA} {post : Option Value → pS → Prop} {cells slots : Nat} (C : e_CX8_check V l) (Rt : e_RX8_check V (s_P A post)) (stops : List Nat) (n : Nat) {pc : Nat} {lv : pL} {st : List Value} {S : pS} (h : s_go cX8_check A 6 flX8 ldX8 (some .int) rmX8_check.cells rmX8_check.slots post cells slots V stops n pc lv st S) : V cells slots pc lv st (gS A S) := s_run C Rt (fun _ h => List.mem_cons_of_mem _ h) eFLX8 eLDX8 stops n h
theorem srnX8_isUsable {V : pV} {l : Launch} {A : pA} {post : Option Value → pS → Prop} {cells slots : Nat} (C : e_CX8_isUsable V l) (Rt : e_RX8_isUsable V (s_P A post)) (stops : List Nat) (n : Nat) {pc : Nat} {lv : pL} {st : List Value} {S : pS} (h : s_go cX8_isUsable A 4 flX8 ldX8 (some .boolean) rmX8_isUsable.cells rmX8_isUsable.slots post cells slots V stops n pc lv st S) : V cells slots pc lv st (gS A S) := s_run C Rt (fun _ h => List.mem_cons_of_mem _ h) eFLX8 eLDX8 stops n h
theorem srnX8_isFresh {V : pV} {l : Launch} {A : pA} {post : Option Value → pS → Prop} {cells slots : Nat} (C : e_CX8_isFresh V l) (Rt : e_RX8_isFresh V (s_P A post)) (stops : List Nat) (n : Nat) {pc : Nat} {lv : pL} {st : List Value} {S : pS} (h : s_go cX8_isFresh A 8 flX8 ldX8 (some .boolean) rmX8_isFresh.cells rmX8_isFresh.slots post cells slots V stops n pc lv st S) : V cells slots pc lv st (gS A S) := s_run C Rt (fun _ h => List.mem_cons_of_mem _ h) eFLX8 eLDX8 stops n h
theorem srnX8_drop {V : pV} {l : Launch} {A : pA} {post : Option Value → pS → Prop} {cells slots : Nat} (C : e_CX8_drop V l) (Rt : e_RX8_drop V (s_P A post)) (stops : List Nat) (n : Nat) {pc : Nat} {lv : pL} {st : List Value} {S : pS} (h : s_go cX8_drop A 2 flX8 ldX8 (some .int) rmX8_drop.cells rmX8_drop.slots post cells slots V stops n pc lv st S) : V cells slots pc lv st (gS A S) := s_run C Rt (fun _ h => List.mem_cons_of_mem _ h) eFLX8 eLDX8 stops n h
theorem srnX8_usable {V : pV} {l : Launch} {A : pA} {post : Option Value → pS → Prop} {cells slots : Nat} (C : e_CX8_usable V l) (Rt : e_RX8_usable V (s_P A post)) (stops : List Nat) (n : Nat) {pc : Nat} {lv : pL} {st : List Value} {S : pS} (h : s_go cX8_usable A 2 flX8 ldX8 (some .int) rmX8_usable.cells rmX8_usable.slots post cells slots V stops n pc lv st S) : V cells slots pc lv st (gS A S) := s_run C Rt (fun _ h => List.mem_cons_of_mem _ h) eFLX8 eLDX8 stops n h
theorem srnX8_of {V : pV} {l : Launch} {A : pA} {post : Option Value → pS → Prop} {cells slots : Nat} (C : e_CX8_of V l) (Rt : e_RX8_of V (s_P A post)) (stops : List Nat) (n : Nat) {pc : Nat} {lv : pL} {st : List Value} {S : pS} (h : s_go cX8_of A 5 flX8 ldX8 (some .int) rmX8_of.cells rmX8_of.slots post cells slots V stops n pc lv st S) : V cells slots pc lv st (gS A S) := s_run C Rt (fun _ h => List.mem_cons_of_mem _ h) eFLX8 eLDX8 stops n h
theorem srnX8_plainOf {V : pV} {l : Launch} {A : pA} {post : Option Value → pS → Prop} {cells slots : Nat} (C : e_CX8_plainOf V l) (Rt : e_RX8_plainOf V (s_P A post)) (stops : List Nat) (n : Nat) {pc : Nat} {lv : pL} {st : List Value} {S : pS} (h : s_go cX8_plainOf A 3 flX8 ldX8 (some .int) rmX8_plainOf.cells rmX8_plainOf.slots post cells slots V stops n pc lv st S) : V cells slots pc lv st (gS A S) := s_run C Rt (fun _ h => List.mem_cons_of_mem _ h) eFLX8 eLDX8 stops n h
theorem srnX8_value {V : pV} {l : Launch} {A : pA} {post : Option Value → pS → Prop} {cells slots : Nat} (C : e_CX8_value V l) (Rt : e_RX8_value V (s_P A post)) (stops : List Nat) (n : Nat) {pc : Nat} {lv : pL} {st : List Value} {S : pS} (h : s_go cX8_value A 2 flX8 ldX8 (some .long) rmX8_value.cells rmX8_value.slots post cells slots V stops n pc lv st S) : V cells slots pc lv st (gS A S) := s_run C Rt (fun _ h => List.mem_cons_of_mem _ h) eFLX8 eLDX8 stops n h
theorem srnX8_save {V : pV} {l : Launch} {A : pA} {post : Option Value → pS → Prop} {cells slots : Nat} (C : e_CX8_save V l) (Rt : e_RX8_save V (s_P A post)) (stops : List Nat) (n : Nat) {pc : Nat} {lv : pL} {st : List Value} {S : pS} (h : s_go cX8_save A 10 flX8 ldX8 (some .int) rmX8_save.cells rmX8_save.slots post cells slots V stops n pc lv st S) : V cells slots pc lv st (gS A S) := s_run C Rt (fun _ h => List.mem_cons_of_mem _ h) eFLX8 eLDX8 stops n h
theorem srnX8_makeRow {V : pV} {l : Launch} {A : pA} {post : Option Value → pS → Prop} {cells slots : Nat} (C : e_CX8_makeRow V l) (Rt : e_RX8_makeRow V (s_P A post)) (stops : List Nat) (n : Nat) {pc : Nat} {lv : pL} {st : List Value} {S : pS} (h : s_go cX8_makeRow A 3 flX8 ldX8 none rmX8_makeRow.cells rmX8_makeRow.slots post cells slots V stops n pc lv st S) : V cells slots pc lv st (gS A S) := s_run C Rt (fun _ h => List.mem_cons_of_mem _ h) eFLX8 eLDX8 stops n h
theorem srnX8_make {V : pV} {l : Launch} {A : pA} {post : Option Value → pS → Prop} {cells slots : Nat} (C : e_CX8_make V l) (Rt : e_RX8_make V (s_P A post)) (stops : List Nat) (n : Nat) {pc : Nat} {lv : pL} {st : List Value} {S : pS} (h : s_go cX8_make A 5 flX8 ldX8 none rmX8_make.cells rmX8_make.slots post cells slots V stops n pc lv st S) : V cells slots pc lv st (gS A S) := s_run C Rt (fun _ h => List.mem_cons_of_mem _ h) eFLX8 eLDX8 stops n h
theorem srnX8_sumWith {V : pV} {l : Launch} {A : pA} {post : Option Value → pS → Prop} {cells slots : Nat} (C : e_CX8_sumWith V l) (Rt : e_RX8_sumWith V (s_P A post)) (stops : List Nat) (n : Nat) {pc : Nat} {lv : pL} {st : List Value} {S : pS} (h : s_go cX8_sumWith A 5 flX8 ldX8 (some .long) rmX8_sumWith.cells rmX8_sumWith.slots post cells slots V stops n pc lv st S) : V cells slots pc lv st (gS A S) := s_run C Rt (fun _ h => List.mem_cons_of_mem _ h) eFLX8 eLDX8 stops n h
theorem srnX8_open {V : pV} {l : Launch} {A : pA} {post : Option Value → pS → Prop} {cells slots : Nat} (C : e_CX8_open V l) (Rt : e_RX8_open V (s_P A post)) (stops : List Nat) (n : Nat) {pc : Nat} {lv : pL} {st : List Value} {S : pS} (h : s_go cX8_open A 4 flX8 ldX8 (some .int) rmX8_open.cells rmX8_open.slots post cells slots V stops n pc lv st S) : V cells slots pc lv st (gS A S) := s_run C Rt (fun _ h => List.mem_cons_of_mem _ h) eFLX8 eLDX8 stops n h
theorem srnX8_isWhole {V : pV} {l : Launch} {A : pA} {post : Option Value → pS → Prop} {cells slots : Nat} (C : e_CX8_isWhole V l) (Rt : e_RX8_isWhole V (s_P A post)) (stops : List Nat) (n : Nat) {pc : Nat} {lv : pL} {st : List Value} {S : pS} (h : s_go cX8_isWhole A 8 flX8 ldX8 (some .boolean) rmX8_isWhole.cells rmX8_isWhole.slots post cells slots V stops n pc lv st S) : V cells slots pc lv st (gS A S) := s_run C Rt (fun _ h => List.mem_cons_of_mem _ h) eFLX8 eLDX8 stops n h
theorem srnX8_bytesAt {V : pV} {l : Launch} {A : pA} {post : Option Value → pS → Prop} {cells slots : Nat} (C : e_CX8_bytesAt V l) (Rt : e_RX8_bytesAt V (s_P A post)) (stops : List Nat) (n : Nat) {pc : Nat} {lv : pL} {st : List Value} {S : pS} (h : s_go cX8_bytesAt A 5 flX8 ldX8 (some .long) rmX8_bytesAt.cells rmX8_bytesAt.slots post cells slots V stops n pc lv st S) : V cells slots pc lv st (gS A S) := s_run C Rt (fun _ h => List.mem_cons_of_mem _ h) eFLX8 eLDX8 stops n h
theorem srnX8_firstWrong {V : pV} {l : Launch} {A : pA} {post : Option Value → pS → Prop} {cells slots : Nat} (C : e_CX8_firstWrong V l) (Rt : e_RX8_firstWrong V (s_P A post)) (stops : List Nat) (n : Nat) {pc : Nat} {lv : pL} {st : List Value} {S : pS} (h : s_go cX8_firstWrong A 12 flX8 ldX8 (some .int) rmX8_firstWrong.cells rmX8_firstWrong.slots post cells slots V stops n pc lv st S) : V cells slots pc lv st (gS A S) := s_run C Rt (fun _ h => List.mem_cons_of_mem _ h) eFLX8 eLDX8 stops n h
theorem srnX8_generationOf {V : pV} {l : Launch} {A : pA} {post : Option Value → pS → Prop} {cells slots : Nat} (C : e_CX8_generationOf V l) (Rt : e_RX8_generationOf V (s_P A post)) (stops : List Nat) (n : Nat) {pc : Nat} {lv : pL} {st : List Value} {S : pS} (h : s_go cX8_generationOf A 2 flX8 ldX8 (some .int) rmX8_generationOf.cells rmX8_generationOf.slots post cells slots V stops n pc lv st S) : V cells slots pc lv st (gS A S) := s_run C Rt (fun _ h => List.mem_cons_of_mem _ h) eFLX8 eLDX8 stops n h
theorem srnX8_reads {V : pV} {l : Launch} {A : pA} {post : Option Value → pS → Prop} {cells slots : Nat} (C : e_CX8_reads V l) (Rt : e_RX8_reads V (s_P A post)) (stops : List Nat) (n : Nat) {pc : Nat} {lv : pL} {st : List Value} {S : pS} (h : s_go cX8_reads A 4 flX8 ldX8 none rmX8_reads.cells rmX8_reads.slots post cells slots V stops n pc lv st S) : V cells slots pc lv st (gS A S) := s_run C Rt (fun _ h => List.mem_cons_of_mem _ h) eFLX8 eLDX8 stops n h
theorem srnX8_disk {V : pV} {l : Launch} {A : pA} {post : Option Value → pS → Prop} {cells slots : Nat} (C : e_CX8_disk V l) (Rt : e_RX8_disk V (s_P A post)) (stops : List Nat) (n : Nat) {pc : Nat} {lv : pL} {st : List Value} {S : pS} (h : s_go cX8_disk A 2 flX8 ldX8 (some .int) rmX8_disk.cells rmX8_disk.slots post cells slots V stops n pc lv st S) : V cells slots pc lv st (gS A S) := s_run C Rt (fun _ h => List.mem_cons_of_mem _ h) eFLX8 eLDX8 stops n h
theorem srnX8_poke {V : pV} {l : Launch} {A : pA} {post : Option Value → pS → Prop} {cells slots : Nat} (C : e_CX8_poke V l) (Rt : e_RX8_poke V (s_P A post)) (stops : List Nat) (n : Nat) {pc : Nat} {lv : pL} {st : List Value} {S : pS} (h : s_go cX8_poke A 3 flX8 ldX8 (some .int) rmX8_poke.cells rmX8_poke.slots post cells slots V stops n pc lv st S) : V cells slots pc lv st (gS A S) := s_run C Rt (fun _ h => List.mem_cons_of_mem _ h) eFLX8 eLDX8 stops n h
theorem srnX8_told {V : pV} {l : Launch} {A : pA} {post : Option Value → pS → Prop} {cells slots : Nat} (C : e_CX8_told V l) (Rt : e_RX8_told V (s_P A post)) (stops : List Nat) (n : Nat) {pc : Nat} {lv : pL} {st : List Value} {S : pS} (h : s_go cX8_told A 2 flX8 ldX8 (some .int) rmX8_told.cells rmX8_told.slots post cells slots V stops n pc lv st S) : V cells slots pc lv st (gS A S) := s_run C Rt (fun _ h => List.mem_cons_of_mem _ h) eFLX8 eLDX8 stops n h
theorem srnX8_pack {V : pV} {l : Launch} {A : pA} {post : Option Value → pS → Prop} {cells slots : Nat} (C : e_CX8_pack V l) (Rt : e_RX8_pack V (s_P A post)) (stops : List Nat) (n : Nat) {pc : Nat} {lv : pL} {st : List Value} {S : pS} (h : s_go cX8_pack A 7 flX8 ldX8 (some .int) rmX8_pack.cells rmX8_pack.slots post cells slots V stops n pc lv st S) : V cells slots pc lv st (gS A S) := s_run C Rt (fun _ h => List.mem_cons_of_mem _ h) eFLX8 eLDX8 stops n h
theorem srnX8_take {V : pV} {l : Launch} {A : pA} {post : Option Value → pS → Prop} {cells slots : Nat} (C : e_CX8_take V l) (Rt : e_RX8_take V (s_P A post)) (stops : List Nat) (n : Nat) {pc : Nat} {lv : pL} {st : List Value} {S : pS} (h : s_go cX8_take A 6 flX8 ldX8 (some .int) rmX8_take.cells rmX8_take.slots post cells slots V stops n pc lv st S) : V cells slots pc lv st (gS A S) := s_run C Rt (fun _ h => List.mem_cons_of_mem _ h) eFLX8 eLDX8 stops n h
theorem srnX8_parcel {V : pV} {l : Launch} {A : pA} {post : Option Value → pS → Prop} {cells slots : Nat} (C : e_CX8_parcel V l) (Rt : e_RX8_parcel V (s_P A post)) (stops : List Nat) (n : Nat) {pc : Nat} {lv : pL} {st : List Value} {S : pS} (h : s_go cX8_parcel A 15 flX8 ldX8 (some .int) rmX8_parcel.cells rmX8_parcel.slots post cells slots V stops n pc lv st S) : V cells slots pc lv st (gS A S) := s_run C Rt (fun _ h => List.mem_cons_of_mem _ h) eFLX8 eLDX8 stops n h
theorem srnX8_next {V : pV} {l : Launch} {A : pA} {post : Option Value → pS → Prop} {cells slots : Nat} (C : e_CX8_next V l) (Rt : e_RX8_next V (s_P A post)) (stops : List Nat) (n : Nat) {pc : Nat} {lv : pL} {st : List Value} {S : pS} (h : s_go cX8_next A 2 flX8 ldX8 (some .int) rmX8_next.cells rmX8_next.slots post cells slots V stops n pc lv st S) : V cells slots pc lv st (gS A S) := s_run C Rt (fun _ h => List.mem_cons_of_mem _ h) eFLX8 eLDX8 stops n h
theorem srnX8_nextBytes {V : pV} {l : Launch} {A : pA} {post : Option Value → pS → Prop} {cells slots : Nat} (C : e_CX8_nextBytes V l) (Rt : e_RX8_nextBytes V (s_P A post)) (stops : List Nat) (n : Nat) {pc : Nat} {lv : pL} {st : List Value} {S : pS} (h : s_go cX8_nextBytes A 5 flX8 ldX8 (some .long) rmX8_nextBytes.cells rmX8_nextBytes.slots post cells slots V stops n pc lv st S) : V cells slots pc lv st (gS A S) := s_run C Rt (fun _ h => List.mem_cons_of_mem _ h) eFLX8 eLDX8 stops n h
theorem srnX8_shelf {V : pV} {l : Launch} {A : pA} {post : Option Value → pS → Prop} {cells slots : Nat} (C : e_CX8_shelf V l) (Rt : e_RX8_shelf V (s_P A post)) (stops : List Nat) (n : Nat) {pc : Nat} {lv : pL} {st : List Value} {S : pS} (h : s_go cX8_shelf A 4 flX8 ldX8 (some .int) rmX8_shelf.cells rmX8_shelf.slots post cells slots V stops n pc lv st S) : V cells slots pc lv st (gS A S) := s_run C Rt (fun _ h => List.mem_cons_of_mem _ h) eFLX8 eLDX8 stops n h
theorem srnX8_swap {V : pV} {l : Launch} {A : pA} {post : Option Value → pS → Prop} {cells slots : Nat} (C : e_CX8_swap V l) (Rt : e_RX8_swap V (s_P A post)) (stops : List Nat) (n : Nat) {pc : Nat} {lv : pL} {st : List Value} {S : pS} (h : s_go cX8_swap A 3 flX8 ldX8 (some .int) rmX8_swap.cells rmX8_swap.slots post cells slots V stops n pc lv st S) : V cells slots pc lv st (gS A S) := s_run C Rt (fun _ h => List.mem_cons_of_mem _ h) eFLX8 eLDX8 stops n h
theorem srnX8_move {V : pV} {l : Launch} {A : pA} {post : Option Value → pS → Prop} {cells slots : Nat} (C : e_CX8_move V l) (Rt : e_RX8_move V (s_P A post)) (stops : List Nat) (n : Nat) {pc : Nat} {lv : pL} {st : List Value} {S : pS} (h : s_go cX8_move A 5 flX8 ldX8 (some .int) rmX8_move.cells rmX8_move.slots post cells slots V stops n pc lv st S) : V cells slots pc lv st (gS A S) := s_run C Rt (fun _ h => List.mem_cons_of_mem _ h) eFLX8 eLDX8 stops n h
theorem srnX8_item {V : pV} {l : Launch} {A : pA} {post : Option Value → pS → Prop} {cells slots : Nat} (C : e_CX8_item V l) (Rt : e_RX8_item V (s_P A post)) (stops : List Nat) (n : Nat) {pc : Nat} {lv : pL} {st : List Value} {S : pS} (h : s_go cX8_item A 2 flX8 ldX8 (some .int) rmX8_item.cells rmX8_item.slots post cells slots V stops n pc lv st S) : V cells slots pc lv st (gS A S) := s_run C Rt (fun _ h => List.mem_cons_of_mem _ h) eFLX8 eLDX8 stops n h
theorem srnX8_set {V : pV} {l : Launch} {A : pA} {post : Option Value → pS → Prop} {cells slots : Nat} (C : e_CX8_set V l) (Rt : e_RX8_set V (s_P A post)) (stops : List Nat) (n : Nat) {pc : Nat} {lv : pL} {st : List Value} {S : pS} (h : s_go cX8_set A 3 flX8 ldX8 (some .int) rmX8_set.cells rmX8_set.slots post cells slots V stops n pc lv st S) : V cells slots pc lv st (gS A S) := s_run C Rt (fun _ h => List.mem_cons_of_mem _ h) eFLX8 eLDX8 stops n h
