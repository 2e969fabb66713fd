/-! FactLog$Reader.nextRow -/
def fS (S : pS) (i : Nat) (kd : Int32) (vl : Int64) (t : Nat) (th dt ct : Nat → Int32) (f : Nat) (on : Nat → Int32) : pS := (fun k' i' j' => if k' = 6 ∧ i' = i ∧ j' = 0 then kd else if k' = 6 ∧ i' = i ∧ j' = 2 then 0 else if k' = 6 ∧ i' = i ∧ j' = 3 then 0 else if k' = 6 ∧ i' = i ∧ j' = 4 then nI t else if k' = 6 ∧ i' = i ∧ j' = 8 then nI f else if k' = 7 ∧ i' = i ∧ j' < t then th j' else if k' = 8 ∧ i' = i ∧ j' < t then dt j' else if k' = 9 ∧ i' = i ∧ j' < t then ct j' else if k' = 10 ∧ i' = i ∧ j' < f then on j' else S.1 k' i' j', fun k' i' j' => if k' = 6 ∧ i' = i ∧ j' = 1 then vl else S.2.1 k' i' j', S.2.2)
theorem fS_1 (S : pS) (i : Nat) (kd : Int32) (vl : Int64) (t : Nat) (th dt ct : Nat → Int32) (f : Nat) (on : Nat → Int32) (k' i' j' : Nat) : (fS S i kd vl t th dt ct f on).1 k' i' j' = if k' = 6 ∧ i' = i ∧ j' = 0 then kd else if k' = 6 ∧ i' = i ∧ j' = 2 then 0 else if k' = 6 ∧ i' = i ∧ j' = 3 then 0 else if k' = 6 ∧ i' = i ∧ j' = 4 then nI t else if k' = 6 ∧ i' = i ∧ j' = 8 then nI f else if k' = 7 ∧ i' = i ∧ j' < t then th j' else if k' = 8 ∧ i' = i ∧ j' < t then dt j' else if k' = 9 ∧ i' = i ∧ j' < t then ct j' else if k' = 10 ∧ i' = i ∧ j' < f then on j' else S.1 k' i' j' := rfl
theorem fS_2 (S : pS) (i : Nat) (kd : Int32) (vl : Int64) (t : Nat) (th dt ct : Nat → Int32) (f : Nat) (on : Nat → Int32) (k' i' j' : Nat) : (fS S i kd vl t th dt ct f on).2.1 k' i' j' = if k' = 6 ∧ i' = i ∧ j' = 1 then vl else S.2.1 k' i' j' := rfl
theorem fS_3 (S : pS) (i : Nat) (kd : Int32) (vl : Int64) (t : Nat) (th dt ct : Nat → Int32) (f : Nat) (on : Nat → Int32) : (fS S i kd vl t th dt ct f on).2.2 = S.2.2 := rfl
section
variable {S : pS} {i t f : Nat} {kd : Int32} {vl : Int64} {th dt ct on : Nat → Int32} {ρ : pR}
theorem fS_q {qk qi : Nat} (h : qk = 12 ∨ qk = 21) : (fS S i kd vl t th dt ct f on).1 qk qi = S.1 qk qi := by
  funext j
  rcases h with rfl | rfl <;> rfl
theorem fS_rQ {qk qi e : Nat} (h : rQ S qk qi e) : rQ (fS S i kd vl t th dt ct f on) qk qi e := h
theorem fS_clr : clrF (rS S ρ) i = rS (fS S i 0 0 0 th dt ct 0 on) ρ := by
  refine Prod.ext ?_ (Prod.ext ?_ rfl)
  · funext k' i' j'
    simp only [clrF, u_1, rS_1, fS_1]
    grind (splits := 40) [nI_0]
  · funext k' i' j'
    simp only [clrF, u_1, rS_2, fS_2]
    grind (splits := 40)
theorem fS_kd {x : Int32} : uI (rS (fS S i kd vl t th dt ct f on) ρ) 6 i 0 x = rS (fS S i x vl t th dt ct f on) ρ := by
  refine Prod.ext ?_ rfl
  funext k' i' j'
  simp only [u_1, rS_1, fS_1]
  grind (splits := 40)
theorem fS_vl {x : Int64} : uJ (rS (fS S i kd vl t th dt ct f on) ρ) 6 i 1 x = rS (fS S i kd x t th dt ct f on) ρ := by
  refine Prod.ext rfl (Prod.ext ?_ rfl)
  funext k' i' j'
  simp only [u_1, rS_2, fS_2]
  grind (splits := 40)
theorem fS_adT {x d c : Int32} : adT (rS (fS S i kd vl t th dt ct f on) ρ) i t x d c = rS (fS S i kd vl (t + 1) (upd th t x) (upd dt t d) (upd ct t c) f on) ρ := by
  refine Prod.ext ?_ rfl
  funext k' i' j'
  simp only [adT, u_1, rS_1, fS_1, upd]
  grind (splits := 60)
theorem fS_adF {x : Int32} : adF (rS (fS S i kd vl t th dt ct f on) ρ) i f x = rS (fS S i kd vl t th dt ct (f + 1) (upd on f x)) ρ := by
  refine Prod.ext ?_ rfl
  funext k' i' j'
  simp only [adF, u_1, rS_1, fS_1, upd]
  grind (splits := 60)
end
