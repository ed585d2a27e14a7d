/-! the reference: its public reading methods -/
section ZMP
variable {g : zG} {l : Launch} {K : Int32 → zS → Prop} {X : String → zS → Prop} {σ : zS} {m : Nat → Int32}
abbrev I32 (z : Int) : Prop := -2147483648 ≤ z ∧ z < 2147483648
def setN (m : Nat → Int32) (u z : Int) : Int := if z = 0 then nS m else if z = 1 then nH m else if z = 2 then cols m else if z = 3 then boxesOf m 0 else if z = 4 then boxesOf m 1 else if z = 5 then nC m else if z = 6 then tiedMany m else if z = 7 then seamsN m 1 else if z = 8 then seamsN m (-1) else u
noncomputable def slN (m : Nat → Int32) (k : Nat) (z : Int) : Int := if z = 0 then wd m k else if z = 1 then fst m k else if z = 2 then tu m k else if z = 3 then td m k else if z = 4 then ct m k 0 else if z = 5 then ct m k 1 else if z = 6 then unl m k 0 else unl m k 1
def snN (m : Nat → Int32) (a : Int) (c r : Nat) : Int := if stt m a c = 0 then cS m a c r else if stt m a c = 1 then -2 else -1
def opN (m : Nat → Int32) (a : Int) : Nat := nH m * colsAs m a 2 3
end ZMP

