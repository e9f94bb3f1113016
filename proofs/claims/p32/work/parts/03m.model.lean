/-! The memory of the reference: its object (0) and its six rows of ints (1 v, 2 spare, 3 history, 4 kept, 5 text, 6 read), at a base B. -/
abbrev em_MM : Type := Nat → Nat → Int32
def em_sR (ν : em_MM) (i : Nat) (r : Nat → Int32) : em_MM := fun i' => if i' = i then r else ν i'
def em_up (ν : em_MM) (i k : Nat) (v : Int32) : em_MM := em_sR ν i (upd (ν i) k v)
