/-! The memory of the reference: its object (0) and its six rows of ints (1 v, 2 spare, 3 history, 4 kept, 5 text, 6 read), at a base B. -/
abbrev em_MM : Type := Nat → Nat → Int32
def em_sR (ν : em_MM) (i : Nat) (r : Nat → Int32) : em_MM := fun i' => if i' = i then r else ν i'
def em_up (ν : em_MM) (i k : Nat) (v : Int32) : em_MM := em_sR ν i (upd (ν i) k v)
def em_ent (cy : Nat → ClassId) (B i : Nat) (r : Nat → Int32) : va_E := match i with
  | 0 => .inr (9, [.ref (B + 1), .ref (B + 2), .ref (B + 3), .int (r 3), .ref (B + 4), .int (r 5), .ref (B + 5), .int (r 7), .int (r 8), .ref (B + 6), .int (r 10)])
  | 1 => .inl (cy 0, 1683, .inl r)
  | 2 => .inl (cy 0, 1683, .inl r)
  | 3 => .inl (cy 0, 6732, .inl r)
  | 4 => .inl (cy 0, 1683, .inl r)
  | 5 => .inl (cy 0, 40, .inl r)
  | _ => .inl (cy 0, 29, .inl r)
def em_w (cy : Nat → ClassId) (B : Nat) (ν : em_MM) : va_W := (List.range 7).map (fun i => (B + i, em_ent cy B i (ν i)))
def em_A (B : Nat) : Nat → Prop := fun q => B ≤ q ∧ q < B + 7
theorem em_w_get (cy : Nat → ClassId) (B : Nat) (ν : em_MM) (i : Nat) : (em_w cy B ν)[i]? = if i < 7 then some (B + i, em_ent cy B i (ν i)) else none := by
  by_cases h : i < 7
  · simp [em_w, h]
  · simp [em_w, h]
theorem em_w_D (cy : Nat → ClassId) (B : Nat) (ν : em_MM) : va_D (em_A B) (em_w cy B ν) := by
  refine ⟨fun i j p q hi hj he => ?_, fun k q hk => ?_⟩
  · rw [em_w_get] at hi hj
    split at hi
    · split at hj
      · cases hi; cases hj
        have he : B + i = B + j := he
        omega
      · cases hj
    · cases hi
  · rw [em_w_get] at hk
    split at hk
    · cases hk
      exact ⟨by show B ≤ B + k; omega, by show B + k < B + 7; omega⟩
    · cases hk
theorem em_w_set (cy : Nat → ClassId) (B : Nat) (ν : em_MM) {i : Nat} (h : i < 7) (r : Nat → Int32) : (em_w cy B ν).set i (B + i, em_ent cy B i r) = em_w cy B (em_sR ν i r) := by
  apply List.ext_getElem?
  intro o
  by_cases ho : o = i
  · subst ho
    rw [List.getElem?_set_self (by simp [em_w, h]), em_w_get, if_pos h]
    simp [em_sR]
  · rw [List.getElem?_set_ne (Ne.symm ho), em_w_get, em_w_get]
    simp [em_sR, ho]
def em_P (D : va_G) (cy : Nat → ClassId) (B : Nat) (ν : em_MM) (H : Heap) : Prop := va_P D vwCl (em_w cy B ν) H
theorem em_e0 (cy : Nat → ClassId) (B : Nat) (r : Nat → Int32) : em_ent cy B 0 r = .inr (9, [.ref (B + 1), .ref (B + 2), .ref (B + 3), .int (r 3), .ref (B + 4), .int (r 5), .ref (B + 5), .int (r 7), .int (r 8), .ref (B + 6), .int (r 10)]) := rfl
theorem em_e1 (cy : Nat → ClassId) (B : Nat) (r : Nat → Int32) : em_ent cy B 1 r = .inl (cy 0, 1683, .inl r) := rfl
theorem em_e2 (cy : Nat → ClassId) (B : Nat) (r : Nat → Int32) : em_ent cy B 2 r = .inl (cy 0, 1683, .inl r) := rfl
theorem em_e3 (cy : Nat → ClassId) (B : Nat) (r : Nat → Int32) : em_ent cy B 3 r = .inl (cy 0, 6732, .inl r) := rfl
theorem em_e4 (cy : Nat → ClassId) (B : Nat) (r : Nat → Int32) : em_ent cy B 4 r = .inl (cy 0, 1683, .inl r) := rfl
theorem em_e5 (cy : Nat → ClassId) (B : Nat) (r : Nat → Int32) : em_ent cy B 5 r = .inl (cy 0, 40, .inl r) := rfl
theorem em_e6 (cy : Nat → ClassId) (B : Nat) (r : Nat → Int32) : em_ent cy B 6 r = .inl (cy 0, 29, .inl r) := rfl
theorem em_u3 (cy : Nat → ClassId) (B : Nat) (r : Nat → Int32) (x : Int32) : em_ent cy B 0 (upd r 3 x) = .inr (9, [.ref (B + 1), .ref (B + 2), .ref (B + 3), .int x, .ref (B + 4), .int (r 5), .ref (B + 5), .int (r 7), .int (r 8), .ref (B + 6), .int (r 10)]) := rfl
theorem em_u5 (cy : Nat → ClassId) (B : Nat) (r : Nat → Int32) (x : Int32) : em_ent cy B 0 (upd r 5 x) = .inr (9, [.ref (B + 1), .ref (B + 2), .ref (B + 3), .int (r 3), .ref (B + 4), .int x, .ref (B + 5), .int (r 7), .int (r 8), .ref (B + 6), .int (r 10)]) := rfl
theorem em_u7 (cy : Nat → ClassId) (B : Nat) (r : Nat → Int32) (x : Int32) : em_ent cy B 0 (upd r 7 x) = .inr (9, [.ref (B + 1), .ref (B + 2), .ref (B + 3), .int (r 3), .ref (B + 4), .int (r 5), .ref (B + 5), .int x, .int (r 8), .ref (B + 6), .int (r 10)]) := rfl
theorem em_u8 (cy : Nat → ClassId) (B : Nat) (r : Nat → Int32) (x : Int32) : em_ent cy B 0 (upd r 8 x) = .inr (9, [.ref (B + 1), .ref (B + 2), .ref (B + 3), .int (r 3), .ref (B + 4), .int (r 5), .ref (B + 5), .int (r 7), .int x, .ref (B + 6), .int (r 10)]) := rfl
theorem em_u10 (cy : Nat → ClassId) (B : Nat) (r : Nat → Int32) (x : Int32) : em_ent cy B 0 (upd r 10 x) = .inr (9, [.ref (B + 1), .ref (B + 2), .ref (B + 3), .int (r 3), .ref (B + 4), .int (r 5), .ref (B + 5), .int (r 7), .int (r 8), .ref (B + 6), .int x]) := rfl
section
variable {p : Program} {l : Launch} {e : Env} {R : Room} {s : State} {m : MethodId} {args : Array Value} {below : List Frame} {meth : Method} {c : Code} {H : Heap} {locs : List Loc} {cells slots : Nat} {Q : State → Prop}
variable {pc nL : Nat} {ls : Array Slot} {rest st0 : List Value} {cc : ByteArray} {Ts : List Cond} {own : String} {D : va_G} {cy : Nat → ClassId} {B : Nat} {ν : em_MM} {H0 : Heap}
theorem em_get {ref : String} {index : Nat} {v : Value} (S : CallFix p m c cc nL s args Ts own) (hin : ∀ w ∈ u_ws RX9 TX9 11, w ∈ Ts) (hK : ed_K D cy s) (hM : em_P D cy B ν H) (k : Nat) (hk : k < 11) (hlink : Cond.fieldLink own index ref (TX9 k).2.1 (TX9 k).2.2.1 ∈ Ts) (href : ref = (TX9 k).1) (hfv : ([.ref (B + 1), .ref (B + 2), .ref (B + 3), .int (ν 0 3), .ref (B + 4), .int (ν 0 5), .ref (B + 5), .int (ν 0 7), .int (ν 0 8), .ref (B + 6), .int (ν 0 10)] : List Value)[k]? = some v) (hdg : decode cc pc = .ok (.getfield index, 3))
    (kk : W p l e R s m args below meth c H locs cells slots Q (F0 m (pc + 3) ls (v :: rest))) : W p l e R s m args below meth c H locs cells slots Q (F0 m pc ls (.ref (B + 0) :: rest)) := by
  subst href
  exact va_get S.1 S.2.1 S.2.2.2.2 hin S.2.2.2.1 hK.1 hM 0 (by rw [em_w_get]; rfl) rfl k hk (S.2.2.2.2 _ hlink) (fun _ h => h) hfv hdg kk
theorem em_put {ref : String} {index : Nat} {x : Int32} (S : CallFix p m c cc nL s args Ts own) (hin : ∀ w ∈ u_ws RX9 TX9 11, w ∈ Ts) (hK : ed_K D cy s) (hM : em_P D cy B ν H) (hS : va_S (em_A B) H0 H locs) (k : Nat) (hk : k < 11) (hlink : Cond.fieldLink own index ref (TX9 k).2.1 (TX9 k).2.2.1 ∈ Ts) (href : ref = (TX9 k).1) (hfin : (TX9 k).2.2.2 = false) (hn : narrow (tyX9 k) (.int x) = .int x) (hfit : fits (tyX9 k) (.int x) = true) (he2 : em_ent cy B 0 (upd (ν 0) k x) = .inr (9, ([.ref (B + 1), .ref (B + 2), .ref (B + 3), .int (ν 0 3), .ref (B + 4), .int (ν 0 5), .ref (B + 5), .int (ν 0 7), .int (ν 0 8), .ref (B + 6), .int (ν 0 10)] : List Value).set k (.int x))) (hdg : decode cc pc = .ok (.putfield index, 3))
    (kk : ∀ (H1 : Heap) (locs1 : List Loc), em_P D cy B (em_up ν 0 k x) H1 → va_S (em_A B) H0 H1 locs1 → W p l e R s m args below meth c H1 locs1 cells slots Q (F0 m (pc + 3) ls rest)) : W p l e R s m args below meth c H locs cells slots Q (F0 m pc ls (.int x :: .ref (B + 0) :: rest)) := by
  subst href
  refine va_put (fs := [.ref (B + 1), .ref (B + 2), .ref (B + 3), .int (ν 0 3), .ref (B + 4), .int (ν 0 5), .ref (B + 5), .int (ν 0 7), .int (ν 0 8), .ref (B + 6), .int (ν 0 10)]) S.1 S.2.1 S.2.2.2.2 hin tyX9 tyX9_ok nmX9 S.2.2.2.1 hK.1 hM (em_w_D cy B _) hS 0 (by rw [em_w_get]; rfl) rfl k hk (S.2.2.2.2 _ hlink) (fun _ h => h) hfin (tyX9_ok k hk) hn hfit hk hdg (fun H1 locs1 hP _ hS1 => kk H1 locs1 ?_ hS1)
  rw [← he2, em_w_set cy B ν (by decide)] at hP
  exact hP
theorem em_ild {n : Nat} {x : Int32} (S : CallFix p m c cc nL s args Ts own) (hK : ed_K D cy s) (hM : em_P D cy B ν H) (i : Nat) (hi : i < 7) (he : em_ent cy B i (ν i) = .inl (cy 0, n, .inl (ν i))) (hx : ed_in x n) (hdg : decode cc pc = .ok (.iaload, 1))
    (kk : W p l e R s m args below meth c H locs cells slots Q (F0 m (pc + 1) ls (.int (ν i x.toNatClampNeg) :: rest))) : W p l e R s m args below meth c H locs cells slots Q (F0 m pc ls (.int x :: .ref (B + i) :: rest)) :=
  va_iald S.1 S.2.1 hK.1 hM i 0 (by rw [em_w_get, if_pos hi, he]) rfl (ed_in_vp hx) hdg kk
theorem em_ist {n : Nat} {x y : Int32} (S : CallFix p m c cc nL s args Ts own) (hK : ed_K D cy s) (hM : em_P D cy B ν H) (hS : va_S (em_A B) H0 H locs) (i : Nat) (hi : i < 7) (he : ∀ r, em_ent cy B i r = .inl (cy 0, n, .inl r)) (hx : ed_in x n) (hdg : decode cc pc = .ok (.iastore, 1))
    (kk : ∀ (H1 : Heap) (locs1 : List Loc), em_P D cy B (em_up ν i x.toNatClampNeg y) H1 → va_S (em_A B) H0 H1 locs1 → W p l e R s m args below meth c H1 locs1 cells slots Q (F0 m (pc + 1) ls rest)) : W p l e R s m args below meth c H locs cells slots Q (F0 m pc ls (.int y :: .int x :: .ref (B + i) :: rest)) := by
  refine va_iast S.1 S.2.1 hK.1 hM (em_w_D cy B _) hS i 0 (by rw [em_w_get, if_pos hi, he]) rfl (ed_in_vp hx) hdg (fun H1 locs1 hP _ hS1 => kk H1 locs1 ?_ hS1)
  rw [← he, em_w_set cy B ν hi] at hP
  exact hP
theorem em_rc (hK : ed_K D cy s) (hM : em_P D cy B ν H) : ∃ cell : Cell, H[B + 0]? = some cell ∧ cell.vm.isStatics = false ∧ s.vm.findClass RX9 = some cell.cls :=
  va_recv (q := (RX9, TX9, 11)) hK.1 hM rfl (q0 := 0) (by rw [em_w_get]; rfl)
end
