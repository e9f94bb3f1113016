/-! The memory of the class: seven states, the text, the history, the desk itself, at fixed places behind a base B. What a place holds is a row of ints; the references are fixed by the place. -/
abbrev ed_SM : Type := Nat → Nat → Nat → Int32
abbrev ed_CM : Type := Nat → ed_SM
/-- set a row, set a place of a row; set a state -/
def ed_sR (σ : ed_SM) (K i : Nat) (r : Nat → Int32) : ed_SM := fun K' i' => if K' = K ∧ i' = i then r else σ K' i'
def ed_up (σ : ed_SM) (K i k : Nat) (v : Int32) : ed_SM := ed_sR σ K i (upd (σ K i) k v)
def ed_sJ (μ : ed_CM) (j : Nat) (σ : ed_SM) : ed_CM := fun j' => if j' = j then σ else μ j'
theorem ed_sJ_self (μ : ed_CM) (j : Nat) (σ : ed_SM) : ed_sJ μ j σ j = σ := by simp [ed_sJ]
theorem ed_sJ_ne (μ : ed_CM) {j k : Nat} (σ : ed_SM) (h : k ≠ j) : ed_sJ μ j σ k = μ k := by simp [ed_sJ, h]
theorem ed_sJ_eta (μ : ed_CM) (j : Nat) : ed_sJ μ j (μ j) = μ := by
  funext k
  by_cases h : k = j
  · subst h; simp [ed_sJ]
  · simp [ed_sJ, h]
theorem ed_sJ_sJ (μ : ed_CM) (j : Nat) (σ τ : ed_SM) : ed_sJ (ed_sJ μ j σ) j τ = ed_sJ μ j τ := by
  funext k
  by_cases h : k = j <;> simp [ed_sJ, h]
/-- places: kinds 0 State, 1 Log, 2 its cells, 3..6 the rows of stories, clients, copies, persons, 7 Story, 8 byline, 9 slug, 10 corrections, 11 Client, 12 Copy, 13 Person; of j = 7: 14 the desk, 15 History, 16 its rows, 17 StoryText, 18 signs, 19 byline, 20 slug -/
def ed_oS (j : Nat) : Nat := if j < 3 then 1 + 265 * j else 798 + 265 * (j - 3)
def ed_oF (j K i : Nat) : Nat := match K with
  | 0 => ed_oS j
  | 1 => ed_oS j + 1
  | 2 => ed_oS j + 2
  | 3 => ed_oS j + 3
  | 4 => ed_oS j + 4
  | 5 => ed_oS j + 5
  | 6 => ed_oS j + 6
  | 7 => ed_oS j + 7 + 4 * i
  | 8 => ed_oS j + 8 + 4 * i
  | 9 => ed_oS j + 9 + 4 * i
  | 10 => ed_oS j + 10 + 4 * i
  | 11 => ed_oS j + 87 + i
  | 12 => ed_oS j + 95 + i
  | 13 => ed_oS j + 255 + i
  | 14 => 0
  | 15 => 796
  | 16 => 797
  | 17 => 1858
  | 18 => 1859
  | 19 => 1860
  | _ => 1861
def ed_vd (j K i : Nat) : Bool := if K < 7 then decide (j < 7) && decide (i = 0) else if K < 11 then decide (j < 7) && decide (i < 20) else if K = 11 then decide (j < 7) && decide (i < 8) else if K = 12 then decide (j < 7) && decide (i < 160) else if K = 13 then decide (j < 7) && decide (i < 10) else decide (K < 21) && decide (j = 7) && decide (i = 0)
def ed_dS (j o : Nat) : Nat × Nat × Nat := if o < 7 then (j, o, 0) else if o < 87 then (j, 7 + (o - 7) % 4, (o - 7) / 4) else if o < 95 then (j, 11, o - 87) else if o < 255 then (j, 12, o - 95) else (j, 13, o - 255)
def ed_dK (o : Nat) : Nat × Nat × Nat := if o = 0 then (7, 14, 0) else if o < 796 then ed_dS ((o - 1) / 265) ((o - 1) % 265) else if o = 796 then (7, 15, 0) else if o = 797 then (7, 16, 0) else if o < 1858 then ed_dS (3 + (o - 798) / 265) ((o - 798) % 265) else (7, o - 1858 + 17, 0)
theorem ed_vd_lt {j K i : Nat} (h : ed_vd j K i = true) : j < 8 ∧ K < 21 ∧ i < 160 := by
  unfold ed_vd at h
  split at h
  · simp at h; omega
  · split at h
    · simp at h; omega
    · split at h
      · simp at h; omega
      · split at h
        · simp at h; omega
        · split at h
          · simp at h; omega
          · simp at h; omega
theorem ed_tab1 : ((List.range 8).all fun j => (List.range 21).all fun K => (List.range 160).all fun i => !(ed_vd j K i) || (decide (ed_oF j K i < 1862) && decide (ed_dK (ed_oF j K i) = (j, K, i)))) = true := by decide +kernel
theorem ed_tab2 : ((List.range 1862).all fun o => decide (ed_oF (ed_dK o).1 (ed_dK o).2.1 (ed_dK o).2.2 = o)) = true := by decide +kernel
theorem ed_oF_spec {j K i : Nat} (h : ed_vd j K i = true) : ed_oF j K i < 1862 ∧ ed_dK (ed_oF j K i) = (j, K, i) := by
  obtain ⟨h1, h2, h3⟩ := ed_vd_lt h
  have t := List.all_eq_true.mp (List.all_eq_true.mp (List.all_eq_true.mp ed_tab1 j (List.mem_range.mpr h1)) K (List.mem_range.mpr h2)) i (List.mem_range.mpr h3)
  simpa [h] using t
theorem ed_dK_spec {o : Nat} (h : o < 1862) : ed_oF (ed_dK o).1 (ed_dK o).2.1 (ed_dK o).2.2 = o := by
  have t := List.all_eq_true.mp ed_tab2 o (List.mem_range.mpr h)
  simpa using t
def ed_ent (cy : Nat → ClassId) (B j K i : Nat) (r : Nat → Int32) : va_E := match K with
  | 0 => .inr (5, [.int (r 0), .int (r 1), .int (r 2), .int (r 3), .int (r 4), .int (r 5), .ref (B + ed_oF j 1 0), .ref (B + ed_oF j 3 0), .ref (B + ed_oF j 4 0), .ref (B + ed_oF j 5 0), .ref (B + ed_oF j 6 0)])
  | 1 => .inr (3, [.ref (B + ed_oF j 2 0), .int (r 1), .int (r 2)])
  | 2 => .inl (cy 0, 48, .inl r)
  | 3 => .inl (cy 1, 20, .inr (.inr (.inr (.inr (fun k => some (B + ed_oF j 7 k))))))
  | 4 => .inl (cy 2, 8, .inr (.inr (.inr (.inr (fun k => some (B + ed_oF j 11 k))))))
  | 5 => .inl (cy 3, 160, .inr (.inr (.inr (.inr (fun k => some (B + ed_oF j 12 k))))))
  | 6 => .inl (cy 4, 10, .inr (.inr (.inr (.inr (fun k => some (B + ed_oF j 13 k))))))
  | 7 => .inr (6, [.int (r 0), .int (r 1), .ref (B + ed_oF j 8 i), .int (r 3), .int (r 4), .ref (B + ed_oF j 9 i), .int (r 6), .int (r 7), .ref (B + ed_oF j 10 i), .int (r 9), .int (r 10)])
  | 8 => .inl (cy 0, 3, .inl r)
  | 9 => .inl (cy 0, 12, .inl r)
  | 10 => .inl (cy 0, 6, .inl r)
  | 11 => .inr (0, [.int (r 0), .int (r 1), .int (r 2), .int (r 3), .int (r 4), .int (r 5), .int (r 6), .int (r 7), .int (r 8), .int (r 9)])
  | 12 => .inr (1, [.int (r 0), .int (r 1), .int (r 2), .int (r 3), .int (r 4), .int (r 5)])
  | 13 => .inr (4, [.int (r 0), .int (r 1)])
  | 14 => .inr (8, [.ref (B + ed_oF 0 0 0), .ref (B + ed_oF 1 0 0), .ref (B + ed_oF 2 0 0), .int (r 3), .ref (B + ed_oF 7 15 0), .ref (B + ed_oF 7 17 0)])
  | 15 => .inr (2, [.ref (B + ed_oF 7 16 0), .int (r 1)])
  | 16 => .inl (cy 5, 4, .inr (.inr (.inr (.inr (fun k => some (B + ed_oF ((r k).toNatClampNeg % 7) 0 0))))))
  | 17 => .inr (7, [.ref (B + ed_oF 7 18 0), .int (r 1), .int (r 2), .int (r 3), .int (r 4), .ref (B + ed_oF 7 19 0), .int (r 6), .int (r 7), .ref (B + ed_oF 7 20 0)])
  | 18 => .inl (cy 0, 40, .inl r)
  | 19 => .inl (cy 0, 3, .inl r)
  | _ => .inl (cy 0, 12, .inl r)
def ed_f (cy : Nat → ClassId) (B : Nat) (μ : ed_CM) (a : Nat) : va_E := ed_ent cy B (ed_dK (a - B)).1 (ed_dK (a - B)).2.1 (ed_dK (a - B)).2.2 (μ (ed_dK (a - B)).1 (ed_dK (a - B)).2.1 (ed_dK (a - B)).2.2)
def ed_w (cy : Nat → ClassId) (B : Nat) (μ : ed_CM) : va_W := va_pl ((List.range 1862).map (fun o => B + o)) (ed_f cy B μ)
def ed_A (B : Nat) : Nat → Prop := fun q => B ≤ q ∧ q < B + 1862
theorem ed_w_get (cy : Nat → ClassId) (B : Nat) (μ : ed_CM) (o : Nat) : (ed_w cy B μ)[o]? = if o < 1862 then some (B + o, ed_f cy B μ (B + o)) else none := by
  by_cases h : o < 1862
  · simp [ed_w, va_pl, h]
  · simp [ed_w, va_pl, h]
theorem ed_w_at (cy : Nat → ClassId) (B : Nat) (μ : ed_CM) {j K i : Nat} (h : ed_vd j K i = true) : (ed_w cy B μ)[ed_oF j K i]? = some (B + ed_oF j K i, ed_ent cy B j K i (μ j K i)) := by
  obtain ⟨h1, h2⟩ := ed_oF_spec h
  rw [ed_w_get, if_pos h1]
  unfold ed_f
  rw [Nat.add_sub_cancel_left, h2]
theorem ed_w_D (cy : Nat → ClassId) (B : Nat) (μ : ed_CM) : va_D (ed_A B) (ed_w cy B μ) := by
  refine ⟨fun i j p q hi hj he => ?_, fun k q hk => ?_⟩
  · rw [ed_w_get] at hi hj
    split at hi
    · split at hj
      · cases hi; cases hj
        have he : B + i = B + j := he
        omega
      · cases hj
    · cases hi
  · rw [ed_w_get] at hk
    split at hk
    · cases hk
      exact ⟨by show B ≤ B + k; omega, by show B + k < B + 1862; omega⟩
    · cases hk
theorem ed_w_set (cy : Nat → ClassId) (B : Nat) (μ : ed_CM) {j K i : Nat} (h : ed_vd j K i = true) (r : Nat → Int32) : (ed_w cy B μ).set (ed_oF j K i) (B + ed_oF j K i, ed_ent cy B j K i r) = ed_w cy B (ed_sJ μ j (ed_sR (μ j) K i r)) := by
  obtain ⟨h1, h2⟩ := ed_oF_spec h
  have hlen : ed_oF j K i < (ed_w cy B μ).length := by
    apply Decidable.byContradiction
    intro hc
    have := ed_w_at cy B μ h
    rw [List.getElem?_eq_none (by omega)] at this
    cases this
  apply List.ext_getElem?
  intro o
  by_cases ho : o = ed_oF j K i
  · subst ho
    rw [List.getElem?_set_self hlen, ed_w_at cy B _ h]
    simp [ed_sJ, ed_sR]
  · rw [List.getElem?_set_ne (Ne.symm ho), ed_w_get, ed_w_get]
    by_cases h3 : o < 1862
    · rw [if_pos h3, if_pos h3]
      unfold ed_f
      rw [Nat.add_sub_cancel_left]
      have h4 := ed_dK_spec h3
      generalize hd : ed_dK o = d at h4
      obtain ⟨a, b, c⟩ := d
      have hne : ¬ (a = j ∧ b = K ∧ c = i) := by
        rintro ⟨rfl, rfl, rfl⟩
        exact ho h4.symm
      have e : ed_sJ μ j (ed_sR (μ j) K i r) a b c = μ a b c := by
        unfold ed_sJ ed_sR
        by_cases ha : a = j
        · subst ha
          have hbc : ¬ (b = K ∧ c = i) := fun q => hne ⟨rfl, q.1, q.2⟩
          simp [hbc]
        · simp [ha]
      rw [e]
    · rw [if_neg h3, if_neg h3]
theorem ed_w_set2 (cy : Nat → ClassId) (B : Nat) (μ : ed_CM) {j K i : Nat} {σ : ed_SM} (h : ed_vd j K i = true) (r : Nat → Int32) : (ed_w cy B (ed_sJ μ j σ)).set (ed_oF j K i) (B + ed_oF j K i, ed_ent cy B j K i r) = ed_w cy B (ed_sJ μ j (ed_sR σ K i r)) := by
  rw [ed_w_set cy B _ h, ed_sJ_self, ed_sJ_sJ]
/-- places that are there -/
theorem ed_v0 {j : Nat} (h : j < 7) (K : Nat) (hK : K < 7 := by decide) : ed_vd j K 0 = true := by simp [ed_vd, h, hK]
theorem ed_v7 {j i : Nat} (h : j < 7) (hi : i < 20) (K : Nat) (hK : K < 11 := by decide) (h7 : ¬ K < 7 := by decide) : ed_vd j K i = true := by simp [ed_vd, h, hi, hK, h7]
theorem ed_v11 {j i : Nat} (h : j < 7) (hi : i < 8) : ed_vd j 11 i = true := by simp [ed_vd, h, hi]
theorem ed_v12 {j i : Nat} (h : j < 7) (hi : i < 160) : ed_vd j 12 i = true := by simp [ed_vd, h, hi]
theorem ed_v13 {j i : Nat} (h : j < 7) (hi : i < 10) : ed_vd j 13 i = true := by simp [ed_vd, h, hi]
theorem ed_v14 : ed_vd 7 14 0 = true := rfl
theorem ed_v15 : ed_vd 7 15 0 = true := rfl
theorem ed_v16 : ed_vd 7 16 0 = true := rfl
theorem ed_v17 : ed_vd 7 17 0 = true := rfl
theorem ed_v18 : ed_vd 7 18 0 = true := rfl
theorem ed_v19 : ed_vd 7 19 0 = true := rfl
theorem ed_v20 : ed_vd 7 20 0 = true := rfl
/-- the arrays' classes -/
def ed_ty (cy : Nat → ClassId) : List (ClassId × FieldType) := [(cy 0, .int), (cy 1, .object "EmbargoDesk$Story"), (cy 2, .object "EmbargoDesk$Client"), (cy 3, .object "EmbargoDesk$Copy"), (cy 4, .object "EmbargoDesk$Person"), (cy 5, .object "EmbargoDesk$State")]
/-- calls between nest mates -/
def ed_nw : List (String × Nat × MethodName × String) := [("EmbargoDesk", 31, ⟨"EmbargoDesk$StoryText", "<init>", "()V"⟩, "EmbargoDesk"), ("EmbargoDesk$History", 25, ⟨"EmbargoDesk", "isPlace", "(II)Z"⟩, "EmbargoDesk"), ("EmbargoDesk$Log", 28, ⟨"EmbargoDesk", "isPlace", "(II)Z"⟩, "EmbargoDesk"), ("EmbargoDesk$Log", 32, ⟨"EmbargoDesk", "copyRow", "([I[I)V"⟩, "EmbargoDesk"), ("EmbargoDesk$State", 119, ⟨"EmbargoDesk", "isPlace", "(II)Z"⟩, "EmbargoDesk"), ("EmbargoDesk$State", 17, ⟨"EmbargoDesk$Log", "<init>", "()V"⟩, "EmbargoDesk"), ("EmbargoDesk$State", 46, ⟨"EmbargoDesk$Story", "<init>", "()V"⟩, "EmbargoDesk"), ("EmbargoDesk$State", 47, ⟨"EmbargoDesk$Client", "<init>", "()V"⟩, "EmbargoDesk"), ("EmbargoDesk$State", 48, ⟨"EmbargoDesk$Copy", "<init>", "()V"⟩, "EmbargoDesk"), ("EmbargoDesk$State", 49, ⟨"EmbargoDesk$Person", "<init>", "()V"⟩, "EmbargoDesk"), ("EmbargoDesk$Story", 33, ⟨"EmbargoDesk", "copyRow", "([I[I)V"⟩, "EmbargoDesk"), ("EmbargoDesk$Story", 58, ⟨"EmbargoDesk", "isPlace", "(II)Z"⟩, "EmbargoDesk"), ("EmbargoDesk$StoryText", 25, ⟨"EmbargoDesk", "isPlace", "(II)Z"⟩, "EmbargoDesk"), ("EmbargoDesk$StoryText", 59, ⟨"EmbargoDesk", "isBetween", "(III)Z"⟩, "EmbargoDesk")]
def ed_NW (U : State) : Prop := ∀ q ∈ ed_nw, va_Nw (.methodLinkNest q.1 q.2.1 q.2.2.1 q.2.2.2) U
theorem ed_NW.warm {s U : State} (hW : s.WarmedH U.vm) (h : ed_NW s) : ed_NW U := fun q hq => va_Nw.warmM hW (h q hq)
def ed_K (D : va_G) (cy : Nat → ClassId) (U : State) : Prop := va_K D vwCl (ed_ty cy) U ∧ ed_NW U
theorem ed_K.warm {D : va_G} {cy : Nat → ClassId} {s U : State} (hW : s.WarmedH U.vm) (h : ed_K D cy s) : ed_K D cy U := ⟨va_K.moved hW.alike h.1, h.2.warm hW⟩
theorem ed_K.call {D : va_G} {cy : Nat → ClassId} {a : Array Value} {U : State} {g : JFrame} {mk : MethodId} (h : ed_K D cy U) : ed_K D cy (U.calling g mk a) := ⟨va_K.moved (u := U) (U := U.calling g mk a) (Vm.Alike.refl U.vm) h.1, fun q hq => va_Nw.same rfl rfl (h.2 q hq)⟩
/-- a contract's start: the arguments, what the heap is; its ends -/
def ed_pC (D : va_G) (cy : Nat → ClassId) (P : Heap → Prop) (av : List Value) : Array Value → State → Prop := va_Pc av (fun U => P U.heap ∧ ed_K D cy U)
theorem ed_pC_blind {D : va_G} {cy : Nat → ClassId} {P : Heap → Prop} {av : List Value} : FrameBlind (ed_pC D cy P av) := fun _ _ _ _ q => ⟨q.1, q.2.1, q.2.2.call⟩
def ed_qI (A : Nat → Prop) (P : Heap → Prop) (r : Int32) : Array Value → State → Outcome → State → Prop := va_Qi (fun (x : Int32) (_ : Unit) => x = r) (fun _ t => P t.heap) A
def ed_qV (A : Nat → Prop) (P : Heap → Prop) : Array Value → State → Outcome → State → Prop := va_Qv (fun (_ : Unit) => True) (fun _ t => P t.heap) A
def ed_qA (A : Nat → Prop) (P : Heap → Prop) (r : Option Nat) : Array Value → State → Outcome → State → Prop := va_Qq (fun (x : Option Nat) (_ : Unit) => x = r) (fun _ t => P t.heap) A
/-- the class's memory in a heap -/
def ed_P (D : va_G) (cy : Nat → ClassId) (B : Nat) (μ : ed_CM) (H : Heap) : Prop := va_P D vwCl (ed_w cy B μ) H
/-! walks as functions: a step that may fail, and how it is taken -/
def ed_b {α β : Type} (x : Option α) (k : α → Option β) : Option β := match x with
  | none => none
  | some a => k a
def ed_g {β : Type} (c : Prop) [Decidable c] (k : Option β) : Option β := if c then k else none
def ed_t {α β : Type} (x : α) (k : α → β) : β := k x
theorem ed_b_e {α β : Type} {x : Option α} {k : α → Option β} {z : β} (h : ed_b x k = some z) : ∃ a, x = some a ∧ k a = some z := by
  cases x with
  | none => cases h
  | some a => exact ⟨a, rfl, h⟩
theorem ed_g_e {β : Type} {c : Prop} [Decidable c] {k : Option β} {z : β} (h : ed_g c k = some z) : c ∧ k = some z := by
  unfold ed_g at h
  split at h
  · exact ⟨‹_›, h⟩
  · cases h
theorem ed_t_e {α β : Type} {x : α} {k : α → Option β} {z : β} (h : ed_t x k = some z) : ∃ a, a = x ∧ k a = some z := ⟨x, rfl, h⟩
/-- an index that is in range -/
abbrev ed_in (x : Int32) (n : Nat) : Prop := ¬ x < 0 ∧ x.toNatClampNeg < n
theorem ed_in_vp {x : Int32} {n : Nat} (h : ed_in x n) : vp_in x n := fun q => q.elim h.1 (fun z => absurd h.2 (Nat.not_lt.mpr z))
abbrev ed_bo (x : Int32) : Prop := x = 0 ∨ x = 1
theorem ed_bo_n {x : Int32} (h : ed_bo x) : narrow .boolean (.int x) = .int x ∧ fits .boolean (.int x) = true := by
  rcases h with rfl | rfl <;> exact ⟨rfl, rfl⟩
