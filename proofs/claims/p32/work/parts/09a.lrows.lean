/-! The law's methods: the class's memory with three int arrays behind it (copies' own), and the script. -/
def la_n (t : Nat) : Nat := match t with
  | 0 => 5
  | 1 => 20
  | _ => 8
def la_w (cy : Nat → ClassId) (b : Nat) (α : em_MM) : va_W := (List.range 3).map (fun t => (b + t, .inl (cy 0, la_n t, .inl (α t))))
theorem la_w_get (cy : Nat → ClassId) (b : Nat) (α : em_MM) (i : Nat) : (la_w cy b α)[i]? = if i < 3 then some (b + i, .inl (cy 0, la_n i, .inl (α i))) else none := by
  by_cases h : i < 3
  · simp [la_w, h]
  · simp [la_w, h]
theorem la_w_D (cy : Nat → ClassId) (b : Nat) (α : em_MM) : va_D (ec_A b) (la_w cy b α) := by
  refine ⟨fun i j p q hi hj he => ?_, fun k q hk => ?_⟩
  · rw [la_w_get] at hi hj
    split at hi
    · split at hj
      · cases hi; cases hj
        have he : b + i = b + j := he
        omega
      · cases hj
    · cases hi
  · rw [la_w_get] at hk
    split at hk
    · cases hk
      show b ≤ b + k
      omega
    · cases hk
theorem la_w_set (cy : Nat → ClassId) (b : Nat) (α : em_MM) {i : Nat} (h : i < 3) (r : Nat → Int32) : (la_w cy b α).set i (b + i, .inl (cy 0, la_n i, .inl r)) = la_w cy b (em_sR α i r) := by
  apply List.ext_getElem?
  intro o
  by_cases ho : o = i
  · subst ho
    rw [List.getElem?_set_self (by simp [la_w, h]), la_w_get, if_pos h]
    simp [em_sR]
  · rw [List.getElem?_set_ne (Ne.symm ho), la_w_get, la_w_get]
    simp [em_sR, ho]
def la_P (D : va_G) (cy : Nat → ClassId) (B b : Nat) (μ : ed_CM) (α : em_MM) (H : Heap) : Prop := ed_P D cy B μ H ∧ va_P D vwCl (la_w cy b α) H ∧ B + 1862 ≤ b
theorem la_size {D : va_G} {cy : Nat → ClassId} {B : Nat} {μ : ed_CM} {H : Heap} (h : ed_P D cy B μ H) : B + 1862 ≤ H.size := by
  have := (h 1861 _ (by rw [ed_w_get, if_pos (by omega)])).lt
  have h2 : B + 1861 < H.size := this
  omega
section
variable {p : Program} {l : Launch} {e : Env} {R : Room} {s : State} {m : MethodId} {args : Array Value} {below : List Frame} {meth : Method} {c : Code} {H : Heap} {locs : List Loc} {cells slots mc ms : Nat} {Q : State → Prop}
variable {pc nL : Nat} {ls : Array Slot} {rest st0 : List Value} {a : Array Value} {cc : ByteArray} {Ts : List Cond} {own : String} {D : va_G} {cy : Nat → ClassId} {B b : Nat} {μ μ' : ed_CM} {α : em_MM} {r : Int32} {H0 : Heap}
/-- a call of the class, seen from where all behind B is one's own -/
theorem la_kC (hr : va_Run p l e R s m args below meth c H locs cells slots 0 0 (F0 m pc ls st0) rest (ed_qI (ed_A B) (ed_P D cy B μ') r a) (ed_A B)) (hS : va_S (ec_A B) H0 H locs) (kk : ∀ (H1 : Heap) (locs1 : List Loc), ed_P D cy B μ' H1 → va_S (ec_A B) H0 H1 locs1 → W p l e R s m args below meth c H1 locs1 cells slots Q (F0 m (pc + 3) ls (.int r :: rest))) : W p l e R s m args below meth c H locs cells slots Q (F0 m pc ls st0) := by
  refine va_calli (mc := 0) (ms := 0) hr hS (fun q _ h => h.1) (fun q h => h.1) (fun r' u t H1 locs1 ht _ hw hB _ _ hS1 => ?_)
  subst hw
  exact kk H1 locs1 (by rw [← ht]; exact hB) hS1
/-- the same, with the three arrays -/
theorem la_kA (hr : va_Run p l e R s m args below meth c H locs cells slots 0 0 (F0 m pc ls st0) rest (ed_qI (ed_A B) (ed_P D cy B μ') r a) (ed_A B)) (hM : la_P D cy B b μ α H) (hS : va_S (ec_A B) H0 H locs) (kk : ∀ (H1 : Heap) (locs1 : List Loc), la_P D cy B b μ' α H1 → va_S (ec_A B) H0 H1 locs1 → W p l e R s m args below meth c H1 locs1 cells slots Q (F0 m (pc + 3) ls (.int r :: rest))) : W p l e R s m args below meth c H locs cells slots Q (F0 m pc ls st0) := by
  refine va_calli (mc := 0) (ms := 0) hr hS (fun q _ h => h.1) (fun q h => h.1) (fun r' u t H1 locs1 ht _ hw hB _ hk hS1 => ?_)
  subst hw
  refine kk H1 locs1 ⟨by rw [← ht]; exact hB, va_P.kept hM.2.1 (fun k x hx => hk x.1 ((hM.2.1 k x hx).lt) (fun hA => ?_)), hM.2.2⟩ hS1
  have h1 : b ≤ x.1 := (la_w_D cy b α).2 k x hx
  have h2 : x.1 < B + 1862 := hA.2
  have h3 := hM.2.2
  omega
/-- a call of a method that makes arrays of its own -/
theorem la_kM (hr : va_Run p l e R s m args below meth c H locs cells slots mc ms (F0 m pc ls st0) rest (ed_qI (ec_A B) (ed_P D cy B μ') r a) (ec_A B)) (hS : va_S (ec_A B) H0 H locs) (kk : ∀ (H1 : Heap) (locs1 : List Loc), ed_P D cy B μ' H1 → va_S (ec_A B) H0 H1 locs1 → W p l e R s m args below meth c H1 locs1 (cells + mc) (slots + ms) Q (F0 m (pc + 3) ls (.int r :: rest))) : W p l e R s m args below meth c H locs cells slots Q (F0 m pc ls st0) := by
  refine va_calli hr hS (fun q _ h => h) (fun q h => h) (fun r' u t H1 locs1 ht _ hw hB _ _ hS1 => ?_)
  subst hw
  exact kk H1 locs1 (by rw [← ht]; exact hB) hS1
/-- a call that changes nothing at all -/
theorem la_kN {P1 : Heap → Prop} (hr : va_Run p l e R s m args below meth c H locs cells slots 0 0 (F0 m pc ls st0) rest (ed_qI (fun _ => False) P1 r a) (fun _ => False)) (hM : ed_P D cy B μ H) (hS : va_S (ec_A B) H0 H locs) (kk : ∀ (H1 : Heap) (locs1 : List Loc), ed_P D cy B μ H1 → va_S (ec_A B) H0 H1 locs1 → W p l e R s m args below meth c H1 locs1 cells slots Q (F0 m (pc + 3) ls (.int r :: rest))) : W p l e R s m args below meth c H locs cells slots Q (F0 m pc ls st0) := by
  refine va_calli (mc := 0) (ms := 0) hr hS (fun q _ h => h.elim) (fun q h => h.elim) (fun r' u t H1 locs1 ht _ hw hB _ hk hS1 => ?_)
  subst hw
  exact kk H1 locs1 (va_P.kept hM (fun k x hx => hk x.1 ((hM k x hx).lt) (fun h => h))) hS1
theorem la_ild {x : Int32} (S : CallFix p m c cc nL s args Ts own) (hK : ed_K D cy s) (hM : la_P D cy B b μ α H) (i : Nat) (hi : i < 3) {n : Nat} (hn : la_n i = n) (hx : ed_in x n) (hdg : decode cc pc = .ok (.iaload, 1))
    (kk : W p l e R s m args below meth c H locs cells slots Q (F0 m (pc + 1) ls (.int (α i x.toNatClampNeg) :: rest))) : W p l e R s m args below meth c H locs cells slots Q (F0 m pc ls (.int x :: .ref (b + i) :: rest)) := by
  subst hn
  exact va_iald S.1 S.2.1 hK.1 hM.2.1 i 0 (by rw [la_w_get, if_pos hi]) rfl (ed_in_vp hx) hdg kk
theorem la_ist {x y : Int32} (S : CallFix p m c cc nL s args Ts own) (hK : ed_K D cy s) (hM : la_P D cy B b μ α H) (hS : va_S (ec_A B) H0 H locs) (i : Nat) (hi : i < 3) {n : Nat} (hn : la_n i = n) (hx : ed_in x n) (hdg : decode cc pc = .ok (.iastore, 1))
    (kk : ∀ (H1 : Heap) (locs1 : List Loc), la_P D cy B b μ (em_up α i x.toNatClampNeg y) H1 → va_S (ec_A B) H0 H1 locs1 → W p l e R s m args below meth c H1 locs1 cells slots Q (F0 m (pc + 1) ls rest)) : W p l e R s m args below meth c H locs cells slots Q (F0 m pc ls (.int y :: .int x :: .ref (b + i) :: rest)) := by
  subst hn
  have ha : (la_w cy b α)[i]? = some (b + i, .inl (cy 0, la_n i, .inl (α i))) := by rw [la_w_get, if_pos hi]
  have hin := ed_in_vp hx
  have h3 := hM.2.2
  refine W.iast S.1 S.2.1 (hM.2.1 i _ ha) ((hK.1.2 0 _ rfl).1 (la_n i) (fun j => .int (α i j))) (fun q => by cases q) (by show ¬ (x < 0 ∨ (arrV _ _ _).slots.size ≤ _); rw [arrV_size]; exact hin) rfl rfl hdg fun H1 e z oq => ?_
  refine kk H1 _ ⟨va_P.kept hM.1 (fun k q hq => oq q.1 (fun hh => ?_)), ?_, h3⟩ (hS.put z oq (show B ≤ b + i by omega))
  · have h1 : q.1 < B + 1862 := ((ed_w_D cy B μ).2 k q hq).2
    have hh : q.1 = b + i := hh
    omega
  · have h2 : va_P D vwCl ((la_w cy b α).set i (b + i, .inl (cy 0, la_n i, .inl (upd (α i) x.toNatClampNeg y)))) H1 := by
      refine hM.2.1.set (la_w_D cy b α) ha ?_ oq
      show H1[b + i]? = some (vp_cell _ _)
      rw [e]
      rw [vp_cell_i, vp_cell_i, arrV_store]
      congr 2
      funext q
      by_cases hq : q = x.toNatClampNeg
      · subst hq
        simp [updV, upd]
      · simp [updV, upd, hq]
    rw [la_w_set cy b α hi] at h2
    exact h2
/-- a new int array, behind what there is -/
theorem la_newa {ws : va_W} (S : CallFix p m c cc nL s args Ts own) (harr : Cond.arrayClass .int ∈ Ts) (hK : ed_K D cy s) (hP : ed_P D cy B μ H) (hW : va_P D vwCl ws H) {z0 : Nat} (hz : H.size = z0) (hS : va_S (ec_A B) H0 H locs) {x : Int32} {N : Nat} (hn : ¬ x < 0) (hN : x.toNatClampNeg = N) (hbytes : N * componentBytes .int ≤ 536870912) (hcells : cells + 1 ≤ R.cells) (hslots : slots + N ≤ R.slots) (hdg : decode cc pc = .ok (.newarray .int, 2))
    (kk : ∀ (H1 : Heap), ed_P D cy B μ H1 → va_P D vwCl (ws ++ [(z0, .inl (cy 0, N, .inl (fun _ => 0)))]) H1 → H1.size = z0 + 1 → va_S (ec_A B) H0 H1 locs → W p l e R s m args below meth c H1 locs (cells + 1) (slots + N) Q (F0 m (pc + 2) ls (.ref z0 :: rest))) : W p l e R s m args below meth c H locs cells slots Q (F0 m pc ls (.int x :: rest)) := by
  refine va_newaK (atype := .int) S.1 S.2.1 (S.2.2.2.2 _ harr) rfl hdg rfl hn hN hbytes hcells hslots hz fun H1 cA e1 z1 o1 hAr hNm => ?_
  have hca : cA = cy 0 := by
    have h2 : s.vm.findClass ("[" ++ (FieldType.int).toString) = some (cy 0) := (hK.1.2 0 (cy 0, .int) rfl).2
    exact Option.some.inj (hNm.symm.trans h2)
  subst hca
  refine kk H1 (va_P.kept hP (fun k x hx => o1 x.1 (by have := (hP k x hx).lt; omega))) ((va_P.kept hW (fun k x hx => o1 x.1 (by have := (hW k x hx).lt; omega))).app (fun k x hx => ?_)) z1 ⟨Nat.le_trans hS.1 (by omega), fun x h1 h2 => (o1 x (by have := hS.1; omega)).trans (hS.2.1 x h1 h2), hS.2.2⟩
  have hk : k < 1 := (List.getElem?_eq_some_iff.mp hx).1
  rw [show k = 0 by omega] at hx
  cases hx
  exact e1
end
