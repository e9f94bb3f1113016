/-! What is being made: n cells behind a base B, the heap ends with them. -/
def ec_w (B n : Nat) (f : Nat → va_E) : va_W := (List.range n).map (fun o => (B + o, f o))
def ec_P (D : va_G) (B n : Nat) (f : Nat → va_E) (H : Heap) : Prop := va_P D vwCl (ec_w B n f) H ∧ H.size = B + n
def ec_A (B : Nat) : Nat → Prop := fun q => B ≤ q
def ec_f (f : Nat → va_E) (o : Nat) (e : va_E) : Nat → va_E := fun x => if x = o then e else f x
theorem ec_get0 (B n : Nat) (f : Nat → va_E) (o : Nat) : (ec_w B n f)[o]? = if o < n then some (B + o, f o) else none := by
  by_cases h : o < n
  · simp [ec_w, h]
  · simp [ec_w, h]
theorem ec_at {B n : Nat} {f : Nat → va_E} {o : Nat} (h : o < n) : (ec_w B n f)[o]? = some (B + o, f o) := by rw [ec_get0, if_pos h]
theorem ec_D (B n : Nat) (f : Nat → va_E) : va_D (ec_A B) (ec_w B n f) := by
  refine ⟨fun i j p q hp hq h => ?_, fun k q hk => ?_⟩
  · rw [ec_get0] at hp hq
    by_cases hi : i < n
    · by_cases hj : j < n
      · rw [if_pos hi] at hp
        rw [if_pos hj] at hq
        injection hp with hp
        injection hq with hq
        subst hp
        subst hq
        have h : B + i = B + j := h
        omega
      · rw [if_neg hj] at hq; cases hq
    · rw [if_neg hi] at hp; cases hp
  · rw [ec_get0] at hk
    by_cases h : k < n
    · rw [if_pos h] at hk
      injection hk with hk
      subst hk
      show B ≤ B + k
      omega
    · rw [if_neg h] at hk; cases hk
theorem ec_ext {w w' : va_W} (h : ∀ k : Nat, w[k]? = w'[k]?) : w = w' := List.ext_getElem? h
theorem ec_set {B n : Nat} {f : Nat → va_E} {o : Nat} (h : o < n) (e : va_E) : (ec_w B n f).set o (B + o, e) = ec_w B n (ec_f f o e) := by
  refine ec_ext (fun k => ?_)
  rw [ec_get0, List.getElem?_set]
  have hl : (ec_w B n f).length = n := by simp [ec_w]
  unfold ec_f
  by_cases hk : o = k
  · subst hk
    rw [if_pos rfl, if_pos (by omega), if_pos h, if_pos rfl]
  · rw [if_neg hk, ec_get0, if_neg (show ¬ k = o from fun q => hk q.symm)]
theorem ec_push (B n : Nat) (f : Nat → va_E) (e : va_E) : ec_w B n f ++ [(B + n, e)] = ec_w B (n + 1) (ec_f f n e) := by
  have hl : (ec_w B n f).length = n := by simp [ec_w]
  refine ec_ext (fun k => ?_)
  rw [ec_get0]
  by_cases hk : k < n
  · rw [List.getElem?_append_left (by omega), ec_get0, if_pos hk, if_pos (by omega)]
    unfold ec_f
    rw [if_neg (by omega)]
  · rw [List.getElem?_append_right (by omega), hl]
    by_cases hk2 : k = n
    · subst hk2
      rw [if_pos (by omega), Nat.sub_self]
      unfold ec_f
      rw [if_pos rfl]
      rfl
    · rw [if_neg (by omega)]
      obtain ⟨z, hz⟩ : ∃ z, k - n = z + 1 := ⟨k - n - 1, by omega⟩
      rw [hz]
      rfl
theorem ec_cg {D : va_G} {B n : Nat} {f g : Nat → va_E} {H : Heap} (h : ec_P D B n f H) (hg : ∀ o, o < n → g o = f o) : ec_P D B n g H := by
  have e : ec_w B n g = ec_w B n f := ec_ext (fun k => by
    rw [ec_get0, ec_get0]
    by_cases hk : k < n
    · rw [if_pos hk, if_pos hk, hg k hk]
    · rw [if_neg hk, if_neg hk])
  exact ⟨by rw [e]; exact h.1, h.2⟩
section
variable {p : Program} {l : Launch} {e : Env} {R : Room} {s : State} {m : MethodId} {args : Array Value} {below : List Frame} {meth : Method} {c : Code} {H : Heap} {locs : List Loc} {cells slots : Nat} {Q : State → Prop}
variable {pc nL : Nat} {ls : Array Slot} {rest st0 : List Value} {cc : ByteArray} {Ts : List Cond} {own : String} {D : va_G} {cy : Nat → ClassId} {B n : Nat} {f : Nat → va_E} {H0 : Heap}
theorem ec_new {C : String} {T : u_T} {N ci index : Nat} (S : CallFix p m c cc nL s args Ts own) (hin : ∀ w ∈ u_ws C T N, w ∈ Ts) (ty : Nat → FieldType) (hty : ∀ k, k < N → parseFieldDescriptor (T k).2.2.1 = some (ty k)) (hcl : Cond.classLink own index C ∈ Ts) (hinst : Cond.instantiable C N ∈ Ts) (hini : Cond.initialized C ∈ Ts) (hK : ed_K D cy s) (hM : ec_P D B n f H) (hS : va_S (ec_A B) H0 H locs) (hc : vwCl[ci]? = some (C, T, N)) {fs : List Value} (hfs : ∀ j, j < N → defaultValue (ty j) = vp_V fs j) (hcells : cells + 1 ≤ R.cells) (hslots : slots + N ≤ R.slots) (hdg : decode cc pc = .ok (.new index, 3))
    (kk : ∀ (H1 : Heap), ec_P D B (n + 1) (ec_f f n (.inr (ci, fs))) H1 → va_S (ec_A B) H0 H1 locs → W p l e R s m args below meth c H1 locs (cells + 1) (slots + N) Q (F0 m (pc + 3) ls (.ref (B + n) :: rest))) : W p l e R s m args below meth c H locs cells slots Q (F0 m pc ls rest) := by
  have hKn := hK.1.1 ci _ hc
  refine W.newcK S.1 S.2.1 S.2.2.2.1 (S.2.2.2.2 _ hcl) (S.2.2.2.2 _ hinst) (S.2.2.2.2 _ hini) rfl hdg hcells hslots hKn.2.1 hM.2 fun H1 kC hkC e1 z1 o1 => ?_
  have hk : ∀ (k : Nat) (x : Nat × va_E), (ec_w B n f)[k]? = some x → H1[x.1]? = H[x.1]? := fun k x hx => o1 x.1 (by have := (hM.1 k x hx).lt; rw [hM.2] at this; exact this)
  refine kk H1 ⟨?_, by rw [z1]; omega⟩ ⟨Nat.le_trans hS.1 (by rw [z1, hM.2]; omega), fun x h1 h2 => (o1 x (by have := hS.1; rw [hM.2] at this; omega)).trans (hS.2.1 x h1 h2), hS.2.2⟩
  rw [← ec_push]
  refine (hM.1.kept hk).app (fun k x hx => ?_)
  have hz : k < 1 := (List.getElem?_eq_some_iff.mp hx).1
  rw [show k = 0 by omega] at hx
  cases hx
  exact ⟨_, hc, (u_born ty S.2.2.2.2 hin hKn hkC e1 hty).to hfs⟩
theorem ec_newa (S : CallFix p m c cc nL s args Ts own) (harr : Cond.arrayClass .int ∈ Ts) (hK : ed_K D cy s) (hM : ec_P D B n f H) (hS : va_S (ec_A B) H0 H locs) {x : Int32} {N : Nat} (hn : ¬ x < 0) (hN : x.toNatClampNeg = N) (hbytes : N * componentBytes .int ≤ 536870912) (hcells : cells + 1 ≤ R.cells) (hslots : slots + N ≤ R.slots) (hdg : decode cc pc = .ok (.newarray .int, 2))
    (kk : ∀ (H1 : Heap), ec_P D B (n + 1) (ec_f f n (.inl (cy 0, N, .inl (fun _ => 0)))) H1 → va_S (ec_A B) H0 H1 locs → W p l e R s m args below meth c H1 locs (cells + 1) (slots + N) Q (F0 m (pc + 2) ls (.ref (B + n) :: rest))) : W p l e R s m args below meth c H locs cells slots Q (F0 m pc ls (.int x :: rest)) := by
  refine va_newaK (atype := .int) S.1 S.2.1 (S.2.2.2.2 _ harr) rfl hdg rfl hn hN hbytes hcells hslots hM.2 fun H1 cA e1 z1 o1 hAr hNm => ?_
  have hca : cA = cy 0 := by
    have h2 : s.vm.findClass ("[" ++ (FieldType.int).toString) = some (cy 0) := (hK.1.2 0 (cy 0, .int) rfl).2
    exact Option.some.inj (hNm.symm.trans h2)
  subst hca
  have hk : ∀ (k : Nat) (x : Nat × va_E), (ec_w B n f)[k]? = some x → H1[x.1]? = H[x.1]? := fun k x hx => o1 x.1 (by have := (hM.1 k x hx).lt; rw [hM.2] at this; exact this)
  refine kk H1 ⟨?_, by rw [z1]; omega⟩ ⟨Nat.le_trans hS.1 (by rw [z1, hM.2]; omega), fun x h1 h2 => (o1 x (by have := hS.1; rw [hM.2] at this; omega)).trans (hS.2.1 x h1 h2), hS.2.2⟩
  rw [← ec_push]
  refine (hM.1.kept hk).app (fun k x hx => ?_)
  have hz : k < 1 := (List.getElem?_eq_some_iff.mp hx).1
  rw [show k = 0 by omega] at hx
  cases hx
  exact e1
theorem ec_newq {C : String} {t index : Nat} (S : CallFix p m c cc nL s args Ts own) (hcl : Cond.classLink own index C ∈ Ts) (hover : va_AO C s) (hK : ed_K D cy s) (ht : (ed_ty cy)[t]? = some (cy t, .object C)) (hM : ec_P D B n f H) (hS : va_S (ec_A B) H0 H locs) {x : Int32} {N : Nat} (hn : ¬ x < 0) (hN : x.toNatClampNeg = N) (hbytes : N * 4 ≤ 536870912) (hcells : cells + 1 ≤ R.cells) (hslots : slots + N ≤ R.slots) (hdg : decode cc pc = .ok (.anewarray index, 3))
    (kk : ∀ (H1 : Heap), ec_P D B (n + 1) (ec_f f n (.inl (cy t, N, .inr (.inr (.inr (.inr (fun _ => none))))))) H1 → va_S (ec_A B) H0 H1 locs → W p l e R s m args below meth c H1 locs (cells + 1) (slots + N) Q (F0 m (pc + 3) ls (.ref (B + n) :: rest))) : W p l e R s m args below meth c H locs cells slots Q (F0 m pc ls (.int x :: rest)) := by
  subst hN
  refine W.anew S.1 S.2.1 S.2.2.2.1 (S.2.2.2.2 _ hcl) (va_AO.use hover) rfl hdg rfl hn hbytes hcells hslots fun cA kA comp f1 f2 f3 f4 => ?_
  have hca : cA = cy t := by
    obtain ⟨-, -, -, -, -, -, h2⟩ := hK.1.2 t _ ht
    exact Option.some.inj (f1.symm.trans h2)
  subst hca
  have hsz : H.size = B + n := hM.2
  generalize hH1 : H.push ({ cls := cy t, slots := Array.replicate x.toNatClampNeg .null, vm := .none } : Cell) = H1
  have z1 : H1.size = H.size + 1 := by rw [← hH1, Array.size_push]
  have e1 : H1[H.size]? = some (arrV (cy t) x.toNatClampNeg (fun _ => .null)) := by rw [← hH1, Array.getElem?_push_size, ← arrV_new]
  have o1 : ∀ q : Nat, q < H.size → H1[q]? = H[q]? := fun q hq => by rw [← hH1, Array.getElem?_push, if_neg (Nat.ne_of_lt hq)]
  have hk : ∀ (k : Nat) (y : Nat × va_E), (ec_w B n f)[k]? = some y → H1[y.1]? = H[y.1]? := fun k y hy => o1 y.1 ((hM.1 k y hy).lt)
  rw [hsz] at e1 z1 ⊢
  refine kk H1 ⟨?_, z1⟩ ⟨Nat.le_trans hS.1 (by rw [z1, hsz]; omega), fun y h1 h2 => (o1 y (Nat.lt_of_lt_of_le h1 hS.1)).trans (hS.2.1 y h1 h2), hS.2.2⟩
  rw [← ec_push]
  refine (hM.1.kept hk).app (fun k y hy => ?_)
  have hz : k < 1 := (List.getElem?_eq_some_iff.mp hy).1
  rw [show k = 0 by omega] at hy
  cases hy
  show H1[B + n]? = some (vp_cell _ _)
  rw [vp_cell_q]
  exact e1
theorem ec_putF {C ref : String} {T : u_T} {N ci index : Nat} {fs : List Value} {v : Value} {o : Nat} (S : CallFix p m c cc nL s args Ts own) (hin : ∀ w ∈ u_ws C T N, w ∈ Ts) (ty0 : Nat → FieldType) (hty : ∀ k, k < N → parseFieldDescriptor (T k).2.2.1 = some (ty0 k)) (hnm : ∀ a, a < N → ∀ b, b < N → a ≠ b → (T a).2.1 ≠ (T b).2.1) (hK : ed_K D cy s) (hM : ec_P D B n f H) (hS : va_S (ec_A B) H0 H locs) (ho : o < n) (he : f o = .inr (ci, fs)) (hc : vwCl[ci]? = some (C, T, N)) (k : Nat) (hk : k < N) (hlink : Cond.fieldLink own index ref (T k).2.1 (T k).2.2.1 ∈ Ts) (href : ref = (T k).1) (hfin : (T k).2.2.2 = true) (hin2 : meth.name = "<init>") (hdecl : (T k).1 = own) (hn : narrow (ty0 k) v = v) (hfit : fits (ty0 k) v = true) (hdg : decode cc pc = .ok (.putfield index, 3))
    (kk : ∀ (H1 : Heap) (locs1 : List Loc), ec_P D B n (ec_f f o (.inr (ci, fs.set k v))) H1 → va_S (ec_A B) H0 H1 locs1 → k < fs.length → W p l e R s m args below meth c H1 locs1 cells slots Q (F0 m (pc + 3) ls rest)) (hl : k < fs.length) : W p l e R s m args below meth c H locs cells slots Q (F0 m pc ls (v :: .ref (B + o) :: rest)) := by
  subst href
  have hw : (ec_w B n f)[o]? = some (B + o, .inr (ci, fs)) := by rw [ec_at ho, he]
  have hap := va_apart (own := own) S.2.2.2.2 hin ty0 hty hnm hK.1 hc
  obtain ⟨r, h1, cell, q1, q2, q3, q4⟩ := hM.1 o _ hw
  have hr : r = (C, T, N) := Option.some.inj (h1.symm.trans hc)
  subst hr
  obtain ⟨hSl, hfc, kC, hkC, hkind⟩ := hK.1.1 ci _ hc
  obtain ⟨cf, kf, fi, fd, hi, hsl⟩ := hSl k hk
  have hlay := S.2.2.2.2 _ (hin _ (u_in_lay hk))
  unfold u_lay at hlay
  rw [if_pos hfin] at hlay
  have hst := (u_facts hfc hkC (u_lays S.2.2.2.2 hin hk) hi).1
  have hcf : m.cls = cf := by
    obtain ⟨_, _, c', _, _, _, -, -, hf', -, -, -, hown2, -⟩ := Cond.laysFinal_spec hlay
    have e1 : c' = cf := by have := hi.symm.trans hf'; simp at this; exact this.1.symm
    rw [hdecl] at hown2
    rw [← e1]; exact Option.some.inj (S.2.2.2.1.symm.trans hown2)
  have h6 := u_fits hfc hkC hkind (Or.inr hlay) hi (hty k hk) hn hfit
  refine W.putFinK S.1 S.2.1 S.2.2.2.1 (S.2.2.2.2 _ hlink) hi hst hcf hin2 (by rw [q2]; exact h6) q1 q3 (by rw [hsl]; exact k2_hasslot (q4 k hk)) rfl rfl hdg fun H' e1 e2 e3 => ?_
  rw [hsl] at e1 ⊢
  refine kk H' _ ⟨?_, by rw [e2]; exact hM.2⟩ (hS.put e2 e3 ((ec_D B n f).2 o _ hw)) hl
  rw [← ec_set ho]
  exact hM.1.set (ec_D B n f) hw ⟨_, hc, t_OB.to (V := updV (vp_V fs) k v) ⟨_, e1, q2, q3, t_set q4 hap hk v⟩ (fun j _ => vp_updV_set hl v j)⟩ e3
theorem ec_putN {C ref : String} {T : u_T} {N ci index : Nat} {fs : List Value} {v : Value} {o : Nat} (S : CallFix p m c cc nL s args Ts own) (hin : ∀ w ∈ u_ws C T N, w ∈ Ts) (ty0 : Nat → FieldType) (hty : ∀ k, k < N → parseFieldDescriptor (T k).2.2.1 = some (ty0 k)) (hnm : ∀ a, a < N → ∀ b, b < N → a ≠ b → (T a).2.1 ≠ (T b).2.1) (hK : ed_K D cy s) (hM : ec_P D B n f H) (hS : va_S (ec_A B) H0 H locs) (ho : o < n) (he : f o = .inr (ci, fs)) (hc : vwCl[ci]? = some (C, T, N)) (k : Nat) (hk : k < N) (hlink : Cond.fieldLink own index ref (T k).2.1 (T k).2.2.1 ∈ Ts) (href : ref = (T k).1) (hfin : (T k).2.2.2 = false) (hn : narrow (ty0 k) v = v) (hfit : fits (ty0 k) v = true) (hdg : decode cc pc = .ok (.putfield index, 3))
    (kk : ∀ (H1 : Heap) (locs1 : List Loc), ec_P D B n (ec_f f o (.inr (ci, fs.set k v))) H1 → va_S (ec_A B) H0 H1 locs1 → k < fs.length → W p l e R s m args below meth c H1 locs1 cells slots Q (F0 m (pc + 3) ls rest)) (hl : k < fs.length) : W p l e R s m args below meth c H locs cells slots Q (F0 m pc ls (v :: .ref (B + o) :: rest)) := by
  subst href
  have hw : (ec_w B n f)[o]? = some (B + o, .inr (ci, fs)) := by rw [ec_at ho, he]
  have hap := va_apart (own := own) S.2.2.2.2 hin ty0 hty hnm hK.1 hc
  obtain ⟨r, h1, cell, q1, q2, q3, q4⟩ := hM.1 o _ hw
  have hr : r = (C, T, N) := Option.some.inj (h1.symm.trans hc)
  subst hr
  obtain ⟨hSl, hfc, kC, hkC, hkind⟩ := hK.1.1 ci _ hc
  obtain ⟨cf, kf, fi, fd, hi, hsl⟩ := hSl k hk
  have hlay := S.2.2.2.2 _ (hin _ (u_in_lay hk))
  unfold u_lay at hlay
  rw [if_neg (by rw [hfin]; decide)] at hlay
  have hst := (u_facts hfc hkC (u_lays S.2.2.2.2 hin hk) hi).1
  have h6 := u_store hfc hkC hkind hlay hi (hty k hk) hn hfit
  refine W.putK S.1 S.2.1 (f := fd) ⟨S.2.2.2.1, S.2.2.2.2 _ hlink, ⟨_, _, _, hi⟩, hst⟩ (by rw [q2]; exact h6) q1 q3 (by rw [hsl]; exact k2_hasslot (q4 k hk)) rfl rfl hdg fun H' e1 e2 e3 => ?_
  rw [hsl] at e1 ⊢
  refine kk H' _ ⟨?_, by rw [e2]; exact hM.2⟩ (hS.put e2 e3 ((ec_D B n f).2 o _ hw)) hl
  rw [← ec_set ho]
  exact hM.1.set (ec_D B n f) hw ⟨_, hc, t_OB.to (V := updV (vp_V fs) k v) ⟨_, e1, q2, q3, t_set q4 hap hk v⟩ (fun j _ => vp_updV_set hl v j)⟩ e3
theorem ec_getf {C ref : String} {T : u_T} {N ci index : Nat} {fs : List Value} {v : Value} {o : Nat} (S : CallFix p m c cc nL s args Ts own) (hin : ∀ w ∈ u_ws C T N, w ∈ Ts) (hK : ed_K D cy s) (hM : ec_P D B n f H) (ho : o < n) (he : f o = .inr (ci, fs)) (hc : vwCl[ci]? = some (C, T, N)) (k : Nat) (hk : k < N) (hlink : Cond.fieldLink own index ref (T k).2.1 (T k).2.2.1 ∈ Ts) (href : ref = (T k).1) (hfv : fs[k]? = some v) (hdg : decode cc pc = .ok (.getfield index, 3))
    (kk : W p l e R s m args below meth c H locs cells slots Q (F0 m (pc + 3) ls (v :: rest))) : W p l e R s m args below meth c H locs cells slots Q (F0 m pc ls (.ref (B + o) :: rest)) := by
  subst href
  exact va_get S.1 S.2.1 S.2.2.2.2 hin S.2.2.2.1 hK.1 hM.1 o (by rw [ec_at ho, he]) hc k hk (S.2.2.2.2 _ hlink) (fun _ h => h) hfv hdg kk
theorem ec_len {t N o : Nat} {g : (Nat → Int32) ⊕ (Nat → Int64) ⊕ (Nat → UInt32) ⊕ (Nat → UInt64) ⊕ (Nat → Option Nat)} {ty : FieldType} {v : Int32} (S : CallFix p m c cc nL s args Ts own) (hK : ed_K D cy s) (hM : ec_P D B n f H) (ho : o < n) (he : f o = .inl (cy t, N, g)) (ht : (ed_ty cy)[t]? = some (cy t, ty)) (hvv : Int32.ofNat N = v) (hdg : decode cc pc = .ok (.arraylength, 1))
    (kk : W p l e R s m args below meth c H locs cells slots Q (F0 m (pc + 1) ls (.int v :: rest))) : W p l e R s m args below meth c H locs cells slots Q (F0 m pc ls (.ref (B + o) :: rest)) :=
  va_alen S.1 S.2.1 hK.1 hM.1 o t (by rw [ec_at ho, he]) ht hvv hdg kk
theorem ec_ist {N o : Nat} {g : Nat → Int32} {x y : Int32} (S : CallFix p m c cc nL s args Ts own) (hK : ed_K D cy s) (hM : ec_P D B n f H) (hS : va_S (ec_A B) H0 H locs) (ho : o < n) (he : f o = .inl (cy 0, N, .inl g)) (hx : ed_in x N) (hdg : decode cc pc = .ok (.iastore, 1))
    (kk : ∀ (H1 : Heap) (locs1 : List Loc), ec_P D B n (ec_f f o (.inl (cy 0, N, .inl (upd g x.toNatClampNeg y)))) H1 → va_S (ec_A B) H0 H1 locs1 → W p l e R s m args below meth c H1 locs1 cells slots Q (F0 m (pc + 1) ls rest)) : W p l e R s m args below meth c H locs cells slots Q (F0 m pc ls (.int y :: .int x :: .ref (B + o) :: rest)) := by
  have hw : (ec_w B n f)[o]? = some (B + o, .inl (cy 0, N, .inl g)) := by rw [ec_at ho, he]
  have hin := ed_in_vp hx
  refine W.iast S.1 S.2.1 (hM.1 o _ hw) ((hK.1.2 0 (cy 0, .int) rfl).1 N (fun j => .int (g j))) (fun q => by cases q) (by show ¬ (x < 0 ∨ (arrV _ _ _).slots.size ≤ _); rw [arrV_size]; exact hin) rfl rfl hdg fun H1 e z oq => ?_
  refine kk H1 _ ⟨?_, by rw [z]; exact hM.2⟩ (hS.put z oq ((ec_D B n f).2 o _ hw))
  rw [← ec_set ho]
  refine hM.1.set (ec_D B n f) hw ?_ oq
  show H1[B + o]? = some (vp_cell _ _)
  rw [e]
  rw [vp_cell_i, vp_cell_i, arrV_store]
  congr 2
  funext q
  by_cases hq : q = x.toNatClampNeg
  · subst hq
    simp [updV, upd]
  · simp [updV, upd, hq]
end
theorem ec_ne (f : Nat → va_E) {o x : Nat} (e : va_E) (h : x ≠ o) : ec_f f o e x = f x := by unfold ec_f; rw [if_neg h]
theorem ec_eq (f : Nat → va_E) (o : Nat) (e : va_E) : ec_f f o e o = e := by unfold ec_f; rw [if_pos rfl]
