/-! Constructors: rows of calls and of rows of objects. -/
section
variable {p : Program} {l : Launch} {e : Env} {R : Room} {s : State} {m : MethodId} {args : Array Value} {below : List Frame} {meth : Method} {c : Code} {H : Heap} {locs : List Loc} {cells slots mc ms : Nat} {Q : State → Prop}
variable {pc nL index maxL : Nat} {ls : Array Slot} {rest st0 : List Value} {a : Array Value} {cc bytes : ByteArray} {Ts ws : List Cond} {own host : String} {D : va_G} {cy : Nat → ClassId} {B n : Nat} {f : Nat → va_E} {A : Nat → Prop} {P0 P1 : Heap → Prop} {b : Addr} {y : MethodName} {rm : Room} {H0 : Heap}
theorem ec_kI (hr : va_Run p l e R s m args below meth c H locs cells slots mc ms (F0 m pc ls st0) rest (ed_qV A P1 a) A) (hS : va_S A s.heap H locs) (kk : ∀ (H1 : Heap) (locs1 : List Loc), P1 H1 → va_S A s.heap H1 locs1 → W p l e R s m args below meth c H1 locs1 (cells + mc) (slots + ms) Q (F0 m (pc + 3) ls rest)) : W p l e R s m args below meth c H locs cells slots Q (F0 m pc ls st0) := by
  refine va_callv hr hS (fun q _ h => h) (fun q h => h) (fun u t H1 locs1 ht _ _ hB _ _ hS1 => ?_)
  exact kk H1 locs1 (by rw [← ht]; exact hB) hS1
theorem ec_rN {Qc : Array Value → State → Outcome → State → Prop} (S : CallFix p m c cc nL s args Ts own) (hK : ed_K D cy s) (hAO : ec_AO s) (hM : P0 H) (hC : Met l y ws rm (ec_pC D cy P0 [.ref b]) Qc mc ms A) (cw : va_CN R s args own index y host bytes maxL none ws rm mc ms 0 ∧ y.name = "<init>" ∧ (Cond.instanceMethod y).before args s = true) (hl : ls.size = nL) (hst : st0 = .ref b :: rest) (hW : (rest.map fun v => v.category).sum ≤ 8) (hdg : decode cc pc = .ok (.invokespecial index, 3)) (hf : cells + mc ≤ R.cells ∧ slots + ms ≤ R.slots) :
    va_Run p l e R s m args below meth c H locs cells slots mc ms (F0 m pc ls st0) rest (Qc (Value.ref b :: []).toArray) A :=
  va_runIN (As := []) (rest := rest) S hC cw ⟨ec_pC_blind, fun U hU hWm => ⟨rfl, by rw [hU]; exact hM, hK.warm hWm, hAO.al hWm.alike⟩⟩ rfl rfl hl hst (lv_room hW) hdg hf
theorem ec_rI {Qc : Array Value → State → Outcome → State → Prop} (S : CallFix p m c cc nL s args Ts own) (hK : ed_K D cy s) (hAO : ec_AO s) (hM : P0 H) (hC : Met l y ws rm (ec_pC D cy P0 [.ref b]) Qc mc ms A) (cw : CallB R s args own index y bytes maxL none ws rm mc ms 0 ∧ y.name = "<init>" ∧ (Cond.instanceMethod y).before args s = true) (hl : ls.size = nL) (hst : st0 = .ref b :: rest) (hW : (rest.map fun v => v.category).sum ≤ 8) (hdg : decode cc pc = .ok (.invokespecial index, 3)) (hf : cells + mc ≤ R.cells ∧ slots + ms ≤ R.slots) :
    va_Run p l e R s m args below meth c H locs cells slots mc ms (F0 m pc ls st0) rest (Qc (Value.ref b :: []).toArray) A :=
  va_runI (As := []) (rest := rest) S hC cw ⟨ec_pC_blind, fun U hU hWm => ⟨rfl, by rw [hU]; exact hM, hK.warm hWm, hAO.al hWm.alike⟩⟩ rfl rfl hl hst (lv_room hW) hdg hf
theorem ec_astq {t ci o o2 N : Nat} {r : vw_C} {vs : List Value} {g : Nat → Option Nat} {x : Int32} (S : CallFix p m c cc nL s args Ts own) (hK : ed_K D cy s) (hM : ec_P D B n f H) (hS : va_S (ec_A B) H0 H locs) (ho : o < n) (he : f o = .inl (cy t, N, .inr (.inr (.inr (.inr g))))) (ht : (ed_ty cy)[t]? = some (cy t, .object r.1)) (ho2 : o2 < n) (he2 : f o2 = .inr (ci, vs)) (hc : vwCl[ci]? = some r) (hx : ed_in x N) (hdg : decode cc pc = .ok (.aastore, 1))
    (kk : ∀ (H1 : Heap) (locs1 : List Loc), ec_P D B n (ec_f f o (.inl (cy t, N, .inr (.inr (.inr (.inr (va_up g x.toNatClampNeg (some (B + o2))))))))) H1 → va_S (ec_A B) H0 H1 locs1 → W p l e R s m args below meth c H1 locs1 cells slots Q (F0 m (pc + 1) ls rest)) : W p l e R s m args below meth c H locs cells slots Q (F0 m pc ls (.ref (B + o2) :: .int x :: .ref (B + o) :: rest)) := by
  have hw : (ec_w B n f)[o]? = some (B + o, .inl (cy t, N, .inr (.inr (.inr (.inr g))))) := by rw [ec_at ho, he]
  have hw2 : (ec_w B n f)[o2]? = some (B + o2, .inr (ci, vs)) := by rw [ec_at ho2, he2]
  have hin := ed_in_vp hx
  have hlt : x.toNatClampNeg < N := Nat.not_le.mp fun q => hin (Or.inr q)
  have h0 : ¬ x < 0 := fun q => hin (Or.inl q)
  obtain ⟨r', hr', cellV, g1, g2, g3, -⟩ := hM.1 o2 _ hw2
  have hcls := (hK.1.1 ci r hc).2
  obtain ⟨kA, comp, k1, k2, k3, -⟩ := (hK.1.2 t _ ht).2
  have hcomp : comp = D.1 ci := Option.some.inj (k3.symm.trans hcls.1)
  subst hcomp
  obtain ⟨kC, hkC, -⟩ := hcls.2
  refine W.aast S.1 S.2.1 (hM.1 o _ hw) (fun q h => by cases h) (fun h => by cases h) k1 k2 rfl hkC ⟨h0, by show _ < (arrV _ _ _).slots.size; rw [arrV_size]; exact hlt⟩ g1 (fun q h => by rw [g3] at h; cases h) (by rw [g2]; exact hkC) (by rw [g2]; exact va_assign hcls) rfl rfl hdg fun H1 e z oq => ?_
  refine kk H1 _ ⟨?_, by rw [z]; exact hM.2⟩ (hS.put z oq ((ec_D B n f).2 o _ hw))
  rw [← ec_set ho]
  refine hM.1.set (ec_D B n f) hw ?_ oq
  show H1[B + o]? = some (vp_cell _ _)
  rw [e]
  rw [vp_cell_q, vp_cell_q, arrV_store]
  congr 2
  funext q
  by_cases hq : q = x.toNatClampNeg
  · subst hq
    simp [updV, va_up, va_rf]
  · simp [updV, va_up, hq]
end
