/-! Rows over the class's memory: one instruction each. -/
theorem ed_e0 (cy : Nat → ClassId) (B j i : Nat) (r : Nat → Int32) : ed_ent cy B j 0 i r = .inr (5, [.int (r 0), .int (r 1), .int (r 2), .int (r 3), .int (r 4), .int (r 5), .ref (B + ed_oF j 1 0), .ref (B + ed_oF j 3 0), .ref (B + ed_oF j 4 0), .ref (B + ed_oF j 5 0), .ref (B + ed_oF j 6 0)]) := rfl
theorem ed_e1 (cy : Nat → ClassId) (B j i : Nat) (r : Nat → Int32) : ed_ent cy B j 1 i r = .inr (3, [.ref (B + ed_oF j 2 0), .int (r 1), .int (r 2)]) := rfl
theorem ed_e2 (cy : Nat → ClassId) (B j i : Nat) (r : Nat → Int32) : ed_ent cy B j 2 i r = .inl (cy 0, 48, .inl r) := rfl
theorem ed_e3 (cy : Nat → ClassId) (B j i : Nat) (r : Nat → Int32) : ed_ent cy B j 3 i r = .inl (cy 1, 20, .inr (.inr (.inr (.inr (fun k => some (B + ed_oF j 7 k)))))) := rfl
theorem ed_e4 (cy : Nat → ClassId) (B j i : Nat) (r : Nat → Int32) : ed_ent cy B j 4 i r = .inl (cy 2, 8, .inr (.inr (.inr (.inr (fun k => some (B + ed_oF j 11 k)))))) := rfl
theorem ed_e5 (cy : Nat → ClassId) (B j i : Nat) (r : Nat → Int32) : ed_ent cy B j 5 i r = .inl (cy 3, 160, .inr (.inr (.inr (.inr (fun k => some (B + ed_oF j 12 k)))))) := rfl
theorem ed_e6 (cy : Nat → ClassId) (B j i : Nat) (r : Nat → Int32) : ed_ent cy B j 6 i r = .inl (cy 4, 10, .inr (.inr (.inr (.inr (fun k => some (B + ed_oF j 13 k)))))) := rfl
theorem ed_e7 (cy : Nat → ClassId) (B j i : Nat) (r : Nat → Int32) : ed_ent cy B j 7 i r = .inr (6, [.int (r 0), .int (r 1), .ref (B + ed_oF j 8 i), .int (r 3), .int (r 4), .ref (B + ed_oF j 9 i), .int (r 6), .int (r 7), .ref (B + ed_oF j 10 i), .int (r 9), .int (r 10)]) := rfl
theorem ed_e8 (cy : Nat → ClassId) (B j i : Nat) (r : Nat → Int32) : ed_ent cy B j 8 i r = .inl (cy 0, 3, .inl r) := rfl
theorem ed_e9 (cy : Nat → ClassId) (B j i : Nat) (r : Nat → Int32) : ed_ent cy B j 9 i r = .inl (cy 0, 12, .inl r) := rfl
theorem ed_e10 (cy : Nat → ClassId) (B j i : Nat) (r : Nat → Int32) : ed_ent cy B j 10 i r = .inl (cy 0, 6, .inl r) := rfl
theorem ed_e11 (cy : Nat → ClassId) (B j i : Nat) (r : Nat → Int32) : ed_ent cy B j 11 i r = .inr (0, [.int (r 0), .int (r 1), .int (r 2), .int (r 3), .int (r 4), .int (r 5), .int (r 6), .int (r 7), .int (r 8), .int (r 9)]) := rfl
theorem ed_e12 (cy : Nat → ClassId) (B j i : Nat) (r : Nat → Int32) : ed_ent cy B j 12 i r = .inr (1, [.int (r 0), .int (r 1), .int (r 2), .int (r 3), .int (r 4), .int (r 5)]) := rfl
theorem ed_e13 (cy : Nat → ClassId) (B j i : Nat) (r : Nat → Int32) : ed_ent cy B j 13 i r = .inr (4, [.int (r 0), .int (r 1)]) := rfl
theorem ed_e14 (cy : Nat → ClassId) (B j i : Nat) (r : Nat → Int32) : ed_ent cy B j 14 i r = .inr (8, [.ref (B + ed_oF 0 0 0), .ref (B + ed_oF 1 0 0), .ref (B + ed_oF 2 0 0), .int (r 3), .ref (B + ed_oF 7 15 0), .ref (B + ed_oF 7 17 0)]) := rfl
theorem ed_e15 (cy : Nat → ClassId) (B j i : Nat) (r : Nat → Int32) : ed_ent cy B j 15 i r = .inr (2, [.ref (B + ed_oF 7 16 0), .int (r 1)]) := rfl
theorem ed_e16 (cy : Nat → ClassId) (B j i : Nat) (r : Nat → Int32) : ed_ent cy B j 16 i r = .inl (cy 5, 4, .inr (.inr (.inr (.inr (fun k => some (B + ed_oF ((r k).toNatClampNeg % 7) 0 0)))))) := rfl
theorem ed_e17 (cy : Nat → ClassId) (B j i : Nat) (r : Nat → Int32) : ed_ent cy B j 17 i r = .inr (7, [.ref (B + ed_oF 7 18 0), .int (r 1), .int (r 2), .int (r 3), .int (r 4), .ref (B + ed_oF 7 19 0), .int (r 6), .int (r 7), .ref (B + ed_oF 7 20 0)]) := rfl
theorem ed_e18 (cy : Nat → ClassId) (B j i : Nat) (r : Nat → Int32) : ed_ent cy B j 18 i r = .inl (cy 0, 40, .inl r) := rfl
theorem ed_e19 (cy : Nat → ClassId) (B j i : Nat) (r : Nat → Int32) : ed_ent cy B j 19 i r = .inl (cy 0, 3, .inl r) := rfl
theorem ed_e20 (cy : Nat → ClassId) (B j i : Nat) (r : Nat → Int32) : ed_ent cy B j 20 i r = .inl (cy 0, 12, .inl r) := rfl
section
variable {p : Program} {l : Launch} {e : Env} {R : Room} {s : State} {m : MethodId} {args : Array Value} {below : List Frame} {meth : Method} {c : Code} {H : Heap} {locs : List Loc} {cells slots : Nat} {Q : State → Prop}
variable {pc nL : Nat} {ls : Array Slot} {rest st0 : List Value} {cc : ByteArray} {Ts : List Cond} {own : String} {D : va_G} {cy : Nat → ClassId} {B : Nat} {μ : ed_CM} {j K i : Nat} {σ : ed_SM} {H0 : Heap}
theorem ed_get {C ref : String} {T : u_T} {N ci index : Nat} {fs : List Value} {v : Value} {r : Nat → Int32} (S : CallFix p m c cc nL s args Ts own) (hin : ∀ w ∈ u_ws C T N, w ∈ Ts) (hK : ed_K D cy s) (hM : ed_P D cy B μ H) (hv : ed_vd j K i = true) (hr : μ j K i = r) (he : ed_ent cy B j K i r = .inr (ci, fs)) (hc : vwCl[ci]? = some (C, T, N)) (k : Nat) (hk : k < N) (hlink : Cond.fieldLink own index ref (T k).2.1 (T k).2.2.1 ∈ Ts) (href : ref = (T k).1) (hfv : fs[k]? = some v) (hdg : decode cc pc = .ok (.getfield index, 3))
    (kk : W p l e R s m args below meth c H locs cells slots Q (F0 m (pc + 3) ls (v :: rest))) : W p l e R s m args below meth c H locs cells slots Q (F0 m pc ls (.ref (B + ed_oF j K i) :: rest)) := by
  subst href
  subst hr
  exact va_get S.1 S.2.1 S.2.2.2.2 hin S.2.2.2.1 hK.1 hM (ed_oF j K i) (by rw [ed_w_at cy B μ hv, he]) hc k hk (S.2.2.2.2 _ hlink) (fun _ h => h) hfv hdg kk
theorem ed_put {C ref : String} {T : u_T} {N ci index : Nat} {fs : List Value} {x : Int32} (S : CallFix p m c cc nL s args Ts own) (hin : ∀ w ∈ u_ws C T N, w ∈ Ts) (ty0 : Nat → FieldType) (hty : ∀ k, k < N → parseFieldDescriptor (T k).2.2.1 = some (ty0 k)) (hnm : ∀ a, a < N → ∀ b, b < N → a ≠ b → (T a).2.1 ≠ (T b).2.1) (hK : ed_K D cy s) (hM : ed_P D cy B (ed_sJ μ j σ) H) (hS : va_S (ed_A B) H0 H locs) (hv : ed_vd j K i = true) (he : ed_ent cy B j K i (σ K i) = .inr (ci, fs)) (hc : vwCl[ci]? = some (C, T, N)) (k : Nat) (hk : k < N) (hlink : Cond.fieldLink own index ref (T k).2.1 (T k).2.2.1 ∈ Ts) (href : ref = (T k).1) (hfin : (T k).2.2.2 = false) (hn : narrow (ty0 k) (.int x) = .int x) (hfit : fits (ty0 k) (.int x) = true) (hl : k < fs.length) (he2 : ed_ent cy B j K i (upd (σ K i) k x) = .inr (ci, fs.set k (.int x))) (hdg : decode cc pc = .ok (.putfield index, 3))
    (kk : ∀ (H1 : Heap) (locs1 : List Loc), ed_P D cy B (ed_sJ μ j (ed_up σ K i k x)) H1 → va_S (ed_A B) H0 H1 locs1 → W p l e R s m args below meth c H1 locs1 cells slots Q (F0 m (pc + 3) ls rest)) : W p l e R s m args below meth c H locs cells slots Q (F0 m pc ls (.int x :: .ref (B + ed_oF j K i) :: rest)) := by
  subst href
  refine va_put S.1 S.2.1 S.2.2.2.2 hin ty0 hty hnm S.2.2.2.1 hK.1 hM (ed_w_D cy B _) hS (ed_oF j K i) (by rw [ed_w_at cy B _ hv, ed_sJ_self, he]) hc k hk (S.2.2.2.2 _ hlink) (fun _ h => h) hfin (hty k hk) hn hfit hl hdg (fun H1 locs1 hP _ hS1 => kk H1 locs1 ?_ hS1)
  rw [← he2, ed_w_set2 cy B μ hv] at hP
  exact hP
theorem ed_ild {r : Nat → Int32} {n : Nat} {x : Int32} (S : CallFix p m c cc nL s args Ts own) (hK : ed_K D cy s) (hM : ed_P D cy B μ H) (hv : ed_vd j K i = true) (hr : μ j K i = r) (he : ed_ent cy B j K i r = .inl (cy 0, n, .inl r)) (hx : ed_in x n) (hdg : decode cc pc = .ok (.iaload, 1))
    (kk : W p l e R s m args below meth c H locs cells slots Q (F0 m (pc + 1) ls (.int (r x.toNatClampNeg) :: rest))) : W p l e R s m args below meth c H locs cells slots Q (F0 m pc ls (.int x :: .ref (B + ed_oF j K i) :: rest)) := by
  subst hr
  exact va_iald S.1 S.2.1 hK.1 hM (ed_oF j K i) 0 (by rw [ed_w_at cy B μ hv, he]) rfl (ed_in_vp hx) hdg kk
theorem ed_ist {n : Nat} {x y : Int32} (S : CallFix p m c cc nL s args Ts own) (hK : ed_K D cy s) (hM : ed_P D cy B (ed_sJ μ j σ) H) (hS : va_S (ed_A B) H0 H locs) (hv : ed_vd j K i = true) (he : ∀ r, ed_ent cy B j K i r = .inl (cy 0, n, .inl r)) (hx : ed_in x n) (hdg : decode cc pc = .ok (.iastore, 1))
    (kk : ∀ (H1 : Heap) (locs1 : List Loc), ed_P D cy B (ed_sJ μ j (ed_up σ K i x.toNatClampNeg y)) H1 → va_S (ed_A B) H0 H1 locs1 → W p l e R s m args below meth c H1 locs1 cells slots Q (F0 m (pc + 1) ls rest)) : W p l e R s m args below meth c H locs cells slots Q (F0 m pc ls (.int y :: .int x :: .ref (B + ed_oF j K i) :: rest)) := by
  refine va_iast S.1 S.2.1 hK.1 hM (ed_w_D cy B _) hS (ed_oF j K i) 0 (by rw [ed_w_at cy B _ hv, ed_sJ_self, he]) rfl (ed_in_vp hx) hdg (fun H1 locs1 hP _ hS1 => kk H1 locs1 ?_ hS1)
  rw [← he, ed_w_set2 cy B μ hv] at hP
  exact hP
theorem ed_ald {C : String} {t n : Nat} {f : Nat → Option Nat} {r : Nat → Int32} {x : Int32} {v : Value} (S : CallFix p m c cc nL s args Ts own) (hK : ed_K D cy s) (hM : ed_P D cy B μ H) (hv : ed_vd j K i = true) (hr : μ j K i = r) (he : ed_ent cy B j K i r = .inl (cy t, n, .inr (.inr (.inr (.inr f))))) (ht : (ed_ty cy)[t]? = some (cy t, .object C)) (hx : ed_in x n) (hvv : va_rf (f x.toNatClampNeg) = v) (hdg : decode cc pc = .ok (.aaload, 1))
    (kk : W p l e R s m args below meth c H locs cells slots Q (F0 m (pc + 1) ls (v :: rest))) : W p l e R s m args below meth c H locs cells slots Q (F0 m pc ls (.int x :: .ref (B + ed_oF j K i) :: rest)) := by
  subst hr
  subst hvv
  exact va_aldq S.1 S.2.1 hK.1 hM (ed_oF j K i) t (by rw [ed_w_at cy B μ hv, he]) ht (ed_in_vp hx) hdg kk
theorem ed_len {t n : Nat} {g : (Nat → Int32) ⊕ (Nat → Int64) ⊕ (Nat → UInt32) ⊕ (Nat → UInt64) ⊕ (Nat → Option Nat)} {r : Nat → Int32} {ty : FieldType} {v : Int32} (S : CallFix p m c cc nL s args Ts own) (hK : ed_K D cy s) (hM : ed_P D cy B μ H) (hv : ed_vd j K i = true) (hr : μ j K i = r) (he : ed_ent cy B j K i r = .inl (cy t, n, g)) (ht : (ed_ty cy)[t]? = some (cy t, ty)) (hvv : Int32.ofNat n = v) (hdg : decode cc pc = .ok (.arraylength, 1))
    (kk : W p l e R s m args below meth c H locs cells slots Q (F0 m (pc + 1) ls (.int v :: rest))) : W p l e R s m args below meth c H locs cells slots Q (F0 m pc ls (.ref (B + ed_oF j K i) :: rest)) := by
  subst hr
  exact va_alen S.1 S.2.1 hK.1 hM (ed_oF j K i) t (by rw [ed_w_at cy B μ hv, he]) ht hvv hdg kk
/-- a receiver of a call -/
theorem ed_rc {ci : Nat} {q : vw_C} {fs : List Value} {r : Nat → Int32} (hK : ed_K D cy s) (hM : ed_P D cy B μ H) (hv : ed_vd j K i = true) (hr : μ j K i = r) (he : ed_ent cy B j K i r = .inr (ci, fs)) (hc : vwCl[ci]? = some q) : ∃ cell : Cell, H[B + ed_oF j K i]? = some cell ∧ cell.vm.isStatics = false ∧ s.vm.findClass q.1 = some cell.cls := by
  subst hr
  exact va_recv hK.1 hM hc (q0 := ed_oF j K i) (by rw [ed_w_at cy B μ hv, he])
end
section
variable {p : Program} {l : Launch} {e : Env} {R : Room} {s : State} {m : MethodId} {args : Array Value} {below : List Frame} {meth : Method} {c : Code} {H : Heap} {locs : List Loc} {cells slots : Nat} {Q : State → Prop}
variable {pc nL n index maxL : Nat} {ls : Array Slot} {rest st0 As : List Value} {a : Array Value} {cc bytes : ByteArray} {Ts ws : List Cond} {own C host : String} {D : va_G} {cy : Nat → ClassId} {A : Nat → Prop} {P0 P1 : Heap → Prop} {r : Int32} {o : Option Nat} {b : Addr} {y : MethodName} {ret : Option FieldType} {rm : Room}
theorem ed_kI (hr : va_Run p l e R s m args below meth c H locs cells slots 0 0 (F0 m pc ls st0) rest (ed_qI A P1 r a) A) (hS : va_S A s.heap H locs) (kk : ∀ (H1 : Heap) (locs1 : List Loc), P1 H1 → va_S A s.heap H1 locs1 → W p l e R s m args below meth c H1 locs1 cells slots Q (F0 m (pc + 3) ls (.int r :: rest))) : W p l e R s m args below meth c H locs cells slots Q (F0 m pc ls st0) := by
  refine va_calli (mc := 0) (ms := 0) hr hS (fun q _ h => h) (fun q h => h) (fun r' u t H1 locs1 ht _ hw hB _ _ hS1 => ?_)
  subst hw
  exact kk H1 locs1 (by rw [← ht]; exact hB) hS1
theorem ed_kV (hr : va_Run p l e R s m args below meth c H locs cells slots 0 0 (F0 m pc ls st0) rest (ed_qV A P1 a) A) (hS : va_S A s.heap H locs) (kk : ∀ (H1 : Heap) (locs1 : List Loc), P1 H1 → va_S A s.heap H1 locs1 → W p l e R s m args below meth c H1 locs1 cells slots Q (F0 m (pc + 3) ls rest)) : W p l e R s m args below meth c H locs cells slots Q (F0 m pc ls st0) := by
  refine va_callv (mc := 0) (ms := 0) hr hS (fun q _ h => h) (fun q h => h) (fun u t H1 locs1 ht _ _ hB _ _ hS1 => ?_)
  exact kk H1 locs1 (by rw [← ht]; exact hB) hS1
theorem ed_kA (hr : va_Run p l e R s m args below meth c H locs cells slots 0 0 (F0 m pc ls st0) rest (ed_qA A P1 o a) A) (hS : va_S A s.heap H locs) (kk : ∀ (H1 : Heap) (locs1 : List Loc), P1 H1 → va_S A s.heap H1 locs1 → W p l e R s m args below meth c H1 locs1 cells slots Q (F0 m (pc + 3) ls (va_rf o :: rest))) : W p l e R s m args below meth c H locs cells slots Q (F0 m pc ls st0) := by
  refine va_callq (mc := 0) (ms := 0) hr hS (fun q _ h => h) (fun q h => h) (fun r' u t H1 locs1 ht _ hw hB _ _ hS1 => ?_)
  subst hw
  exact kk H1 locs1 (by rw [← ht]; exact hB) hS1
/-- a call's run: virtual, static, static of a nest mate -/
theorem ed_rV {Qc : Array Value → State → Outcome → State → Prop} (S : CallFix p m c cc nL s args Ts own) (hK : ed_K D cy s) (hM : P0 H) (hC : Met l y ws rm (ed_pC D cy P0 (.ref b :: As)) Qc 0 0 A) (cw : CallW R s args own C index y bytes maxL ret ws rm 0 0 n) (hrc : ∃ cell : Cell, H[b]? = some cell ∧ cell.vm.isStatics = false ∧ s.vm.findClass C = some cell.cls) (hn : As.length = n) (hl : ls.size = nL) (hst : st0 = As.reverse ++ .ref b :: rest) (hW : (rest.map fun v => v.category).sum ≤ 8) (hdg : decode cc pc = .ok (.invokevirtual index, 3)) (hf : cells ≤ R.cells ∧ slots ≤ R.slots) :
    va_Run p l e R s m args below meth c H locs cells slots 0 0 (F0 m pc ls st0) rest (Qc (Value.ref b :: As).toArray) A :=
  va_runV (As := As) (rest := rest) S hC cw ⟨ed_pC_blind, hrc, fun U hU hWm => ⟨rfl, by rw [hU]; exact hM, hK.warm hWm⟩⟩ rfl hn hl hst (lv_room hW) hdg hf
theorem ed_rS {Qc : Array Value → State → Outcome → State → Prop} (S : CallFix p m c cc nL s args Ts own) (hK : ed_K D cy s) (hM : P0 H) (hC : Met l y ws rm (ed_pC D cy P0 As) Qc 0 0 A) (cw : CallB R s args own index y bytes maxL ret ws rm 0 0 n ∧ (Cond.static y).before args s = true) (hn : As.length = n) (hl : ls.size = nL) (hst : st0 = As.reverse ++ rest) (hW : (rest.map fun v => v.category).sum ≤ 8) (hdg : decode cc pc = .ok (.invokestatic index, 3)) (hf : cells ≤ R.cells ∧ slots ≤ R.slots) :
    va_Run p l e R s m args below meth c H locs cells slots 0 0 (F0 m pc ls st0) rest (Qc As.toArray) A :=
  va_runS (As := As) (rest := rest) S hC cw ⟨ed_pC_blind, fun U hU hWm => ⟨rfl, by rw [hU]; exact hM, hK.warm hWm⟩⟩ rfl hn hl hst (lv_room hW) hdg hf
theorem ed_rN {Qc : Array Value → State → Outcome → State → Prop} (S : CallFix p m c cc nL s args Ts own) (hK : ed_K D cy s) (hM : P0 H) (hC : Met l y ws rm (ed_pC D cy P0 As) Qc 0 0 A) (cw : va_CN R s args own index y host bytes maxL ret ws rm 0 0 n ∧ (Cond.static y).before args s = true ∧ True) (hn : As.length = n) (hl : ls.size = nL) (hst : st0 = As.reverse ++ rest) (hW : (rest.map fun v => v.category).sum ≤ 8) (hdg : decode cc pc = .ok (.invokestatic index, 3)) (hf : cells ≤ R.cells ∧ slots ≤ R.slots) :
    va_Run p l e R s m args below meth c H locs cells slots 0 0 (F0 m pc ls st0) rest (Qc As.toArray) A :=
  va_runSN (As := As) (rest := rest) S hC cw ⟨ed_pC_blind, fun U hU hWm => ⟨rfl, by rw [hU]; exact hM, hK.warm hWm⟩⟩ rfl hn hl hst (lv_room hW) hdg hf
/-- ends -/
theorem ed_ri (S : CallFix p m c cc nL s args Ts own) (hr : meth.sig.returnType = some .int) (hlocks : meth.locks = false) (hM : P1 H) (hS : va_S A s.heap H locs) (hdg : decode cc pc = .ok (.ireturn, 1)) : W p l e R s m args below meth c H locs cells slots (MQ below (ed_qI A P1 r) args s cells slots A) (F0 m pc ls [.int r]) :=
  W.iret (v := r) S.1 S.2.1 hr (fun t ht _ => ⟨⟨r, (), rfl, rfl, by show P1 t.heap; rw [ht]; exact hM⟩, hS.F ht⟩) hS.2.2 hdg hlocks
theorem ed_rz (S : CallFix p m c cc nL s args Ts own) (hr : meth.sig.returnType = some .boolean) (hlocks : meth.locks = false) (hbo : narrow .boolean (.int r) = .int r) (hM : P1 H) (hS : va_S A s.heap H locs) (hdg : decode cc pc = .ok (.ireturn, 1)) : W p l e R s m args below meth c H locs cells slots (MQ below (ed_qI A P1 r) args s cells slots A) (F0 m pc ls [.int r]) :=
  W.zret (v := r) S.1 S.2.1 hr hbo (fun t ht _ => ⟨⟨r, (), rfl, rfl, by show P1 t.heap; rw [ht]; exact hM⟩, hS.F ht⟩) hS.2.2 hdg hlocks
theorem ed_rv (S : CallFix p m c cc nL s args Ts own) (hr : meth.sig.returnType = none) (hlocks : meth.locks = false) (hM : P1 H) (hS : va_S A s.heap H locs) (hdg : decode cc pc = .ok (.return_, 1)) : W p l e R s m args below meth c H locs cells slots (MQ below (ed_qV A P1) args s cells slots A) (F0 m pc ls []) :=
  W.vret S.1 S.2.1 hr (fun t ht _ => ⟨⟨(), rfl, trivial, by show P1 t.heap; rw [ht]; exact hM⟩, hS.F ht⟩) hS.2.2 hdg hlocks
theorem ed_ra {rt : FieldType} {v : Value} (S : CallFix p m c cc nL s args Ts own) (hr : meth.sig.returnType = some rt) (hrt : (∃ n, rt = .object n) ∨ ∃ t, rt = .array t) (hlocks : meth.locks = false) (hv : va_rf o = v) (hM : P1 H) (hS : va_S A s.heap H locs) (hdg : decode cc pc = .ok (.areturn, 1)) : W p l e R s m args below meth c H locs cells slots (MQ below (ed_qA A P1 o) args s cells slots A) (F0 m pc ls [v]) := by
  subst hv
  exact W.aret S.1 S.2.1 hr hrt (va_rf_or o) (fun t ht _ => ⟨⟨o, (), rfl, rfl, by show P1 t.heap; rw [ht]; exact hM⟩, hS.F ht⟩) hS.2.2 hdg hlocks
theorem ed_min {x y : Int32} (S : CallFix p m c cc nL s args Ts own) (hl : ls.size = nL) (hlink : Cond.methodLink own index Lib.Math.min.name ∈ Ts) (hstat : Cond.static Lib.Math.min.name ∈ Ts) (hini : Cond.initialized "java/lang/Math" ∈ Ts) (hcode : Cond.code Lib.Math.min.name Lib.Math.min.code 2 (some .int) ∈ Ts) (hframes : 1 ≤ R.frames) (hlocals : (rest.map fun v => v.category).sum + 13 ≤ R.locals) (hf : cells ≤ R.cells ∧ slots ≤ R.slots) (hdg : decode cc pc = .ok (.invokestatic index, 3))
    (kk : W p l e R s m args below meth c H locs cells slots Q (F0 m (pc + 3) ls (.int (if y < x then y else x) :: rest))) : W p l e R s m args below meth c H locs cells slots Q (F0 m pc ls (.int y :: .int x :: rest)) :=
  va_mmin S.1 S.2.1 (S.2.2.1.trans hl.symm) S.2.2.2.1 (S.2.2.2.2 _ hlink) (S.2.2.2.2 _ hstat) (S.2.2.2.2 _ hini) (S.2.2.2.2 _ hcode) hframes hlocals hf.1 hf.2 hdg kk
theorem ed_max {x y : Int32} (S : CallFix p m c cc nL s args Ts own) (hl : ls.size = nL) (hlink : Cond.methodLink own index Lib.Math.max.name ∈ Ts) (hstat : Cond.static Lib.Math.max.name ∈ Ts) (hini : Cond.initialized "java/lang/Math" ∈ Ts) (hcode : Cond.code Lib.Math.max.name Lib.Math.max.code 2 (some .int) ∈ Ts) (hframes : 1 ≤ R.frames) (hlocals : (rest.map fun v => v.category).sum + 13 ≤ R.locals) (hf : cells ≤ R.cells ∧ slots ≤ R.slots) (hdg : decode cc pc = .ok (.invokestatic index, 3))
    (kk : W p l e R s m args below meth c H locs cells slots Q (F0 m (pc + 3) ls (.int (if x < y then y else x) :: rest))) : W p l e R s m args below meth c H locs cells slots Q (F0 m pc ls (.int y :: .int x :: rest)) :=
  va_mmax S.1 S.2.1 (S.2.2.1.trans hl.symm) S.2.2.2.1 (S.2.2.2.2 _ hlink) (S.2.2.2.2 _ hstat) (S.2.2.2.2 _ hini) (S.2.2.2.2 _ hcode) hframes hlocals hf.1 hf.2 hdg kk
end
