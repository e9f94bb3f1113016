/-! Constructors: the leaves. -/
def ec_AO (U : State) : Prop := va_AO RX6 U ∧ va_AO RX0 U ∧ va_AO RX1 U ∧ va_AO RX4 U ∧ va_AO RX5 U
theorem ec_AO.al {u U : State} (hvm : u.vm.Alike U.vm) (h : ec_AO u) : ec_AO U := ⟨h.1.moved hvm, h.2.1.moved hvm, h.2.2.1.moved hvm, h.2.2.2.1.moved hvm, h.2.2.2.2.moved hvm⟩
def ec_pC (D : va_G) (cy : Nat → ClassId) (P : Heap → Prop) (av : List Value) : Array Value → State → Prop := va_Pc av (fun U => P U.heap ∧ ed_K D cy U ∧ ec_AO U)
theorem ec_pC_blind {D : va_G} {cy : Nat → ClassId} {P : Heap → Prop} {av : List Value} : FrameBlind (ec_pC D cy P av) := fun _ _ _ _ q => ⟨q.1, q.2.1, q.2.2.1.call, q.2.2.2.al (Vm.Alike.refl _)⟩
set_option maxHeartbeats 4000000 in
set_option maxRecDepth 100000 in
theorem c_X0_init (l : Launch) (D : va_G) (cy : Nat → ClassId) (B n : Nat) (f : Nat → va_E) :
    Met l yX0_init wsX0_init { frames := 1, cells := 0, slots := 0, locals := 20 } (ec_pC D cy (ec_P D B (n + 1) f) [.ref (B + n)]) (ed_qV (ec_A B) (ec_P D B (n + 1) f)) 0 0 (ec_A B) := by
  refine Met.ofW (cc := cX0_init) (maxL := 1) (ret := none) (by decide) rfl ?_
  intro p e s m args below meth c s₁ B0 hml hv
  obtain ⟨rfl, hM, hK, hAO⟩ := hv
  have S : CallFix p m c cX0_init 1 s _ ed_ws RX0 := ⟨B0.exec, B0.bytes, hml, findClass_of_methodNamed B0.named, fun w hw => atoms_spec (ws := wsX0_init) B0.pre w (List.mem_cons_of_mem _ hw)⟩
  have hr := B0.returns
  have hlocks := B0.notSynchronized
  have hin : meth.name = "<init>" := (name_of_methodNamed B0.named B0.method).1
  have hS : va_S (ec_A B) s.heap s.heap [] := va_S.rf
  have hl := lv_entry ([.ref (B + n)]) (n := 1) (Nat.le_of_ble_eq_true rfl)
  rw [lg_entry_eq]
  generalize (lg_sl ([.ref (B + n)]) ++ List.replicate (1 - (lg_sl ([.ref (B + n)])).length) Slot.unset).toArray = ls at hl ⊢
  have hl : lv_has ls 1 [(0, .ref (B + n))] := hl
  refine lv_aload_n S.1 S.2.1 dX0_init_0 rfl (lv_at hl 0 rfl) ?_
  refine W.objInit S.1 S.2.1 S.2.2.2.1 (S.2.2.2.2 _ ed_w1_109) (S.2.2.2.2 _ ed_w1_18) (S.2.2.2.2 _ ed_w1_19) rfl (by rw [hml]; exact hl.1) rfl dX0_init_1 (Nat.le_of_ble_eq_true rfl) (Nat.le_of_ble_eq_true rfl) ?_
  refine W.eq (g2 := F0 m 4 ls []) rfl ?_
  exact ed_rv S hr hlocks hM hS dX0_init_4
set_option maxHeartbeats 4000000 in
set_option maxRecDepth 100000 in
theorem c_X1_init (l : Launch) (D : va_G) (cy : Nat → ClassId) (B n : Nat) (f : Nat → va_E) :
    Met l yX1_init wsX1_init { frames := 1, cells := 0, slots := 0, locals := 20 } (ec_pC D cy (ec_P D B (n + 1) f) [.ref (B + n)]) (ed_qV (ec_A B) (ec_P D B (n + 1) f)) 0 0 (ec_A B) := by
  refine Met.ofW (cc := cX1_init) (maxL := 1) (ret := none) (by decide) rfl ?_
  intro p e s m args below meth c s₁ B0 hml hv
  obtain ⟨rfl, hM, hK, hAO⟩ := hv
  have S : CallFix p m c cX1_init 1 s _ ed_ws RX1 := ⟨B0.exec, B0.bytes, hml, findClass_of_methodNamed B0.named, fun w hw => atoms_spec (ws := wsX1_init) B0.pre w (List.mem_cons_of_mem _ hw)⟩
  have hr := B0.returns
  have hlocks := B0.notSynchronized
  have hin : meth.name = "<init>" := (name_of_methodNamed B0.named B0.method).1
  have hS : va_S (ec_A B) s.heap s.heap [] := va_S.rf
  have hl := lv_entry ([.ref (B + n)]) (n := 1) (Nat.le_of_ble_eq_true rfl)
  rw [lg_entry_eq]
  generalize (lg_sl ([.ref (B + n)]) ++ List.replicate (1 - (lg_sl ([.ref (B + n)])).length) Slot.unset).toArray = ls at hl ⊢
  have hl : lv_has ls 1 [(0, .ref (B + n))] := hl
  refine lv_aload_n S.1 S.2.1 dX1_init_0 rfl (lv_at hl 0 rfl) ?_
  refine W.objInit S.1 S.2.1 S.2.2.2.1 (S.2.2.2.2 _ ed_w1_163) (S.2.2.2.2 _ ed_w1_18) (S.2.2.2.2 _ ed_w1_19) rfl (by rw [hml]; exact hl.1) rfl dX1_init_1 (Nat.le_of_ble_eq_true rfl) (Nat.le_of_ble_eq_true rfl) ?_
  refine W.eq (g2 := F0 m 4 ls []) rfl ?_
  exact ed_rv S hr hlocks hM hS dX1_init_4
set_option maxHeartbeats 4000000 in
set_option maxRecDepth 100000 in
theorem c_X4_init (l : Launch) (D : va_G) (cy : Nat → ClassId) (B n : Nat) (f : Nat → va_E) :
    Met l yX4_init wsX4_init { frames := 1, cells := 0, slots := 0, locals := 20 } (ec_pC D cy (ec_P D B (n + 1) f) [.ref (B + n)]) (ed_qV (ec_A B) (ec_P D B (n + 1) f)) 0 0 (ec_A B) := by
  refine Met.ofW (cc := cX4_init) (maxL := 1) (ret := none) (by decide) rfl ?_
  intro p e s m args below meth c s₁ B0 hml hv
  obtain ⟨rfl, hM, hK, hAO⟩ := hv
  have S : CallFix p m c cX4_init 1 s _ ed_ws RX4 := ⟨B0.exec, B0.bytes, hml, findClass_of_methodNamed B0.named, fun w hw => atoms_spec (ws := wsX4_init) B0.pre w (List.mem_cons_of_mem _ hw)⟩
  have hr := B0.returns
  have hlocks := B0.notSynchronized
  have hin : meth.name = "<init>" := (name_of_methodNamed B0.named B0.method).1
  have hS : va_S (ec_A B) s.heap s.heap [] := va_S.rf
  have hl := lv_entry ([.ref (B + n)]) (n := 1) (Nat.le_of_ble_eq_true rfl)
  rw [lg_entry_eq]
  generalize (lg_sl ([.ref (B + n)]) ++ List.replicate (1 - (lg_sl ([.ref (B + n)])).length) Slot.unset).toArray = ls at hl ⊢
  have hl : lv_has ls 1 [(0, .ref (B + n))] := hl
  refine lv_aload_n S.1 S.2.1 dX4_init_0 rfl (lv_at hl 0 rfl) ?_
  refine W.objInit S.1 S.2.1 S.2.2.2.1 (S.2.2.2.2 _ ed_w1_199) (S.2.2.2.2 _ ed_w1_18) (S.2.2.2.2 _ ed_w1_19) rfl (by rw [hml]; exact hl.1) rfl dX4_init_1 (Nat.le_of_ble_eq_true rfl) (Nat.le_of_ble_eq_true rfl) ?_
  refine W.eq (g2 := F0 m 4 ls []) rfl ?_
  exact ed_rv S hr hlocks hM hS dX4_init_4
set_option maxHeartbeats 4000000 in
set_option maxRecDepth 100000 in
theorem c_X3_init (l : Launch) (D : va_G) (cy : Nat → ClassId) (B n : Nat) (f : Nat → va_E) (hf : f n = .inr (3, [.null, .int 0, .int 0])) :
    Met l yX3_init wsX3_init { frames := 1, cells := 1, slots := 48, locals := 20 } (ec_pC D cy (ec_P D B (n + 1) f) [.ref (B + n)]) (ed_qV (ec_A B) (ec_P D B (n + 2) (ec_f (ec_f f (n + 1) (.inl (cy 0, 48, .inl (fun _ => 0)))) n (.inr (3, [.ref (B + (n + 1)), .int 0, .int 0]))))) 1 48 (ec_A B) := by
  refine Met.ofW (cc := cX3_init) (maxL := 1) (ret := none) (by decide) rfl ?_
  intro p e s m args below meth c s₁ B0 hml hv
  obtain ⟨rfl, hM, hK, hAO⟩ := hv
  have S : CallFix p m c cX3_init 1 s _ ed_ws RX3 := ⟨B0.exec, B0.bytes, hml, findClass_of_methodNamed B0.named, fun w hw => atoms_spec (ws := wsX3_init) B0.pre w (List.mem_cons_of_mem _ hw)⟩
  have hr := B0.returns
  have hlocks := B0.notSynchronized
  have hin : meth.name = "<init>" := (name_of_methodNamed B0.named B0.method).1
  have hS : va_S (ec_A B) s.heap s.heap [] := va_S.rf
  have hl := lv_entry ([.ref (B + n)]) (n := 1) (Nat.le_of_ble_eq_true rfl)
  rw [lg_entry_eq]
  generalize (lg_sl ([.ref (B + n)]) ++ List.replicate (1 - (lg_sl ([.ref (B + n)])).length) Slot.unset).toArray = ls at hl ⊢
  have hl : lv_has ls 1 [(0, .ref (B + n))] := hl
  refine lv_aload_n S.1 S.2.1 dX3_init_0 rfl (lv_at hl 0 rfl) ?_
  refine W.objInit S.1 S.2.1 S.2.2.2.1 (S.2.2.2.2 _ ed_w1_31) (S.2.2.2.2 _ ed_w1_18) (S.2.2.2.2 _ ed_w1_19) rfl (by rw [hml]; exact hl.1) rfl dX3_init_1 (Nat.le_of_ble_eq_true rfl) (Nat.le_of_ble_eq_true rfl) ?_
  refine W.eq (g2 := F0 m 4 ls []) rfl ?_
  refine lv_aload_n S.1 S.2.1 dX3_init_4 rfl (lv_at hl 0 rfl) ?_
  refine lv_bipush (v := 48) S.1 S.2.1 dX3_init_5 (by decide) ?_
  refine ec_newa S ed_w1_42 hK hM hS (N := 48) (by decide) (by decide) (Nat.le_of_ble_eq_true rfl) (Nat.le_of_ble_eq_true rfl) (Nat.le_of_ble_eq_true rfl) dX3_init_7 (fun H1 hM hS => ?_)
  refine ec_putF (o := n) S ed_uX3 tyX3 tyX3_ok nmX3 hK hM hS (by omega) (by unfold ec_f; rw [if_neg (by omega)]; exact hf) rfl 0 (by decide) ed_w1_32 rfl rfl hin rfl rfl rfl dX3_init_9 (fun H2 locs hM hS _ => ?_) (Nat.le_of_ble_eq_true rfl)
  exact ed_rv S hr hlocks hM hS dX3_init_12
