/-! Constructors: objects with their rows. -/
set_option maxHeartbeats 4000000 in
set_option maxRecDepth 100000 in
theorem c_X6_init (l : Launch) (D : va_G) (cy : Nat → ClassId) (B n : Nat) (f : Nat → va_E) (hf : f n = .inr (6, [.int 0, .int 0, .null, .int 0, .int 0, .null, .int 0, .int 0, .null, .int 0, .int 0])) :
    Met l yX6_init wsX6_init { frames := 1, cells := 3, slots := 21, locals := 20 } (ec_pC D cy (ec_P D B (n + 1) f) [.ref (B + n)]) (ed_qV (ec_A B) (ec_P D B (n + 1 + 1 + 1 + 1) (ec_f (ec_f (ec_f (ec_f (ec_f (ec_f f (n + 1) (.inl (cy 0, 3, .inl (fun _ => 0)))) n (.inr (6, [.int 0, .int 0, .ref (B + (n + 1)), .int 0, .int 0, .null, .int 0, .int 0, .null, .int 0, .int 0]))) (n + 1 + 1) (.inl (cy 0, 12, .inl (fun _ => 0)))) n (.inr (6, [.int 0, .int 0, .ref (B + (n + 1)), .int 0, .int 0, .ref (B + (n + 1 + 1)), .int 0, .int 0, .null, .int 0, .int 0]))) (n + 1 + 1 + 1) (.inl (cy 0, 6, .inl (fun _ => 0)))) n (.inr (6, [.int 0, .int 0, .ref (B + (n + 1)), .int 0, .int 0, .ref (B + (n + 1 + 1)), .int 0, .int 0, .ref (B + (n + 1 + 1 + 1)), .int 0, .int 0]))))) 3 21 (ec_A B) := by
  refine Met.ofW (cc := cX6_init) (maxL := 1) (ret := none) (by decide) rfl ?_
  intro p e s m args below meth c s₁ B0 hml hv
  obtain ⟨rfl, hM, hK, hAO⟩ := hv
  have S : CallFix p m c cX6_init 1 s _ ed_ws RX6 := ⟨B0.exec, B0.bytes, hml, findClass_of_methodNamed B0.named, fun w hw => atoms_spec (ws := wsX6_init) B0.pre w (List.mem_cons_of_mem _ hw)⟩
  have hr := B0.returns
  have hlocks := B0.notSynchronized
  have hin : meth.name = "<init>" := (name_of_methodNamed B0.named B0.method).1
  have hS : va_S (ec_A B) s.heap s.heap [] := va_S.rf
  have hl := lv_entry ([.ref (B + n)]) (n := 1) (Nat.le_of_ble_eq_true rfl)
  rw [lg_entry_eq]
  generalize (lg_sl ([.ref (B + n)]) ++ List.replicate (1 - (lg_sl ([.ref (B + n)])).length) Slot.unset).toArray = ls at hl ⊢
  have hl : lv_has ls 1 [(0, .ref (B + n))] := hl
  refine lv_aload_n S.1 S.2.1 dX6_init_0 rfl (lv_at hl 0 rfl) ?_
  refine W.objInit S.1 S.2.1 S.2.2.2.1 (S.2.2.2.2 _ ed_w1_55) (S.2.2.2.2 _ ed_w1_18) (S.2.2.2.2 _ ed_w1_19) rfl (by rw [hml]; exact hl.1) rfl dX6_init_1 (Nat.le_of_ble_eq_true rfl) (Nat.le_of_ble_eq_true rfl) ?_
  refine W.eq (g2 := F0 m 4 ls []) rfl ?_
  refine lv_aload_n S.1 S.2.1 dX6_init_4 rfl (lv_at hl 0 rfl) ?_
  refine lv_iconst (v := 3) S.1 S.2.1 dX6_init_5 (by decide) ?_
  refine ec_newa S ed_w1_42 hK hM hS (N := 3) (by decide) (by decide) (Nat.le_of_ble_eq_true rfl) (Nat.le_of_ble_eq_true rfl) (Nat.le_of_ble_eq_true rfl) dX6_init_6 (fun H0 hM hS => ?_)
  refine ec_putF (o := n) S ed_uX6 tyX6 tyX6_ok nmX6 hK hM hS (by omega) (by rw [ec_ne _ _ (by omega)]; exact hf) rfl 2 (by decide) ed_w1_62 rfl rfl hin rfl rfl rfl dX6_init_8 (fun H0' locs hM hS _ => ?_) (Nat.le_of_ble_eq_true rfl)
  refine lv_aload_n S.1 S.2.1 dX6_init_11 rfl (lv_at hl 0 rfl) ?_
  refine lv_bipush (v := 12) S.1 S.2.1 dX6_init_12 (by decide) ?_
  refine ec_newa S ed_w1_42 hK hM hS (N := 12) (by decide) (by decide) (Nat.le_of_ble_eq_true rfl) (Nat.le_of_ble_eq_true rfl) (Nat.le_of_ble_eq_true rfl) dX6_init_14 (fun H1 hM hS => ?_)
  refine ec_putF (o := n) S ed_uX6 tyX6 tyX6_ok nmX6 hK hM hS (by omega) (by rw [ec_ne _ _ (by omega), ec_eq]) rfl 5 (by decide) ed_w1_68 rfl rfl hin rfl rfl rfl dX6_init_16 (fun H1' locs hM hS _ => ?_) (Nat.le_of_ble_eq_true rfl)
  refine lv_aload_n S.1 S.2.1 dX6_init_19 rfl (lv_at hl 0 rfl) ?_
  refine lv_bipush (v := 6) S.1 S.2.1 dX6_init_20 (by decide) ?_
  refine ec_newa S ed_w1_42 hK hM hS (N := 6) (by decide) (by decide) (Nat.le_of_ble_eq_true rfl) (Nat.le_of_ble_eq_true rfl) (Nat.le_of_ble_eq_true rfl) dX6_init_22 (fun H2 hM hS => ?_)
  refine ec_putF (o := n) S ed_uX6 tyX6 tyX6_ok nmX6 hK hM hS (by omega) (by rw [ec_ne _ _ (by omega), ec_eq]) rfl 8 (by decide) ed_w1_75 rfl rfl hin rfl rfl rfl dX6_init_24 (fun H2' locs hM hS _ => ?_) (Nat.le_of_ble_eq_true rfl)
  exact ed_rv S hr hlocks hM hS dX6_init_27
set_option maxHeartbeats 4000000 in
set_option maxRecDepth 100000 in
theorem c_X7_init (l : Launch) (D : va_G) (cy : Nat → ClassId) (B n : Nat) (f : Nat → va_E) (hf : f n = .inr (7, [.null, .int 0, .int 0, .int 0, .int 0, .null, .int 0, .int 0, .null])) :
    Met l yX7_init wsX7_init { frames := 1, cells := 3, slots := 55, locals := 20 } (ec_pC D cy (ec_P D B (n + 1) f) [.ref (B + n)]) (ed_qV (ec_A B) (ec_P D B (n + 1 + 1 + 1 + 1) (ec_f (ec_f (ec_f (ec_f (ec_f (ec_f f (n + 1) (.inl (cy 0, 40, .inl (fun _ => 0)))) n (.inr (7, [.ref (B + (n + 1)), .int 0, .int 0, .int 0, .int 0, .null, .int 0, .int 0, .null]))) (n + 1 + 1) (.inl (cy 0, 3, .inl (fun _ => 0)))) n (.inr (7, [.ref (B + (n + 1)), .int 0, .int 0, .int 0, .int 0, .ref (B + (n + 1 + 1)), .int 0, .int 0, .null]))) (n + 1 + 1 + 1) (.inl (cy 0, 12, .inl (fun _ => 0)))) n (.inr (7, [.ref (B + (n + 1)), .int 0, .int 0, .int 0, .int 0, .ref (B + (n + 1 + 1)), .int 0, .int 0, .ref (B + (n + 1 + 1 + 1))]))))) 3 55 (ec_A B) := by
  refine Met.ofW (cc := cX7_init) (maxL := 1) (ret := none) (by decide) rfl ?_
  intro p e s m args below meth c s₁ B0 hml hv
  obtain ⟨rfl, hM, hK, hAO⟩ := hv
  have S : CallFix p m c cX7_init 1 s _ ed_ws RX7 := ⟨B0.exec, B0.bytes, hml, findClass_of_methodNamed B0.named, fun w hw => atoms_spec (ws := wsX7_init) B0.pre w (List.mem_cons_of_mem _ hw)⟩
  have hr := B0.returns
  have hlocks := B0.notSynchronized
  have hin : meth.name = "<init>" := (name_of_methodNamed B0.named B0.method).1
  have hS : va_S (ec_A B) s.heap s.heap [] := va_S.rf
  have hl := lv_entry ([.ref (B + n)]) (n := 1) (Nat.le_of_ble_eq_true rfl)
  rw [lg_entry_eq]
  generalize (lg_sl ([.ref (B + n)]) ++ List.replicate (1 - (lg_sl ([.ref (B + n)])).length) Slot.unset).toArray = ls at hl ⊢
  have hl : lv_has ls 1 [(0, .ref (B + n))] := hl
  refine lv_aload_n S.1 S.2.1 dX7_init_0 rfl (lv_at hl 0 rfl) ?_
  refine W.objInit S.1 S.2.1 S.2.2.2.1 (S.2.2.2.2 _ ed_w2_34) (S.2.2.2.2 _ ed_w1_18) (S.2.2.2.2 _ ed_w1_19) rfl (by rw [hml]; exact hl.1) rfl dX7_init_1 (Nat.le_of_ble_eq_true rfl) (Nat.le_of_ble_eq_true rfl) ?_
  refine W.eq (g2 := F0 m 4 ls []) rfl ?_
  refine lv_aload_n S.1 S.2.1 dX7_init_4 rfl (lv_at hl 0 rfl) ?_
  refine lv_bipush (v := 40) S.1 S.2.1 dX7_init_5 (by decide) ?_
  refine ec_newa S ed_w1_42 hK hM hS (N := 40) (by decide) (by decide) (Nat.le_of_ble_eq_true rfl) (Nat.le_of_ble_eq_true rfl) (Nat.le_of_ble_eq_true rfl) dX7_init_7 (fun H0 hM hS => ?_)
  refine ec_putF (o := n) S ed_uX7 tyX7 tyX7_ok nmX7 hK hM hS (by omega) (by rw [ec_ne _ _ (by omega)]; exact hf) rfl 0 (by decide) ed_w2_35 rfl rfl hin rfl rfl rfl dX7_init_9 (fun H0' locs hM hS _ => ?_) (Nat.le_of_ble_eq_true rfl)
  refine lv_aload_n S.1 S.2.1 dX7_init_12 rfl (lv_at hl 0 rfl) ?_
  refine lv_iconst (v := 3) S.1 S.2.1 dX7_init_13 (by decide) ?_
  refine ec_newa S ed_w1_42 hK hM hS (N := 3) (by decide) (by decide) (Nat.le_of_ble_eq_true rfl) (Nat.le_of_ble_eq_true rfl) (Nat.le_of_ble_eq_true rfl) dX7_init_14 (fun H1 hM hS => ?_)
  refine ec_putF (o := n) S ed_uX7 tyX7 tyX7_ok nmX7 hK hM hS (by omega) (by rw [ec_ne _ _ (by omega), ec_eq]) rfl 5 (by decide) ed_w2_43 rfl rfl hin rfl rfl rfl dX7_init_16 (fun H1' locs hM hS _ => ?_) (Nat.le_of_ble_eq_true rfl)
  refine lv_aload_n S.1 S.2.1 dX7_init_19 rfl (lv_at hl 0 rfl) ?_
  refine lv_bipush (v := 12) S.1 S.2.1 dX7_init_20 (by decide) ?_
  refine ec_newa S ed_w1_42 hK hM hS (N := 12) (by decide) (by decide) (Nat.le_of_ble_eq_true rfl) (Nat.le_of_ble_eq_true rfl) (Nat.le_of_ble_eq_true rfl) dX7_init_22 (fun H2 hM hS => ?_)
  refine ec_putF (o := n) S ed_uX7 tyX7 tyX7_ok nmX7 hK hM hS (by omega) (by rw [ec_ne _ _ (by omega), ec_eq]) rfl 8 (by decide) ed_w2_49 rfl rfl hin rfl rfl rfl dX7_init_24 (fun H2' locs hM hS _ => ?_) (Nat.le_of_ble_eq_true rfl)
  exact ed_rv S hr hlocks hM hS dX7_init_27
