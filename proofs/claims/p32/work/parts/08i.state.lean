/-! The constructor of State: its walk. -/
set_option maxHeartbeats 1500000 in
set_option maxRecDepth 100000 in
theorem c_X5_init (l : Launch) (D : va_G) (cy : Nat → ClassId) (B j n : Nat) (hj : j < 7) (hn : ed_oS j = n) (f : Nat → va_E) (hf : f n = .inr (5, [.int 0, .int 0, .int 0, .int 0, .int 0, .int 0, .null, .null, .null, .null, .null])) :
    Met l yX5_init wsX5_init { frames := 2, cells := 264, slots := 1949, locals := 80 } (ec_pC D cy (ec_P D B (n + 1) f) [.ref (B + n)]) (ed_qV (ec_A B) (ec_P D B (n + 265) (fun x => if x < n then f x else ec_st cy B x))) 264 1949 (ec_A B) := by
  refine Met.ofW (cc := cX5_init) (maxL := 2) (ret := none) (by decide) rfl ?_
  intro p e s m args below meth c s₁ B0 hml hv
  obtain ⟨rfl, hM, hK, hAO⟩ := hv
  have S : CallFix p m c cX5_init 2 s _ ed_ws RX5 := ⟨B0.exec, B0.bytes, hml, findClass_of_methodNamed B0.named, fun w hw => atoms_spec (ws := wsX5_init) B0.pre w (List.mem_cons_of_mem _ hw)⟩
  have hr := B0.returns
  have hlocks := B0.notSynchronized
  have hin : meth.name = "<init>" := (name_of_methodNamed B0.named B0.method).1
  have hS : va_S (ec_A B) s.heap s.heap [] := va_S.rf
  have fin := fun {G0 F1 F2 F3 F4 : Nat → va_E} {H : Heap} => ec_fin (D := D) (cy := cy) (B := B) hj (f := f) (G0 := G0) (F1 := F1) (F2 := F2) (F3 := F3) (F4 := F4) (H := H)
  rw [hn] at fin
  have hl := lv_entry ([.ref (B + n)]) (n := 2) (Nat.le_of_ble_eq_true rfl)
  rw [lg_entry_eq]
  generalize (lg_sl ([.ref (B + n)]) ++ List.replicate (2 - (lg_sl ([.ref (B + n)])).length) Slot.unset).toArray = ls at hl ⊢
  have hl : lv_has ls 2 [(0, .ref (B + n))] := hl
  refine lv_aload_n S.1 S.2.1 dX5_init_0 rfl (lv_at hl 0 rfl) ?_
  refine W.objInit S.1 S.2.1 S.2.2.2.1 (S.2.2.2.2 _ ed_w1_25) (S.2.2.2.2 _ ed_w1_18) (S.2.2.2.2 _ ed_w1_19) rfl (by rw [hml]; exact hl.1) rfl dX5_init_1 (Nat.le_of_ble_eq_true rfl) (Nat.le_of_ble_eq_true rfl) ?_
  refine W.eq (g2 := F0 m 4 ls []) rfl ?_
  refine lv_aload_n S.1 S.2.1 dX5_init_4 rfl (lv_at hl 0 rfl) ?_
  refine lv_iconst (v := 3) S.1 S.2.1 dX5_init_5 (by decide) ?_
  refine ec_putN (o := n) S ed_uX5 tyX5 tyX5_ok nmX5 hK hM hS (by omega) hf rfl 1 (by decide) ed_w1_213 rfl rfl rfl rfl dX5_init_6 (fun H locs hM hS _ => ?_) (Nat.le_of_ble_eq_true rfl)
  refine lv_aload_n S.1 S.2.1 dX5_init_9 rfl (lv_at hl 0 rfl) ?_
  refine ec_new (ci := 3) (fs := [.null, .int 0, .int 0]) S ed_uX3 tyX3 tyX3_ok ed_w1_26 ed_w1_27 ed_w1_3 hK hM hS rfl (fun j hj => by rcases (show j = 0 ∨ j = 1 ∨ j = 2 by omega) with rfl | rfl | rfl <;> rfl) (Nat.le_of_ble_eq_true rfl) (Nat.le_of_ble_eq_true rfl) dX5_init_10 (fun H hM hS => ?_)
  refine lv_dup S.1 S.2.1 dX5_init_13 rfl ?_
  refine ec_kI (ec_rN S hK hAO hM (c_X3_init _ D cy B (n + 1) _ (ec_eq _ _ _)) ⟨va_cnB 0 S.2.2.2.2 (ed_gA ed_w1_30) rfl rfl rfl (ed_n5 hK) (S.2.2.2.2 _ ed_w1_3) hn_X3_init ⟨Nat.le_of_ble_eq_true rfl, Nat.le_of_ble_eq_true rfl⟩, rfl, S.2.2.2.2 _ ed_w1_29⟩ hl.1 rfl (Nat.le_of_ble_eq_true rfl) dX5_init_14 ⟨Nat.le_of_ble_eq_true rfl, Nat.le_of_ble_eq_true rfl⟩) hS (fun H locs hM hS => ?_)
  refine ec_putF (o := n) S ed_uX5 tyX5 tyX5_ok nmX5 hK hM hS (by omega) (by rw [ec_ne _ _ (by omega), ec_ne _ _ (by omega), ec_ne _ _ (by omega), ec_eq]) rfl 6 (by decide) ed_w1_223 rfl rfl hin rfl rfl rfl dX5_init_17 (fun H locs hM hS _ => ?_) (Nat.le_of_ble_eq_true rfl)
  refine lv_aload_n S.1 S.2.1 dX5_init_20 rfl (lv_at hl 0 rfl) ?_
  refine lv_bipush (v := 20) S.1 S.2.1 dX5_init_21 (by decide) ?_
  refine ec_newq (t := 1) S ed_w1_43 hAO.1 hK rfl hM hS (N := 20) (by decide) (by decide) (Nat.le_of_ble_eq_true rfl) (Nat.le_of_ble_eq_true rfl) (Nat.le_of_ble_eq_true rfl) dX5_init_23 (fun H hM hS => ?_)
  refine ec_putF (o := n) S ed_uX5 tyX5 tyX5_ok nmX5 hK hM hS (by omega) (by rw [ec_ne _ _ (by omega), ec_eq]) rfl 7 (by decide) ed_w1_225 rfl rfl hin rfl rfl rfl dX5_init_26 (fun H locs hM hS _ => ?_) (Nat.le_of_ble_eq_true rfl)
  refine lv_aload_n S.1 S.2.1 dX5_init_29 rfl (lv_at hl 0 rfl) ?_
  refine lv_bipush (v := 8) S.1 S.2.1 dX5_init_30 (by decide) ?_
  refine ec_newq (t := 2) S ed_w1_45 hAO.2.1 hK rfl hM hS (N := 8) (by decide) (by decide) (Nat.le_of_ble_eq_true rfl) (Nat.le_of_ble_eq_true rfl) (Nat.le_of_ble_eq_true rfl) dX5_init_32 (fun H hM hS => ?_)
  refine ec_putF (o := n) S ed_uX5 tyX5 tyX5_ok nmX5 hK hM hS (by omega) (by rw [ec_ne _ _ (by omega), ec_eq]) rfl 8 (by decide) ed_w1_226 rfl rfl hin rfl rfl rfl dX5_init_35 (fun H locs hM hS _ => ?_) (Nat.le_of_ble_eq_true rfl)
  refine lv_aload_n S.1 S.2.1 dX5_init_38 rfl (lv_at hl 0 rfl) ?_
  refine lv_sipush (v := 160) S.1 S.2.1 dX5_init_39 (by decide) ?_
  refine ec_newq (t := 3) S ed_w1_47 hAO.2.2.1 hK rfl hM hS (N := 160) (by decide) (by decide) (Nat.le_of_ble_eq_true rfl) (Nat.le_of_ble_eq_true rfl) (Nat.le_of_ble_eq_true rfl) dX5_init_42 (fun H hM hS => ?_)
  refine ec_putF (o := n) S ed_uX5 tyX5 tyX5_ok nmX5 hK hM hS (by omega) (by rw [ec_ne _ _ (by omega), ec_eq]) rfl 9 (by decide) ed_w1_227 rfl rfl hin rfl rfl rfl dX5_init_45 (fun H locs hM hS _ => ?_) (Nat.le_of_ble_eq_true rfl)
  refine lv_aload_n S.1 S.2.1 dX5_init_48 rfl (lv_at hl 0 rfl) ?_
  refine lv_bipush (v := 10) S.1 S.2.1 dX5_init_49 (by decide) ?_
  refine ec_newq (t := 4) S ed_w1_49 hAO.2.2.2.1 hK rfl hM hS (N := 10) (by decide) (by decide) (Nat.le_of_ble_eq_true rfl) (Nat.le_of_ble_eq_true rfl) (Nat.le_of_ble_eq_true rfl) dX5_init_51 (fun H hM hS => ?_)
  refine ec_putF (o := n) S ed_uX5 tyX5 tyX5_ok nmX5 hK hM hS (by omega) (by rw [ec_ne _ _ (by omega), ec_eq]) rfl 10 (by decide) ed_w1_228 rfl rfl hin rfl rfl rfl dX5_init_54 (fun H locs hM hS _ => ?_) (Nat.le_of_ble_eq_true rfl)
  generalize hG : ec_f _ n _ = G0 at hM
  have g0 : G0 n = ec_sE B n := by rw [← hG, ec_eq]; rfl
  have g1 : G0 (n + 1) = .inr (3, [.ref (B + (n + 1 + 1)), .int 0, .int 0]) := by rw [← hG, ec_ne _ _ (by omega), ec_ne _ _ (by omega), ec_ne _ _ (by omega), ec_ne _ _ (by omega), ec_ne _ _ (by omega), ec_ne _ _ (by omega), ec_ne _ _ (by omega), ec_ne _ _ (by omega), ec_ne _ _ (by omega), ec_eq]
  have g2 : G0 (n + 1 + 1) = .inl (cy 0, 48, .inl (fun _ => 0)) := by rw [← hG, ec_ne _ _ (by omega), ec_ne _ _ (by omega), ec_ne _ _ (by omega), ec_ne _ _ (by omega), ec_ne _ _ (by omega), ec_ne _ _ (by omega), ec_ne _ _ (by omega), ec_ne _ _ (by omega), ec_ne _ _ (by omega), ec_ne _ _ (by omega), ec_eq]
  have emp : ∀ (t N : Nat) (w : Nat → Nat), (.inl (cy t, N, .inr (.inr (.inr (.inr (fun _ => none))))) : va_E) = ec_Q (cy t) N (fun k => if k < 0 then some (w k) else none) := fun t N w => rfl
  have g3 : G0 (n + 3) = .inl (cy 1, 20, .inr (.inr (.inr (.inr (fun _ => none))))) := by
    show G0 (n + 1 + 1 + 1) = _
    rw [← hG, ec_ne _ _ (by omega), ec_ne _ _ (by omega), ec_ne _ _ (by omega), ec_ne _ _ (by omega), ec_ne _ _ (by omega), ec_ne _ _ (by omega), ec_ne _ _ (by omega), ec_eq]
  have g4 : G0 (n + 4) = .inl (cy 2, 8, .inr (.inr (.inr (.inr (fun _ => none))))) := by
    show G0 (n + 1 + 1 + 1 + 1) = _
    rw [← hG, ec_ne _ _ (by omega), ec_ne _ _ (by omega), ec_ne _ _ (by omega), ec_ne _ _ (by omega), ec_ne _ _ (by omega), ec_eq]
  have g5 : G0 (n + 5) = .inl (cy 3, 160, .inr (.inr (.inr (.inr (fun _ => none))))) := by
    show G0 (n + 1 + 1 + 1 + 1 + 1) = _
    rw [← hG, ec_ne _ _ (by omega), ec_ne _ _ (by omega), ec_ne _ _ (by omega), ec_eq]
  have g6 : G0 (n + 6) = .inl (cy 4, 10, .inr (.inr (.inr (.inr (fun _ => none))))) := by
    show G0 (n + 1 + 1 + 1 + 1 + 1 + 1) = _
    rw [← hG, ec_ne _ _ (by omega), ec_eq]
  have gl : ∀ x, x < n → G0 x = f x := fun x hx => by rw [← hG, ec_ne _ _ (by omega), ec_ne _ _ (by omega), ec_ne _ _ (by omega), ec_ne _ _ (by omega), ec_ne _ _ (by omega), ec_ne _ _ (by omega), ec_ne _ _ (by omega), ec_ne _ _ (by omega), ec_ne _ _ (by omega), ec_ne _ _ (by omega), ec_ne _ _ (by omega), ec_ne _ _ (by omega), ec_ne _ _ (by omega)]
  refine lv_iconst (v := 0) S.1 S.2.1 dX5_init_57 (by decide) ?_
  refine lv_istore_n (lv' := [(1, .int 0), (0, .ref (B + n))]) S.1 S.2.1 dX5_init_58 rfl hl (by decide) rfl (fun ls hl => ?_)
  refine w_X5_init_59 S hK hAO 6 249 ⟨Nat.le_of_ble_eq_true rfl, Nat.le_of_ble_eq_true rfl, Nat.le_of_ble_eq_true rfl, Nat.le_of_ble_eq_true rfl⟩ G0 g0 (fun F1 H locs ls hM i0 hS hl => ?_) 20 0 (by omega) G0 H locs ls hM ⟨fun _ _ _ => rfl, g3.trans (emp 1 20 _), fun k hk => by omega⟩ hS (lv_sub hl [1, 0] rfl)
  refine lv_iconst (v := 0) S.1 S.2.1 dX5_init_87 (by decide) ?_
  refine lv_istore_n (lv' := [(1, .int 0), (0, .ref (B + n))]) S.1 S.2.1 dX5_init_88 rfl hl (by decide) rfl (fun ls hl => ?_)
  have q0 : F1 n = ec_sE B n := (i0.1 n (by omega) (by omega)).trans g0
  refine w_X5_init_89 S hK hAO 86 889 ⟨Nat.le_of_ble_eq_true rfl, Nat.le_of_ble_eq_true rfl, Nat.le_of_ble_eq_true rfl, Nat.le_of_ble_eq_true rfl⟩ F1 q0 (fun F2 H locs ls hM i1 hS hl => ?_) 8 0 (by omega) F1 H locs ls hM ⟨fun _ _ _ => rfl, ((i0.1 _ (by omega) (by omega)).trans g4).trans (emp 2 8 _), fun k hk => by omega⟩ hS (lv_sub hl [1, 0] rfl)
  refine lv_iconst (v := 0) S.1 S.2.1 dX5_init_117 (by decide) ?_
  refine lv_istore_n (lv' := [(1, .int 0), (0, .ref (B + n))]) S.1 S.2.1 dX5_init_118 rfl hl (by decide) rfl (fun ls hl => ?_)
  have q1 : F2 n = ec_sE B n := (i1.1 n (by omega) (by omega)).trans q0
  refine w_X5_init_119 S hK hAO 94 969 ⟨Nat.le_of_ble_eq_true rfl, Nat.le_of_ble_eq_true rfl, Nat.le_of_ble_eq_true rfl, Nat.le_of_ble_eq_true rfl⟩ F2 q1 (fun F3 H locs ls hM i2 hS hl => ?_) 160 0 (by omega) F2 H locs ls hM ⟨fun _ _ _ => rfl, ((i1.1 _ (by omega) (by omega)).trans ((i0.1 _ (by omega) (by omega)).trans g5)).trans (emp 3 160 _), fun k hk => by omega⟩ hS (lv_sub hl [1, 0] rfl)
  refine lv_iconst (v := 0) S.1 S.2.1 dX5_init_147 (by decide) ?_
  refine lv_istore_n (lv' := [(1, .int 0), (0, .ref (B + n))]) S.1 S.2.1 dX5_init_148 rfl hl (by decide) rfl (fun ls hl => ?_)
  have q2 : F3 n = ec_sE B n := (i2.1 n (by omega) (by omega)).trans q1
  refine w_X5_init_149 S hK hAO 254 1929 ⟨Nat.le_of_ble_eq_true rfl, Nat.le_of_ble_eq_true rfl, Nat.le_of_ble_eq_true rfl, Nat.le_of_ble_eq_true rfl⟩ F3 q2 (fun F4 H locs ls hM i3 hS hl => ?_) 10 0 (by omega) F3 H locs ls hM ⟨fun _ _ _ => rfl, ((i2.1 _ (by omega) (by omega)).trans ((i1.1 _ (by omega) (by omega)).trans ((i0.1 _ (by omega) (by omega)).trans g6))).trans (emp 4 10 _), fun k hk => by omega⟩ hS (lv_sub hl [1, 0] rfl)
  exact ed_rv S hr hlocks (fin hM gl g0 g1 g2 i0 i1 i2 i3) hS dX5_init_177
