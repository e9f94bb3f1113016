/-! The constructor of EmbargoDesk. -/
set_option maxHeartbeats 1500000 in
set_option maxRecDepth 100000 in
theorem c_X8_init (l : Launch) (D : va_G) (cy : Nat → ClassId) (B n : Nat) (hn : n = 0) (f : Nat → va_E) (hf : f n = .inr (8, [.null, .null, .null, .int 0, .null, .null])) :
    Met l yX8_init wsX8_init { frames := 4, cells := 1861, slots := 13790, locals := 200 } (ec_pC D cy (ec_P D B (n + 1) f) [.ref (B + n)]) (ed_qV (ec_A B) (ec_P D B 1862 (ec_st cy B))) 1861 13790 (ec_A B) := by
  refine Met.ofW (cc := cX8_init) (maxL := 1) (ret := none) (by decide) rfl ?_
  intro p e s m args below meth c s₁ B0 hml hv
  obtain ⟨rfl, hM, hK, hAO⟩ := hv
  have S : CallFix p m c cX8_init 1 s _ ed_ws RX8 := ⟨B0.exec, B0.bytes, hml, findClass_of_methodNamed B0.named, fun w hw => atoms_spec (ws := wsX8_init) B0.pre w (List.mem_cons_of_mem _ hw)⟩
  have hr := B0.returns
  have hlocks := B0.notSynchronized
  have hin : meth.name = "<init>" := (name_of_methodNamed B0.named B0.method).1
  have hS : va_S (ec_A B) s.heap s.heap [] := va_S.rf
  have hl := lv_entry ([.ref (B + n)]) (n := 1) (Nat.le_of_ble_eq_true rfl)
  rw [lg_entry_eq]
  generalize (lg_sl ([.ref (B + n)]) ++ List.replicate (1 - (lg_sl ([.ref (B + n)])).length) Slot.unset).toArray = ls at hl ⊢
  have hl : lv_has ls 1 [(0, .ref (B + n))] := hl
  refine lv_aload_n S.1 S.2.1 dX8_init_0 rfl (lv_at hl 0 rfl) ?_
  refine W.objInit S.1 S.2.1 S.2.2.2.1 (S.2.2.2.2 _ ed_w1_17) (S.2.2.2.2 _ ed_w1_18) (S.2.2.2.2 _ ed_w1_19) rfl (by rw [hml]; exact hl.1) rfl dX8_init_1 (Nat.le_of_ble_eq_true rfl) (Nat.le_of_ble_eq_true rfl) ?_
  refine W.eq (g2 := F0 m 4 ls []) rfl ?_
  have hM : ec_P D B 1 f s.heap := by rw [hn] at hM; exact hM
  refine lv_aload_n S.1 S.2.1 dX8_init_4 rfl (lv_at hl 0 rfl) ?_
  refine ec_new (ci := 5) (fs := [.int 0, .int 0, .int 0, .int 0, .int 0, .int 0, .null, .null, .null, .null, .null]) S ed_uX5 tyX5 tyX5_ok ed_w1_20 ed_w1_21 ed_w1_2 hK hM hS rfl (fun j hj => by rcases (show j = 0 ∨ j = 1 ∨ j = 2 ∨ j = 3 ∨ j = 4 ∨ j = 5 ∨ j = 6 ∨ j = 7 ∨ j = 8 ∨ j = 9 ∨ j = 10 by omega) with rfl | rfl | rfl | rfl | rfl | rfl | rfl | rfl | rfl | rfl | rfl <;> rfl) (Nat.le_of_ble_eq_true rfl) (Nat.le_of_ble_eq_true rfl) dX8_init_5 (fun H hM hS => ?_)
  refine lv_dup S.1 S.2.1 dX8_init_8 rfl ?_
  refine ec_kI (ec_rI S hK hAO hM (c_X5_init _ D cy B 0 1 (by omega) rfl _ (ec_eq _ _ _)) (cwI 0 S.2.2.2.2 (ed_gA ed_w1_24) rfl rfl rfl (S.2.2.2.2 _ ed_w1_2) (S.2.2.2.2 _ ed_w1_22) (S.2.2.2.2 _ ed_w1_23) rfl hn_X5_init ⟨Nat.le_of_ble_eq_true rfl, Nat.le_of_ble_eq_true rfl⟩) hl.1 rfl (Nat.le_of_ble_eq_true rfl) dX8_init_9 ⟨Nat.le_of_ble_eq_true rfl, Nat.le_of_ble_eq_true rfl⟩) hS (fun H locs hM hS => ?_)
  refine ec_putF (o := n) S ed_uX8 tyX8 tyX8_ok nmX8 hK hM hS (by omega) (by rw [if_pos (by omega), ec_ne _ _ (by omega)]; exact hf) rfl 0 (by decide) ed_w2_70 rfl rfl hin rfl rfl rfl dX8_init_12 (fun H locs hM hS _ => ?_) (Nat.le_of_ble_eq_true rfl)
  refine lv_aload_n S.1 S.2.1 dX8_init_15 rfl (lv_at hl 0 rfl) ?_
  refine ec_new (ci := 5) (fs := [.int 0, .int 0, .int 0, .int 0, .int 0, .int 0, .null, .null, .null, .null, .null]) S ed_uX5 tyX5 tyX5_ok ed_w1_20 ed_w1_21 ed_w1_2 hK hM hS rfl (fun j hj => by rcases (show j = 0 ∨ j = 1 ∨ j = 2 ∨ j = 3 ∨ j = 4 ∨ j = 5 ∨ j = 6 ∨ j = 7 ∨ j = 8 ∨ j = 9 ∨ j = 10 by omega) with rfl | rfl | rfl | rfl | rfl | rfl | rfl | rfl | rfl | rfl | rfl <;> rfl) (Nat.le_of_ble_eq_true rfl) (Nat.le_of_ble_eq_true rfl) dX8_init_16 (fun H hM hS => ?_)
  refine lv_dup S.1 S.2.1 dX8_init_19 rfl ?_
  refine ec_kI (ec_rI S hK hAO hM (c_X5_init _ D cy B 1 266 (by omega) rfl _ (ec_eq _ _ _)) (cwI 0 S.2.2.2.2 (ed_gA ed_w1_24) rfl rfl rfl (S.2.2.2.2 _ ed_w1_2) (S.2.2.2.2 _ ed_w1_22) (S.2.2.2.2 _ ed_w1_23) rfl hn_X5_init ⟨Nat.le_of_ble_eq_true rfl, Nat.le_of_ble_eq_true rfl⟩) hl.1 rfl (Nat.le_of_ble_eq_true rfl) dX8_init_20 ⟨Nat.le_of_ble_eq_true rfl, Nat.le_of_ble_eq_true rfl⟩) hS (fun H locs hM hS => ?_)
  refine ec_putF (o := n) S ed_uX8 tyX8 tyX8_ok nmX8 hK hM hS (by omega) (by rw [if_pos (by omega), ec_ne _ _ (by omega), ec_eq]) rfl 1 (by decide) ed_w2_71 rfl rfl hin rfl rfl rfl dX8_init_23 (fun H locs hM hS _ => ?_) (Nat.le_of_ble_eq_true rfl)
  refine lv_aload_n S.1 S.2.1 dX8_init_26 rfl (lv_at hl 0 rfl) ?_
  refine ec_new (ci := 5) (fs := [.int 0, .int 0, .int 0, .int 0, .int 0, .int 0, .null, .null, .null, .null, .null]) S ed_uX5 tyX5 tyX5_ok ed_w1_20 ed_w1_21 ed_w1_2 hK hM hS rfl (fun j hj => by rcases (show j = 0 ∨ j = 1 ∨ j = 2 ∨ j = 3 ∨ j = 4 ∨ j = 5 ∨ j = 6 ∨ j = 7 ∨ j = 8 ∨ j = 9 ∨ j = 10 by omega) with rfl | rfl | rfl | rfl | rfl | rfl | rfl | rfl | rfl | rfl | rfl <;> rfl) (Nat.le_of_ble_eq_true rfl) (Nat.le_of_ble_eq_true rfl) dX8_init_27 (fun H hM hS => ?_)
  refine lv_dup S.1 S.2.1 dX8_init_30 rfl ?_
  refine ec_kI (ec_rI S hK hAO hM (c_X5_init _ D cy B 2 531 (by omega) rfl _ (ec_eq _ _ _)) (cwI 0 S.2.2.2.2 (ed_gA ed_w1_24) rfl rfl rfl (S.2.2.2.2 _ ed_w1_2) (S.2.2.2.2 _ ed_w1_22) (S.2.2.2.2 _ ed_w1_23) rfl hn_X5_init ⟨Nat.le_of_ble_eq_true rfl, Nat.le_of_ble_eq_true rfl⟩) hl.1 rfl (Nat.le_of_ble_eq_true rfl) dX8_init_31 ⟨Nat.le_of_ble_eq_true rfl, Nat.le_of_ble_eq_true rfl⟩) hS (fun H locs hM hS => ?_)
  refine ec_putF (o := n) S ed_uX8 tyX8 tyX8_ok nmX8 hK hM hS (by omega) (by rw [if_pos (by omega), ec_ne _ _ (by omega), ec_eq]) rfl 2 (by decide) ed_w2_72 rfl rfl hin rfl rfl rfl dX8_init_34 (fun H locs hM hS _ => ?_) (Nat.le_of_ble_eq_true rfl)
  refine lv_aload_n S.1 S.2.1 dX8_init_37 rfl (lv_at hl 0 rfl) ?_
  refine ec_new (n := 796) (ci := 2) (fs := [.null, .int 0]) S ed_uX2 tyX2 tyX2_ok ed_w2_12 ed_w2_13 ed_w1_8 hK hM hS rfl (fun j hj => by rcases (show j = 0 ∨ j = 1 by omega) with rfl | rfl <;> rfl) (Nat.le_of_ble_eq_true rfl) (Nat.le_of_ble_eq_true rfl) dX8_init_38 (fun H hM hS => ?_)
  refine lv_dup S.1 S.2.1 dX8_init_41 rfl ?_
  refine ec_kI (ec_rI S hK hAO hM (c_X2_init _ D cy B 796 rfl _ (ec_eq _ _ _)) (cwI 0 S.2.2.2.2 (ed_gA ed_w2_16) rfl rfl rfl (S.2.2.2.2 _ ed_w1_8) (S.2.2.2.2 _ ed_w2_14) (S.2.2.2.2 _ ed_w2_15) rfl hn_X2_init ⟨Nat.le_of_ble_eq_true rfl, Nat.le_of_ble_eq_true rfl⟩) hl.1 rfl (Nat.le_of_ble_eq_true rfl) dX8_init_42 ⟨Nat.le_of_ble_eq_true rfl, Nat.le_of_ble_eq_true rfl⟩) hS (fun H locs hM hS => ?_)
  refine ec_putF (o := n) S ed_uX8 tyX8 tyX8_ok nmX8 hK hM hS (by omega) (by rw [if_pos (by omega), ec_ne _ _ (by omega), ec_eq]) rfl 4 (by decide) ed_w2_74 rfl rfl hin rfl rfl rfl dX8_init_45 (fun H locs hM hS _ => ?_) (Nat.le_of_ble_eq_true rfl)
  refine lv_aload_n S.1 S.2.1 dX8_init_48 rfl (lv_at hl 0 rfl) ?_
  refine ec_new (n := 1858) (ci := 7) (fs := [.null, .int 0, .int 0, .int 0, .int 0, .null, .int 0, .int 0, .null]) S ed_uX7 tyX7 tyX7_ok ed_w2_29 ed_w2_30 ed_w1_9 hK hM hS rfl (fun j hj => by rcases (show j = 0 ∨ j = 1 ∨ j = 2 ∨ j = 3 ∨ j = 4 ∨ j = 5 ∨ j = 6 ∨ j = 7 ∨ j = 8 by omega) with rfl | rfl | rfl | rfl | rfl | rfl | rfl | rfl | rfl <;> rfl) (Nat.le_of_ble_eq_true rfl) (Nat.le_of_ble_eq_true rfl) dX8_init_49 (fun H hM hS => ?_)
  refine lv_dup S.1 S.2.1 dX8_init_52 rfl ?_
  refine ec_kI (ec_rN S hK hAO hM (c_X7_init _ D cy B 1858 _ (ec_eq _ _ _)) ⟨va_cnB 0 S.2.2.2.2 (ed_gA ed_w2_33) rfl rfl rfl (ed_n0 hK) (S.2.2.2.2 _ ed_w1_9) hn_X7_init ⟨Nat.le_of_ble_eq_true rfl, Nat.le_of_ble_eq_true rfl⟩, rfl, S.2.2.2.2 _ ed_w2_32⟩ hl.1 rfl (Nat.le_of_ble_eq_true rfl) dX8_init_53 ⟨Nat.le_of_ble_eq_true rfl, Nat.le_of_ble_eq_true rfl⟩) hS (fun H locs hM hS => ?_)
  refine ec_putF (o := n) S ed_uX8 tyX8 tyX8_ok nmX8 hK hM hS (by omega) (by rw [ec_ne _ _ (by omega), ec_ne _ _ (by omega), ec_ne _ _ (by omega), ec_ne _ _ (by omega), ec_ne _ _ (by omega), ec_ne _ _ (by omega), ec_ne _ _ (by omega), ec_eq]) rfl 5 (by decide) ed_w2_75 rfl rfl hin rfl rfl rfl dX8_init_56 (fun H locs hM hS _ => ?_) (Nat.le_of_ble_eq_true rfl)
  have hM : ec_P D B 1862 _ H := hM
  refine ed_rv S hr hlocks (P1 := ec_P D B 1862 (ec_st cy B)) (ec_cg hM (fun x hx => ?_)) hS dX8_init_59
  have s14 : ec_st cy B 0 = ed_ent cy B 7 14 0 (ed_m1 7 14 0) := ec_st_at cy B ed_v14
  have s17 : ec_st cy B 1858 = ed_ent cy B 7 17 0 (ed_m1 7 17 0) := ec_st_at cy B ed_v17
  have s18 : ec_st cy B 1859 = ed_ent cy B 7 18 0 (ed_m1 7 18 0) := ec_st_at cy B ed_v18
  have s19 : ec_st cy B 1860 = ed_ent cy B 7 19 0 (ed_m1 7 19 0) := ec_st_at cy B ed_v19
  have s20 : ec_st cy B 1861 = ed_ent cy B 7 20 0 (ed_m1 7 20 0) := ec_st_at cy B ed_v20
  by_cases y0 : x = 0
  · subst y0
    rw [s14, hn, ec_eq]
    rfl
  by_cases y1 : x = 1858
  · subst y1
    rw [s17, ec_ne _ _ (by omega), ec_eq]
    rfl
  by_cases y2 : x = 1861
  · subst y2
    rw [s20, ec_ne _ _ (by omega), ec_ne _ _ (by omega)]
    exact (ec_eq _ _ _).symm
  by_cases y3 : x = 1860
  · subst y3
    rw [s19, ec_ne _ _ (by omega), ec_ne _ _ (by omega), ec_ne _ _ (by omega), ec_ne _ _ (by omega)]
    exact (ec_eq _ _ _).symm
  by_cases y4 : x = 1859
  · subst y4
    rw [s18, ec_ne _ _ (by omega), ec_ne _ _ (by omega), ec_ne _ _ (by omega), ec_ne _ _ (by omega), ec_ne _ _ (by omega), ec_ne _ _ (by omega)]
    exact (ec_eq _ _ _).symm
  rw [ec_ne _ _ (by omega), ec_ne _ _ (by omega), ec_ne _ _ (by omega), ec_ne _ _ (by omega), ec_ne _ _ (by omega), ec_ne _ _ (by omega), ec_ne _ _ (by omega), ec_ne _ _ (by omega), ec_ne _ _ (by omega)]
  by_cases z1 : x < 796
  · rw [if_pos z1, ec_ne _ _ (by omega), ec_ne _ _ (by omega)]
    by_cases z2 : x < 531
    · rw [if_pos z2, ec_ne _ _ (by omega), ec_ne _ _ (by omega)]
      by_cases z3 : x < 266
      · rw [if_pos z3, ec_ne _ _ (by omega), ec_ne _ _ (by omega), if_neg (by omega)]
      · rw [if_neg z3]
    · rw [if_neg z2]
  · rw [if_neg z1]
