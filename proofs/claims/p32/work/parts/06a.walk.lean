/-! walks, laid by program (wip/p32/gen/gen.py) -/
set_option maxHeartbeats 4000000 in
set_option maxRecDepth 100000 in
theorem c_X0_begin (l : Launch) (D : va_G) (cy : Nat → ClassId) (B : Nat) (μ : ed_CM) (j : Nat) (hj : j < 7) (n0 : Nat) (h0 : n0 < 8) (x1 x2 x3 x4 x5 : Int32) (σ : ed_SM) (σ' : ed_SM) (hf : f_X0_begin n0 x1 x2 x3 x4 x5 σ = some σ') :
    Met l yX0_begin wsX0_begin rmX0_begin (ed_pC D cy (ed_P D cy B (ed_sJ μ j σ)) [.ref (B + ed_oF j 11 n0), .int x1, .int x2, .int x3, .int x4, .int x5]) (ed_qV (ed_A B) (ed_P D cy B (ed_sJ μ j σ'))) 0 0 (ed_A B) := by
  refine Met.ofW (cc := cX0_begin) (maxL := 6) (ret := none) (by decide) rfl ?_
  intro p e s m args below meth c s₁ B0 hml hv
  obtain ⟨rfl, hM, hK⟩ := hv
  have S : CallFix p m c cX0_begin 6 s _ ed_ws RX0 := ⟨B0.exec, B0.bytes, hml, findClass_of_methodNamed B0.named, fun w hw => atoms_spec (ws := wsX0_begin) B0.pre w (List.mem_cons_of_mem _ hw)⟩
  have hr := B0.returns
  have hlocks := B0.notSynchronized
  have hS : va_S (ed_A B) s.heap s.heap [] := va_S.rf
  have hl := lv_entry ([.ref (B + ed_oF j 11 n0), .int x1, .int x2, .int x3, .int x4, .int x5]) (n := 6) (Nat.le_of_ble_eq_true rfl)
  rw [lg_entry_eq]
  generalize (lg_sl ([.ref (B + ed_oF j 11 n0), .int x1, .int x2, .int x3, .int x4, .int x5]) ++ List.replicate (6 - (lg_sl ([.ref (B + ed_oF j 11 n0), .int x1, .int x2, .int x3, .int x4, .int x5])).length) Slot.unset).toArray = ls at hl ⊢
  have hl : lv_has ls 6 [(0, .ref (B + ed_oF j 11 n0)), (1, .int x1), (2, .int x2), (3, .int x3), (4, .int x4), (5, .int x5)] := hl
  unfold f_X0_begin at hf
  refine lv_aload_n S.1 S.2.1 dX0_begin_0 rfl (lv_at hl 0 rfl) ?_
  refine lv_iload_n S.1 S.2.1 dX0_begin_1 rfl (lv_at hl 1 rfl) ?_
  refine ed_put (j := j) S ed_uX0 tyX0 tyX0_ok nmX0 hK hM hS (ed_v11 hj h0) (ed_e11 cy B j n0 _) rfl 0 (by decide) ed_w1_110 rfl rfl rfl rfl (Nat.le_of_ble_eq_true rfl) (ed_u11_0 cy B j n0 _ _) dX0_begin_2 (fun H locs hM hS => ?_)
  obtain ⟨σ1, eσ1, hf⟩ := ed_t_e hf
  have hM : ed_P D cy B (ed_sJ μ j σ1) H := by rw [eσ1]; exact hM
  refine lv_aload_n S.1 S.2.1 dX0_begin_5 rfl (lv_at hl 0 rfl) ?_
  refine lv_iload_n S.1 S.2.1 dX0_begin_6 rfl (lv_at hl 2 rfl) ?_
  refine ed_put (j := j) S ed_uX0 tyX0 tyX0_ok nmX0 hK hM hS (ed_v11 hj h0) (ed_e11 cy B j n0 _) rfl 1 (by decide) ed_w1_112 rfl rfl rfl rfl (Nat.le_of_ble_eq_true rfl) (ed_u11_1 cy B j n0 _ _) dX0_begin_7 (fun H locs hM hS => ?_)
  obtain ⟨σ2, eσ2, hf⟩ := ed_t_e hf
  have hM : ed_P D cy B (ed_sJ μ j σ2) H := by rw [eσ2]; exact hM
  refine lv_aload_n S.1 S.2.1 dX0_begin_10 rfl (lv_at hl 0 rfl) ?_
  refine lv_iload_n S.1 S.2.1 dX0_begin_11 rfl (lv_at hl 3 rfl) ?_
  refine ed_put (j := j) S ed_uX0 tyX0 tyX0_ok nmX0 hK hM hS (ed_v11 hj h0) (ed_e11 cy B j n0 _) rfl 2 (by decide) ed_w1_115 rfl rfl rfl rfl (Nat.le_of_ble_eq_true rfl) (ed_u11_2 cy B j n0 _ _) dX0_begin_12 (fun H locs hM hS => ?_)
  obtain ⟨σ3, eσ3, hf⟩ := ed_t_e hf
  have hM : ed_P D cy B (ed_sJ μ j σ3) H := by rw [eσ3]; exact hM
  refine lv_aload_n S.1 S.2.1 dX0_begin_15 rfl (lv_at hl 0 rfl) ?_
  refine lv_iload S.1 S.2.1 dX0_begin_16 (lv_at hl 4 rfl) ?_
  refine ed_put (j := j) S ed_uX0 tyX0 tyX0_ok nmX0 hK hM hS (ed_v11 hj h0) (ed_e11 cy B j n0 _) rfl 3 (by decide) ed_w1_118 rfl rfl rfl rfl (Nat.le_of_ble_eq_true rfl) (ed_u11_3 cy B j n0 _ _) dX0_begin_18 (fun H locs hM hS => ?_)
  obtain ⟨σ4, eσ4, hf⟩ := ed_t_e hf
  have hM : ed_P D cy B (ed_sJ μ j σ4) H := by rw [eσ4]; exact hM
  refine lv_aload_n S.1 S.2.1 dX0_begin_21 rfl (lv_at hl 0 rfl) ?_
  refine lv_iload S.1 S.2.1 dX0_begin_22 (lv_at hl 5 rfl) ?_
  refine ed_put (j := j) S ed_uX0 tyX0 tyX0_ok nmX0 hK hM hS (ed_v11 hj h0) (ed_e11 cy B j n0 _) rfl 4 (by decide) ed_w1_120 rfl rfl rfl rfl (Nat.le_of_ble_eq_true rfl) (ed_u11_4 cy B j n0 _ _) dX0_begin_24 (fun H locs hM hS => ?_)
  obtain ⟨σ5, eσ5, hf⟩ := ed_t_e hf
  have hM : ed_P D cy B (ed_sJ μ j σ5) H := by rw [eσ5]; exact hM
  refine lv_aload_n S.1 S.2.1 dX0_begin_27 rfl (lv_at hl 0 rfl) ?_
  refine lv_iconst (v := 1) S.1 S.2.1 dX0_begin_28 (by decide) ?_
  refine ed_put (j := j) S ed_uX0 tyX0 tyX0_ok nmX0 hK hM hS (ed_v11 hj h0) (ed_e11 cy B j n0 _) rfl 5 (by decide) ed_w1_123 rfl rfl (ed_bo_n (Or.inr rfl)).1 (ed_bo_n (Or.inr rfl)).2 (Nat.le_of_ble_eq_true rfl) (ed_u11_5 cy B j n0 _ _) dX0_begin_29 (fun H locs hM hS => ?_)
  obtain ⟨σ6, eσ6, hf⟩ := ed_t_e hf
  have hM : ed_P D cy B (ed_sJ μ j σ6) H := by rw [eσ6]; exact hM
  refine lv_aload_n S.1 S.2.1 dX0_begin_32 rfl (lv_at hl 0 rfl) ?_
  refine lv_iconst (v := 0) S.1 S.2.1 dX0_begin_33 (by decide) ?_
  refine ed_put (j := j) S ed_uX0 tyX0 tyX0_ok nmX0 hK hM hS (ed_v11 hj h0) (ed_e11 cy B j n0 _) rfl 6 (by decide) ed_w1_126 rfl rfl rfl rfl (Nat.le_of_ble_eq_true rfl) (ed_u11_6 cy B j n0 _ _) dX0_begin_34 (fun H locs hM hS => ?_)
  obtain ⟨σ7, eσ7, hf⟩ := ed_t_e hf
  have hM : ed_P D cy B (ed_sJ μ j σ7) H := by rw [eσ7]; exact hM
  refine lv_aload_n S.1 S.2.1 dX0_begin_37 rfl (lv_at hl 0 rfl) ?_
  refine lv_iconst (v := 0) S.1 S.2.1 dX0_begin_38 (by decide) ?_
  refine ed_put (j := j) S ed_uX0 tyX0 tyX0_ok nmX0 hK hM hS (ed_v11 hj h0) (ed_e11 cy B j n0 _) rfl 7 (by decide) ed_w1_129 rfl rfl rfl rfl (Nat.le_of_ble_eq_true rfl) (ed_u11_7 cy B j n0 _ _) dX0_begin_39 (fun H locs hM hS => ?_)
  obtain ⟨σ8, eσ8, hf⟩ := ed_t_e hf
  have hM : ed_P D cy B (ed_sJ μ j σ8) H := by rw [eσ8]; exact hM
  refine lv_aload_n S.1 S.2.1 dX0_begin_42 rfl (lv_at hl 0 rfl) ?_
  refine lv_iconst (v := 0) S.1 S.2.1 dX0_begin_43 (by decide) ?_
  refine ed_put (j := j) S ed_uX0 tyX0 tyX0_ok nmX0 hK hM hS (ed_v11 hj h0) (ed_e11 cy B j n0 _) rfl 8 (by decide) ed_w1_132 rfl rfl rfl rfl (Nat.le_of_ble_eq_true rfl) (ed_u11_8 cy B j n0 _ _) dX0_begin_44 (fun H locs hM hS => ?_)
  obtain ⟨σ9, eσ9, hf⟩ := ed_t_e hf
  have hM : ed_P D cy B (ed_sJ μ j σ9) H := by rw [eσ9]; exact hM
  refine lv_aload_n S.1 S.2.1 dX0_begin_47 rfl (lv_at hl 0 rfl) ?_
  refine lv_iconst (v := 0) S.1 S.2.1 dX0_begin_48 (by decide) ?_
  refine ed_put (j := j) S ed_uX0 tyX0 tyX0_ok nmX0 hK hM hS (ed_v11 hj h0) (ed_e11 cy B j n0 _) rfl 9 (by decide) ed_w1_135 rfl rfl rfl rfl (Nat.le_of_ble_eq_true rfl) (ed_u11_9 cy B j n0 _ _) dX0_begin_49 (fun H locs hM hS => ?_)
  obtain ⟨σ10, eσ10, hf⟩ := ed_t_e hf
  have hM : ed_P D cy B (ed_sJ μ j σ10) H := by rw [eσ10]; exact hM
  obtain rfl := Option.some.inj hf
  exact ed_rv S hr hlocks hM hS dX0_begin_52
set_option maxHeartbeats 4000000 in
set_option maxRecDepth 100000 in
theorem c_X0_copyFrom (l : Launch) (D : va_G) (cy : Nat → ClassId) (B : Nat) (μ : ed_CM) (j : Nat) (hj : j < 7) (n0 : Nat) (h0 : n0 < 8) (n1 : Nat) (h1 : n1 < 8) (jo : Nat) (hjo : jo < 7) (hne : jo ≠ j) (τ : ed_SM) (hτ : μ jo = τ) (σ : ed_SM) (σ' : ed_SM) (hf : f_X0_copyFrom n0 n1 τ σ = some σ') :
    Met l yX0_copyFrom wsX0_copyFrom rmX0_copyFrom (ed_pC D cy (ed_P D cy B (ed_sJ μ j σ)) [.ref (B + ed_oF j 11 n0), .ref (B + ed_oF jo 11 n1)]) (ed_qV (ed_A B) (ed_P D cy B (ed_sJ μ j σ'))) 0 0 (ed_A B) := by
  refine Met.ofW (cc := cX0_copyFrom) (maxL := 2) (ret := none) (by decide) rfl ?_
  intro p e s m args below meth c s₁ B0 hml hv
  obtain ⟨rfl, hM, hK⟩ := hv
  have S : CallFix p m c cX0_copyFrom 2 s _ ed_ws RX0 := ⟨B0.exec, B0.bytes, hml, findClass_of_methodNamed B0.named, fun w hw => atoms_spec (ws := wsX0_copyFrom) B0.pre w (List.mem_cons_of_mem _ hw)⟩
  have hr := B0.returns
  have hlocks := B0.notSynchronized
  have hS : va_S (ed_A B) s.heap s.heap [] := va_S.rf
  have hl := lv_entry ([.ref (B + ed_oF j 11 n0), .ref (B + ed_oF jo 11 n1)]) (n := 2) (Nat.le_of_ble_eq_true rfl)
  rw [lg_entry_eq]
  generalize (lg_sl ([.ref (B + ed_oF j 11 n0), .ref (B + ed_oF jo 11 n1)]) ++ List.replicate (2 - (lg_sl ([.ref (B + ed_oF j 11 n0), .ref (B + ed_oF jo 11 n1)])).length) Slot.unset).toArray = ls at hl ⊢
  have hl : lv_has ls 2 [(0, .ref (B + ed_oF j 11 n0)), (1, .ref (B + ed_oF jo 11 n1))] := hl
  unfold f_X0_copyFrom at hf
  refine lv_aload_n S.1 S.2.1 dX0_copyFrom_0 rfl (lv_at hl 0 rfl) ?_
  refine lv_aload_n S.1 S.2.1 dX0_copyFrom_1 rfl (lv_at hl 1 rfl) ?_
  refine ed_get (r := (τ 11 n1)) S ed_uX0 hK hM (ed_v11 hjo h1) (ed_sJn μ σ hne hτ 11 n1) (ed_e11 cy B jo n1 _) rfl 0 (by decide) ed_w1_110 rfl rfl dX0_copyFrom_2 ?_
  refine ed_put (j := j) S ed_uX0 tyX0 tyX0_ok nmX0 hK hM hS (ed_v11 hj h0) (ed_e11 cy B j n0 _) rfl 0 (by decide) ed_w1_110 rfl rfl rfl rfl (Nat.le_of_ble_eq_true rfl) (ed_u11_0 cy B j n0 _ _) dX0_copyFrom_5 (fun H locs hM hS => ?_)
  obtain ⟨σ1, eσ1, hf⟩ := ed_t_e hf
  have hM : ed_P D cy B (ed_sJ μ j σ1) H := by rw [eσ1]; exact hM
  refine lv_aload_n S.1 S.2.1 dX0_copyFrom_8 rfl (lv_at hl 0 rfl) ?_
  refine lv_aload_n S.1 S.2.1 dX0_copyFrom_9 rfl (lv_at hl 1 rfl) ?_
  refine ed_get (r := (τ 11 n1)) S ed_uX0 hK hM (ed_v11 hjo h1) (ed_sJn μ σ1 hne hτ 11 n1) (ed_e11 cy B jo n1 _) rfl 1 (by decide) ed_w1_112 rfl rfl dX0_copyFrom_10 ?_
  refine ed_put (j := j) S ed_uX0 tyX0 tyX0_ok nmX0 hK hM hS (ed_v11 hj h0) (ed_e11 cy B j n0 _) rfl 1 (by decide) ed_w1_112 rfl rfl rfl rfl (Nat.le_of_ble_eq_true rfl) (ed_u11_1 cy B j n0 _ _) dX0_copyFrom_13 (fun H locs hM hS => ?_)
  obtain ⟨σ2, eσ2, hf⟩ := ed_t_e hf
  have hM : ed_P D cy B (ed_sJ μ j σ2) H := by rw [eσ2]; exact hM
  refine lv_aload_n S.1 S.2.1 dX0_copyFrom_16 rfl (lv_at hl 0 rfl) ?_
  refine lv_aload_n S.1 S.2.1 dX0_copyFrom_17 rfl (lv_at hl 1 rfl) ?_
  refine ed_get (r := (τ 11 n1)) S ed_uX0 hK hM (ed_v11 hjo h1) (ed_sJn μ σ2 hne hτ 11 n1) (ed_e11 cy B jo n1 _) rfl 2 (by decide) ed_w1_115 rfl rfl dX0_copyFrom_18 ?_
  refine ed_put (j := j) S ed_uX0 tyX0 tyX0_ok nmX0 hK hM hS (ed_v11 hj h0) (ed_e11 cy B j n0 _) rfl 2 (by decide) ed_w1_115 rfl rfl rfl rfl (Nat.le_of_ble_eq_true rfl) (ed_u11_2 cy B j n0 _ _) dX0_copyFrom_21 (fun H locs hM hS => ?_)
  obtain ⟨σ3, eσ3, hf⟩ := ed_t_e hf
  have hM : ed_P D cy B (ed_sJ μ j σ3) H := by rw [eσ3]; exact hM
  refine lv_aload_n S.1 S.2.1 dX0_copyFrom_24 rfl (lv_at hl 0 rfl) ?_
  refine lv_aload_n S.1 S.2.1 dX0_copyFrom_25 rfl (lv_at hl 1 rfl) ?_
  refine ed_get (r := (τ 11 n1)) S ed_uX0 hK hM (ed_v11 hjo h1) (ed_sJn μ σ3 hne hτ 11 n1) (ed_e11 cy B jo n1 _) rfl 3 (by decide) ed_w1_118 rfl rfl dX0_copyFrom_26 ?_
  refine ed_put (j := j) S ed_uX0 tyX0 tyX0_ok nmX0 hK hM hS (ed_v11 hj h0) (ed_e11 cy B j n0 _) rfl 3 (by decide) ed_w1_118 rfl rfl rfl rfl (Nat.le_of_ble_eq_true rfl) (ed_u11_3 cy B j n0 _ _) dX0_copyFrom_29 (fun H locs hM hS => ?_)
  obtain ⟨σ4, eσ4, hf⟩ := ed_t_e hf
  have hM : ed_P D cy B (ed_sJ μ j σ4) H := by rw [eσ4]; exact hM
  refine lv_aload_n S.1 S.2.1 dX0_copyFrom_32 rfl (lv_at hl 0 rfl) ?_
  refine lv_aload_n S.1 S.2.1 dX0_copyFrom_33 rfl (lv_at hl 1 rfl) ?_
  refine ed_get (r := (τ 11 n1)) S ed_uX0 hK hM (ed_v11 hjo h1) (ed_sJn μ σ4 hne hτ 11 n1) (ed_e11 cy B jo n1 _) rfl 4 (by decide) ed_w1_120 rfl rfl dX0_copyFrom_34 ?_
  refine ed_put (j := j) S ed_uX0 tyX0 tyX0_ok nmX0 hK hM hS (ed_v11 hj h0) (ed_e11 cy B j n0 _) rfl 4 (by decide) ed_w1_120 rfl rfl rfl rfl (Nat.le_of_ble_eq_true rfl) (ed_u11_4 cy B j n0 _ _) dX0_copyFrom_37 (fun H locs hM hS => ?_)
  obtain ⟨σ5, eσ5, hf⟩ := ed_t_e hf
  have hM : ed_P D cy B (ed_sJ μ j σ5) H := by rw [eσ5]; exact hM
  refine lv_aload_n S.1 S.2.1 dX0_copyFrom_40 rfl (lv_at hl 0 rfl) ?_
  refine lv_aload_n S.1 S.2.1 dX0_copyFrom_41 rfl (lv_at hl 1 rfl) ?_
  refine ed_get (r := (τ 11 n1)) S ed_uX0 hK hM (ed_v11 hjo h1) (ed_sJn μ σ5 hne hτ 11 n1) (ed_e11 cy B jo n1 _) rfl 5 (by decide) ed_w1_123 rfl rfl dX0_copyFrom_42 ?_
  obtain ⟨hb6, hf⟩ := ed_g_e hf
  refine ed_put (j := j) S ed_uX0 tyX0 tyX0_ok nmX0 hK hM hS (ed_v11 hj h0) (ed_e11 cy B j n0 _) rfl 5 (by decide) ed_w1_123 rfl rfl (ed_bo_n hb6).1 (ed_bo_n hb6).2 (Nat.le_of_ble_eq_true rfl) (ed_u11_5 cy B j n0 _ _) dX0_copyFrom_45 (fun H locs hM hS => ?_)
  obtain ⟨σ7, eσ7, hf⟩ := ed_t_e hf
  have hM : ed_P D cy B (ed_sJ μ j σ7) H := by rw [eσ7]; exact hM
  refine lv_aload_n S.1 S.2.1 dX0_copyFrom_48 rfl (lv_at hl 0 rfl) ?_
  refine lv_aload_n S.1 S.2.1 dX0_copyFrom_49 rfl (lv_at hl 1 rfl) ?_
  refine ed_get (r := (τ 11 n1)) S ed_uX0 hK hM (ed_v11 hjo h1) (ed_sJn μ σ7 hne hτ 11 n1) (ed_e11 cy B jo n1 _) rfl 6 (by decide) ed_w1_126 rfl rfl dX0_copyFrom_50 ?_
  refine ed_put (j := j) S ed_uX0 tyX0 tyX0_ok nmX0 hK hM hS (ed_v11 hj h0) (ed_e11 cy B j n0 _) rfl 6 (by decide) ed_w1_126 rfl rfl rfl rfl (Nat.le_of_ble_eq_true rfl) (ed_u11_6 cy B j n0 _ _) dX0_copyFrom_53 (fun H locs hM hS => ?_)
  obtain ⟨σ8, eσ8, hf⟩ := ed_t_e hf
  have hM : ed_P D cy B (ed_sJ μ j σ8) H := by rw [eσ8]; exact hM
  refine lv_aload_n S.1 S.2.1 dX0_copyFrom_56 rfl (lv_at hl 0 rfl) ?_
  refine lv_aload_n S.1 S.2.1 dX0_copyFrom_57 rfl (lv_at hl 1 rfl) ?_
  refine ed_get (r := (τ 11 n1)) S ed_uX0 hK hM (ed_v11 hjo h1) (ed_sJn μ σ8 hne hτ 11 n1) (ed_e11 cy B jo n1 _) rfl 7 (by decide) ed_w1_129 rfl rfl dX0_copyFrom_58 ?_
  refine ed_put (j := j) S ed_uX0 tyX0 tyX0_ok nmX0 hK hM hS (ed_v11 hj h0) (ed_e11 cy B j n0 _) rfl 7 (by decide) ed_w1_129 rfl rfl rfl rfl (Nat.le_of_ble_eq_true rfl) (ed_u11_7 cy B j n0 _ _) dX0_copyFrom_61 (fun H locs hM hS => ?_)
  obtain ⟨σ9, eσ9, hf⟩ := ed_t_e hf
  have hM : ed_P D cy B (ed_sJ μ j σ9) H := by rw [eσ9]; exact hM
  refine lv_aload_n S.1 S.2.1 dX0_copyFrom_64 rfl (lv_at hl 0 rfl) ?_
  refine lv_aload_n S.1 S.2.1 dX0_copyFrom_65 rfl (lv_at hl 1 rfl) ?_
  refine ed_get (r := (τ 11 n1)) S ed_uX0 hK hM (ed_v11 hjo h1) (ed_sJn μ σ9 hne hτ 11 n1) (ed_e11 cy B jo n1 _) rfl 8 (by decide) ed_w1_132 rfl rfl dX0_copyFrom_66 ?_
  refine ed_put (j := j) S ed_uX0 tyX0 tyX0_ok nmX0 hK hM hS (ed_v11 hj h0) (ed_e11 cy B j n0 _) rfl 8 (by decide) ed_w1_132 rfl rfl rfl rfl (Nat.le_of_ble_eq_true rfl) (ed_u11_8 cy B j n0 _ _) dX0_copyFrom_69 (fun H locs hM hS => ?_)
  obtain ⟨σ10, eσ10, hf⟩ := ed_t_e hf
  have hM : ed_P D cy B (ed_sJ μ j σ10) H := by rw [eσ10]; exact hM
  refine lv_aload_n S.1 S.2.1 dX0_copyFrom_72 rfl (lv_at hl 0 rfl) ?_
  refine lv_aload_n S.1 S.2.1 dX0_copyFrom_73 rfl (lv_at hl 1 rfl) ?_
  refine ed_get (r := (τ 11 n1)) S ed_uX0 hK hM (ed_v11 hjo h1) (ed_sJn μ σ10 hne hτ 11 n1) (ed_e11 cy B jo n1 _) rfl 9 (by decide) ed_w1_135 rfl rfl dX0_copyFrom_74 ?_
  refine ed_put (j := j) S ed_uX0 tyX0 tyX0_ok nmX0 hK hM hS (ed_v11 hj h0) (ed_e11 cy B j n0 _) rfl 9 (by decide) ed_w1_135 rfl rfl rfl rfl (Nat.le_of_ble_eq_true rfl) (ed_u11_9 cy B j n0 _ _) dX0_copyFrom_77 (fun H locs hM hS => ?_)
  obtain ⟨σ11, eσ11, hf⟩ := ed_t_e hf
  have hM : ed_P D cy B (ed_sJ μ j σ11) H := by rw [eσ11]; exact hM
  obtain rfl := Option.some.inj hf
  exact ed_rv S hr hlocks hM hS dX0_copyFrom_80
set_option maxHeartbeats 4000000 in
set_option maxRecDepth 100000 in
theorem c_X0_hasTopic (l : Launch) (D : va_G) (cy : Nat → ClassId) (B : Nat) (μ : ed_CM) (j : Nat) (hj : j < 7) (n0 : Nat) (h0 : n0 < 8) (x1 : Int32) (σ : ed_SM) :
    Met l yX0_hasTopic wsX0_hasTopic rmX0_hasTopic (ed_pC D cy (ed_P D cy B (ed_sJ μ j σ)) [.ref (B + ed_oF j 11 n0), .int x1]) (ed_qI (ed_A B) (ed_P D cy B (ed_sJ μ j σ)) (f_X0_hasTopic n0 x1 σ)) 0 0 (ed_A B) := by
  refine Met.ofW (cc := cX0_hasTopic) (maxL := 2) (ret := (some .boolean)) (by decide) rfl ?_
  intro p e s m args below meth c s₁ B0 hml hv
  obtain ⟨rfl, hM, hK⟩ := hv
  have S : CallFix p m c cX0_hasTopic 2 s _ ed_ws RX0 := ⟨B0.exec, B0.bytes, hml, findClass_of_methodNamed B0.named, fun w hw => atoms_spec (ws := wsX0_hasTopic) B0.pre w (List.mem_cons_of_mem _ hw)⟩
  have hr := B0.returns
  have hlocks := B0.notSynchronized
  have hS : va_S (ed_A B) s.heap s.heap [] := va_S.rf
  have hl := lv_entry ([.ref (B + ed_oF j 11 n0), .int x1]) (n := 2) (Nat.le_of_ble_eq_true rfl)
  rw [lg_entry_eq]
  generalize (lg_sl ([.ref (B + ed_oF j 11 n0), .int x1]) ++ List.replicate (2 - (lg_sl ([.ref (B + ed_oF j 11 n0), .int x1])).length) Slot.unset).toArray = ls at hl ⊢
  have hl : lv_has ls 2 [(0, .ref (B + ed_oF j 11 n0)), (1, .int x1)] := hl
  generalize hf : f_X0_hasTopic n0 x1 σ = r
  unfold f_X0_hasTopic at hf
  refine lv_aload_n S.1 S.2.1 dX0_hasTopic_0 rfl (lv_at hl 0 rfl) ?_
  refine ed_get (r := (σ 11 n0)) S ed_uX0 hK hM (ed_v11 hj h0) (ed_sJr μ j σ 11 n0) (ed_e11 cy B j n0 _) rfl 0 (by decide) ed_w1_110 rfl rfl dX0_hasTopic_1 ?_
  refine lv_iload_n S.1 S.2.1 dX0_hasTopic_4 rfl (lv_at hl 1 rfl) ?_
  refine lv_ishr S.1 S.2.1 dX0_hasTopic_5 ?_
  refine lv_iconst (v := 1) S.1 S.2.1 dX0_hasTopic_6 (by decide) ?_
  refine lv_iand S.1 S.2.1 dX0_hasTopic_7 ?_
  refine lv_iconst (v := 1) S.1 S.2.1 dX0_hasTopic_8 (by decide) ?_
  refine lv_icmp_ne (tgt := 16) S.1 S.2.1 dX0_hasTopic_9 (by decide) (fun c1 => ?_) (fun c1 => ?_)
  · replace hf := ed_in_ c1 hf
    refine lv_iconst (v := 0) S.1 S.2.1 dX0_hasTopic_16 (by decide) ?_
    subst hf
    exact ed_rz S hr hlocks rfl hM hS dX0_hasTopic_17
  · replace hf := ed_ip c1 hf
    refine lv_iconst (v := 1) S.1 S.2.1 dX0_hasTopic_12 (by decide) ?_
    refine lv_goto (tgt := 17) S.1 S.2.1 dX0_hasTopic_13 (by decide) ?_
    subst hf
    exact ed_rz S hr hlocks rfl hM hS dX0_hasTopic_17
set_option maxHeartbeats 4000000 in
set_option maxRecDepth 100000 in
theorem c_X0_canGetCopy (l : Launch) (D : va_G) (cy : Nat → ClassId) (B : Nat) (μ : ed_CM) (j : Nat) (hj : j < 7) (n0 : Nat) (h0 : n0 < 8) (σ : ed_SM) :
    Met l yX0_canGetCopy wsX0_canGetCopy rmX0_canGetCopy (ed_pC D cy (ed_P D cy B (ed_sJ μ j σ)) [.ref (B + ed_oF j 11 n0)]) (ed_qI (ed_A B) (ed_P D cy B (ed_sJ μ j σ)) (f_X0_canGetCopy n0 σ)) 0 0 (ed_A B) := by
  refine Met.ofW (cc := cX0_canGetCopy) (maxL := 1) (ret := (some .boolean)) (by decide) rfl ?_
  intro p e s m args below meth c s₁ B0 hml hv
  obtain ⟨rfl, hM, hK⟩ := hv
  have S : CallFix p m c cX0_canGetCopy 1 s _ ed_ws RX0 := ⟨B0.exec, B0.bytes, hml, findClass_of_methodNamed B0.named, fun w hw => atoms_spec (ws := wsX0_canGetCopy) B0.pre w (List.mem_cons_of_mem _ hw)⟩
  have hr := B0.returns
  have hlocks := B0.notSynchronized
  have hS : va_S (ed_A B) s.heap s.heap [] := va_S.rf
  have hl := lv_entry ([.ref (B + ed_oF j 11 n0)]) (n := 1) (Nat.le_of_ble_eq_true rfl)
  rw [lg_entry_eq]
  generalize (lg_sl ([.ref (B + ed_oF j 11 n0)]) ++ List.replicate (1 - (lg_sl ([.ref (B + ed_oF j 11 n0)])).length) Slot.unset).toArray = ls at hl ⊢
  have hl : lv_has ls 1 [(0, .ref (B + ed_oF j 11 n0))] := hl
  generalize hf : f_X0_canGetCopy n0 σ = r
  unfold f_X0_canGetCopy at hf
  refine lv_aload_n S.1 S.2.1 dX0_canGetCopy_0 rfl (lv_at hl 0 rfl) ?_
  refine ed_get (r := (σ 11 n0)) S ed_uX0 hK hM (ed_v11 hj h0) (ed_sJr μ j σ 11 n0) (ed_e11 cy B j n0 _) rfl 5 (by decide) ed_w1_123 rfl rfl dX0_canGetCopy_1 ?_
  refine lv_if_eq (tgt := 22) S.1 S.2.1 dX0_canGetCopy_4 (by decide) (fun c1 => ?_) (fun c1 => ?_)
  · replace hf := ed_ip c1 hf
    refine lv_iconst (v := 0) S.1 S.2.1 dX0_canGetCopy_22 (by decide) ?_
    subst hf
    exact ed_rz S hr hlocks rfl hM hS dX0_canGetCopy_23
  · replace hf := ed_in_ c1 hf
    refine lv_aload_n S.1 S.2.1 dX0_canGetCopy_7 rfl (lv_at hl 0 rfl) ?_
    refine ed_get (r := (σ 11 n0)) S ed_uX0 hK hM (ed_v11 hj h0) (ed_sJr μ j σ 11 n0) (ed_e11 cy B j n0 _) rfl 7 (by decide) ed_w1_129 rfl rfl dX0_canGetCopy_8 ?_
    refine lv_aload_n S.1 S.2.1 dX0_canGetCopy_11 rfl (lv_at hl 0 rfl) ?_
    refine ed_get (r := (σ 11 n0)) S ed_uX0 hK hM (ed_v11 hj h0) (ed_sJr μ j σ 11 n0) (ed_e11 cy B j n0 _) rfl 3 (by decide) ed_w1_118 rfl rfl dX0_canGetCopy_12 ?_
    refine lv_icmp_ge (tgt := 22) S.1 S.2.1 dX0_canGetCopy_15 (by decide) (fun c2 => ?_) (fun c2 => ?_)
    · replace hf := ed_ip c2 hf
      refine lv_iconst (v := 0) S.1 S.2.1 dX0_canGetCopy_22 (by decide) ?_
      subst hf
      exact ed_rz S hr hlocks rfl hM hS dX0_canGetCopy_23
    · replace hf := ed_in_ c2 hf
      refine lv_iconst (v := 1) S.1 S.2.1 dX0_canGetCopy_18 (by decide) ?_
      refine lv_goto (tgt := 23) S.1 S.2.1 dX0_canGetCopy_19 (by decide) ?_
      subst hf
      exact ed_rz S hr hlocks rfl hM hS dX0_canGetCopy_23
set_option maxHeartbeats 4000000 in
set_option maxRecDepth 100000 in
theorem c_X1_begin (l : Launch) (D : va_G) (cy : Nat → ClassId) (B : Nat) (μ : ed_CM) (j : Nat) (hj : j < 7) (n0 : Nat) (h0 : n0 < 160) (x1 x2 x3 : Int32) (σ : ed_SM) (σ' : ed_SM) (hf : f_X1_begin n0 x1 x2 x3 σ = some σ') :
    Met l yX1_begin wsX1_begin rmX1_begin (ed_pC D cy (ed_P D cy B (ed_sJ μ j σ)) [.ref (B + ed_oF j 12 n0), .int x1, .int x2, .int x3]) (ed_qV (ed_A B) (ed_P D cy B (ed_sJ μ j σ'))) 0 0 (ed_A B) := by
  refine Met.ofW (cc := cX1_begin) (maxL := 4) (ret := none) (by decide) rfl ?_
  intro p e s m args below meth c s₁ B0 hml hv
  obtain ⟨rfl, hM, hK⟩ := hv
  have S : CallFix p m c cX1_begin 4 s _ ed_ws RX1 := ⟨B0.exec, B0.bytes, hml, findClass_of_methodNamed B0.named, fun w hw => atoms_spec (ws := wsX1_begin) B0.pre w (List.mem_cons_of_mem _ hw)⟩
  have hr := B0.returns
  have hlocks := B0.notSynchronized
  have hS : va_S (ed_A B) s.heap s.heap [] := va_S.rf
  have hl := lv_entry ([.ref (B + ed_oF j 12 n0), .int x1, .int x2, .int x3]) (n := 4) (Nat.le_of_ble_eq_true rfl)
  rw [lg_entry_eq]
  generalize (lg_sl ([.ref (B + ed_oF j 12 n0), .int x1, .int x2, .int x3]) ++ List.replicate (4 - (lg_sl ([.ref (B + ed_oF j 12 n0), .int x1, .int x2, .int x3])).length) Slot.unset).toArray = ls at hl ⊢
  have hl : lv_has ls 4 [(0, .ref (B + ed_oF j 12 n0)), (1, .int x1), (2, .int x2), (3, .int x3)] := hl
  unfold f_X1_begin at hf
  refine lv_aload_n S.1 S.2.1 dX1_begin_0 rfl (lv_at hl 0 rfl) ?_
  refine lv_iload_n S.1 S.2.1 dX1_begin_1 rfl (lv_at hl 1 rfl) ?_
  refine ed_put (j := j) S ed_uX1 tyX1 tyX1_ok nmX1 hK hM hS (ed_v12 hj h0) (ed_e12 cy B j n0 _) rfl 0 (by decide) ed_w1_164 rfl rfl rfl rfl (Nat.le_of_ble_eq_true rfl) (ed_u12_0 cy B j n0 _ _) dX1_begin_2 (fun H locs hM hS => ?_)
  obtain ⟨σ1, eσ1, hf⟩ := ed_t_e hf
  have hM : ed_P D cy B (ed_sJ μ j σ1) H := by rw [eσ1]; exact hM
  refine lv_aload_n S.1 S.2.1 dX1_begin_5 rfl (lv_at hl 0 rfl) ?_
  refine lv_iload_n S.1 S.2.1 dX1_begin_6 rfl (lv_at hl 2 rfl) ?_
  refine ed_put (j := j) S ed_uX1 tyX1 tyX1_ok nmX1 hK hM hS (ed_v12 hj h0) (ed_e12 cy B j n0 _) rfl 1 (by decide) ed_w1_167 rfl rfl rfl rfl (Nat.le_of_ble_eq_true rfl) (ed_u12_1 cy B j n0 _ _) dX1_begin_7 (fun H locs hM hS => ?_)
  obtain ⟨σ2, eσ2, hf⟩ := ed_t_e hf
  have hM : ed_P D cy B (ed_sJ μ j σ2) H := by rw [eσ2]; exact hM
  refine lv_aload_n S.1 S.2.1 dX1_begin_10 rfl (lv_at hl 0 rfl) ?_
  refine lv_iconst (v := 0) S.1 S.2.1 dX1_begin_11 (by decide) ?_
  refine ed_put (j := j) S ed_uX1 tyX1 tyX1_ok nmX1 hK hM hS (ed_v12 hj h0) (ed_e12 cy B j n0 _) rfl 2 (by decide) ed_w1_170 rfl rfl rfl rfl (Nat.le_of_ble_eq_true rfl) (ed_u12_2 cy B j n0 _ _) dX1_begin_12 (fun H locs hM hS => ?_)
  obtain ⟨σ3, eσ3, hf⟩ := ed_t_e hf
  have hM : ed_P D cy B (ed_sJ μ j σ3) H := by rw [eσ3]; exact hM
  refine lv_aload_n S.1 S.2.1 dX1_begin_15 rfl (lv_at hl 0 rfl) ?_
  refine lv_iload_n S.1 S.2.1 dX1_begin_16 rfl (lv_at hl 3 rfl) ?_
  refine ed_put (j := j) S ed_uX1 tyX1 tyX1_ok nmX1 hK hM hS (ed_v12 hj h0) (ed_e12 cy B j n0 _) rfl 3 (by decide) ed_w1_173 rfl rfl rfl rfl (Nat.le_of_ble_eq_true rfl) (ed_u12_3 cy B j n0 _ _) dX1_begin_17 (fun H locs hM hS => ?_)
  obtain ⟨σ4, eσ4, hf⟩ := ed_t_e hf
  have hM : ed_P D cy B (ed_sJ μ j σ4) H := by rw [eσ4]; exact hM
  refine lv_aload_n S.1 S.2.1 dX1_begin_20 rfl (lv_at hl 0 rfl) ?_
  refine lv_bipush (v := (-5)) S.1 S.2.1 dX1_begin_21 (by decide) ?_
  refine ed_put (j := j) S ed_uX1 tyX1 tyX1_ok nmX1 hK hM hS (ed_v12 hj h0) (ed_e12 cy B j n0 _) rfl 4 (by decide) ed_w1_176 rfl rfl rfl rfl (Nat.le_of_ble_eq_true rfl) (ed_u12_4 cy B j n0 _ _) dX1_begin_23 (fun H locs hM hS => ?_)
  obtain ⟨σ5, eσ5, hf⟩ := ed_t_e hf
  have hM : ed_P D cy B (ed_sJ μ j σ5) H := by rw [eσ5]; exact hM
  refine lv_aload_n S.1 S.2.1 dX1_begin_26 rfl (lv_at hl 0 rfl) ?_
  refine lv_bipush (v := (-5)) S.1 S.2.1 dX1_begin_27 (by decide) ?_
  refine ed_put (j := j) S ed_uX1 tyX1 tyX1_ok nmX1 hK hM hS (ed_v12 hj h0) (ed_e12 cy B j n0 _) rfl 5 (by decide) ed_w1_179 rfl rfl rfl rfl (Nat.le_of_ble_eq_true rfl) (ed_u12_5 cy B j n0 _ _) dX1_begin_29 (fun H locs hM hS => ?_)
  obtain ⟨σ6, eσ6, hf⟩ := ed_t_e hf
  have hM : ed_P D cy B (ed_sJ μ j σ6) H := by rw [eσ6]; exact hM
  obtain rfl := Option.some.inj hf
  exact ed_rv S hr hlocks hM hS dX1_begin_32
set_option maxHeartbeats 4000000 in
set_option maxRecDepth 100000 in
theorem c_X1_isOver (l : Launch) (D : va_G) (cy : Nat → ClassId) (B : Nat) (μ : ed_CM) (j : Nat) (hj : j < 7) (n0 : Nat) (h0 : n0 < 160) (σ : ed_SM) :
    Met l yX1_isOver wsX1_isOver rmX1_isOver (ed_pC D cy (ed_P D cy B (ed_sJ μ j σ)) [.ref (B + ed_oF j 12 n0)]) (ed_qI (ed_A B) (ed_P D cy B (ed_sJ μ j σ)) (f_X1_isOver n0 σ)) 0 0 (ed_A B) := by
  refine Met.ofW (cc := cX1_isOver) (maxL := 1) (ret := (some .boolean)) (by decide) rfl ?_
  intro p e s m args below meth c s₁ B0 hml hv
  obtain ⟨rfl, hM, hK⟩ := hv
  have S : CallFix p m c cX1_isOver 1 s _ ed_ws RX1 := ⟨B0.exec, B0.bytes, hml, findClass_of_methodNamed B0.named, fun w hw => atoms_spec (ws := wsX1_isOver) B0.pre w (List.mem_cons_of_mem _ hw)⟩
  have hr := B0.returns
  have hlocks := B0.notSynchronized
  have hS : va_S (ed_A B) s.heap s.heap [] := va_S.rf
  have hl := lv_entry ([.ref (B + ed_oF j 12 n0)]) (n := 1) (Nat.le_of_ble_eq_true rfl)
  rw [lg_entry_eq]
  generalize (lg_sl ([.ref (B + ed_oF j 12 n0)]) ++ List.replicate (1 - (lg_sl ([.ref (B + ed_oF j 12 n0)])).length) Slot.unset).toArray = ls at hl ⊢
  have hl : lv_has ls 1 [(0, .ref (B + ed_oF j 12 n0))] := hl
  generalize hf : f_X1_isOver n0 σ = r
  unfold f_X1_isOver at hf
  refine lv_aload_n S.1 S.2.1 dX1_isOver_0 rfl (lv_at hl 0 rfl) ?_
  refine ed_get (r := (σ 12 n0)) S ed_uX1 hK hM (ed_v12 hj h0) (ed_sJr μ j σ 12 n0) (ed_e12 cy B j n0 _) rfl 2 (by decide) ed_w1_170 rfl rfl dX1_isOver_1 ?_
  refine lv_if_eq (tgt := 19) S.1 S.2.1 dX1_isOver_4 (by decide) (fun c1 => ?_) (fun c1 => ?_)
  · replace hf := ed_ip c1 hf
    refine lv_iconst (v := 0) S.1 S.2.1 dX1_isOver_19 (by decide) ?_
    subst hf
    exact ed_rz S hr hlocks rfl hM hS dX1_isOver_20
  · replace hf := ed_in_ c1 hf
    refine lv_aload_n S.1 S.2.1 dX1_isOver_7 rfl (lv_at hl 0 rfl) ?_
    refine ed_get (r := (σ 12 n0)) S ed_uX1 hK hM (ed_v12 hj h0) (ed_sJr μ j σ 12 n0) (ed_e12 cy B j n0 _) rfl 2 (by decide) ed_w1_170 rfl rfl dX1_isOver_8 ?_
    refine lv_iconst (v := 1) S.1 S.2.1 dX1_isOver_11 (by decide) ?_
    refine lv_icmp_eq (tgt := 19) S.1 S.2.1 dX1_isOver_12 (by decide) (fun c2 => ?_) (fun c2 => ?_)
    · replace hf := ed_ip c2 hf
      refine lv_iconst (v := 0) S.1 S.2.1 dX1_isOver_19 (by decide) ?_
      subst hf
      exact ed_rz S hr hlocks rfl hM hS dX1_isOver_20
    · replace hf := ed_in_ c2 hf
      refine lv_iconst (v := 1) S.1 S.2.1 dX1_isOver_15 (by decide) ?_
      refine lv_goto (tgt := 20) S.1 S.2.1 dX1_isOver_16 (by decide) ?_
      subst hf
      exact ed_rz S hr hlocks rfl hM hS dX1_isOver_20
set_option maxHeartbeats 4000000 in
set_option maxRecDepth 100000 in
theorem c_X1_copyFrom (l : Launch) (D : va_G) (cy : Nat → ClassId) (B : Nat) (μ : ed_CM) (j : Nat) (hj : j < 7) (n0 : Nat) (h0 : n0 < 160) (n1 : Nat) (h1 : n1 < 160) (jo : Nat) (hjo : jo < 7) (hne : jo ≠ j) (τ : ed_SM) (hτ : μ jo = τ) (σ : ed_SM) (σ' : ed_SM) (hf : f_X1_copyFrom n0 n1 τ σ = some σ') :
    Met l yX1_copyFrom wsX1_copyFrom rmX1_copyFrom (ed_pC D cy (ed_P D cy B (ed_sJ μ j σ)) [.ref (B + ed_oF j 12 n0), .ref (B + ed_oF jo 12 n1)]) (ed_qV (ed_A B) (ed_P D cy B (ed_sJ μ j σ'))) 0 0 (ed_A B) := by
  refine Met.ofW (cc := cX1_copyFrom) (maxL := 2) (ret := none) (by decide) rfl ?_
  intro p e s m args below meth c s₁ B0 hml hv
  obtain ⟨rfl, hM, hK⟩ := hv
  have S : CallFix p m c cX1_copyFrom 2 s _ ed_ws RX1 := ⟨B0.exec, B0.bytes, hml, findClass_of_methodNamed B0.named, fun w hw => atoms_spec (ws := wsX1_copyFrom) B0.pre w (List.mem_cons_of_mem _ hw)⟩
  have hr := B0.returns
  have hlocks := B0.notSynchronized
  have hS : va_S (ed_A B) s.heap s.heap [] := va_S.rf
  have hl := lv_entry ([.ref (B + ed_oF j 12 n0), .ref (B + ed_oF jo 12 n1)]) (n := 2) (Nat.le_of_ble_eq_true rfl)
  rw [lg_entry_eq]
  generalize (lg_sl ([.ref (B + ed_oF j 12 n0), .ref (B + ed_oF jo 12 n1)]) ++ List.replicate (2 - (lg_sl ([.ref (B + ed_oF j 12 n0), .ref (B + ed_oF jo 12 n1)])).length) Slot.unset).toArray = ls at hl ⊢
  have hl : lv_has ls 2 [(0, .ref (B + ed_oF j 12 n0)), (1, .ref (B + ed_oF jo 12 n1))] := hl
  unfold f_X1_copyFrom at hf
  refine lv_aload_n S.1 S.2.1 dX1_copyFrom_0 rfl (lv_at hl 0 rfl) ?_
  refine lv_aload_n S.1 S.2.1 dX1_copyFrom_1 rfl (lv_at hl 1 rfl) ?_
  refine ed_get (r := (τ 12 n1)) S ed_uX1 hK hM (ed_v12 hjo h1) (ed_sJn μ σ hne hτ 12 n1) (ed_e12 cy B jo n1 _) rfl 0 (by decide) ed_w1_164 rfl rfl dX1_copyFrom_2 ?_
  refine ed_put (j := j) S ed_uX1 tyX1 tyX1_ok nmX1 hK hM hS (ed_v12 hj h0) (ed_e12 cy B j n0 _) rfl 0 (by decide) ed_w1_164 rfl rfl rfl rfl (Nat.le_of_ble_eq_true rfl) (ed_u12_0 cy B j n0 _ _) dX1_copyFrom_5 (fun H locs hM hS => ?_)
  obtain ⟨σ1, eσ1, hf⟩ := ed_t_e hf
  have hM : ed_P D cy B (ed_sJ μ j σ1) H := by rw [eσ1]; exact hM
  refine lv_aload_n S.1 S.2.1 dX1_copyFrom_8 rfl (lv_at hl 0 rfl) ?_
  refine lv_aload_n S.1 S.2.1 dX1_copyFrom_9 rfl (lv_at hl 1 rfl) ?_
  refine ed_get (r := (τ 12 n1)) S ed_uX1 hK hM (ed_v12 hjo h1) (ed_sJn μ σ1 hne hτ 12 n1) (ed_e12 cy B jo n1 _) rfl 1 (by decide) ed_w1_167 rfl rfl dX1_copyFrom_10 ?_
  refine ed_put (j := j) S ed_uX1 tyX1 tyX1_ok nmX1 hK hM hS (ed_v12 hj h0) (ed_e12 cy B j n0 _) rfl 1 (by decide) ed_w1_167 rfl rfl rfl rfl (Nat.le_of_ble_eq_true rfl) (ed_u12_1 cy B j n0 _ _) dX1_copyFrom_13 (fun H locs hM hS => ?_)
  obtain ⟨σ2, eσ2, hf⟩ := ed_t_e hf
  have hM : ed_P D cy B (ed_sJ μ j σ2) H := by rw [eσ2]; exact hM
  refine lv_aload_n S.1 S.2.1 dX1_copyFrom_16 rfl (lv_at hl 0 rfl) ?_
  refine lv_aload_n S.1 S.2.1 dX1_copyFrom_17 rfl (lv_at hl 1 rfl) ?_
  refine ed_get (r := (τ 12 n1)) S ed_uX1 hK hM (ed_v12 hjo h1) (ed_sJn μ σ2 hne hτ 12 n1) (ed_e12 cy B jo n1 _) rfl 2 (by decide) ed_w1_170 rfl rfl dX1_copyFrom_18 ?_
  refine ed_put (j := j) S ed_uX1 tyX1 tyX1_ok nmX1 hK hM hS (ed_v12 hj h0) (ed_e12 cy B j n0 _) rfl 2 (by decide) ed_w1_170 rfl rfl rfl rfl (Nat.le_of_ble_eq_true rfl) (ed_u12_2 cy B j n0 _ _) dX1_copyFrom_21 (fun H locs hM hS => ?_)
  obtain ⟨σ3, eσ3, hf⟩ := ed_t_e hf
  have hM : ed_P D cy B (ed_sJ μ j σ3) H := by rw [eσ3]; exact hM
  refine lv_aload_n S.1 S.2.1 dX1_copyFrom_24 rfl (lv_at hl 0 rfl) ?_
  refine lv_aload_n S.1 S.2.1 dX1_copyFrom_25 rfl (lv_at hl 1 rfl) ?_
  refine ed_get (r := (τ 12 n1)) S ed_uX1 hK hM (ed_v12 hjo h1) (ed_sJn μ σ3 hne hτ 12 n1) (ed_e12 cy B jo n1 _) rfl 3 (by decide) ed_w1_173 rfl rfl dX1_copyFrom_26 ?_
  refine ed_put (j := j) S ed_uX1 tyX1 tyX1_ok nmX1 hK hM hS (ed_v12 hj h0) (ed_e12 cy B j n0 _) rfl 3 (by decide) ed_w1_173 rfl rfl rfl rfl (Nat.le_of_ble_eq_true rfl) (ed_u12_3 cy B j n0 _ _) dX1_copyFrom_29 (fun H locs hM hS => ?_)
  obtain ⟨σ4, eσ4, hf⟩ := ed_t_e hf
  have hM : ed_P D cy B (ed_sJ μ j σ4) H := by rw [eσ4]; exact hM
  refine lv_aload_n S.1 S.2.1 dX1_copyFrom_32 rfl (lv_at hl 0 rfl) ?_
  refine lv_aload_n S.1 S.2.1 dX1_copyFrom_33 rfl (lv_at hl 1 rfl) ?_
  refine ed_get (r := (τ 12 n1)) S ed_uX1 hK hM (ed_v12 hjo h1) (ed_sJn μ σ4 hne hτ 12 n1) (ed_e12 cy B jo n1 _) rfl 4 (by decide) ed_w1_176 rfl rfl dX1_copyFrom_34 ?_
  refine ed_put (j := j) S ed_uX1 tyX1 tyX1_ok nmX1 hK hM hS (ed_v12 hj h0) (ed_e12 cy B j n0 _) rfl 4 (by decide) ed_w1_176 rfl rfl rfl rfl (Nat.le_of_ble_eq_true rfl) (ed_u12_4 cy B j n0 _ _) dX1_copyFrom_37 (fun H locs hM hS => ?_)
  obtain ⟨σ5, eσ5, hf⟩ := ed_t_e hf
  have hM : ed_P D cy B (ed_sJ μ j σ5) H := by rw [eσ5]; exact hM
  refine lv_aload_n S.1 S.2.1 dX1_copyFrom_40 rfl (lv_at hl 0 rfl) ?_
  refine lv_aload_n S.1 S.2.1 dX1_copyFrom_41 rfl (lv_at hl 1 rfl) ?_
  refine ed_get (r := (τ 12 n1)) S ed_uX1 hK hM (ed_v12 hjo h1) (ed_sJn μ σ5 hne hτ 12 n1) (ed_e12 cy B jo n1 _) rfl 5 (by decide) ed_w1_179 rfl rfl dX1_copyFrom_42 ?_
  refine ed_put (j := j) S ed_uX1 tyX1 tyX1_ok nmX1 hK hM hS (ed_v12 hj h0) (ed_e12 cy B j n0 _) rfl 5 (by decide) ed_w1_179 rfl rfl rfl rfl (Nat.le_of_ble_eq_true rfl) (ed_u12_5 cy B j n0 _ _) dX1_copyFrom_45 (fun H locs hM hS => ?_)
  obtain ⟨σ6, eσ6, hf⟩ := ed_t_e hf
  have hM : ed_P D cy B (ed_sJ μ j σ6) H := by rw [eσ6]; exact hM
  obtain rfl := Option.some.inj hf
  exact ed_rv S hr hlocks hM hS dX1_copyFrom_48
set_option maxHeartbeats 4000000 in
set_option maxRecDepth 100000 in
theorem c_X8_isPlace (l : Launch) (D : va_G) (cy : Nat → ClassId) (P : Heap → Prop) (A : Nat → Prop) (x0 x1 : Int32) :
    Met l yX8_isPlace wsX8_isPlace rmX8_isPlace (ed_pC D cy (P) [.int x0, .int x1]) (ed_qI A (P) (f_X8_isPlace x0 x1)) 0 0 A := by
  refine Met.ofW (cc := cX8_isPlace) (maxL := 2) (ret := (some .boolean)) (by decide) rfl ?_
  intro p e s m args below meth c s₁ B0 hml hv
  obtain ⟨rfl, hM, hK⟩ := hv
  have S : CallFix p m c cX8_isPlace 2 s _ ed_ws RX8 := ⟨B0.exec, B0.bytes, hml, findClass_of_methodNamed B0.named, fun w hw => atoms_spec (ws := wsX8_isPlace) B0.pre w (List.mem_cons_of_mem _ hw)⟩
  have hr := B0.returns
  have hlocks := B0.notSynchronized
  have hS : va_S A s.heap s.heap [] := va_S.rf
  have hl := lv_entry ([.int x0, .int x1]) (n := 2) (Nat.le_of_ble_eq_true rfl)
  rw [lg_entry_eq]
  generalize (lg_sl ([.int x0, .int x1]) ++ List.replicate (2 - (lg_sl ([.int x0, .int x1])).length) Slot.unset).toArray = ls at hl ⊢
  have hl : lv_has ls 2 [(0, .int x0), (1, .int x1)] := hl
  generalize hf : f_X8_isPlace x0 x1 = r
  unfold f_X8_isPlace at hf
  refine lv_iload_n S.1 S.2.1 dX8_isPlace_0 rfl (lv_at hl 0 rfl) ?_
  refine lv_if_lt (tgt := 13) S.1 S.2.1 dX8_isPlace_1 (by decide) (fun c1 => ?_) (fun c1 => ?_)
  · replace hf := ed_ip c1 hf
    refine lv_iconst (v := 0) S.1 S.2.1 dX8_isPlace_13 (by decide) ?_
    subst hf
    exact ed_rz S hr hlocks rfl hM hS dX8_isPlace_14
  · replace hf := ed_in_ c1 hf
    refine lv_iload_n S.1 S.2.1 dX8_isPlace_4 rfl (lv_at hl 0 rfl) ?_
    refine lv_iload_n S.1 S.2.1 dX8_isPlace_5 rfl (lv_at hl 1 rfl) ?_
    refine lv_icmp_ge (tgt := 13) S.1 S.2.1 dX8_isPlace_6 (by decide) (fun c2 => ?_) (fun c2 => ?_)
    · replace hf := ed_ip c2 hf
      refine lv_iconst (v := 0) S.1 S.2.1 dX8_isPlace_13 (by decide) ?_
      subst hf
      exact ed_rz S hr hlocks rfl hM hS dX8_isPlace_14
    · replace hf := ed_in_ c2 hf
      refine lv_iconst (v := 1) S.1 S.2.1 dX8_isPlace_9 (by decide) ?_
      refine lv_goto (tgt := 14) S.1 S.2.1 dX8_isPlace_10 (by decide) ?_
      subst hf
      exact ed_rz S hr hlocks rfl hM hS dX8_isPlace_14
set_option maxHeartbeats 4000000 in
set_option maxRecDepth 100000 in
theorem c_X3_copyFrom (l : Launch) (D : va_G) (cy : Nat → ClassId) (B : Nat) (μ : ed_CM) (j : Nat) (hj : j < 7) (jo : Nat) (hjo : jo < 7) (hne : jo ≠ j) (τ : ed_SM) (hτ : μ jo = τ) (σ : ed_SM) (σ' : ed_SM) (hf : f_X3_copyFrom τ σ = some σ') :
    Met l yX3_copyFrom wsX3_copyFrom rmX3_copyFrom (ed_pC D cy (ed_P D cy B (ed_sJ μ j σ)) [.ref (B + ed_oF j 1 0), .ref (B + ed_oF jo 1 0)]) (ed_qV (ed_A B) (ed_P D cy B (ed_sJ μ j σ'))) 0 0 (ed_A B) := by
  refine Met.ofW (cc := cX3_copyFrom) (maxL := 2) (ret := none) (by decide) rfl ?_
  intro p e s m args below meth c s₁ B0 hml hv
  obtain ⟨rfl, hM, hK⟩ := hv
  have S : CallFix p m c cX3_copyFrom 2 s _ ed_ws RX3 := ⟨B0.exec, B0.bytes, hml, findClass_of_methodNamed B0.named, fun w hw => atoms_spec (ws := wsX3_copyFrom) B0.pre w (List.mem_cons_of_mem _ hw)⟩
  have hr := B0.returns
  have hlocks := B0.notSynchronized
  have hS : va_S (ed_A B) s.heap s.heap [] := va_S.rf
  have hl := lv_entry ([.ref (B + ed_oF j 1 0), .ref (B + ed_oF jo 1 0)]) (n := 2) (Nat.le_of_ble_eq_true rfl)
  rw [lg_entry_eq]
  generalize (lg_sl ([.ref (B + ed_oF j 1 0), .ref (B + ed_oF jo 1 0)]) ++ List.replicate (2 - (lg_sl ([.ref (B + ed_oF j 1 0), .ref (B + ed_oF jo 1 0)])).length) Slot.unset).toArray = ls at hl ⊢
  have hl : lv_has ls 2 [(0, .ref (B + ed_oF j 1 0)), (1, .ref (B + ed_oF jo 1 0))] := hl
  unfold f_X3_copyFrom at hf
  refine lv_aload_n S.1 S.2.1 dX3_copyFrom_0 rfl (lv_at hl 1 rfl) ?_
  refine ed_get (r := (τ 1 0)) S ed_uX3 hK hM (ed_v0 hjo 1) (ed_sJn μ σ hne hτ 1 0) (ed_e1 cy B jo 0 _) rfl 0 (by decide) ed_w1_32 rfl rfl dX3_copyFrom_1 ?_
  refine lv_aload_n S.1 S.2.1 dX3_copyFrom_4 rfl (lv_at hl 0 rfl) ?_
  refine ed_get (r := (σ 1 0)) S ed_uX3 hK hM (ed_v0 hj 1) (ed_sJr μ j σ 1 0) (ed_e1 cy B j 0 _) rfl 0 (by decide) ed_w1_32 rfl rfl dX3_copyFrom_5 ?_
  refine ed_kV (ed_rN S hK hM (c_X8_copyRow _ D cy B μ j jo 48 2 0 2 0 (ed_v0 hjo 2) (ed_v0 hj 2) hne τ hτ (ed_e2 cy B jo 0) (ed_e2 cy B j 0) (by decide) σ) ⟨va_cnB 2 S.2.2.2.2 (ed_gA ed_w2_118) rfl rfl rfl (ed_n3 hK) (S.2.2.2.2 _ ed_w1_1) hn_X8_copyRow ⟨Nat.le_of_ble_eq_true rfl, Nat.le_of_ble_eq_true rfl⟩, S.2.2.2.2 _ ed_w2_117, trivial⟩ rfl hl.1 rfl (Nat.le_of_ble_eq_true rfl) dX3_copyFrom_8 ⟨Nat.zero_le _, Nat.zero_le _⟩) hS (fun H locs hM hS => ?_)
  obtain ⟨σ1, eσ1, hf⟩ := ed_t_e hf
  have hM : ed_P D cy B (ed_sJ μ j σ1) H := by rw [eσ1]; exact hM
  refine lv_aload_n S.1 S.2.1 dX3_copyFrom_11 rfl (lv_at hl 0 rfl) ?_
  refine lv_aload_n S.1 S.2.1 dX3_copyFrom_12 rfl (lv_at hl 1 rfl) ?_
  refine ed_get (r := (τ 1 0)) S ed_uX3 hK hM (ed_v0 hjo 1) (ed_sJn μ σ1 hne hτ 1 0) (ed_e1 cy B jo 0 _) rfl 1 (by decide) ed_w1_33 rfl rfl dX3_copyFrom_13 ?_
  refine ed_put (j := j) S ed_uX3 tyX3 tyX3_ok nmX3 hK hM hS (ed_v0 hj 1) (ed_e1 cy B j 0 _) rfl 1 (by decide) ed_w1_33 rfl rfl rfl rfl (Nat.le_of_ble_eq_true rfl) (ed_u1_1 cy B j 0 _ _) dX3_copyFrom_16 (fun H locs hM hS => ?_)
  obtain ⟨σ2, eσ2, hf⟩ := ed_t_e hf
  have hM : ed_P D cy B (ed_sJ μ j σ2) H := by rw [eσ2]; exact hM
  refine lv_aload_n S.1 S.2.1 dX3_copyFrom_19 rfl (lv_at hl 0 rfl) ?_
  refine lv_aload_n S.1 S.2.1 dX3_copyFrom_20 rfl (lv_at hl 1 rfl) ?_
  refine ed_get (r := (τ 1 0)) S ed_uX3 hK hM (ed_v0 hjo 1) (ed_sJn μ σ2 hne hτ 1 0) (ed_e1 cy B jo 0 _) rfl 2 (by decide) ed_w1_34 rfl rfl dX3_copyFrom_21 ?_
  refine ed_put (j := j) S ed_uX3 tyX3 tyX3_ok nmX3 hK hM hS (ed_v0 hj 1) (ed_e1 cy B j 0 _) rfl 2 (by decide) ed_w1_34 rfl rfl rfl rfl (Nat.le_of_ble_eq_true rfl) (ed_u1_2 cy B j 0 _ _) dX3_copyFrom_24 (fun H locs hM hS => ?_)
  obtain ⟨σ3, eσ3, hf⟩ := ed_t_e hf
  have hM : ed_P D cy B (ed_sJ μ j σ3) H := by rw [eσ3]; exact hM
  obtain rfl := Option.some.inj hf
  exact ed_rv S hr hlocks hM hS dX3_copyFrom_27
set_option maxHeartbeats 4000000 in
set_option maxRecDepth 100000 in
theorem c_X6_copyFrom (l : Launch) (D : va_G) (cy : Nat → ClassId) (B : Nat) (μ : ed_CM) (j : Nat) (hj : j < 7) (n0 : Nat) (h0 : n0 < 20) (n1 : Nat) (h1 : n1 < 20) (jo : Nat) (hjo : jo < 7) (hne : jo ≠ j) (τ : ed_SM) (hτ : μ jo = τ) (σ : ed_SM) (σ' : ed_SM) (hf : f_X6_copyFrom n0 n1 τ σ = some σ') :
    Met l yX6_copyFrom wsX6_copyFrom rmX6_copyFrom (ed_pC D cy (ed_P D cy B (ed_sJ μ j σ)) [.ref (B + ed_oF j 7 n0), .ref (B + ed_oF jo 7 n1)]) (ed_qV (ed_A B) (ed_P D cy B (ed_sJ μ j σ'))) 0 0 (ed_A B) := by
  refine Met.ofW (cc := cX6_copyFrom) (maxL := 2) (ret := none) (by decide) rfl ?_
  intro p e s m args below meth c s₁ B0 hml hv
  obtain ⟨rfl, hM, hK⟩ := hv
  have S : CallFix p m c cX6_copyFrom 2 s _ ed_ws RX6 := ⟨B0.exec, B0.bytes, hml, findClass_of_methodNamed B0.named, fun w hw => atoms_spec (ws := wsX6_copyFrom) B0.pre w (List.mem_cons_of_mem _ hw)⟩
  have hr := B0.returns
  have hlocks := B0.notSynchronized
  have hS : va_S (ed_A B) s.heap s.heap [] := va_S.rf
  have hl := lv_entry ([.ref (B + ed_oF j 7 n0), .ref (B + ed_oF jo 7 n1)]) (n := 2) (Nat.le_of_ble_eq_true rfl)
  rw [lg_entry_eq]
  generalize (lg_sl ([.ref (B + ed_oF j 7 n0), .ref (B + ed_oF jo 7 n1)]) ++ List.replicate (2 - (lg_sl ([.ref (B + ed_oF j 7 n0), .ref (B + ed_oF jo 7 n1)])).length) Slot.unset).toArray = ls at hl ⊢
  have hl : lv_has ls 2 [(0, .ref (B + ed_oF j 7 n0)), (1, .ref (B + ed_oF jo 7 n1))] := hl
  unfold f_X6_copyFrom at hf
  refine lv_aload_n S.1 S.2.1 dX6_copyFrom_0 rfl (lv_at hl 0 rfl) ?_
  refine lv_aload_n S.1 S.2.1 dX6_copyFrom_1 rfl (lv_at hl 1 rfl) ?_
  refine ed_get (r := (τ 7 n1)) S ed_uX6 hK hM (ed_v7 hjo h1 7) (ed_sJn μ σ hne hτ 7 n1) (ed_e7 cy B jo n1 _) rfl 0 (by decide) ed_w1_56 rfl rfl dX6_copyFrom_2 ?_
  refine ed_put (j := j) S ed_uX6 tyX6 tyX6_ok nmX6 hK hM hS (ed_v7 hj h0 7) (ed_e7 cy B j n0 _) rfl 0 (by decide) ed_w1_56 rfl rfl rfl rfl (Nat.le_of_ble_eq_true rfl) (ed_u7_0 cy B j n0 _ _) dX6_copyFrom_5 (fun H locs hM hS => ?_)
  obtain ⟨σ1, eσ1, hf⟩ := ed_t_e hf
  have hM : ed_P D cy B (ed_sJ μ j σ1) H := by rw [eσ1]; exact hM
  refine lv_aload_n S.1 S.2.1 dX6_copyFrom_8 rfl (lv_at hl 0 rfl) ?_
  refine lv_aload_n S.1 S.2.1 dX6_copyFrom_9 rfl (lv_at hl 1 rfl) ?_
  refine ed_get (r := (τ 7 n1)) S ed_uX6 hK hM (ed_v7 hjo h1 7) (ed_sJn μ σ1 hne hτ 7 n1) (ed_e7 cy B jo n1 _) rfl 1 (by decide) ed_w1_59 rfl rfl dX6_copyFrom_10 ?_
  refine ed_put (j := j) S ed_uX6 tyX6 tyX6_ok nmX6 hK hM hS (ed_v7 hj h0 7) (ed_e7 cy B j n0 _) rfl 1 (by decide) ed_w1_59 rfl rfl rfl rfl (Nat.le_of_ble_eq_true rfl) (ed_u7_1 cy B j n0 _ _) dX6_copyFrom_13 (fun H locs hM hS => ?_)
  obtain ⟨σ2, eσ2, hf⟩ := ed_t_e hf
  have hM : ed_P D cy B (ed_sJ μ j σ2) H := by rw [eσ2]; exact hM
  refine lv_aload_n S.1 S.2.1 dX6_copyFrom_16 rfl (lv_at hl 1 rfl) ?_
  refine ed_get (r := (τ 7 n1)) S ed_uX6 hK hM (ed_v7 hjo h1 7) (ed_sJn μ σ2 hne hτ 7 n1) (ed_e7 cy B jo n1 _) rfl 2 (by decide) ed_w1_62 rfl rfl dX6_copyFrom_17 ?_
  refine lv_aload_n S.1 S.2.1 dX6_copyFrom_20 rfl (lv_at hl 0 rfl) ?_
  refine ed_get (r := (σ2 7 n0)) S ed_uX6 hK hM (ed_v7 hj h0 7) (ed_sJr μ j σ2 7 n0) (ed_e7 cy B j n0 _) rfl 2 (by decide) ed_w1_62 rfl rfl dX6_copyFrom_21 ?_
  refine ed_kV (ed_rN S hK hM (c_X8_copyRow _ D cy B μ j jo 3 8 n1 8 n0 (ed_v7 hjo h1 8) (ed_v7 hj h0 8) hne τ hτ (ed_e8 cy B jo n1) (ed_e8 cy B j n0) (by decide) σ2) ⟨va_cnB 2 S.2.2.2.2 (ed_gA ed_w2_118) rfl rfl rfl (ed_n10 hK) (S.2.2.2.2 _ ed_w1_1) hn_X8_copyRow ⟨Nat.le_of_ble_eq_true rfl, Nat.le_of_ble_eq_true rfl⟩, S.2.2.2.2 _ ed_w2_117, trivial⟩ rfl hl.1 rfl (Nat.le_of_ble_eq_true rfl) dX6_copyFrom_24 ⟨Nat.zero_le _, Nat.zero_le _⟩) hS (fun H locs hM hS => ?_)
  obtain ⟨σ3, eσ3, hf⟩ := ed_t_e hf
  have hM : ed_P D cy B (ed_sJ μ j σ3) H := by rw [eσ3]; exact hM
  refine lv_aload_n S.1 S.2.1 dX6_copyFrom_27 rfl (lv_at hl 0 rfl) ?_
  refine lv_aload_n S.1 S.2.1 dX6_copyFrom_28 rfl (lv_at hl 1 rfl) ?_
  refine ed_get (r := (τ 7 n1)) S ed_uX6 hK hM (ed_v7 hjo h1 7) (ed_sJn μ σ3 hne hτ 7 n1) (ed_e7 cy B jo n1 _) rfl 3 (by decide) ed_w1_63 rfl rfl dX6_copyFrom_29 ?_
  refine ed_put (j := j) S ed_uX6 tyX6 tyX6_ok nmX6 hK hM hS (ed_v7 hj h0 7) (ed_e7 cy B j n0 _) rfl 3 (by decide) ed_w1_63 rfl rfl rfl rfl (Nat.le_of_ble_eq_true rfl) (ed_u7_3 cy B j n0 _ _) dX6_copyFrom_32 (fun H locs hM hS => ?_)
  obtain ⟨σ4, eσ4, hf⟩ := ed_t_e hf
  have hM : ed_P D cy B (ed_sJ μ j σ4) H := by rw [eσ4]; exact hM
  refine lv_aload_n S.1 S.2.1 dX6_copyFrom_35 rfl (lv_at hl 0 rfl) ?_
  refine lv_aload_n S.1 S.2.1 dX6_copyFrom_36 rfl (lv_at hl 1 rfl) ?_
  refine ed_get (r := (τ 7 n1)) S ed_uX6 hK hM (ed_v7 hjo h1 7) (ed_sJn μ σ4 hne hτ 7 n1) (ed_e7 cy B jo n1 _) rfl 4 (by decide) ed_w1_66 rfl rfl dX6_copyFrom_37 ?_
  refine ed_put (j := j) S ed_uX6 tyX6 tyX6_ok nmX6 hK hM hS (ed_v7 hj h0 7) (ed_e7 cy B j n0 _) rfl 4 (by decide) ed_w1_66 rfl rfl rfl rfl (Nat.le_of_ble_eq_true rfl) (ed_u7_4 cy B j n0 _ _) dX6_copyFrom_40 (fun H locs hM hS => ?_)
  obtain ⟨σ5, eσ5, hf⟩ := ed_t_e hf
  have hM : ed_P D cy B (ed_sJ μ j σ5) H := by rw [eσ5]; exact hM
  refine lv_aload_n S.1 S.2.1 dX6_copyFrom_43 rfl (lv_at hl 1 rfl) ?_
  refine ed_get (r := (τ 7 n1)) S ed_uX6 hK hM (ed_v7 hjo h1 7) (ed_sJn μ σ5 hne hτ 7 n1) (ed_e7 cy B jo n1 _) rfl 5 (by decide) ed_w1_68 rfl rfl dX6_copyFrom_44 ?_
  refine lv_aload_n S.1 S.2.1 dX6_copyFrom_47 rfl (lv_at hl 0 rfl) ?_
  refine ed_get (r := (σ5 7 n0)) S ed_uX6 hK hM (ed_v7 hj h0 7) (ed_sJr μ j σ5 7 n0) (ed_e7 cy B j n0 _) rfl 5 (by decide) ed_w1_68 rfl rfl dX6_copyFrom_48 ?_
  refine ed_kV (ed_rN S hK hM (c_X8_copyRow _ D cy B μ j jo 12 9 n1 9 n0 (ed_v7 hjo h1 9) (ed_v7 hj h0 9) hne τ hτ (ed_e9 cy B jo n1) (ed_e9 cy B j n0) (by decide) σ5) ⟨va_cnB 2 S.2.2.2.2 (ed_gA ed_w2_118) rfl rfl rfl (ed_n10 hK) (S.2.2.2.2 _ ed_w1_1) hn_X8_copyRow ⟨Nat.le_of_ble_eq_true rfl, Nat.le_of_ble_eq_true rfl⟩, S.2.2.2.2 _ ed_w2_117, trivial⟩ rfl hl.1 rfl (Nat.le_of_ble_eq_true rfl) dX6_copyFrom_51 ⟨Nat.zero_le _, Nat.zero_le _⟩) hS (fun H locs hM hS => ?_)
  obtain ⟨σ6, eσ6, hf⟩ := ed_t_e hf
  have hM : ed_P D cy B (ed_sJ μ j σ6) H := by rw [eσ6]; exact hM
  refine lv_aload_n S.1 S.2.1 dX6_copyFrom_54 rfl (lv_at hl 0 rfl) ?_
  refine lv_aload_n S.1 S.2.1 dX6_copyFrom_55 rfl (lv_at hl 1 rfl) ?_
  refine ed_get (r := (τ 7 n1)) S ed_uX6 hK hM (ed_v7 hjo h1 7) (ed_sJn μ σ6 hne hτ 7 n1) (ed_e7 cy B jo n1 _) rfl 6 (by decide) ed_w1_69 rfl rfl dX6_copyFrom_56 ?_
  refine ed_put (j := j) S ed_uX6 tyX6 tyX6_ok nmX6 hK hM hS (ed_v7 hj h0 7) (ed_e7 cy B j n0 _) rfl 6 (by decide) ed_w1_69 rfl rfl rfl rfl (Nat.le_of_ble_eq_true rfl) (ed_u7_6 cy B j n0 _ _) dX6_copyFrom_59 (fun H locs hM hS => ?_)
  obtain ⟨σ7, eσ7, hf⟩ := ed_t_e hf
  have hM : ed_P D cy B (ed_sJ μ j σ7) H := by rw [eσ7]; exact hM
  refine lv_aload_n S.1 S.2.1 dX6_copyFrom_62 rfl (lv_at hl 0 rfl) ?_
  refine lv_aload_n S.1 S.2.1 dX6_copyFrom_63 rfl (lv_at hl 1 rfl) ?_
  refine ed_get (r := (τ 7 n1)) S ed_uX6 hK hM (ed_v7 hjo h1 7) (ed_sJn μ σ7 hne hτ 7 n1) (ed_e7 cy B jo n1 _) rfl 7 (by decide) ed_w1_72 rfl rfl dX6_copyFrom_64 ?_
  refine ed_put (j := j) S ed_uX6 tyX6 tyX6_ok nmX6 hK hM hS (ed_v7 hj h0 7) (ed_e7 cy B j n0 _) rfl 7 (by decide) ed_w1_72 rfl rfl rfl rfl (Nat.le_of_ble_eq_true rfl) (ed_u7_7 cy B j n0 _ _) dX6_copyFrom_67 (fun H locs hM hS => ?_)
  obtain ⟨σ8, eσ8, hf⟩ := ed_t_e hf
  have hM : ed_P D cy B (ed_sJ μ j σ8) H := by rw [eσ8]; exact hM
  refine lv_aload_n S.1 S.2.1 dX6_copyFrom_70 rfl (lv_at hl 1 rfl) ?_
  refine ed_get (r := (τ 7 n1)) S ed_uX6 hK hM (ed_v7 hjo h1 7) (ed_sJn μ σ8 hne hτ 7 n1) (ed_e7 cy B jo n1 _) rfl 8 (by decide) ed_w1_75 rfl rfl dX6_copyFrom_71 ?_
  refine lv_aload_n S.1 S.2.1 dX6_copyFrom_74 rfl (lv_at hl 0 rfl) ?_
  refine ed_get (r := (σ8 7 n0)) S ed_uX6 hK hM (ed_v7 hj h0 7) (ed_sJr μ j σ8 7 n0) (ed_e7 cy B j n0 _) rfl 8 (by decide) ed_w1_75 rfl rfl dX6_copyFrom_75 ?_
  refine ed_kV (ed_rN S hK hM (c_X8_copyRow _ D cy B μ j jo 6 10 n1 10 n0 (ed_v7 hjo h1 10) (ed_v7 hj h0 10) hne τ hτ (ed_e10 cy B jo n1) (ed_e10 cy B j n0) (by decide) σ8) ⟨va_cnB 2 S.2.2.2.2 (ed_gA ed_w2_118) rfl rfl rfl (ed_n10 hK) (S.2.2.2.2 _ ed_w1_1) hn_X8_copyRow ⟨Nat.le_of_ble_eq_true rfl, Nat.le_of_ble_eq_true rfl⟩, S.2.2.2.2 _ ed_w2_117, trivial⟩ rfl hl.1 rfl (Nat.le_of_ble_eq_true rfl) dX6_copyFrom_78 ⟨Nat.zero_le _, Nat.zero_le _⟩) hS (fun H locs hM hS => ?_)
  obtain ⟨σ9, eσ9, hf⟩ := ed_t_e hf
  have hM : ed_P D cy B (ed_sJ μ j σ9) H := by rw [eσ9]; exact hM
  refine lv_aload_n S.1 S.2.1 dX6_copyFrom_81 rfl (lv_at hl 0 rfl) ?_
  refine lv_aload_n S.1 S.2.1 dX6_copyFrom_82 rfl (lv_at hl 1 rfl) ?_
  refine ed_get (r := (τ 7 n1)) S ed_uX6 hK hM (ed_v7 hjo h1 7) (ed_sJn μ σ9 hne hτ 7 n1) (ed_e7 cy B jo n1 _) rfl 9 (by decide) ed_w1_76 rfl rfl dX6_copyFrom_83 ?_
  refine ed_put (j := j) S ed_uX6 tyX6 tyX6_ok nmX6 hK hM hS (ed_v7 hj h0 7) (ed_e7 cy B j n0 _) rfl 9 (by decide) ed_w1_76 rfl rfl rfl rfl (Nat.le_of_ble_eq_true rfl) (ed_u7_9 cy B j n0 _ _) dX6_copyFrom_86 (fun H locs hM hS => ?_)
  obtain ⟨σ10, eσ10, hf⟩ := ed_t_e hf
  have hM : ed_P D cy B (ed_sJ μ j σ10) H := by rw [eσ10]; exact hM
  refine lv_aload_n S.1 S.2.1 dX6_copyFrom_89 rfl (lv_at hl 0 rfl) ?_
  refine lv_aload_n S.1 S.2.1 dX6_copyFrom_90 rfl (lv_at hl 1 rfl) ?_
  refine ed_get (r := (τ 7 n1)) S ed_uX6 hK hM (ed_v7 hjo h1 7) (ed_sJn μ σ10 hne hτ 7 n1) (ed_e7 cy B jo n1 _) rfl 10 (by decide) ed_w1_79 rfl rfl dX6_copyFrom_91 ?_
  refine ed_put (j := j) S ed_uX6 tyX6 tyX6_ok nmX6 hK hM hS (ed_v7 hj h0 7) (ed_e7 cy B j n0 _) rfl 10 (by decide) ed_w1_79 rfl rfl rfl rfl (Nat.le_of_ble_eq_true rfl) (ed_u7_10 cy B j n0 _ _) dX6_copyFrom_94 (fun H locs hM hS => ?_)
  obtain ⟨σ11, eσ11, hf⟩ := ed_t_e hf
  have hM : ed_P D cy B (ed_sJ μ j σ11) H := by rw [eσ11]; exact hM
  obtain rfl := Option.some.inj hf
  exact ed_rv S hr hlocks hM hS dX6_copyFrom_97
set_option maxHeartbeats 4000000 in
set_option maxRecDepth 100000 in
theorem c_X3_add (l : Launch) (D : va_G) (cy : Nat → ClassId) (B : Nat) (μ : ed_CM) (j : Nat) (hj : j < 7) (x1 x2 x3 x4 : Int32) (σ : ed_SM) (σ' : ed_SM) (hf : f_X3_add x1 x2 x3 x4 σ = some σ') :
    Met l yX3_add wsX3_add rmX3_add (ed_pC D cy (ed_P D cy B (ed_sJ μ j σ)) [.ref (B + ed_oF j 1 0), .int x1, .int x2, .int x3, .int x4]) (ed_qV (ed_A B) (ed_P D cy B (ed_sJ μ j σ'))) 0 0 (ed_A B) := by
  refine Met.ofW (cc := cX3_add) (maxL := 6) (ret := none) (by decide) rfl ?_
  intro p e s m args below meth c s₁ B0 hml hv
  obtain ⟨rfl, hM, hK⟩ := hv
  have S : CallFix p m c cX3_add 6 s _ ed_ws RX3 := ⟨B0.exec, B0.bytes, hml, findClass_of_methodNamed B0.named, fun w hw => atoms_spec (ws := wsX3_add) B0.pre w (List.mem_cons_of_mem _ hw)⟩
  have hr := B0.returns
  have hlocks := B0.notSynchronized
  have hS : va_S (ed_A B) s.heap s.heap [] := va_S.rf
  have hl := lv_entry ([.ref (B + ed_oF j 1 0), .int x1, .int x2, .int x3, .int x4]) (n := 6) (Nat.le_of_ble_eq_true rfl)
  rw [lg_entry_eq]
  generalize (lg_sl ([.ref (B + ed_oF j 1 0), .int x1, .int x2, .int x3, .int x4]) ++ List.replicate (6 - (lg_sl ([.ref (B + ed_oF j 1 0), .int x1, .int x2, .int x3, .int x4])).length) Slot.unset).toArray = ls at hl ⊢
  have hl : lv_has ls 6 [(0, .ref (B + ed_oF j 1 0)), (1, .int x1), (2, .int x2), (3, .int x3), (4, .int x4)] := hl
  unfold f_X3_add at hf
  refine lv_aload_n S.1 S.2.1 dX3_add_0 rfl (lv_at hl 0 rfl) ?_
  refine lv_aload_n S.1 S.2.1 dX3_add_1 rfl (lv_at hl 0 rfl) ?_
  refine ed_get (r := (σ 1 0)) S ed_uX3 hK hM (ed_v0 hj 1) (ed_sJr μ j σ 1 0) (ed_e1 cy B j 0 _) rfl 1 (by decide) ed_w1_33 rfl rfl dX3_add_2 ?_
  refine lv_iconst (v := 1) S.1 S.2.1 dX3_add_5 (by decide) ?_
  refine lv_iadd S.1 S.2.1 dX3_add_6 ?_
  refine lv_bipush (v := 12) S.1 S.2.1 dX3_add_7 (by decide) ?_
  refine lv_irem S.1 S.2.1 dX3_add_9 (by decide) ?_
  refine ed_put (j := j) S ed_uX3 tyX3 tyX3_ok nmX3 hK hM hS (ed_v0 hj 1) (ed_e1 cy B j 0 _) rfl 1 (by decide) ed_w1_33 rfl rfl rfl rfl (Nat.le_of_ble_eq_true rfl) (ed_u1_1 cy B j 0 _ _) dX3_add_10 (fun H locs hM hS => ?_)
  obtain ⟨σ1, eσ1, hf⟩ := ed_t_e hf
  have hM : ed_P D cy B (ed_sJ μ j σ1) H := by rw [eσ1]; exact hM
  refine lv_aload_n S.1 S.2.1 dX3_add_13 rfl (lv_at hl 0 rfl) ?_
  refine lv_aload_n S.1 S.2.1 dX3_add_14 rfl (lv_at hl 0 rfl) ?_
  refine ed_get (r := (σ1 1 0)) S ed_uX3 hK hM (ed_v0 hj 1) (ed_sJr μ j σ1 1 0) (ed_e1 cy B j 0 _) rfl 2 (by decide) ed_w1_34 rfl rfl dX3_add_15 ?_
  refine lv_iconst (v := 1) S.1 S.2.1 dX3_add_18 (by decide) ?_
  refine lv_iadd S.1 S.2.1 dX3_add_19 ?_
  refine lv_bipush (v := 12) S.1 S.2.1 dX3_add_20 (by decide) ?_
  refine ed_min S hl.1 ed_w3_21 ed_w2_120 ed_w1_10 ed_w2_121 (Nat.le_of_ble_eq_true rfl) (Nat.le_of_ble_eq_true rfl) ⟨Nat.zero_le _, Nat.zero_le _⟩ dX3_add_22 ?_
  refine ed_put (j := j) S ed_uX3 tyX3 tyX3_ok nmX3 hK hM hS (ed_v0 hj 1) (ed_e1 cy B j 0 _) rfl 2 (by decide) ed_w1_34 rfl rfl rfl rfl (Nat.le_of_ble_eq_true rfl) (ed_u1_2 cy B j 0 _ _) dX3_add_25 (fun H locs hM hS => ?_)
  obtain ⟨σ2, eσ2, hf⟩ := ed_t_e hf
  have hM : ed_P D cy B (ed_sJ μ j σ2) H := by rw [eσ2]; exact hM
  refine lv_aload_n S.1 S.2.1 dX3_add_28 rfl (lv_at hl 0 rfl) ?_
  refine ed_get (r := (σ2 1 0)) S ed_uX3 hK hM (ed_v0 hj 1) (ed_sJr μ j σ2 1 0) (ed_e1 cy B j 0 _) rfl 1 (by decide) ed_w1_33 rfl rfl dX3_add_29 ?_
  refine lv_iconst (v := 4) S.1 S.2.1 dX3_add_32 (by decide) ?_
  refine lv_imul S.1 S.2.1 dX3_add_33 ?_
  refine lv_istore (lv' := [(5, .int ((σ2 1 0 1) * 4)), (0, .ref (B + ed_oF j 1 0)), (1, .int x1), (2, .int x2), (3, .int x3), (4, .int x4)]) S.1 S.2.1 dX3_add_34 hl (by decide) rfl (fun ls hl => ?_)
  refine lv_iload S.1 S.2.1 dX3_add_36 (lv_at hl 0 rfl) ?_
  refine lv_aload_n S.1 S.2.1 dX3_add_38 rfl (lv_at hl 1 rfl) ?_
  refine ed_get (r := (σ2 1 0)) S ed_uX3 hK hM (ed_v0 hj 1) (ed_sJr μ j σ2 1 0) (ed_e1 cy B j 0 _) rfl 0 (by decide) ed_w1_32 rfl rfl dX3_add_39 ?_
  refine ed_len (r := (σ2 2 0)) (v := 48) (ty := .int) (t := 0) S hK hM (ed_v0 hj 2) (ed_sJr μ j σ2 2 0) (ed_e2 cy B j 0 _) rfl (by decide) dX3_add_42 ?_
  refine lv_iconst (v := 4) S.1 S.2.1 dX3_add_43 (by decide) ?_
  refine lv_isub S.1 S.2.1 dX3_add_44 ?_
  refine lv_iconst (v := 1) S.1 S.2.1 dX3_add_45 (by decide) ?_
  refine lv_iadd S.1 S.2.1 dX3_add_46 ?_
  refine ed_kI (ed_rN S hK hM (c_X8_isPlace _ D cy (ed_P D cy B (ed_sJ μ j σ2)) (ed_A B) ((σ2 1 0 1) * 4) ((48 - 4) + 1)) ⟨va_cnB 2 S.2.2.2.2 (ed_gA ed_w2_107) rfl rfl rfl (ed_n2 hK) (S.2.2.2.2 _ ed_w1_1) hn_X8_isPlace ⟨Nat.le_of_ble_eq_true rfl, Nat.le_of_ble_eq_true rfl⟩, S.2.2.2.2 _ ed_w2_106, trivial⟩ rfl hl.1 rfl (Nat.le_of_ble_eq_true rfl) dX3_add_47 ⟨Nat.zero_le _, Nat.zero_le _⟩) hS (fun H locs hM hS => ?_)
  refine lv_if_eq (tgt := 92) S.1 S.2.1 dX3_add_50 (by decide) (fun c4 => ?_) (fun c4 => ?_)
  · replace hf := ed_ip c4 hf
    obtain rfl := Option.some.inj hf
    exact ed_rv S hr hlocks hM hS dX3_add_92
  · replace hf := ed_in_ c4 hf
    refine lv_aload_n S.1 S.2.1 dX3_add_53 rfl (lv_at hl 1 rfl) ?_
    refine ed_get (r := (σ2 1 0)) S ed_uX3 hK hM (ed_v0 hj 1) (ed_sJr μ j σ2 1 0) (ed_e1 cy B j 0 _) rfl 0 (by decide) ed_w1_32 rfl rfl dX3_add_54 ?_
    refine lv_iload S.1 S.2.1 dX3_add_57 (lv_at hl 0 rfl) ?_
    refine lv_iload_n S.1 S.2.1 dX3_add_59 rfl (lv_at hl 2 rfl) ?_
    obtain ⟨hx5, hf⟩ := ed_g_e hf
    refine ed_ist (j := j) S hK hM hS (ed_v0 hj 2) (ed_e2 cy B j 0) hx5 dX3_add_60 (fun H locs hM hS => ?_)
    obtain ⟨σ6, eσ6, hf⟩ := ed_t_e hf
    have hM : ed_P D cy B (ed_sJ μ j σ6) H := by rw [eσ6]; exact hM
    refine lv_aload_n S.1 S.2.1 dX3_add_61 rfl (lv_at hl 1 rfl) ?_
    refine ed_get (r := (σ6 1 0)) S ed_uX3 hK hM (ed_v0 hj 1) (ed_sJr μ j σ6 1 0) (ed_e1 cy B j 0 _) rfl 0 (by decide) ed_w1_32 rfl rfl dX3_add_62 ?_
    refine lv_iload S.1 S.2.1 dX3_add_65 (lv_at hl 0 rfl) ?_
    refine lv_iconst (v := 1) S.1 S.2.1 dX3_add_67 (by decide) ?_
    refine lv_iadd S.1 S.2.1 dX3_add_68 ?_
    refine lv_iload_n S.1 S.2.1 dX3_add_69 rfl (lv_at hl 3 rfl) ?_
    obtain ⟨hx7, hf⟩ := ed_g_e hf
    refine ed_ist (j := j) S hK hM hS (ed_v0 hj 2) (ed_e2 cy B j 0) hx7 dX3_add_70 (fun H locs hM hS => ?_)
    obtain ⟨σ8, eσ8, hf⟩ := ed_t_e hf
    have hM : ed_P D cy B (ed_sJ μ j σ8) H := by rw [eσ8]; exact hM
    refine lv_aload_n S.1 S.2.1 dX3_add_71 rfl (lv_at hl 1 rfl) ?_
    refine ed_get (r := (σ8 1 0)) S ed_uX3 hK hM (ed_v0 hj 1) (ed_sJr μ j σ8 1 0) (ed_e1 cy B j 0 _) rfl 0 (by decide) ed_w1_32 rfl rfl dX3_add_72 ?_
    refine lv_iload S.1 S.2.1 dX3_add_75 (lv_at hl 0 rfl) ?_
    refine lv_iconst (v := 2) S.1 S.2.1 dX3_add_77 (by decide) ?_
    refine lv_iadd S.1 S.2.1 dX3_add_78 ?_
    refine lv_iload_n S.1 S.2.1 dX3_add_79 rfl (lv_at hl 4 rfl) ?_
    obtain ⟨hx9, hf⟩ := ed_g_e hf
    refine ed_ist (j := j) S hK hM hS (ed_v0 hj 2) (ed_e2 cy B j 0) hx9 dX3_add_80 (fun H locs hM hS => ?_)
    obtain ⟨σ10, eσ10, hf⟩ := ed_t_e hf
    have hM : ed_P D cy B (ed_sJ μ j σ10) H := by rw [eσ10]; exact hM
    refine lv_aload_n S.1 S.2.1 dX3_add_81 rfl (lv_at hl 1 rfl) ?_
    refine ed_get (r := (σ10 1 0)) S ed_uX3 hK hM (ed_v0 hj 1) (ed_sJr μ j σ10 1 0) (ed_e1 cy B j 0 _) rfl 0 (by decide) ed_w1_32 rfl rfl dX3_add_82 ?_
    refine lv_iload S.1 S.2.1 dX3_add_85 (lv_at hl 0 rfl) ?_
    refine lv_iconst (v := 3) S.1 S.2.1 dX3_add_87 (by decide) ?_
    refine lv_iadd S.1 S.2.1 dX3_add_88 ?_
    refine lv_iload S.1 S.2.1 dX3_add_89 (lv_at hl 5 rfl) ?_
    obtain ⟨hx11, hf⟩ := ed_g_e hf
    refine ed_ist (j := j) S hK hM hS (ed_v0 hj 2) (ed_e2 cy B j 0) hx11 dX3_add_91 (fun H locs hM hS => ?_)
    obtain ⟨σ12, eσ12, hf⟩ := ed_t_e hf
    have hM : ed_P D cy B (ed_sJ μ j σ12) H := by rw [eσ12]; exact hM
    obtain rfl := Option.some.inj hf
    exact ed_rv S hr hlocks hM hS dX3_add_92
set_option maxHeartbeats 4000000 in
set_option maxRecDepth 100000 in
theorem c_X4_addShare (l : Launch) (D : va_G) (cy : Nat → ClassId) (B : Nat) (μ : ed_CM) (j : Nat) (hj : j < 7) (n0 : Nat) (h0 : n0 < 10) (x1 : Int32) (σ : ed_SM) (σ' : ed_SM) (hf : f_X4_addShare n0 x1 σ = some σ') :
    Met l yX4_addShare wsX4_addShare rmX4_addShare (ed_pC D cy (ed_P D cy B (ed_sJ μ j σ)) [.ref (B + ed_oF j 13 n0), .int x1]) (ed_qV (ed_A B) (ed_P D cy B (ed_sJ μ j σ'))) 0 0 (ed_A B) := by
  refine Met.ofW (cc := cX4_addShare) (maxL := 2) (ret := none) (by decide) rfl ?_
  intro p e s m args below meth c s₁ B0 hml hv
  obtain ⟨rfl, hM, hK⟩ := hv
  have S : CallFix p m c cX4_addShare 2 s _ ed_ws RX4 := ⟨B0.exec, B0.bytes, hml, findClass_of_methodNamed B0.named, fun w hw => atoms_spec (ws := wsX4_addShare) B0.pre w (List.mem_cons_of_mem _ hw)⟩
  have hr := B0.returns
  have hlocks := B0.notSynchronized
  have hS : va_S (ed_A B) s.heap s.heap [] := va_S.rf
  have hl := lv_entry ([.ref (B + ed_oF j 13 n0), .int x1]) (n := 2) (Nat.le_of_ble_eq_true rfl)
  rw [lg_entry_eq]
  generalize (lg_sl ([.ref (B + ed_oF j 13 n0), .int x1]) ++ List.replicate (2 - (lg_sl ([.ref (B + ed_oF j 13 n0), .int x1])).length) Slot.unset).toArray = ls at hl ⊢
  have hl : lv_has ls 2 [(0, .ref (B + ed_oF j 13 n0)), (1, .int x1)] := hl
  unfold f_X4_addShare at hf
  refine lv_aload_n S.1 S.2.1 dX4_addShare_0 rfl (lv_at hl 0 rfl) ?_
  refine ed_get (r := (σ 13 n0)) S ed_uX4 hK hM (ed_v13 hj h0) (ed_sJr μ j σ 13 n0) (ed_e13 cy B j n0 _) rfl 0 (by decide) ed_w1_200 rfl rfl dX4_addShare_1 ?_
  refine lv_i2l S.1 S.2.1 dX4_addShare_4 rfl ?_
  refine lv_iload_n S.1 S.2.1 dX4_addShare_5 rfl (lv_at hl 1 rfl) ?_
  refine lv_i2l S.1 S.2.1 dX4_addShare_6 rfl ?_
  refine lv_ladd S.1 S.2.1 dX4_addShare_7 ?_
  refine lv_ldc2 (v := 2147483647) S.1 S.2.1 S.2.2.2.1 (S.2.2.2.2 _ ed_w3_66) dX4_addShare_8 ?_
  refine W.lcmp S.1 S.2.1 dX4_addShare_11 ?_
  refine lv_if_le (tgt := 28) S.1 S.2.1 dX4_addShare_12 (by decide) (fun c1 => ?_) (fun c1 => ?_)
  · replace hf := ed_ip c1 hf
    refine lv_aload_n S.1 S.2.1 dX4_addShare_28 rfl (lv_at hl 0 rfl) ?_
    refine lv_dup S.1 S.2.1 dX4_addShare_29 rfl ?_
    refine ed_get (r := (σ 13 n0)) S ed_uX4 hK hM (ed_v13 hj h0) (ed_sJr μ j σ 13 n0) (ed_e13 cy B j n0 _) rfl 0 (by decide) ed_w1_200 rfl rfl dX4_addShare_30 ?_
    refine lv_iload_n S.1 S.2.1 dX4_addShare_33 rfl (lv_at hl 1 rfl) ?_
    refine lv_iadd S.1 S.2.1 dX4_addShare_34 ?_
    refine ed_put (j := j) S ed_uX4 tyX4 tyX4_ok nmX4 hK hM hS (ed_v13 hj h0) (ed_e13 cy B j n0 _) rfl 0 (by decide) ed_w1_200 rfl rfl rfl rfl (Nat.le_of_ble_eq_true rfl) (ed_u13_0 cy B j n0 _ _) dX4_addShare_35 (fun H locs hM hS => ?_)
    obtain ⟨σ2, eσ2, hf⟩ := ed_t_e hf
    have hM : ed_P D cy B (ed_sJ μ j σ2) H := by rw [eσ2]; exact hM
    obtain rfl := Option.some.inj hf
    exact ed_rv S hr hlocks hM hS dX4_addShare_38
  · replace hf := ed_in_ c1 hf
    refine lv_aload_n S.1 S.2.1 dX4_addShare_15 rfl (lv_at hl 0 rfl) ?_
    refine lv_dup S.1 S.2.1 dX4_addShare_16 rfl ?_
    refine ed_get (r := (σ 13 n0)) S ed_uX4 hK hM (ed_v13 hj h0) (ed_sJr μ j σ 13 n0) (ed_e13 cy B j n0 _) rfl 1 (by decide) ed_w1_203 rfl rfl dX4_addShare_17 ?_
    refine lv_iconst (v := 1) S.1 S.2.1 dX4_addShare_20 (by decide) ?_
    refine lv_iadd S.1 S.2.1 dX4_addShare_21 ?_
    refine ed_put (j := j) S ed_uX4 tyX4 tyX4_ok nmX4 hK hM hS (ed_v13 hj h0) (ed_e13 cy B j n0 _) rfl 1 (by decide) ed_w1_203 rfl rfl rfl rfl (Nat.le_of_ble_eq_true rfl) (ed_u13_1 cy B j n0 _ _) dX4_addShare_22 (fun H locs hM hS => ?_)
    obtain ⟨σ3, eσ3, hf⟩ := ed_t_e hf
    have hM : ed_P D cy B (ed_sJ μ j σ3) H := by rw [eσ3]; exact hM
    refine lv_goto (tgt := 38) S.1 S.2.1 dX4_addShare_25 (by decide) ?_
    obtain rfl := Option.some.inj hf
    exact ed_rv S hr hlocks hM hS dX4_addShare_38
set_option maxHeartbeats 4000000 in
set_option maxRecDepth 100000 in
theorem c_X6_authorAt (l : Launch) (D : va_G) (cy : Nat → ClassId) (B : Nat) (μ : ed_CM) (j : Nat) (hj : j < 7) (n0 : Nat) (h0 : n0 < 20) (x1 : Int32) (σ : ed_SM) (r : Int32) (hf : f_X6_authorAt n0 x1 σ = some r) :
    Met l yX6_authorAt wsX6_authorAt rmX6_authorAt (ed_pC D cy (ed_P D cy B (ed_sJ μ j σ)) [.ref (B + ed_oF j 7 n0), .int x1]) (ed_qI (ed_A B) (ed_P D cy B (ed_sJ μ j σ)) r) 0 0 (ed_A B) := by
  refine Met.ofW (cc := cX6_authorAt) (maxL := 2) (ret := (some .int)) (by decide) rfl ?_
  intro p e s m args below meth c s₁ B0 hml hv
  obtain ⟨rfl, hM, hK⟩ := hv
  have S : CallFix p m c cX6_authorAt 2 s _ ed_ws RX6 := ⟨B0.exec, B0.bytes, hml, findClass_of_methodNamed B0.named, fun w hw => atoms_spec (ws := wsX6_authorAt) B0.pre w (List.mem_cons_of_mem _ hw)⟩
  have hr := B0.returns
  have hlocks := B0.notSynchronized
  have hS : va_S (ed_A B) s.heap s.heap [] := va_S.rf
  have hl := lv_entry ([.ref (B + ed_oF j 7 n0), .int x1]) (n := 2) (Nat.le_of_ble_eq_true rfl)
  rw [lg_entry_eq]
  generalize (lg_sl ([.ref (B + ed_oF j 7 n0), .int x1]) ++ List.replicate (2 - (lg_sl ([.ref (B + ed_oF j 7 n0), .int x1])).length) Slot.unset).toArray = ls at hl ⊢
  have hl : lv_has ls 2 [(0, .ref (B + ed_oF j 7 n0)), (1, .int x1)] := hl
  unfold f_X6_authorAt at hf
  refine lv_iload_n S.1 S.2.1 dX6_authorAt_0 rfl (lv_at hl 1 rfl) ?_
  refine lv_aload_n S.1 S.2.1 dX6_authorAt_1 rfl (lv_at hl 0 rfl) ?_
  refine ed_get (r := (σ 7 n0)) S ed_uX6 hK hM (ed_v7 hj h0 7) (ed_sJr μ j σ 7 n0) (ed_e7 cy B j n0 _) rfl 1 (by decide) ed_w1_59 rfl rfl dX6_authorAt_2 ?_
  refine lv_aload_n S.1 S.2.1 dX6_authorAt_5 rfl (lv_at hl 0 rfl) ?_
  refine ed_get (r := (σ 7 n0)) S ed_uX6 hK hM (ed_v7 hj h0 7) (ed_sJr μ j σ 7 n0) (ed_e7 cy B j n0 _) rfl 2 (by decide) ed_w1_62 rfl rfl dX6_authorAt_6 ?_
  refine ed_len (r := (σ 8 n0)) (v := 3) (ty := .int) (t := 0) S hK hM (ed_v7 hj h0 8) (ed_sJr μ j σ 8 n0) (ed_e8 cy B j n0 _) rfl (by decide) dX6_authorAt_9 ?_
  refine ed_min S hl.1 ed_w3_60 ed_w2_120 ed_w1_10 ed_w2_121 (Nat.le_of_ble_eq_true rfl) (Nat.le_of_ble_eq_true rfl) ⟨Nat.zero_le _, Nat.zero_le _⟩ dX6_authorAt_10 ?_
  refine ed_kI (ed_rN S hK hM (c_X8_isPlace _ D cy (ed_P D cy B (ed_sJ μ j σ)) (ed_A B) x1 (if 3 < (σ 7 n0 1) then 3 else (σ 7 n0 1))) ⟨va_cnB 2 S.2.2.2.2 (ed_gA ed_w2_107) rfl rfl rfl (ed_n11 hK) (S.2.2.2.2 _ ed_w1_1) hn_X8_isPlace ⟨Nat.le_of_ble_eq_true rfl, Nat.le_of_ble_eq_true rfl⟩, S.2.2.2.2 _ ed_w2_106, trivial⟩ rfl hl.1 rfl (Nat.le_of_ble_eq_true rfl) dX6_authorAt_13 ⟨Nat.zero_le _, Nat.zero_le _⟩) hS (fun H locs hM hS => ?_)
  refine lv_if_eq (tgt := 28) S.1 S.2.1 dX6_authorAt_16 (by decide) (fun c2 => ?_) (fun c2 => ?_)
  · replace hf := ed_ip c2 hf
    refine lv_bipush (v := (-5)) S.1 S.2.1 dX6_authorAt_28 (by decide) ?_
    obtain rfl := Option.some.inj hf
    exact ed_ri S hr hlocks hM hS dX6_authorAt_30
  · replace hf := ed_in_ c2 hf
    refine lv_aload_n S.1 S.2.1 dX6_authorAt_19 rfl (lv_at hl 0 rfl) ?_
    refine ed_get (r := (σ 7 n0)) S ed_uX6 hK hM (ed_v7 hj h0 7) (ed_sJr μ j σ 7 n0) (ed_e7 cy B j n0 _) rfl 2 (by decide) ed_w1_62 rfl rfl dX6_authorAt_20 ?_
    refine lv_iload_n S.1 S.2.1 dX6_authorAt_23 rfl (lv_at hl 1 rfl) ?_
    obtain ⟨hx3, hf⟩ := ed_g_e hf
    refine ed_ild (r := (σ 8 n0)) S hK hM (ed_v7 hj h0 8) (ed_sJr μ j σ 8 n0) (ed_e8 cy B j n0 _) hx3 dX6_authorAt_24 ?_
    refine lv_goto (tgt := 30) S.1 S.2.1 dX6_authorAt_25 (by decide) ?_
    obtain rfl := Option.some.inj hf
    exact ed_ri S hr hlocks hM hS dX6_authorAt_30
set_option maxHeartbeats 4000000 in
set_option maxRecDepth 100000 in
theorem c_X6_correctedAt (l : Launch) (D : va_G) (cy : Nat → ClassId) (B : Nat) (μ : ed_CM) (j : Nat) (hj : j < 7) (n0 : Nat) (h0 : n0 < 20) (x1 : Int32) (σ : ed_SM) (r : Int32) (hf : f_X6_correctedAt n0 x1 σ = some r) :
    Met l yX6_correctedAt wsX6_correctedAt rmX6_correctedAt (ed_pC D cy (ed_P D cy B (ed_sJ μ j σ)) [.ref (B + ed_oF j 7 n0), .int x1]) (ed_qI (ed_A B) (ed_P D cy B (ed_sJ μ j σ)) r) 0 0 (ed_A B) := by
  refine Met.ofW (cc := cX6_correctedAt) (maxL := 2) (ret := (some .int)) (by decide) rfl ?_
  intro p e s m args below meth c s₁ B0 hml hv
  obtain ⟨rfl, hM, hK⟩ := hv
  have S : CallFix p m c cX6_correctedAt 2 s _ ed_ws RX6 := ⟨B0.exec, B0.bytes, hml, findClass_of_methodNamed B0.named, fun w hw => atoms_spec (ws := wsX6_correctedAt) B0.pre w (List.mem_cons_of_mem _ hw)⟩
  have hr := B0.returns
  have hlocks := B0.notSynchronized
  have hS : va_S (ed_A B) s.heap s.heap [] := va_S.rf
  have hl := lv_entry ([.ref (B + ed_oF j 7 n0), .int x1]) (n := 2) (Nat.le_of_ble_eq_true rfl)
  rw [lg_entry_eq]
  generalize (lg_sl ([.ref (B + ed_oF j 7 n0), .int x1]) ++ List.replicate (2 - (lg_sl ([.ref (B + ed_oF j 7 n0), .int x1])).length) Slot.unset).toArray = ls at hl ⊢
  have hl : lv_has ls 2 [(0, .ref (B + ed_oF j 7 n0)), (1, .int x1)] := hl
  unfold f_X6_correctedAt at hf
  refine lv_iload_n S.1 S.2.1 dX6_correctedAt_0 rfl (lv_at hl 1 rfl) ?_
  refine lv_aload_n S.1 S.2.1 dX6_correctedAt_1 rfl (lv_at hl 0 rfl) ?_
  refine ed_get (r := (σ 7 n0)) S ed_uX6 hK hM (ed_v7 hj h0 7) (ed_sJr μ j σ 7 n0) (ed_e7 cy B j n0 _) rfl 7 (by decide) ed_w1_72 rfl rfl dX6_correctedAt_2 ?_
  refine lv_aload_n S.1 S.2.1 dX6_correctedAt_5 rfl (lv_at hl 0 rfl) ?_
  refine ed_get (r := (σ 7 n0)) S ed_uX6 hK hM (ed_v7 hj h0 7) (ed_sJr μ j σ 7 n0) (ed_e7 cy B j n0 _) rfl 8 (by decide) ed_w1_75 rfl rfl dX6_correctedAt_6 ?_
  refine ed_len (r := (σ 10 n0)) (v := 6) (ty := .int) (t := 0) S hK hM (ed_v7 hj h0 10) (ed_sJr μ j σ 10 n0) (ed_e10 cy B j n0 _) rfl (by decide) dX6_correctedAt_9 ?_
  refine ed_min S hl.1 ed_w3_60 ed_w2_120 ed_w1_10 ed_w2_121 (Nat.le_of_ble_eq_true rfl) (Nat.le_of_ble_eq_true rfl) ⟨Nat.zero_le _, Nat.zero_le _⟩ dX6_correctedAt_10 ?_
  refine ed_kI (ed_rN S hK hM (c_X8_isPlace _ D cy (ed_P D cy B (ed_sJ μ j σ)) (ed_A B) x1 (if 6 < (σ 7 n0 7) then 6 else (σ 7 n0 7))) ⟨va_cnB 2 S.2.2.2.2 (ed_gA ed_w2_107) rfl rfl rfl (ed_n11 hK) (S.2.2.2.2 _ ed_w1_1) hn_X8_isPlace ⟨Nat.le_of_ble_eq_true rfl, Nat.le_of_ble_eq_true rfl⟩, S.2.2.2.2 _ ed_w2_106, trivial⟩ rfl hl.1 rfl (Nat.le_of_ble_eq_true rfl) dX6_correctedAt_13 ⟨Nat.zero_le _, Nat.zero_le _⟩) hS (fun H locs hM hS => ?_)
  refine lv_if_eq (tgt := 28) S.1 S.2.1 dX6_correctedAt_16 (by decide) (fun c2 => ?_) (fun c2 => ?_)
  · replace hf := ed_ip c2 hf
    refine lv_bipush (v := (-5)) S.1 S.2.1 dX6_correctedAt_28 (by decide) ?_
    obtain rfl := Option.some.inj hf
    exact ed_ri S hr hlocks hM hS dX6_correctedAt_30
  · replace hf := ed_in_ c2 hf
    refine lv_aload_n S.1 S.2.1 dX6_correctedAt_19 rfl (lv_at hl 0 rfl) ?_
    refine ed_get (r := (σ 7 n0)) S ed_uX6 hK hM (ed_v7 hj h0 7) (ed_sJr μ j σ 7 n0) (ed_e7 cy B j n0 _) rfl 8 (by decide) ed_w1_75 rfl rfl dX6_correctedAt_20 ?_
    refine lv_iload_n S.1 S.2.1 dX6_correctedAt_23 rfl (lv_at hl 1 rfl) ?_
    obtain ⟨hx3, hf⟩ := ed_g_e hf
    refine ed_ild (r := (σ 10 n0)) S hK hM (ed_v7 hj h0 10) (ed_sJr μ j σ 10 n0) (ed_e10 cy B j n0 _) hx3 dX6_correctedAt_24 ?_
    refine lv_goto (tgt := 30) S.1 S.2.1 dX6_correctedAt_25 (by decide) ?_
    obtain rfl := Option.some.inj hf
    exact ed_ri S hr hlocks hM hS dX6_correctedAt_30
set_option maxHeartbeats 4000000 in
set_option maxRecDepth 100000 in
theorem c_X5_fits (l : Launch) (D : va_G) (cy : Nat → ClassId) (P : Heap → Prop) (A : Nat → Prop) (x0 x1 : Int32) :
    Met l yX5_fits wsX5_fits rmX5_fits (ed_pC D cy (P) [.int x0, .int x1]) (ed_qI A (P) (f_X5_fits x0 x1)) 0 0 A := by
  refine Met.ofW (cc := cX5_fits) (maxL := 2) (ret := (some .boolean)) (by decide) rfl ?_
  intro p e s m args below meth c s₁ B0 hml hv
  obtain ⟨rfl, hM, hK⟩ := hv
  have S : CallFix p m c cX5_fits 2 s _ ed_ws RX5 := ⟨B0.exec, B0.bytes, hml, findClass_of_methodNamed B0.named, fun w hw => atoms_spec (ws := wsX5_fits) B0.pre w (List.mem_cons_of_mem _ hw)⟩
  have hr := B0.returns
  have hlocks := B0.notSynchronized
  have hS : va_S A s.heap s.heap [] := va_S.rf
  have hl := lv_entry ([.int x0, .int x1]) (n := 2) (Nat.le_of_ble_eq_true rfl)
  rw [lg_entry_eq]
  generalize (lg_sl ([.int x0, .int x1]) ++ List.replicate (2 - (lg_sl ([.int x0, .int x1])).length) Slot.unset).toArray = ls at hl ⊢
  have hl : lv_has ls 2 [(0, .int x0), (1, .int x1)] := hl
  generalize hf : f_X5_fits x0 x1 = r
  unfold f_X5_fits at hf
  refine lv_iload_n S.1 S.2.1 dX5_fits_0 rfl (lv_at hl 0 rfl) ?_
  refine lv_iconst (v := (-1)) S.1 S.2.1 dX5_fits_1 (by decide) ?_
  refine lv_icmp_eq (tgt := 10) S.1 S.2.1 dX5_fits_2 (by decide) (fun c1 => ?_) (fun c1 => ?_)
  · replace hf := ed_ip c1 hf
    refine lv_iconst (v := 1) S.1 S.2.1 dX5_fits_10 (by decide) ?_
    refine lv_goto (tgt := 15) S.1 S.2.1 dX5_fits_11 (by decide) ?_
    subst hf
    exact ed_rz S hr hlocks rfl hM hS dX5_fits_15
  · replace hf := ed_in_ c1 hf
    refine lv_iload_n S.1 S.2.1 dX5_fits_5 rfl (lv_at hl 0 rfl) ?_
    refine lv_iload_n S.1 S.2.1 dX5_fits_6 rfl (lv_at hl 1 rfl) ?_
    refine lv_icmp_ne (tgt := 14) S.1 S.2.1 dX5_fits_7 (by decide) (fun c2 => ?_) (fun c2 => ?_)
    · replace hf := ed_in_ c2 hf
      refine lv_iconst (v := 0) S.1 S.2.1 dX5_fits_14 (by decide) ?_
      subst hf
      exact ed_rz S hr hlocks rfl hM hS dX5_fits_15
    · replace hf := ed_ip c2 hf
      refine lv_iconst (v := 1) S.1 S.2.1 dX5_fits_10 (by decide) ?_
      refine lv_goto (tgt := 15) S.1 S.2.1 dX5_fits_11 (by decide) ?_
      subst hf
      exact ed_rz S hr hlocks rfl hM hS dX5_fits_15
set_option maxHeartbeats 4000000 in
set_option maxRecDepth 100000 in
theorem w_X6_isBy_2 {p : Program} {l : Launch} {e : Env} {s : State} {m : MethodId} {args : Array Value} {below : List Frame} {meth : Method} {c : Code} {D : va_G} {cy : Nat → ClassId} {B : Nat} {μ : ed_CM} {j : Nat} (hj : j < 7) {n0 : Nat} (h0 : n0 < 20) (S : CallFix p m c cX6_isBy 3 s args ed_ws RX6) (hr : meth.sig.returnType = (some .boolean)) (hlocks : meth.locks = false) (hK : ed_K D cy s) (σ : ed_SM) (r : Int32) :
    ∀ (n : Nat), ∀ (x1 x2 : Int32), f_X6_isBy_2 n0 σ n x1 x2 = some r → ∀ (H : Heap) (locs : List Loc) (ls : Array Slot), ed_P D cy B (ed_sJ μ j σ) H → va_S (ed_A B) s.heap H locs → lv_has ls 3 [(0, .ref (B + ed_oF j 7 n0)), (1, .int x1), (2, .int x2)] → W p l e (headSpec wsX6_isBy rmX6_isBy).room s m args below meth c H locs 0 0 (MQ below (ed_qI (ed_A B) (ed_P D cy B (ed_sJ μ j σ)) r) args s 0 0 (ed_A B)) (F0 m 2 ls []) := by
  intro n
  induction n with
  | zero => intro x1 x2 hf; rw [f_X6_isBy_2] at hf; cases hf
  | succ n ih =>
    intro x1 x2 hf H locs ls hM hS hl
    rw [f_X6_isBy_2] at hf
    refine lv_iload_n S.1 S.2.1 dX6_isBy_2 rfl (lv_at hl 2 rfl) ?_
    refine lv_aload_n S.1 S.2.1 dX6_isBy_3 rfl (lv_at hl 0 rfl) ?_
    refine ed_get (r := (σ 7 n0)) S ed_uX6 hK hM (ed_v7 hj h0 7) (ed_sJr μ j σ 7 n0) (ed_e7 cy B j n0 _) rfl 1 (by decide) ed_w1_59 rfl rfl dX6_isBy_4 ?_
    refine lv_icmp_ge (tgt := 27) S.1 S.2.1 dX6_isBy_7 (by decide) (fun c1 => ?_) (fun c1 => ?_)
    · replace hf := ed_ip c1 hf
      refine lv_iconst (v := 0) S.1 S.2.1 dX6_isBy_27 (by decide) ?_
      obtain rfl := Option.some.inj hf
      exact ed_rz S hr hlocks rfl hM hS dX6_isBy_28
    · replace hf := ed_in_ c1 hf
      refine lv_aload_n S.1 S.2.1 dX6_isBy_10 rfl (lv_at hl 0 rfl) ?_
      refine lv_iload_n S.1 S.2.1 dX6_isBy_11 rfl (lv_at hl 2 rfl) ?_
      obtain ⟨r2, hq2, hf⟩ := ed_b_e hf
      refine ed_kI (ed_rV S hK hM (c_X6_authorAt _ D cy B μ j hj n0 h0 x2 σ r2 hq2) (cwV 1 S.2.2.2.2 (ed_gV ed_w3_135 ed_w3_57 ed_w3_58 ed_w1_4 ed_w3_59) rfl rfl rfl hd_X6_authorAt ⟨Nat.le_of_ble_eq_true rfl, Nat.le_of_ble_eq_true rfl⟩) (ed_rc (q := (RX6, TX6, 11)) (r := (σ 7 n0)) hK hM (ed_v7 hj h0 7) (ed_sJr μ j σ 7 n0) (ed_e7 cy B j n0 _) rfl) rfl hl.1 rfl (Nat.le_of_ble_eq_true rfl) dX6_isBy_12 ⟨Nat.zero_le _, Nat.zero_le _⟩) hS (fun H locs hM hS => ?_)
      refine lv_iload_n S.1 S.2.1 dX6_isBy_15 rfl (lv_at hl 1 rfl) ?_
      refine lv_icmp_ne (tgt := 21) S.1 S.2.1 dX6_isBy_16 (by decide) (fun c3 => ?_) (fun c3 => ?_)
      · replace hf := ed_in_ c3 hf
        refine lv_iinc (v := x2 + 1) (lv' := [(2, .int (x2 + 1)), (0, .ref (B + ed_oF j 7 n0)), (1, .int x1)]) S.1 S.2.1 dX6_isBy_21 hl (k := 2) rfl rfl (by decide) rfl (fun ls hl => ?_)
        refine lv_goto (tgt := 2) S.1 S.2.1 dX6_isBy_24 (by decide) ?_
        exact ih x1 (x2 + 1) hf _ _ _ hM hS (lv_sub hl [1, 2, 0] rfl)
      · replace hf := ed_ip c3 hf
        refine lv_iconst (v := 1) S.1 S.2.1 dX6_isBy_19 (by decide) ?_
        obtain rfl := Option.some.inj hf
        exact ed_rz S hr hlocks rfl hM hS dX6_isBy_20
set_option maxHeartbeats 4000000 in
set_option maxRecDepth 100000 in
theorem c_X6_isBy (l : Launch) (D : va_G) (cy : Nat → ClassId) (B : Nat) (μ : ed_CM) (j : Nat) (hj : j < 7) (n0 : Nat) (h0 : n0 < 20) (x1 : Int32) (σ : ed_SM) (r : Int32) (hf : f_X6_isBy n0 x1 σ = some r) :
    Met l yX6_isBy wsX6_isBy rmX6_isBy (ed_pC D cy (ed_P D cy B (ed_sJ μ j σ)) [.ref (B + ed_oF j 7 n0), .int x1]) (ed_qI (ed_A B) (ed_P D cy B (ed_sJ μ j σ)) r) 0 0 (ed_A B) := by
  refine Met.ofW (cc := cX6_isBy) (maxL := 3) (ret := (some .boolean)) (by decide) rfl ?_
  intro p e s m args below meth c s₁ B0 hml hv
  obtain ⟨rfl, hM, hK⟩ := hv
  have S : CallFix p m c cX6_isBy 3 s _ ed_ws RX6 := ⟨B0.exec, B0.bytes, hml, findClass_of_methodNamed B0.named, fun w hw => atoms_spec (ws := wsX6_isBy) B0.pre w (List.mem_cons_of_mem _ hw)⟩
  have hr := B0.returns
  have hlocks := B0.notSynchronized
  have hS : va_S (ed_A B) s.heap s.heap [] := va_S.rf
  have hl := lv_entry ([.ref (B + ed_oF j 7 n0), .int x1]) (n := 3) (Nat.le_of_ble_eq_true rfl)
  rw [lg_entry_eq]
  generalize (lg_sl ([.ref (B + ed_oF j 7 n0), .int x1]) ++ List.replicate (3 - (lg_sl ([.ref (B + ed_oF j 7 n0), .int x1])).length) Slot.unset).toArray = ls at hl ⊢
  have hl : lv_has ls 3 [(0, .ref (B + ed_oF j 7 n0)), (1, .int x1)] := hl
  unfold f_X6_isBy at hf
  refine lv_iconst (v := 0) S.1 S.2.1 dX6_isBy_0 (by decide) ?_
  refine lv_istore_n (lv' := [(2, .int 0), (0, .ref (B + ed_oF j 7 n0)), (1, .int x1)]) S.1 S.2.1 dX6_isBy_1 rfl hl (by decide) rfl (fun ls hl => ?_)
  exact w_X6_isBy_2 hj h0 S hr hlocks hK σ r ed_N x1 0 hf _ _ _ hM hS (lv_sub hl [1, 2, 0] rfl)
set_option maxHeartbeats 4000000 in
set_option maxRecDepth 100000 in
theorem c_X6_begin (l : Launch) (D : va_G) (cy : Nat → ClassId) (B : Nat) (μ : ed_CM) (j : Nat) (hj : j < 7) (n0 : Nat) (h0 : n0 < 20) (τ : ed_SM) (hτ : μ 7 = τ) (σ : ed_SM) (σ' : ed_SM) (hf : f_X6_begin n0 τ σ = some σ') :
    Met l yX6_begin wsX6_begin rmX6_begin (ed_pC D cy (ed_P D cy B (ed_sJ μ j σ)) [.ref (B + ed_oF j 7 n0), .ref (B + ed_oF 7 17 0)]) (ed_qV (ed_A B) (ed_P D cy B (ed_sJ μ j σ'))) 0 0 (ed_A B) := by
  refine Met.ofW (cc := cX6_begin) (maxL := 2) (ret := none) (by decide) rfl ?_
  intro p e s m args below meth c s₁ B0 hml hv
  obtain ⟨rfl, hM, hK⟩ := hv
  have S : CallFix p m c cX6_begin 2 s _ ed_ws RX6 := ⟨B0.exec, B0.bytes, hml, findClass_of_methodNamed B0.named, fun w hw => atoms_spec (ws := wsX6_begin) B0.pre w (List.mem_cons_of_mem _ hw)⟩
  have hr := B0.returns
  have hlocks := B0.notSynchronized
  have hS : va_S (ed_A B) s.heap s.heap [] := va_S.rf
  have hl := lv_entry ([.ref (B + ed_oF j 7 n0), .ref (B + ed_oF 7 17 0)]) (n := 2) (Nat.le_of_ble_eq_true rfl)
  rw [lg_entry_eq]
  generalize (lg_sl ([.ref (B + ed_oF j 7 n0), .ref (B + ed_oF 7 17 0)]) ++ List.replicate (2 - (lg_sl ([.ref (B + ed_oF j 7 n0), .ref (B + ed_oF 7 17 0)])).length) Slot.unset).toArray = ls at hl ⊢
  have hl : lv_has ls 2 [(0, .ref (B + ed_oF j 7 n0)), (1, .ref (B + ed_oF 7 17 0))] := hl
  unfold f_X6_begin at hf
  have hne : 7 ≠ j := fun q => absurd hj (by omega)
  refine lv_aload_n S.1 S.2.1 dX6_begin_0 rfl (lv_at hl 0 rfl) ?_
  refine lv_aload_n S.1 S.2.1 dX6_begin_1 rfl (lv_at hl 1 rfl) ?_
  refine ed_get (r := (τ 17 0)) S ed_uX7 hK hM ed_v17 (ed_sJn μ σ hne hτ 17 0) (ed_e17 cy B 7 0 _) rfl 3 (by decide) ed_w2_39 rfl rfl dX6_begin_2 ?_
  refine ed_put (j := j) S ed_uX6 tyX6 tyX6_ok nmX6 hK hM hS (ed_v7 hj h0 7) (ed_e7 cy B j n0 _) rfl 0 (by decide) ed_w1_56 rfl rfl rfl rfl (Nat.le_of_ble_eq_true rfl) (ed_u7_0 cy B j n0 _ _) dX6_begin_5 (fun H locs hM hS => ?_)
  obtain ⟨σ1, eσ1, hf⟩ := ed_t_e hf
  have hM : ed_P D cy B (ed_sJ μ j σ1) H := by rw [eσ1]; exact hM
  refine lv_aload_n S.1 S.2.1 dX6_begin_8 rfl (lv_at hl 0 rfl) ?_
  refine lv_aload_n S.1 S.2.1 dX6_begin_9 rfl (lv_at hl 1 rfl) ?_
  refine ed_get (r := (τ 17 0)) S ed_uX7 hK hM ed_v17 (ed_sJn μ σ1 hne hτ 17 0) (ed_e17 cy B 7 0 _) rfl 4 (by decide) ed_w2_41 rfl rfl dX6_begin_10 ?_
  refine ed_put (j := j) S ed_uX6 tyX6 tyX6_ok nmX6 hK hM hS (ed_v7 hj h0 7) (ed_e7 cy B j n0 _) rfl 1 (by decide) ed_w1_59 rfl rfl rfl rfl (Nat.le_of_ble_eq_true rfl) (ed_u7_1 cy B j n0 _ _) dX6_begin_13 (fun H locs hM hS => ?_)
  obtain ⟨σ2, eσ2, hf⟩ := ed_t_e hf
  have hM : ed_P D cy B (ed_sJ μ j σ2) H := by rw [eσ2]; exact hM
  refine lv_aload_n S.1 S.2.1 dX6_begin_16 rfl (lv_at hl 1 rfl) ?_
  refine ed_get (r := (τ 17 0)) S ed_uX7 hK hM ed_v17 (ed_sJn μ σ2 hne hτ 17 0) (ed_e17 cy B 7 0 _) rfl 5 (by decide) ed_w2_44 rfl rfl dX6_begin_17 ?_
  refine lv_aload_n S.1 S.2.1 dX6_begin_20 rfl (lv_at hl 0 rfl) ?_
  refine ed_get (r := (σ2 7 n0)) S ed_uX6 hK hM (ed_v7 hj h0 7) (ed_sJr μ j σ2 7 n0) (ed_e7 cy B j n0 _) rfl 2 (by decide) ed_w1_62 rfl rfl dX6_begin_21 ?_
  refine ed_kV (ed_rN S hK hM (c_X8_copyRow _ D cy B μ j 7 3 19 0 8 n0 ed_v19 (ed_v7 hj h0 8) hne τ hτ (ed_e19 cy B 7 0) (ed_e8 cy B j n0) (by decide) σ2) ⟨va_cnB 2 S.2.2.2.2 (ed_gA ed_w2_118) rfl rfl rfl (ed_n10 hK) (S.2.2.2.2 _ ed_w1_1) hn_X8_copyRow ⟨Nat.le_of_ble_eq_true rfl, Nat.le_of_ble_eq_true rfl⟩, S.2.2.2.2 _ ed_w2_117, trivial⟩ rfl hl.1 rfl (Nat.le_of_ble_eq_true rfl) dX6_begin_24 ⟨Nat.zero_le _, Nat.zero_le _⟩) hS (fun H locs hM hS => ?_)
  obtain ⟨σ3, eσ3, hf⟩ := ed_t_e hf
  have hM : ed_P D cy B (ed_sJ μ j σ3) H := by rw [eσ3]; exact hM
  refine lv_aload_n S.1 S.2.1 dX6_begin_27 rfl (lv_at hl 0 rfl) ?_
  refine lv_aload_n S.1 S.2.1 dX6_begin_28 rfl (lv_at hl 1 rfl) ?_
  refine ed_get (r := (τ 17 0)) S ed_uX7 hK hM ed_v17 (ed_sJn μ σ3 hne hτ 17 0) (ed_e17 cy B 7 0 _) rfl 6 (by decide) ed_w2_45 rfl rfl dX6_begin_29 ?_
  refine ed_put (j := j) S ed_uX6 tyX6 tyX6_ok nmX6 hK hM hS (ed_v7 hj h0 7) (ed_e7 cy B j n0 _) rfl 3 (by decide) ed_w1_63 rfl rfl rfl rfl (Nat.le_of_ble_eq_true rfl) (ed_u7_3 cy B j n0 _ _) dX6_begin_32 (fun H locs hM hS => ?_)
  obtain ⟨σ4, eσ4, hf⟩ := ed_t_e hf
  have hM : ed_P D cy B (ed_sJ μ j σ4) H := by rw [eσ4]; exact hM
  refine lv_aload_n S.1 S.2.1 dX6_begin_35 rfl (lv_at hl 0 rfl) ?_
  refine lv_aload_n S.1 S.2.1 dX6_begin_36 rfl (lv_at hl 1 rfl) ?_
  refine ed_get (r := (τ 17 0)) S ed_uX7 hK hM ed_v17 (ed_sJn μ σ4 hne hτ 17 0) (ed_e17 cy B 7 0 _) rfl 7 (by decide) ed_w2_47 rfl rfl dX6_begin_37 ?_
  refine ed_put (j := j) S ed_uX6 tyX6 tyX6_ok nmX6 hK hM hS (ed_v7 hj h0 7) (ed_e7 cy B j n0 _) rfl 4 (by decide) ed_w1_66 rfl rfl rfl rfl (Nat.le_of_ble_eq_true rfl) (ed_u7_4 cy B j n0 _ _) dX6_begin_40 (fun H locs hM hS => ?_)
  obtain ⟨σ5, eσ5, hf⟩ := ed_t_e hf
  have hM : ed_P D cy B (ed_sJ μ j σ5) H := by rw [eσ5]; exact hM
  refine lv_aload_n S.1 S.2.1 dX6_begin_43 rfl (lv_at hl 1 rfl) ?_
  refine ed_get (r := (τ 17 0)) S ed_uX7 hK hM ed_v17 (ed_sJn μ σ5 hne hτ 17 0) (ed_e17 cy B 7 0 _) rfl 8 (by decide) ed_w2_50 rfl rfl dX6_begin_44 ?_
  refine lv_aload_n S.1 S.2.1 dX6_begin_47 rfl (lv_at hl 0 rfl) ?_
  refine ed_get (r := (σ5 7 n0)) S ed_uX6 hK hM (ed_v7 hj h0 7) (ed_sJr μ j σ5 7 n0) (ed_e7 cy B j n0 _) rfl 5 (by decide) ed_w1_68 rfl rfl dX6_begin_48 ?_
  refine ed_kV (ed_rN S hK hM (c_X8_copyRow _ D cy B μ j 7 12 20 0 9 n0 ed_v20 (ed_v7 hj h0 9) hne τ hτ (ed_e20 cy B 7 0) (ed_e9 cy B j n0) (by decide) σ5) ⟨va_cnB 2 S.2.2.2.2 (ed_gA ed_w2_118) rfl rfl rfl (ed_n10 hK) (S.2.2.2.2 _ ed_w1_1) hn_X8_copyRow ⟨Nat.le_of_ble_eq_true rfl, Nat.le_of_ble_eq_true rfl⟩, S.2.2.2.2 _ ed_w2_117, trivial⟩ rfl hl.1 rfl (Nat.le_of_ble_eq_true rfl) dX6_begin_51 ⟨Nat.zero_le _, Nat.zero_le _⟩) hS (fun H locs hM hS => ?_)
  obtain ⟨σ6, eσ6, hf⟩ := ed_t_e hf
  have hM : ed_P D cy B (ed_sJ μ j σ6) H := by rw [eσ6]; exact hM
  refine lv_aload_n S.1 S.2.1 dX6_begin_54 rfl (lv_at hl 0 rfl) ?_
  refine lv_iconst (v := 0) S.1 S.2.1 dX6_begin_55 (by decide) ?_
  refine ed_put (j := j) S ed_uX6 tyX6 tyX6_ok nmX6 hK hM hS (ed_v7 hj h0 7) (ed_e7 cy B j n0 _) rfl 6 (by decide) ed_w1_69 rfl rfl rfl rfl (Nat.le_of_ble_eq_true rfl) (ed_u7_6 cy B j n0 _ _) dX6_begin_56 (fun H locs hM hS => ?_)
  obtain ⟨σ7, eσ7, hf⟩ := ed_t_e hf
  have hM : ed_P D cy B (ed_sJ μ j σ7) H := by rw [eσ7]; exact hM
  refine lv_aload_n S.1 S.2.1 dX6_begin_59 rfl (lv_at hl 0 rfl) ?_
  refine lv_iconst (v := 0) S.1 S.2.1 dX6_begin_60 (by decide) ?_
  refine ed_put (j := j) S ed_uX6 tyX6 tyX6_ok nmX6 hK hM hS (ed_v7 hj h0 7) (ed_e7 cy B j n0 _) rfl 7 (by decide) ed_w1_72 rfl rfl rfl rfl (Nat.le_of_ble_eq_true rfl) (ed_u7_7 cy B j n0 _ _) dX6_begin_61 (fun H locs hM hS => ?_)
  obtain ⟨σ8, eσ8, hf⟩ := ed_t_e hf
  have hM : ed_P D cy B (ed_sJ μ j σ8) H := by rw [eσ8]; exact hM
  refine lv_aload_n S.1 S.2.1 dX6_begin_64 rfl (lv_at hl 0 rfl) ?_
  refine lv_bipush (v := (-5)) S.1 S.2.1 dX6_begin_65 (by decide) ?_
  refine ed_put (j := j) S ed_uX6 tyX6 tyX6_ok nmX6 hK hM hS (ed_v7 hj h0 7) (ed_e7 cy B j n0 _) rfl 9 (by decide) ed_w1_76 rfl rfl rfl rfl (Nat.le_of_ble_eq_true rfl) (ed_u7_9 cy B j n0 _ _) dX6_begin_67 (fun H locs hM hS => ?_)
  obtain ⟨σ9, eσ9, hf⟩ := ed_t_e hf
  have hM : ed_P D cy B (ed_sJ μ j σ9) H := by rw [eσ9]; exact hM
  refine lv_aload_n S.1 S.2.1 dX6_begin_70 rfl (lv_at hl 0 rfl) ?_
  refine lv_bipush (v := (-5)) S.1 S.2.1 dX6_begin_71 (by decide) ?_
  refine ed_put (j := j) S ed_uX6 tyX6 tyX6_ok nmX6 hK hM hS (ed_v7 hj h0 7) (ed_e7 cy B j n0 _) rfl 10 (by decide) ed_w1_79 rfl rfl rfl rfl (Nat.le_of_ble_eq_true rfl) (ed_u7_10 cy B j n0 _ _) dX6_begin_73 (fun H locs hM hS => ?_)
  obtain ⟨σ10, eσ10, hf⟩ := ed_t_e hf
  have hM : ed_P D cy B (ed_sJ μ j σ10) H := by rw [eσ10]; exact hM
  obtain rfl := Option.some.inj hf
  exact ed_rv S hr hlocks hM hS dX6_begin_76
set_option maxHeartbeats 4000000 in
set_option maxRecDepth 100000 in
theorem c_X6_addCorrection (l : Launch) (D : va_G) (cy : Nat → ClassId) (B : Nat) (μ : ed_CM) (j : Nat) (hj : j < 7) (n0 : Nat) (h0 : n0 < 20) (x1 : Int32) (σ : ed_SM) (σ' : ed_SM) (hf : f_X6_addCorrection n0 x1 σ = some σ') :
    Met l yX6_addCorrection wsX6_addCorrection rmX6_addCorrection (ed_pC D cy (ed_P D cy B (ed_sJ μ j σ)) [.ref (B + ed_oF j 7 n0), .int x1]) (ed_qV (ed_A B) (ed_P D cy B (ed_sJ μ j σ'))) 0 0 (ed_A B) := by
  refine Met.ofW (cc := cX6_addCorrection) (maxL := 2) (ret := none) (by decide) rfl ?_
  intro p e s m args below meth c s₁ B0 hml hv
  obtain ⟨rfl, hM, hK⟩ := hv
  have S : CallFix p m c cX6_addCorrection 2 s _ ed_ws RX6 := ⟨B0.exec, B0.bytes, hml, findClass_of_methodNamed B0.named, fun w hw => atoms_spec (ws := wsX6_addCorrection) B0.pre w (List.mem_cons_of_mem _ hw)⟩
  have hr := B0.returns
  have hlocks := B0.notSynchronized
  have hS : va_S (ed_A B) s.heap s.heap [] := va_S.rf
  have hl := lv_entry ([.ref (B + ed_oF j 7 n0), .int x1]) (n := 2) (Nat.le_of_ble_eq_true rfl)
  rw [lg_entry_eq]
  generalize (lg_sl ([.ref (B + ed_oF j 7 n0), .int x1]) ++ List.replicate (2 - (lg_sl ([.ref (B + ed_oF j 7 n0), .int x1])).length) Slot.unset).toArray = ls at hl ⊢
  have hl : lv_has ls 2 [(0, .ref (B + ed_oF j 7 n0)), (1, .int x1)] := hl
  unfold f_X6_addCorrection at hf
  refine lv_aload_n S.1 S.2.1 dX6_addCorrection_0 rfl (lv_at hl 0 rfl) ?_
  refine ed_get (r := (σ 7 n0)) S ed_uX6 hK hM (ed_v7 hj h0 7) (ed_sJr μ j σ 7 n0) (ed_e7 cy B j n0 _) rfl 7 (by decide) ed_w1_72 rfl rfl dX6_addCorrection_1 ?_
  refine lv_aload_n S.1 S.2.1 dX6_addCorrection_4 rfl (lv_at hl 0 rfl) ?_
  refine ed_get (r := (σ 7 n0)) S ed_uX6 hK hM (ed_v7 hj h0 7) (ed_sJr μ j σ 7 n0) (ed_e7 cy B j n0 _) rfl 8 (by decide) ed_w1_75 rfl rfl dX6_addCorrection_5 ?_
  refine ed_len (r := (σ 10 n0)) (v := 6) (ty := .int) (t := 0) S hK hM (ed_v7 hj h0 10) (ed_sJr μ j σ 10 n0) (ed_e10 cy B j n0 _) rfl (by decide) dX6_addCorrection_8 ?_
  refine ed_kI (ed_rN S hK hM (c_X8_isPlace _ D cy (ed_P D cy B (ed_sJ μ j σ)) (ed_A B) (σ 7 n0 7) 6) ⟨va_cnB 2 S.2.2.2.2 (ed_gA ed_w2_107) rfl rfl rfl (ed_n11 hK) (S.2.2.2.2 _ ed_w1_1) hn_X8_isPlace ⟨Nat.le_of_ble_eq_true rfl, Nat.le_of_ble_eq_true rfl⟩, S.2.2.2.2 _ ed_w2_106, trivial⟩ rfl hl.1 rfl (Nat.le_of_ble_eq_true rfl) dX6_addCorrection_9 ⟨Nat.zero_le _, Nat.zero_le _⟩) hS (fun H locs hM hS => ?_)
  refine lv_if_eq (tgt := 35) S.1 S.2.1 dX6_addCorrection_12 (by decide) (fun c2 => ?_) (fun c2 => ?_)
  · replace hf := ed_ip c2 hf
    obtain rfl := Option.some.inj hf
    exact ed_rv S hr hlocks hM hS dX6_addCorrection_35
  · replace hf := ed_in_ c2 hf
    refine lv_aload_n S.1 S.2.1 dX6_addCorrection_15 rfl (lv_at hl 0 rfl) ?_
    refine ed_get (r := (σ 7 n0)) S ed_uX6 hK hM (ed_v7 hj h0 7) (ed_sJr μ j σ 7 n0) (ed_e7 cy B j n0 _) rfl 8 (by decide) ed_w1_75 rfl rfl dX6_addCorrection_16 ?_
    refine lv_aload_n S.1 S.2.1 dX6_addCorrection_19 rfl (lv_at hl 0 rfl) ?_
    refine ed_get (r := (σ 7 n0)) S ed_uX6 hK hM (ed_v7 hj h0 7) (ed_sJr μ j σ 7 n0) (ed_e7 cy B j n0 _) rfl 7 (by decide) ed_w1_72 rfl rfl dX6_addCorrection_20 ?_
    refine lv_iload_n S.1 S.2.1 dX6_addCorrection_23 rfl (lv_at hl 1 rfl) ?_
    obtain ⟨hx3, hf⟩ := ed_g_e hf
    refine ed_ist (j := j) S hK hM hS (ed_v7 hj h0 10) (ed_e10 cy B j n0) hx3 dX6_addCorrection_24 (fun H locs hM hS => ?_)
    obtain ⟨σ4, eσ4, hf⟩ := ed_t_e hf
    have hM : ed_P D cy B (ed_sJ μ j σ4) H := by rw [eσ4]; exact hM
    refine lv_aload_n S.1 S.2.1 dX6_addCorrection_25 rfl (lv_at hl 0 rfl) ?_
    refine lv_dup S.1 S.2.1 dX6_addCorrection_26 rfl ?_
    refine ed_get (r := (σ4 7 n0)) S ed_uX6 hK hM (ed_v7 hj h0 7) (ed_sJr μ j σ4 7 n0) (ed_e7 cy B j n0 _) rfl 7 (by decide) ed_w1_72 rfl rfl dX6_addCorrection_27 ?_
    refine lv_iconst (v := 1) S.1 S.2.1 dX6_addCorrection_30 (by decide) ?_
    refine lv_iadd S.1 S.2.1 dX6_addCorrection_31 ?_
    refine ed_put (j := j) S ed_uX6 tyX6 tyX6_ok nmX6 hK hM hS (ed_v7 hj h0 7) (ed_e7 cy B j n0 _) rfl 7 (by decide) ed_w1_72 rfl rfl rfl rfl (Nat.le_of_ble_eq_true rfl) (ed_u7_7 cy B j n0 _ _) dX6_addCorrection_32 (fun H locs hM hS => ?_)
    obtain ⟨σ5, eσ5, hf⟩ := ed_t_e hf
    have hM : ed_P D cy B (ed_sJ μ j σ5) H := by rw [eσ5]; exact hM
    obtain rfl := Option.some.inj hf
    exact ed_rv S hr hlocks hM hS dX6_addCorrection_35
set_option maxHeartbeats 4000000 in
set_option maxRecDepth 100000 in
theorem c_X8_isBetween (l : Launch) (D : va_G) (cy : Nat → ClassId) (P : Heap → Prop) (A : Nat → Prop) (x0 x1 x2 : Int32) :
    Met l yX8_isBetween wsX8_isBetween rmX8_isBetween (ed_pC D cy (P) [.int x0, .int x1, .int x2]) (ed_qI A (P) (f_X8_isBetween x0 x1 x2)) 0 0 A := by
  refine Met.ofW (cc := cX8_isBetween) (maxL := 3) (ret := (some .boolean)) (by decide) rfl ?_
  intro p e s m args below meth c s₁ B0 hml hv
  obtain ⟨rfl, hM, hK⟩ := hv
  have S : CallFix p m c cX8_isBetween 3 s _ ed_ws RX8 := ⟨B0.exec, B0.bytes, hml, findClass_of_methodNamed B0.named, fun w hw => atoms_spec (ws := wsX8_isBetween) B0.pre w (List.mem_cons_of_mem _ hw)⟩
  have hr := B0.returns
  have hlocks := B0.notSynchronized
  have hS : va_S A s.heap s.heap [] := va_S.rf
  have hl := lv_entry ([.int x0, .int x1, .int x2]) (n := 3) (Nat.le_of_ble_eq_true rfl)
  rw [lg_entry_eq]
  generalize (lg_sl ([.int x0, .int x1, .int x2]) ++ List.replicate (3 - (lg_sl ([.int x0, .int x1, .int x2])).length) Slot.unset).toArray = ls at hl ⊢
  have hl : lv_has ls 3 [(0, .int x0), (1, .int x1), (2, .int x2)] := hl
  generalize hf : f_X8_isBetween x0 x1 x2 = r
  unfold f_X8_isBetween at hf
  refine lv_iload_n S.1 S.2.1 dX8_isBetween_0 rfl (lv_at hl 0 rfl) ?_
  refine lv_iload_n S.1 S.2.1 dX8_isBetween_1 rfl (lv_at hl 1 rfl) ?_
  refine lv_icmp_lt (tgt := 14) S.1 S.2.1 dX8_isBetween_2 (by decide) (fun c1 => ?_) (fun c1 => ?_)
  · replace hf := ed_ip c1 hf
    refine lv_iconst (v := 0) S.1 S.2.1 dX8_isBetween_14 (by decide) ?_
    subst hf
    exact ed_rz S hr hlocks rfl hM hS dX8_isBetween_15
  · replace hf := ed_in_ c1 hf
    refine lv_iload_n S.1 S.2.1 dX8_isBetween_5 rfl (lv_at hl 0 rfl) ?_
    refine lv_iload_n S.1 S.2.1 dX8_isBetween_6 rfl (lv_at hl 2 rfl) ?_
    refine lv_icmp_gt (tgt := 14) S.1 S.2.1 dX8_isBetween_7 (by decide) (fun c2 => ?_) (fun c2 => ?_)
    · replace hf := ed_ip c2 hf
      refine lv_iconst (v := 0) S.1 S.2.1 dX8_isBetween_14 (by decide) ?_
      subst hf
      exact ed_rz S hr hlocks rfl hM hS dX8_isBetween_15
    · replace hf := ed_in_ c2 hf
      refine lv_iconst (v := 1) S.1 S.2.1 dX8_isBetween_10 (by decide) ?_
      refine lv_goto (tgt := 15) S.1 S.2.1 dX8_isBetween_11 (by decide) ?_
      subst hf
      exact ed_rz S hr hlocks rfl hM hS dX8_isBetween_15
