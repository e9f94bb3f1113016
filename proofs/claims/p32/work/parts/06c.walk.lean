/-! walks, laid by program (wip/p32/gen/gen.py) -/
set_option maxHeartbeats 4000000 in
set_option maxRecDepth 100000 in
theorem c_X7_add (l : Launch) (D : va_G) (cy : Nat → ClassId) (B : Nat) (μ : ed_CM) (x1 : Int32) (σ : ed_SM) (σ' : ed_SM) (hf : f_X7_add x1 σ = some σ') :
    Met l yX7_add wsX7_add rmX7_add (ed_pC D cy (ed_P D cy B (ed_sJ μ 7 σ)) [.ref (B + ed_oF 7 17 0), .int x1]) (ed_qV (ed_A B) (ed_P D cy B (ed_sJ μ 7 σ'))) 0 0 (ed_A B) := by
  refine Met.ofW (cc := cX7_add) (maxL := 2) (ret := none) (by decide) rfl ?_
  intro p e s m args below meth c s₁ B0 hml hv
  obtain ⟨rfl, hM, hK⟩ := hv
  have S : CallFix p m c cX7_add 2 s _ ed_ws RX7 := ⟨B0.exec, B0.bytes, hml, findClass_of_methodNamed B0.named, fun w hw => atoms_spec (ws := wsX7_add) B0.pre w (List.mem_cons_of_mem _ hw)⟩
  have hr := B0.returns
  have hlocks := B0.notSynchronized
  have hS : va_S (ed_A B) s.heap s.heap [] := va_S.rf
  have hl := lv_entry ([.ref (B + ed_oF 7 17 0), .int x1]) (n := 2) (Nat.le_of_ble_eq_true rfl)
  rw [lg_entry_eq]
  generalize (lg_sl ([.ref (B + ed_oF 7 17 0), .int x1]) ++ List.replicate (2 - (lg_sl ([.ref (B + ed_oF 7 17 0), .int x1])).length) Slot.unset).toArray = ls at hl ⊢
  have hl : lv_has ls 2 [(0, .ref (B + ed_oF 7 17 0)), (1, .int x1)] := hl
  unfold f_X7_add at hf
  refine lv_aload_n S.1 S.2.1 dX7_add_0 rfl (lv_at hl 0 rfl) ?_
  refine ed_get (r := (σ 17 0)) S ed_uX7 hK hM ed_v17 (ed_sJr μ 7 σ 17 0) (ed_e17 cy B 7 0 _) rfl 1 (by decide) ed_w2_36 rfl rfl dX7_add_1 ?_
  refine lv_aload_n S.1 S.2.1 dX7_add_4 rfl (lv_at hl 0 rfl) ?_
  refine ed_get (r := (σ 17 0)) S ed_uX7 hK hM ed_v17 (ed_sJr μ 7 σ 17 0) (ed_e17 cy B 7 0 _) rfl 0 (by decide) ed_w2_35 rfl rfl dX7_add_5 ?_
  refine ed_len (r := (σ 18 0)) (v := 40) (ty := .int) (t := 0) S hK hM ed_v18 (ed_sJr μ 7 σ 18 0) (ed_e18 cy B 7 0 _) rfl (by decide) dX7_add_8 ?_
  refine ed_kI (ed_rN S hK hM (c_X8_isPlace _ D cy (ed_P D cy B (ed_sJ μ 7 σ)) (ed_A B) (σ 17 0 1) 40) ⟨va_cnB 2 S.2.2.2.2 (ed_gA ed_w2_107) rfl rfl rfl (ed_n12 hK) (S.2.2.2.2 _ ed_w1_1) hn_X8_isPlace ⟨Nat.le_of_ble_eq_true rfl, Nat.le_of_ble_eq_true rfl⟩, S.2.2.2.2 _ ed_w2_106, trivial⟩ rfl hl.1 rfl (Nat.le_of_ble_eq_true rfl) dX7_add_9 ⟨Nat.zero_le _, Nat.zero_le _⟩) hS (fun H locs hM hS => ?_)
  refine lv_if_eq (tgt := 35) S.1 S.2.1 dX7_add_12 (by decide) (fun c2 => ?_) (fun c2 => ?_)
  · replace hf := ed_ip c2 hf
    obtain rfl := Option.some.inj hf
    exact ed_rv S hr hlocks hM hS dX7_add_35
  · replace hf := ed_in_ c2 hf
    refine lv_aload_n S.1 S.2.1 dX7_add_15 rfl (lv_at hl 0 rfl) ?_
    refine ed_get (r := (σ 17 0)) S ed_uX7 hK hM ed_v17 (ed_sJr μ 7 σ 17 0) (ed_e17 cy B 7 0 _) rfl 0 (by decide) ed_w2_35 rfl rfl dX7_add_16 ?_
    refine lv_aload_n S.1 S.2.1 dX7_add_19 rfl (lv_at hl 0 rfl) ?_
    refine ed_get (r := (σ 17 0)) S ed_uX7 hK hM ed_v17 (ed_sJr μ 7 σ 17 0) (ed_e17 cy B 7 0 _) rfl 1 (by decide) ed_w2_36 rfl rfl dX7_add_20 ?_
    refine lv_iload_n S.1 S.2.1 dX7_add_23 rfl (lv_at hl 1 rfl) ?_
    obtain ⟨hx3, hf⟩ := ed_g_e hf
    refine ed_ist (j := 7) S hK hM hS ed_v18 (ed_e18 cy B 7 0) hx3 dX7_add_24 (fun H locs hM hS => ?_)
    obtain ⟨σ4, eσ4, hf⟩ := ed_t_e hf
    have hM : ed_P D cy B (ed_sJ μ 7 σ4) H := by rw [eσ4]; exact hM
    refine lv_aload_n S.1 S.2.1 dX7_add_25 rfl (lv_at hl 0 rfl) ?_
    refine lv_dup S.1 S.2.1 dX7_add_26 rfl ?_
    refine ed_get (r := (σ4 17 0)) S ed_uX7 hK hM ed_v17 (ed_sJr μ 7 σ4 17 0) (ed_e17 cy B 7 0 _) rfl 1 (by decide) ed_w2_36 rfl rfl dX7_add_27 ?_
    refine lv_iconst (v := 1) S.1 S.2.1 dX7_add_30 (by decide) ?_
    refine lv_iadd S.1 S.2.1 dX7_add_31 ?_
    refine ed_put (j := 7) S ed_uX7 tyX7 tyX7_ok nmX7 hK hM hS ed_v17 (ed_e17 cy B 7 0 _) rfl 1 (by decide) ed_w2_36 rfl rfl rfl rfl (Nat.le_of_ble_eq_true rfl) (ed_u17_1 cy B 7 0 _ _) dX7_add_32 (fun H locs hM hS => ?_)
    obtain ⟨σ5, eσ5, hf⟩ := ed_t_e hf
    have hM : ed_P D cy B (ed_sJ μ 7 σ5) H := by rw [eσ5]; exact hM
    obtain rfl := Option.some.inj hf
    exact ed_rv S hr hlocks hM hS dX7_add_35
set_option maxHeartbeats 4000000 in
set_option maxRecDepth 100000 in
theorem c_X7_sign (l : Launch) (D : va_G) (cy : Nat → ClassId) (B : Nat) (μ : ed_CM) (σ : ed_SM) (r : Int32) (hf : f_X7_sign σ = some r) :
    Met l yX7_sign wsX7_sign rmX7_sign (ed_pC D cy (ed_P D cy B (ed_sJ μ 7 σ)) [.ref (B + ed_oF 7 17 0)]) (ed_qI (ed_A B) (ed_P D cy B (ed_sJ μ 7 σ)) r) 0 0 (ed_A B) := by
  refine Met.ofW (cc := cX7_sign) (maxL := 1) (ret := (some .int)) (by decide) rfl ?_
  intro p e s m args below meth c s₁ B0 hml hv
  obtain ⟨rfl, hM, hK⟩ := hv
  have S : CallFix p m c cX7_sign 1 s _ ed_ws RX7 := ⟨B0.exec, B0.bytes, hml, findClass_of_methodNamed B0.named, fun w hw => atoms_spec (ws := wsX7_sign) B0.pre w (List.mem_cons_of_mem _ hw)⟩
  have hr := B0.returns
  have hlocks := B0.notSynchronized
  have hS : va_S (ed_A B) s.heap s.heap [] := va_S.rf
  have hl := lv_entry ([.ref (B + ed_oF 7 17 0)]) (n := 1) (Nat.le_of_ble_eq_true rfl)
  rw [lg_entry_eq]
  generalize (lg_sl ([.ref (B + ed_oF 7 17 0)]) ++ List.replicate (1 - (lg_sl ([.ref (B + ed_oF 7 17 0)])).length) Slot.unset).toArray = ls at hl ⊢
  have hl : lv_has ls 1 [(0, .ref (B + ed_oF 7 17 0))] := hl
  unfold f_X7_sign at hf
  refine lv_aload_n S.1 S.2.1 dX7_sign_0 rfl (lv_at hl 0 rfl) ?_
  refine ed_get (r := (σ 17 0)) S ed_uX7 hK hM ed_v17 (ed_sJr μ 7 σ 17 0) (ed_e17 cy B 7 0 _) rfl 2 (by decide) ed_w2_38 rfl rfl dX7_sign_1 ?_
  refine lv_aload_n S.1 S.2.1 dX7_sign_4 rfl (lv_at hl 0 rfl) ?_
  refine ed_get (r := (σ 17 0)) S ed_uX7 hK hM ed_v17 (ed_sJr μ 7 σ 17 0) (ed_e17 cy B 7 0 _) rfl 1 (by decide) ed_w2_36 rfl rfl dX7_sign_5 ?_
  refine lv_aload_n S.1 S.2.1 dX7_sign_8 rfl (lv_at hl 0 rfl) ?_
  refine ed_get (r := (σ 17 0)) S ed_uX7 hK hM ed_v17 (ed_sJr μ 7 σ 17 0) (ed_e17 cy B 7 0 _) rfl 0 (by decide) ed_w2_35 rfl rfl dX7_sign_9 ?_
  refine ed_len (r := (σ 18 0)) (v := 40) (ty := .int) (t := 0) S hK hM ed_v18 (ed_sJr μ 7 σ 18 0) (ed_e18 cy B 7 0 _) rfl (by decide) dX7_sign_12 ?_
  refine ed_min S hl.1 ed_w2_205 ed_w2_120 ed_w1_10 ed_w2_121 (Nat.le_of_ble_eq_true rfl) (Nat.le_of_ble_eq_true rfl) ⟨Nat.zero_le _, Nat.zero_le _⟩ dX7_sign_13 ?_
  refine ed_kI (ed_rN S hK hM (c_X8_isPlace _ D cy (ed_P D cy B (ed_sJ μ 7 σ)) (ed_A B) (σ 17 0 2) (if 40 < (σ 17 0 1) then 40 else (σ 17 0 1))) ⟨va_cnB 2 S.2.2.2.2 (ed_gA ed_w2_107) rfl rfl rfl (ed_n12 hK) (S.2.2.2.2 _ ed_w1_1) hn_X8_isPlace ⟨Nat.le_of_ble_eq_true rfl, Nat.le_of_ble_eq_true rfl⟩, S.2.2.2.2 _ ed_w2_106, trivial⟩ rfl hl.1 rfl (Nat.le_of_ble_eq_true rfl) dX7_sign_16 ⟨Nat.zero_le _, Nat.zero_le _⟩) hS (fun H locs hM hS => ?_)
  refine lv_if_eq (tgt := 34) S.1 S.2.1 dX7_sign_19 (by decide) (fun c2 => ?_) (fun c2 => ?_)
  · replace hf := ed_ip c2 hf
    refine lv_iconst (v := (-1)) S.1 S.2.1 dX7_sign_34 (by decide) ?_
    obtain rfl := Option.some.inj hf
    exact ed_ri S hr hlocks hM hS dX7_sign_35
  · replace hf := ed_in_ c2 hf
    refine lv_aload_n S.1 S.2.1 dX7_sign_22 rfl (lv_at hl 0 rfl) ?_
    refine ed_get (r := (σ 17 0)) S ed_uX7 hK hM ed_v17 (ed_sJr μ 7 σ 17 0) (ed_e17 cy B 7 0 _) rfl 0 (by decide) ed_w2_35 rfl rfl dX7_sign_23 ?_
    refine lv_aload_n S.1 S.2.1 dX7_sign_26 rfl (lv_at hl 0 rfl) ?_
    refine ed_get (r := (σ 17 0)) S ed_uX7 hK hM ed_v17 (ed_sJr μ 7 σ 17 0) (ed_e17 cy B 7 0 _) rfl 2 (by decide) ed_w2_38 rfl rfl dX7_sign_27 ?_
    obtain ⟨hx3, hf⟩ := ed_g_e hf
    refine ed_ild (r := (σ 18 0)) S hK hM ed_v18 (ed_sJr μ 7 σ 18 0) (ed_e18 cy B 7 0 _) hx3 dX7_sign_30 ?_
    refine lv_goto (tgt := 35) S.1 S.2.1 dX7_sign_31 (by decide) ?_
    obtain rfl := Option.some.inj hf
    exact ed_ri S hr hlocks hM hS dX7_sign_35
set_option maxHeartbeats 4000000 in
set_option maxRecDepth 100000 in
theorem c_X7_digit (l : Launch) (D : va_G) (cy : Nat → ClassId) (B : Nat) (μ : ed_CM) (σ : ed_SM) (r : Int32) (hf : f_X7_digit σ = some r) :
    Met l yX7_digit wsX7_digit rmX7_digit (ed_pC D cy (ed_P D cy B (ed_sJ μ 7 σ)) [.ref (B + ed_oF 7 17 0)]) (ed_qI (ed_A B) (ed_P D cy B (ed_sJ μ 7 σ)) r) 0 0 (ed_A B) := by
  refine Met.ofW (cc := cX7_digit) (maxL := 1) (ret := (some .int)) (by decide) rfl ?_
  intro p e s m args below meth c s₁ B0 hml hv
  obtain ⟨rfl, hM, hK⟩ := hv
  have S : CallFix p m c cX7_digit 1 s _ ed_ws RX7 := ⟨B0.exec, B0.bytes, hml, findClass_of_methodNamed B0.named, fun w hw => atoms_spec (ws := wsX7_digit) B0.pre w (List.mem_cons_of_mem _ hw)⟩
  have hr := B0.returns
  have hlocks := B0.notSynchronized
  have hS : va_S (ed_A B) s.heap s.heap [] := va_S.rf
  have hl := lv_entry ([.ref (B + ed_oF 7 17 0)]) (n := 1) (Nat.le_of_ble_eq_true rfl)
  rw [lg_entry_eq]
  generalize (lg_sl ([.ref (B + ed_oF 7 17 0)]) ++ List.replicate (1 - (lg_sl ([.ref (B + ed_oF 7 17 0)])).length) Slot.unset).toArray = ls at hl ⊢
  have hl : lv_has ls 1 [(0, .ref (B + ed_oF 7 17 0))] := hl
  unfold f_X7_digit at hf
  refine lv_aload_n S.1 S.2.1 dX7_digit_0 rfl (lv_at hl 0 rfl) ?_
  obtain ⟨r1, hq1, hf⟩ := ed_b_e hf
  refine ed_kI (ed_rV S hK hM (c_X7_sign _ D cy B μ σ r1 hq1) (cwV 0 S.2.2.2.2 (ed_gV ed_w2_201 ed_w2_203 ed_wp_7 ed_w1_9 ed_w2_204) rfl rfl rfl hd_X7_sign ⟨Nat.le_of_ble_eq_true rfl, Nat.le_of_ble_eq_true rfl⟩) (ed_rc (q := (RX7, TX7, 9)) (r := (σ 17 0)) hK hM ed_v17 (ed_sJr μ 7 σ 17 0) (ed_e17 cy B 7 0 _) rfl) rfl hl.1 rfl (Nat.le_of_ble_eq_true rfl) dX7_digit_1 ⟨Nat.zero_le _, Nat.zero_le _⟩) hS (fun H locs hM hS => ?_)
  refine lv_bipush (v := 48) S.1 S.2.1 dX7_digit_4 (by decide) ?_
  refine lv_bipush (v := 57) S.1 S.2.1 dX7_digit_6 (by decide) ?_
  refine ed_kI (ed_rN S hK hM (c_X8_isBetween _ D cy (ed_P D cy B (ed_sJ μ 7 σ)) (ed_A B) r1 48 57) ⟨va_cnB 3 S.2.2.2.2 (ed_gA ed_w2_95) rfl rfl rfl (ed_n13 hK) (S.2.2.2.2 _ ed_w1_1) hn_X8_isBetween ⟨Nat.le_of_ble_eq_true rfl, Nat.le_of_ble_eq_true rfl⟩, S.2.2.2.2 _ ed_w2_94, trivial⟩ rfl hl.1 rfl (Nat.le_of_ble_eq_true rfl) dX7_digit_8 ⟨Nat.zero_le _, Nat.zero_le _⟩) hS (fun H locs hM hS => ?_)
  refine lv_if_eq (tgt := 24) S.1 S.2.1 dX7_digit_11 (by decide) (fun c3 => ?_) (fun c3 => ?_)
  · replace hf := ed_ip c3 hf
    refine lv_iconst (v := (-1)) S.1 S.2.1 dX7_digit_24 (by decide) ?_
    obtain rfl := Option.some.inj hf
    exact ed_ri S hr hlocks hM hS dX7_digit_25
  · replace hf := ed_in_ c3 hf
    refine lv_aload_n S.1 S.2.1 dX7_digit_14 rfl (lv_at hl 0 rfl) ?_
    obtain ⟨r4, hq4, hf⟩ := ed_b_e hf
    refine ed_kI (ed_rV S hK hM (c_X7_sign _ D cy B μ σ r4 hq4) (cwV 0 S.2.2.2.2 (ed_gV ed_w2_201 ed_w2_203 ed_wp_7 ed_w1_9 ed_w2_204) rfl rfl rfl hd_X7_sign ⟨Nat.le_of_ble_eq_true rfl, Nat.le_of_ble_eq_true rfl⟩) (ed_rc (q := (RX7, TX7, 9)) (r := (σ 17 0)) hK hM ed_v17 (ed_sJr μ 7 σ 17 0) (ed_e17 cy B 7 0 _) rfl) rfl hl.1 rfl (Nat.le_of_ble_eq_true rfl) dX7_digit_15 ⟨Nat.zero_le _, Nat.zero_le _⟩) hS (fun H locs hM hS => ?_)
    refine lv_bipush (v := 48) S.1 S.2.1 dX7_digit_18 (by decide) ?_
    refine lv_isub S.1 S.2.1 dX7_digit_20 ?_
    refine lv_goto (tgt := 25) S.1 S.2.1 dX7_digit_21 (by decide) ?_
    obtain rfl := Option.some.inj hf
    exact ed_ri S hr hlocks hM hS dX7_digit_25
set_option maxHeartbeats 4000000 in
set_option maxRecDepth 100000 in
theorem c_X7_readTopic (l : Launch) (D : va_G) (cy : Nat → ClassId) (B : Nat) (μ : ed_CM) (σ : ed_SM) (r : Int32) (σ' : ed_SM) (hf : f_X7_readTopic σ = some (r, σ')) :
    Met l yX7_readTopic wsX7_readTopic rmX7_readTopic (ed_pC D cy (ed_P D cy B (ed_sJ μ 7 σ)) [.ref (B + ed_oF 7 17 0)]) (ed_qI (ed_A B) (ed_P D cy B (ed_sJ μ 7 σ')) r) 0 0 (ed_A B) := by
  refine Met.ofW (cc := cX7_readTopic) (maxL := 1) (ret := (some .boolean)) (by decide) rfl ?_
  intro p e s m args below meth c s₁ B0 hml hv
  obtain ⟨rfl, hM, hK⟩ := hv
  have S : CallFix p m c cX7_readTopic 1 s _ ed_ws RX7 := ⟨B0.exec, B0.bytes, hml, findClass_of_methodNamed B0.named, fun w hw => atoms_spec (ws := wsX7_readTopic) B0.pre w (List.mem_cons_of_mem _ hw)⟩
  have hr := B0.returns
  have hlocks := B0.notSynchronized
  have hS : va_S (ed_A B) s.heap s.heap [] := va_S.rf
  have hl := lv_entry ([.ref (B + ed_oF 7 17 0)]) (n := 1) (Nat.le_of_ble_eq_true rfl)
  rw [lg_entry_eq]
  generalize (lg_sl ([.ref (B + ed_oF 7 17 0)]) ++ List.replicate (1 - (lg_sl ([.ref (B + ed_oF 7 17 0)])).length) Slot.unset).toArray = ls at hl ⊢
  have hl : lv_has ls 1 [(0, .ref (B + ed_oF 7 17 0))] := hl
  unfold f_X7_readTopic at hf
  refine lv_aload_n S.1 S.2.1 dX7_readTopic_0 rfl (lv_at hl 0 rfl) ?_
  refine lv_aload_n S.1 S.2.1 dX7_readTopic_1 rfl (lv_at hl 0 rfl) ?_
  obtain ⟨r1, hq1, hf⟩ := ed_b_e hf
  refine ed_kI (ed_rV S hK hM (c_X7_digit _ D cy B μ σ r1 hq1) (cwV 0 S.2.2.2.2 (ed_gV ed_w2_197 ed_w2_199 ed_wp_6 ed_w1_9 ed_w2_200) rfl rfl rfl hd_X7_digit ⟨Nat.le_of_ble_eq_true rfl, Nat.le_of_ble_eq_true rfl⟩) (ed_rc (q := (RX7, TX7, 9)) (r := (σ 17 0)) hK hM ed_v17 (ed_sJr μ 7 σ 17 0) (ed_e17 cy B 7 0 _) rfl) rfl hl.1 rfl (Nat.le_of_ble_eq_true rfl) dX7_readTopic_2 ⟨Nat.zero_le _, Nat.zero_le _⟩) hS (fun H locs hM hS => ?_)
  refine ed_put (j := 7) S ed_uX7 tyX7 tyX7_ok nmX7 hK hM hS ed_v17 (ed_e17 cy B 7 0 _) rfl 3 (by decide) ed_w2_40 rfl rfl rfl rfl (Nat.le_of_ble_eq_true rfl) (ed_u17_3 cy B 7 0 _ _) dX7_readTopic_5 (fun H locs hM hS => ?_)
  obtain ⟨σ2, eσ2, hf⟩ := ed_t_e hf
  have hM : ed_P D cy B (ed_sJ μ 7 σ2) H := by rw [eσ2]; exact hM
  refine lv_aload_n S.1 S.2.1 dX7_readTopic_8 rfl (lv_at hl 0 rfl) ?_
  refine ed_get (r := (σ2 17 0)) S ed_uX7 hK hM ed_v17 (ed_sJr μ 7 σ2 17 0) (ed_e17 cy B 7 0 _) rfl 3 (by decide) ed_w2_40 rfl rfl dX7_readTopic_9 ?_
  refine lv_iconst (v := 0) S.1 S.2.1 dX7_readTopic_12 (by decide) ?_
  refine lv_bipush (v := 7) S.1 S.2.1 dX7_readTopic_13 (by decide) ?_
  refine ed_kI (ed_rN S hK hM (c_X8_isBetween _ D cy (ed_P D cy B (ed_sJ μ 7 σ2)) (ed_A B) (σ2 17 0 3) 0 7) ⟨va_cnB 3 S.2.2.2.2 (ed_gA ed_w2_95) rfl rfl rfl (ed_n13 hK) (S.2.2.2.2 _ ed_w1_1) hn_X8_isBetween ⟨Nat.le_of_ble_eq_true rfl, Nat.le_of_ble_eq_true rfl⟩, S.2.2.2.2 _ ed_w2_94, trivial⟩ rfl hl.1 rfl (Nat.le_of_ble_eq_true rfl) dX7_readTopic_15 ⟨Nat.zero_le _, Nat.zero_le _⟩) hS (fun H locs hM hS => ?_)
  refine lv_if_ne (tgt := 23) S.1 S.2.1 dX7_readTopic_18 (by decide) (fun c4 => ?_) (fun c4 => ?_)
  · replace hf := ed_in_ c4 hf
    refine lv_aload_n S.1 S.2.1 dX7_readTopic_23 rfl (lv_at hl 0 rfl) ?_
    refine lv_dup S.1 S.2.1 dX7_readTopic_24 rfl ?_
    refine ed_get (r := (σ2 17 0)) S ed_uX7 hK hM ed_v17 (ed_sJr μ 7 σ2 17 0) (ed_e17 cy B 7 0 _) rfl 2 (by decide) ed_w2_38 rfl rfl dX7_readTopic_25 ?_
    refine lv_iconst (v := 1) S.1 S.2.1 dX7_readTopic_28 (by decide) ?_
    refine lv_iadd S.1 S.2.1 dX7_readTopic_29 ?_
    refine ed_put (j := 7) S ed_uX7 tyX7 tyX7_ok nmX7 hK hM hS ed_v17 (ed_e17 cy B 7 0 _) rfl 2 (by decide) ed_w2_38 rfl rfl rfl rfl (Nat.le_of_ble_eq_true rfl) (ed_u17_2 cy B 7 0 _ _) dX7_readTopic_30 (fun H locs hM hS => ?_)
    obtain ⟨σ5, eσ5, hf⟩ := ed_t_e hf
    have hM : ed_P D cy B (ed_sJ μ 7 σ5) H := by rw [eσ5]; exact hM
    refine lv_iconst (v := 1) S.1 S.2.1 dX7_readTopic_33 (by decide) ?_
    obtain ⟨rfl, rfl⟩ := ed_so hf
    exact ed_rz S hr hlocks rfl hM hS dX7_readTopic_34
  · replace hf := ed_ip c4 hf
    refine lv_iconst (v := 0) S.1 S.2.1 dX7_readTopic_21 (by decide) ?_
    obtain ⟨rfl, rfl⟩ := ed_so hf
    exact ed_rz S hr hlocks rfl hM hS dX7_readTopic_22
set_option maxHeartbeats 4000000 in
set_option maxRecDepth 100000 in
theorem c_X7_readSign (l : Launch) (D : va_G) (cy : Nat → ClassId) (B : Nat) (μ : ed_CM) (x1 : Int32) (σ : ed_SM) (r : Int32) (σ' : ed_SM) (hf : f_X7_readSign x1 σ = some (r, σ')) :
    Met l yX7_readSign wsX7_readSign rmX7_readSign (ed_pC D cy (ed_P D cy B (ed_sJ μ 7 σ)) [.ref (B + ed_oF 7 17 0), .int x1]) (ed_qI (ed_A B) (ed_P D cy B (ed_sJ μ 7 σ')) r) 0 0 (ed_A B) := by
  refine Met.ofW (cc := cX7_readSign) (maxL := 2) (ret := (some .boolean)) (by decide) rfl ?_
  intro p e s m args below meth c s₁ B0 hml hv
  obtain ⟨rfl, hM, hK⟩ := hv
  have S : CallFix p m c cX7_readSign 2 s _ ed_ws RX7 := ⟨B0.exec, B0.bytes, hml, findClass_of_methodNamed B0.named, fun w hw => atoms_spec (ws := wsX7_readSign) B0.pre w (List.mem_cons_of_mem _ hw)⟩
  have hr := B0.returns
  have hlocks := B0.notSynchronized
  have hS : va_S (ed_A B) s.heap s.heap [] := va_S.rf
  have hl := lv_entry ([.ref (B + ed_oF 7 17 0), .int x1]) (n := 2) (Nat.le_of_ble_eq_true rfl)
  rw [lg_entry_eq]
  generalize (lg_sl ([.ref (B + ed_oF 7 17 0), .int x1]) ++ List.replicate (2 - (lg_sl ([.ref (B + ed_oF 7 17 0), .int x1])).length) Slot.unset).toArray = ls at hl ⊢
  have hl : lv_has ls 2 [(0, .ref (B + ed_oF 7 17 0)), (1, .int x1)] := hl
  unfold f_X7_readSign at hf
  refine lv_aload_n S.1 S.2.1 dX7_readSign_0 rfl (lv_at hl 0 rfl) ?_
  obtain ⟨r1, hq1, hf⟩ := ed_b_e hf
  refine ed_kI (ed_rV S hK hM (c_X7_sign _ D cy B μ σ r1 hq1) (cwV 0 S.2.2.2.2 (ed_gV ed_w2_201 ed_w2_203 ed_wp_7 ed_w1_9 ed_w2_204) rfl rfl rfl hd_X7_sign ⟨Nat.le_of_ble_eq_true rfl, Nat.le_of_ble_eq_true rfl⟩) (ed_rc (q := (RX7, TX7, 9)) (r := (σ 17 0)) hK hM ed_v17 (ed_sJr μ 7 σ 17 0) (ed_e17 cy B 7 0 _) rfl) rfl hl.1 rfl (Nat.le_of_ble_eq_true rfl) dX7_readSign_1 ⟨Nat.zero_le _, Nat.zero_le _⟩) hS (fun H locs hM hS => ?_)
  refine lv_iload_n S.1 S.2.1 dX7_readSign_4 rfl (lv_at hl 1 rfl) ?_
  refine lv_icmp_eq (tgt := 10) S.1 S.2.1 dX7_readSign_5 (by decide) (fun c2 => ?_) (fun c2 => ?_)
  · replace hf := ed_ip c2 hf
    refine lv_aload_n S.1 S.2.1 dX7_readSign_10 rfl (lv_at hl 0 rfl) ?_
    refine lv_dup S.1 S.2.1 dX7_readSign_11 rfl ?_
    refine ed_get (r := (σ 17 0)) S ed_uX7 hK hM ed_v17 (ed_sJr μ 7 σ 17 0) (ed_e17 cy B 7 0 _) rfl 2 (by decide) ed_w2_38 rfl rfl dX7_readSign_12 ?_
    refine lv_iconst (v := 1) S.1 S.2.1 dX7_readSign_15 (by decide) ?_
    refine lv_iadd S.1 S.2.1 dX7_readSign_16 ?_
    refine ed_put (j := 7) S ed_uX7 tyX7 tyX7_ok nmX7 hK hM hS ed_v17 (ed_e17 cy B 7 0 _) rfl 2 (by decide) ed_w2_38 rfl rfl rfl rfl (Nat.le_of_ble_eq_true rfl) (ed_u17_2 cy B 7 0 _ _) dX7_readSign_17 (fun H locs hM hS => ?_)
    obtain ⟨σ3, eσ3, hf⟩ := ed_t_e hf
    have hM : ed_P D cy B (ed_sJ μ 7 σ3) H := by rw [eσ3]; exact hM
    refine lv_iconst (v := 1) S.1 S.2.1 dX7_readSign_20 (by decide) ?_
    obtain ⟨rfl, rfl⟩ := ed_so hf
    exact ed_rz S hr hlocks rfl hM hS dX7_readSign_21
  · replace hf := ed_in_ c2 hf
    refine lv_iconst (v := 0) S.1 S.2.1 dX7_readSign_8 (by decide) ?_
    obtain ⟨rfl, rfl⟩ := ed_so hf
    exact ed_rz S hr hlocks rfl hM hS dX7_readSign_9
set_option maxHeartbeats 4000000 in
set_option maxRecDepth 100000 in
theorem w_X7_isInByline_2 {p : Program} {l : Launch} {e : Env} {s : State} {m : MethodId} {args : Array Value} {below : List Frame} {meth : Method} {c : Code} {D : va_G} {cy : Nat → ClassId} {B : Nat} {μ : ed_CM} (S : CallFix p m c cX7_isInByline 3 s args ed_ws RX7) (hr : meth.sig.returnType = (some .boolean)) (hlocks : meth.locks = false) (hK : ed_K D cy s) (σ : ed_SM) (r : Int32) :
    ∀ (n : Nat), ∀ (x1 x2 : Int32), f_X7_isInByline_2 σ n x1 x2 = some r → ∀ (H : Heap) (locs : List Loc) (ls : Array Slot), ed_P D cy B (ed_sJ μ 7 σ) H → va_S (ed_A B) s.heap H locs → lv_has ls 3 [(0, .ref (B + ed_oF 7 17 0)), (1, .int x1), (2, .int x2)] → W p l e (headSpec wsX7_isInByline rmX7_isInByline).room s m args below meth c H locs 0 0 (MQ below (ed_qI (ed_A B) (ed_P D cy B (ed_sJ μ 7 σ)) r) args s 0 0 (ed_A B)) (F0 m 2 ls []) := by
  intro n
  induction n with
  | zero => intro x1 x2 hf; rw [f_X7_isInByline_2] at hf; cases hf
  | succ n ih =>
    intro x1 x2 hf H locs ls hM hS hl
    rw [f_X7_isInByline_2] at hf
    refine lv_iload_n S.1 S.2.1 dX7_isInByline_2 rfl (lv_at hl 2 rfl) ?_
    refine lv_aload_n S.1 S.2.1 dX7_isInByline_3 rfl (lv_at hl 0 rfl) ?_
    refine ed_get (r := (σ 17 0)) S ed_uX7 hK hM ed_v17 (ed_sJr μ 7 σ 17 0) (ed_e17 cy B 7 0 _) rfl 4 (by decide) ed_w2_42 rfl rfl dX7_isInByline_4 ?_
    refine lv_icmp_ge (tgt := 37) S.1 S.2.1 dX7_isInByline_7 (by decide) (fun c1 => ?_) (fun c1 => ?_)
    · replace hf := ed_ip c1 hf
      refine lv_iconst (v := 0) S.1 S.2.1 dX7_isInByline_37 (by decide) ?_
      obtain rfl := Option.some.inj hf
      exact ed_rz S hr hlocks rfl hM hS dX7_isInByline_38
    · replace hf := ed_in_ c1 hf
      refine lv_iload_n S.1 S.2.1 dX7_isInByline_10 rfl (lv_at hl 2 rfl) ?_
      refine lv_aload_n S.1 S.2.1 dX7_isInByline_11 rfl (lv_at hl 0 rfl) ?_
      refine ed_get (r := (σ 17 0)) S ed_uX7 hK hM ed_v17 (ed_sJr μ 7 σ 17 0) (ed_e17 cy B 7 0 _) rfl 5 (by decide) ed_w2_43 rfl rfl dX7_isInByline_12 ?_
      refine ed_len (r := (σ 19 0)) (v := 3) (ty := .int) (t := 0) S hK hM ed_v19 (ed_sJr μ 7 σ 19 0) (ed_e19 cy B 7 0 _) rfl (by decide) dX7_isInByline_15 ?_
      refine lv_icmp_ge (tgt := 37) S.1 S.2.1 dX7_isInByline_16 (by decide) (fun c2 => ?_) (fun c2 => ?_)
      · replace hf := ed_ip c2 hf
        refine lv_iconst (v := 0) S.1 S.2.1 dX7_isInByline_37 (by decide) ?_
        obtain rfl := Option.some.inj hf
        exact ed_rz S hr hlocks rfl hM hS dX7_isInByline_38
      · replace hf := ed_in_ c2 hf
        refine lv_aload_n S.1 S.2.1 dX7_isInByline_19 rfl (lv_at hl 0 rfl) ?_
        refine ed_get (r := (σ 17 0)) S ed_uX7 hK hM ed_v17 (ed_sJr μ 7 σ 17 0) (ed_e17 cy B 7 0 _) rfl 5 (by decide) ed_w2_43 rfl rfl dX7_isInByline_20 ?_
        refine lv_iload_n S.1 S.2.1 dX7_isInByline_23 rfl (lv_at hl 2 rfl) ?_
        obtain ⟨hx3, hf⟩ := ed_g_e hf
        refine ed_ild (r := (σ 19 0)) S hK hM ed_v19 (ed_sJr μ 7 σ 19 0) (ed_e19 cy B 7 0 _) hx3 dX7_isInByline_24 ?_
        refine lv_iload_n S.1 S.2.1 dX7_isInByline_25 rfl (lv_at hl 1 rfl) ?_
        refine lv_icmp_ne (tgt := 31) S.1 S.2.1 dX7_isInByline_26 (by decide) (fun c4 => ?_) (fun c4 => ?_)
        · replace hf := ed_in_ c4 hf
          refine lv_iinc (v := x2 + 1) (lv' := [(2, .int (x2 + 1)), (0, .ref (B + ed_oF 7 17 0)), (1, .int x1)]) S.1 S.2.1 dX7_isInByline_31 hl (k := 2) rfl rfl (by decide) rfl (fun ls hl => ?_)
          refine lv_goto (tgt := 2) S.1 S.2.1 dX7_isInByline_34 (by decide) ?_
          exact ih x1 (x2 + 1) hf _ _ _ hM hS (lv_sub hl [1, 2, 0] rfl)
        · replace hf := ed_ip c4 hf
          refine lv_iconst (v := 1) S.1 S.2.1 dX7_isInByline_29 (by decide) ?_
          obtain rfl := Option.some.inj hf
          exact ed_rz S hr hlocks rfl hM hS dX7_isInByline_30
set_option maxHeartbeats 4000000 in
set_option maxRecDepth 100000 in
theorem c_X7_isInByline (l : Launch) (D : va_G) (cy : Nat → ClassId) (B : Nat) (μ : ed_CM) (x1 : Int32) (σ : ed_SM) (r : Int32) (hf : f_X7_isInByline x1 σ = some r) :
    Met l yX7_isInByline wsX7_isInByline rmX7_isInByline (ed_pC D cy (ed_P D cy B (ed_sJ μ 7 σ)) [.ref (B + ed_oF 7 17 0), .int x1]) (ed_qI (ed_A B) (ed_P D cy B (ed_sJ μ 7 σ)) r) 0 0 (ed_A B) := by
  refine Met.ofW (cc := cX7_isInByline) (maxL := 3) (ret := (some .boolean)) (by decide) rfl ?_
  intro p e s m args below meth c s₁ B0 hml hv
  obtain ⟨rfl, hM, hK⟩ := hv
  have S : CallFix p m c cX7_isInByline 3 s _ ed_ws RX7 := ⟨B0.exec, B0.bytes, hml, findClass_of_methodNamed B0.named, fun w hw => atoms_spec (ws := wsX7_isInByline) B0.pre w (List.mem_cons_of_mem _ hw)⟩
  have hr := B0.returns
  have hlocks := B0.notSynchronized
  have hS : va_S (ed_A B) s.heap s.heap [] := va_S.rf
  have hl := lv_entry ([.ref (B + ed_oF 7 17 0), .int x1]) (n := 3) (Nat.le_of_ble_eq_true rfl)
  rw [lg_entry_eq]
  generalize (lg_sl ([.ref (B + ed_oF 7 17 0), .int x1]) ++ List.replicate (3 - (lg_sl ([.ref (B + ed_oF 7 17 0), .int x1])).length) Slot.unset).toArray = ls at hl ⊢
  have hl : lv_has ls 3 [(0, .ref (B + ed_oF 7 17 0)), (1, .int x1)] := hl
  unfold f_X7_isInByline at hf
  refine lv_iconst (v := 0) S.1 S.2.1 dX7_isInByline_0 (by decide) ?_
  refine lv_istore_n (lv' := [(2, .int 0), (0, .ref (B + ed_oF 7 17 0)), (1, .int x1)]) S.1 S.2.1 dX7_isInByline_1 rfl hl (by decide) rfl (fun ls hl => ?_)
  exact w_X7_isInByline_2 S hr hlocks hK σ r ed_N x1 0 hf _ _ _ hM hS (lv_sub hl [1, 2, 0] rfl)
set_option maxHeartbeats 4000000 in
set_option maxRecDepth 100000 in
theorem c_X7_readPerson (l : Launch) (D : va_G) (cy : Nat → ClassId) (B : Nat) (μ : ed_CM) (σ : ed_SM) (r : Int32) (σ' : ed_SM) (hf : f_X7_readPerson σ = some (r, σ')) :
    Met l yX7_readPerson wsX7_readPerson rmX7_readPerson (ed_pC D cy (ed_P D cy B (ed_sJ μ 7 σ)) [.ref (B + ed_oF 7 17 0)]) (ed_qI (ed_A B) (ed_P D cy B (ed_sJ μ 7 σ')) r) 0 0 (ed_A B) := by
  refine Met.ofW (cc := cX7_readPerson) (maxL := 2) (ret := (some .boolean)) (by decide) rfl ?_
  intro p e s m args below meth c s₁ B0 hml hv
  obtain ⟨rfl, hM, hK⟩ := hv
  have S : CallFix p m c cX7_readPerson 2 s _ ed_ws RX7 := ⟨B0.exec, B0.bytes, hml, findClass_of_methodNamed B0.named, fun w hw => atoms_spec (ws := wsX7_readPerson) B0.pre w (List.mem_cons_of_mem _ hw)⟩
  have hr := B0.returns
  have hlocks := B0.notSynchronized
  have hS : va_S (ed_A B) s.heap s.heap [] := va_S.rf
  have hl := lv_entry ([.ref (B + ed_oF 7 17 0)]) (n := 2) (Nat.le_of_ble_eq_true rfl)
  rw [lg_entry_eq]
  generalize (lg_sl ([.ref (B + ed_oF 7 17 0)]) ++ List.replicate (2 - (lg_sl ([.ref (B + ed_oF 7 17 0)])).length) Slot.unset).toArray = ls at hl ⊢
  have hl : lv_has ls 2 [(0, .ref (B + ed_oF 7 17 0))] := hl
  unfold f_X7_readPerson at hf
  refine lv_aload_n S.1 S.2.1 dX7_readPerson_0 rfl (lv_at hl 0 rfl) ?_
  obtain ⟨r1, hq1, hf⟩ := ed_b_e hf
  refine ed_kI (ed_rV S hK hM (c_X7_digit _ D cy B μ σ r1 hq1) (cwV 0 S.2.2.2.2 (ed_gV ed_w2_197 ed_w2_199 ed_wp_6 ed_w1_9 ed_w2_200) rfl rfl rfl hd_X7_digit ⟨Nat.le_of_ble_eq_true rfl, Nat.le_of_ble_eq_true rfl⟩) (ed_rc (q := (RX7, TX7, 9)) (r := (σ 17 0)) hK hM ed_v17 (ed_sJr μ 7 σ 17 0) (ed_e17 cy B 7 0 _) rfl) rfl hl.1 rfl (Nat.le_of_ble_eq_true rfl) dX7_readPerson_1 ⟨Nat.zero_le _, Nat.zero_le _⟩) hS (fun H locs hM hS => ?_)
  refine lv_istore_n (lv' := [(1, .int r1), (0, .ref (B + ed_oF 7 17 0))]) S.1 S.2.1 dX7_readPerson_4 rfl hl (by decide) rfl (fun ls hl => ?_)
  refine lv_iload_n S.1 S.2.1 dX7_readPerson_5 rfl (lv_at hl 0 rfl) ?_
  refine lv_iconst (v := (-1)) S.1 S.2.1 dX7_readPerson_6 (by decide) ?_
  refine lv_icmp_eq (tgt := 33) S.1 S.2.1 dX7_readPerson_7 (by decide) (fun c2 => ?_) (fun c2 => ?_)
  · replace hf := ed_ip c2 hf
    refine lv_iconst (v := 0) S.1 S.2.1 dX7_readPerson_33 (by decide) ?_
    obtain ⟨rfl, rfl⟩ := ed_so hf
    exact ed_rz S hr hlocks rfl hM hS dX7_readPerson_34
  · replace hf := ed_in_ c2 hf
    refine lv_aload_n S.1 S.2.1 dX7_readPerson_10 rfl (lv_at hl 1 rfl) ?_
    refine lv_iload_n S.1 S.2.1 dX7_readPerson_11 rfl (lv_at hl 0 rfl) ?_
    obtain ⟨r3, hq3, hf⟩ := ed_b_e hf
    refine ed_kI (ed_rV S hK hM (c_X7_isInByline _ D cy B μ r1 σ r3 hq3) (cwV 1 S.2.2.2.2 (ed_gV ed_w2_220 ed_w2_222 ed_wp_11 ed_w1_9 ed_w2_223) rfl rfl rfl hd_X7_isInByline ⟨Nat.le_of_ble_eq_true rfl, Nat.le_of_ble_eq_true rfl⟩) (ed_rc (q := (RX7, TX7, 9)) (r := (σ 17 0)) hK hM ed_v17 (ed_sJr μ 7 σ 17 0) (ed_e17 cy B 7 0 _) rfl) rfl hl.1 rfl (Nat.le_of_ble_eq_true rfl) dX7_readPerson_12 ⟨Nat.zero_le _, Nat.zero_le _⟩) hS (fun H locs hM hS => ?_)
    refine lv_if_ne (tgt := 33) S.1 S.2.1 dX7_readPerson_15 (by decide) (fun c4 => ?_) (fun c4 => ?_)
    · replace hf := ed_in_ c4 hf
      refine lv_iconst (v := 0) S.1 S.2.1 dX7_readPerson_33 (by decide) ?_
      obtain ⟨rfl, rfl⟩ := ed_so hf
      exact ed_rz S hr hlocks rfl hM hS dX7_readPerson_34
    · replace hf := ed_ip c4 hf
      refine lv_aload_n S.1 S.2.1 dX7_readPerson_18 rfl (lv_at hl 1 rfl) ?_
      refine ed_get (r := (σ 17 0)) S ed_uX7 hK hM ed_v17 (ed_sJr μ 7 σ 17 0) (ed_e17 cy B 7 0 _) rfl 4 (by decide) ed_w2_42 rfl rfl dX7_readPerson_19 ?_
      refine lv_aload_n S.1 S.2.1 dX7_readPerson_22 rfl (lv_at hl 1 rfl) ?_
      refine ed_get (r := (σ 17 0)) S ed_uX7 hK hM ed_v17 (ed_sJr μ 7 σ 17 0) (ed_e17 cy B 7 0 _) rfl 5 (by decide) ed_w2_43 rfl rfl dX7_readPerson_23 ?_
      refine ed_len (r := (σ 19 0)) (v := 3) (ty := .int) (t := 0) S hK hM ed_v19 (ed_sJr μ 7 σ 19 0) (ed_e19 cy B 7 0 _) rfl (by decide) dX7_readPerson_26 ?_
      refine ed_kI (ed_rN S hK hM (c_X8_isPlace _ D cy (ed_P D cy B (ed_sJ μ 7 σ)) (ed_A B) (σ 17 0 4) 3) ⟨va_cnB 2 S.2.2.2.2 (ed_gA ed_w2_107) rfl rfl rfl (ed_n12 hK) (S.2.2.2.2 _ ed_w1_1) hn_X8_isPlace ⟨Nat.le_of_ble_eq_true rfl, Nat.le_of_ble_eq_true rfl⟩, S.2.2.2.2 _ ed_w2_106, trivial⟩ rfl hl.1 rfl (Nat.le_of_ble_eq_true rfl) dX7_readPerson_27 ⟨Nat.zero_le _, Nat.zero_le _⟩) hS (fun H locs hM hS => ?_)
      refine lv_if_ne (tgt := 35) S.1 S.2.1 dX7_readPerson_30 (by decide) (fun c6 => ?_) (fun c6 => ?_)
      · replace hf := ed_in_ c6 hf
        refine lv_aload_n S.1 S.2.1 dX7_readPerson_35 rfl (lv_at hl 1 rfl) ?_
        refine ed_get (r := (σ 17 0)) S ed_uX7 hK hM ed_v17 (ed_sJr μ 7 σ 17 0) (ed_e17 cy B 7 0 _) rfl 5 (by decide) ed_w2_43 rfl rfl dX7_readPerson_36 ?_
        refine lv_aload_n S.1 S.2.1 dX7_readPerson_39 rfl (lv_at hl 1 rfl) ?_
        refine ed_get (r := (σ 17 0)) S ed_uX7 hK hM ed_v17 (ed_sJr μ 7 σ 17 0) (ed_e17 cy B 7 0 _) rfl 4 (by decide) ed_w2_42 rfl rfl dX7_readPerson_40 ?_
        refine lv_iload_n S.1 S.2.1 dX7_readPerson_43 rfl (lv_at hl 0 rfl) ?_
        obtain ⟨hx7, hf⟩ := ed_g_e hf
        refine ed_ist (j := 7) S hK hM hS ed_v19 (ed_e19 cy B 7 0) hx7 dX7_readPerson_44 (fun H locs hM hS => ?_)
        obtain ⟨σ8, eσ8, hf⟩ := ed_t_e hf
        have hM : ed_P D cy B (ed_sJ μ 7 σ8) H := by rw [eσ8]; exact hM
        refine lv_aload_n S.1 S.2.1 dX7_readPerson_45 rfl (lv_at hl 1 rfl) ?_
        refine lv_dup S.1 S.2.1 dX7_readPerson_46 rfl ?_
        refine ed_get (r := (σ8 17 0)) S ed_uX7 hK hM ed_v17 (ed_sJr μ 7 σ8 17 0) (ed_e17 cy B 7 0 _) rfl 4 (by decide) ed_w2_42 rfl rfl dX7_readPerson_47 ?_
        refine lv_iconst (v := 1) S.1 S.2.1 dX7_readPerson_50 (by decide) ?_
        refine lv_iadd S.1 S.2.1 dX7_readPerson_51 ?_
        refine ed_put (j := 7) S ed_uX7 tyX7 tyX7_ok nmX7 hK hM hS ed_v17 (ed_e17 cy B 7 0 _) rfl 4 (by decide) ed_w2_42 rfl rfl rfl rfl (Nat.le_of_ble_eq_true rfl) (ed_u17_4 cy B 7 0 _ _) dX7_readPerson_52 (fun H locs hM hS => ?_)
        obtain ⟨σ9, eσ9, hf⟩ := ed_t_e hf
        have hM : ed_P D cy B (ed_sJ μ 7 σ9) H := by rw [eσ9]; exact hM
        refine lv_aload_n S.1 S.2.1 dX7_readPerson_55 rfl (lv_at hl 1 rfl) ?_
        refine lv_dup S.1 S.2.1 dX7_readPerson_56 rfl ?_
        refine ed_get (r := (σ9 17 0)) S ed_uX7 hK hM ed_v17 (ed_sJr μ 7 σ9 17 0) (ed_e17 cy B 7 0 _) rfl 2 (by decide) ed_w2_38 rfl rfl dX7_readPerson_57 ?_
        refine lv_iconst (v := 1) S.1 S.2.1 dX7_readPerson_60 (by decide) ?_
        refine lv_iadd S.1 S.2.1 dX7_readPerson_61 ?_
        refine ed_put (j := 7) S ed_uX7 tyX7 tyX7_ok nmX7 hK hM hS ed_v17 (ed_e17 cy B 7 0 _) rfl 2 (by decide) ed_w2_38 rfl rfl rfl rfl (Nat.le_of_ble_eq_true rfl) (ed_u17_2 cy B 7 0 _ _) dX7_readPerson_62 (fun H locs hM hS => ?_)
        obtain ⟨σ10, eσ10, hf⟩ := ed_t_e hf
        have hM : ed_P D cy B (ed_sJ μ 7 σ10) H := by rw [eσ10]; exact hM
        refine lv_iconst (v := 1) S.1 S.2.1 dX7_readPerson_65 (by decide) ?_
        obtain ⟨rfl, rfl⟩ := ed_so hf
        exact ed_rz S hr hlocks rfl hM hS dX7_readPerson_66
      · replace hf := ed_ip c6 hf
        refine lv_iconst (v := 0) S.1 S.2.1 dX7_readPerson_33 (by decide) ?_
        obtain ⟨rfl, rfl⟩ := ed_so hf
        exact ed_rz S hr hlocks rfl hM hS dX7_readPerson_34
set_option maxHeartbeats 4000000 in
set_option maxRecDepth 100000 in
theorem w_X7_readByline_7 {p : Program} {l : Launch} {e : Env} {s : State} {m : MethodId} {args : Array Value} {below : List Frame} {meth : Method} {c : Code} {D : va_G} {cy : Nat → ClassId} {B : Nat} {μ : ed_CM} (S : CallFix p m c cX7_readByline 2 s args ed_ws RX7) (hr : meth.sig.returnType = (some .boolean)) (hlocks : meth.locks = false) (hK : ed_K D cy s) (r : Int32) (σ' : ed_SM) :
    ∀ (n : Nat), ∀ (x1 : Int32) (σ : ed_SM), f_X7_readByline_7  n x1 σ = some (r, σ') → ∀ (H : Heap) (locs : List Loc) (ls : Array Slot), ed_P D cy B (ed_sJ μ 7 σ) H → va_S (ed_A B) s.heap H locs → lv_has ls 2 [(0, .ref (B + ed_oF 7 17 0)), (1, .int x1)] → W p l e (headSpec wsX7_readByline rmX7_readByline).room s m args below meth c H locs 0 0 (MQ below (ed_qI (ed_A B) (ed_P D cy B (ed_sJ μ 7 σ')) r) args s 0 0 (ed_A B)) (F0 m 7 ls []) := by
  intro n
  induction n with
  | zero => intro x1 σ hf; rw [f_X7_readByline_7] at hf; cases hf
  | succ n ih =>
    intro x1 σ hf H locs ls hM hS hl
    rw [f_X7_readByline_7] at hf
    refine lv_iload_n S.1 S.2.1 dX7_readByline_7 rfl (lv_at hl 1 rfl) ?_
    refine lv_iconst (v := 3) S.1 S.2.1 dX7_readByline_8 (by decide) ?_
    refine lv_icmp_ge (tgt := 42) S.1 S.2.1 dX7_readByline_9 (by decide) (fun c2 => ?_) (fun c2 => ?_)
    · replace hf := ed_ip c2 hf
      refine lv_iconst (v := 1) S.1 S.2.1 dX7_readByline_42 (by decide) ?_
      obtain ⟨rfl, rfl⟩ := ed_so hf
      exact ed_rz S hr hlocks rfl hM hS dX7_readByline_43
    · replace hf := ed_in_ c2 hf
      refine lv_iload_n S.1 S.2.1 dX7_readByline_12 rfl (lv_at hl 1 rfl) ?_
      refine lv_if_le (tgt := 27) S.1 S.2.1 dX7_readByline_13 (by decide) (fun c3 => ?_) (fun c3 => ?_)
      · replace hf := ed_ip c3 hf
        refine lv_aload_n S.1 S.2.1 dX7_readByline_27 rfl (lv_at hl 0 rfl) ?_
        obtain ⟨r4, σ4, hq4, hf⟩ := ed_b2_e hf
        refine ed_kI (ed_rV S hK hM (c_X7_readPerson _ D cy B μ σ r4 σ4 hq4) (cwV 0 S.2.2.2.2 (ed_gV ed_w2_216 ed_w2_218 ed_wp_10 ed_w1_9 ed_w2_219) rfl rfl rfl hd_X7_readPerson ⟨Nat.le_of_ble_eq_true rfl, Nat.le_of_ble_eq_true rfl⟩) (ed_rc (q := (RX7, TX7, 9)) (r := (σ 17 0)) hK hM ed_v17 (ed_sJr μ 7 σ 17 0) (ed_e17 cy B 7 0 _) rfl) rfl hl.1 rfl (Nat.le_of_ble_eq_true rfl) dX7_readByline_28 ⟨Nat.zero_le _, Nat.zero_le _⟩) hS (fun H locs hM hS => ?_)
        refine lv_if_ne (tgt := 36) S.1 S.2.1 dX7_readByline_31 (by decide) (fun c5 => ?_) (fun c5 => ?_)
        · replace hf := ed_in_ c5 hf
          refine lv_iinc (v := x1 + 1) (lv' := [(1, .int (x1 + 1)), (0, .ref (B + ed_oF 7 17 0))]) S.1 S.2.1 dX7_readByline_36 hl (k := 1) rfl rfl (by decide) rfl (fun ls hl => ?_)
          refine lv_goto (tgt := 7) S.1 S.2.1 dX7_readByline_39 (by decide) ?_
          exact ih (x1 + 1) σ4 hf _ _ _ hM hS (lv_sub hl [1, 0] rfl)
        · replace hf := ed_ip c5 hf
          refine lv_iconst (v := 0) S.1 S.2.1 dX7_readByline_34 (by decide) ?_
          obtain ⟨rfl, rfl⟩ := ed_so hf
          exact ed_rz S hr hlocks rfl hM hS dX7_readByline_35
      · replace hf := ed_in_ c3 hf
        refine lv_aload_n S.1 S.2.1 dX7_readByline_16 rfl (lv_at hl 0 rfl) ?_
        refine lv_bipush (v := 44) S.1 S.2.1 dX7_readByline_17 (by decide) ?_
        obtain ⟨r6, σ6, hq6, hf⟩ := ed_b2_e hf
        refine ed_kI (ed_rV S hK hM (c_X7_readSign _ D cy B μ 44 σ r6 σ6 hq6) (cwV 1 S.2.2.2.2 (ed_gV ed_w2_208 ed_w2_210 ed_wp_8 ed_w1_9 ed_w2_211) rfl rfl rfl hd_X7_readSign ⟨Nat.le_of_ble_eq_true rfl, Nat.le_of_ble_eq_true rfl⟩) (ed_rc (q := (RX7, TX7, 9)) (r := (σ 17 0)) hK hM ed_v17 (ed_sJr μ 7 σ 17 0) (ed_e17 cy B 7 0 _) rfl) rfl hl.1 rfl (Nat.le_of_ble_eq_true rfl) dX7_readByline_19 ⟨Nat.zero_le _, Nat.zero_le _⟩) hS (fun H locs hM hS => ?_)
        refine lv_if_ne (tgt := 27) S.1 S.2.1 dX7_readByline_22 (by decide) (fun c7 => ?_) (fun c7 => ?_)
        · replace hf := ed_in_ c7 hf
          refine lv_aload_n S.1 S.2.1 dX7_readByline_27 rfl (lv_at hl 0 rfl) ?_
          obtain ⟨r8, σ8, hq8, hf⟩ := ed_b2_e hf
          refine ed_kI (ed_rV S hK hM (c_X7_readPerson _ D cy B μ σ6 r8 σ8 hq8) (cwV 0 S.2.2.2.2 (ed_gV ed_w2_216 ed_w2_218 ed_wp_10 ed_w1_9 ed_w2_219) rfl rfl rfl hd_X7_readPerson ⟨Nat.le_of_ble_eq_true rfl, Nat.le_of_ble_eq_true rfl⟩) (ed_rc (q := (RX7, TX7, 9)) (r := (σ6 17 0)) hK hM ed_v17 (ed_sJr μ 7 σ6 17 0) (ed_e17 cy B 7 0 _) rfl) rfl hl.1 rfl (Nat.le_of_ble_eq_true rfl) dX7_readByline_28 ⟨Nat.zero_le _, Nat.zero_le _⟩) hS (fun H locs hM hS => ?_)
          refine lv_if_ne (tgt := 36) S.1 S.2.1 dX7_readByline_31 (by decide) (fun c9 => ?_) (fun c9 => ?_)
          · replace hf := ed_in_ c9 hf
            refine lv_iinc (v := x1 + 1) (lv' := [(1, .int (x1 + 1)), (0, .ref (B + ed_oF 7 17 0))]) S.1 S.2.1 dX7_readByline_36 hl (k := 1) rfl rfl (by decide) rfl (fun ls hl => ?_)
            refine lv_goto (tgt := 7) S.1 S.2.1 dX7_readByline_39 (by decide) ?_
            exact ih (x1 + 1) σ8 hf _ _ _ hM hS (lv_sub hl [1, 0] rfl)
          · replace hf := ed_ip c9 hf
            refine lv_iconst (v := 0) S.1 S.2.1 dX7_readByline_34 (by decide) ?_
            obtain ⟨rfl, rfl⟩ := ed_so hf
            exact ed_rz S hr hlocks rfl hM hS dX7_readByline_35
        · replace hf := ed_ip c7 hf
          refine lv_iconst (v := 1) S.1 S.2.1 dX7_readByline_25 (by decide) ?_
          obtain ⟨rfl, rfl⟩ := ed_so hf
          exact ed_rz S hr hlocks rfl hM hS dX7_readByline_26
set_option maxHeartbeats 4000000 in
set_option maxRecDepth 100000 in
theorem c_X7_readByline (l : Launch) (D : va_G) (cy : Nat → ClassId) (B : Nat) (μ : ed_CM) (σ : ed_SM) (r : Int32) (σ' : ed_SM) (hf : f_X7_readByline σ = some (r, σ')) :
    Met l yX7_readByline wsX7_readByline rmX7_readByline (ed_pC D cy (ed_P D cy B (ed_sJ μ 7 σ)) [.ref (B + ed_oF 7 17 0)]) (ed_qI (ed_A B) (ed_P D cy B (ed_sJ μ 7 σ')) r) 0 0 (ed_A B) := by
  refine Met.ofW (cc := cX7_readByline) (maxL := 2) (ret := (some .boolean)) (by decide) rfl ?_
  intro p e s m args below meth c s₁ B0 hml hv
  obtain ⟨rfl, hM, hK⟩ := hv
  have S : CallFix p m c cX7_readByline 2 s _ ed_ws RX7 := ⟨B0.exec, B0.bytes, hml, findClass_of_methodNamed B0.named, fun w hw => atoms_spec (ws := wsX7_readByline) B0.pre w (List.mem_cons_of_mem _ hw)⟩
  have hr := B0.returns
  have hlocks := B0.notSynchronized
  have hS : va_S (ed_A B) s.heap s.heap [] := va_S.rf
  have hl := lv_entry ([.ref (B + ed_oF 7 17 0)]) (n := 2) (Nat.le_of_ble_eq_true rfl)
  rw [lg_entry_eq]
  generalize (lg_sl ([.ref (B + ed_oF 7 17 0)]) ++ List.replicate (2 - (lg_sl ([.ref (B + ed_oF 7 17 0)])).length) Slot.unset).toArray = ls at hl ⊢
  have hl : lv_has ls 2 [(0, .ref (B + ed_oF 7 17 0))] := hl
  unfold f_X7_readByline at hf
  refine lv_aload_n S.1 S.2.1 dX7_readByline_0 rfl (lv_at hl 0 rfl) ?_
  refine lv_iconst (v := 0) S.1 S.2.1 dX7_readByline_1 (by decide) ?_
  refine ed_put (j := 7) S ed_uX7 tyX7 tyX7_ok nmX7 hK hM hS ed_v17 (ed_e17 cy B 7 0 _) rfl 4 (by decide) ed_w2_42 rfl rfl rfl rfl (Nat.le_of_ble_eq_true rfl) (ed_u17_4 cy B 7 0 _ _) dX7_readByline_2 (fun H locs hM hS => ?_)
  obtain ⟨σ1, eσ1, hf⟩ := ed_t_e hf
  have hM : ed_P D cy B (ed_sJ μ 7 σ1) H := by rw [eσ1]; exact hM
  refine lv_iconst (v := 0) S.1 S.2.1 dX7_readByline_5 (by decide) ?_
  refine lv_istore_n (lv' := [(1, .int 0), (0, .ref (B + ed_oF 7 17 0))]) S.1 S.2.1 dX7_readByline_6 rfl hl (by decide) rfl (fun ls hl => ?_)
  exact w_X7_readByline_7 S hr hlocks hK r σ' ed_N 0 σ1 hf _ _ _ hM hS (lv_sub hl [1, 0] rfl)
set_option maxHeartbeats 4000000 in
set_option maxRecDepth 100000 in
theorem w_X7_readEmbargo_30 {p : Program} {l : Launch} {e : Env} {s : State} {m : MethodId} {args : Array Value} {below : List Frame} {meth : Method} {c : Code} {D : va_G} {cy : Nat → ClassId} {B : Nat} {μ : ed_CM} (S : CallFix p m c cX7_readEmbargo 2 s args ed_ws RX7) (hr : meth.sig.returnType = (some .boolean)) (hlocks : meth.locks = false) (hK : ed_K D cy s) (r : Int32) (σ' : ed_SM) :
    ∀ (n : Nat), ∀ (x1 : Int32) (σ : ed_SM), f_X7_readEmbargo_30  n x1 σ = some (r, σ') → ∀ (H : Heap) (locs : List Loc) (ls : Array Slot), ed_P D cy B (ed_sJ μ 7 σ) H → va_S (ed_A B) s.heap H locs → lv_has ls 2 [(0, .ref (B + ed_oF 7 17 0)), (1, .int x1)] → W p l e (headSpec wsX7_readEmbargo rmX7_readEmbargo).room s m args below meth c H locs 0 0 (MQ below (ed_qI (ed_A B) (ed_P D cy B (ed_sJ μ 7 σ')) r) args s 0 0 (ed_A B)) (F0 m 30 ls []) := by
  intro n
  induction n with
  | zero => intro x1 σ hf; rw [f_X7_readEmbargo_30] at hf; cases hf
  | succ n ih =>
    intro x1 σ hf H locs ls hM hS hl
    rw [f_X7_readEmbargo_30] at hf
    refine lv_iload_n S.1 S.2.1 dX7_readEmbargo_30 rfl (lv_at hl 1 rfl) ?_
    refine lv_iconst (v := 3) S.1 S.2.1 dX7_readEmbargo_31 (by decide) ?_
    refine lv_icmp_ge (tgt := 82) S.1 S.2.1 dX7_readEmbargo_32 (by decide) (fun c5 => ?_) (fun c5 => ?_)
    · replace hf := ed_ip c5 hf
      refine lv_iconst (v := 1) S.1 S.2.1 dX7_readEmbargo_82 (by decide) ?_
      obtain ⟨rfl, rfl⟩ := ed_so hf
      exact ed_rz S hr hlocks rfl hM hS dX7_readEmbargo_83
    · replace hf := ed_in_ c5 hf
      refine lv_aload_n S.1 S.2.1 dX7_readEmbargo_35 rfl (lv_at hl 0 rfl) ?_
      refine ed_get (r := (σ 17 0)) S ed_uX7 hK hM ed_v17 (ed_sJr μ 7 σ 17 0) (ed_e17 cy B 7 0 _) rfl 6 (by decide) ed_w2_46 rfl rfl dX7_readEmbargo_36 ?_
      refine lv_if_eq (tgt := 82) S.1 S.2.1 dX7_readEmbargo_39 (by decide) (fun c6 => ?_) (fun c6 => ?_)
      · replace hf := ed_ip c6 hf
        refine lv_iconst (v := 1) S.1 S.2.1 dX7_readEmbargo_82 (by decide) ?_
        obtain ⟨rfl, rfl⟩ := ed_so hf
        exact ed_rz S hr hlocks rfl hM hS dX7_readEmbargo_83
      · replace hf := ed_in_ c6 hf
        refine lv_aload_n S.1 S.2.1 dX7_readEmbargo_42 rfl (lv_at hl 0 rfl) ?_
        obtain ⟨r7, hq7, hf⟩ := ed_b_e hf
        refine ed_kI (ed_rV S hK hM (c_X7_digit _ D cy B μ σ r7 hq7) (cwV 0 S.2.2.2.2 (ed_gV ed_w2_197 ed_w2_199 ed_wp_6 ed_w1_9 ed_w2_200) rfl rfl rfl hd_X7_digit ⟨Nat.le_of_ble_eq_true rfl, Nat.le_of_ble_eq_true rfl⟩) (ed_rc (q := (RX7, TX7, 9)) (r := (σ 17 0)) hK hM ed_v17 (ed_sJr μ 7 σ 17 0) (ed_e17 cy B 7 0 _) rfl) rfl hl.1 rfl (Nat.le_of_ble_eq_true rfl) dX7_readEmbargo_43 ⟨Nat.zero_le _, Nat.zero_le _⟩) hS (fun H locs hM hS => ?_)
        refine lv_iconst (v := (-1)) S.1 S.2.1 dX7_readEmbargo_46 (by decide) ?_
        refine lv_icmp_eq (tgt := 82) S.1 S.2.1 dX7_readEmbargo_47 (by decide) (fun c8 => ?_) (fun c8 => ?_)
        · replace hf := ed_ip c8 hf
          refine lv_iconst (v := 1) S.1 S.2.1 dX7_readEmbargo_82 (by decide) ?_
          obtain ⟨rfl, rfl⟩ := ed_so hf
          exact ed_rz S hr hlocks rfl hM hS dX7_readEmbargo_83
        · replace hf := ed_in_ c8 hf
          refine lv_aload_n S.1 S.2.1 dX7_readEmbargo_50 rfl (lv_at hl 0 rfl) ?_
          refine lv_aload_n S.1 S.2.1 dX7_readEmbargo_51 rfl (lv_at hl 0 rfl) ?_
          refine ed_get (r := (σ 17 0)) S ed_uX7 hK hM ed_v17 (ed_sJr μ 7 σ 17 0) (ed_e17 cy B 7 0 _) rfl 6 (by decide) ed_w2_46 rfl rfl dX7_readEmbargo_52 ?_
          refine lv_bipush (v := 10) S.1 S.2.1 dX7_readEmbargo_55 (by decide) ?_
          refine lv_imul S.1 S.2.1 dX7_readEmbargo_57 ?_
          refine lv_aload_n S.1 S.2.1 dX7_readEmbargo_58 rfl (lv_at hl 0 rfl) ?_
          obtain ⟨r9, hq9, hf⟩ := ed_b_e hf
          refine ed_kI (ed_rV S hK hM (c_X7_digit _ D cy B μ σ r9 hq9) (cwV 0 S.2.2.2.2 (ed_gV ed_w2_197 ed_w2_199 ed_wp_6 ed_w1_9 ed_w2_200) rfl rfl rfl hd_X7_digit ⟨Nat.le_of_ble_eq_true rfl, Nat.le_of_ble_eq_true rfl⟩) (ed_rc (q := (RX7, TX7, 9)) (r := (σ 17 0)) hK hM ed_v17 (ed_sJr μ 7 σ 17 0) (ed_e17 cy B 7 0 _) rfl) rfl hl.1 rfl (Nat.le_of_ble_eq_true rfl) dX7_readEmbargo_59 ⟨Nat.zero_le _, Nat.zero_le _⟩) hS (fun H locs hM hS => ?_)
          refine lv_iadd S.1 S.2.1 dX7_readEmbargo_62 ?_
          refine ed_put (j := 7) S ed_uX7 tyX7 tyX7_ok nmX7 hK hM hS ed_v17 (ed_e17 cy B 7 0 _) rfl 6 (by decide) ed_w2_46 rfl rfl rfl rfl (Nat.le_of_ble_eq_true rfl) (ed_u17_6 cy B 7 0 _ _) dX7_readEmbargo_63 (fun H locs hM hS => ?_)
          obtain ⟨σ10, eσ10, hf⟩ := ed_t_e hf
          have hM : ed_P D cy B (ed_sJ μ 7 σ10) H := by rw [eσ10]; exact hM
          refine lv_aload_n S.1 S.2.1 dX7_readEmbargo_66 rfl (lv_at hl 0 rfl) ?_
          refine lv_dup S.1 S.2.1 dX7_readEmbargo_67 rfl ?_
          refine ed_get (r := (σ10 17 0)) S ed_uX7 hK hM ed_v17 (ed_sJr μ 7 σ10 17 0) (ed_e17 cy B 7 0 _) rfl 2 (by decide) ed_w2_38 rfl rfl dX7_readEmbargo_68 ?_
          refine lv_iconst (v := 1) S.1 S.2.1 dX7_readEmbargo_71 (by decide) ?_
          refine lv_iadd S.1 S.2.1 dX7_readEmbargo_72 ?_
          refine ed_put (j := 7) S ed_uX7 tyX7 tyX7_ok nmX7 hK hM hS ed_v17 (ed_e17 cy B 7 0 _) rfl 2 (by decide) ed_w2_38 rfl rfl rfl rfl (Nat.le_of_ble_eq_true rfl) (ed_u17_2 cy B 7 0 _ _) dX7_readEmbargo_73 (fun H locs hM hS => ?_)
          obtain ⟨σ11, eσ11, hf⟩ := ed_t_e hf
          have hM : ed_P D cy B (ed_sJ μ 7 σ11) H := by rw [eσ11]; exact hM
          refine lv_iinc (v := x1 + 1) (lv' := [(1, .int (x1 + 1)), (0, .ref (B + ed_oF 7 17 0))]) S.1 S.2.1 dX7_readEmbargo_76 hl (k := 1) rfl rfl (by decide) rfl (fun ls hl => ?_)
          refine lv_goto (tgt := 30) S.1 S.2.1 dX7_readEmbargo_79 (by decide) ?_
          exact ih (x1 + 1) σ11 hf _ _ _ hM hS (lv_sub hl [1, 0] rfl)
set_option maxHeartbeats 4000000 in
set_option maxRecDepth 100000 in
theorem c_X7_readEmbargo (l : Launch) (D : va_G) (cy : Nat → ClassId) (B : Nat) (μ : ed_CM) (σ : ed_SM) (r : Int32) (σ' : ed_SM) (hf : f_X7_readEmbargo σ = some (r, σ')) :
    Met l yX7_readEmbargo wsX7_readEmbargo rmX7_readEmbargo (ed_pC D cy (ed_P D cy B (ed_sJ μ 7 σ)) [.ref (B + ed_oF 7 17 0)]) (ed_qI (ed_A B) (ed_P D cy B (ed_sJ μ 7 σ')) r) 0 0 (ed_A B) := by
  refine Met.ofW (cc := cX7_readEmbargo) (maxL := 2) (ret := (some .boolean)) (by decide) rfl ?_
  intro p e s m args below meth c s₁ B0 hml hv
  obtain ⟨rfl, hM, hK⟩ := hv
  have S : CallFix p m c cX7_readEmbargo 2 s _ ed_ws RX7 := ⟨B0.exec, B0.bytes, hml, findClass_of_methodNamed B0.named, fun w hw => atoms_spec (ws := wsX7_readEmbargo) B0.pre w (List.mem_cons_of_mem _ hw)⟩
  have hr := B0.returns
  have hlocks := B0.notSynchronized
  have hS : va_S (ed_A B) s.heap s.heap [] := va_S.rf
  have hl := lv_entry ([.ref (B + ed_oF 7 17 0)]) (n := 2) (Nat.le_of_ble_eq_true rfl)
  rw [lg_entry_eq]
  generalize (lg_sl ([.ref (B + ed_oF 7 17 0)]) ++ List.replicate (2 - (lg_sl ([.ref (B + ed_oF 7 17 0)])).length) Slot.unset).toArray = ls at hl ⊢
  have hl : lv_has ls 2 [(0, .ref (B + ed_oF 7 17 0))] := hl
  unfold f_X7_readEmbargo at hf
  refine lv_aload_n S.1 S.2.1 dX7_readEmbargo_0 rfl (lv_at hl 0 rfl) ?_
  refine lv_aload_n S.1 S.2.1 dX7_readEmbargo_1 rfl (lv_at hl 0 rfl) ?_
  obtain ⟨r1, hq1, hf⟩ := ed_b_e hf
  refine ed_kI (ed_rV S hK hM (c_X7_digit _ D cy B μ σ r1 hq1) (cwV 0 S.2.2.2.2 (ed_gV ed_w2_197 ed_w2_199 ed_wp_6 ed_w1_9 ed_w2_200) rfl rfl rfl hd_X7_digit ⟨Nat.le_of_ble_eq_true rfl, Nat.le_of_ble_eq_true rfl⟩) (ed_rc (q := (RX7, TX7, 9)) (r := (σ 17 0)) hK hM ed_v17 (ed_sJr μ 7 σ 17 0) (ed_e17 cy B 7 0 _) rfl) rfl hl.1 rfl (Nat.le_of_ble_eq_true rfl) dX7_readEmbargo_2 ⟨Nat.zero_le _, Nat.zero_le _⟩) hS (fun H locs hM hS => ?_)
  refine ed_put (j := 7) S ed_uX7 tyX7 tyX7_ok nmX7 hK hM hS ed_v17 (ed_e17 cy B 7 0 _) rfl 6 (by decide) ed_w2_46 rfl rfl rfl rfl (Nat.le_of_ble_eq_true rfl) (ed_u17_6 cy B 7 0 _ _) dX7_readEmbargo_5 (fun H locs hM hS => ?_)
  obtain ⟨σ2, eσ2, hf⟩ := ed_t_e hf
  have hM : ed_P D cy B (ed_sJ μ 7 σ2) H := by rw [eσ2]; exact hM
  refine lv_aload_n S.1 S.2.1 dX7_readEmbargo_8 rfl (lv_at hl 0 rfl) ?_
  refine ed_get (r := (σ2 17 0)) S ed_uX7 hK hM ed_v17 (ed_sJr μ 7 σ2 17 0) (ed_e17 cy B 7 0 _) rfl 6 (by decide) ed_w2_46 rfl rfl dX7_readEmbargo_9 ?_
  refine lv_iconst (v := (-1)) S.1 S.2.1 dX7_readEmbargo_12 (by decide) ?_
  refine lv_icmp_ne (tgt := 18) S.1 S.2.1 dX7_readEmbargo_13 (by decide) (fun c3 => ?_) (fun c3 => ?_)
  · replace hf := ed_in_ c3 hf
    refine lv_aload_n S.1 S.2.1 dX7_readEmbargo_18 rfl (lv_at hl 0 rfl) ?_
    refine lv_dup S.1 S.2.1 dX7_readEmbargo_19 rfl ?_
    refine ed_get (r := (σ2 17 0)) S ed_uX7 hK hM ed_v17 (ed_sJr μ 7 σ2 17 0) (ed_e17 cy B 7 0 _) rfl 2 (by decide) ed_w2_38 rfl rfl dX7_readEmbargo_20 ?_
    refine lv_iconst (v := 1) S.1 S.2.1 dX7_readEmbargo_23 (by decide) ?_
    refine lv_iadd S.1 S.2.1 dX7_readEmbargo_24 ?_
    refine ed_put (j := 7) S ed_uX7 tyX7 tyX7_ok nmX7 hK hM hS ed_v17 (ed_e17 cy B 7 0 _) rfl 2 (by decide) ed_w2_38 rfl rfl rfl rfl (Nat.le_of_ble_eq_true rfl) (ed_u17_2 cy B 7 0 _ _) dX7_readEmbargo_25 (fun H locs hM hS => ?_)
    obtain ⟨σ4, eσ4, hf⟩ := ed_t_e hf
    have hM : ed_P D cy B (ed_sJ μ 7 σ4) H := by rw [eσ4]; exact hM
    refine lv_iconst (v := 1) S.1 S.2.1 dX7_readEmbargo_28 (by decide) ?_
    refine lv_istore_n (lv' := [(1, .int 1), (0, .ref (B + ed_oF 7 17 0))]) S.1 S.2.1 dX7_readEmbargo_29 rfl hl (by decide) rfl (fun ls hl => ?_)
    exact w_X7_readEmbargo_30 S hr hlocks hK r σ' ed_N 1 σ4 hf _ _ _ hM hS (lv_sub hl [1, 0] rfl)
  · replace hf := ed_ip c3 hf
    refine lv_iconst (v := 0) S.1 S.2.1 dX7_readEmbargo_16 (by decide) ?_
    obtain ⟨rfl, rfl⟩ := ed_so hf
    exact ed_rz S hr hlocks rfl hM hS dX7_readEmbargo_17
set_option maxHeartbeats 4000000 in
set_option maxRecDepth 100000 in
theorem w_X7_readSlug_7 {p : Program} {l : Launch} {e : Env} {s : State} {m : MethodId} {args : Array Value} {below : List Frame} {meth : Method} {c : Code} {D : va_G} {cy : Nat → ClassId} {B : Nat} {μ : ed_CM} (S : CallFix p m c cX7_readSlug 2 s args ed_ws RX7) (hr : meth.sig.returnType = (some .boolean)) (hlocks : meth.locks = false) (hK : ed_K D cy s) (r : Int32) (σ' : ed_SM) :
    ∀ (n : Nat), ∀ (x1 : Int32) (σ : ed_SM), f_X7_readSlug_7  n x1 σ = some (r, σ') → ∀ (H : Heap) (locs : List Loc) (ls : Array Slot), ed_P D cy B (ed_sJ μ 7 σ) H → va_S (ed_A B) s.heap H locs → lv_has ls 2 [(0, .ref (B + ed_oF 7 17 0)), (1, .int x1)] → W p l e (headSpec wsX7_readSlug rmX7_readSlug).room s m args below meth c H locs 0 0 (MQ below (ed_qI (ed_A B) (ed_P D cy B (ed_sJ μ 7 σ')) r) args s 0 0 (ed_A B)) (F0 m 7 ls []) := by
  intro n
  induction n with
  | zero => intro x1 σ hf; rw [f_X7_readSlug_7] at hf; cases hf
  | succ n ih =>
    intro x1 σ hf H locs ls hM hS hl
    rw [f_X7_readSlug_7] at hf
    refine lv_iload_n S.1 S.2.1 dX7_readSlug_7 rfl (lv_at hl 1 rfl) ?_
    refine lv_aload_n S.1 S.2.1 dX7_readSlug_8 rfl (lv_at hl 0 rfl) ?_
    refine ed_get (r := (σ 17 0)) S ed_uX7 hK hM ed_v17 (ed_sJr μ 7 σ 17 0) (ed_e17 cy B 7 0 _) rfl 8 (by decide) ed_w2_49 rfl rfl dX7_readSlug_9 ?_
    refine ed_len (r := (σ 20 0)) (v := 12) (ty := .int) (t := 0) S hK hM ed_v20 (ed_sJr μ 7 σ 20 0) (ed_e20 cy B 7 0 _) rfl (by decide) dX7_readSlug_12 ?_
    refine lv_icmp_ge (tgt := 66) S.1 S.2.1 dX7_readSlug_13 (by decide) (fun c2 => ?_) (fun c2 => ?_)
    · replace hf := ed_ip c2 hf
      refine lv_aload_n S.1 S.2.1 dX7_readSlug_66 rfl (lv_at hl 0 rfl) ?_
      refine ed_get (r := (σ 17 0)) S ed_uX7 hK hM ed_v17 (ed_sJr μ 7 σ 17 0) (ed_e17 cy B 7 0 _) rfl 7 (by decide) ed_w2_48 rfl rfl dX7_readSlug_67 ?_
      refine lv_if_le (tgt := 88) S.1 S.2.1 dX7_readSlug_70 (by decide) (fun c3 => ?_) (fun c3 => ?_)
      · replace hf := ed_ip c3 hf
        refine lv_iconst (v := 0) S.1 S.2.1 dX7_readSlug_88 (by decide) ?_
        obtain ⟨rfl, rfl⟩ := ed_so hf
        exact ed_rz S hr hlocks rfl hM hS dX7_readSlug_89
      · replace hf := ed_in_ c3 hf
        refine lv_aload_n S.1 S.2.1 dX7_readSlug_73 rfl (lv_at hl 0 rfl) ?_
        refine ed_get (r := (σ 17 0)) S ed_uX7 hK hM ed_v17 (ed_sJr μ 7 σ 17 0) (ed_e17 cy B 7 0 _) rfl 2 (by decide) ed_w2_38 rfl rfl dX7_readSlug_74 ?_
        refine lv_aload_n S.1 S.2.1 dX7_readSlug_77 rfl (lv_at hl 0 rfl) ?_
        refine ed_get (r := (σ 17 0)) S ed_uX7 hK hM ed_v17 (ed_sJr μ 7 σ 17 0) (ed_e17 cy B 7 0 _) rfl 1 (by decide) ed_w2_36 rfl rfl dX7_readSlug_78 ?_
        refine lv_icmp_ne (tgt := 88) S.1 S.2.1 dX7_readSlug_81 (by decide) (fun c4 => ?_) (fun c4 => ?_)
        · replace hf := ed_in_ c4 hf
          refine lv_iconst (v := 0) S.1 S.2.1 dX7_readSlug_88 (by decide) ?_
          obtain ⟨rfl, rfl⟩ := ed_so hf
          exact ed_rz S hr hlocks rfl hM hS dX7_readSlug_89
        · replace hf := ed_ip c4 hf
          refine lv_iconst (v := 1) S.1 S.2.1 dX7_readSlug_84 (by decide) ?_
          refine lv_goto (tgt := 89) S.1 S.2.1 dX7_readSlug_85 (by decide) ?_
          obtain ⟨rfl, rfl⟩ := ed_so hf
          exact ed_rz S hr hlocks rfl hM hS dX7_readSlug_89
    · replace hf := ed_in_ c2 hf
      refine lv_aload_n S.1 S.2.1 dX7_readSlug_16 rfl (lv_at hl 0 rfl) ?_
      obtain ⟨r5, hq5, hf⟩ := ed_b_e hf
      refine ed_kI (ed_rV S hK hM (c_X7_sign _ D cy B μ σ r5 hq5) (cwV 0 S.2.2.2.2 (ed_gV ed_w2_201 ed_w2_203 ed_wp_7 ed_w1_9 ed_w2_204) rfl rfl rfl hd_X7_sign ⟨Nat.le_of_ble_eq_true rfl, Nat.le_of_ble_eq_true rfl⟩) (ed_rc (q := (RX7, TX7, 9)) (r := (σ 17 0)) hK hM ed_v17 (ed_sJr μ 7 σ 17 0) (ed_e17 cy B 7 0 _) rfl) rfl hl.1 rfl (Nat.le_of_ble_eq_true rfl) dX7_readSlug_17 ⟨Nat.zero_le _, Nat.zero_le _⟩) hS (fun H locs hM hS => ?_)
      refine lv_bipush (v := 97) S.1 S.2.1 dX7_readSlug_20 (by decide) ?_
      refine lv_bipush (v := 122) S.1 S.2.1 dX7_readSlug_22 (by decide) ?_
      refine ed_kI (ed_rN S hK hM (c_X8_isBetween _ D cy (ed_P D cy B (ed_sJ μ 7 σ)) (ed_A B) r5 97 122) ⟨va_cnB 3 S.2.2.2.2 (ed_gA ed_w2_95) rfl rfl rfl (ed_n13 hK) (S.2.2.2.2 _ ed_w1_1) hn_X8_isBetween ⟨Nat.le_of_ble_eq_true rfl, Nat.le_of_ble_eq_true rfl⟩, S.2.2.2.2 _ ed_w2_94, trivial⟩ rfl hl.1 rfl (Nat.le_of_ble_eq_true rfl) dX7_readSlug_24 ⟨Nat.zero_le _, Nat.zero_le _⟩) hS (fun H locs hM hS => ?_)
      refine lv_if_eq (tgt := 66) S.1 S.2.1 dX7_readSlug_27 (by decide) (fun c7 => ?_) (fun c7 => ?_)
      · replace hf := ed_ip c7 hf
        refine lv_aload_n S.1 S.2.1 dX7_readSlug_66 rfl (lv_at hl 0 rfl) ?_
        refine ed_get (r := (σ 17 0)) S ed_uX7 hK hM ed_v17 (ed_sJr μ 7 σ 17 0) (ed_e17 cy B 7 0 _) rfl 7 (by decide) ed_w2_48 rfl rfl dX7_readSlug_67 ?_
        refine lv_if_le (tgt := 88) S.1 S.2.1 dX7_readSlug_70 (by decide) (fun c8 => ?_) (fun c8 => ?_)
        · replace hf := ed_ip c8 hf
          refine lv_iconst (v := 0) S.1 S.2.1 dX7_readSlug_88 (by decide) ?_
          obtain ⟨rfl, rfl⟩ := ed_so hf
          exact ed_rz S hr hlocks rfl hM hS dX7_readSlug_89
        · replace hf := ed_in_ c8 hf
          refine lv_aload_n S.1 S.2.1 dX7_readSlug_73 rfl (lv_at hl 0 rfl) ?_
          refine ed_get (r := (σ 17 0)) S ed_uX7 hK hM ed_v17 (ed_sJr μ 7 σ 17 0) (ed_e17 cy B 7 0 _) rfl 2 (by decide) ed_w2_38 rfl rfl dX7_readSlug_74 ?_
          refine lv_aload_n S.1 S.2.1 dX7_readSlug_77 rfl (lv_at hl 0 rfl) ?_
          refine ed_get (r := (σ 17 0)) S ed_uX7 hK hM ed_v17 (ed_sJr μ 7 σ 17 0) (ed_e17 cy B 7 0 _) rfl 1 (by decide) ed_w2_36 rfl rfl dX7_readSlug_78 ?_
          refine lv_icmp_ne (tgt := 88) S.1 S.2.1 dX7_readSlug_81 (by decide) (fun c9 => ?_) (fun c9 => ?_)
          · replace hf := ed_in_ c9 hf
            refine lv_iconst (v := 0) S.1 S.2.1 dX7_readSlug_88 (by decide) ?_
            obtain ⟨rfl, rfl⟩ := ed_so hf
            exact ed_rz S hr hlocks rfl hM hS dX7_readSlug_89
          · replace hf := ed_ip c9 hf
            refine lv_iconst (v := 1) S.1 S.2.1 dX7_readSlug_84 (by decide) ?_
            refine lv_goto (tgt := 89) S.1 S.2.1 dX7_readSlug_85 (by decide) ?_
            obtain ⟨rfl, rfl⟩ := ed_so hf
            exact ed_rz S hr hlocks rfl hM hS dX7_readSlug_89
      · replace hf := ed_in_ c7 hf
        refine lv_aload_n S.1 S.2.1 dX7_readSlug_30 rfl (lv_at hl 0 rfl) ?_
        refine ed_get (r := (σ 17 0)) S ed_uX7 hK hM ed_v17 (ed_sJr μ 7 σ 17 0) (ed_e17 cy B 7 0 _) rfl 8 (by decide) ed_w2_49 rfl rfl dX7_readSlug_31 ?_
        refine lv_iload_n S.1 S.2.1 dX7_readSlug_34 rfl (lv_at hl 1 rfl) ?_
        refine lv_aload_n S.1 S.2.1 dX7_readSlug_35 rfl (lv_at hl 0 rfl) ?_
        obtain ⟨r10, hq10, hf⟩ := ed_b_e hf
        refine ed_kI (ed_rV S hK hM (c_X7_sign _ D cy B μ σ r10 hq10) (cwV 0 S.2.2.2.2 (ed_gV ed_w2_201 ed_w2_203 ed_wp_7 ed_w1_9 ed_w2_204) rfl rfl rfl hd_X7_sign ⟨Nat.le_of_ble_eq_true rfl, Nat.le_of_ble_eq_true rfl⟩) (ed_rc (q := (RX7, TX7, 9)) (r := (σ 17 0)) hK hM ed_v17 (ed_sJr μ 7 σ 17 0) (ed_e17 cy B 7 0 _) rfl) rfl hl.1 rfl (Nat.le_of_ble_eq_true rfl) dX7_readSlug_36 ⟨Nat.zero_le _, Nat.zero_le _⟩) hS (fun H locs hM hS => ?_)
        obtain ⟨hx11, hf⟩ := ed_g_e hf
        refine ed_ist (j := 7) S hK hM hS ed_v20 (ed_e20 cy B 7 0) hx11 dX7_readSlug_39 (fun H locs hM hS => ?_)
        obtain ⟨σ12, eσ12, hf⟩ := ed_t_e hf
        have hM : ed_P D cy B (ed_sJ μ 7 σ12) H := by rw [eσ12]; exact hM
        refine lv_aload_n S.1 S.2.1 dX7_readSlug_40 rfl (lv_at hl 0 rfl) ?_
        refine lv_dup S.1 S.2.1 dX7_readSlug_41 rfl ?_
        refine ed_get (r := (σ12 17 0)) S ed_uX7 hK hM ed_v17 (ed_sJr μ 7 σ12 17 0) (ed_e17 cy B 7 0 _) rfl 7 (by decide) ed_w2_48 rfl rfl dX7_readSlug_42 ?_
        refine lv_iconst (v := 1) S.1 S.2.1 dX7_readSlug_45 (by decide) ?_
        refine lv_iadd S.1 S.2.1 dX7_readSlug_46 ?_
        refine ed_put (j := 7) S ed_uX7 tyX7 tyX7_ok nmX7 hK hM hS ed_v17 (ed_e17 cy B 7 0 _) rfl 7 (by decide) ed_w2_48 rfl rfl rfl rfl (Nat.le_of_ble_eq_true rfl) (ed_u17_7 cy B 7 0 _ _) dX7_readSlug_47 (fun H locs hM hS => ?_)
        obtain ⟨σ13, eσ13, hf⟩ := ed_t_e hf
        have hM : ed_P D cy B (ed_sJ μ 7 σ13) H := by rw [eσ13]; exact hM
        refine lv_aload_n S.1 S.2.1 dX7_readSlug_50 rfl (lv_at hl 0 rfl) ?_
        refine lv_dup S.1 S.2.1 dX7_readSlug_51 rfl ?_
        refine ed_get (r := (σ13 17 0)) S ed_uX7 hK hM ed_v17 (ed_sJr μ 7 σ13 17 0) (ed_e17 cy B 7 0 _) rfl 2 (by decide) ed_w2_38 rfl rfl dX7_readSlug_52 ?_
        refine lv_iconst (v := 1) S.1 S.2.1 dX7_readSlug_55 (by decide) ?_
        refine lv_iadd S.1 S.2.1 dX7_readSlug_56 ?_
        refine ed_put (j := 7) S ed_uX7 tyX7 tyX7_ok nmX7 hK hM hS ed_v17 (ed_e17 cy B 7 0 _) rfl 2 (by decide) ed_w2_38 rfl rfl rfl rfl (Nat.le_of_ble_eq_true rfl) (ed_u17_2 cy B 7 0 _ _) dX7_readSlug_57 (fun H locs hM hS => ?_)
        obtain ⟨σ14, eσ14, hf⟩ := ed_t_e hf
        have hM : ed_P D cy B (ed_sJ μ 7 σ14) H := by rw [eσ14]; exact hM
        refine lv_iinc (v := x1 + 1) (lv' := [(1, .int (x1 + 1)), (0, .ref (B + ed_oF 7 17 0))]) S.1 S.2.1 dX7_readSlug_60 hl (k := 1) rfl rfl (by decide) rfl (fun ls hl => ?_)
        refine lv_goto (tgt := 7) S.1 S.2.1 dX7_readSlug_63 (by decide) ?_
        exact ih (x1 + 1) σ14 hf _ _ _ hM hS (lv_sub hl [1, 0] rfl)
set_option maxHeartbeats 4000000 in
set_option maxRecDepth 100000 in
theorem c_X7_readSlug (l : Launch) (D : va_G) (cy : Nat → ClassId) (B : Nat) (μ : ed_CM) (σ : ed_SM) (r : Int32) (σ' : ed_SM) (hf : f_X7_readSlug σ = some (r, σ')) :
    Met l yX7_readSlug wsX7_readSlug rmX7_readSlug (ed_pC D cy (ed_P D cy B (ed_sJ μ 7 σ)) [.ref (B + ed_oF 7 17 0)]) (ed_qI (ed_A B) (ed_P D cy B (ed_sJ μ 7 σ')) r) 0 0 (ed_A B) := by
  refine Met.ofW (cc := cX7_readSlug) (maxL := 2) (ret := (some .boolean)) (by decide) rfl ?_
  intro p e s m args below meth c s₁ B0 hml hv
  obtain ⟨rfl, hM, hK⟩ := hv
  have S : CallFix p m c cX7_readSlug 2 s _ ed_ws RX7 := ⟨B0.exec, B0.bytes, hml, findClass_of_methodNamed B0.named, fun w hw => atoms_spec (ws := wsX7_readSlug) B0.pre w (List.mem_cons_of_mem _ hw)⟩
  have hr := B0.returns
  have hlocks := B0.notSynchronized
  have hS : va_S (ed_A B) s.heap s.heap [] := va_S.rf
  have hl := lv_entry ([.ref (B + ed_oF 7 17 0)]) (n := 2) (Nat.le_of_ble_eq_true rfl)
  rw [lg_entry_eq]
  generalize (lg_sl ([.ref (B + ed_oF 7 17 0)]) ++ List.replicate (2 - (lg_sl ([.ref (B + ed_oF 7 17 0)])).length) Slot.unset).toArray = ls at hl ⊢
  have hl : lv_has ls 2 [(0, .ref (B + ed_oF 7 17 0))] := hl
  unfold f_X7_readSlug at hf
  refine lv_aload_n S.1 S.2.1 dX7_readSlug_0 rfl (lv_at hl 0 rfl) ?_
  refine lv_iconst (v := 0) S.1 S.2.1 dX7_readSlug_1 (by decide) ?_
  refine ed_put (j := 7) S ed_uX7 tyX7 tyX7_ok nmX7 hK hM hS ed_v17 (ed_e17 cy B 7 0 _) rfl 7 (by decide) ed_w2_48 rfl rfl rfl rfl (Nat.le_of_ble_eq_true rfl) (ed_u17_7 cy B 7 0 _ _) dX7_readSlug_2 (fun H locs hM hS => ?_)
  obtain ⟨σ1, eσ1, hf⟩ := ed_t_e hf
  have hM : ed_P D cy B (ed_sJ μ 7 σ1) H := by rw [eσ1]; exact hM
  refine lv_iconst (v := 0) S.1 S.2.1 dX7_readSlug_5 (by decide) ?_
  refine lv_istore_n (lv' := [(1, .int 0), (0, .ref (B + ed_oF 7 17 0))]) S.1 S.2.1 dX7_readSlug_6 rfl hl (by decide) rfl (fun ls hl => ?_)
  exact w_X7_readSlug_7 S hr hlocks hK r σ' ed_N 0 σ1 hf _ _ _ hM hS (lv_sub hl [1, 0] rfl)
set_option maxHeartbeats 4000000 in
set_option maxRecDepth 100000 in
theorem c_X7_parse (l : Launch) (D : va_G) (cy : Nat → ClassId) (B : Nat) (μ : ed_CM) (σ : ed_SM) (r : Int32) (σ' : ed_SM) (hf : f_X7_parse σ = some (r, σ')) :
    Met l yX7_parse wsX7_parse rmX7_parse (ed_pC D cy (ed_P D cy B (ed_sJ μ 7 σ)) [.ref (B + ed_oF 7 17 0)]) (ed_qI (ed_A B) (ed_P D cy B (ed_sJ μ 7 σ')) r) 0 0 (ed_A B) := by
  refine Met.ofW (cc := cX7_parse) (maxL := 2) (ret := (some .int)) (by decide) rfl ?_
  intro p e s m args below meth c s₁ B0 hml hv
  obtain ⟨rfl, hM, hK⟩ := hv
  have S : CallFix p m c cX7_parse 2 s _ ed_ws RX7 := ⟨B0.exec, B0.bytes, hml, findClass_of_methodNamed B0.named, fun w hw => atoms_spec (ws := wsX7_parse) B0.pre w (List.mem_cons_of_mem _ hw)⟩
  have hr := B0.returns
  have hlocks := B0.notSynchronized
  have hS : va_S (ed_A B) s.heap s.heap [] := va_S.rf
  have hl := lv_entry ([.ref (B + ed_oF 7 17 0)]) (n := 2) (Nat.le_of_ble_eq_true rfl)
  rw [lg_entry_eq]
  generalize (lg_sl ([.ref (B + ed_oF 7 17 0)]) ++ List.replicate (2 - (lg_sl ([.ref (B + ed_oF 7 17 0)])).length) Slot.unset).toArray = ls at hl ⊢
  have hl : lv_has ls 2 [(0, .ref (B + ed_oF 7 17 0))] := hl
  unfold f_X7_parse at hf
  refine lv_aload_n S.1 S.2.1 dX7_parse_0 rfl (lv_at hl 0 rfl) ?_
  refine lv_iconst (v := 0) S.1 S.2.1 dX7_parse_1 (by decide) ?_
  refine ed_put (j := 7) S ed_uX7 tyX7 tyX7_ok nmX7 hK hM hS ed_v17 (ed_e17 cy B 7 0 _) rfl 2 (by decide) ed_w2_38 rfl rfl rfl rfl (Nat.le_of_ble_eq_true rfl) (ed_u17_2 cy B 7 0 _ _) dX7_parse_2 (fun H locs hM hS => ?_)
  obtain ⟨σ1, eσ1, hf⟩ := ed_t_e hf
  have hM : ed_P D cy B (ed_sJ μ 7 σ1) H := by rw [eσ1]; exact hM
  refine lv_aload_n S.1 S.2.1 dX7_parse_5 rfl (lv_at hl 0 rfl) ?_
  obtain ⟨r2, σ2, hq2, hf⟩ := ed_b2_e hf
  refine ed_kI (ed_rV S hK hM (c_X7_readTopic _ D cy B μ σ1 r2 σ2 hq2) (cwV 0 S.2.2.2.2 (ed_gV ed_w2_193 ed_w2_195 ed_wp_5 ed_w1_9 ed_w2_196) rfl rfl rfl hd_X7_readTopic ⟨Nat.le_of_ble_eq_true rfl, Nat.le_of_ble_eq_true rfl⟩) (ed_rc (q := (RX7, TX7, 9)) (r := (σ1 17 0)) hK hM ed_v17 (ed_sJr μ 7 σ1 17 0) (ed_e17 cy B 7 0 _) rfl) rfl hl.1 rfl (Nat.le_of_ble_eq_true rfl) dX7_parse_6 ⟨Nat.zero_le _, Nat.zero_le _⟩) hS (fun H locs hM hS => ?_)
  refine lv_if_eq (tgt := 73) S.1 S.2.1 dX7_parse_9 (by decide) (fun c3 => ?_) (fun c3 => ?_)
  · replace hf := ed_ip c3 hf
    refine lv_iconst (v := 0) S.1 S.2.1 dX7_parse_73 (by decide) ?_
    refine lv_istore_n (lv' := [(1, .int 0), (0, .ref (B + ed_oF 7 17 0))]) S.1 S.2.1 dX7_parse_74 rfl hl (by decide) rfl (fun ls hl => ?_)
    refine lv_iload_n S.1 S.2.1 dX7_parse_75 rfl (lv_at hl 0 rfl) ?_
    refine lv_if_eq (tgt := 83) S.1 S.2.1 dX7_parse_76 (by decide) (fun _ => ?_) (fun c => absurd c (by decide))
    refine lv_aload_n S.1 S.2.1 dX7_parse_83 rfl (lv_at hl 1 rfl) ?_
    refine ed_get (r := (σ2 17 0)) S ed_uX7 hK hM ed_v17 (ed_sJr μ 7 σ2 17 0) (ed_e17 cy B 7 0 _) rfl 2 (by decide) ed_w2_38 rfl rfl dX7_parse_84 ?_
    obtain ⟨rfl, rfl⟩ := ed_so hf
    exact ed_ri S hr hlocks hM hS dX7_parse_87
  · replace hf := ed_in_ c3 hf
    refine lv_aload_n S.1 S.2.1 dX7_parse_12 rfl (lv_at hl 0 rfl) ?_
    refine lv_bipush (v := 32) S.1 S.2.1 dX7_parse_13 (by decide) ?_
    obtain ⟨r4, σ4, hq4, hf⟩ := ed_b2_e hf
    refine ed_kI (ed_rV S hK hM (c_X7_readSign _ D cy B μ 32 σ2 r4 σ4 hq4) (cwV 1 S.2.2.2.2 (ed_gV ed_w2_208 ed_w2_210 ed_wp_8 ed_w1_9 ed_w2_211) rfl rfl rfl hd_X7_readSign ⟨Nat.le_of_ble_eq_true rfl, Nat.le_of_ble_eq_true rfl⟩) (ed_rc (q := (RX7, TX7, 9)) (r := (σ2 17 0)) hK hM ed_v17 (ed_sJr μ 7 σ2 17 0) (ed_e17 cy B 7 0 _) rfl) rfl hl.1 rfl (Nat.le_of_ble_eq_true rfl) dX7_parse_15 ⟨Nat.zero_le _, Nat.zero_le _⟩) hS (fun H locs hM hS => ?_)
    refine lv_if_eq (tgt := 73) S.1 S.2.1 dX7_parse_18 (by decide) (fun c5 => ?_) (fun c5 => ?_)
    · replace hf := ed_ip c5 hf
      refine lv_iconst (v := 0) S.1 S.2.1 dX7_parse_73 (by decide) ?_
      refine lv_istore_n (lv' := [(1, .int 0), (0, .ref (B + ed_oF 7 17 0))]) S.1 S.2.1 dX7_parse_74 rfl hl (by decide) rfl (fun ls hl => ?_)
      refine lv_iload_n S.1 S.2.1 dX7_parse_75 rfl (lv_at hl 0 rfl) ?_
      refine lv_if_eq (tgt := 83) S.1 S.2.1 dX7_parse_76 (by decide) (fun _ => ?_) (fun c => absurd c (by decide))
      refine lv_aload_n S.1 S.2.1 dX7_parse_83 rfl (lv_at hl 1 rfl) ?_
      refine ed_get (r := (σ4 17 0)) S ed_uX7 hK hM ed_v17 (ed_sJr μ 7 σ4 17 0) (ed_e17 cy B 7 0 _) rfl 2 (by decide) ed_w2_38 rfl rfl dX7_parse_84 ?_
      obtain ⟨rfl, rfl⟩ := ed_so hf
      exact ed_ri S hr hlocks hM hS dX7_parse_87
    · replace hf := ed_in_ c5 hf
      refine lv_aload_n S.1 S.2.1 dX7_parse_21 rfl (lv_at hl 0 rfl) ?_
      obtain ⟨r6, σ6, hq6, hf⟩ := ed_b2_e hf
      refine ed_kI (ed_rV S hK hM (c_X7_readByline _ D cy B μ σ4 r6 σ6 hq6) (cwV 0 S.2.2.2.2 (ed_gV ed_w2_212 ed_w2_214 ed_wp_9 ed_w1_9 ed_w2_215) rfl rfl rfl hd_X7_readByline ⟨Nat.le_of_ble_eq_true rfl, Nat.le_of_ble_eq_true rfl⟩) (ed_rc (q := (RX7, TX7, 9)) (r := (σ4 17 0)) hK hM ed_v17 (ed_sJr μ 7 σ4 17 0) (ed_e17 cy B 7 0 _) rfl) rfl hl.1 rfl (Nat.le_of_ble_eq_true rfl) dX7_parse_22 ⟨Nat.zero_le _, Nat.zero_le _⟩) hS (fun H locs hM hS => ?_)
      refine lv_if_eq (tgt := 73) S.1 S.2.1 dX7_parse_25 (by decide) (fun c7 => ?_) (fun c7 => ?_)
      · replace hf := ed_ip c7 hf
        refine lv_iconst (v := 0) S.1 S.2.1 dX7_parse_73 (by decide) ?_
        refine lv_istore_n (lv' := [(1, .int 0), (0, .ref (B + ed_oF 7 17 0))]) S.1 S.2.1 dX7_parse_74 rfl hl (by decide) rfl (fun ls hl => ?_)
        refine lv_iload_n S.1 S.2.1 dX7_parse_75 rfl (lv_at hl 0 rfl) ?_
        refine lv_if_eq (tgt := 83) S.1 S.2.1 dX7_parse_76 (by decide) (fun _ => ?_) (fun c => absurd c (by decide))
        refine lv_aload_n S.1 S.2.1 dX7_parse_83 rfl (lv_at hl 1 rfl) ?_
        refine ed_get (r := (σ6 17 0)) S ed_uX7 hK hM ed_v17 (ed_sJr μ 7 σ6 17 0) (ed_e17 cy B 7 0 _) rfl 2 (by decide) ed_w2_38 rfl rfl dX7_parse_84 ?_
        obtain ⟨rfl, rfl⟩ := ed_so hf
        exact ed_ri S hr hlocks hM hS dX7_parse_87
      · replace hf := ed_in_ c7 hf
        refine lv_aload_n S.1 S.2.1 dX7_parse_28 rfl (lv_at hl 0 rfl) ?_
        refine lv_bipush (v := 32) S.1 S.2.1 dX7_parse_29 (by decide) ?_
        obtain ⟨r8, σ8, hq8, hf⟩ := ed_b2_e hf
        refine ed_kI (ed_rV S hK hM (c_X7_readSign _ D cy B μ 32 σ6 r8 σ8 hq8) (cwV 1 S.2.2.2.2 (ed_gV ed_w2_208 ed_w2_210 ed_wp_8 ed_w1_9 ed_w2_211) rfl rfl rfl hd_X7_readSign ⟨Nat.le_of_ble_eq_true rfl, Nat.le_of_ble_eq_true rfl⟩) (ed_rc (q := (RX7, TX7, 9)) (r := (σ6 17 0)) hK hM ed_v17 (ed_sJr μ 7 σ6 17 0) (ed_e17 cy B 7 0 _) rfl) rfl hl.1 rfl (Nat.le_of_ble_eq_true rfl) dX7_parse_31 ⟨Nat.zero_le _, Nat.zero_le _⟩) hS (fun H locs hM hS => ?_)
        refine lv_if_eq (tgt := 73) S.1 S.2.1 dX7_parse_34 (by decide) (fun c9 => ?_) (fun c9 => ?_)
        · replace hf := ed_ip c9 hf
          refine lv_iconst (v := 0) S.1 S.2.1 dX7_parse_73 (by decide) ?_
          refine lv_istore_n (lv' := [(1, .int 0), (0, .ref (B + ed_oF 7 17 0))]) S.1 S.2.1 dX7_parse_74 rfl hl (by decide) rfl (fun ls hl => ?_)
          refine lv_iload_n S.1 S.2.1 dX7_parse_75 rfl (lv_at hl 0 rfl) ?_
          refine lv_if_eq (tgt := 83) S.1 S.2.1 dX7_parse_76 (by decide) (fun _ => ?_) (fun c => absurd c (by decide))
          refine lv_aload_n S.1 S.2.1 dX7_parse_83 rfl (lv_at hl 1 rfl) ?_
          refine ed_get (r := (σ8 17 0)) S ed_uX7 hK hM ed_v17 (ed_sJr μ 7 σ8 17 0) (ed_e17 cy B 7 0 _) rfl 2 (by decide) ed_w2_38 rfl rfl dX7_parse_84 ?_
          obtain ⟨rfl, rfl⟩ := ed_so hf
          exact ed_ri S hr hlocks hM hS dX7_parse_87
        · replace hf := ed_in_ c9 hf
          refine lv_aload_n S.1 S.2.1 dX7_parse_37 rfl (lv_at hl 0 rfl) ?_
          refine lv_bipush (v := 64) S.1 S.2.1 dX7_parse_38 (by decide) ?_
          obtain ⟨r10, σ10, hq10, hf⟩ := ed_b2_e hf
          refine ed_kI (ed_rV S hK hM (c_X7_readSign _ D cy B μ 64 σ8 r10 σ10 hq10) (cwV 1 S.2.2.2.2 (ed_gV ed_w2_208 ed_w2_210 ed_wp_8 ed_w1_9 ed_w2_211) rfl rfl rfl hd_X7_readSign ⟨Nat.le_of_ble_eq_true rfl, Nat.le_of_ble_eq_true rfl⟩) (ed_rc (q := (RX7, TX7, 9)) (r := (σ8 17 0)) hK hM ed_v17 (ed_sJr μ 7 σ8 17 0) (ed_e17 cy B 7 0 _) rfl) rfl hl.1 rfl (Nat.le_of_ble_eq_true rfl) dX7_parse_40 ⟨Nat.zero_le _, Nat.zero_le _⟩) hS (fun H locs hM hS => ?_)
          refine lv_if_eq (tgt := 73) S.1 S.2.1 dX7_parse_43 (by decide) (fun c11 => ?_) (fun c11 => ?_)
          · replace hf := ed_ip c11 hf
            refine lv_iconst (v := 0) S.1 S.2.1 dX7_parse_73 (by decide) ?_
            refine lv_istore_n (lv' := [(1, .int 0), (0, .ref (B + ed_oF 7 17 0))]) S.1 S.2.1 dX7_parse_74 rfl hl (by decide) rfl (fun ls hl => ?_)
            refine lv_iload_n S.1 S.2.1 dX7_parse_75 rfl (lv_at hl 0 rfl) ?_
            refine lv_if_eq (tgt := 83) S.1 S.2.1 dX7_parse_76 (by decide) (fun _ => ?_) (fun c => absurd c (by decide))
            refine lv_aload_n S.1 S.2.1 dX7_parse_83 rfl (lv_at hl 1 rfl) ?_
            refine ed_get (r := (σ10 17 0)) S ed_uX7 hK hM ed_v17 (ed_sJr μ 7 σ10 17 0) (ed_e17 cy B 7 0 _) rfl 2 (by decide) ed_w2_38 rfl rfl dX7_parse_84 ?_
            obtain ⟨rfl, rfl⟩ := ed_so hf
            exact ed_ri S hr hlocks hM hS dX7_parse_87
          · replace hf := ed_in_ c11 hf
            refine lv_aload_n S.1 S.2.1 dX7_parse_46 rfl (lv_at hl 0 rfl) ?_
            obtain ⟨r12, σ12, hq12, hf⟩ := ed_b2_e hf
            refine ed_kI (ed_rV S hK hM (c_X7_readEmbargo _ D cy B μ σ10 r12 σ12 hq12) (cwV 0 S.2.2.2.2 (ed_gV ed_w2_224 ed_w2_226 ed_wp_12 ed_w1_9 ed_w2_227) rfl rfl rfl hd_X7_readEmbargo ⟨Nat.le_of_ble_eq_true rfl, Nat.le_of_ble_eq_true rfl⟩) (ed_rc (q := (RX7, TX7, 9)) (r := (σ10 17 0)) hK hM ed_v17 (ed_sJr μ 7 σ10 17 0) (ed_e17 cy B 7 0 _) rfl) rfl hl.1 rfl (Nat.le_of_ble_eq_true rfl) dX7_parse_47 ⟨Nat.zero_le _, Nat.zero_le _⟩) hS (fun H locs hM hS => ?_)
            refine lv_if_eq (tgt := 73) S.1 S.2.1 dX7_parse_50 (by decide) (fun c13 => ?_) (fun c13 => ?_)
            · replace hf := ed_ip c13 hf
              refine lv_iconst (v := 0) S.1 S.2.1 dX7_parse_73 (by decide) ?_
              refine lv_istore_n (lv' := [(1, .int 0), (0, .ref (B + ed_oF 7 17 0))]) S.1 S.2.1 dX7_parse_74 rfl hl (by decide) rfl (fun ls hl => ?_)
              refine lv_iload_n S.1 S.2.1 dX7_parse_75 rfl (lv_at hl 0 rfl) ?_
              refine lv_if_eq (tgt := 83) S.1 S.2.1 dX7_parse_76 (by decide) (fun _ => ?_) (fun c => absurd c (by decide))
              refine lv_aload_n S.1 S.2.1 dX7_parse_83 rfl (lv_at hl 1 rfl) ?_
              refine ed_get (r := (σ12 17 0)) S ed_uX7 hK hM ed_v17 (ed_sJr μ 7 σ12 17 0) (ed_e17 cy B 7 0 _) rfl 2 (by decide) ed_w2_38 rfl rfl dX7_parse_84 ?_
              obtain ⟨rfl, rfl⟩ := ed_so hf
              exact ed_ri S hr hlocks hM hS dX7_parse_87
            · replace hf := ed_in_ c13 hf
              refine lv_aload_n S.1 S.2.1 dX7_parse_53 rfl (lv_at hl 0 rfl) ?_
              refine lv_bipush (v := 32) S.1 S.2.1 dX7_parse_54 (by decide) ?_
              obtain ⟨r14, σ14, hq14, hf⟩ := ed_b2_e hf
              refine ed_kI (ed_rV S hK hM (c_X7_readSign _ D cy B μ 32 σ12 r14 σ14 hq14) (cwV 1 S.2.2.2.2 (ed_gV ed_w2_208 ed_w2_210 ed_wp_8 ed_w1_9 ed_w2_211) rfl rfl rfl hd_X7_readSign ⟨Nat.le_of_ble_eq_true rfl, Nat.le_of_ble_eq_true rfl⟩) (ed_rc (q := (RX7, TX7, 9)) (r := (σ12 17 0)) hK hM ed_v17 (ed_sJr μ 7 σ12 17 0) (ed_e17 cy B 7 0 _) rfl) rfl hl.1 rfl (Nat.le_of_ble_eq_true rfl) dX7_parse_56 ⟨Nat.zero_le _, Nat.zero_le _⟩) hS (fun H locs hM hS => ?_)
              refine lv_if_eq (tgt := 73) S.1 S.2.1 dX7_parse_59 (by decide) (fun c15 => ?_) (fun c15 => ?_)
              · replace hf := ed_ip c15 hf
                refine lv_iconst (v := 0) S.1 S.2.1 dX7_parse_73 (by decide) ?_
                refine lv_istore_n (lv' := [(1, .int 0), (0, .ref (B + ed_oF 7 17 0))]) S.1 S.2.1 dX7_parse_74 rfl hl (by decide) rfl (fun ls hl => ?_)
                refine lv_iload_n S.1 S.2.1 dX7_parse_75 rfl (lv_at hl 0 rfl) ?_
                refine lv_if_eq (tgt := 83) S.1 S.2.1 dX7_parse_76 (by decide) (fun _ => ?_) (fun c => absurd c (by decide))
                refine lv_aload_n S.1 S.2.1 dX7_parse_83 rfl (lv_at hl 1 rfl) ?_
                refine ed_get (r := (σ14 17 0)) S ed_uX7 hK hM ed_v17 (ed_sJr μ 7 σ14 17 0) (ed_e17 cy B 7 0 _) rfl 2 (by decide) ed_w2_38 rfl rfl dX7_parse_84 ?_
                obtain ⟨rfl, rfl⟩ := ed_so hf
                exact ed_ri S hr hlocks hM hS dX7_parse_87
              · replace hf := ed_in_ c15 hf
                refine lv_aload_n S.1 S.2.1 dX7_parse_62 rfl (lv_at hl 0 rfl) ?_
                obtain ⟨r16, σ16, hq16, hf⟩ := ed_b2_e hf
                refine ed_kI (ed_rV S hK hM (c_X7_readSlug _ D cy B μ σ14 r16 σ16 hq16) (cwV 0 S.2.2.2.2 (ed_gV ed_w2_228 ed_w2_230 ed_wp_13 ed_w1_9 ed_w2_231) rfl rfl rfl hd_X7_readSlug ⟨Nat.le_of_ble_eq_true rfl, Nat.le_of_ble_eq_true rfl⟩) (ed_rc (q := (RX7, TX7, 9)) (r := (σ14 17 0)) hK hM ed_v17 (ed_sJr μ 7 σ14 17 0) (ed_e17 cy B 7 0 _) rfl) rfl hl.1 rfl (Nat.le_of_ble_eq_true rfl) dX7_parse_63 ⟨Nat.zero_le _, Nat.zero_le _⟩) hS (fun H locs hM hS => ?_)
                refine lv_if_eq (tgt := 73) S.1 S.2.1 dX7_parse_66 (by decide) (fun c17 => ?_) (fun c17 => ?_)
                · replace hf := ed_ip c17 hf
                  refine lv_iconst (v := 0) S.1 S.2.1 dX7_parse_73 (by decide) ?_
                  refine lv_istore_n (lv' := [(1, .int 0), (0, .ref (B + ed_oF 7 17 0))]) S.1 S.2.1 dX7_parse_74 rfl hl (by decide) rfl (fun ls hl => ?_)
                  refine lv_iload_n S.1 S.2.1 dX7_parse_75 rfl (lv_at hl 0 rfl) ?_
                  refine lv_if_eq (tgt := 83) S.1 S.2.1 dX7_parse_76 (by decide) (fun _ => ?_) (fun c => absurd c (by decide))
                  refine lv_aload_n S.1 S.2.1 dX7_parse_83 rfl (lv_at hl 1 rfl) ?_
                  refine ed_get (r := (σ16 17 0)) S ed_uX7 hK hM ed_v17 (ed_sJr μ 7 σ16 17 0) (ed_e17 cy B 7 0 _) rfl 2 (by decide) ed_w2_38 rfl rfl dX7_parse_84 ?_
                  obtain ⟨rfl, rfl⟩ := ed_so hf
                  exact ed_ri S hr hlocks hM hS dX7_parse_87
                · replace hf := ed_in_ c17 hf
                  refine lv_iconst (v := 1) S.1 S.2.1 dX7_parse_69 (by decide) ?_
                  refine lv_goto (tgt := 74) S.1 S.2.1 dX7_parse_70 (by decide) ?_
                  refine lv_istore_n (lv' := [(1, .int 1), (0, .ref (B + ed_oF 7 17 0))]) S.1 S.2.1 dX7_parse_74 rfl hl (by decide) rfl (fun ls hl => ?_)
                  refine lv_iload_n S.1 S.2.1 dX7_parse_75 rfl (lv_at hl 0 rfl) ?_
                  refine lv_if_eq (tgt := 83) S.1 S.2.1 dX7_parse_76 (by decide) (fun c => absurd c (by decide)) (fun _ => ?_)
                  refine lv_iconst (v := (-1)) S.1 S.2.1 dX7_parse_79 (by decide) ?_
                  refine lv_goto (tgt := 87) S.1 S.2.1 dX7_parse_80 (by decide) ?_
                  obtain ⟨rfl, rfl⟩ := ed_so hf
                  exact ed_ri S hr hlocks hM hS dX7_parse_87
