/-! walks, laid by program (wip/p32/gen/gen.py) -/
set_option maxHeartbeats 4000000 in
set_option maxRecDepth 100000 in
theorem w_X2_dropOldest_2 {p : Program} {l : Launch} {e : Env} {s : State} {m : MethodId} {args : Array Value} {below : List Frame} {meth : Method} {c : Code} {D : va_G} {cy : Nat → ClassId} {B : Nat} (S : CallFix p m c cX2_dropOldest 3 s args ed_ws RX2) (hr : meth.sig.returnType = none) (hlocks : meth.locks = false) (hK : ed_K D cy s) (μ' : ed_CM) :
    ∀ (n : Nat), ∀ (x1 : Int32) (μ : ed_CM), f_X2_dropOldest_2  n x1 μ = some μ' → ∀ (H : Heap) (locs : List Loc) (ls : Array Slot), ed_P D cy B μ H → va_S (ed_A B) s.heap H locs → lv_has ls 3 [(0, .ref (B + ed_oF 7 15 0)), (1, .int x1)] → W p l e (headSpec wsX2_dropOldest rmX2_dropOldest).room s m args below meth c H locs 0 0 (MQ below (ed_qV (ed_A B) (ed_P D cy B μ')) args s 0 0 (ed_A B)) (F0 m 2 ls []) := by
  intro n
  induction n with
  | zero => intro x1 μ hf; rw [f_X2_dropOldest_2] at hf; cases hf
  | succ n ih =>
    intro x1 μ hf H locs ls hM hS hl
    rw [f_X2_dropOldest_2] at hf
    refine lv_iload_n S.1 S.2.1 dX2_dropOldest_2 rfl (lv_at hl 1 rfl) ?_
    refine lv_iconst (v := 1) S.1 S.2.1 dX2_dropOldest_3 (by decide) ?_
    refine lv_iadd S.1 S.2.1 dX2_dropOldest_4 ?_
    refine lv_aload_n S.1 S.2.1 dX2_dropOldest_5 rfl (lv_at hl 0 rfl) ?_
    refine ed_get (r := (μ 7 15 0)) S ed_uX2 hK hM ed_v15 rfl (ed_e15 cy B 7 0 _) rfl 0 (by decide) ed_w2_21 rfl rfl dX2_dropOldest_6 ?_
    refine ed_len (r := (μ 7 16 0)) (v := 4) (ty := (.object "EmbargoDesk$State")) (t := 5) S hK hM ed_v16 rfl (ed_e16 cy B 7 0 _) rfl (by decide) dX2_dropOldest_9 ?_
    refine lv_icmp_ge (tgt := 49) S.1 S.2.1 dX2_dropOldest_10 (by decide) (fun c1 => ?_) (fun c1 => ?_)
    · replace hf := ed_ip c1 hf
      refine lv_aload_n S.1 S.2.1 dX2_dropOldest_49 rfl (lv_at hl 0 rfl) ?_
      refine lv_dup S.1 S.2.1 dX2_dropOldest_50 rfl ?_
      refine ed_get (r := (μ 7 15 0)) S ed_uX2 hK hM ed_v15 rfl (ed_e15 cy B 7 0 _) rfl 1 (by decide) ed_w2_22 rfl rfl dX2_dropOldest_51 ?_
      refine lv_iconst (v := 1) S.1 S.2.1 dX2_dropOldest_54 (by decide) ?_
      refine lv_isub S.1 S.2.1 dX2_dropOldest_55 ?_
      refine ed_put (j := 7) S ed_uX2 tyX2 tyX2_ok nmX2 hK (ed_eta hM) hS ed_v15 (ed_e15 cy B 7 0 _) rfl 1 (by decide) ed_w2_22 rfl rfl rfl rfl (Nat.le_of_ble_eq_true rfl) (ed_u15_1 cy B 7 0 _ _) dX2_dropOldest_56 (fun H locs hM hS => ?_)
      obtain ⟨μ2, eμ2, hf⟩ := ed_t_e hf
      have hM : ed_P D cy B μ2 H := by rw [eμ2]; exact hM
      obtain rfl := Option.some.inj hf
      exact ed_rv S hr hlocks hM hS dX2_dropOldest_59
    · replace hf := ed_in_ c1 hf
      refine lv_aload_n S.1 S.2.1 dX2_dropOldest_13 rfl (lv_at hl 0 rfl) ?_
      refine ed_get (r := (μ 7 15 0)) S ed_uX2 hK hM ed_v15 rfl (ed_e15 cy B 7 0 _) rfl 0 (by decide) ed_w2_21 rfl rfl dX2_dropOldest_14 ?_
      refine lv_iload_n S.1 S.2.1 dX2_dropOldest_17 rfl (lv_at hl 1 rfl) ?_
      obtain ⟨hx3, hf⟩ := ed_g_e hf
      obtain ⟨j4q, ej4q, hf⟩ := ed_t_e hf
      have hj4q : j4q < 7 := by rw [ej4q]; exact Nat.mod_lt _ (by decide)
      refine ed_ald (r := (μ 7 16 0)) (v := .ref (B + ed_oF j4q 0 0)) S hK hM ed_v16 rfl (ed_e16 cy B 7 0 _) (C := "EmbargoDesk$State") (t := 5) rfl hx3 (by rw [ej4q]; rfl) dX2_dropOldest_18 ?_
      refine lv_astore_n (lv' := [(2, .ref (B + ed_oF j4q 0 0)), (0, .ref (B + ed_oF 7 15 0)), (1, .int x1)]) S.1 S.2.1 dX2_dropOldest_19 rfl hl (by decide) rfl (fun ls hl => ?_)
      refine lv_aload_n S.1 S.2.1 dX2_dropOldest_20 rfl (lv_at hl 1 rfl) ?_
      refine ed_get (r := (μ 7 15 0)) S ed_uX2 hK hM ed_v15 rfl (ed_e15 cy B 7 0 _) rfl 0 (by decide) ed_w2_21 rfl rfl dX2_dropOldest_21 ?_
      refine lv_iload_n S.1 S.2.1 dX2_dropOldest_24 rfl (lv_at hl 2 rfl) ?_
      refine lv_aload_n S.1 S.2.1 dX2_dropOldest_25 rfl (lv_at hl 1 rfl) ?_
      refine ed_get (r := (μ 7 15 0)) S ed_uX2 hK hM ed_v15 rfl (ed_e15 cy B 7 0 _) rfl 0 (by decide) ed_w2_21 rfl rfl dX2_dropOldest_26 ?_
      refine lv_iload_n S.1 S.2.1 dX2_dropOldest_29 rfl (lv_at hl 2 rfl) ?_
      refine lv_iconst (v := 1) S.1 S.2.1 dX2_dropOldest_30 (by decide) ?_
      refine lv_iadd S.1 S.2.1 dX2_dropOldest_31 ?_
      obtain ⟨hx5, hf⟩ := ed_g_e hf
      obtain ⟨j6q, ej6q, hf⟩ := ed_t_e hf
      have hj6q : j6q < 7 := by rw [ej6q]; exact Nat.mod_lt _ (by decide)
      refine ed_ald (r := (μ 7 16 0)) (v := .ref (B + ed_oF j6q 0 0)) S hK hM ed_v16 rfl (ed_e16 cy B 7 0 _) (C := "EmbargoDesk$State") (t := 5) rfl hx5 (by rw [ej6q]; rfl) dX2_dropOldest_32 ?_
      obtain ⟨hx7, hf⟩ := ed_g_e hf
      refine ed_ast S hK (ed_eta hM) hS hj6q hx7 dX2_dropOldest_33 (fun H locs hM hS => ?_)
      obtain ⟨μ8, eμ8, hf⟩ := ed_t_e hf
      have hM : ed_P D cy B μ8 H := by rw [eμ8]; exact hM
      refine lv_aload_n S.1 S.2.1 dX2_dropOldest_34 rfl (lv_at hl 1 rfl) ?_
      refine ed_get (r := (μ8 7 15 0)) S ed_uX2 hK hM ed_v15 rfl (ed_e15 cy B 7 0 _) rfl 0 (by decide) ed_w2_21 rfl rfl dX2_dropOldest_35 ?_
      refine lv_iload_n S.1 S.2.1 dX2_dropOldest_38 rfl (lv_at hl 2 rfl) ?_
      refine lv_iconst (v := 1) S.1 S.2.1 dX2_dropOldest_39 (by decide) ?_
      refine lv_iadd S.1 S.2.1 dX2_dropOldest_40 ?_
      refine lv_aload_n S.1 S.2.1 dX2_dropOldest_41 rfl (lv_at hl 0 rfl) ?_
      obtain ⟨hx9, hf⟩ := ed_g_e hf
      refine ed_ast S hK (ed_eta hM) hS hj4q hx9 dX2_dropOldest_42 (fun H locs hM hS => ?_)
      obtain ⟨μ10, eμ10, hf⟩ := ed_t_e hf
      have hM : ed_P D cy B μ10 H := by rw [eμ10]; exact hM
      refine lv_iinc (v := x1 + 1) (lv' := [(1, .int (x1 + 1)), (2, .ref (B + ed_oF j4q 0 0)), (0, .ref (B + ed_oF 7 15 0))]) S.1 S.2.1 dX2_dropOldest_43 hl (k := 2) rfl rfl (by decide) rfl (fun ls hl => ?_)
      refine lv_goto (tgt := 2) S.1 S.2.1 dX2_dropOldest_46 (by decide) ?_
      exact ih (x1 + 1) μ10 hf _ _ _ hM hS (lv_sub hl [2, 0] rfl)
set_option maxHeartbeats 4000000 in
set_option maxRecDepth 100000 in
theorem c_X2_dropOldest (l : Launch) (D : va_G) (cy : Nat → ClassId) (B : Nat) (μ : ed_CM) (μ' : ed_CM) (hf : f_X2_dropOldest μ = some μ') :
    Met l yX2_dropOldest wsX2_dropOldest rmX2_dropOldest (ed_pC D cy (ed_P D cy B μ) [.ref (B + ed_oF 7 15 0)]) (ed_qV (ed_A B) (ed_P D cy B μ')) 0 0 (ed_A B) := by
  refine Met.ofW (cc := cX2_dropOldest) (maxL := 3) (ret := none) (by decide) rfl ?_
  intro p e s m args below meth c s₁ B0 hml hv
  obtain ⟨rfl, hM, hK⟩ := hv
  have S : CallFix p m c cX2_dropOldest 3 s _ ed_ws RX2 := ⟨B0.exec, B0.bytes, hml, findClass_of_methodNamed B0.named, fun w hw => atoms_spec (ws := wsX2_dropOldest) B0.pre w (List.mem_cons_of_mem _ hw)⟩
  have hr := B0.returns
  have hlocks := B0.notSynchronized
  have hS : va_S (ed_A B) s.heap s.heap [] := va_S.rf
  have hl := lv_entry ([.ref (B + ed_oF 7 15 0)]) (n := 3) (Nat.le_of_ble_eq_true rfl)
  rw [lg_entry_eq]
  generalize (lg_sl ([.ref (B + ed_oF 7 15 0)]) ++ List.replicate (3 - (lg_sl ([.ref (B + ed_oF 7 15 0)])).length) Slot.unset).toArray = ls at hl ⊢
  have hl : lv_has ls 3 [(0, .ref (B + ed_oF 7 15 0))] := hl
  unfold f_X2_dropOldest at hf
  refine lv_iconst (v := 0) S.1 S.2.1 dX2_dropOldest_0 (by decide) ?_
  refine lv_istore_n (lv' := [(1, .int 0), (0, .ref (B + ed_oF 7 15 0))]) S.1 S.2.1 dX2_dropOldest_1 rfl hl (by decide) rfl (fun ls hl => ?_)
  exact w_X2_dropOldest_2 S hr hlocks hK μ' ed_N 0 μ hf _ _ _ hM hS (lv_sub hl [1, 0] rfl)
set_option maxHeartbeats 4000000 in
set_option maxRecDepth 100000 in
theorem c_X2_remember (l : Launch) (D : va_G) (cy : Nat → ClassId) (B : Nat) (j1 : Nat) (hj1 : j1 < 7) (μ : ed_CM) (μ' : ed_CM) (hf : f_X2_remember j1 μ = some μ') :
    Met l yX2_remember wsX2_remember rmX2_remember (ed_pC D cy (ed_P D cy B μ) [.ref (B + ed_oF 7 15 0), .ref (B + ed_oF j1 0 0)]) (ed_qV (ed_A B) (ed_P D cy B μ')) 0 0 (ed_A B) := by
  refine Met.ofW (cc := cX2_remember) (maxL := 3) (ret := none) (by decide) rfl ?_
  intro p e s m args below meth c s₁ B0 hml hv
  obtain ⟨rfl, hM, hK⟩ := hv
  have S : CallFix p m c cX2_remember 3 s _ ed_ws RX2 := ⟨B0.exec, B0.bytes, hml, findClass_of_methodNamed B0.named, fun w hw => atoms_spec (ws := wsX2_remember) B0.pre w (List.mem_cons_of_mem _ hw)⟩
  have hr := B0.returns
  have hlocks := B0.notSynchronized
  have hS : va_S (ed_A B) s.heap s.heap [] := va_S.rf
  have hl := lv_entry ([.ref (B + ed_oF 7 15 0), .ref (B + ed_oF j1 0 0)]) (n := 3) (Nat.le_of_ble_eq_true rfl)
  rw [lg_entry_eq]
  generalize (lg_sl ([.ref (B + ed_oF 7 15 0), .ref (B + ed_oF j1 0 0)]) ++ List.replicate (3 - (lg_sl ([.ref (B + ed_oF 7 15 0), .ref (B + ed_oF j1 0 0)])).length) Slot.unset).toArray = ls at hl ⊢
  have hl : lv_has ls 3 [(0, .ref (B + ed_oF 7 15 0)), (1, .ref (B + ed_oF j1 0 0))] := hl
  unfold f_X2_remember at hf
  refine lv_aload_n S.1 S.2.1 dX2_remember_0 rfl (lv_at hl 0 rfl) ?_
  refine ed_get (r := (μ 7 15 0)) S ed_uX2 hK hM ed_v15 rfl (ed_e15 cy B 7 0 _) rfl 1 (by decide) ed_w2_22 rfl rfl dX2_remember_1 ?_
  refine lv_aload_n S.1 S.2.1 dX2_remember_4 rfl (lv_at hl 0 rfl) ?_
  refine ed_get (r := (μ 7 15 0)) S ed_uX2 hK hM ed_v15 rfl (ed_e15 cy B 7 0 _) rfl 0 (by decide) ed_w2_21 rfl rfl dX2_remember_5 ?_
  refine ed_len (r := (μ 7 16 0)) (v := 4) (ty := (.object "EmbargoDesk$State")) (t := 5) S hK hM ed_v16 rfl (ed_e16 cy B 7 0 _) rfl (by decide) dX2_remember_8 ?_
  refine lv_icmp_lt (tgt := 16) S.1 S.2.1 dX2_remember_9 (by decide) (fun c1 => ?_) (fun c1 => ?_)
  · replace hf := ed_ip c1 hf
    refine lv_aload_n S.1 S.2.1 dX2_remember_16 rfl (lv_at hl 0 rfl) ?_
    refine ed_get (r := (μ 7 15 0)) S ed_uX2 hK hM ed_v15 rfl (ed_e15 cy B 7 0 _) rfl 1 (by decide) ed_w2_22 rfl rfl dX2_remember_17 ?_
    refine lv_aload_n S.1 S.2.1 dX2_remember_20 rfl (lv_at hl 0 rfl) ?_
    refine ed_get (r := (μ 7 15 0)) S ed_uX2 hK hM ed_v15 rfl (ed_e15 cy B 7 0 _) rfl 0 (by decide) ed_w2_21 rfl rfl dX2_remember_21 ?_
    refine ed_len (r := (μ 7 16 0)) (v := 4) (ty := (.object "EmbargoDesk$State")) (t := 5) S hK hM ed_v16 rfl (ed_e16 cy B 7 0 _) rfl (by decide) dX2_remember_24 ?_
    refine ed_kI (ed_rN S hK hM (c_X8_isPlace _ D cy (ed_P D cy B μ) (ed_A B) (μ 7 15 0 1) 4) ⟨va_cnB 2 S.2.2.2.2 (ed_gA ed_w2_107) rfl rfl rfl (ed_n1 hK) (S.2.2.2.2 _ ed_w1_1) hn_X8_isPlace ⟨Nat.le_of_ble_eq_true rfl, Nat.le_of_ble_eq_true rfl⟩, S.2.2.2.2 _ ed_w2_106, trivial⟩ rfl hl.1 rfl (Nat.le_of_ble_eq_true rfl) dX2_remember_25 ⟨Nat.zero_le _, Nat.zero_le _⟩) hS (fun H locs hM hS => ?_)
    refine lv_if_eq (tgt := 43) S.1 S.2.1 dX2_remember_28 (by decide) (fun c3 => ?_) (fun c3 => ?_)
    · replace hf := ed_ip c3 hf
      refine lv_null S.1 S.2.1 dX2_remember_43 ?_
      refine lv_astore_nN (lv' := [(2, .null), (0, .ref (B + ed_oF 7 15 0)), (1, .ref (B + ed_oF j1 0 0))]) S.1 S.2.1 dX2_remember_44 rfl hl (by decide) rfl (fun ls hl => ?_)
      refine lv_aload_nN S.1 S.2.1 dX2_remember_45 rfl (lv_at hl 0 rfl) ?_
      refine lv_ifnullN (tgt := 64) S.1 S.2.1 dX2_remember_46 (by decide) ?_
      obtain rfl := Option.some.inj hf
      exact ed_rv S hr hlocks hM hS dX2_remember_64
    · replace hf := ed_in_ c3 hf
      refine lv_aload_n S.1 S.2.1 dX2_remember_31 rfl (lv_at hl 0 rfl) ?_
      refine ed_get (r := (μ 7 15 0)) S ed_uX2 hK hM ed_v15 rfl (ed_e15 cy B 7 0 _) rfl 0 (by decide) ed_w2_21 rfl rfl dX2_remember_32 ?_
      refine lv_aload_n S.1 S.2.1 dX2_remember_35 rfl (lv_at hl 0 rfl) ?_
      refine ed_get (r := (μ 7 15 0)) S ed_uX2 hK hM ed_v15 rfl (ed_e15 cy B 7 0 _) rfl 1 (by decide) ed_w2_22 rfl rfl dX2_remember_36 ?_
      obtain ⟨hx4, hf⟩ := ed_g_e hf
      obtain ⟨j5q, ej5q, hf⟩ := ed_t_e hf
      have hj5q : j5q < 7 := by rw [ej5q]; exact Nat.mod_lt _ (by decide)
      refine ed_ald (r := (μ 7 16 0)) (v := .ref (B + ed_oF j5q 0 0)) S hK hM ed_v16 rfl (ed_e16 cy B 7 0 _) (C := "EmbargoDesk$State") (t := 5) rfl hx4 (by rw [ej5q]; rfl) dX2_remember_39 ?_
      refine lv_goto (tgt := 44) S.1 S.2.1 dX2_remember_40 (by decide) ?_
      refine lv_astore_n (lv' := [(2, .ref (B + ed_oF j5q 0 0)), (0, .ref (B + ed_oF 7 15 0)), (1, .ref (B + ed_oF j1 0 0))]) S.1 S.2.1 dX2_remember_44 rfl hl (by decide) rfl (fun ls hl => ?_)
      refine lv_aload_n S.1 S.2.1 dX2_remember_45 rfl (lv_at hl 0 rfl) ?_
      refine lv_ifnull S.1 S.2.1 dX2_remember_46 ?_
      refine lv_aload_n S.1 S.2.1 dX2_remember_49 rfl (lv_at hl 0 rfl) ?_
      refine lv_aload_n S.1 S.2.1 dX2_remember_50 rfl (lv_at hl 2 rfl) ?_
      obtain ⟨hn6, hf⟩ := ed_g_e hf
      obtain ⟨σ7, hq7, hf⟩ := ed_b_e hf
      refine ed_kV (ed_rV S hK (ed_eta hM) (c_X5_copyFrom _ D cy B μ j5q hj5q j1 hj1 hn6 (μ j1) rfl (μ j5q) σ7 hq7) (cwV 1 S.2.2.2.2 (ed_gV ed_w2_108 ed_w2_109 ed_w2_110 ed_w1_2 ed_w2_111) rfl rfl rfl hd_X5_copyFrom ⟨Nat.le_of_ble_eq_true rfl, Nat.le_of_ble_eq_true rfl⟩) (ed_rc (q := (RX5, TX5, 11)) (r := (μ j5q 0 0)) hK hM (ed_v0 hj5q 0) rfl (ed_e0 cy B j5q 0 _) rfl) rfl hl.1 rfl (Nat.le_of_ble_eq_true rfl) dX2_remember_51 ⟨Nat.zero_le _, Nat.zero_le _⟩) hS (fun H locs hM hS => ?_)
      obtain ⟨μ8, eμ8, hf⟩ := ed_t_e hf
      have hM : ed_P D cy B μ8 H := by rw [eμ8]; exact hM
      refine lv_aload_n S.1 S.2.1 dX2_remember_54 rfl (lv_at hl 1 rfl) ?_
      refine lv_dup S.1 S.2.1 dX2_remember_55 rfl ?_
      refine ed_get (r := (μ8 7 15 0)) S ed_uX2 hK hM ed_v15 rfl (ed_e15 cy B 7 0 _) rfl 1 (by decide) ed_w2_22 rfl rfl dX2_remember_56 ?_
      refine lv_iconst (v := 1) S.1 S.2.1 dX2_remember_59 (by decide) ?_
      refine lv_iadd S.1 S.2.1 dX2_remember_60 ?_
      refine ed_put (j := 7) S ed_uX2 tyX2 tyX2_ok nmX2 hK (ed_eta hM) hS ed_v15 (ed_e15 cy B 7 0 _) rfl 1 (by decide) ed_w2_22 rfl rfl rfl rfl (Nat.le_of_ble_eq_true rfl) (ed_u15_1 cy B 7 0 _ _) dX2_remember_61 (fun H locs hM hS => ?_)
      obtain ⟨μ9, eμ9, hf⟩ := ed_t_e hf
      have hM : ed_P D cy B μ9 H := by rw [eμ9]; exact hM
      obtain rfl := Option.some.inj hf
      exact ed_rv S hr hlocks hM hS dX2_remember_64
  · replace hf := ed_in_ c1 hf
    refine lv_aload_n S.1 S.2.1 dX2_remember_12 rfl (lv_at hl 0 rfl) ?_
    obtain ⟨μ10, hq10, hf⟩ := ed_b_e hf
    refine ed_kV (ed_rV S hK hM (c_X2_dropOldest _ D cy B μ μ10 hq10) (cwV 0 S.2.2.2.2 (ed_gV ed_w2_101 ed_w2_103 ed_wp_0 ed_w1_8 ed_w2_104) rfl rfl rfl hd_X2_dropOldest ⟨Nat.le_of_ble_eq_true rfl, Nat.le_of_ble_eq_true rfl⟩) (ed_rc (q := (RX2, TX2, 2)) (r := (μ 7 15 0)) hK hM ed_v15 rfl (ed_e15 cy B 7 0 _) rfl) rfl hl.1 rfl (Nat.le_of_ble_eq_true rfl) dX2_remember_13 ⟨Nat.zero_le _, Nat.zero_le _⟩) hS (fun H locs hM hS => ?_)
    refine lv_aload_n S.1 S.2.1 dX2_remember_16 rfl (lv_at hl 0 rfl) ?_
    refine ed_get (r := (μ10 7 15 0)) S ed_uX2 hK hM ed_v15 rfl (ed_e15 cy B 7 0 _) rfl 1 (by decide) ed_w2_22 rfl rfl dX2_remember_17 ?_
    refine lv_aload_n S.1 S.2.1 dX2_remember_20 rfl (lv_at hl 0 rfl) ?_
    refine ed_get (r := (μ10 7 15 0)) S ed_uX2 hK hM ed_v15 rfl (ed_e15 cy B 7 0 _) rfl 0 (by decide) ed_w2_21 rfl rfl dX2_remember_21 ?_
    refine ed_len (r := (μ10 7 16 0)) (v := 4) (ty := (.object "EmbargoDesk$State")) (t := 5) S hK hM ed_v16 rfl (ed_e16 cy B 7 0 _) rfl (by decide) dX2_remember_24 ?_
    refine ed_kI (ed_rN S hK hM (c_X8_isPlace _ D cy (ed_P D cy B μ10) (ed_A B) (μ10 7 15 0 1) 4) ⟨va_cnB 2 S.2.2.2.2 (ed_gA ed_w2_107) rfl rfl rfl (ed_n1 hK) (S.2.2.2.2 _ ed_w1_1) hn_X8_isPlace ⟨Nat.le_of_ble_eq_true rfl, Nat.le_of_ble_eq_true rfl⟩, S.2.2.2.2 _ ed_w2_106, trivial⟩ rfl hl.1 rfl (Nat.le_of_ble_eq_true rfl) dX2_remember_25 ⟨Nat.zero_le _, Nat.zero_le _⟩) hS (fun H locs hM hS => ?_)
    refine lv_if_eq (tgt := 43) S.1 S.2.1 dX2_remember_28 (by decide) (fun c12 => ?_) (fun c12 => ?_)
    · replace hf := ed_ip c12 hf
      refine lv_null S.1 S.2.1 dX2_remember_43 ?_
      refine lv_astore_nN (lv' := [(2, .null), (0, .ref (B + ed_oF 7 15 0)), (1, .ref (B + ed_oF j1 0 0))]) S.1 S.2.1 dX2_remember_44 rfl hl (by decide) rfl (fun ls hl => ?_)
      refine lv_aload_nN S.1 S.2.1 dX2_remember_45 rfl (lv_at hl 0 rfl) ?_
      refine lv_ifnullN (tgt := 64) S.1 S.2.1 dX2_remember_46 (by decide) ?_
      obtain rfl := Option.some.inj hf
      exact ed_rv S hr hlocks hM hS dX2_remember_64
    · replace hf := ed_in_ c12 hf
      refine lv_aload_n S.1 S.2.1 dX2_remember_31 rfl (lv_at hl 0 rfl) ?_
      refine ed_get (r := (μ10 7 15 0)) S ed_uX2 hK hM ed_v15 rfl (ed_e15 cy B 7 0 _) rfl 0 (by decide) ed_w2_21 rfl rfl dX2_remember_32 ?_
      refine lv_aload_n S.1 S.2.1 dX2_remember_35 rfl (lv_at hl 0 rfl) ?_
      refine ed_get (r := (μ10 7 15 0)) S ed_uX2 hK hM ed_v15 rfl (ed_e15 cy B 7 0 _) rfl 1 (by decide) ed_w2_22 rfl rfl dX2_remember_36 ?_
      obtain ⟨hx13, hf⟩ := ed_g_e hf
      obtain ⟨j14q, ej14q, hf⟩ := ed_t_e hf
      have hj14q : j14q < 7 := by rw [ej14q]; exact Nat.mod_lt _ (by decide)
      refine ed_ald (r := (μ10 7 16 0)) (v := .ref (B + ed_oF j14q 0 0)) S hK hM ed_v16 rfl (ed_e16 cy B 7 0 _) (C := "EmbargoDesk$State") (t := 5) rfl hx13 (by rw [ej14q]; rfl) dX2_remember_39 ?_
      refine lv_goto (tgt := 44) S.1 S.2.1 dX2_remember_40 (by decide) ?_
      refine lv_astore_n (lv' := [(2, .ref (B + ed_oF j14q 0 0)), (0, .ref (B + ed_oF 7 15 0)), (1, .ref (B + ed_oF j1 0 0))]) S.1 S.2.1 dX2_remember_44 rfl hl (by decide) rfl (fun ls hl => ?_)
      refine lv_aload_n S.1 S.2.1 dX2_remember_45 rfl (lv_at hl 0 rfl) ?_
      refine lv_ifnull S.1 S.2.1 dX2_remember_46 ?_
      refine lv_aload_n S.1 S.2.1 dX2_remember_49 rfl (lv_at hl 0 rfl) ?_
      refine lv_aload_n S.1 S.2.1 dX2_remember_50 rfl (lv_at hl 2 rfl) ?_
      obtain ⟨hn15, hf⟩ := ed_g_e hf
      obtain ⟨σ16, hq16, hf⟩ := ed_b_e hf
      refine ed_kV (ed_rV S hK (ed_eta hM) (c_X5_copyFrom _ D cy B μ10 j14q hj14q j1 hj1 hn15 (μ10 j1) rfl (μ10 j14q) σ16 hq16) (cwV 1 S.2.2.2.2 (ed_gV ed_w2_108 ed_w2_109 ed_w2_110 ed_w1_2 ed_w2_111) rfl rfl rfl hd_X5_copyFrom ⟨Nat.le_of_ble_eq_true rfl, Nat.le_of_ble_eq_true rfl⟩) (ed_rc (q := (RX5, TX5, 11)) (r := (μ10 j14q 0 0)) hK hM (ed_v0 hj14q 0) rfl (ed_e0 cy B j14q 0 _) rfl) rfl hl.1 rfl (Nat.le_of_ble_eq_true rfl) dX2_remember_51 ⟨Nat.zero_le _, Nat.zero_le _⟩) hS (fun H locs hM hS => ?_)
      obtain ⟨μ17, eμ17, hf⟩ := ed_t_e hf
      have hM : ed_P D cy B μ17 H := by rw [eμ17]; exact hM
      refine lv_aload_n S.1 S.2.1 dX2_remember_54 rfl (lv_at hl 1 rfl) ?_
      refine lv_dup S.1 S.2.1 dX2_remember_55 rfl ?_
      refine ed_get (r := (μ17 7 15 0)) S ed_uX2 hK hM ed_v15 rfl (ed_e15 cy B 7 0 _) rfl 1 (by decide) ed_w2_22 rfl rfl dX2_remember_56 ?_
      refine lv_iconst (v := 1) S.1 S.2.1 dX2_remember_59 (by decide) ?_
      refine lv_iadd S.1 S.2.1 dX2_remember_60 ?_
      refine ed_put (j := 7) S ed_uX2 tyX2 tyX2_ok nmX2 hK (ed_eta hM) hS ed_v15 (ed_e15 cy B 7 0 _) rfl 1 (by decide) ed_w2_22 rfl rfl rfl rfl (Nat.le_of_ble_eq_true rfl) (ed_u15_1 cy B 7 0 _ _) dX2_remember_61 (fun H locs hM hS => ?_)
      obtain ⟨μ18, eμ18, hf⟩ := ed_t_e hf
      have hM : ed_P D cy B μ18 H := by rw [eμ18]; exact hM
      obtain rfl := Option.some.inj hf
      exact ed_rv S hr hlocks hM hS dX2_remember_64
set_option maxHeartbeats 4000000 in
set_option maxRecDepth 100000 in
theorem c_X2_takeLatest (l : Launch) (D : va_G) (cy : Nat → ClassId) (B : Nat) (j1 : Nat) (hj1 : j1 < 7) (μ : ed_CM) (μ' : ed_CM) (hf : f_X2_takeLatest j1 μ = some μ') :
    Met l yX2_takeLatest wsX2_takeLatest rmX2_takeLatest (ed_pC D cy (ed_P D cy B μ) [.ref (B + ed_oF 7 15 0), .ref (B + ed_oF j1 0 0)]) (ed_qV (ed_A B) (ed_P D cy B μ')) 0 0 (ed_A B) := by
  refine Met.ofW (cc := cX2_takeLatest) (maxL := 3) (ret := none) (by decide) rfl ?_
  intro p e s m args below meth c s₁ B0 hml hv
  obtain ⟨rfl, hM, hK⟩ := hv
  have S : CallFix p m c cX2_takeLatest 3 s _ ed_ws RX2 := ⟨B0.exec, B0.bytes, hml, findClass_of_methodNamed B0.named, fun w hw => atoms_spec (ws := wsX2_takeLatest) B0.pre w (List.mem_cons_of_mem _ hw)⟩
  have hr := B0.returns
  have hlocks := B0.notSynchronized
  have hS : va_S (ed_A B) s.heap s.heap [] := va_S.rf
  have hl := lv_entry ([.ref (B + ed_oF 7 15 0), .ref (B + ed_oF j1 0 0)]) (n := 3) (Nat.le_of_ble_eq_true rfl)
  rw [lg_entry_eq]
  generalize (lg_sl ([.ref (B + ed_oF 7 15 0), .ref (B + ed_oF j1 0 0)]) ++ List.replicate (3 - (lg_sl ([.ref (B + ed_oF 7 15 0), .ref (B + ed_oF j1 0 0)])).length) Slot.unset).toArray = ls at hl ⊢
  have hl : lv_has ls 3 [(0, .ref (B + ed_oF 7 15 0)), (1, .ref (B + ed_oF j1 0 0))] := hl
  unfold f_X2_takeLatest at hf
  refine lv_aload_n S.1 S.2.1 dX2_takeLatest_0 rfl (lv_at hl 0 rfl) ?_
  refine ed_get (r := (μ 7 15 0)) S ed_uX2 hK hM ed_v15 rfl (ed_e15 cy B 7 0 _) rfl 1 (by decide) ed_w2_22 rfl rfl dX2_takeLatest_1 ?_
  refine lv_iconst (v := 1) S.1 S.2.1 dX2_takeLatest_4 (by decide) ?_
  refine lv_isub S.1 S.2.1 dX2_takeLatest_5 ?_
  refine lv_aload_n S.1 S.2.1 dX2_takeLatest_6 rfl (lv_at hl 0 rfl) ?_
  refine ed_get (r := (μ 7 15 0)) S ed_uX2 hK hM ed_v15 rfl (ed_e15 cy B 7 0 _) rfl 0 (by decide) ed_w2_21 rfl rfl dX2_takeLatest_7 ?_
  refine ed_len (r := (μ 7 16 0)) (v := 4) (ty := (.object "EmbargoDesk$State")) (t := 5) S hK hM ed_v16 rfl (ed_e16 cy B 7 0 _) rfl (by decide) dX2_takeLatest_10 ?_
  refine ed_kI (ed_rN S hK hM (c_X8_isPlace _ D cy (ed_P D cy B μ) (ed_A B) ((μ 7 15 0 1) - 1) 4) ⟨va_cnB 2 S.2.2.2.2 (ed_gA ed_w2_107) rfl rfl rfl (ed_n1 hK) (S.2.2.2.2 _ ed_w1_1) hn_X8_isPlace ⟨Nat.le_of_ble_eq_true rfl, Nat.le_of_ble_eq_true rfl⟩, S.2.2.2.2 _ ed_w2_106, trivial⟩ rfl hl.1 rfl (Nat.le_of_ble_eq_true rfl) dX2_takeLatest_11 ⟨Nat.zero_le _, Nat.zero_le _⟩) hS (fun H locs hM hS => ?_)
  refine lv_if_eq (tgt := 31) S.1 S.2.1 dX2_takeLatest_14 (by decide) (fun c2 => ?_) (fun c2 => ?_)
  · replace hf := ed_ip c2 hf
    refine lv_null S.1 S.2.1 dX2_takeLatest_31 ?_
    refine lv_astore_nN (lv' := [(2, .null), (0, .ref (B + ed_oF 7 15 0)), (1, .ref (B + ed_oF j1 0 0))]) S.1 S.2.1 dX2_takeLatest_32 rfl hl (by decide) rfl (fun ls hl => ?_)
    refine lv_aload_nN S.1 S.2.1 dX2_takeLatest_33 rfl (lv_at hl 0 rfl) ?_
    refine lv_ifnullN (tgt := 52) S.1 S.2.1 dX2_takeLatest_34 (by decide) ?_
    obtain rfl := Option.some.inj hf
    exact ed_rv S hr hlocks hM hS dX2_takeLatest_52
  · replace hf := ed_in_ c2 hf
    refine lv_aload_n S.1 S.2.1 dX2_takeLatest_17 rfl (lv_at hl 0 rfl) ?_
    refine ed_get (r := (μ 7 15 0)) S ed_uX2 hK hM ed_v15 rfl (ed_e15 cy B 7 0 _) rfl 0 (by decide) ed_w2_21 rfl rfl dX2_takeLatest_18 ?_
    refine lv_aload_n S.1 S.2.1 dX2_takeLatest_21 rfl (lv_at hl 0 rfl) ?_
    refine ed_get (r := (μ 7 15 0)) S ed_uX2 hK hM ed_v15 rfl (ed_e15 cy B 7 0 _) rfl 1 (by decide) ed_w2_22 rfl rfl dX2_takeLatest_22 ?_
    refine lv_iconst (v := 1) S.1 S.2.1 dX2_takeLatest_25 (by decide) ?_
    refine lv_isub S.1 S.2.1 dX2_takeLatest_26 ?_
    obtain ⟨hx3, hf⟩ := ed_g_e hf
    obtain ⟨j4q, ej4q, hf⟩ := ed_t_e hf
    have hj4q : j4q < 7 := by rw [ej4q]; exact Nat.mod_lt _ (by decide)
    refine ed_ald (r := (μ 7 16 0)) (v := .ref (B + ed_oF j4q 0 0)) S hK hM ed_v16 rfl (ed_e16 cy B 7 0 _) (C := "EmbargoDesk$State") (t := 5) rfl hx3 (by rw [ej4q]; rfl) dX2_takeLatest_27 ?_
    refine lv_goto (tgt := 32) S.1 S.2.1 dX2_takeLatest_28 (by decide) ?_
    refine lv_astore_n (lv' := [(2, .ref (B + ed_oF j4q 0 0)), (0, .ref (B + ed_oF 7 15 0)), (1, .ref (B + ed_oF j1 0 0))]) S.1 S.2.1 dX2_takeLatest_32 rfl hl (by decide) rfl (fun ls hl => ?_)
    refine lv_aload_n S.1 S.2.1 dX2_takeLatest_33 rfl (lv_at hl 0 rfl) ?_
    refine lv_ifnull S.1 S.2.1 dX2_takeLatest_34 ?_
    refine lv_aload_n S.1 S.2.1 dX2_takeLatest_37 rfl (lv_at hl 2 rfl) ?_
    refine lv_aload_n S.1 S.2.1 dX2_takeLatest_38 rfl (lv_at hl 0 rfl) ?_
    obtain ⟨hn5, hf⟩ := ed_g_e hf
    obtain ⟨σ6, hq6, hf⟩ := ed_b_e hf
    refine ed_kV (ed_rV S hK (ed_eta hM) (c_X5_copyFrom _ D cy B μ j1 hj1 j4q hj4q hn5 (μ j4q) rfl (μ j1) σ6 hq6) (cwV 1 S.2.2.2.2 (ed_gV ed_w2_108 ed_w2_109 ed_w2_110 ed_w1_2 ed_w2_111) rfl rfl rfl hd_X5_copyFrom ⟨Nat.le_of_ble_eq_true rfl, Nat.le_of_ble_eq_true rfl⟩) (ed_rc (q := (RX5, TX5, 11)) (r := (μ j1 0 0)) hK hM (ed_v0 hj1 0) rfl (ed_e0 cy B j1 0 _) rfl) rfl hl.1 rfl (Nat.le_of_ble_eq_true rfl) dX2_takeLatest_39 ⟨Nat.zero_le _, Nat.zero_le _⟩) hS (fun H locs hM hS => ?_)
    obtain ⟨μ7, eμ7, hf⟩ := ed_t_e hf
    have hM : ed_P D cy B μ7 H := by rw [eμ7]; exact hM
    refine lv_aload_n S.1 S.2.1 dX2_takeLatest_42 rfl (lv_at hl 1 rfl) ?_
    refine lv_dup S.1 S.2.1 dX2_takeLatest_43 rfl ?_
    refine ed_get (r := (μ7 7 15 0)) S ed_uX2 hK hM ed_v15 rfl (ed_e15 cy B 7 0 _) rfl 1 (by decide) ed_w2_22 rfl rfl dX2_takeLatest_44 ?_
    refine lv_iconst (v := 1) S.1 S.2.1 dX2_takeLatest_47 (by decide) ?_
    refine lv_isub S.1 S.2.1 dX2_takeLatest_48 ?_
    refine ed_put (j := 7) S ed_uX2 tyX2 tyX2_ok nmX2 hK (ed_eta hM) hS ed_v15 (ed_e15 cy B 7 0 _) rfl 1 (by decide) ed_w2_22 rfl rfl rfl rfl (Nat.le_of_ble_eq_true rfl) (ed_u15_1 cy B 7 0 _ _) dX2_takeLatest_49 (fun H locs hM hS => ?_)
    obtain ⟨μ8, eμ8, hf⟩ := ed_t_e hf
    have hM : ed_P D cy B μ8 H := by rw [eμ8]; exact hM
    obtain rfl := Option.some.inj hf
    exact ed_rv S hr hlocks hM hS dX2_takeLatest_52
set_option maxHeartbeats 4000000 in
set_option maxRecDepth 100000 in
theorem c_X8_addClient (l : Launch) (D : va_G) (cy : Nat → ClassId) (B : Nat) (x1 x2 x3 x4 x5 : Int32) (μ : ed_CM) (r : Int32) (μ' : ed_CM) (hf : f_X8_addClient x1 x2 x3 x4 x5 μ = some (r, μ')) :
    Met l yX8_addClient wsX8_addClient rmX8_addClient (ed_pC D cy (ed_P D cy B μ) [.ref (B + ed_oF 7 14 0), .int x1, .int x2, .int x3, .int x4, .int x5]) (ed_qI (ed_A B) (ed_P D cy B μ') r) 0 0 (ed_A B) := by
  refine Met.ofW (cc := cX8_addClient) (maxL := 8) (ret := (some .int)) (by decide) rfl ?_
  intro p e s m args below meth c s₁ B0 hml hv
  obtain ⟨rfl, hM, hK⟩ := hv
  have S : CallFix p m c cX8_addClient 8 s _ ed_ws RX8 := ⟨B0.exec, B0.bytes, hml, findClass_of_methodNamed B0.named, fun w hw => atoms_spec (ws := wsX8_addClient) B0.pre w (List.mem_cons_of_mem _ hw)⟩
  have hr := B0.returns
  have hlocks := B0.notSynchronized
  have hS : va_S (ed_A B) s.heap s.heap [] := va_S.rf
  have hl := lv_entry ([.ref (B + ed_oF 7 14 0), .int x1, .int x2, .int x3, .int x4, .int x5]) (n := 8) (Nat.le_of_ble_eq_true rfl)
  rw [lg_entry_eq]
  generalize (lg_sl ([.ref (B + ed_oF 7 14 0), .int x1, .int x2, .int x3, .int x4, .int x5]) ++ List.replicate (8 - (lg_sl ([.ref (B + ed_oF 7 14 0), .int x1, .int x2, .int x3, .int x4, .int x5])).length) Slot.unset).toArray = ls at hl ⊢
  have hl : lv_has ls 8 [(0, .ref (B + ed_oF 7 14 0)), (1, .int x1), (2, .int x2), (3, .int x3), (4, .int x4), (5, .int x5)] := hl
  unfold f_X8_addClient at hf
  refine lv_iload_n S.1 S.2.1 dX8_addClient_0 rfl (lv_at hl 1 rfl) ?_
  refine lv_iconst (v := 1) S.1 S.2.1 dX8_addClient_1 (by decide) ?_
  refine lv_sipush (v := 255) S.1 S.2.1 dX8_addClient_2 (by decide) ?_
  refine ed_kI (ed_rS S hK hM (c_X8_isBetween _ D cy (ed_P D cy B μ) (ed_A B) x1 1 255) (va_cwS 3 S.2.2.2.2 (ed_gS ed_w2_93 ed_w2_94 ed_w1_1 ed_w2_95) rfl rfl rfl hd_X8_isBetween.2 ⟨Nat.le_of_ble_eq_true rfl, Nat.le_of_ble_eq_true rfl⟩) rfl hl.1 rfl (Nat.le_of_ble_eq_true rfl) dX8_addClient_5 ⟨Nat.zero_le _, Nat.zero_le _⟩) hS (fun H locs hM hS => ?_)
  refine lv_if_eq (tgt := 53) S.1 S.2.1 dX8_addClient_8 (by decide) (fun c2 => ?_) (fun c2 => ?_)
  · replace hf := ed_ip c2 hf
    refine lv_bipush (v := (-2)) S.1 S.2.1 dX8_addClient_53 (by decide) ?_
    obtain ⟨rfl, rfl⟩ := ed_so hf
    exact ed_ri S hr hlocks hM hS dX8_addClient_55
  · replace hf := ed_in_ c2 hf
    refine lv_iload_n S.1 S.2.1 dX8_addClient_11 rfl (lv_at hl 2 rfl) ?_
    refine lv_iconst (v := 0) S.1 S.2.1 dX8_addClient_12 (by decide) ?_
    refine lv_bipush (v := 48) S.1 S.2.1 dX8_addClient_13 (by decide) ?_
    refine ed_kI (ed_rS S hK hM (c_X8_isBetween _ D cy (ed_P D cy B μ) (ed_A B) x2 0 48) (va_cwS 3 S.2.2.2.2 (ed_gS ed_w2_93 ed_w2_94 ed_w1_1 ed_w2_95) rfl rfl rfl hd_X8_isBetween.2 ⟨Nat.le_of_ble_eq_true rfl, Nat.le_of_ble_eq_true rfl⟩) rfl hl.1 rfl (Nat.le_of_ble_eq_true rfl) dX8_addClient_15 ⟨Nat.zero_le _, Nat.zero_le _⟩) hS (fun H locs hM hS => ?_)
    refine lv_if_eq (tgt := 53) S.1 S.2.1 dX8_addClient_18 (by decide) (fun c4 => ?_) (fun c4 => ?_)
    · replace hf := ed_ip c4 hf
      refine lv_bipush (v := (-2)) S.1 S.2.1 dX8_addClient_53 (by decide) ?_
      obtain ⟨rfl, rfl⟩ := ed_so hf
      exact ed_ri S hr hlocks hM hS dX8_addClient_55
    · replace hf := ed_in_ c4 hf
      refine lv_iload_n S.1 S.2.1 dX8_addClient_21 rfl (lv_at hl 3 rfl) ?_
      refine lv_iconst (v := 0) S.1 S.2.1 dX8_addClient_22 (by decide) ?_
      refine lv_bipush (v := 24) S.1 S.2.1 dX8_addClient_23 (by decide) ?_
      refine ed_kI (ed_rS S hK hM (c_X8_isBetween _ D cy (ed_P D cy B μ) (ed_A B) x3 0 24) (va_cwS 3 S.2.2.2.2 (ed_gS ed_w2_93 ed_w2_94 ed_w1_1 ed_w2_95) rfl rfl rfl hd_X8_isBetween.2 ⟨Nat.le_of_ble_eq_true rfl, Nat.le_of_ble_eq_true rfl⟩) rfl hl.1 rfl (Nat.le_of_ble_eq_true rfl) dX8_addClient_25 ⟨Nat.zero_le _, Nat.zero_le _⟩) hS (fun H locs hM hS => ?_)
      refine lv_if_eq (tgt := 53) S.1 S.2.1 dX8_addClient_28 (by decide) (fun c6 => ?_) (fun c6 => ?_)
      · replace hf := ed_ip c6 hf
        refine lv_bipush (v := (-2)) S.1 S.2.1 dX8_addClient_53 (by decide) ?_
        obtain ⟨rfl, rfl⟩ := ed_so hf
        exact ed_ri S hr hlocks hM hS dX8_addClient_55
      · replace hf := ed_in_ c6 hf
        refine lv_iload S.1 S.2.1 dX8_addClient_31 (lv_at hl 4 rfl) ?_
        refine lv_iconst (v := 1) S.1 S.2.1 dX8_addClient_33 (by decide) ?_
        refine lv_bipush (v := 9) S.1 S.2.1 dX8_addClient_34 (by decide) ?_
        refine ed_kI (ed_rS S hK hM (c_X8_isBetween _ D cy (ed_P D cy B μ) (ed_A B) x4 1 9) (va_cwS 3 S.2.2.2.2 (ed_gS ed_w2_93 ed_w2_94 ed_w1_1 ed_w2_95) rfl rfl rfl hd_X8_isBetween.2 ⟨Nat.le_of_ble_eq_true rfl, Nat.le_of_ble_eq_true rfl⟩) rfl hl.1 rfl (Nat.le_of_ble_eq_true rfl) dX8_addClient_36 ⟨Nat.zero_le _, Nat.zero_le _⟩) hS (fun H locs hM hS => ?_)
        refine lv_if_eq (tgt := 53) S.1 S.2.1 dX8_addClient_39 (by decide) (fun c8 => ?_) (fun c8 => ?_)
        · replace hf := ed_ip c8 hf
          refine lv_bipush (v := (-2)) S.1 S.2.1 dX8_addClient_53 (by decide) ?_
          obtain ⟨rfl, rfl⟩ := ed_so hf
          exact ed_ri S hr hlocks hM hS dX8_addClient_55
        · replace hf := ed_in_ c8 hf
          refine lv_iload S.1 S.2.1 dX8_addClient_42 (lv_at hl 5 rfl) ?_
          refine lv_iconst (v := 0) S.1 S.2.1 dX8_addClient_44 (by decide) ?_
          refine lv_ldc (v := 2000000000) S.1 S.2.1 S.2.2.2.1 (S.2.2.2.2 _ ed_w2_96) dX8_addClient_45 ?_
          refine ed_kI (ed_rS S hK hM (c_X8_isBetween _ D cy (ed_P D cy B μ) (ed_A B) x5 0 2000000000) (va_cwS 3 S.2.2.2.2 (ed_gS ed_w2_93 ed_w2_94 ed_w1_1 ed_w2_95) rfl rfl rfl hd_X8_isBetween.2 ⟨Nat.le_of_ble_eq_true rfl, Nat.le_of_ble_eq_true rfl⟩) rfl hl.1 rfl (Nat.le_of_ble_eq_true rfl) dX8_addClient_47 ⟨Nat.zero_le _, Nat.zero_le _⟩) hS (fun H locs hM hS => ?_)
          refine lv_if_ne (tgt := 56) S.1 S.2.1 dX8_addClient_50 (by decide) (fun c10 => ?_) (fun c10 => ?_)
          · replace hf := ed_in_ c10 hf
            refine lv_aload_n S.1 S.2.1 dX8_addClient_56 rfl (lv_at hl 0 rfl) ?_
            refine ed_get (r := (μ 7 14 0)) S ed_uX8 hK hM ed_v14 rfl (ed_e14 cy B 7 0 _) rfl 0 (by decide) ed_w2_70 rfl rfl dX8_addClient_57 ?_
            refine ed_get (r := (μ 0 0 0)) S ed_uX5 hK hM (ed_v0 (by decide) 0) rfl (ed_e0 cy B 0 0 _) rfl 4 (by decide) ed_w1_219 rfl rfl dX8_addClient_60 ?_
            refine lv_bipush (v := 8) S.1 S.2.1 dX8_addClient_63 (by decide) ?_
            refine lv_icmp_lt (tgt := 71) S.1 S.2.1 dX8_addClient_65 (by decide) (fun c11 => ?_) (fun c11 => ?_)
            · replace hf := ed_ip c11 hf
              refine lv_aload_n S.1 S.2.1 dX8_addClient_71 rfl (lv_at hl 0 rfl) ?_
              refine ed_get (r := (μ 7 14 0)) S ed_uX8 hK hM ed_v14 rfl (ed_e14 cy B 7 0 _) rfl 4 (by decide) ed_w2_74 rfl rfl dX8_addClient_72 ?_
              refine lv_aload_n S.1 S.2.1 dX8_addClient_75 rfl (lv_at hl 0 rfl) ?_
              refine ed_get (r := (μ 7 14 0)) S ed_uX8 hK hM ed_v14 rfl (ed_e14 cy B 7 0 _) rfl 0 (by decide) ed_w2_70 rfl rfl dX8_addClient_76 ?_
              obtain ⟨μ12, hq12, hf⟩ := ed_b_e hf
              refine ed_kV (ed_rV S hK hM (c_X2_remember _ D cy B 0 (by decide) μ μ12 hq12) (cwV 1 S.2.2.2.2 (ed_gV ed_w2_97 ed_w2_98 ed_w2_99 ed_w1_8 ed_w2_100) rfl rfl rfl hd_X2_remember ⟨Nat.le_of_ble_eq_true rfl, Nat.le_of_ble_eq_true rfl⟩) (ed_rc (q := (RX2, TX2, 2)) (r := (μ 7 15 0)) hK hM ed_v15 rfl (ed_e15 cy B 7 0 _) rfl) rfl hl.1 rfl (Nat.le_of_ble_eq_true rfl) dX8_addClient_79 ⟨Nat.zero_le _, Nat.zero_le _⟩) hS (fun H locs hM hS => ?_)
              refine lv_aload_n S.1 S.2.1 dX8_addClient_82 rfl (lv_at hl 0 rfl) ?_
              refine ed_get (r := (μ12 7 14 0)) S ed_uX8 hK hM ed_v14 rfl (ed_e14 cy B 7 0 _) rfl 0 (by decide) ed_w2_70 rfl rfl dX8_addClient_83 ?_
              refine ed_get (r := (μ12 0 0 0)) S ed_uX5 hK hM (ed_v0 (by decide) 0) rfl (ed_e0 cy B 0 0 _) rfl 4 (by decide) ed_w1_219 rfl rfl dX8_addClient_86 ?_
              refine lv_istore (lv' := [(6, .int (μ12 0 0 0 4)), (0, .ref (B + ed_oF 7 14 0)), (1, .int x1), (2, .int x2), (3, .int x3), (4, .int x4), (5, .int x5)]) S.1 S.2.1 dX8_addClient_89 hl (by decide) rfl (fun ls hl => ?_)
              refine lv_aload_n S.1 S.2.1 dX8_addClient_91 rfl (lv_at hl 1 rfl) ?_
              refine ed_get (r := (μ12 7 14 0)) S ed_uX8 hK hM ed_v14 rfl (ed_e14 cy B 7 0 _) rfl 0 (by decide) ed_w2_70 rfl rfl dX8_addClient_92 ?_
              refine lv_dup S.1 S.2.1 dX8_addClient_95 rfl ?_
              refine ed_get (r := (μ12 0 0 0)) S ed_uX5 hK hM (ed_v0 (by decide) 0) rfl (ed_e0 cy B 0 0 _) rfl 4 (by decide) ed_w1_219 rfl rfl dX8_addClient_96 ?_
              refine lv_iconst (v := 1) S.1 S.2.1 dX8_addClient_99 (by decide) ?_
              refine lv_iadd S.1 S.2.1 dX8_addClient_100 ?_
              refine ed_put (j := 0) S ed_uX5 tyX5 tyX5_ok nmX5 hK (ed_eta hM) hS (ed_v0 (by decide) 0) (ed_e0 cy B 0 0 _) rfl 4 (by decide) ed_w1_219 rfl rfl rfl rfl (Nat.le_of_ble_eq_true rfl) (ed_u0_4 cy B 0 0 _ _) dX8_addClient_101 (fun H locs hM hS => ?_)
              obtain ⟨μ13, eμ13, hf⟩ := ed_t_e hf
              have hM : ed_P D cy B μ13 H := by rw [eμ13]; exact hM
              refine lv_aload_n S.1 S.2.1 dX8_addClient_104 rfl (lv_at hl 1 rfl) ?_
              refine ed_get (r := (μ13 7 14 0)) S ed_uX8 hK hM ed_v14 rfl (ed_e14 cy B 7 0 _) rfl 0 (by decide) ed_w2_70 rfl rfl dX8_addClient_105 ?_
              refine lv_iload S.1 S.2.1 dX8_addClient_108 (lv_at hl 0 rfl) ?_
              obtain ⟨o14, hq14, hf⟩ := ed_b_e hf
              refine ed_kA (ed_rV S hK (ed_eta hM) (c_X5_clientAt _ D cy B μ13 0 (by decide) (μ12 0 0 0 4) (μ13 0) o14 hq14) (cwV 1 S.2.2.2.2 (ed_gV ed_w2_172 ed_w2_145 ed_w2_146 ed_w1_2 ed_w2_147) rfl rfl rfl hd_X5_clientAt ⟨Nat.le_of_ble_eq_true rfl, Nat.le_of_ble_eq_true rfl⟩) (ed_rc (q := (RX5, TX5, 11)) (r := (μ13 0 0 0)) hK hM (ed_v0 (by decide) 0) rfl (ed_e0 cy B 0 0 _) rfl) rfl hl.1 rfl (Nat.le_of_ble_eq_true rfl) dX8_addClient_110 ⟨Nat.zero_le _, Nat.zero_le _⟩) hS (fun H locs hM hS => ?_)
              have hM : ed_P D cy B μ13 H := by rw [← ed_sJ_eta μ13 0]; exact hM
              cases o14 with
              | none =>
                dsimp only at hf
                refine W.eq (g2 := F0 m 113 ls (.null :: [])) rfl ?_
                refine lv_astoreN (lv' := [(7, .null), (6, .int (μ12 0 0 0 4)), (0, .ref (B + ed_oF 7 14 0)), (1, .int x1), (2, .int x2), (3, .int x3), (4, .int x4), (5, .int x5)]) S.1 S.2.1 dX8_addClient_113 hl (by decide) rfl (fun ls hl => ?_)
                refine lv_aloadN S.1 S.2.1 dX8_addClient_115 (lv_at hl 0 rfl) ?_
                refine lv_ifnullN (tgt := 132) S.1 S.2.1 dX8_addClient_117 (by decide) ?_
                refine lv_iload S.1 S.2.1 dX8_addClient_132 (lv_at hl 1 rfl) ?_
                obtain ⟨rfl, rfl⟩ := ed_so hf
                exact ed_ri S hr hlocks hM hS dX8_addClient_134
              | some n14q =>
                dsimp only at hf
                obtain ⟨hn14q, hf⟩ := ed_g_e hf
                refine W.eq (g2 := F0 m 113 ls (.ref (B + ed_oF 0 11 n14q) :: [])) rfl ?_
                refine lv_astore (lv' := [(7, .ref (B + ed_oF 0 11 n14q)), (6, .int (μ12 0 0 0 4)), (0, .ref (B + ed_oF 7 14 0)), (1, .int x1), (2, .int x2), (3, .int x3), (4, .int x4), (5, .int x5)]) S.1 S.2.1 dX8_addClient_113 hl (by decide) rfl (fun ls hl => ?_)
                refine lv_aload S.1 S.2.1 dX8_addClient_115 (lv_at hl 0 rfl) ?_
                refine lv_ifnull S.1 S.2.1 dX8_addClient_117 ?_
                refine lv_aload S.1 S.2.1 dX8_addClient_120 (lv_at hl 0 rfl) ?_
                refine lv_iload_n S.1 S.2.1 dX8_addClient_122 rfl (lv_at hl 3 rfl) ?_
                refine lv_iload_n S.1 S.2.1 dX8_addClient_123 rfl (lv_at hl 4 rfl) ?_
                refine lv_iload_n S.1 S.2.1 dX8_addClient_124 rfl (lv_at hl 5 rfl) ?_
                refine lv_iload S.1 S.2.1 dX8_addClient_125 (lv_at hl 6 rfl) ?_
                refine lv_iload S.1 S.2.1 dX8_addClient_127 (lv_at hl 7 rfl) ?_
                obtain ⟨σ15, hq15, hf⟩ := ed_b_e hf
                refine ed_kV (ed_rV S hK (ed_eta hM) (c_X0_begin _ D cy B μ13 0 (by decide) n14q hn14q x1 x2 x3 x4 x5 (μ13 0) σ15 hq15) (cwV 5 S.2.2.2.2 (ed_gV ed_w2_173 ed_w2_174 ed_w2_175 ed_w1_5 ed_w2_176) rfl rfl rfl hd_X0_begin ⟨Nat.le_of_ble_eq_true rfl, Nat.le_of_ble_eq_true rfl⟩) (ed_rc (q := (RX0, TX0, 10)) (r := (μ13 0 11 n14q)) hK hM (ed_v11 (by decide) hn14q) rfl (ed_e11 cy B 0 n14q _) rfl) rfl hl.1 rfl (Nat.le_of_ble_eq_true rfl) dX8_addClient_129 ⟨Nat.zero_le _, Nat.zero_le _⟩) hS (fun H locs hM hS => ?_)
                obtain ⟨μ16, eμ16, hf⟩ := ed_t_e hf
                have hM : ed_P D cy B μ16 H := by rw [eμ16]; exact hM
                refine lv_iload S.1 S.2.1 dX8_addClient_132 (lv_at hl 1 rfl) ?_
                obtain ⟨rfl, rfl⟩ := ed_so hf
                exact ed_ri S hr hlocks hM hS dX8_addClient_134
            · replace hf := ed_in_ c11 hf
              refine lv_bipush (v := (-3)) S.1 S.2.1 dX8_addClient_68 (by decide) ?_
              obtain ⟨rfl, rfl⟩ := ed_so hf
              exact ed_ri S hr hlocks hM hS dX8_addClient_70
          · replace hf := ed_ip c10 hf
            refine lv_bipush (v := (-2)) S.1 S.2.1 dX8_addClient_53 (by decide) ?_
            obtain ⟨rfl, rfl⟩ := ed_so hf
            exact ed_ri S hr hlocks hM hS dX8_addClient_55
set_option maxHeartbeats 4000000 in
set_option maxRecDepth 100000 in
theorem c_X8_setUp (l : Launch) (D : va_G) (cy : Nat → ClassId) (B : Nat) (x1 x2 : Int32) (μ : ed_CM) (r : Int32) (μ' : ed_CM) (hf : f_X8_setUp x1 x2 μ = some (r, μ')) :
    Met l yX8_setUp wsX8_setUp rmX8_setUp (ed_pC D cy (ed_P D cy B μ) [.ref (B + ed_oF 7 14 0), .int x1, .int x2]) (ed_qI (ed_A B) (ed_P D cy B μ') r) 0 0 (ed_A B) := by
  refine Met.ofW (cc := cX8_setUp) (maxL := 4) (ret := (some .int)) (by decide) rfl ?_
  intro p e s m args below meth c s₁ B0 hml hv
  obtain ⟨rfl, hM, hK⟩ := hv
  have S : CallFix p m c cX8_setUp 4 s _ ed_ws RX8 := ⟨B0.exec, B0.bytes, hml, findClass_of_methodNamed B0.named, fun w hw => atoms_spec (ws := wsX8_setUp) B0.pre w (List.mem_cons_of_mem _ hw)⟩
  have hr := B0.returns
  have hlocks := B0.notSynchronized
  have hS : va_S (ed_A B) s.heap s.heap [] := va_S.rf
  have hl := lv_entry ([.ref (B + ed_oF 7 14 0), .int x1, .int x2]) (n := 4) (Nat.le_of_ble_eq_true rfl)
  rw [lg_entry_eq]
  generalize (lg_sl ([.ref (B + ed_oF 7 14 0), .int x1, .int x2]) ++ List.replicate (4 - (lg_sl ([.ref (B + ed_oF 7 14 0), .int x1, .int x2])).length) Slot.unset).toArray = ls at hl ⊢
  have hl : lv_has ls 4 [(0, .ref (B + ed_oF 7 14 0)), (1, .int x1), (2, .int x2)] := hl
  unfold f_X8_setUp at hf
  refine lv_aload_n S.1 S.2.1 dX8_setUp_0 rfl (lv_at hl 0 rfl) ?_
  refine ed_get (r := (μ 7 14 0)) S ed_uX8 hK hM ed_v14 rfl (ed_e14 cy B 7 0 _) rfl 0 (by decide) ed_w2_70 rfl rfl dX8_setUp_1 ?_
  refine lv_iload_n S.1 S.2.1 dX8_setUp_4 rfl (lv_at hl 1 rfl) ?_
  obtain ⟨o1, hq1, hf⟩ := ed_b_e hf
  refine ed_kA (ed_rV S hK (ed_eta hM) (c_X5_clientAt _ D cy B μ 0 (by decide) x1 (μ 0) o1 hq1) (cwV 1 S.2.2.2.2 (ed_gV ed_w2_172 ed_w2_145 ed_w2_146 ed_w1_2 ed_w2_147) rfl rfl rfl hd_X5_clientAt ⟨Nat.le_of_ble_eq_true rfl, Nat.le_of_ble_eq_true rfl⟩) (ed_rc (q := (RX5, TX5, 11)) (r := (μ 0 0 0)) hK hM (ed_v0 (by decide) 0) rfl (ed_e0 cy B 0 0 _) rfl) rfl hl.1 rfl (Nat.le_of_ble_eq_true rfl) dX8_setUp_5 ⟨Nat.zero_le _, Nat.zero_le _⟩) hS (fun H locs hM hS => ?_)
  have hM : ed_P D cy B μ H := by rw [← ed_sJ_eta μ 0]; exact hM
  cases o1 with
  | none =>
    dsimp only at hf
    refine W.eq (g2 := F0 m 8 ls (.null :: [])) rfl ?_
    refine lv_astore_nN (lv' := [(3, .null), (0, .ref (B + ed_oF 7 14 0)), (1, .int x1), (2, .int x2)]) S.1 S.2.1 dX8_setUp_8 rfl hl (by decide) rfl (fun ls hl => ?_)
    refine lv_aload_nN S.1 S.2.1 dX8_setUp_9 rfl (lv_at hl 0 rfl) ?_
    refine lv_ifnonnullN S.1 S.2.1 dX8_setUp_10 ?_
    refine lv_iconst (v := (-1)) S.1 S.2.1 dX8_setUp_13 (by decide) ?_
    obtain ⟨rfl, rfl⟩ := ed_so hf
    exact ed_ri S hr hlocks hM hS dX8_setUp_14
  | some n1q =>
    dsimp only at hf
    obtain ⟨hn1q, hf⟩ := ed_g_e hf
    refine W.eq (g2 := F0 m 8 ls (.ref (B + ed_oF 0 11 n1q) :: [])) rfl ?_
    refine lv_astore_n (lv' := [(3, .ref (B + ed_oF 0 11 n1q)), (0, .ref (B + ed_oF 7 14 0)), (1, .int x1), (2, .int x2)]) S.1 S.2.1 dX8_setUp_8 rfl hl (by decide) rfl (fun ls hl => ?_)
    refine lv_aload_n S.1 S.2.1 dX8_setUp_9 rfl (lv_at hl 0 rfl) ?_
    refine lv_ifnonnull (tgt := 15) S.1 S.2.1 dX8_setUp_10 (by decide) ?_
    refine lv_aload_n S.1 S.2.1 dX8_setUp_15 rfl (lv_at hl 0 rfl) ?_
    refine ed_get (r := (μ 0 11 n1q)) S ed_uX0 hK hM (ed_v11 (by decide) hn1q) rfl (ed_e11 cy B 0 n1q _) rfl 5 (by decide) ed_w1_124 rfl rfl dX8_setUp_16 ?_
    refine lv_iload_n S.1 S.2.1 dX8_setUp_19 rfl (lv_at hl 3 rfl) ?_
    refine lv_icmp_ne (tgt := 26) S.1 S.2.1 dX8_setUp_20 (by decide) (fun c2 => ?_) (fun c2 => ?_)
    · replace hf := ed_in_ c2 hf
      refine lv_aload_n S.1 S.2.1 dX8_setUp_26 rfl (lv_at hl 1 rfl) ?_
      refine ed_get (r := (μ 7 14 0)) S ed_uX8 hK hM ed_v14 rfl (ed_e14 cy B 7 0 _) rfl 4 (by decide) ed_w2_74 rfl rfl dX8_setUp_27 ?_
      refine lv_aload_n S.1 S.2.1 dX8_setUp_30 rfl (lv_at hl 1 rfl) ?_
      refine ed_get (r := (μ 7 14 0)) S ed_uX8 hK hM ed_v14 rfl (ed_e14 cy B 7 0 _) rfl 0 (by decide) ed_w2_70 rfl rfl dX8_setUp_31 ?_
      obtain ⟨μ3, hq3, hf⟩ := ed_b_e hf
      refine ed_kV (ed_rV S hK hM (c_X2_remember _ D cy B 0 (by decide) μ μ3 hq3) (cwV 1 S.2.2.2.2 (ed_gV ed_w2_97 ed_w2_98 ed_w2_99 ed_w1_8 ed_w2_100) rfl rfl rfl hd_X2_remember ⟨Nat.le_of_ble_eq_true rfl, Nat.le_of_ble_eq_true rfl⟩) (ed_rc (q := (RX2, TX2, 2)) (r := (μ 7 15 0)) hK hM ed_v15 rfl (ed_e15 cy B 7 0 _) rfl) rfl hl.1 rfl (Nat.le_of_ble_eq_true rfl) dX8_setUp_34 ⟨Nat.zero_le _, Nat.zero_le _⟩) hS (fun H locs hM hS => ?_)
      refine lv_aload_n S.1 S.2.1 dX8_setUp_37 rfl (lv_at hl 0 rfl) ?_
      refine lv_iload_n S.1 S.2.1 dX8_setUp_38 rfl (lv_at hl 3 rfl) ?_
      obtain ⟨hb4, hf⟩ := ed_g_e hf
      refine ed_put (j := 0) S ed_uX0 tyX0 tyX0_ok nmX0 hK (ed_eta hM) hS (ed_v11 (by decide) hn1q) (ed_e11 cy B 0 n1q _) rfl 5 (by decide) ed_w1_124 rfl rfl (ed_bo_n hb4).1 (ed_bo_n hb4).2 (Nat.le_of_ble_eq_true rfl) (ed_u11_5 cy B 0 n1q _ _) dX8_setUp_39 (fun H locs hM hS => ?_)
      obtain ⟨μ5, eμ5, hf⟩ := ed_t_e hf
      have hM : ed_P D cy B μ5 H := by rw [eμ5]; exact hM
      refine lv_aload_n S.1 S.2.1 dX8_setUp_42 rfl (lv_at hl 1 rfl) ?_
      refine ed_get (r := (μ5 7 14 0)) S ed_uX8 hK hM ed_v14 rfl (ed_e14 cy B 7 0 _) rfl 0 (by decide) ed_w2_70 rfl rfl dX8_setUp_43 ?_
      refine lv_iconst (v := (-1)) S.1 S.2.1 dX8_setUp_46 (by decide) ?_
      refine lv_iload_n S.1 S.2.1 dX8_setUp_47 rfl (lv_at hl 2 rfl) ?_
      refine lv_iconst (v := 0) S.1 S.2.1 dX8_setUp_48 (by decide) ?_
      obtain ⟨r6, hq6, hf⟩ := ed_b_e hf
      refine ed_kI (ed_rV S hK (ed_eta hM) (c_X5_copiesOf _ D cy B μ5 0 (by decide) (-1) x1 0 (μ5 0) r6 hq6) (cwV 3 S.2.2.2.2 (ed_gV ed_w3_108 ed_w3_109 ed_w3_110 ed_w1_2 ed_w3_111) rfl rfl rfl hd_X5_copiesOf ⟨Nat.le_of_ble_eq_true rfl, Nat.le_of_ble_eq_true rfl⟩) (ed_rc (q := (RX5, TX5, 11)) (r := (μ5 0 0 0)) hK hM (ed_v0 (by decide) 0) rfl (ed_e0 cy B 0 0 _) rfl) rfl hl.1 rfl (Nat.le_of_ble_eq_true rfl) dX8_setUp_49 ⟨Nat.zero_le _, Nat.zero_le _⟩) hS (fun H locs hM hS => ?_)
      have hM : ed_P D cy B μ5 H := by rw [← ed_sJ_eta μ5 0]; exact hM
      refine lv_aload_n S.1 S.2.1 dX8_setUp_52 rfl (lv_at hl 1 rfl) ?_
      refine ed_get (r := (μ5 7 14 0)) S ed_uX8 hK hM ed_v14 rfl (ed_e14 cy B 7 0 _) rfl 0 (by decide) ed_w2_70 rfl rfl dX8_setUp_53 ?_
      refine lv_iconst (v := (-1)) S.1 S.2.1 dX8_setUp_56 (by decide) ?_
      refine lv_iload_n S.1 S.2.1 dX8_setUp_57 rfl (lv_at hl 2 rfl) ?_
      refine lv_iconst (v := 1) S.1 S.2.1 dX8_setUp_58 (by decide) ?_
      obtain ⟨r7, hq7, hf⟩ := ed_b_e hf
      refine ed_kI (ed_rV S hK (ed_eta hM) (c_X5_copiesOf _ D cy B μ5 0 (by decide) (-1) x1 1 (μ5 0) r7 hq7) (cwV 3 S.2.2.2.2 (ed_gV ed_w3_108 ed_w3_109 ed_w3_110 ed_w1_2 ed_w3_111) rfl rfl rfl hd_X5_copiesOf ⟨Nat.le_of_ble_eq_true rfl, Nat.le_of_ble_eq_true rfl⟩) (ed_rc (q := (RX5, TX5, 11)) (r := (μ5 0 0 0)) hK hM (ed_v0 (by decide) 0) rfl (ed_e0 cy B 0 0 _) rfl) rfl hl.1 rfl (Nat.le_of_ble_eq_true rfl) dX8_setUp_59 ⟨Nat.zero_le _, Nat.zero_le _⟩) hS (fun H locs hM hS => ?_)
      have hM : ed_P D cy B μ5 H := by rw [← ed_sJ_eta μ5 0]; exact hM
      refine lv_iadd S.1 S.2.1 dX8_setUp_62 ?_
      obtain ⟨rfl, rfl⟩ := ed_so hf
      exact ed_ri S hr hlocks hM hS dX8_setUp_63
    · replace hf := ed_ip c2 hf
      refine lv_bipush (v := (-5)) S.1 S.2.1 dX8_setUp_23 (by decide) ?_
      obtain ⟨rfl, rfl⟩ := ed_so hf
      exact ed_ri S hr hlocks hM hS dX8_setUp_25
set_option maxHeartbeats 4000000 in
set_option maxRecDepth 100000 in
theorem c_X8_setUse (l : Launch) (D : va_G) (cy : Nat → ClassId) (B : Nat) (x1 : Int32) (μ : ed_CM) (r : Int32) (μ' : ed_CM) (hf : f_X8_setUse x1 μ = some (r, μ')) :
    Met l yX8_setUse wsX8_setUse rmX8_setUse (ed_pC D cy (ed_P D cy B μ) [.ref (B + ed_oF 7 14 0), .int x1]) (ed_qI (ed_A B) (ed_P D cy B μ') r) 0 0 (ed_A B) := by
  refine Met.ofW (cc := cX8_setUse) (maxL := 3) (ret := (some .int)) (by decide) rfl ?_
  intro p e s m args below meth c s₁ B0 hml hv
  obtain ⟨rfl, hM, hK⟩ := hv
  have S : CallFix p m c cX8_setUse 3 s _ ed_ws RX8 := ⟨B0.exec, B0.bytes, hml, findClass_of_methodNamed B0.named, fun w hw => atoms_spec (ws := wsX8_setUse) B0.pre w (List.mem_cons_of_mem _ hw)⟩
  have hr := B0.returns
  have hlocks := B0.notSynchronized
  have hS : va_S (ed_A B) s.heap s.heap [] := va_S.rf
  have hl := lv_entry ([.ref (B + ed_oF 7 14 0), .int x1]) (n := 3) (Nat.le_of_ble_eq_true rfl)
  rw [lg_entry_eq]
  generalize (lg_sl ([.ref (B + ed_oF 7 14 0), .int x1]) ++ List.replicate (3 - (lg_sl ([.ref (B + ed_oF 7 14 0), .int x1])).length) Slot.unset).toArray = ls at hl ⊢
  have hl : lv_has ls 3 [(0, .ref (B + ed_oF 7 14 0)), (1, .int x1)] := hl
  unfold f_X8_setUse at hf
  refine lv_iload_n S.1 S.2.1 dX8_setUse_0 rfl (lv_at hl 1 rfl) ?_
  refine lv_iconst (v := 1) S.1 S.2.1 dX8_setUse_1 (by decide) ?_
  refine lv_bipush (v := 9) S.1 S.2.1 dX8_setUse_2 (by decide) ?_
  refine ed_kI (ed_rS S hK hM (c_X8_isBetween _ D cy (ed_P D cy B μ) (ed_A B) x1 1 9) (va_cwS 3 S.2.2.2.2 (ed_gS ed_w2_93 ed_w2_94 ed_w1_1 ed_w2_95) rfl rfl rfl hd_X8_isBetween.2 ⟨Nat.le_of_ble_eq_true rfl, Nat.le_of_ble_eq_true rfl⟩) rfl hl.1 rfl (Nat.le_of_ble_eq_true rfl) dX8_setUse_4 ⟨Nat.zero_le _, Nat.zero_le _⟩) hS (fun H locs hM hS => ?_)
  refine lv_if_ne (tgt := 13) S.1 S.2.1 dX8_setUse_7 (by decide) (fun c2 => ?_) (fun c2 => ?_)
  · replace hf := ed_in_ c2 hf
    refine lv_aload_n S.1 S.2.1 dX8_setUse_13 rfl (lv_at hl 0 rfl) ?_
    refine ed_get (r := (μ 7 14 0)) S ed_uX8 hK hM ed_v14 rfl (ed_e14 cy B 7 0 _) rfl 0 (by decide) ed_w2_70 rfl rfl dX8_setUse_14 ?_
    refine ed_get (r := (μ 0 0 0)) S ed_uX5 hK hM (ed_v0 (by decide) 0) rfl (ed_e0 cy B 0 0 _) rfl 1 (by decide) ed_w1_214 rfl rfl dX8_setUse_17 ?_
    refine lv_iload_n S.1 S.2.1 dX8_setUse_20 rfl (lv_at hl 1 rfl) ?_
    refine lv_icmp_ne (tgt := 27) S.1 S.2.1 dX8_setUse_21 (by decide) (fun c3 => ?_) (fun c3 => ?_)
    · replace hf := ed_in_ c3 hf
      refine lv_aload_n S.1 S.2.1 dX8_setUse_27 rfl (lv_at hl 0 rfl) ?_
      refine ed_get (r := (μ 7 14 0)) S ed_uX8 hK hM ed_v14 rfl (ed_e14 cy B 7 0 _) rfl 4 (by decide) ed_w2_74 rfl rfl dX8_setUse_28 ?_
      refine lv_aload_n S.1 S.2.1 dX8_setUse_31 rfl (lv_at hl 0 rfl) ?_
      refine ed_get (r := (μ 7 14 0)) S ed_uX8 hK hM ed_v14 rfl (ed_e14 cy B 7 0 _) rfl 0 (by decide) ed_w2_70 rfl rfl dX8_setUse_32 ?_
      obtain ⟨μ4, hq4, hf⟩ := ed_b_e hf
      refine ed_kV (ed_rV S hK hM (c_X2_remember _ D cy B 0 (by decide) μ μ4 hq4) (cwV 1 S.2.2.2.2 (ed_gV ed_w2_97 ed_w2_98 ed_w2_99 ed_w1_8 ed_w2_100) rfl rfl rfl hd_X2_remember ⟨Nat.le_of_ble_eq_true rfl, Nat.le_of_ble_eq_true rfl⟩) (ed_rc (q := (RX2, TX2, 2)) (r := (μ 7 15 0)) hK hM ed_v15 rfl (ed_e15 cy B 7 0 _) rfl) rfl hl.1 rfl (Nat.le_of_ble_eq_true rfl) dX8_setUse_35 ⟨Nat.zero_le _, Nat.zero_le _⟩) hS (fun H locs hM hS => ?_)
      refine lv_aload_n S.1 S.2.1 dX8_setUse_38 rfl (lv_at hl 0 rfl) ?_
      refine ed_get (r := (μ4 7 14 0)) S ed_uX8 hK hM ed_v14 rfl (ed_e14 cy B 7 0 _) rfl 0 (by decide) ed_w2_70 rfl rfl dX8_setUse_39 ?_
      refine ed_get (r := (μ4 0 0 0)) S ed_uX5 hK hM (ed_v0 (by decide) 0) rfl (ed_e0 cy B 0 0 _) rfl 1 (by decide) ed_w1_214 rfl rfl dX8_setUse_42 ?_
      refine lv_istore_n (lv' := [(2, .int (μ4 0 0 0 1)), (0, .ref (B + ed_oF 7 14 0)), (1, .int x1)]) S.1 S.2.1 dX8_setUse_45 rfl hl (by decide) rfl (fun ls hl => ?_)
      refine lv_aload_n S.1 S.2.1 dX8_setUse_46 rfl (lv_at hl 1 rfl) ?_
      refine ed_get (r := (μ4 7 14 0)) S ed_uX8 hK hM ed_v14 rfl (ed_e14 cy B 7 0 _) rfl 0 (by decide) ed_w2_70 rfl rfl dX8_setUse_47 ?_
      refine lv_iload_n S.1 S.2.1 dX8_setUse_50 rfl (lv_at hl 2 rfl) ?_
      refine ed_put (j := 0) S ed_uX5 tyX5 tyX5_ok nmX5 hK (ed_eta hM) hS (ed_v0 (by decide) 0) (ed_e0 cy B 0 0 _) rfl 1 (by decide) ed_w1_214 rfl rfl rfl rfl (Nat.le_of_ble_eq_true rfl) (ed_u0_1 cy B 0 0 _ _) dX8_setUse_51 (fun H locs hM hS => ?_)
      obtain ⟨μ5, eμ5, hf⟩ := ed_t_e hf
      have hM : ed_P D cy B μ5 H := by rw [eμ5]; exact hM
      refine lv_iload_n S.1 S.2.1 dX8_setUse_54 rfl (lv_at hl 0 rfl) ?_
      obtain ⟨rfl, rfl⟩ := ed_so hf
      exact ed_ri S hr hlocks hM hS dX8_setUse_55
    · replace hf := ed_ip c3 hf
      refine lv_bipush (v := (-5)) S.1 S.2.1 dX8_setUse_24 (by decide) ?_
      obtain ⟨rfl, rfl⟩ := ed_so hf
      exact ed_ri S hr hlocks hM hS dX8_setUse_26
  · replace hf := ed_ip c2 hf
    refine lv_bipush (v := (-2)) S.1 S.2.1 dX8_setUse_10 (by decide) ?_
    obtain ⟨rfl, rfl⟩ := ed_so hf
    exact ed_ri S hr hlocks hM hS dX8_setUse_12
set_option maxHeartbeats 4000000 in
set_option maxRecDepth 100000 in
theorem c_X8_pay (l : Launch) (D : va_G) (cy : Nat → ClassId) (B : Nat) (x1 x2 : Int32) (μ : ed_CM) (r : Int32) (μ' : ed_CM) (hf : f_X8_pay x1 x2 μ = some (r, μ')) :
    Met l yX8_pay wsX8_pay rmX8_pay (ed_pC D cy (ed_P D cy B μ) [.ref (B + ed_oF 7 14 0), .int x1, .int x2]) (ed_qI (ed_A B) (ed_P D cy B μ') r) 0 0 (ed_A B) := by
  refine Met.ofW (cc := cX8_pay) (maxL := 4) (ret := (some .int)) (by decide) rfl ?_
  intro p e s m args below meth c s₁ B0 hml hv
  obtain ⟨rfl, hM, hK⟩ := hv
  have S : CallFix p m c cX8_pay 4 s _ ed_ws RX8 := ⟨B0.exec, B0.bytes, hml, findClass_of_methodNamed B0.named, fun w hw => atoms_spec (ws := wsX8_pay) B0.pre w (List.mem_cons_of_mem _ hw)⟩
  have hr := B0.returns
  have hlocks := B0.notSynchronized
  have hS : va_S (ed_A B) s.heap s.heap [] := va_S.rf
  have hl := lv_entry ([.ref (B + ed_oF 7 14 0), .int x1, .int x2]) (n := 4) (Nat.le_of_ble_eq_true rfl)
  rw [lg_entry_eq]
  generalize (lg_sl ([.ref (B + ed_oF 7 14 0), .int x1, .int x2]) ++ List.replicate (4 - (lg_sl ([.ref (B + ed_oF 7 14 0), .int x1, .int x2])).length) Slot.unset).toArray = ls at hl ⊢
  have hl : lv_has ls 4 [(0, .ref (B + ed_oF 7 14 0)), (1, .int x1), (2, .int x2)] := hl
  unfold f_X8_pay at hf
  refine lv_aload_n S.1 S.2.1 dX8_pay_0 rfl (lv_at hl 0 rfl) ?_
  refine ed_get (r := (μ 7 14 0)) S ed_uX8 hK hM ed_v14 rfl (ed_e14 cy B 7 0 _) rfl 0 (by decide) ed_w2_70 rfl rfl dX8_pay_1 ?_
  refine lv_iload_n S.1 S.2.1 dX8_pay_4 rfl (lv_at hl 1 rfl) ?_
  obtain ⟨o1, hq1, hf⟩ := ed_b_e hf
  refine ed_kA (ed_rV S hK (ed_eta hM) (c_X5_clientAt _ D cy B μ 0 (by decide) x1 (μ 0) o1 hq1) (cwV 1 S.2.2.2.2 (ed_gV ed_w2_172 ed_w2_145 ed_w2_146 ed_w1_2 ed_w2_147) rfl rfl rfl hd_X5_clientAt ⟨Nat.le_of_ble_eq_true rfl, Nat.le_of_ble_eq_true rfl⟩) (ed_rc (q := (RX5, TX5, 11)) (r := (μ 0 0 0)) hK hM (ed_v0 (by decide) 0) rfl (ed_e0 cy B 0 0 _) rfl) rfl hl.1 rfl (Nat.le_of_ble_eq_true rfl) dX8_pay_5 ⟨Nat.zero_le _, Nat.zero_le _⟩) hS (fun H locs hM hS => ?_)
  have hM : ed_P D cy B μ H := by rw [← ed_sJ_eta μ 0]; exact hM
  cases o1 with
  | none =>
    dsimp only at hf
    refine W.eq (g2 := F0 m 8 ls (.null :: [])) rfl ?_
    refine lv_astore_nN (lv' := [(3, .null), (0, .ref (B + ed_oF 7 14 0)), (1, .int x1), (2, .int x2)]) S.1 S.2.1 dX8_pay_8 rfl hl (by decide) rfl (fun ls hl => ?_)
    refine lv_aload_nN S.1 S.2.1 dX8_pay_9 rfl (lv_at hl 0 rfl) ?_
    refine lv_ifnonnullN S.1 S.2.1 dX8_pay_10 ?_
    refine lv_iconst (v := (-1)) S.1 S.2.1 dX8_pay_13 (by decide) ?_
    obtain ⟨rfl, rfl⟩ := ed_so hf
    exact ed_ri S hr hlocks hM hS dX8_pay_14
  | some n1q =>
    dsimp only at hf
    obtain ⟨hn1q, hf⟩ := ed_g_e hf
    refine W.eq (g2 := F0 m 8 ls (.ref (B + ed_oF 0 11 n1q) :: [])) rfl ?_
    refine lv_astore_n (lv' := [(3, .ref (B + ed_oF 0 11 n1q)), (0, .ref (B + ed_oF 7 14 0)), (1, .int x1), (2, .int x2)]) S.1 S.2.1 dX8_pay_8 rfl hl (by decide) rfl (fun ls hl => ?_)
    refine lv_aload_n S.1 S.2.1 dX8_pay_9 rfl (lv_at hl 0 rfl) ?_
    refine lv_ifnonnull (tgt := 15) S.1 S.2.1 dX8_pay_10 (by decide) ?_
    refine lv_iload_n S.1 S.2.1 dX8_pay_15 rfl (lv_at hl 3 rfl) ?_
    refine lv_iconst (v := 1) S.1 S.2.1 dX8_pay_16 (by decide) ?_
    refine lv_ldc (v := 2000000000) S.1 S.2.1 S.2.2.2.1 (S.2.2.2.2 _ ed_w2_96) dX8_pay_17 ?_
    refine ed_kI (ed_rS S hK hM (c_X8_isBetween _ D cy (ed_P D cy B μ) (ed_A B) x2 1 2000000000) (va_cwS 3 S.2.2.2.2 (ed_gS ed_w2_93 ed_w2_94 ed_w1_1 ed_w2_95) rfl rfl rfl hd_X8_isBetween.2 ⟨Nat.le_of_ble_eq_true rfl, Nat.le_of_ble_eq_true rfl⟩) rfl hl.1 rfl (Nat.le_of_ble_eq_true rfl) dX8_pay_19 ⟨Nat.zero_le _, Nat.zero_le _⟩) hS (fun H locs hM hS => ?_)
    refine lv_if_ne (tgt := 28) S.1 S.2.1 dX8_pay_22 (by decide) (fun c3 => ?_) (fun c3 => ?_)
    · replace hf := ed_in_ c3 hf
      refine lv_aload_n S.1 S.2.1 dX8_pay_28 rfl (lv_at hl 0 rfl) ?_
      refine ed_get (r := (μ 0 11 n1q)) S ed_uX0 hK hM (ed_v11 (by decide) hn1q) rfl (ed_e11 cy B 0 n1q _) rfl 6 (by decide) ed_w1_127 rfl rfl dX8_pay_29 ?_
      refine lv_iload_n S.1 S.2.1 dX8_pay_32 rfl (lv_at hl 3 rfl) ?_
      refine lv_icmp_ge (tgt := 39) S.1 S.2.1 dX8_pay_33 (by decide) (fun c4 => ?_) (fun c4 => ?_)
      · replace hf := ed_ip c4 hf
        refine lv_aload_n S.1 S.2.1 dX8_pay_39 rfl (lv_at hl 1 rfl) ?_
        refine ed_get (r := (μ 7 14 0)) S ed_uX8 hK hM ed_v14 rfl (ed_e14 cy B 7 0 _) rfl 4 (by decide) ed_w2_74 rfl rfl dX8_pay_40 ?_
        refine lv_aload_n S.1 S.2.1 dX8_pay_43 rfl (lv_at hl 1 rfl) ?_
        refine ed_get (r := (μ 7 14 0)) S ed_uX8 hK hM ed_v14 rfl (ed_e14 cy B 7 0 _) rfl 0 (by decide) ed_w2_70 rfl rfl dX8_pay_44 ?_
        obtain ⟨μ5, hq5, hf⟩ := ed_b_e hf
        refine ed_kV (ed_rV S hK hM (c_X2_remember _ D cy B 0 (by decide) μ μ5 hq5) (cwV 1 S.2.2.2.2 (ed_gV ed_w2_97 ed_w2_98 ed_w2_99 ed_w1_8 ed_w2_100) rfl rfl rfl hd_X2_remember ⟨Nat.le_of_ble_eq_true rfl, Nat.le_of_ble_eq_true rfl⟩) (ed_rc (q := (RX2, TX2, 2)) (r := (μ 7 15 0)) hK hM ed_v15 rfl (ed_e15 cy B 7 0 _) rfl) rfl hl.1 rfl (Nat.le_of_ble_eq_true rfl) dX8_pay_47 ⟨Nat.zero_le _, Nat.zero_le _⟩) hS (fun H locs hM hS => ?_)
        refine lv_aload_n S.1 S.2.1 dX8_pay_50 rfl (lv_at hl 0 rfl) ?_
        refine lv_dup S.1 S.2.1 dX8_pay_51 rfl ?_
        refine ed_get (r := (μ5 0 11 n1q)) S ed_uX0 hK hM (ed_v11 (by decide) hn1q) rfl (ed_e11 cy B 0 n1q _) rfl 6 (by decide) ed_w1_127 rfl rfl dX8_pay_52 ?_
        refine lv_iload_n S.1 S.2.1 dX8_pay_55 rfl (lv_at hl 3 rfl) ?_
        refine lv_isub S.1 S.2.1 dX8_pay_56 ?_
        refine ed_put (j := 0) S ed_uX0 tyX0 tyX0_ok nmX0 hK (ed_eta hM) hS (ed_v11 (by decide) hn1q) (ed_e11 cy B 0 n1q _) rfl 6 (by decide) ed_w1_127 rfl rfl rfl rfl (Nat.le_of_ble_eq_true rfl) (ed_u11_6 cy B 0 n1q _ _) dX8_pay_57 (fun H locs hM hS => ?_)
        obtain ⟨μ6, eμ6, hf⟩ := ed_t_e hf
        have hM : ed_P D cy B μ6 H := by rw [eμ6]; exact hM
        refine lv_aload_n S.1 S.2.1 dX8_pay_60 rfl (lv_at hl 0 rfl) ?_
        refine ed_get (r := (μ6 0 11 n1q)) S ed_uX0 hK hM (ed_v11 (by decide) hn1q) rfl (ed_e11 cy B 0 n1q _) rfl 6 (by decide) ed_w1_127 rfl rfl dX8_pay_61 ?_
        obtain ⟨rfl, rfl⟩ := ed_so hf
        exact ed_ri S hr hlocks hM hS dX8_pay_64
      · replace hf := ed_in_ c4 hf
        refine lv_bipush (v := (-4)) S.1 S.2.1 dX8_pay_36 (by decide) ?_
        obtain ⟨rfl, rfl⟩ := ed_so hf
        exact ed_ri S hr hlocks hM hS dX8_pay_38
    · replace hf := ed_ip c3 hf
      refine lv_bipush (v := (-2)) S.1 S.2.1 dX8_pay_25 (by decide) ?_
      obtain ⟨rfl, rfl⟩ := ed_so hf
      exact ed_ri S hr hlocks hM hS dX8_pay_27
set_option maxHeartbeats 4000000 in
set_option maxRecDepth 100000 in
theorem c_X8_readStory (l : Launch) (D : va_G) (cy : Nat → ClassId) (B : Nat) (μ : ed_CM) (r : Int32) (μ' : ed_CM) (hf : f_X8_readStory μ = some (r, μ')) :
    Met l yX8_readStory wsX8_readStory rmX8_readStory (ed_pC D cy (ed_P D cy B μ) [.ref (B + ed_oF 7 14 0)]) (ed_qI (ed_A B) (ed_P D cy B μ') r) 0 0 (ed_A B) := by
  refine Met.ofW (cc := cX8_readStory) (maxL := 4) (ret := (some .int)) (by decide) rfl ?_
  intro p e s m args below meth c s₁ B0 hml hv
  obtain ⟨rfl, hM, hK⟩ := hv
  have S : CallFix p m c cX8_readStory 4 s _ ed_ws RX8 := ⟨B0.exec, B0.bytes, hml, findClass_of_methodNamed B0.named, fun w hw => atoms_spec (ws := wsX8_readStory) B0.pre w (List.mem_cons_of_mem _ hw)⟩
  have hr := B0.returns
  have hlocks := B0.notSynchronized
  have hS : va_S (ed_A B) s.heap s.heap [] := va_S.rf
  have hl := lv_entry ([.ref (B + ed_oF 7 14 0)]) (n := 4) (Nat.le_of_ble_eq_true rfl)
  rw [lg_entry_eq]
  generalize (lg_sl ([.ref (B + ed_oF 7 14 0)]) ++ List.replicate (4 - (lg_sl ([.ref (B + ed_oF 7 14 0)])).length) Slot.unset).toArray = ls at hl ⊢
  have hl : lv_has ls 4 [(0, .ref (B + ed_oF 7 14 0))] := hl
  unfold f_X8_readStory at hf
  refine lv_aload_n S.1 S.2.1 dX8_readStory_0 rfl (lv_at hl 0 rfl) ?_
  refine ed_get (r := (μ 7 14 0)) S ed_uX8 hK hM ed_v14 rfl (ed_e14 cy B 7 0 _) rfl 5 (by decide) ed_w2_75 rfl rfl dX8_readStory_1 ?_
  obtain ⟨r1, σ1, hq1, hf⟩ := ed_b2_e hf
  refine ed_kI (ed_rV S hK (ed_eta hM) (c_X7_parse _ D cy B μ (μ 7) r1 σ1 hq1) (cwV 0 S.2.2.2.2 (ed_gV ed_w2_189 ed_w2_190 ed_w2_191 ed_w1_9 ed_w2_192) rfl rfl rfl hd_X7_parse ⟨Nat.le_of_ble_eq_true rfl, Nat.le_of_ble_eq_true rfl⟩) (ed_rc (q := (RX7, TX7, 9)) (r := (μ 7 17 0)) hK hM ed_v17 rfl (ed_e17 cy B 7 0 _) rfl) rfl hl.1 rfl (Nat.le_of_ble_eq_true rfl) dX8_readStory_4 ⟨Nat.zero_le _, Nat.zero_le _⟩) hS (fun H locs hM hS => ?_)
  obtain ⟨μ2, eμ2, hf⟩ := ed_t_e hf
  have hM : ed_P D cy B μ2 H := by rw [eμ2]; exact hM
  refine lv_istore_n (lv' := [(1, .int r1), (0, .ref (B + ed_oF 7 14 0))]) S.1 S.2.1 dX8_readStory_7 rfl hl (by decide) rfl (fun ls hl => ?_)
  refine lv_iload_n S.1 S.2.1 dX8_readStory_8 rfl (lv_at hl 0 rfl) ?_
  refine lv_iconst (v := (-1)) S.1 S.2.1 dX8_readStory_9 (by decide) ?_
  refine lv_icmp_eq (tgt := 18) S.1 S.2.1 dX8_readStory_10 (by decide) (fun c3 => ?_) (fun c3 => ?_)
  · replace hf := ed_ip c3 hf
    refine lv_aload_n S.1 S.2.1 dX8_readStory_18 rfl (lv_at hl 1 rfl) ?_
    refine ed_get (r := (μ2 7 14 0)) S ed_uX8 hK hM ed_v14 rfl (ed_e14 cy B 7 0 _) rfl 0 (by decide) ed_w2_70 rfl rfl dX8_readStory_19 ?_
    refine ed_get (r := (μ2 0 0 0)) S ed_uX5 hK hM (ed_v0 (by decide) 0) rfl (ed_e0 cy B 0 0 _) rfl 3 (by decide) ed_w1_218 rfl rfl dX8_readStory_22 ?_
    refine lv_bipush (v := 20) S.1 S.2.1 dX8_readStory_25 (by decide) ?_
    refine lv_icmp_lt (tgt := 33) S.1 S.2.1 dX8_readStory_27 (by decide) (fun c4 => ?_) (fun c4 => ?_)
    · replace hf := ed_ip c4 hf
      refine lv_aload_n S.1 S.2.1 dX8_readStory_33 rfl (lv_at hl 1 rfl) ?_
      refine ed_get (r := (μ2 7 14 0)) S ed_uX8 hK hM ed_v14 rfl (ed_e14 cy B 7 0 _) rfl 4 (by decide) ed_w2_74 rfl rfl dX8_readStory_34 ?_
      refine lv_aload_n S.1 S.2.1 dX8_readStory_37 rfl (lv_at hl 1 rfl) ?_
      refine ed_get (r := (μ2 7 14 0)) S ed_uX8 hK hM ed_v14 rfl (ed_e14 cy B 7 0 _) rfl 0 (by decide) ed_w2_70 rfl rfl dX8_readStory_38 ?_
      obtain ⟨μ5, hq5, hf⟩ := ed_b_e hf
      refine ed_kV (ed_rV S hK hM (c_X2_remember _ D cy B 0 (by decide) μ2 μ5 hq5) (cwV 1 S.2.2.2.2 (ed_gV ed_w2_97 ed_w2_98 ed_w2_99 ed_w1_8 ed_w2_100) rfl rfl rfl hd_X2_remember ⟨Nat.le_of_ble_eq_true rfl, Nat.le_of_ble_eq_true rfl⟩) (ed_rc (q := (RX2, TX2, 2)) (r := (μ2 7 15 0)) hK hM ed_v15 rfl (ed_e15 cy B 7 0 _) rfl) rfl hl.1 rfl (Nat.le_of_ble_eq_true rfl) dX8_readStory_41 ⟨Nat.zero_le _, Nat.zero_le _⟩) hS (fun H locs hM hS => ?_)
      refine lv_aload_n S.1 S.2.1 dX8_readStory_44 rfl (lv_at hl 1 rfl) ?_
      refine ed_get (r := (μ5 7 14 0)) S ed_uX8 hK hM ed_v14 rfl (ed_e14 cy B 7 0 _) rfl 0 (by decide) ed_w2_70 rfl rfl dX8_readStory_45 ?_
      refine ed_get (r := (μ5 0 0 0)) S ed_uX5 hK hM (ed_v0 (by decide) 0) rfl (ed_e0 cy B 0 0 _) rfl 3 (by decide) ed_w1_218 rfl rfl dX8_readStory_48 ?_
      refine lv_istore_n (lv' := [(2, .int (μ5 0 0 0 3)), (1, .int r1), (0, .ref (B + ed_oF 7 14 0))]) S.1 S.2.1 dX8_readStory_51 rfl hl (by decide) rfl (fun ls hl => ?_)
      refine lv_aload_n S.1 S.2.1 dX8_readStory_52 rfl (lv_at hl 2 rfl) ?_
      refine ed_get (r := (μ5 7 14 0)) S ed_uX8 hK hM ed_v14 rfl (ed_e14 cy B 7 0 _) rfl 0 (by decide) ed_w2_70 rfl rfl dX8_readStory_53 ?_
      refine lv_dup S.1 S.2.1 dX8_readStory_56 rfl ?_
      refine ed_get (r := (μ5 0 0 0)) S ed_uX5 hK hM (ed_v0 (by decide) 0) rfl (ed_e0 cy B 0 0 _) rfl 3 (by decide) ed_w1_218 rfl rfl dX8_readStory_57 ?_
      refine lv_iconst (v := 1) S.1 S.2.1 dX8_readStory_60 (by decide) ?_
      refine lv_iadd S.1 S.2.1 dX8_readStory_61 ?_
      refine ed_put (j := 0) S ed_uX5 tyX5 tyX5_ok nmX5 hK (ed_eta hM) hS (ed_v0 (by decide) 0) (ed_e0 cy B 0 0 _) rfl 3 (by decide) ed_w1_218 rfl rfl rfl rfl (Nat.le_of_ble_eq_true rfl) (ed_u0_3 cy B 0 0 _ _) dX8_readStory_62 (fun H locs hM hS => ?_)
      obtain ⟨μ6, eμ6, hf⟩ := ed_t_e hf
      have hM : ed_P D cy B μ6 H := by rw [eμ6]; exact hM
      refine lv_aload_n S.1 S.2.1 dX8_readStory_65 rfl (lv_at hl 2 rfl) ?_
      refine ed_get (r := (μ6 7 14 0)) S ed_uX8 hK hM ed_v14 rfl (ed_e14 cy B 7 0 _) rfl 0 (by decide) ed_w2_70 rfl rfl dX8_readStory_66 ?_
      refine lv_iload_n S.1 S.2.1 dX8_readStory_69 rfl (lv_at hl 0 rfl) ?_
      obtain ⟨o7, hq7, hf⟩ := ed_b_e hf
      refine ed_kA (ed_rV S hK (ed_eta hM) (c_X5_storyAt _ D cy B μ6 0 (by decide) (μ5 0 0 0 3) (μ6 0) o7 hq7) (cwV 1 S.2.2.2.2 (ed_gV ed_w2_232 ed_w2_130 ed_w2_131 ed_w1_2 ed_w2_132) rfl rfl rfl hd_X5_storyAt ⟨Nat.le_of_ble_eq_true rfl, Nat.le_of_ble_eq_true rfl⟩) (ed_rc (q := (RX5, TX5, 11)) (r := (μ6 0 0 0)) hK hM (ed_v0 (by decide) 0) rfl (ed_e0 cy B 0 0 _) rfl) rfl hl.1 rfl (Nat.le_of_ble_eq_true rfl) dX8_readStory_70 ⟨Nat.zero_le _, Nat.zero_le _⟩) hS (fun H locs hM hS => ?_)
      have hM : ed_P D cy B μ6 H := by rw [← ed_sJ_eta μ6 0]; exact hM
      cases o7 with
      | none =>
        dsimp only at hf
        refine W.eq (g2 := F0 m 73 ls (.null :: [])) rfl ?_
        refine lv_astore_nN (lv' := [(3, .null), (2, .int (μ5 0 0 0 3)), (1, .int r1), (0, .ref (B + ed_oF 7 14 0))]) S.1 S.2.1 dX8_readStory_73 rfl hl (by decide) rfl (fun ls hl => ?_)
        refine lv_aload_nN S.1 S.2.1 dX8_readStory_74 rfl (lv_at hl 0 rfl) ?_
        refine lv_ifnullN (tgt := 86) S.1 S.2.1 dX8_readStory_75 (by decide) ?_
        refine lv_iload_n S.1 S.2.1 dX8_readStory_86 rfl (lv_at hl 1 rfl) ?_
        obtain ⟨rfl, rfl⟩ := ed_so hf
        exact ed_ri S hr hlocks hM hS dX8_readStory_87
      | some n7q =>
        dsimp only at hf
        obtain ⟨hn7q, hf⟩ := ed_g_e hf
        refine W.eq (g2 := F0 m 73 ls (.ref (B + ed_oF 0 7 n7q) :: [])) rfl ?_
        refine lv_astore_n (lv' := [(3, .ref (B + ed_oF 0 7 n7q)), (2, .int (μ5 0 0 0 3)), (1, .int r1), (0, .ref (B + ed_oF 7 14 0))]) S.1 S.2.1 dX8_readStory_73 rfl hl (by decide) rfl (fun ls hl => ?_)
        refine lv_aload_n S.1 S.2.1 dX8_readStory_74 rfl (lv_at hl 0 rfl) ?_
        refine lv_ifnull S.1 S.2.1 dX8_readStory_75 ?_
        refine lv_aload_n S.1 S.2.1 dX8_readStory_78 rfl (lv_at hl 0 rfl) ?_
        refine lv_aload_n S.1 S.2.1 dX8_readStory_79 rfl (lv_at hl 3 rfl) ?_
        refine ed_get (r := (μ6 7 14 0)) S ed_uX8 hK hM ed_v14 rfl (ed_e14 cy B 7 0 _) rfl 5 (by decide) ed_w2_75 rfl rfl dX8_readStory_80 ?_
        obtain ⟨σ8, hq8, hf⟩ := ed_b_e hf
        refine ed_kV (ed_rV S hK (ed_eta hM) (c_X6_begin _ D cy B μ6 0 (by decide) n7q hn7q (μ6 7) rfl (μ6 0) σ8 hq8) (cwV 1 S.2.2.2.2 (ed_gV ed_w2_233 ed_w2_234 ed_w2_235 ed_w1_4 ed_w2_236) rfl rfl rfl hd_X6_begin ⟨Nat.le_of_ble_eq_true rfl, Nat.le_of_ble_eq_true rfl⟩) (ed_rc (q := (RX6, TX6, 11)) (r := (μ6 0 7 n7q)) hK hM (ed_v7 (by decide) hn7q 7) rfl (ed_e7 cy B 0 n7q _) rfl) rfl hl.1 rfl (Nat.le_of_ble_eq_true rfl) dX8_readStory_83 ⟨Nat.zero_le _, Nat.zero_le _⟩) hS (fun H locs hM hS => ?_)
        obtain ⟨μ9, eμ9, hf⟩ := ed_t_e hf
        have hM : ed_P D cy B μ9 H := by rw [eμ9]; exact hM
        refine lv_iload_n S.1 S.2.1 dX8_readStory_86 rfl (lv_at hl 1 rfl) ?_
        obtain ⟨rfl, rfl⟩ := ed_so hf
        exact ed_ri S hr hlocks hM hS dX8_readStory_87
    · replace hf := ed_in_ c4 hf
      refine lv_bipush (v := (-3)) S.1 S.2.1 dX8_readStory_30 (by decide) ?_
      obtain ⟨rfl, rfl⟩ := ed_so hf
      exact ed_ri S hr hlocks hM hS dX8_readStory_32
  · replace hf := ed_in_ c3 hf
    refine lv_bipush (v := (-100)) S.1 S.2.1 dX8_readStory_13 (by decide) ?_
    refine lv_iload_n S.1 S.2.1 dX8_readStory_15 rfl (lv_at hl 0 rfl) ?_
    refine lv_isub S.1 S.2.1 dX8_readStory_16 ?_
    obtain ⟨rfl, rfl⟩ := ed_so hf
    exact ed_ri S hr hlocks hM hS dX8_readStory_17
set_option maxHeartbeats 4000000 in
set_option maxRecDepth 100000 in
theorem c_X8_release (l : Launch) (D : va_G) (cy : Nat → ClassId) (B : Nat) (x1 : Int32) (μ : ed_CM) (r : Int32) (μ' : ed_CM) (hf : f_X8_release x1 μ = some (r, μ')) :
    Met l yX8_release wsX8_release rmX8_release (ed_pC D cy (ed_P D cy B μ) [.ref (B + ed_oF 7 14 0), .int x1]) (ed_qI (ed_A B) (ed_P D cy B μ') r) 0 0 (ed_A B) := by
  refine Met.ofW (cc := cX8_release) (maxL := 3) (ret := (some .int)) (by decide) rfl ?_
  intro p e s m args below meth c s₁ B0 hml hv
  obtain ⟨rfl, hM, hK⟩ := hv
  have S : CallFix p m c cX8_release 3 s _ ed_ws RX8 := ⟨B0.exec, B0.bytes, hml, findClass_of_methodNamed B0.named, fun w hw => atoms_spec (ws := wsX8_release) B0.pre w (List.mem_cons_of_mem _ hw)⟩
  have hr := B0.returns
  have hlocks := B0.notSynchronized
  have hS : va_S (ed_A B) s.heap s.heap [] := va_S.rf
  have hl := lv_entry ([.ref (B + ed_oF 7 14 0), .int x1]) (n := 3) (Nat.le_of_ble_eq_true rfl)
  rw [lg_entry_eq]
  generalize (lg_sl ([.ref (B + ed_oF 7 14 0), .int x1]) ++ List.replicate (3 - (lg_sl ([.ref (B + ed_oF 7 14 0), .int x1])).length) Slot.unset).toArray = ls at hl ⊢
  have hl : lv_has ls 3 [(0, .ref (B + ed_oF 7 14 0)), (1, .int x1)] := hl
  unfold f_X8_release at hf
  refine lv_aload_n S.1 S.2.1 dX8_release_0 rfl (lv_at hl 0 rfl) ?_
  refine ed_get (r := (μ 7 14 0)) S ed_uX8 hK hM ed_v14 rfl (ed_e14 cy B 7 0 _) rfl 0 (by decide) ed_w2_70 rfl rfl dX8_release_1 ?_
  refine lv_iload_n S.1 S.2.1 dX8_release_4 rfl (lv_at hl 1 rfl) ?_
  obtain ⟨o1, hq1, hf⟩ := ed_b_e hf
  refine ed_kA (ed_rV S hK (ed_eta hM) (c_X5_storyAt _ D cy B μ 0 (by decide) x1 (μ 0) o1 hq1) (cwV 1 S.2.2.2.2 (ed_gV ed_w2_232 ed_w2_130 ed_w2_131 ed_w1_2 ed_w2_132) rfl rfl rfl hd_X5_storyAt ⟨Nat.le_of_ble_eq_true rfl, Nat.le_of_ble_eq_true rfl⟩) (ed_rc (q := (RX5, TX5, 11)) (r := (μ 0 0 0)) hK hM (ed_v0 (by decide) 0) rfl (ed_e0 cy B 0 0 _) rfl) rfl hl.1 rfl (Nat.le_of_ble_eq_true rfl) dX8_release_5 ⟨Nat.zero_le _, Nat.zero_le _⟩) hS (fun H locs hM hS => ?_)
  have hM : ed_P D cy B μ H := by rw [← ed_sJ_eta μ 0]; exact hM
  cases o1 with
  | none =>
    dsimp only at hf
    refine W.eq (g2 := F0 m 8 ls (.null :: [])) rfl ?_
    refine lv_astore_nN (lv' := [(2, .null), (0, .ref (B + ed_oF 7 14 0)), (1, .int x1)]) S.1 S.2.1 dX8_release_8 rfl hl (by decide) rfl (fun ls hl => ?_)
    refine lv_aload_nN S.1 S.2.1 dX8_release_9 rfl (lv_at hl 0 rfl) ?_
    refine lv_ifnonnullN S.1 S.2.1 dX8_release_10 ?_
    refine lv_iconst (v := (-1)) S.1 S.2.1 dX8_release_13 (by decide) ?_
    obtain ⟨rfl, rfl⟩ := ed_so hf
    exact ed_ri S hr hlocks hM hS dX8_release_14
  | some n1q =>
    dsimp only at hf
    obtain ⟨hn1q, hf⟩ := ed_g_e hf
    refine W.eq (g2 := F0 m 8 ls (.ref (B + ed_oF 0 7 n1q) :: [])) rfl ?_
    refine lv_astore_n (lv' := [(2, .ref (B + ed_oF 0 7 n1q)), (0, .ref (B + ed_oF 7 14 0)), (1, .int x1)]) S.1 S.2.1 dX8_release_8 rfl hl (by decide) rfl (fun ls hl => ?_)
    refine lv_aload_n S.1 S.2.1 dX8_release_9 rfl (lv_at hl 0 rfl) ?_
    refine lv_ifnonnull (tgt := 15) S.1 S.2.1 dX8_release_10 (by decide) ?_
    refine lv_aload_n S.1 S.2.1 dX8_release_15 rfl (lv_at hl 0 rfl) ?_
    refine ed_get (r := (μ 0 7 n1q)) S ed_uX6 hK hM (ed_v7 (by decide) hn1q 7) rfl (ed_e7 cy B 0 n1q _) rfl 6 (by decide) ed_w1_70 rfl rfl dX8_release_16 ?_
    refine lv_if_eq (tgt := 25) S.1 S.2.1 dX8_release_19 (by decide) (fun c2 => ?_) (fun c2 => ?_)
    · replace hf := ed_ip c2 hf
      refine lv_aload_n S.1 S.2.1 dX8_release_25 rfl (lv_at hl 1 rfl) ?_
      refine ed_get (r := (μ 7 14 0)) S ed_uX8 hK hM ed_v14 rfl (ed_e14 cy B 7 0 _) rfl 4 (by decide) ed_w2_74 rfl rfl dX8_release_26 ?_
      refine lv_aload_n S.1 S.2.1 dX8_release_29 rfl (lv_at hl 1 rfl) ?_
      refine ed_get (r := (μ 7 14 0)) S ed_uX8 hK hM ed_v14 rfl (ed_e14 cy B 7 0 _) rfl 0 (by decide) ed_w2_70 rfl rfl dX8_release_30 ?_
      obtain ⟨μ3, hq3, hf⟩ := ed_b_e hf
      refine ed_kV (ed_rV S hK hM (c_X2_remember _ D cy B 0 (by decide) μ μ3 hq3) (cwV 1 S.2.2.2.2 (ed_gV ed_w2_97 ed_w2_98 ed_w2_99 ed_w1_8 ed_w2_100) rfl rfl rfl hd_X2_remember ⟨Nat.le_of_ble_eq_true rfl, Nat.le_of_ble_eq_true rfl⟩) (ed_rc (q := (RX2, TX2, 2)) (r := (μ 7 15 0)) hK hM ed_v15 rfl (ed_e15 cy B 7 0 _) rfl) rfl hl.1 rfl (Nat.le_of_ble_eq_true rfl) dX8_release_33 ⟨Nat.zero_le _, Nat.zero_le _⟩) hS (fun H locs hM hS => ?_)
      refine lv_aload_n S.1 S.2.1 dX8_release_36 rfl (lv_at hl 0 rfl) ?_
      refine lv_iconst (v := 1) S.1 S.2.1 dX8_release_37 (by decide) ?_
      refine ed_put (j := 0) S ed_uX6 tyX6 tyX6_ok nmX6 hK (ed_eta hM) hS (ed_v7 (by decide) hn1q 7) (ed_e7 cy B 0 n1q _) rfl 6 (by decide) ed_w1_70 rfl rfl rfl rfl (Nat.le_of_ble_eq_true rfl) (ed_u7_6 cy B 0 n1q _ _) dX8_release_38 (fun H locs hM hS => ?_)
      obtain ⟨μ4, eμ4, hf⟩ := ed_t_e hf
      have hM : ed_P D cy B μ4 H := by rw [eμ4]; exact hM
      refine lv_aload_n S.1 S.2.1 dX8_release_41 rfl (lv_at hl 1 rfl) ?_
      refine ed_get (r := (μ4 7 14 0)) S ed_uX8 hK hM ed_v14 rfl (ed_e14 cy B 7 0 _) rfl 0 (by decide) ed_w2_70 rfl rfl dX8_release_42 ?_
      refine lv_aload_n S.1 S.2.1 dX8_release_45 rfl (lv_at hl 0 rfl) ?_
      refine ed_get (r := (μ4 0 7 n1q)) S ed_uX6 hK hM (ed_v7 (by decide) hn1q 7) rfl (ed_e7 cy B 0 n1q _) rfl 0 (by decide) ed_w1_57 rfl rfl dX8_release_46 ?_
      obtain ⟨r5, hq5, hf⟩ := ed_b_e hf
      refine ed_kI (ed_rV S hK (ed_eta hM) (c_X5_clientsFor _ D cy B μ4 0 (by decide) (μ4 0 7 n1q 0) (μ4 0) r5 hq5) (cwV 1 S.2.2.2.2 (ed_gV ed_w3_223 ed_w3_224 ed_w3_225 ed_w1_2 ed_w3_226) rfl rfl rfl hd_X5_clientsFor ⟨Nat.le_of_ble_eq_true rfl, Nat.le_of_ble_eq_true rfl⟩) (ed_rc (q := (RX5, TX5, 11)) (r := (μ4 0 0 0)) hK hM (ed_v0 (by decide) 0) rfl (ed_e0 cy B 0 0 _) rfl) rfl hl.1 rfl (Nat.le_of_ble_eq_true rfl) dX8_release_49 ⟨Nat.zero_le _, Nat.zero_le _⟩) hS (fun H locs hM hS => ?_)
      have hM : ed_P D cy B μ4 H := by rw [← ed_sJ_eta μ4 0]; exact hM
      obtain ⟨rfl, rfl⟩ := ed_so hf
      exact ed_ri S hr hlocks hM hS dX8_release_52
    · replace hf := ed_in_ c2 hf
      refine lv_bipush (v := (-4)) S.1 S.2.1 dX8_release_22 (by decide) ?_
      obtain ⟨rfl, rfl⟩ := ed_so hf
      exact ed_ri S hr hlocks hM hS dX8_release_24
set_option maxHeartbeats 4000000 in
set_option maxRecDepth 100000 in
theorem c_X8_hold (l : Launch) (D : va_G) (cy : Nat → ClassId) (B : Nat) (x1 : Int32) (μ : ed_CM) (r : Int32) (μ' : ed_CM) (hf : f_X8_hold x1 μ = some (r, μ')) :
    Met l yX8_hold wsX8_hold rmX8_hold (ed_pC D cy (ed_P D cy B μ) [.ref (B + ed_oF 7 14 0), .int x1]) (ed_qI (ed_A B) (ed_P D cy B μ') r) 0 0 (ed_A B) := by
  refine Met.ofW (cc := cX8_hold) (maxL := 3) (ret := (some .int)) (by decide) rfl ?_
  intro p e s m args below meth c s₁ B0 hml hv
  obtain ⟨rfl, hM, hK⟩ := hv
  have S : CallFix p m c cX8_hold 3 s _ ed_ws RX8 := ⟨B0.exec, B0.bytes, hml, findClass_of_methodNamed B0.named, fun w hw => atoms_spec (ws := wsX8_hold) B0.pre w (List.mem_cons_of_mem _ hw)⟩
  have hr := B0.returns
  have hlocks := B0.notSynchronized
  have hS : va_S (ed_A B) s.heap s.heap [] := va_S.rf
  have hl := lv_entry ([.ref (B + ed_oF 7 14 0), .int x1]) (n := 3) (Nat.le_of_ble_eq_true rfl)
  rw [lg_entry_eq]
  generalize (lg_sl ([.ref (B + ed_oF 7 14 0), .int x1]) ++ List.replicate (3 - (lg_sl ([.ref (B + ed_oF 7 14 0), .int x1])).length) Slot.unset).toArray = ls at hl ⊢
  have hl : lv_has ls 3 [(0, .ref (B + ed_oF 7 14 0)), (1, .int x1)] := hl
  unfold f_X8_hold at hf
  refine lv_aload_n S.1 S.2.1 dX8_hold_0 rfl (lv_at hl 0 rfl) ?_
  refine ed_get (r := (μ 7 14 0)) S ed_uX8 hK hM ed_v14 rfl (ed_e14 cy B 7 0 _) rfl 0 (by decide) ed_w2_70 rfl rfl dX8_hold_1 ?_
  refine lv_iload_n S.1 S.2.1 dX8_hold_4 rfl (lv_at hl 1 rfl) ?_
  obtain ⟨o1, hq1, hf⟩ := ed_b_e hf
  refine ed_kA (ed_rV S hK (ed_eta hM) (c_X5_storyAt _ D cy B μ 0 (by decide) x1 (μ 0) o1 hq1) (cwV 1 S.2.2.2.2 (ed_gV ed_w2_232 ed_w2_130 ed_w2_131 ed_w1_2 ed_w2_132) rfl rfl rfl hd_X5_storyAt ⟨Nat.le_of_ble_eq_true rfl, Nat.le_of_ble_eq_true rfl⟩) (ed_rc (q := (RX5, TX5, 11)) (r := (μ 0 0 0)) hK hM (ed_v0 (by decide) 0) rfl (ed_e0 cy B 0 0 _) rfl) rfl hl.1 rfl (Nat.le_of_ble_eq_true rfl) dX8_hold_5 ⟨Nat.zero_le _, Nat.zero_le _⟩) hS (fun H locs hM hS => ?_)
  have hM : ed_P D cy B μ H := by rw [← ed_sJ_eta μ 0]; exact hM
  cases o1 with
  | none =>
    dsimp only at hf
    refine W.eq (g2 := F0 m 8 ls (.null :: [])) rfl ?_
    refine lv_astore_nN (lv' := [(2, .null), (0, .ref (B + ed_oF 7 14 0)), (1, .int x1)]) S.1 S.2.1 dX8_hold_8 rfl hl (by decide) rfl (fun ls hl => ?_)
    refine lv_aload_nN S.1 S.2.1 dX8_hold_9 rfl (lv_at hl 0 rfl) ?_
    refine lv_ifnonnullN S.1 S.2.1 dX8_hold_10 ?_
    refine lv_iconst (v := (-1)) S.1 S.2.1 dX8_hold_13 (by decide) ?_
    obtain ⟨rfl, rfl⟩ := ed_so hf
    exact ed_ri S hr hlocks hM hS dX8_hold_14
  | some n1q =>
    dsimp only at hf
    obtain ⟨hn1q, hf⟩ := ed_g_e hf
    refine W.eq (g2 := F0 m 8 ls (.ref (B + ed_oF 0 7 n1q) :: [])) rfl ?_
    refine lv_astore_n (lv' := [(2, .ref (B + ed_oF 0 7 n1q)), (0, .ref (B + ed_oF 7 14 0)), (1, .int x1)]) S.1 S.2.1 dX8_hold_8 rfl hl (by decide) rfl (fun ls hl => ?_)
    refine lv_aload_n S.1 S.2.1 dX8_hold_9 rfl (lv_at hl 0 rfl) ?_
    refine lv_ifnonnull (tgt := 15) S.1 S.2.1 dX8_hold_10 (by decide) ?_
    refine lv_aload_n S.1 S.2.1 dX8_hold_15 rfl (lv_at hl 0 rfl) ?_
    refine ed_get (r := (μ 0 7 n1q)) S ed_uX6 hK hM (ed_v7 (by decide) hn1q 7) rfl (ed_e7 cy B 0 n1q _) rfl 6 (by decide) ed_w1_70 rfl rfl dX8_hold_16 ?_
    refine lv_iconst (v := 1) S.1 S.2.1 dX8_hold_19 (by decide) ?_
    refine lv_icmp_eq (tgt := 26) S.1 S.2.1 dX8_hold_20 (by decide) (fun c2 => ?_) (fun c2 => ?_)
    · replace hf := ed_ip c2 hf
      refine lv_aload_n S.1 S.2.1 dX8_hold_26 rfl (lv_at hl 1 rfl) ?_
      refine ed_get (r := (μ 7 14 0)) S ed_uX8 hK hM ed_v14 rfl (ed_e14 cy B 7 0 _) rfl 4 (by decide) ed_w2_74 rfl rfl dX8_hold_27 ?_
      refine lv_aload_n S.1 S.2.1 dX8_hold_30 rfl (lv_at hl 1 rfl) ?_
      refine ed_get (r := (μ 7 14 0)) S ed_uX8 hK hM ed_v14 rfl (ed_e14 cy B 7 0 _) rfl 0 (by decide) ed_w2_70 rfl rfl dX8_hold_31 ?_
      obtain ⟨μ3, hq3, hf⟩ := ed_b_e hf
      refine ed_kV (ed_rV S hK hM (c_X2_remember _ D cy B 0 (by decide) μ μ3 hq3) (cwV 1 S.2.2.2.2 (ed_gV ed_w2_97 ed_w2_98 ed_w2_99 ed_w1_8 ed_w2_100) rfl rfl rfl hd_X2_remember ⟨Nat.le_of_ble_eq_true rfl, Nat.le_of_ble_eq_true rfl⟩) (ed_rc (q := (RX2, TX2, 2)) (r := (μ 7 15 0)) hK hM ed_v15 rfl (ed_e15 cy B 7 0 _) rfl) rfl hl.1 rfl (Nat.le_of_ble_eq_true rfl) dX8_hold_34 ⟨Nat.zero_le _, Nat.zero_le _⟩) hS (fun H locs hM hS => ?_)
      refine lv_aload_n S.1 S.2.1 dX8_hold_37 rfl (lv_at hl 0 rfl) ?_
      refine lv_iconst (v := 0) S.1 S.2.1 dX8_hold_38 (by decide) ?_
      refine ed_put (j := 0) S ed_uX6 tyX6 tyX6_ok nmX6 hK (ed_eta hM) hS (ed_v7 (by decide) hn1q 7) (ed_e7 cy B 0 n1q _) rfl 6 (by decide) ed_w1_70 rfl rfl rfl rfl (Nat.le_of_ble_eq_true rfl) (ed_u7_6 cy B 0 n1q _ _) dX8_hold_39 (fun H locs hM hS => ?_)
      obtain ⟨μ4, eμ4, hf⟩ := ed_t_e hf
      have hM : ed_P D cy B μ4 H := by rw [eμ4]; exact hM
      refine lv_aload_n S.1 S.2.1 dX8_hold_42 rfl (lv_at hl 0 rfl) ?_
      refine ed_get (r := (μ4 0 7 n1q)) S ed_uX6 hK hM (ed_v7 (by decide) hn1q 7) rfl (ed_e7 cy B 0 n1q _) rfl 3 (by decide) ed_w1_64 rfl rfl dX8_hold_43 ?_
      refine lv_aload_n S.1 S.2.1 dX8_hold_46 rfl (lv_at hl 1 rfl) ?_
      refine ed_get (r := (μ4 7 14 0)) S ed_uX8 hK hM ed_v14 rfl (ed_e14 cy B 7 0 _) rfl 0 (by decide) ed_w2_70 rfl rfl dX8_hold_47 ?_
      refine ed_get (r := (μ4 0 0 0)) S ed_uX5 hK hM (ed_v0 (by decide) 0) rfl (ed_e0 cy B 0 0 _) rfl 0 (by decide) ed_w1_212 rfl rfl dX8_hold_50 ?_
      refine lv_isub S.1 S.2.1 dX8_hold_53 ?_
      refine lv_iconst (v := 0) S.1 S.2.1 dX8_hold_54 (by decide) ?_
      refine ed_max S hl.1 ed_w3_231 ed_w3_232 ed_w1_10 ed_w3_233 (Nat.le_of_ble_eq_true rfl) (Nat.le_of_ble_eq_true rfl) ⟨Nat.zero_le _, Nat.zero_le _⟩ dX8_hold_55 ?_
      obtain ⟨rfl, rfl⟩ := ed_so hf
      exact ed_ri S hr hlocks hM hS dX8_hold_58
    · replace hf := ed_in_ c2 hf
      refine lv_bipush (v := (-4)) S.1 S.2.1 dX8_hold_23 (by decide) ?_
      obtain ⟨rfl, rfl⟩ := ed_so hf
      exact ed_ri S hr hlocks hM hS dX8_hold_25
set_option maxHeartbeats 4000000 in
set_option maxRecDepth 100000 in
theorem c_X8_correct (l : Launch) (D : va_G) (cy : Nat → ClassId) (B : Nat) (x1 : Int32) (μ : ed_CM) (r : Int32) (μ' : ed_CM) (hf : f_X8_correct x1 μ = some (r, μ')) :
    Met l yX8_correct wsX8_correct rmX8_correct (ed_pC D cy (ed_P D cy B μ) [.ref (B + ed_oF 7 14 0), .int x1]) (ed_qI (ed_A B) (ed_P D cy B μ') r) 0 0 (ed_A B) := by
  refine Met.ofW (cc := cX8_correct) (maxL := 3) (ret := (some .int)) (by decide) rfl ?_
  intro p e s m args below meth c s₁ B0 hml hv
  obtain ⟨rfl, hM, hK⟩ := hv
  have S : CallFix p m c cX8_correct 3 s _ ed_ws RX8 := ⟨B0.exec, B0.bytes, hml, findClass_of_methodNamed B0.named, fun w hw => atoms_spec (ws := wsX8_correct) B0.pre w (List.mem_cons_of_mem _ hw)⟩
  have hr := B0.returns
  have hlocks := B0.notSynchronized
  have hS : va_S (ed_A B) s.heap s.heap [] := va_S.rf
  have hl := lv_entry ([.ref (B + ed_oF 7 14 0), .int x1]) (n := 3) (Nat.le_of_ble_eq_true rfl)
  rw [lg_entry_eq]
  generalize (lg_sl ([.ref (B + ed_oF 7 14 0), .int x1]) ++ List.replicate (3 - (lg_sl ([.ref (B + ed_oF 7 14 0), .int x1])).length) Slot.unset).toArray = ls at hl ⊢
  have hl : lv_has ls 3 [(0, .ref (B + ed_oF 7 14 0)), (1, .int x1)] := hl
  unfold f_X8_correct at hf
  refine lv_aload_n S.1 S.2.1 dX8_correct_0 rfl (lv_at hl 0 rfl) ?_
  refine ed_get (r := (μ 7 14 0)) S ed_uX8 hK hM ed_v14 rfl (ed_e14 cy B 7 0 _) rfl 0 (by decide) ed_w2_70 rfl rfl dX8_correct_1 ?_
  refine lv_iload_n S.1 S.2.1 dX8_correct_4 rfl (lv_at hl 1 rfl) ?_
  obtain ⟨o1, hq1, hf⟩ := ed_b_e hf
  refine ed_kA (ed_rV S hK (ed_eta hM) (c_X5_storyAt _ D cy B μ 0 (by decide) x1 (μ 0) o1 hq1) (cwV 1 S.2.2.2.2 (ed_gV ed_w2_232 ed_w2_130 ed_w2_131 ed_w1_2 ed_w2_132) rfl rfl rfl hd_X5_storyAt ⟨Nat.le_of_ble_eq_true rfl, Nat.le_of_ble_eq_true rfl⟩) (ed_rc (q := (RX5, TX5, 11)) (r := (μ 0 0 0)) hK hM (ed_v0 (by decide) 0) rfl (ed_e0 cy B 0 0 _) rfl) rfl hl.1 rfl (Nat.le_of_ble_eq_true rfl) dX8_correct_5 ⟨Nat.zero_le _, Nat.zero_le _⟩) hS (fun H locs hM hS => ?_)
  have hM : ed_P D cy B μ H := by rw [← ed_sJ_eta μ 0]; exact hM
  cases o1 with
  | none =>
    dsimp only at hf
    refine W.eq (g2 := F0 m 8 ls (.null :: [])) rfl ?_
    refine lv_astore_nN (lv' := [(2, .null), (0, .ref (B + ed_oF 7 14 0)), (1, .int x1)]) S.1 S.2.1 dX8_correct_8 rfl hl (by decide) rfl (fun ls hl => ?_)
    refine lv_aload_nN S.1 S.2.1 dX8_correct_9 rfl (lv_at hl 0 rfl) ?_
    refine lv_ifnonnullN S.1 S.2.1 dX8_correct_10 ?_
    refine lv_iconst (v := (-1)) S.1 S.2.1 dX8_correct_13 (by decide) ?_
    obtain ⟨rfl, rfl⟩ := ed_so hf
    exact ed_ri S hr hlocks hM hS dX8_correct_14
  | some n1q =>
    dsimp only at hf
    obtain ⟨hn1q, hf⟩ := ed_g_e hf
    refine W.eq (g2 := F0 m 8 ls (.ref (B + ed_oF 0 7 n1q) :: [])) rfl ?_
    refine lv_astore_n (lv' := [(2, .ref (B + ed_oF 0 7 n1q)), (0, .ref (B + ed_oF 7 14 0)), (1, .int x1)]) S.1 S.2.1 dX8_correct_8 rfl hl (by decide) rfl (fun ls hl => ?_)
    refine lv_aload_n S.1 S.2.1 dX8_correct_9 rfl (lv_at hl 0 rfl) ?_
    refine lv_ifnonnull (tgt := 15) S.1 S.2.1 dX8_correct_10 (by decide) ?_
    refine lv_aload_n S.1 S.2.1 dX8_correct_15 rfl (lv_at hl 0 rfl) ?_
    refine ed_get (r := (μ 0 7 n1q)) S ed_uX6 hK hM (ed_v7 (by decide) hn1q 7) rfl (ed_e7 cy B 0 n1q _) rfl 6 (by decide) ed_w1_70 rfl rfl dX8_correct_16 ?_
    refine lv_iconst (v := 2) S.1 S.2.1 dX8_correct_19 (by decide) ?_
    refine lv_icmp_eq (tgt := 26) S.1 S.2.1 dX8_correct_20 (by decide) (fun c2 => ?_) (fun c2 => ?_)
    · replace hf := ed_ip c2 hf
      refine lv_aload_n S.1 S.2.1 dX8_correct_26 rfl (lv_at hl 0 rfl) ?_
      refine ed_get (r := (μ 0 7 n1q)) S ed_uX6 hK hM (ed_v7 (by decide) hn1q 7) rfl (ed_e7 cy B 0 n1q _) rfl 7 (by decide) ed_w1_73 rfl rfl dX8_correct_27 ?_
      refine lv_bipush (v := 6) S.1 S.2.1 dX8_correct_30 (by decide) ?_
      refine lv_icmp_lt (tgt := 38) S.1 S.2.1 dX8_correct_32 (by decide) (fun c3 => ?_) (fun c3 => ?_)
      · replace hf := ed_ip c3 hf
        refine lv_aload_n S.1 S.2.1 dX8_correct_38 rfl (lv_at hl 1 rfl) ?_
        refine ed_get (r := (μ 7 14 0)) S ed_uX8 hK hM ed_v14 rfl (ed_e14 cy B 7 0 _) rfl 4 (by decide) ed_w2_74 rfl rfl dX8_correct_39 ?_
        refine lv_aload_n S.1 S.2.1 dX8_correct_42 rfl (lv_at hl 1 rfl) ?_
        refine ed_get (r := (μ 7 14 0)) S ed_uX8 hK hM ed_v14 rfl (ed_e14 cy B 7 0 _) rfl 0 (by decide) ed_w2_70 rfl rfl dX8_correct_43 ?_
        obtain ⟨μ4, hq4, hf⟩ := ed_b_e hf
        refine ed_kV (ed_rV S hK hM (c_X2_remember _ D cy B 0 (by decide) μ μ4 hq4) (cwV 1 S.2.2.2.2 (ed_gV ed_w2_97 ed_w2_98 ed_w2_99 ed_w1_8 ed_w2_100) rfl rfl rfl hd_X2_remember ⟨Nat.le_of_ble_eq_true rfl, Nat.le_of_ble_eq_true rfl⟩) (ed_rc (q := (RX2, TX2, 2)) (r := (μ 7 15 0)) hK hM ed_v15 rfl (ed_e15 cy B 7 0 _) rfl) rfl hl.1 rfl (Nat.le_of_ble_eq_true rfl) dX8_correct_46 ⟨Nat.zero_le _, Nat.zero_le _⟩) hS (fun H locs hM hS => ?_)
        refine lv_aload_n S.1 S.2.1 dX8_correct_49 rfl (lv_at hl 0 rfl) ?_
        refine lv_aload_n S.1 S.2.1 dX8_correct_50 rfl (lv_at hl 1 rfl) ?_
        refine ed_get (r := (μ4 7 14 0)) S ed_uX8 hK hM ed_v14 rfl (ed_e14 cy B 7 0 _) rfl 0 (by decide) ed_w2_70 rfl rfl dX8_correct_51 ?_
        refine ed_get (r := (μ4 0 0 0)) S ed_uX5 hK hM (ed_v0 (by decide) 0) rfl (ed_e0 cy B 0 0 _) rfl 0 (by decide) ed_w1_212 rfl rfl dX8_correct_54 ?_
        obtain ⟨σ5, hq5, hf⟩ := ed_b_e hf
        refine ed_kV (ed_rV S hK (ed_eta hM) (c_X6_addCorrection _ D cy B μ4 0 (by decide) n1q hn1q (μ4 0 0 0 0) (μ4 0) σ5 hq5) (cwV 1 S.2.2.2.2 (ed_gV ed_w3_238 ed_w3_239 ed_w4_0 ed_w1_4 ed_w4_1) rfl rfl rfl hd_X6_addCorrection ⟨Nat.le_of_ble_eq_true rfl, Nat.le_of_ble_eq_true rfl⟩) (ed_rc (q := (RX6, TX6, 11)) (r := (μ4 0 7 n1q)) hK hM (ed_v7 (by decide) hn1q 7) rfl (ed_e7 cy B 0 n1q _) rfl) rfl hl.1 rfl (Nat.le_of_ble_eq_true rfl) dX8_correct_57 ⟨Nat.zero_le _, Nat.zero_le _⟩) hS (fun H locs hM hS => ?_)
        obtain ⟨μ6, eμ6, hf⟩ := ed_t_e hf
        have hM : ed_P D cy B μ6 H := by rw [eμ6]; exact hM
        refine lv_aload_n S.1 S.2.1 dX8_correct_60 rfl (lv_at hl 1 rfl) ?_
        refine ed_get (r := (μ6 7 14 0)) S ed_uX8 hK hM ed_v14 rfl (ed_e14 cy B 7 0 _) rfl 0 (by decide) ed_w2_70 rfl rfl dX8_correct_61 ?_
        refine ed_get (r := (μ6 0 0 0)) S ed_uX5 hK hM (ed_v0 (by decide) 0) rfl (ed_e0 cy B 0 0 _) rfl 6 (by decide) ed_w1_224 rfl rfl dX8_correct_64 ?_
        refine lv_iconst (v := 5) S.1 S.2.1 dX8_correct_67 (by decide) ?_
        refine lv_iload_n S.1 S.2.1 dX8_correct_68 rfl (lv_at hl 2 rfl) ?_
        refine lv_bipush (v := (-5)) S.1 S.2.1 dX8_correct_69 (by decide) ?_
        refine lv_aload_n S.1 S.2.1 dX8_correct_71 rfl (lv_at hl 1 rfl) ?_
        refine ed_get (r := (μ6 7 14 0)) S ed_uX8 hK hM ed_v14 rfl (ed_e14 cy B 7 0 _) rfl 0 (by decide) ed_w2_70 rfl rfl dX8_correct_72 ?_
        refine ed_get (r := (μ6 0 0 0)) S ed_uX5 hK hM (ed_v0 (by decide) 0) rfl (ed_e0 cy B 0 0 _) rfl 0 (by decide) ed_w1_212 rfl rfl dX8_correct_75 ?_
        obtain ⟨σ7, hq7, hf⟩ := ed_b_e hf
        refine ed_kV (ed_rV S hK (ed_eta hM) (c_X3_add _ D cy B μ6 0 (by decide) 5 x1 (-5) (μ6 0 0 0 0) (μ6 0) σ7 hq7) (cwV 4 S.2.2.2.2 (ed_gV ed_w4_2 ed_w3_18 ed_w3_19 ed_w1_3 ed_w3_20) rfl rfl rfl hd_X3_add ⟨Nat.le_of_ble_eq_true rfl, Nat.le_of_ble_eq_true rfl⟩) (ed_rc (q := (RX3, TX3, 3)) (r := (μ6 0 1 0)) hK hM (ed_v0 (by decide) 1) rfl (ed_e1 cy B 0 0 _) rfl) rfl hl.1 rfl (Nat.le_of_ble_eq_true rfl) dX8_correct_78 ⟨Nat.zero_le _, Nat.zero_le _⟩) hS (fun H locs hM hS => ?_)
        obtain ⟨μ8, eμ8, hf⟩ := ed_t_e hf
        have hM : ed_P D cy B μ8 H := by rw [eμ8]; exact hM
        refine lv_aload_n S.1 S.2.1 dX8_correct_81 rfl (lv_at hl 0 rfl) ?_
        refine ed_get (r := (μ8 0 7 n1q)) S ed_uX6 hK hM (ed_v7 (by decide) hn1q 7) rfl (ed_e7 cy B 0 n1q _) rfl 7 (by decide) ed_w1_73 rfl rfl dX8_correct_82 ?_
        obtain ⟨rfl, rfl⟩ := ed_so hf
        exact ed_ri S hr hlocks hM hS dX8_correct_85
      · replace hf := ed_in_ c3 hf
        refine lv_bipush (v := (-3)) S.1 S.2.1 dX8_correct_35 (by decide) ?_
        obtain ⟨rfl, rfl⟩ := ed_so hf
        exact ed_ri S hr hlocks hM hS dX8_correct_37
    · replace hf := ed_in_ c2 hf
      refine lv_bipush (v := (-4)) S.1 S.2.1 dX8_correct_23 (by decide) ?_
      obtain ⟨rfl, rfl⟩ := ed_so hf
      exact ed_ri S hr hlocks hM hS dX8_correct_25
set_option maxHeartbeats 4000000 in
set_option maxRecDepth 100000 in
theorem c_X8_kill (l : Launch) (D : va_G) (cy : Nat → ClassId) (B : Nat) (x1 : Int32) (μ : ed_CM) (r : Int32) (μ' : ed_CM) (hf : f_X8_kill x1 μ = some (r, μ')) :
    Met l yX8_kill wsX8_kill rmX8_kill (ed_pC D cy (ed_P D cy B μ) [.ref (B + ed_oF 7 14 0), .int x1]) (ed_qI (ed_A B) (ed_P D cy B μ') r) 0 0 (ed_A B) := by
  refine Met.ofW (cc := cX8_kill) (maxL := 3) (ret := (some .int)) (by decide) rfl ?_
  intro p e s m args below meth c s₁ B0 hml hv
  obtain ⟨rfl, hM, hK⟩ := hv
  have S : CallFix p m c cX8_kill 3 s _ ed_ws RX8 := ⟨B0.exec, B0.bytes, hml, findClass_of_methodNamed B0.named, fun w hw => atoms_spec (ws := wsX8_kill) B0.pre w (List.mem_cons_of_mem _ hw)⟩
  have hr := B0.returns
  have hlocks := B0.notSynchronized
  have hS : va_S (ed_A B) s.heap s.heap [] := va_S.rf
  have hl := lv_entry ([.ref (B + ed_oF 7 14 0), .int x1]) (n := 3) (Nat.le_of_ble_eq_true rfl)
  rw [lg_entry_eq]
  generalize (lg_sl ([.ref (B + ed_oF 7 14 0), .int x1]) ++ List.replicate (3 - (lg_sl ([.ref (B + ed_oF 7 14 0), .int x1])).length) Slot.unset).toArray = ls at hl ⊢
  have hl : lv_has ls 3 [(0, .ref (B + ed_oF 7 14 0)), (1, .int x1)] := hl
  unfold f_X8_kill at hf
  refine lv_aload_n S.1 S.2.1 dX8_kill_0 rfl (lv_at hl 0 rfl) ?_
  refine ed_get (r := (μ 7 14 0)) S ed_uX8 hK hM ed_v14 rfl (ed_e14 cy B 7 0 _) rfl 0 (by decide) ed_w2_70 rfl rfl dX8_kill_1 ?_
  refine lv_iload_n S.1 S.2.1 dX8_kill_4 rfl (lv_at hl 1 rfl) ?_
  obtain ⟨o1, hq1, hf⟩ := ed_b_e hf
  refine ed_kA (ed_rV S hK (ed_eta hM) (c_X5_storyAt _ D cy B μ 0 (by decide) x1 (μ 0) o1 hq1) (cwV 1 S.2.2.2.2 (ed_gV ed_w2_232 ed_w2_130 ed_w2_131 ed_w1_2 ed_w2_132) rfl rfl rfl hd_X5_storyAt ⟨Nat.le_of_ble_eq_true rfl, Nat.le_of_ble_eq_true rfl⟩) (ed_rc (q := (RX5, TX5, 11)) (r := (μ 0 0 0)) hK hM (ed_v0 (by decide) 0) rfl (ed_e0 cy B 0 0 _) rfl) rfl hl.1 rfl (Nat.le_of_ble_eq_true rfl) dX8_kill_5 ⟨Nat.zero_le _, Nat.zero_le _⟩) hS (fun H locs hM hS => ?_)
  have hM : ed_P D cy B μ H := by rw [← ed_sJ_eta μ 0]; exact hM
  cases o1 with
  | none =>
    dsimp only at hf
    refine W.eq (g2 := F0 m 8 ls (.null :: [])) rfl ?_
    refine lv_astore_nN (lv' := [(2, .null), (0, .ref (B + ed_oF 7 14 0)), (1, .int x1)]) S.1 S.2.1 dX8_kill_8 rfl hl (by decide) rfl (fun ls hl => ?_)
    refine lv_aload_nN S.1 S.2.1 dX8_kill_9 rfl (lv_at hl 0 rfl) ?_
    refine lv_ifnonnullN S.1 S.2.1 dX8_kill_10 ?_
    refine lv_iconst (v := (-1)) S.1 S.2.1 dX8_kill_13 (by decide) ?_
    obtain ⟨rfl, rfl⟩ := ed_so hf
    exact ed_ri S hr hlocks hM hS dX8_kill_14
  | some n1q =>
    dsimp only at hf
    obtain ⟨hn1q, hf⟩ := ed_g_e hf
    refine W.eq (g2 := F0 m 8 ls (.ref (B + ed_oF 0 7 n1q) :: [])) rfl ?_
    refine lv_astore_n (lv' := [(2, .ref (B + ed_oF 0 7 n1q)), (0, .ref (B + ed_oF 7 14 0)), (1, .int x1)]) S.1 S.2.1 dX8_kill_8 rfl hl (by decide) rfl (fun ls hl => ?_)
    refine lv_aload_n S.1 S.2.1 dX8_kill_9 rfl (lv_at hl 0 rfl) ?_
    refine lv_ifnonnull (tgt := 15) S.1 S.2.1 dX8_kill_10 (by decide) ?_
    refine lv_aload_n S.1 S.2.1 dX8_kill_15 rfl (lv_at hl 0 rfl) ?_
    refine ed_get (r := (μ 0 7 n1q)) S ed_uX6 hK hM (ed_v7 (by decide) hn1q 7) rfl (ed_e7 cy B 0 n1q _) rfl 6 (by decide) ed_w1_70 rfl rfl dX8_kill_16 ?_
    refine lv_iconst (v := 3) S.1 S.2.1 dX8_kill_19 (by decide) ?_
    refine lv_icmp_ne (tgt := 26) S.1 S.2.1 dX8_kill_20 (by decide) (fun c2 => ?_) (fun c2 => ?_)
    · replace hf := ed_in_ c2 hf
      refine lv_aload_n S.1 S.2.1 dX8_kill_26 rfl (lv_at hl 1 rfl) ?_
      refine ed_get (r := (μ 7 14 0)) S ed_uX8 hK hM ed_v14 rfl (ed_e14 cy B 7 0 _) rfl 4 (by decide) ed_w2_74 rfl rfl dX8_kill_27 ?_
      refine lv_aload_n S.1 S.2.1 dX8_kill_30 rfl (lv_at hl 1 rfl) ?_
      refine ed_get (r := (μ 7 14 0)) S ed_uX8 hK hM ed_v14 rfl (ed_e14 cy B 7 0 _) rfl 0 (by decide) ed_w2_70 rfl rfl dX8_kill_31 ?_
      obtain ⟨μ3, hq3, hf⟩ := ed_b_e hf
      refine ed_kV (ed_rV S hK hM (c_X2_remember _ D cy B 0 (by decide) μ μ3 hq3) (cwV 1 S.2.2.2.2 (ed_gV ed_w2_97 ed_w2_98 ed_w2_99 ed_w1_8 ed_w2_100) rfl rfl rfl hd_X2_remember ⟨Nat.le_of_ble_eq_true rfl, Nat.le_of_ble_eq_true rfl⟩) (ed_rc (q := (RX2, TX2, 2)) (r := (μ 7 15 0)) hK hM ed_v15 rfl (ed_e15 cy B 7 0 _) rfl) rfl hl.1 rfl (Nat.le_of_ble_eq_true rfl) dX8_kill_34 ⟨Nat.zero_le _, Nat.zero_le _⟩) hS (fun H locs hM hS => ?_)
      refine lv_aload_n S.1 S.2.1 dX8_kill_37 rfl (lv_at hl 0 rfl) ?_
      refine lv_iconst (v := 3) S.1 S.2.1 dX8_kill_38 (by decide) ?_
      refine ed_put (j := 0) S ed_uX6 tyX6 tyX6_ok nmX6 hK (ed_eta hM) hS (ed_v7 (by decide) hn1q 7) (ed_e7 cy B 0 n1q _) rfl 6 (by decide) ed_w1_70 rfl rfl rfl rfl (Nat.le_of_ble_eq_true rfl) (ed_u7_6 cy B 0 n1q _ _) dX8_kill_39 (fun H locs hM hS => ?_)
      obtain ⟨μ4, eμ4, hf⟩ := ed_t_e hf
      have hM : ed_P D cy B μ4 H := by rw [eμ4]; exact hM
      refine lv_aload_n S.1 S.2.1 dX8_kill_42 rfl (lv_at hl 0 rfl) ?_
      refine lv_aload_n S.1 S.2.1 dX8_kill_43 rfl (lv_at hl 1 rfl) ?_
      refine ed_get (r := (μ4 7 14 0)) S ed_uX8 hK hM ed_v14 rfl (ed_e14 cy B 7 0 _) rfl 0 (by decide) ed_w2_70 rfl rfl dX8_kill_44 ?_
      refine ed_get (r := (μ4 0 0 0)) S ed_uX5 hK hM (ed_v0 (by decide) 0) rfl (ed_e0 cy B 0 0 _) rfl 0 (by decide) ed_w1_212 rfl rfl dX8_kill_47 ?_
      refine ed_put (j := 0) S ed_uX6 tyX6 tyX6_ok nmX6 hK (ed_eta hM) hS (ed_v7 (by decide) hn1q 7) (ed_e7 cy B 0 n1q _) rfl 10 (by decide) ed_w1_80 rfl rfl rfl rfl (Nat.le_of_ble_eq_true rfl) (ed_u7_10 cy B 0 n1q _ _) dX8_kill_50 (fun H locs hM hS => ?_)
      obtain ⟨μ5, eμ5, hf⟩ := ed_t_e hf
      have hM : ed_P D cy B μ5 H := by rw [eμ5]; exact hM
      refine lv_aload_n S.1 S.2.1 dX8_kill_53 rfl (lv_at hl 1 rfl) ?_
      refine ed_get (r := (μ5 7 14 0)) S ed_uX8 hK hM ed_v14 rfl (ed_e14 cy B 7 0 _) rfl 0 (by decide) ed_w2_70 rfl rfl dX8_kill_54 ?_
      refine ed_get (r := (μ5 0 0 0)) S ed_uX5 hK hM (ed_v0 (by decide) 0) rfl (ed_e0 cy B 0 0 _) rfl 6 (by decide) ed_w1_224 rfl rfl dX8_kill_57 ?_
      refine lv_bipush (v := 6) S.1 S.2.1 dX8_kill_60 (by decide) ?_
      refine lv_iload_n S.1 S.2.1 dX8_kill_62 rfl (lv_at hl 2 rfl) ?_
      refine lv_bipush (v := (-5)) S.1 S.2.1 dX8_kill_63 (by decide) ?_
      refine lv_aload_n S.1 S.2.1 dX8_kill_65 rfl (lv_at hl 1 rfl) ?_
      refine ed_get (r := (μ5 7 14 0)) S ed_uX8 hK hM ed_v14 rfl (ed_e14 cy B 7 0 _) rfl 0 (by decide) ed_w2_70 rfl rfl dX8_kill_66 ?_
      refine ed_get (r := (μ5 0 0 0)) S ed_uX5 hK hM (ed_v0 (by decide) 0) rfl (ed_e0 cy B 0 0 _) rfl 0 (by decide) ed_w1_212 rfl rfl dX8_kill_69 ?_
      obtain ⟨σ6, hq6, hf⟩ := ed_b_e hf
      refine ed_kV (ed_rV S hK (ed_eta hM) (c_X3_add _ D cy B μ5 0 (by decide) 6 x1 (-5) (μ5 0 0 0 0) (μ5 0) σ6 hq6) (cwV 4 S.2.2.2.2 (ed_gV ed_w4_2 ed_w3_18 ed_w3_19 ed_w1_3 ed_w3_20) rfl rfl rfl hd_X3_add ⟨Nat.le_of_ble_eq_true rfl, Nat.le_of_ble_eq_true rfl⟩) (ed_rc (q := (RX3, TX3, 3)) (r := (μ5 0 1 0)) hK hM (ed_v0 (by decide) 1) rfl (ed_e1 cy B 0 0 _) rfl) rfl hl.1 rfl (Nat.le_of_ble_eq_true rfl) dX8_kill_72 ⟨Nat.zero_le _, Nat.zero_le _⟩) hS (fun H locs hM hS => ?_)
      obtain ⟨μ7, eμ7, hf⟩ := ed_t_e hf
      have hM : ed_P D cy B μ7 H := by rw [eμ7]; exact hM
      refine lv_aload_n S.1 S.2.1 dX8_kill_75 rfl (lv_at hl 1 rfl) ?_
      refine ed_get (r := (μ7 7 14 0)) S ed_uX8 hK hM ed_v14 rfl (ed_e14 cy B 7 0 _) rfl 0 (by decide) ed_w2_70 rfl rfl dX8_kill_76 ?_
      refine lv_iload_n S.1 S.2.1 dX8_kill_79 rfl (lv_at hl 2 rfl) ?_
      refine lv_iconst (v := (-1)) S.1 S.2.1 dX8_kill_80 (by decide) ?_
      refine lv_iconst (v := 1) S.1 S.2.1 dX8_kill_81 (by decide) ?_
      obtain ⟨r8, hq8, hf⟩ := ed_b_e hf
      refine ed_kI (ed_rV S hK (ed_eta hM) (c_X5_copiesOf _ D cy B μ7 0 (by decide) x1 (-1) 1 (μ7 0) r8 hq8) (cwV 3 S.2.2.2.2 (ed_gV ed_w3_108 ed_w3_109 ed_w3_110 ed_w1_2 ed_w3_111) rfl rfl rfl hd_X5_copiesOf ⟨Nat.le_of_ble_eq_true rfl, Nat.le_of_ble_eq_true rfl⟩) (ed_rc (q := (RX5, TX5, 11)) (r := (μ7 0 0 0)) hK hM (ed_v0 (by decide) 0) rfl (ed_e0 cy B 0 0 _) rfl) rfl hl.1 rfl (Nat.le_of_ble_eq_true rfl) dX8_kill_82 ⟨Nat.zero_le _, Nat.zero_le _⟩) hS (fun H locs hM hS => ?_)
      have hM : ed_P D cy B μ7 H := by rw [← ed_sJ_eta μ7 0]; exact hM
      obtain ⟨rfl, rfl⟩ := ed_so hf
      exact ed_ri S hr hlocks hM hS dX8_kill_85
    · replace hf := ed_ip c2 hf
      refine lv_bipush (v := (-5)) S.1 S.2.1 dX8_kill_23 (by decide) ?_
      obtain ⟨rfl, rfl⟩ := ed_so hf
      exact ed_ri S hr hlocks hM hS dX8_kill_25
set_option maxHeartbeats 4000000 in
set_option maxRecDepth 100000 in
theorem w_X8_pass_52 {p : Program} {l : Launch} {e : Env} {s : State} {m : MethodId} {args : Array Value} {below : List Frame} {meth : Method} {c : Code} {D : va_G} {cy : Nat → ClassId} {B : Nat} (S : CallFix p m c cX8_pass 4 s args ed_ws RX8) (hr : meth.sig.returnType = (some .int)) (hlocks : meth.locks = false) (hK : ed_K D cy s) (r : Int32) (μ' : ed_CM) :
    ∀ (n : Nat), ∀ (x1 x2 x3 : Int32) (μ : ed_CM), f_X8_pass_52  n x1 x2 x3 μ = some (r, μ') → ∀ (H : Heap) (locs : List Loc) (ls : Array Slot), ed_P D cy B μ H → va_S (ed_A B) s.heap H locs → lv_has ls 4 [(0, .ref (B + ed_oF 7 14 0)), (1, .int x1), (2, .int x2), (3, .int x3)] → W p l e (headSpec wsX8_pass rmX8_pass).room s m args below meth c H locs 0 0 (MQ below (ed_qI (ed_A B) (ed_P D cy B μ') r) args s 0 0 (ed_A B)) (F0 m 52 ls []) := by
  intro n
  induction n with
  | zero => intro x1 x2 x3 μ hf; rw [f_X8_pass_52] at hf; cases hf
  | succ n ih =>
    intro x1 x2 x3 μ hf H locs ls hM hS hl
    rw [f_X8_pass_52] at hf
    refine lv_iload_n S.1 S.2.1 dX8_pass_52 rfl (lv_at hl 3 rfl) ?_
    refine lv_iload_n S.1 S.2.1 dX8_pass_53 rfl (lv_at hl 1 rfl) ?_
    refine lv_icmp_ge (tgt := 70) S.1 S.2.1 dX8_pass_54 (by decide) (fun c6 => ?_) (fun c6 => ?_)
    · replace hf := ed_ip c6 hf
      refine lv_aload_n S.1 S.2.1 dX8_pass_70 rfl (lv_at hl 0 rfl) ?_
      refine ed_get (r := (μ 7 14 0)) S ed_uX8 hK hM ed_v14 rfl (ed_e14 cy B 7 0 _) rfl 0 (by decide) ed_w2_70 rfl rfl dX8_pass_71 ?_
      obtain ⟨r7, hq7, hf⟩ := ed_b_e hf
      refine ed_kI (ed_rV S hK (ed_eta hM) (c_X5_copiesThatCame _ D cy B μ 0 (by decide) (μ 0) r7 hq7) (cwV 0 S.2.2.2.2 (ed_gV ed_w3_1 ed_w3_2 ed_w3_3 ed_w1_2 ed_w3_4) rfl rfl rfl hd_X5_copiesThatCame ⟨Nat.le_of_ble_eq_true rfl, Nat.le_of_ble_eq_true rfl⟩) (ed_rc (q := (RX5, TX5, 11)) (r := (μ 0 0 0)) hK hM (ed_v0 (by decide) 0) rfl (ed_e0 cy B 0 0 _) rfl) rfl hl.1 rfl (Nat.le_of_ble_eq_true rfl) dX8_pass_74 ⟨Nat.zero_le _, Nat.zero_le _⟩) hS (fun H locs hM hS => ?_)
      have hM : ed_P D cy B μ H := by rw [← ed_sJ_eta μ 0]; exact hM
      refine lv_iload_n S.1 S.2.1 dX8_pass_77 rfl (lv_at hl 2 rfl) ?_
      refine lv_isub S.1 S.2.1 dX8_pass_78 ?_
      obtain ⟨rfl, rfl⟩ := ed_so hf
      exact ed_ri S hr hlocks hM hS dX8_pass_79
    · replace hf := ed_in_ c6 hf
      refine lv_aload_n S.1 S.2.1 dX8_pass_57 rfl (lv_at hl 0 rfl) ?_
      refine ed_get (r := (μ 7 14 0)) S ed_uX8 hK hM ed_v14 rfl (ed_e14 cy B 7 0 _) rfl 0 (by decide) ed_w2_70 rfl rfl dX8_pass_58 ?_
      obtain ⟨σ8, hq8, hf⟩ := ed_b_e hf
      refine ed_kV (ed_rV S hK (ed_eta hM) (c_X5_passHour _ D cy B μ 0 (by decide) (μ 0) σ8 hq8) (cwV 0 S.2.2.2.2 (ed_gV ed_w3_5 ed_w3_6 ed_w3_7 ed_w1_2 ed_w3_8) rfl rfl rfl hd_X5_passHour ⟨Nat.le_of_ble_eq_true rfl, Nat.le_of_ble_eq_true rfl⟩) (ed_rc (q := (RX5, TX5, 11)) (r := (μ 0 0 0)) hK hM (ed_v0 (by decide) 0) rfl (ed_e0 cy B 0 0 _) rfl) rfl hl.1 rfl (Nat.le_of_ble_eq_true rfl) dX8_pass_61 ⟨Nat.zero_le _, Nat.zero_le _⟩) hS (fun H locs hM hS => ?_)
      obtain ⟨μ9, eμ9, hf⟩ := ed_t_e hf
      have hM : ed_P D cy B μ9 H := by rw [eμ9]; exact hM
      refine lv_iinc (v := x3 + 1) (lv' := [(3, .int (x3 + 1)), (0, .ref (B + ed_oF 7 14 0)), (1, .int x1), (2, .int x2)]) S.1 S.2.1 dX8_pass_64 hl (k := 3) rfl rfl (by decide) rfl (fun ls hl => ?_)
      refine lv_goto (tgt := 52) S.1 S.2.1 dX8_pass_67 (by decide) ?_
      exact ih x1 x2 (x3 + 1) μ9 hf _ _ _ hM hS (lv_sub hl [1, 2, 3, 0] rfl)
set_option maxHeartbeats 4000000 in
set_option maxRecDepth 100000 in
theorem c_X8_pass (l : Launch) (D : va_G) (cy : Nat → ClassId) (B : Nat) (x1 : Int32) (μ : ed_CM) (r : Int32) (μ' : ed_CM) (hf : f_X8_pass x1 μ = some (r, μ')) :
    Met l yX8_pass wsX8_pass rmX8_pass (ed_pC D cy (ed_P D cy B μ) [.ref (B + ed_oF 7 14 0), .int x1]) (ed_qI (ed_A B) (ed_P D cy B μ') r) 0 0 (ed_A B) := by
  refine Met.ofW (cc := cX8_pass) (maxL := 4) (ret := (some .int)) (by decide) rfl ?_
  intro p e s m args below meth c s₁ B0 hml hv
  obtain ⟨rfl, hM, hK⟩ := hv
  have S : CallFix p m c cX8_pass 4 s _ ed_ws RX8 := ⟨B0.exec, B0.bytes, hml, findClass_of_methodNamed B0.named, fun w hw => atoms_spec (ws := wsX8_pass) B0.pre w (List.mem_cons_of_mem _ hw)⟩
  have hr := B0.returns
  have hlocks := B0.notSynchronized
  have hS : va_S (ed_A B) s.heap s.heap [] := va_S.rf
  have hl := lv_entry ([.ref (B + ed_oF 7 14 0), .int x1]) (n := 4) (Nat.le_of_ble_eq_true rfl)
  rw [lg_entry_eq]
  generalize (lg_sl ([.ref (B + ed_oF 7 14 0), .int x1]) ++ List.replicate (4 - (lg_sl ([.ref (B + ed_oF 7 14 0), .int x1])).length) Slot.unset).toArray = ls at hl ⊢
  have hl : lv_has ls 4 [(0, .ref (B + ed_oF 7 14 0)), (1, .int x1)] := hl
  unfold f_X8_pass at hf
  refine lv_iload_n S.1 S.2.1 dX8_pass_0 rfl (lv_at hl 1 rfl) ?_
  refine lv_iconst (v := 1) S.1 S.2.1 dX8_pass_1 (by decide) ?_
  refine lv_bipush (v := 100) S.1 S.2.1 dX8_pass_2 (by decide) ?_
  refine ed_kI (ed_rS S hK hM (c_X8_isBetween _ D cy (ed_P D cy B μ) (ed_A B) x1 1 100) (va_cwS 3 S.2.2.2.2 (ed_gS ed_w2_93 ed_w2_94 ed_w1_1 ed_w2_95) rfl rfl rfl hd_X8_isBetween.2 ⟨Nat.le_of_ble_eq_true rfl, Nat.le_of_ble_eq_true rfl⟩) rfl hl.1 rfl (Nat.le_of_ble_eq_true rfl) dX8_pass_4 ⟨Nat.zero_le _, Nat.zero_le _⟩) hS (fun H locs hM hS => ?_)
  refine lv_if_ne (tgt := 13) S.1 S.2.1 dX8_pass_7 (by decide) (fun c2 => ?_) (fun c2 => ?_)
  · replace hf := ed_in_ c2 hf
    refine lv_aload_n S.1 S.2.1 dX8_pass_13 rfl (lv_at hl 0 rfl) ?_
    refine ed_get (r := (μ 7 14 0)) S ed_uX8 hK hM ed_v14 rfl (ed_e14 cy B 7 0 _) rfl 0 (by decide) ed_w2_70 rfl rfl dX8_pass_14 ?_
    refine ed_get (r := (μ 0 0 0)) S ed_uX5 hK hM (ed_v0 (by decide) 0) rfl (ed_e0 cy B 0 0 _) rfl 0 (by decide) ed_w1_212 rfl rfl dX8_pass_17 ?_
    refine lv_iload_n S.1 S.2.1 dX8_pass_20 rfl (lv_at hl 1 rfl) ?_
    refine lv_iadd S.1 S.2.1 dX8_pass_21 ?_
    refine lv_sipush (v := 9999) S.1 S.2.1 dX8_pass_22 (by decide) ?_
    refine lv_icmp_le (tgt := 31) S.1 S.2.1 dX8_pass_25 (by decide) (fun c3 => ?_) (fun c3 => ?_)
    · replace hf := ed_ip c3 hf
      refine lv_aload_n S.1 S.2.1 dX8_pass_31 rfl (lv_at hl 0 rfl) ?_
      refine ed_get (r := (μ 7 14 0)) S ed_uX8 hK hM ed_v14 rfl (ed_e14 cy B 7 0 _) rfl 4 (by decide) ed_w2_74 rfl rfl dX8_pass_32 ?_
      refine lv_aload_n S.1 S.2.1 dX8_pass_35 rfl (lv_at hl 0 rfl) ?_
      refine ed_get (r := (μ 7 14 0)) S ed_uX8 hK hM ed_v14 rfl (ed_e14 cy B 7 0 _) rfl 0 (by decide) ed_w2_70 rfl rfl dX8_pass_36 ?_
      obtain ⟨μ4, hq4, hf⟩ := ed_b_e hf
      refine ed_kV (ed_rV S hK hM (c_X2_remember _ D cy B 0 (by decide) μ μ4 hq4) (cwV 1 S.2.2.2.2 (ed_gV ed_w2_97 ed_w2_98 ed_w2_99 ed_w1_8 ed_w2_100) rfl rfl rfl hd_X2_remember ⟨Nat.le_of_ble_eq_true rfl, Nat.le_of_ble_eq_true rfl⟩) (ed_rc (q := (RX2, TX2, 2)) (r := (μ 7 15 0)) hK hM ed_v15 rfl (ed_e15 cy B 7 0 _) rfl) rfl hl.1 rfl (Nat.le_of_ble_eq_true rfl) dX8_pass_39 ⟨Nat.zero_le _, Nat.zero_le _⟩) hS (fun H locs hM hS => ?_)
      refine lv_aload_n S.1 S.2.1 dX8_pass_42 rfl (lv_at hl 0 rfl) ?_
      refine ed_get (r := (μ4 7 14 0)) S ed_uX8 hK hM ed_v14 rfl (ed_e14 cy B 7 0 _) rfl 0 (by decide) ed_w2_70 rfl rfl dX8_pass_43 ?_
      obtain ⟨r5, hq5, hf⟩ := ed_b_e hf
      refine ed_kI (ed_rV S hK (ed_eta hM) (c_X5_copiesThatCame _ D cy B μ4 0 (by decide) (μ4 0) r5 hq5) (cwV 0 S.2.2.2.2 (ed_gV ed_w3_1 ed_w3_2 ed_w3_3 ed_w1_2 ed_w3_4) rfl rfl rfl hd_X5_copiesThatCame ⟨Nat.le_of_ble_eq_true rfl, Nat.le_of_ble_eq_true rfl⟩) (ed_rc (q := (RX5, TX5, 11)) (r := (μ4 0 0 0)) hK hM (ed_v0 (by decide) 0) rfl (ed_e0 cy B 0 0 _) rfl) rfl hl.1 rfl (Nat.le_of_ble_eq_true rfl) dX8_pass_46 ⟨Nat.zero_le _, Nat.zero_le _⟩) hS (fun H locs hM hS => ?_)
      have hM : ed_P D cy B μ4 H := by rw [← ed_sJ_eta μ4 0]; exact hM
      refine lv_istore_n (lv' := [(2, .int r5), (0, .ref (B + ed_oF 7 14 0)), (1, .int x1)]) S.1 S.2.1 dX8_pass_49 rfl hl (by decide) rfl (fun ls hl => ?_)
      refine lv_iconst (v := 0) S.1 S.2.1 dX8_pass_50 (by decide) ?_
      refine lv_istore_n (lv' := [(3, .int 0), (2, .int r5), (0, .ref (B + ed_oF 7 14 0)), (1, .int x1)]) S.1 S.2.1 dX8_pass_51 rfl hl (by decide) rfl (fun ls hl => ?_)
      exact w_X8_pass_52 S hr hlocks hK r μ' ed_N x1 r5 0 μ4 hf _ _ _ hM hS (lv_sub hl [2, 3, 1, 0] rfl)
    · replace hf := ed_in_ c3 hf
      refine lv_bipush (v := (-4)) S.1 S.2.1 dX8_pass_28 (by decide) ?_
      obtain ⟨rfl, rfl⟩ := ed_so hf
      exact ed_ri S hr hlocks hM hS dX8_pass_30
  · replace hf := ed_ip c2 hf
    refine lv_bipush (v := (-2)) S.1 S.2.1 dX8_pass_10 (by decide) ?_
    obtain ⟨rfl, rfl⟩ := ed_so hf
    exact ed_ri S hr hlocks hM hS dX8_pass_12
set_option maxHeartbeats 4000000 in
set_option maxRecDepth 100000 in
theorem c_X8_type (l : Launch) (D : va_G) (cy : Nat → ClassId) (B : Nat) (x1 : Int32) (μ : ed_CM) (r : Int32) (μ' : ed_CM) (hf : f_X8_type x1 μ = some (r, μ')) :
    Met l yX8_type wsX8_type rmX8_type (ed_pC D cy (ed_P D cy B μ) [.ref (B + ed_oF 7 14 0), .int x1]) (ed_qI (ed_A B) (ed_P D cy B μ') r) 0 0 (ed_A B) := by
  refine Met.ofW (cc := cX8_type) (maxL := 2) (ret := (some .int)) (by decide) rfl ?_
  intro p e s m args below meth c s₁ B0 hml hv
  obtain ⟨rfl, hM, hK⟩ := hv
  have S : CallFix p m c cX8_type 2 s _ ed_ws RX8 := ⟨B0.exec, B0.bytes, hml, findClass_of_methodNamed B0.named, fun w hw => atoms_spec (ws := wsX8_type) B0.pre w (List.mem_cons_of_mem _ hw)⟩
  have hr := B0.returns
  have hlocks := B0.notSynchronized
  have hS : va_S (ed_A B) s.heap s.heap [] := va_S.rf
  have hl := lv_entry ([.ref (B + ed_oF 7 14 0), .int x1]) (n := 2) (Nat.le_of_ble_eq_true rfl)
  rw [lg_entry_eq]
  generalize (lg_sl ([.ref (B + ed_oF 7 14 0), .int x1]) ++ List.replicate (2 - (lg_sl ([.ref (B + ed_oF 7 14 0), .int x1])).length) Slot.unset).toArray = ls at hl ⊢
  have hl : lv_has ls 2 [(0, .ref (B + ed_oF 7 14 0)), (1, .int x1)] := hl
  unfold f_X8_type at hf
  refine lv_aload_n S.1 S.2.1 dX8_type_0 rfl (lv_at hl 0 rfl) ?_
  refine ed_get (r := (μ 7 14 0)) S ed_uX8 hK hM ed_v14 rfl (ed_e14 cy B 7 0 _) rfl 5 (by decide) ed_w2_75 rfl rfl dX8_type_1 ?_
  refine ed_get (r := (μ 7 17 0)) S ed_uX7 hK hM ed_v17 rfl (ed_e17 cy B 7 0 _) rfl 1 (by decide) ed_w2_37 rfl rfl dX8_type_4 ?_
  refine lv_bipush (v := 40) S.1 S.2.1 dX8_type_7 (by decide) ?_
  refine lv_icmp_lt (tgt := 15) S.1 S.2.1 dX8_type_9 (by decide) (fun c1 => ?_) (fun c1 => ?_)
  · replace hf := ed_ip c1 hf
    refine lv_aload_n S.1 S.2.1 dX8_type_15 rfl (lv_at hl 0 rfl) ?_
    refine ed_get (r := (μ 7 14 0)) S ed_uX8 hK hM ed_v14 rfl (ed_e14 cy B 7 0 _) rfl 5 (by decide) ed_w2_75 rfl rfl dX8_type_16 ?_
    refine lv_iload_n S.1 S.2.1 dX8_type_19 rfl (lv_at hl 1 rfl) ?_
    obtain ⟨σ2, hq2, hf⟩ := ed_b_e hf
    refine ed_kV (ed_rV S hK (ed_eta hM) (c_X7_add _ D cy B μ x1 (μ 7) σ2 hq2) (cwV 1 S.2.2.2.2 (ed_gV ed_w3_210 ed_w3_211 ed_w3_212 ed_w1_9 ed_w3_213) rfl rfl rfl hd_X7_add ⟨Nat.le_of_ble_eq_true rfl, Nat.le_of_ble_eq_true rfl⟩) (ed_rc (q := (RX7, TX7, 9)) (r := (μ 7 17 0)) hK hM ed_v17 rfl (ed_e17 cy B 7 0 _) rfl) rfl hl.1 rfl (Nat.le_of_ble_eq_true rfl) dX8_type_20 ⟨Nat.zero_le _, Nat.zero_le _⟩) hS (fun H locs hM hS => ?_)
    obtain ⟨μ3, eμ3, hf⟩ := ed_t_e hf
    have hM : ed_P D cy B μ3 H := by rw [eμ3]; exact hM
    refine lv_aload_n S.1 S.2.1 dX8_type_23 rfl (lv_at hl 0 rfl) ?_
    refine ed_get (r := (μ3 7 14 0)) S ed_uX8 hK hM ed_v14 rfl (ed_e14 cy B 7 0 _) rfl 5 (by decide) ed_w2_75 rfl rfl dX8_type_24 ?_
    refine ed_get (r := (μ3 7 17 0)) S ed_uX7 hK hM ed_v17 rfl (ed_e17 cy B 7 0 _) rfl 1 (by decide) ed_w2_37 rfl rfl dX8_type_27 ?_
    obtain ⟨rfl, rfl⟩ := ed_so hf
    exact ed_ri S hr hlocks hM hS dX8_type_30
  · replace hf := ed_in_ c1 hf
    refine lv_bipush (v := (-3)) S.1 S.2.1 dX8_type_12 (by decide) ?_
    obtain ⟨rfl, rfl⟩ := ed_so hf
    exact ed_ri S hr hlocks hM hS dX8_type_14
set_option maxHeartbeats 4000000 in
set_option maxRecDepth 100000 in
theorem c_X8_clearText (l : Launch) (D : va_G) (cy : Nat → ClassId) (B : Nat) (μ : ed_CM) (r : Int32) (μ' : ed_CM) (hf : f_X8_clearText μ = some (r, μ')) :
    Met l yX8_clearText wsX8_clearText rmX8_clearText (ed_pC D cy (ed_P D cy B μ) [.ref (B + ed_oF 7 14 0)]) (ed_qI (ed_A B) (ed_P D cy B μ') r) 0 0 (ed_A B) := by
  refine Met.ofW (cc := cX8_clearText) (maxL := 2) (ret := (some .int)) (by decide) rfl ?_
  intro p e s m args below meth c s₁ B0 hml hv
  obtain ⟨rfl, hM, hK⟩ := hv
  have S : CallFix p m c cX8_clearText 2 s _ ed_ws RX8 := ⟨B0.exec, B0.bytes, hml, findClass_of_methodNamed B0.named, fun w hw => atoms_spec (ws := wsX8_clearText) B0.pre w (List.mem_cons_of_mem _ hw)⟩
  have hr := B0.returns
  have hlocks := B0.notSynchronized
  have hS : va_S (ed_A B) s.heap s.heap [] := va_S.rf
  have hl := lv_entry ([.ref (B + ed_oF 7 14 0)]) (n := 2) (Nat.le_of_ble_eq_true rfl)
  rw [lg_entry_eq]
  generalize (lg_sl ([.ref (B + ed_oF 7 14 0)]) ++ List.replicate (2 - (lg_sl ([.ref (B + ed_oF 7 14 0)])).length) Slot.unset).toArray = ls at hl ⊢
  have hl : lv_has ls 2 [(0, .ref (B + ed_oF 7 14 0))] := hl
  unfold f_X8_clearText at hf
  refine lv_aload_n S.1 S.2.1 dX8_clearText_0 rfl (lv_at hl 0 rfl) ?_
  refine ed_get (r := (μ 7 14 0)) S ed_uX8 hK hM ed_v14 rfl (ed_e14 cy B 7 0 _) rfl 5 (by decide) ed_w2_75 rfl rfl dX8_clearText_1 ?_
  refine ed_get (r := (μ 7 17 0)) S ed_uX7 hK hM ed_v17 rfl (ed_e17 cy B 7 0 _) rfl 1 (by decide) ed_w2_37 rfl rfl dX8_clearText_4 ?_
  refine lv_istore_n (lv' := [(1, .int (μ 7 17 0 1)), (0, .ref (B + ed_oF 7 14 0))]) S.1 S.2.1 dX8_clearText_7 rfl hl (by decide) rfl (fun ls hl => ?_)
  refine lv_aload_n S.1 S.2.1 dX8_clearText_8 rfl (lv_at hl 1 rfl) ?_
  refine ed_get (r := (μ 7 14 0)) S ed_uX8 hK hM ed_v14 rfl (ed_e14 cy B 7 0 _) rfl 5 (by decide) ed_w2_75 rfl rfl dX8_clearText_9 ?_
  refine lv_iconst (v := 0) S.1 S.2.1 dX8_clearText_12 (by decide) ?_
  refine ed_put (j := 7) S ed_uX7 tyX7 tyX7_ok nmX7 hK (ed_eta hM) hS ed_v17 (ed_e17 cy B 7 0 _) rfl 1 (by decide) ed_w2_37 rfl rfl rfl rfl (Nat.le_of_ble_eq_true rfl) (ed_u17_1 cy B 7 0 _ _) dX8_clearText_13 (fun H locs hM hS => ?_)
  obtain ⟨μ1, eμ1, hf⟩ := ed_t_e hf
  have hM : ed_P D cy B μ1 H := by rw [eμ1]; exact hM
  refine lv_iload_n S.1 S.2.1 dX8_clearText_16 rfl (lv_at hl 0 rfl) ?_
  obtain ⟨rfl, rfl⟩ := ed_so hf
  exact ed_ri S hr hlocks hM hS dX8_clearText_17
set_option maxHeartbeats 4000000 in
set_option maxRecDepth 100000 in
theorem c_X8_undo (l : Launch) (D : va_G) (cy : Nat → ClassId) (B : Nat) (μ : ed_CM) (r : Int32) (μ' : ed_CM) (hf : f_X8_undo μ = some (r, μ')) :
    Met l yX8_undo wsX8_undo rmX8_undo (ed_pC D cy (ed_P D cy B μ) [.ref (B + ed_oF 7 14 0)]) (ed_qI (ed_A B) (ed_P D cy B μ') r) 0 0 (ed_A B) := by
  refine Met.ofW (cc := cX8_undo) (maxL := 1) (ret := (some .int)) (by decide) rfl ?_
  intro p e s m args below meth c s₁ B0 hml hv
  obtain ⟨rfl, hM, hK⟩ := hv
  have S : CallFix p m c cX8_undo 1 s _ ed_ws RX8 := ⟨B0.exec, B0.bytes, hml, findClass_of_methodNamed B0.named, fun w hw => atoms_spec (ws := wsX8_undo) B0.pre w (List.mem_cons_of_mem _ hw)⟩
  have hr := B0.returns
  have hlocks := B0.notSynchronized
  have hS : va_S (ed_A B) s.heap s.heap [] := va_S.rf
  have hl := lv_entry ([.ref (B + ed_oF 7 14 0)]) (n := 1) (Nat.le_of_ble_eq_true rfl)
  rw [lg_entry_eq]
  generalize (lg_sl ([.ref (B + ed_oF 7 14 0)]) ++ List.replicate (1 - (lg_sl ([.ref (B + ed_oF 7 14 0)])).length) Slot.unset).toArray = ls at hl ⊢
  have hl : lv_has ls 1 [(0, .ref (B + ed_oF 7 14 0))] := hl
  unfold f_X8_undo at hf
  refine lv_aload_n S.1 S.2.1 dX8_undo_0 rfl (lv_at hl 0 rfl) ?_
  refine ed_get (r := (μ 7 14 0)) S ed_uX8 hK hM ed_v14 rfl (ed_e14 cy B 7 0 _) rfl 4 (by decide) ed_w2_74 rfl rfl dX8_undo_1 ?_
  refine ed_get (r := (μ 7 15 0)) S ed_uX2 hK hM ed_v15 rfl (ed_e15 cy B 7 0 _) rfl 1 (by decide) ed_w2_23 rfl rfl dX8_undo_4 ?_
  refine lv_if_ne (tgt := 13) S.1 S.2.1 dX8_undo_7 (by decide) (fun c1 => ?_) (fun c1 => ?_)
  · replace hf := ed_in_ c1 hf
    refine lv_aload_n S.1 S.2.1 dX8_undo_13 rfl (lv_at hl 0 rfl) ?_
    refine ed_get (r := (μ 7 14 0)) S ed_uX8 hK hM ed_v14 rfl (ed_e14 cy B 7 0 _) rfl 4 (by decide) ed_w2_74 rfl rfl dX8_undo_14 ?_
    refine lv_aload_n S.1 S.2.1 dX8_undo_17 rfl (lv_at hl 0 rfl) ?_
    refine ed_get (r := (μ 7 14 0)) S ed_uX8 hK hM ed_v14 rfl (ed_e14 cy B 7 0 _) rfl 0 (by decide) ed_w2_70 rfl rfl dX8_undo_18 ?_
    obtain ⟨μ2, hq2, hf⟩ := ed_b_e hf
    refine ed_kV (ed_rV S hK hM (c_X2_takeLatest _ D cy B 0 (by decide) μ μ2 hq2) (cwV 1 S.2.2.2.2 (ed_gV ed_w3_91 ed_w3_92 ed_w3_93 ed_w1_8 ed_w3_94) rfl rfl rfl hd_X2_takeLatest ⟨Nat.le_of_ble_eq_true rfl, Nat.le_of_ble_eq_true rfl⟩) (ed_rc (q := (RX2, TX2, 2)) (r := (μ 7 15 0)) hK hM ed_v15 rfl (ed_e15 cy B 7 0 _) rfl) rfl hl.1 rfl (Nat.le_of_ble_eq_true rfl) dX8_undo_21 ⟨Nat.zero_le _, Nat.zero_le _⟩) hS (fun H locs hM hS => ?_)
    refine lv_aload_n S.1 S.2.1 dX8_undo_24 rfl (lv_at hl 0 rfl) ?_
    refine ed_get (r := (μ2 7 14 0)) S ed_uX8 hK hM ed_v14 rfl (ed_e14 cy B 7 0 _) rfl 4 (by decide) ed_w2_74 rfl rfl dX8_undo_25 ?_
    refine ed_get (r := (μ2 7 15 0)) S ed_uX2 hK hM ed_v15 rfl (ed_e15 cy B 7 0 _) rfl 1 (by decide) ed_w2_23 rfl rfl dX8_undo_28 ?_
    obtain ⟨rfl, rfl⟩ := ed_so hf
    exact ed_ri S hr hlocks hM hS dX8_undo_31
  · replace hf := ed_ip c1 hf
    refine lv_bipush (v := (-5)) S.1 S.2.1 dX8_undo_10 (by decide) ?_
    obtain ⟨rfl, rfl⟩ := ed_so hf
    exact ed_ri S hr hlocks hM hS dX8_undo_12
set_option maxHeartbeats 4000000 in
set_option maxRecDepth 100000 in
theorem c_X8_keep (l : Launch) (D : va_G) (cy : Nat → ClassId) (B : Nat) (μ : ed_CM) (r : Int32) (μ' : ed_CM) (hf : f_X8_keep μ = some (r, μ')) :
    Met l yX8_keep wsX8_keep rmX8_keep (ed_pC D cy (ed_P D cy B μ) [.ref (B + ed_oF 7 14 0)]) (ed_qI (ed_A B) (ed_P D cy B μ') r) 0 0 (ed_A B) := by
  refine Met.ofW (cc := cX8_keep) (maxL := 1) (ret := (some .int)) (by decide) rfl ?_
  intro p e s m args below meth c s₁ B0 hml hv
  obtain ⟨rfl, hM, hK⟩ := hv
  have S : CallFix p m c cX8_keep 1 s _ ed_ws RX8 := ⟨B0.exec, B0.bytes, hml, findClass_of_methodNamed B0.named, fun w hw => atoms_spec (ws := wsX8_keep) B0.pre w (List.mem_cons_of_mem _ hw)⟩
  have hr := B0.returns
  have hlocks := B0.notSynchronized
  have hS : va_S (ed_A B) s.heap s.heap [] := va_S.rf
  have hl := lv_entry ([.ref (B + ed_oF 7 14 0)]) (n := 1) (Nat.le_of_ble_eq_true rfl)
  rw [lg_entry_eq]
  generalize (lg_sl ([.ref (B + ed_oF 7 14 0)]) ++ List.replicate (1 - (lg_sl ([.ref (B + ed_oF 7 14 0)])).length) Slot.unset).toArray = ls at hl ⊢
  have hl : lv_has ls 1 [(0, .ref (B + ed_oF 7 14 0))] := hl
  unfold f_X8_keep at hf
  refine lv_aload_n S.1 S.2.1 dX8_keep_0 rfl (lv_at hl 0 rfl) ?_
  refine ed_get (r := (μ 7 14 0)) S ed_uX8 hK hM ed_v14 rfl (ed_e14 cy B 7 0 _) rfl 2 (by decide) ed_w2_72 rfl rfl dX8_keep_1 ?_
  refine lv_aload_n S.1 S.2.1 dX8_keep_4 rfl (lv_at hl 0 rfl) ?_
  refine ed_get (r := (μ 7 14 0)) S ed_uX8 hK hM ed_v14 rfl (ed_e14 cy B 7 0 _) rfl 0 (by decide) ed_w2_70 rfl rfl dX8_keep_5 ?_
  obtain ⟨σ1, hq1, hf⟩ := ed_b_e hf
  refine ed_kV (ed_rV S hK (ed_eta hM) (c_X5_copyFrom _ D cy B μ 2 (by decide) 0 (by decide) (by decide) (μ 0) rfl (μ 2) σ1 hq1) (cwV 1 S.2.2.2.2 (ed_gV ed_w3_99 ed_w2_109 ed_w2_110 ed_w1_2 ed_w2_111) rfl rfl rfl hd_X5_copyFrom ⟨Nat.le_of_ble_eq_true rfl, Nat.le_of_ble_eq_true rfl⟩) (ed_rc (q := (RX5, TX5, 11)) (r := (μ 2 0 0)) hK hM (ed_v0 (by decide) 0) rfl (ed_e0 cy B 2 0 _) rfl) rfl hl.1 rfl (Nat.le_of_ble_eq_true rfl) dX8_keep_8 ⟨Nat.zero_le _, Nat.zero_le _⟩) hS (fun H locs hM hS => ?_)
  obtain ⟨μ2, eμ2, hf⟩ := ed_t_e hf
  have hM : ed_P D cy B μ2 H := by rw [eμ2]; exact hM
  refine lv_aload_n S.1 S.2.1 dX8_keep_11 rfl (lv_at hl 0 rfl) ?_
  refine lv_iconst (v := 1) S.1 S.2.1 dX8_keep_12 (by decide) ?_
  refine ed_put (j := 7) S ed_uX8 tyX8 tyX8_ok nmX8 hK (ed_eta hM) hS ed_v14 (ed_e14 cy B 7 0 _) rfl 3 (by decide) ed_w2_73 rfl rfl (ed_bo_n (Or.inr rfl)).1 (ed_bo_n (Or.inr rfl)).2 (Nat.le_of_ble_eq_true rfl) (ed_u14_3 cy B 7 0 _ _) dX8_keep_13 (fun H locs hM hS => ?_)
  obtain ⟨μ3, eμ3, hf⟩ := ed_t_e hf
  have hM : ed_P D cy B μ3 H := by rw [eμ3]; exact hM
  refine lv_aload_n S.1 S.2.1 dX8_keep_16 rfl (lv_at hl 0 rfl) ?_
  refine ed_get (r := (μ3 7 14 0)) S ed_uX8 hK hM ed_v14 rfl (ed_e14 cy B 7 0 _) rfl 0 (by decide) ed_w2_70 rfl rfl dX8_keep_17 ?_
  refine ed_get (r := (μ3 0 0 0)) S ed_uX5 hK hM (ed_v0 (by decide) 0) rfl (ed_e0 cy B 0 0 _) rfl 0 (by decide) ed_w1_212 rfl rfl dX8_keep_20 ?_
  obtain ⟨rfl, rfl⟩ := ed_so hf
  exact ed_ri S hr hlocks hM hS dX8_keep_23
set_option maxHeartbeats 4000000 in
set_option maxRecDepth 100000 in
theorem c_X8_restore (l : Launch) (D : va_G) (cy : Nat → ClassId) (B : Nat) (μ : ed_CM) (r : Int32) (μ' : ed_CM) (hf : f_X8_restore μ = some (r, μ')) :
    Met l yX8_restore wsX8_restore rmX8_restore (ed_pC D cy (ed_P D cy B μ) [.ref (B + ed_oF 7 14 0)]) (ed_qI (ed_A B) (ed_P D cy B μ') r) 0 0 (ed_A B) := by
  refine Met.ofW (cc := cX8_restore) (maxL := 1) (ret := (some .int)) (by decide) rfl ?_
  intro p e s m args below meth c s₁ B0 hml hv
  obtain ⟨rfl, hM, hK⟩ := hv
  have S : CallFix p m c cX8_restore 1 s _ ed_ws RX8 := ⟨B0.exec, B0.bytes, hml, findClass_of_methodNamed B0.named, fun w hw => atoms_spec (ws := wsX8_restore) B0.pre w (List.mem_cons_of_mem _ hw)⟩
  have hr := B0.returns
  have hlocks := B0.notSynchronized
  have hS : va_S (ed_A B) s.heap s.heap [] := va_S.rf
  have hl := lv_entry ([.ref (B + ed_oF 7 14 0)]) (n := 1) (Nat.le_of_ble_eq_true rfl)
  rw [lg_entry_eq]
  generalize (lg_sl ([.ref (B + ed_oF 7 14 0)]) ++ List.replicate (1 - (lg_sl ([.ref (B + ed_oF 7 14 0)])).length) Slot.unset).toArray = ls at hl ⊢
  have hl : lv_has ls 1 [(0, .ref (B + ed_oF 7 14 0))] := hl
  unfold f_X8_restore at hf
  refine lv_aload_n S.1 S.2.1 dX8_restore_0 rfl (lv_at hl 0 rfl) ?_
  refine ed_get (r := (μ 7 14 0)) S ed_uX8 hK hM ed_v14 rfl (ed_e14 cy B 7 0 _) rfl 3 (by decide) ed_w2_73 rfl rfl dX8_restore_1 ?_
  refine lv_if_ne (tgt := 10) S.1 S.2.1 dX8_restore_4 (by decide) (fun c1 => ?_) (fun c1 => ?_)
  · replace hf := ed_in_ c1 hf
    refine lv_aload_n S.1 S.2.1 dX8_restore_10 rfl (lv_at hl 0 rfl) ?_
    refine ed_get (r := (μ 7 14 0)) S ed_uX8 hK hM ed_v14 rfl (ed_e14 cy B 7 0 _) rfl 4 (by decide) ed_w2_74 rfl rfl dX8_restore_11 ?_
    refine lv_aload_n S.1 S.2.1 dX8_restore_14 rfl (lv_at hl 0 rfl) ?_
    refine ed_get (r := (μ 7 14 0)) S ed_uX8 hK hM ed_v14 rfl (ed_e14 cy B 7 0 _) rfl 0 (by decide) ed_w2_70 rfl rfl dX8_restore_15 ?_
    obtain ⟨μ2, hq2, hf⟩ := ed_b_e hf
    refine ed_kV (ed_rV S hK hM (c_X2_remember _ D cy B 0 (by decide) μ μ2 hq2) (cwV 1 S.2.2.2.2 (ed_gV ed_w2_97 ed_w2_98 ed_w2_99 ed_w1_8 ed_w2_100) rfl rfl rfl hd_X2_remember ⟨Nat.le_of_ble_eq_true rfl, Nat.le_of_ble_eq_true rfl⟩) (ed_rc (q := (RX2, TX2, 2)) (r := (μ 7 15 0)) hK hM ed_v15 rfl (ed_e15 cy B 7 0 _) rfl) rfl hl.1 rfl (Nat.le_of_ble_eq_true rfl) dX8_restore_18 ⟨Nat.zero_le _, Nat.zero_le _⟩) hS (fun H locs hM hS => ?_)
    refine lv_aload_n S.1 S.2.1 dX8_restore_21 rfl (lv_at hl 0 rfl) ?_
    refine ed_get (r := (μ2 7 14 0)) S ed_uX8 hK hM ed_v14 rfl (ed_e14 cy B 7 0 _) rfl 0 (by decide) ed_w2_70 rfl rfl dX8_restore_22 ?_
    refine lv_aload_n S.1 S.2.1 dX8_restore_25 rfl (lv_at hl 0 rfl) ?_
    refine ed_get (r := (μ2 7 14 0)) S ed_uX8 hK hM ed_v14 rfl (ed_e14 cy B 7 0 _) rfl 2 (by decide) ed_w2_72 rfl rfl dX8_restore_26 ?_
    obtain ⟨σ3, hq3, hf⟩ := ed_b_e hf
    refine ed_kV (ed_rV S hK (ed_eta hM) (c_X5_copyFrom _ D cy B μ2 0 (by decide) 2 (by decide) (by decide) (μ2 2) rfl (μ2 0) σ3 hq3) (cwV 1 S.2.2.2.2 (ed_gV ed_w3_99 ed_w2_109 ed_w2_110 ed_w1_2 ed_w2_111) rfl rfl rfl hd_X5_copyFrom ⟨Nat.le_of_ble_eq_true rfl, Nat.le_of_ble_eq_true rfl⟩) (ed_rc (q := (RX5, TX5, 11)) (r := (μ2 0 0 0)) hK hM (ed_v0 (by decide) 0) rfl (ed_e0 cy B 0 0 _) rfl) rfl hl.1 rfl (Nat.le_of_ble_eq_true rfl) dX8_restore_29 ⟨Nat.zero_le _, Nat.zero_le _⟩) hS (fun H locs hM hS => ?_)
    obtain ⟨μ4, eμ4, hf⟩ := ed_t_e hf
    have hM : ed_P D cy B μ4 H := by rw [eμ4]; exact hM
    refine lv_aload_n S.1 S.2.1 dX8_restore_32 rfl (lv_at hl 0 rfl) ?_
    refine ed_get (r := (μ4 7 14 0)) S ed_uX8 hK hM ed_v14 rfl (ed_e14 cy B 7 0 _) rfl 0 (by decide) ed_w2_70 rfl rfl dX8_restore_33 ?_
    refine ed_get (r := (μ4 0 0 0)) S ed_uX5 hK hM (ed_v0 (by decide) 0) rfl (ed_e0 cy B 0 0 _) rfl 0 (by decide) ed_w1_212 rfl rfl dX8_restore_36 ?_
    obtain ⟨rfl, rfl⟩ := ed_so hf
    exact ed_ri S hr hlocks hM hS dX8_restore_39
  · replace hf := ed_ip c1 hf
    refine lv_bipush (v := (-5)) S.1 S.2.1 dX8_restore_7 (by decide) ?_
    obtain ⟨rfl, rfl⟩ := ed_so hf
    exact ed_ri S hr hlocks hM hS dX8_restore_9
set_option maxHeartbeats 4000000 in
set_option maxRecDepth 100000 in
theorem c_X8_story (l : Launch) (D : va_G) (cy : Nat → ClassId) (B : Nat) (x1 x2 : Int32) (μ : ed_CM) (r : Int32) (hf : f_X8_story x1 x2 μ = some r) :
    Met l yX8_story wsX8_story rmX8_story (ed_pC D cy (ed_P D cy B μ) [.ref (B + ed_oF 7 14 0), .int x1, .int x2]) (ed_qI (ed_A B) (ed_P D cy B μ) r) 0 0 (ed_A B) := by
  refine Met.ofW (cc := cX8_story) (maxL := 4) (ret := (some .int)) (by decide) rfl ?_
  intro p e s m args below meth c s₁ B0 hml hv
  obtain ⟨rfl, hM, hK⟩ := hv
  have S : CallFix p m c cX8_story 4 s _ ed_ws RX8 := ⟨B0.exec, B0.bytes, hml, findClass_of_methodNamed B0.named, fun w hw => atoms_spec (ws := wsX8_story) B0.pre w (List.mem_cons_of_mem _ hw)⟩
  have hr := B0.returns
  have hlocks := B0.notSynchronized
  have hS : va_S (ed_A B) s.heap s.heap [] := va_S.rf
  have hl := lv_entry ([.ref (B + ed_oF 7 14 0), .int x1, .int x2]) (n := 4) (Nat.le_of_ble_eq_true rfl)
  rw [lg_entry_eq]
  generalize (lg_sl ([.ref (B + ed_oF 7 14 0), .int x1, .int x2]) ++ List.replicate (4 - (lg_sl ([.ref (B + ed_oF 7 14 0), .int x1, .int x2])).length) Slot.unset).toArray = ls at hl ⊢
  have hl : lv_has ls 4 [(0, .ref (B + ed_oF 7 14 0)), (1, .int x1), (2, .int x2)] := hl
  unfold f_X8_story at hf
  refine lv_aload_n S.1 S.2.1 dX8_story_0 rfl (lv_at hl 0 rfl) ?_
  refine ed_get (r := (μ 7 14 0)) S ed_uX8 hK hM ed_v14 rfl (ed_e14 cy B 7 0 _) rfl 0 (by decide) ed_w2_70 rfl rfl dX8_story_1 ?_
  refine lv_iload_n S.1 S.2.1 dX8_story_4 rfl (lv_at hl 1 rfl) ?_
  obtain ⟨o1, hq1, hf⟩ := ed_b_e hf
  refine ed_kA (ed_rV S hK (ed_eta hM) (c_X5_storyAt _ D cy B μ 0 (by decide) x1 (μ 0) o1 hq1) (cwV 1 S.2.2.2.2 (ed_gV ed_w2_232 ed_w2_130 ed_w2_131 ed_w1_2 ed_w2_132) rfl rfl rfl hd_X5_storyAt ⟨Nat.le_of_ble_eq_true rfl, Nat.le_of_ble_eq_true rfl⟩) (ed_rc (q := (RX5, TX5, 11)) (r := (μ 0 0 0)) hK hM (ed_v0 (by decide) 0) rfl (ed_e0 cy B 0 0 _) rfl) rfl hl.1 rfl (Nat.le_of_ble_eq_true rfl) dX8_story_5 ⟨Nat.zero_le _, Nat.zero_le _⟩) hS (fun H locs hM hS => ?_)
  have hM : ed_P D cy B μ H := by rw [← ed_sJ_eta μ 0]; exact hM
  cases o1 with
  | none =>
    dsimp only at hf
    refine W.eq (g2 := F0 m 8 ls (.null :: [])) rfl ?_
    refine lv_astore_nN (lv' := [(3, .null), (0, .ref (B + ed_oF 7 14 0)), (1, .int x1), (2, .int x2)]) S.1 S.2.1 dX8_story_8 rfl hl (by decide) rfl (fun ls hl => ?_)
    refine lv_aload_nN S.1 S.2.1 dX8_story_9 rfl (lv_at hl 0 rfl) ?_
    refine lv_ifnonnullN S.1 S.2.1 dX8_story_10 ?_
    refine lv_iconst (v := (-1)) S.1 S.2.1 dX8_story_13 (by decide) ?_
    obtain rfl := Option.some.inj hf
    exact ed_ri S hr hlocks hM hS dX8_story_14
  | some n1q =>
    dsimp only at hf
    obtain ⟨hn1q, hf⟩ := ed_g_e hf
    refine W.eq (g2 := F0 m 8 ls (.ref (B + ed_oF 0 7 n1q) :: [])) rfl ?_
    refine lv_astore_n (lv' := [(3, .ref (B + ed_oF 0 7 n1q)), (0, .ref (B + ed_oF 7 14 0)), (1, .int x1), (2, .int x2)]) S.1 S.2.1 dX8_story_8 rfl hl (by decide) rfl (fun ls hl => ?_)
    refine lv_aload_n S.1 S.2.1 dX8_story_9 rfl (lv_at hl 0 rfl) ?_
    refine lv_ifnonnull (tgt := 15) S.1 S.2.1 dX8_story_10 (by decide) ?_
    refine lv_iload_n S.1 S.2.1 dX8_story_15 rfl (lv_at hl 3 rfl) ?_
    by_cases c2 : x2 = 0
    · replace hf := ed_ip c2 hf
      refine lv_tableIn (tgt := 76) S.1 S.2.1 dX8_story_16 (by rw [c2]; decide) (by rw [c2]; decide) (off := 60) (by rw [c2]; decide) (by decide) ?_
      refine lv_aload_n S.1 S.2.1 dX8_story_76 rfl (lv_at hl 0 rfl) ?_
      refine ed_get (r := (μ 0 7 n1q)) S ed_uX6 hK hM (ed_v7 (by decide) hn1q 7) rfl (ed_e7 cy B 0 n1q _) rfl 0 (by decide) ed_w1_57 rfl rfl dX8_story_77 ?_
      obtain rfl := Option.some.inj hf
      exact ed_ri S hr hlocks hM hS dX8_story_80
    replace hf := ed_in_ c2 hf
    by_cases c3 : x2 = 1
    · replace hf := ed_ip c3 hf
      refine lv_tableIn (tgt := 81) S.1 S.2.1 dX8_story_16 (by rw [c3]; decide) (by rw [c3]; decide) (off := 65) (by rw [c3]; decide) (by decide) ?_
      refine lv_aload_n S.1 S.2.1 dX8_story_81 rfl (lv_at hl 0 rfl) ?_
      refine ed_get (r := (μ 0 7 n1q)) S ed_uX6 hK hM (ed_v7 (by decide) hn1q 7) rfl (ed_e7 cy B 0 n1q _) rfl 1 (by decide) ed_w1_61 rfl rfl dX8_story_82 ?_
      obtain rfl := Option.some.inj hf
      exact ed_ri S hr hlocks hM hS dX8_story_85
    replace hf := ed_in_ c3 hf
    by_cases c4 : x2 = 2
    · replace hf := ed_ip c4 hf
      refine lv_tableIn (tgt := 86) S.1 S.2.1 dX8_story_16 (by rw [c4]; decide) (by rw [c4]; decide) (off := 70) (by rw [c4]; decide) (by decide) ?_
      refine lv_aload_n S.1 S.2.1 dX8_story_86 rfl (lv_at hl 0 rfl) ?_
      refine ed_get (r := (μ 0 7 n1q)) S ed_uX6 hK hM (ed_v7 (by decide) hn1q 7) rfl (ed_e7 cy B 0 n1q _) rfl 3 (by decide) ed_w1_64 rfl rfl dX8_story_87 ?_
      obtain rfl := Option.some.inj hf
      exact ed_ri S hr hlocks hM hS dX8_story_90
    replace hf := ed_in_ c4 hf
    by_cases c5 : x2 = 3
    · replace hf := ed_ip c5 hf
      refine lv_tableIn (tgt := 91) S.1 S.2.1 dX8_story_16 (by rw [c5]; decide) (by rw [c5]; decide) (off := 75) (by rw [c5]; decide) (by decide) ?_
      refine lv_aload_n S.1 S.2.1 dX8_story_91 rfl (lv_at hl 0 rfl) ?_
      refine ed_get (r := (μ 0 7 n1q)) S ed_uX6 hK hM (ed_v7 (by decide) hn1q 7) rfl (ed_e7 cy B 0 n1q _) rfl 6 (by decide) ed_w1_70 rfl rfl dX8_story_92 ?_
      obtain rfl := Option.some.inj hf
      exact ed_ri S hr hlocks hM hS dX8_story_95
    replace hf := ed_in_ c5 hf
    by_cases c6 : x2 = 4
    · replace hf := ed_ip c6 hf
      refine lv_tableIn (tgt := 96) S.1 S.2.1 dX8_story_16 (by rw [c6]; decide) (by rw [c6]; decide) (off := 80) (by rw [c6]; decide) (by decide) ?_
      refine lv_aload_n S.1 S.2.1 dX8_story_96 rfl (lv_at hl 0 rfl) ?_
      refine ed_get (r := (μ 0 7 n1q)) S ed_uX6 hK hM (ed_v7 (by decide) hn1q 7) rfl (ed_e7 cy B 0 n1q _) rfl 7 (by decide) ed_w1_73 rfl rfl dX8_story_97 ?_
      obtain rfl := Option.some.inj hf
      exact ed_ri S hr hlocks hM hS dX8_story_100
    replace hf := ed_in_ c6 hf
    by_cases c7 : x2 = 5
    · replace hf := ed_ip c7 hf
      refine lv_tableIn (tgt := 101) S.1 S.2.1 dX8_story_16 (by rw [c7]; decide) (by rw [c7]; decide) (off := 85) (by rw [c7]; decide) (by decide) ?_
      refine lv_aload_n S.1 S.2.1 dX8_story_101 rfl (lv_at hl 0 rfl) ?_
      refine ed_get (r := (μ 0 7 n1q)) S ed_uX6 hK hM (ed_v7 (by decide) hn1q 7) rfl (ed_e7 cy B 0 n1q _) rfl 9 (by decide) ed_w1_78 rfl rfl dX8_story_102 ?_
      obtain rfl := Option.some.inj hf
      exact ed_ri S hr hlocks hM hS dX8_story_105
    replace hf := ed_in_ c7 hf
    by_cases c8 : x2 = 6
    · replace hf := ed_ip c8 hf
      refine lv_tableIn (tgt := 106) S.1 S.2.1 dX8_story_16 (by rw [c8]; decide) (by rw [c8]; decide) (off := 90) (by rw [c8]; decide) (by decide) ?_
      refine lv_aload_n S.1 S.2.1 dX8_story_106 rfl (lv_at hl 0 rfl) ?_
      refine ed_get (r := (μ 0 7 n1q)) S ed_uX6 hK hM (ed_v7 (by decide) hn1q 7) rfl (ed_e7 cy B 0 n1q _) rfl 10 (by decide) ed_w1_80 rfl rfl dX8_story_107 ?_
      obtain rfl := Option.some.inj hf
      exact ed_ri S hr hlocks hM hS dX8_story_110
    replace hf := ed_in_ c8 hf
    by_cases c9 : x2 = 7
    · replace hf := ed_ip c9 hf
      refine lv_tableIn (tgt := 111) S.1 S.2.1 dX8_story_16 (by rw [c9]; decide) (by rw [c9]; decide) (off := 95) (by rw [c9]; decide) (by decide) ?_
      refine lv_aload_n S.1 S.2.1 dX8_story_111 rfl (lv_at hl 0 rfl) ?_
      refine ed_get (r := (μ 0 7 n1q)) S ed_uX6 hK hM (ed_v7 (by decide) hn1q 7) rfl (ed_e7 cy B 0 n1q _) rfl 4 (by decide) ed_w1_67 rfl rfl dX8_story_112 ?_
      obtain rfl := Option.some.inj hf
      exact ed_ri S hr hlocks hM hS dX8_story_115
    replace hf := ed_in_ c9 hf
    by_cases c10 : x2 = 8
    · replace hf := ed_ip c10 hf
      refine lv_tableIn (tgt := 116) S.1 S.2.1 dX8_story_16 (by rw [c10]; decide) (by rw [c10]; decide) (off := 100) (by rw [c10]; decide) (by decide) ?_
      refine lv_aload_n S.1 S.2.1 dX8_story_116 rfl (lv_at hl 1 rfl) ?_
      refine ed_get (r := (μ 7 14 0)) S ed_uX8 hK hM ed_v14 rfl (ed_e14 cy B 7 0 _) rfl 0 (by decide) ed_w2_70 rfl rfl dX8_story_117 ?_
      refine lv_iload_n S.1 S.2.1 dX8_story_120 rfl (lv_at hl 2 rfl) ?_
      refine lv_iconst (v := (-1)) S.1 S.2.1 dX8_story_121 (by decide) ?_
      refine lv_iconst (v := (-1)) S.1 S.2.1 dX8_story_122 (by decide) ?_
      obtain ⟨r13, hq13, hf⟩ := ed_b_e hf
      refine ed_kI (ed_rV S hK (ed_eta hM) (c_X5_copiesOf _ D cy B μ 0 (by decide) x1 (-1) (-1) (μ 0) r13 hq13) (cwV 3 S.2.2.2.2 (ed_gV ed_w3_108 ed_w3_109 ed_w3_110 ed_w1_2 ed_w3_111) rfl rfl rfl hd_X5_copiesOf ⟨Nat.le_of_ble_eq_true rfl, Nat.le_of_ble_eq_true rfl⟩) (ed_rc (q := (RX5, TX5, 11)) (r := (μ 0 0 0)) hK hM (ed_v0 (by decide) 0) rfl (ed_e0 cy B 0 0 _) rfl) rfl hl.1 rfl (Nat.le_of_ble_eq_true rfl) dX8_story_123 ⟨Nat.zero_le _, Nat.zero_le _⟩) hS (fun H locs hM hS => ?_)
      have hM : ed_P D cy B μ H := by rw [← ed_sJ_eta μ 0]; exact hM
      obtain rfl := Option.some.inj hf
      exact ed_ri S hr hlocks hM hS dX8_story_126
    replace hf := ed_in_ c10 hf
    by_cases c11 : x2 = 9
    · replace hf := ed_ip c11 hf
      refine lv_tableIn (tgt := 127) S.1 S.2.1 dX8_story_16 (by rw [c11]; decide) (by rw [c11]; decide) (off := 111) (by rw [c11]; decide) (by decide) ?_
      refine lv_aload_n S.1 S.2.1 dX8_story_127 rfl (lv_at hl 1 rfl) ?_
      refine ed_get (r := (μ 7 14 0)) S ed_uX8 hK hM ed_v14 rfl (ed_e14 cy B 7 0 _) rfl 0 (by decide) ed_w2_70 rfl rfl dX8_story_128 ?_
      refine lv_iload_n S.1 S.2.1 dX8_story_131 rfl (lv_at hl 2 rfl) ?_
      refine lv_iconst (v := (-1)) S.1 S.2.1 dX8_story_132 (by decide) ?_
      refine lv_iconst (v := 1) S.1 S.2.1 dX8_story_133 (by decide) ?_
      obtain ⟨r14, hq14, hf⟩ := ed_b_e hf
      refine ed_kI (ed_rV S hK (ed_eta hM) (c_X5_copiesOf _ D cy B μ 0 (by decide) x1 (-1) 1 (μ 0) r14 hq14) (cwV 3 S.2.2.2.2 (ed_gV ed_w3_108 ed_w3_109 ed_w3_110 ed_w1_2 ed_w3_111) rfl rfl rfl hd_X5_copiesOf ⟨Nat.le_of_ble_eq_true rfl, Nat.le_of_ble_eq_true rfl⟩) (ed_rc (q := (RX5, TX5, 11)) (r := (μ 0 0 0)) hK hM (ed_v0 (by decide) 0) rfl (ed_e0 cy B 0 0 _) rfl) rfl hl.1 rfl (Nat.le_of_ble_eq_true rfl) dX8_story_134 ⟨Nat.zero_le _, Nat.zero_le _⟩) hS (fun H locs hM hS => ?_)
      have hM : ed_P D cy B μ H := by rw [← ed_sJ_eta μ 0]; exact hM
      obtain rfl := Option.some.inj hf
      exact ed_ri S hr hlocks hM hS dX8_story_137
    replace hf := ed_in_ c11 hf
    by_cases c12 : x2 = 10
    · replace hf := ed_ip c12 hf
      refine lv_tableIn (tgt := 138) S.1 S.2.1 dX8_story_16 (by rw [c12]; decide) (by rw [c12]; decide) (off := 122) (by rw [c12]; decide) (by decide) ?_
      refine lv_aload_n S.1 S.2.1 dX8_story_138 rfl (lv_at hl 1 rfl) ?_
      refine ed_get (r := (μ 7 14 0)) S ed_uX8 hK hM ed_v14 rfl (ed_e14 cy B 7 0 _) rfl 0 (by decide) ed_w2_70 rfl rfl dX8_story_139 ?_
      refine lv_iload_n S.1 S.2.1 dX8_story_142 rfl (lv_at hl 2 rfl) ?_
      obtain ⟨r15, hq15, hf⟩ := ed_b_e hf
      refine ed_kI (ed_rV S hK (ed_eta hM) (c_X5_upToDateCopies _ D cy B μ 0 (by decide) x1 (μ 0) r15 hq15) (cwV 1 S.2.2.2.2 (ed_gV ed_w3_173 ed_w3_174 ed_w3_175 ed_w1_2 ed_w3_176) rfl rfl rfl hd_X5_upToDateCopies ⟨Nat.le_of_ble_eq_true rfl, Nat.le_of_ble_eq_true rfl⟩) (ed_rc (q := (RX5, TX5, 11)) (r := (μ 0 0 0)) hK hM (ed_v0 (by decide) 0) rfl (ed_e0 cy B 0 0 _) rfl) rfl hl.1 rfl (Nat.le_of_ble_eq_true rfl) dX8_story_143 ⟨Nat.zero_le _, Nat.zero_le _⟩) hS (fun H locs hM hS => ?_)
      have hM : ed_P D cy B μ H := by rw [← ed_sJ_eta μ 0]; exact hM
      obtain rfl := Option.some.inj hf
      exact ed_ri S hr hlocks hM hS dX8_story_146
    replace hf := ed_in_ c12 hf
    have tc2 : x2.toInt ≠ 0 := fun q => c2 (Int32.toInt_inj.mp (by rw [q]; decide))
    have tc3 : x2.toInt ≠ 1 := fun q => c3 (Int32.toInt_inj.mp (by rw [q]; decide))
    have tc4 : x2.toInt ≠ 2 := fun q => c4 (Int32.toInt_inj.mp (by rw [q]; decide))
    have tc5 : x2.toInt ≠ 3 := fun q => c5 (Int32.toInt_inj.mp (by rw [q]; decide))
    have tc6 : x2.toInt ≠ 4 := fun q => c6 (Int32.toInt_inj.mp (by rw [q]; decide))
    have tc7 : x2.toInt ≠ 5 := fun q => c7 (Int32.toInt_inj.mp (by rw [q]; decide))
    have tc8 : x2.toInt ≠ 6 := fun q => c8 (Int32.toInt_inj.mp (by rw [q]; decide))
    have tc9 : x2.toInt ≠ 7 := fun q => c9 (Int32.toInt_inj.mp (by rw [q]; decide))
    have tc10 : x2.toInt ≠ 8 := fun q => c10 (Int32.toInt_inj.mp (by rw [q]; decide))
    have tc11 : x2.toInt ≠ 9 := fun q => c11 (Int32.toInt_inj.mp (by rw [q]; decide))
    have tc12 : x2.toInt ≠ 10 := fun q => c12 (Int32.toInt_inj.mp (by rw [q]; decide))
    refine lv_tableOut (tgt := 147) S.1 S.2.1 dX8_story_16 (by omega) (by decide) ?_
    refine lv_bipush (v := (-2)) S.1 S.2.1 dX8_story_147 (by decide) ?_
    obtain rfl := Option.some.inj hf
    exact ed_ri S hr hlocks hM hS dX8_story_149
set_option maxHeartbeats 4000000 in
set_option maxRecDepth 100000 in
theorem c_X8_byline (l : Launch) (D : va_G) (cy : Nat → ClassId) (B : Nat) (x1 x2 : Int32) (μ : ed_CM) (r : Int32) (hf : f_X8_byline x1 x2 μ = some r) :
    Met l yX8_byline wsX8_byline rmX8_byline (ed_pC D cy (ed_P D cy B μ) [.ref (B + ed_oF 7 14 0), .int x1, .int x2]) (ed_qI (ed_A B) (ed_P D cy B μ) r) 0 0 (ed_A B) := by
  refine Met.ofW (cc := cX8_byline) (maxL := 4) (ret := (some .int)) (by decide) rfl ?_
  intro p e s m args below meth c s₁ B0 hml hv
  obtain ⟨rfl, hM, hK⟩ := hv
  have S : CallFix p m c cX8_byline 4 s _ ed_ws RX8 := ⟨B0.exec, B0.bytes, hml, findClass_of_methodNamed B0.named, fun w hw => atoms_spec (ws := wsX8_byline) B0.pre w (List.mem_cons_of_mem _ hw)⟩
  have hr := B0.returns
  have hlocks := B0.notSynchronized
  have hS : va_S (ed_A B) s.heap s.heap [] := va_S.rf
  have hl := lv_entry ([.ref (B + ed_oF 7 14 0), .int x1, .int x2]) (n := 4) (Nat.le_of_ble_eq_true rfl)
  rw [lg_entry_eq]
  generalize (lg_sl ([.ref (B + ed_oF 7 14 0), .int x1, .int x2]) ++ List.replicate (4 - (lg_sl ([.ref (B + ed_oF 7 14 0), .int x1, .int x2])).length) Slot.unset).toArray = ls at hl ⊢
  have hl : lv_has ls 4 [(0, .ref (B + ed_oF 7 14 0)), (1, .int x1), (2, .int x2)] := hl
  unfold f_X8_byline at hf
  refine lv_aload_n S.1 S.2.1 dX8_byline_0 rfl (lv_at hl 0 rfl) ?_
  refine ed_get (r := (μ 7 14 0)) S ed_uX8 hK hM ed_v14 rfl (ed_e14 cy B 7 0 _) rfl 0 (by decide) ed_w2_70 rfl rfl dX8_byline_1 ?_
  refine lv_iload_n S.1 S.2.1 dX8_byline_4 rfl (lv_at hl 1 rfl) ?_
  obtain ⟨o1, hq1, hf⟩ := ed_b_e hf
  refine ed_kA (ed_rV S hK (ed_eta hM) (c_X5_storyAt _ D cy B μ 0 (by decide) x1 (μ 0) o1 hq1) (cwV 1 S.2.2.2.2 (ed_gV ed_w2_232 ed_w2_130 ed_w2_131 ed_w1_2 ed_w2_132) rfl rfl rfl hd_X5_storyAt ⟨Nat.le_of_ble_eq_true rfl, Nat.le_of_ble_eq_true rfl⟩) (ed_rc (q := (RX5, TX5, 11)) (r := (μ 0 0 0)) hK hM (ed_v0 (by decide) 0) rfl (ed_e0 cy B 0 0 _) rfl) rfl hl.1 rfl (Nat.le_of_ble_eq_true rfl) dX8_byline_5 ⟨Nat.zero_le _, Nat.zero_le _⟩) hS (fun H locs hM hS => ?_)
  have hM : ed_P D cy B μ H := by rw [← ed_sJ_eta μ 0]; exact hM
  cases o1 with
  | none =>
    dsimp only at hf
    refine W.eq (g2 := F0 m 8 ls (.null :: [])) rfl ?_
    refine lv_astore_nN (lv' := [(3, .null), (0, .ref (B + ed_oF 7 14 0)), (1, .int x1), (2, .int x2)]) S.1 S.2.1 dX8_byline_8 rfl hl (by decide) rfl (fun ls hl => ?_)
    refine lv_aload_nN S.1 S.2.1 dX8_byline_9 rfl (lv_at hl 0 rfl) ?_
    refine lv_ifnonnullN S.1 S.2.1 dX8_byline_10 ?_
    refine lv_iconst (v := (-1)) S.1 S.2.1 dX8_byline_13 (by decide) ?_
    obtain rfl := Option.some.inj hf
    exact ed_ri S hr hlocks hM hS dX8_byline_14
  | some n1q =>
    dsimp only at hf
    obtain ⟨hn1q, hf⟩ := ed_g_e hf
    refine W.eq (g2 := F0 m 8 ls (.ref (B + ed_oF 0 7 n1q) :: [])) rfl ?_
    refine lv_astore_n (lv' := [(3, .ref (B + ed_oF 0 7 n1q)), (0, .ref (B + ed_oF 7 14 0)), (1, .int x1), (2, .int x2)]) S.1 S.2.1 dX8_byline_8 rfl hl (by decide) rfl (fun ls hl => ?_)
    refine lv_aload_n S.1 S.2.1 dX8_byline_9 rfl (lv_at hl 0 rfl) ?_
    refine lv_ifnonnull (tgt := 15) S.1 S.2.1 dX8_byline_10 (by decide) ?_
    refine lv_iload_n S.1 S.2.1 dX8_byline_15 rfl (lv_at hl 3 rfl) ?_
    refine lv_if_ge (tgt := 24) S.1 S.2.1 dX8_byline_16 (by decide) (fun c2 => ?_) (fun c2 => ?_)
    · replace hf := ed_ip c2 hf
      refine lv_aload_n S.1 S.2.1 dX8_byline_24 rfl (lv_at hl 0 rfl) ?_
      refine lv_iload_n S.1 S.2.1 dX8_byline_25 rfl (lv_at hl 3 rfl) ?_
      obtain ⟨r3, hq3, hf⟩ := ed_b_e hf
      refine ed_kI (ed_rV S hK (ed_eta hM) (c_X6_authorAt _ D cy B μ 0 (by decide) n1q hn1q x2 (μ 0) r3 hq3) (cwV 1 S.2.2.2.2 (ed_gV ed_w3_218 ed_w3_57 ed_w3_58 ed_w1_4 ed_w3_59) rfl rfl rfl hd_X6_authorAt ⟨Nat.le_of_ble_eq_true rfl, Nat.le_of_ble_eq_true rfl⟩) (ed_rc (q := (RX6, TX6, 11)) (r := (μ 0 7 n1q)) hK hM (ed_v7 (by decide) hn1q 7) rfl (ed_e7 cy B 0 n1q _) rfl) rfl hl.1 rfl (Nat.le_of_ble_eq_true rfl) dX8_byline_26 ⟨Nat.zero_le _, Nat.zero_le _⟩) hS (fun H locs hM hS => ?_)
      have hM : ed_P D cy B μ H := by rw [← ed_sJ_eta μ 0]; exact hM
      obtain rfl := Option.some.inj hf
      exact ed_ri S hr hlocks hM hS dX8_byline_29
    · replace hf := ed_in_ c2 hf
      refine lv_bipush (v := (-2)) S.1 S.2.1 dX8_byline_19 (by decide) ?_
      refine lv_goto (tgt := 29) S.1 S.2.1 dX8_byline_21 (by decide) ?_
      obtain rfl := Option.some.inj hf
      exact ed_ri S hr hlocks hM hS dX8_byline_29
set_option maxHeartbeats 4000000 in
set_option maxRecDepth 100000 in
theorem c_X8_correction (l : Launch) (D : va_G) (cy : Nat → ClassId) (B : Nat) (x1 x2 : Int32) (μ : ed_CM) (r : Int32) (hf : f_X8_correction x1 x2 μ = some r) :
    Met l yX8_correction wsX8_correction rmX8_correction (ed_pC D cy (ed_P D cy B μ) [.ref (B + ed_oF 7 14 0), .int x1, .int x2]) (ed_qI (ed_A B) (ed_P D cy B μ) r) 0 0 (ed_A B) := by
  refine Met.ofW (cc := cX8_correction) (maxL := 4) (ret := (some .int)) (by decide) rfl ?_
  intro p e s m args below meth c s₁ B0 hml hv
  obtain ⟨rfl, hM, hK⟩ := hv
  have S : CallFix p m c cX8_correction 4 s _ ed_ws RX8 := ⟨B0.exec, B0.bytes, hml, findClass_of_methodNamed B0.named, fun w hw => atoms_spec (ws := wsX8_correction) B0.pre w (List.mem_cons_of_mem _ hw)⟩
  have hr := B0.returns
  have hlocks := B0.notSynchronized
  have hS : va_S (ed_A B) s.heap s.heap [] := va_S.rf
  have hl := lv_entry ([.ref (B + ed_oF 7 14 0), .int x1, .int x2]) (n := 4) (Nat.le_of_ble_eq_true rfl)
  rw [lg_entry_eq]
  generalize (lg_sl ([.ref (B + ed_oF 7 14 0), .int x1, .int x2]) ++ List.replicate (4 - (lg_sl ([.ref (B + ed_oF 7 14 0), .int x1, .int x2])).length) Slot.unset).toArray = ls at hl ⊢
  have hl : lv_has ls 4 [(0, .ref (B + ed_oF 7 14 0)), (1, .int x1), (2, .int x2)] := hl
  unfold f_X8_correction at hf
  refine lv_aload_n S.1 S.2.1 dX8_correction_0 rfl (lv_at hl 0 rfl) ?_
  refine ed_get (r := (μ 7 14 0)) S ed_uX8 hK hM ed_v14 rfl (ed_e14 cy B 7 0 _) rfl 0 (by decide) ed_w2_70 rfl rfl dX8_correction_1 ?_
  refine lv_iload_n S.1 S.2.1 dX8_correction_4 rfl (lv_at hl 1 rfl) ?_
  obtain ⟨o1, hq1, hf⟩ := ed_b_e hf
  refine ed_kA (ed_rV S hK (ed_eta hM) (c_X5_storyAt _ D cy B μ 0 (by decide) x1 (μ 0) o1 hq1) (cwV 1 S.2.2.2.2 (ed_gV ed_w2_232 ed_w2_130 ed_w2_131 ed_w1_2 ed_w2_132) rfl rfl rfl hd_X5_storyAt ⟨Nat.le_of_ble_eq_true rfl, Nat.le_of_ble_eq_true rfl⟩) (ed_rc (q := (RX5, TX5, 11)) (r := (μ 0 0 0)) hK hM (ed_v0 (by decide) 0) rfl (ed_e0 cy B 0 0 _) rfl) rfl hl.1 rfl (Nat.le_of_ble_eq_true rfl) dX8_correction_5 ⟨Nat.zero_le _, Nat.zero_le _⟩) hS (fun H locs hM hS => ?_)
  have hM : ed_P D cy B μ H := by rw [← ed_sJ_eta μ 0]; exact hM
  cases o1 with
  | none =>
    dsimp only at hf
    refine W.eq (g2 := F0 m 8 ls (.null :: [])) rfl ?_
    refine lv_astore_nN (lv' := [(3, .null), (0, .ref (B + ed_oF 7 14 0)), (1, .int x1), (2, .int x2)]) S.1 S.2.1 dX8_correction_8 rfl hl (by decide) rfl (fun ls hl => ?_)
    refine lv_aload_nN S.1 S.2.1 dX8_correction_9 rfl (lv_at hl 0 rfl) ?_
    refine lv_ifnonnullN S.1 S.2.1 dX8_correction_10 ?_
    refine lv_iconst (v := (-1)) S.1 S.2.1 dX8_correction_13 (by decide) ?_
    obtain rfl := Option.some.inj hf
    exact ed_ri S hr hlocks hM hS dX8_correction_14
  | some n1q =>
    dsimp only at hf
    obtain ⟨hn1q, hf⟩ := ed_g_e hf
    refine W.eq (g2 := F0 m 8 ls (.ref (B + ed_oF 0 7 n1q) :: [])) rfl ?_
    refine lv_astore_n (lv' := [(3, .ref (B + ed_oF 0 7 n1q)), (0, .ref (B + ed_oF 7 14 0)), (1, .int x1), (2, .int x2)]) S.1 S.2.1 dX8_correction_8 rfl hl (by decide) rfl (fun ls hl => ?_)
    refine lv_aload_n S.1 S.2.1 dX8_correction_9 rfl (lv_at hl 0 rfl) ?_
    refine lv_ifnonnull (tgt := 15) S.1 S.2.1 dX8_correction_10 (by decide) ?_
    refine lv_iload_n S.1 S.2.1 dX8_correction_15 rfl (lv_at hl 3 rfl) ?_
    refine lv_if_ge (tgt := 24) S.1 S.2.1 dX8_correction_16 (by decide) (fun c2 => ?_) (fun c2 => ?_)
    · replace hf := ed_ip c2 hf
      refine lv_aload_n S.1 S.2.1 dX8_correction_24 rfl (lv_at hl 0 rfl) ?_
      refine lv_iload_n S.1 S.2.1 dX8_correction_25 rfl (lv_at hl 3 rfl) ?_
      obtain ⟨r3, hq3, hf⟩ := ed_b_e hf
      refine ed_kI (ed_rV S hK (ed_eta hM) (c_X6_correctedAt _ D cy B μ 0 (by decide) n1q hn1q x2 (μ 0) r3 hq3) (cwV 1 S.2.2.2.2 (ed_gV ed_w3_181 ed_w3_84 ed_w3_85 ed_w1_4 ed_w3_86) rfl rfl rfl hd_X6_correctedAt ⟨Nat.le_of_ble_eq_true rfl, Nat.le_of_ble_eq_true rfl⟩) (ed_rc (q := (RX6, TX6, 11)) (r := (μ 0 7 n1q)) hK hM (ed_v7 (by decide) hn1q 7) rfl (ed_e7 cy B 0 n1q _) rfl) rfl hl.1 rfl (Nat.le_of_ble_eq_true rfl) dX8_correction_26 ⟨Nat.zero_le _, Nat.zero_le _⟩) hS (fun H locs hM hS => ?_)
      have hM : ed_P D cy B μ H := by rw [← ed_sJ_eta μ 0]; exact hM
      obtain rfl := Option.some.inj hf
      exact ed_ri S hr hlocks hM hS dX8_correction_29
    · replace hf := ed_in_ c2 hf
      refine lv_bipush (v := (-2)) S.1 S.2.1 dX8_correction_19 (by decide) ?_
      refine lv_goto (tgt := 29) S.1 S.2.1 dX8_correction_21 (by decide) ?_
      obtain rfl := Option.some.inj hf
      exact ed_ri S hr hlocks hM hS dX8_correction_29
set_option maxHeartbeats 4000000 in
set_option maxRecDepth 100000 in
theorem c_X8_client (l : Launch) (D : va_G) (cy : Nat → ClassId) (B : Nat) (x1 x2 : Int32) (μ : ed_CM) (r : Int32) (hf : f_X8_client x1 x2 μ = some r) :
    Met l yX8_client wsX8_client rmX8_client (ed_pC D cy (ed_P D cy B μ) [.ref (B + ed_oF 7 14 0), .int x1, .int x2]) (ed_qI (ed_A B) (ed_P D cy B μ) r) 0 0 (ed_A B) := by
  refine Met.ofW (cc := cX8_client) (maxL := 4) (ret := (some .int)) (by decide) rfl ?_
  intro p e s m args below meth c s₁ B0 hml hv
  obtain ⟨rfl, hM, hK⟩ := hv
  have S : CallFix p m c cX8_client 4 s _ ed_ws RX8 := ⟨B0.exec, B0.bytes, hml, findClass_of_methodNamed B0.named, fun w hw => atoms_spec (ws := wsX8_client) B0.pre w (List.mem_cons_of_mem _ hw)⟩
  have hr := B0.returns
  have hlocks := B0.notSynchronized
  have hS : va_S (ed_A B) s.heap s.heap [] := va_S.rf
  have hl := lv_entry ([.ref (B + ed_oF 7 14 0), .int x1, .int x2]) (n := 4) (Nat.le_of_ble_eq_true rfl)
  rw [lg_entry_eq]
  generalize (lg_sl ([.ref (B + ed_oF 7 14 0), .int x1, .int x2]) ++ List.replicate (4 - (lg_sl ([.ref (B + ed_oF 7 14 0), .int x1, .int x2])).length) Slot.unset).toArray = ls at hl ⊢
  have hl : lv_has ls 4 [(0, .ref (B + ed_oF 7 14 0)), (1, .int x1), (2, .int x2)] := hl
  unfold f_X8_client at hf
  refine lv_aload_n S.1 S.2.1 dX8_client_0 rfl (lv_at hl 0 rfl) ?_
  refine ed_get (r := (μ 7 14 0)) S ed_uX8 hK hM ed_v14 rfl (ed_e14 cy B 7 0 _) rfl 0 (by decide) ed_w2_70 rfl rfl dX8_client_1 ?_
  refine lv_iload_n S.1 S.2.1 dX8_client_4 rfl (lv_at hl 1 rfl) ?_
  obtain ⟨o1, hq1, hf⟩ := ed_b_e hf
  refine ed_kA (ed_rV S hK (ed_eta hM) (c_X5_clientAt _ D cy B μ 0 (by decide) x1 (μ 0) o1 hq1) (cwV 1 S.2.2.2.2 (ed_gV ed_w2_172 ed_w2_145 ed_w2_146 ed_w1_2 ed_w2_147) rfl rfl rfl hd_X5_clientAt ⟨Nat.le_of_ble_eq_true rfl, Nat.le_of_ble_eq_true rfl⟩) (ed_rc (q := (RX5, TX5, 11)) (r := (μ 0 0 0)) hK hM (ed_v0 (by decide) 0) rfl (ed_e0 cy B 0 0 _) rfl) rfl hl.1 rfl (Nat.le_of_ble_eq_true rfl) dX8_client_5 ⟨Nat.zero_le _, Nat.zero_le _⟩) hS (fun H locs hM hS => ?_)
  have hM : ed_P D cy B μ H := by rw [← ed_sJ_eta μ 0]; exact hM
  cases o1 with
  | none =>
    dsimp only at hf
    refine W.eq (g2 := F0 m 8 ls (.null :: [])) rfl ?_
    refine lv_astore_nN (lv' := [(3, .null), (0, .ref (B + ed_oF 7 14 0)), (1, .int x1), (2, .int x2)]) S.1 S.2.1 dX8_client_8 rfl hl (by decide) rfl (fun ls hl => ?_)
    refine lv_aload_nN S.1 S.2.1 dX8_client_9 rfl (lv_at hl 0 rfl) ?_
    refine lv_ifnonnullN S.1 S.2.1 dX8_client_10 ?_
    refine lv_iconst (v := (-1)) S.1 S.2.1 dX8_client_13 (by decide) ?_
    obtain rfl := Option.some.inj hf
    exact ed_ri S hr hlocks hM hS dX8_client_14
  | some n1q =>
    dsimp only at hf
    obtain ⟨hn1q, hf⟩ := ed_g_e hf
    refine W.eq (g2 := F0 m 8 ls (.ref (B + ed_oF 0 11 n1q) :: [])) rfl ?_
    refine lv_astore_n (lv' := [(3, .ref (B + ed_oF 0 11 n1q)), (0, .ref (B + ed_oF 7 14 0)), (1, .int x1), (2, .int x2)]) S.1 S.2.1 dX8_client_8 rfl hl (by decide) rfl (fun ls hl => ?_)
    refine lv_aload_n S.1 S.2.1 dX8_client_9 rfl (lv_at hl 0 rfl) ?_
    refine lv_ifnonnull (tgt := 15) S.1 S.2.1 dX8_client_10 (by decide) ?_
    refine lv_iload_n S.1 S.2.1 dX8_client_15 rfl (lv_at hl 3 rfl) ?_
    by_cases c2 : x2 = 0
    · replace hf := ed_ip c2 hf
      refine lv_tableIn (tgt := 76) S.1 S.2.1 dX8_client_16 (by rw [c2]; decide) (by rw [c2]; decide) (off := 60) (by rw [c2]; decide) (by decide) ?_
      refine lv_aload_n S.1 S.2.1 dX8_client_76 rfl (lv_at hl 0 rfl) ?_
      refine ed_get (r := (μ 0 11 n1q)) S ed_uX0 hK hM (ed_v11 (by decide) hn1q) rfl (ed_e11 cy B 0 n1q _) rfl 0 (by decide) ed_w1_111 rfl rfl dX8_client_77 ?_
      obtain rfl := Option.some.inj hf
      exact ed_ri S hr hlocks hM hS dX8_client_80
    replace hf := ed_in_ c2 hf
    by_cases c3 : x2 = 1
    · replace hf := ed_ip c3 hf
      refine lv_tableIn (tgt := 81) S.1 S.2.1 dX8_client_16 (by rw [c3]; decide) (by rw [c3]; decide) (off := 65) (by rw [c3]; decide) (by decide) ?_
      refine lv_aload_n S.1 S.2.1 dX8_client_81 rfl (lv_at hl 0 rfl) ?_
      refine ed_get (r := (μ 0 11 n1q)) S ed_uX0 hK hM (ed_v11 (by decide) hn1q) rfl (ed_e11 cy B 0 n1q _) rfl 1 (by decide) ed_w1_114 rfl rfl dX8_client_82 ?_
      obtain rfl := Option.some.inj hf
      exact ed_ri S hr hlocks hM hS dX8_client_85
    replace hf := ed_in_ c3 hf
    by_cases c4 : x2 = 2
    · replace hf := ed_ip c4 hf
      refine lv_tableIn (tgt := 86) S.1 S.2.1 dX8_client_16 (by rw [c4]; decide) (by rw [c4]; decide) (off := 70) (by rw [c4]; decide) (by decide) ?_
      refine lv_aload_n S.1 S.2.1 dX8_client_86 rfl (lv_at hl 0 rfl) ?_
      refine ed_get (r := (μ 0 11 n1q)) S ed_uX0 hK hM (ed_v11 (by decide) hn1q) rfl (ed_e11 cy B 0 n1q _) rfl 2 (by decide) ed_w1_117 rfl rfl dX8_client_87 ?_
      obtain rfl := Option.some.inj hf
      exact ed_ri S hr hlocks hM hS dX8_client_90
    replace hf := ed_in_ c4 hf
    by_cases c5 : x2 = 3
    · replace hf := ed_ip c5 hf
      refine lv_tableIn (tgt := 91) S.1 S.2.1 dX8_client_16 (by rw [c5]; decide) (by rw [c5]; decide) (off := 75) (by rw [c5]; decide) (by decide) ?_
      refine lv_aload_n S.1 S.2.1 dX8_client_91 rfl (lv_at hl 0 rfl) ?_
      refine ed_get (r := (μ 0 11 n1q)) S ed_uX0 hK hM (ed_v11 (by decide) hn1q) rfl (ed_e11 cy B 0 n1q _) rfl 3 (by decide) ed_w1_119 rfl rfl dX8_client_92 ?_
      obtain rfl := Option.some.inj hf
      exact ed_ri S hr hlocks hM hS dX8_client_95
    replace hf := ed_in_ c5 hf
    by_cases c6 : x2 = 4
    · replace hf := ed_ip c6 hf
      refine lv_tableIn (tgt := 96) S.1 S.2.1 dX8_client_16 (by rw [c6]; decide) (by rw [c6]; decide) (off := 80) (by rw [c6]; decide) (by decide) ?_
      refine lv_aload_n S.1 S.2.1 dX8_client_96 rfl (lv_at hl 0 rfl) ?_
      refine ed_get (r := (μ 0 11 n1q)) S ed_uX0 hK hM (ed_v11 (by decide) hn1q) rfl (ed_e11 cy B 0 n1q _) rfl 4 (by decide) ed_w1_122 rfl rfl dX8_client_97 ?_
      obtain rfl := Option.some.inj hf
      exact ed_ri S hr hlocks hM hS dX8_client_100
    replace hf := ed_in_ c6 hf
    by_cases c7 : x2 = 5
    · replace hf := ed_ip c7 hf
      refine lv_tableIn (tgt := 101) S.1 S.2.1 dX8_client_16 (by rw [c7]; decide) (by rw [c7]; decide) (off := 85) (by rw [c7]; decide) (by decide) ?_
      refine lv_aload_n S.1 S.2.1 dX8_client_101 rfl (lv_at hl 0 rfl) ?_
      refine ed_get (r := (μ 0 11 n1q)) S ed_uX0 hK hM (ed_v11 (by decide) hn1q) rfl (ed_e11 cy B 0 n1q _) rfl 5 (by decide) ed_w1_124 rfl rfl dX8_client_102 ?_
      refine lv_if_eq (tgt := 112) S.1 S.2.1 dX8_client_105 (by decide) (fun c13 => ?_) (fun c13 => ?_)
      · replace hf := ed_ip c13 hf
        refine lv_iconst (v := 0) S.1 S.2.1 dX8_client_112 (by decide) ?_
        obtain rfl := Option.some.inj hf
        exact ed_ri S hr hlocks hM hS dX8_client_113
      · replace hf := ed_in_ c13 hf
        refine lv_iconst (v := 1) S.1 S.2.1 dX8_client_108 (by decide) ?_
        refine lv_goto (tgt := 113) S.1 S.2.1 dX8_client_109 (by decide) ?_
        obtain rfl := Option.some.inj hf
        exact ed_ri S hr hlocks hM hS dX8_client_113
    replace hf := ed_in_ c7 hf
    by_cases c8 : x2 = 6
    · replace hf := ed_ip c8 hf
      refine lv_tableIn (tgt := 114) S.1 S.2.1 dX8_client_16 (by rw [c8]; decide) (by rw [c8]; decide) (off := 98) (by rw [c8]; decide) (by decide) ?_
      refine lv_aload_n S.1 S.2.1 dX8_client_114 rfl (lv_at hl 0 rfl) ?_
      refine ed_get (r := (μ 0 11 n1q)) S ed_uX0 hK hM (ed_v11 (by decide) hn1q) rfl (ed_e11 cy B 0 n1q _) rfl 6 (by decide) ed_w1_127 rfl rfl dX8_client_115 ?_
      obtain rfl := Option.some.inj hf
      exact ed_ri S hr hlocks hM hS dX8_client_118
    replace hf := ed_in_ c8 hf
    by_cases c9 : x2 = 7
    · replace hf := ed_ip c9 hf
      refine lv_tableIn (tgt := 119) S.1 S.2.1 dX8_client_16 (by rw [c9]; decide) (by rw [c9]; decide) (off := 103) (by rw [c9]; decide) (by decide) ?_
      refine lv_aload_n S.1 S.2.1 dX8_client_119 rfl (lv_at hl 0 rfl) ?_
      refine ed_get (r := (μ 0 11 n1q)) S ed_uX0 hK hM (ed_v11 (by decide) hn1q) rfl (ed_e11 cy B 0 n1q _) rfl 7 (by decide) ed_w1_131 rfl rfl dX8_client_120 ?_
      obtain rfl := Option.some.inj hf
      exact ed_ri S hr hlocks hM hS dX8_client_123
    replace hf := ed_in_ c9 hf
    by_cases c10 : x2 = 8
    · replace hf := ed_ip c10 hf
      refine lv_tableIn (tgt := 124) S.1 S.2.1 dX8_client_16 (by rw [c10]; decide) (by rw [c10]; decide) (off := 108) (by rw [c10]; decide) (by decide) ?_
      refine lv_aload_n S.1 S.2.1 dX8_client_124 rfl (lv_at hl 0 rfl) ?_
      refine ed_get (r := (μ 0 11 n1q)) S ed_uX0 hK hM (ed_v11 (by decide) hn1q) rfl (ed_e11 cy B 0 n1q _) rfl 8 (by decide) ed_w1_134 rfl rfl dX8_client_125 ?_
      obtain rfl := Option.some.inj hf
      exact ed_ri S hr hlocks hM hS dX8_client_128
    replace hf := ed_in_ c10 hf
    by_cases c11 : x2 = 9
    · replace hf := ed_ip c11 hf
      refine lv_tableIn (tgt := 129) S.1 S.2.1 dX8_client_16 (by rw [c11]; decide) (by rw [c11]; decide) (off := 113) (by rw [c11]; decide) (by decide) ?_
      refine lv_aload_n S.1 S.2.1 dX8_client_129 rfl (lv_at hl 1 rfl) ?_
      refine ed_get (r := (μ 7 14 0)) S ed_uX8 hK hM ed_v14 rfl (ed_e14 cy B 7 0 _) rfl 0 (by decide) ed_w2_70 rfl rfl dX8_client_130 ?_
      refine lv_iconst (v := (-1)) S.1 S.2.1 dX8_client_133 (by decide) ?_
      refine lv_iload_n S.1 S.2.1 dX8_client_134 rfl (lv_at hl 2 rfl) ?_
      refine lv_iconst (v := 1) S.1 S.2.1 dX8_client_135 (by decide) ?_
      obtain ⟨r14, hq14, hf⟩ := ed_b_e hf
      refine ed_kI (ed_rV S hK (ed_eta hM) (c_X5_copiesOf _ D cy B μ 0 (by decide) (-1) x1 1 (μ 0) r14 hq14) (cwV 3 S.2.2.2.2 (ed_gV ed_w3_108 ed_w3_109 ed_w3_110 ed_w1_2 ed_w3_111) rfl rfl rfl hd_X5_copiesOf ⟨Nat.le_of_ble_eq_true rfl, Nat.le_of_ble_eq_true rfl⟩) (ed_rc (q := (RX5, TX5, 11)) (r := (μ 0 0 0)) hK hM (ed_v0 (by decide) 0) rfl (ed_e0 cy B 0 0 _) rfl) rfl hl.1 rfl (Nat.le_of_ble_eq_true rfl) dX8_client_136 ⟨Nat.zero_le _, Nat.zero_le _⟩) hS (fun H locs hM hS => ?_)
      have hM : ed_P D cy B μ H := by rw [← ed_sJ_eta μ 0]; exact hM
      obtain rfl := Option.some.inj hf
      exact ed_ri S hr hlocks hM hS dX8_client_139
    replace hf := ed_in_ c11 hf
    by_cases c12 : x2 = 10
    · replace hf := ed_ip c12 hf
      refine lv_tableIn (tgt := 140) S.1 S.2.1 dX8_client_16 (by rw [c12]; decide) (by rw [c12]; decide) (off := 124) (by rw [c12]; decide) (by decide) ?_
      refine lv_aload_n S.1 S.2.1 dX8_client_140 rfl (lv_at hl 0 rfl) ?_
      refine ed_get (r := (μ 0 11 n1q)) S ed_uX0 hK hM (ed_v11 (by decide) hn1q) rfl (ed_e11 cy B 0 n1q _) rfl 9 (by decide) ed_w1_137 rfl rfl dX8_client_141 ?_
      obtain rfl := Option.some.inj hf
      exact ed_ri S hr hlocks hM hS dX8_client_144
    replace hf := ed_in_ c12 hf
    have tc2 : x2.toInt ≠ 0 := fun q => c2 (Int32.toInt_inj.mp (by rw [q]; decide))
    have tc3 : x2.toInt ≠ 1 := fun q => c3 (Int32.toInt_inj.mp (by rw [q]; decide))
    have tc4 : x2.toInt ≠ 2 := fun q => c4 (Int32.toInt_inj.mp (by rw [q]; decide))
    have tc5 : x2.toInt ≠ 3 := fun q => c5 (Int32.toInt_inj.mp (by rw [q]; decide))
    have tc6 : x2.toInt ≠ 4 := fun q => c6 (Int32.toInt_inj.mp (by rw [q]; decide))
    have tc7 : x2.toInt ≠ 5 := fun q => c7 (Int32.toInt_inj.mp (by rw [q]; decide))
    have tc8 : x2.toInt ≠ 6 := fun q => c8 (Int32.toInt_inj.mp (by rw [q]; decide))
    have tc9 : x2.toInt ≠ 7 := fun q => c9 (Int32.toInt_inj.mp (by rw [q]; decide))
    have tc10 : x2.toInt ≠ 8 := fun q => c10 (Int32.toInt_inj.mp (by rw [q]; decide))
    have tc11 : x2.toInt ≠ 9 := fun q => c11 (Int32.toInt_inj.mp (by rw [q]; decide))
    have tc12 : x2.toInt ≠ 10 := fun q => c12 (Int32.toInt_inj.mp (by rw [q]; decide))
    refine lv_tableOut (tgt := 145) S.1 S.2.1 dX8_client_16 (by omega) (by decide) ?_
    refine lv_bipush (v := (-2)) S.1 S.2.1 dX8_client_145 (by decide) ?_
    obtain rfl := Option.some.inj hf
    exact ed_ri S hr hlocks hM hS dX8_client_147
set_option maxHeartbeats 4000000 in
set_option maxRecDepth 100000 in
theorem c_X8_person (l : Launch) (D : va_G) (cy : Nat → ClassId) (B : Nat) (x1 x2 : Int32) (μ : ed_CM) (r : Int32) (hf : f_X8_person x1 x2 μ = some r) :
    Met l yX8_person wsX8_person rmX8_person (ed_pC D cy (ed_P D cy B μ) [.ref (B + ed_oF 7 14 0), .int x1, .int x2]) (ed_qI (ed_A B) (ed_P D cy B μ) r) 0 0 (ed_A B) := by
  refine Met.ofW (cc := cX8_person) (maxL := 4) (ret := (some .int)) (by decide) rfl ?_
  intro p e s m args below meth c s₁ B0 hml hv
  obtain ⟨rfl, hM, hK⟩ := hv
  have S : CallFix p m c cX8_person 4 s _ ed_ws RX8 := ⟨B0.exec, B0.bytes, hml, findClass_of_methodNamed B0.named, fun w hw => atoms_spec (ws := wsX8_person) B0.pre w (List.mem_cons_of_mem _ hw)⟩
  have hr := B0.returns
  have hlocks := B0.notSynchronized
  have hS : va_S (ed_A B) s.heap s.heap [] := va_S.rf
  have hl := lv_entry ([.ref (B + ed_oF 7 14 0), .int x1, .int x2]) (n := 4) (Nat.le_of_ble_eq_true rfl)
  rw [lg_entry_eq]
  generalize (lg_sl ([.ref (B + ed_oF 7 14 0), .int x1, .int x2]) ++ List.replicate (4 - (lg_sl ([.ref (B + ed_oF 7 14 0), .int x1, .int x2])).length) Slot.unset).toArray = ls at hl ⊢
  have hl : lv_has ls 4 [(0, .ref (B + ed_oF 7 14 0)), (1, .int x1), (2, .int x2)] := hl
  unfold f_X8_person at hf
  refine lv_aload_n S.1 S.2.1 dX8_person_0 rfl (lv_at hl 0 rfl) ?_
  refine ed_get (r := (μ 7 14 0)) S ed_uX8 hK hM ed_v14 rfl (ed_e14 cy B 7 0 _) rfl 0 (by decide) ed_w2_70 rfl rfl dX8_person_1 ?_
  refine lv_iload_n S.1 S.2.1 dX8_person_4 rfl (lv_at hl 1 rfl) ?_
  obtain ⟨o1, hq1, hf⟩ := ed_b_e hf
  refine ed_kA (ed_rV S hK (ed_eta hM) (c_X5_personAt _ D cy B μ 0 (by decide) x1 (μ 0) o1 hq1) (cwV 1 S.2.2.2.2 (ed_gV ed_w3_189 ed_w2_169 ed_w2_170 ed_w1_2 ed_w2_171) rfl rfl rfl hd_X5_personAt ⟨Nat.le_of_ble_eq_true rfl, Nat.le_of_ble_eq_true rfl⟩) (ed_rc (q := (RX5, TX5, 11)) (r := (μ 0 0 0)) hK hM (ed_v0 (by decide) 0) rfl (ed_e0 cy B 0 0 _) rfl) rfl hl.1 rfl (Nat.le_of_ble_eq_true rfl) dX8_person_5 ⟨Nat.zero_le _, Nat.zero_le _⟩) hS (fun H locs hM hS => ?_)
  have hM : ed_P D cy B μ H := by rw [← ed_sJ_eta μ 0]; exact hM
  cases o1 with
  | none =>
    dsimp only at hf
    refine W.eq (g2 := F0 m 8 ls (.null :: [])) rfl ?_
    refine lv_astore_nN (lv' := [(3, .null), (0, .ref (B + ed_oF 7 14 0)), (1, .int x1), (2, .int x2)]) S.1 S.2.1 dX8_person_8 rfl hl (by decide) rfl (fun ls hl => ?_)
    refine lv_aload_nN S.1 S.2.1 dX8_person_9 rfl (lv_at hl 0 rfl) ?_
    refine lv_ifnonnullN S.1 S.2.1 dX8_person_10 ?_
    refine lv_iconst (v := (-1)) S.1 S.2.1 dX8_person_13 (by decide) ?_
    obtain rfl := Option.some.inj hf
    exact ed_ri S hr hlocks hM hS dX8_person_14
  | some n1q =>
    dsimp only at hf
    obtain ⟨hn1q, hf⟩ := ed_g_e hf
    refine W.eq (g2 := F0 m 8 ls (.ref (B + ed_oF 0 13 n1q) :: [])) rfl ?_
    refine lv_astore_n (lv' := [(3, .ref (B + ed_oF 0 13 n1q)), (0, .ref (B + ed_oF 7 14 0)), (1, .int x1), (2, .int x2)]) S.1 S.2.1 dX8_person_8 rfl hl (by decide) rfl (fun ls hl => ?_)
    refine lv_aload_n S.1 S.2.1 dX8_person_9 rfl (lv_at hl 0 rfl) ?_
    refine lv_ifnonnull (tgt := 15) S.1 S.2.1 dX8_person_10 (by decide) ?_
    refine lv_iload_n S.1 S.2.1 dX8_person_15 rfl (lv_at hl 3 rfl) ?_
    by_cases c2 : x2 = 0
    · replace hf := ed_ip c2 hf
      refine lv_tableIn (tgt := 48) S.1 S.2.1 dX8_person_16 (by rw [c2]; decide) (by rw [c2]; decide) (off := 32) (by rw [c2]; decide) (by decide) ?_
      refine lv_aload_n S.1 S.2.1 dX8_person_48 rfl (lv_at hl 0 rfl) ?_
      refine ed_get (r := (μ 0 13 n1q)) S ed_uX4 hK hM (ed_v13 (by decide) hn1q) rfl (ed_e13 cy B 0 n1q _) rfl 0 (by decide) ed_w1_202 rfl rfl dX8_person_49 ?_
      obtain rfl := Option.some.inj hf
      exact ed_ri S hr hlocks hM hS dX8_person_52
    replace hf := ed_in_ c2 hf
    by_cases c3 : x2 = 1
    · replace hf := ed_ip c3 hf
      refine lv_tableIn (tgt := 53) S.1 S.2.1 dX8_person_16 (by rw [c3]; decide) (by rw [c3]; decide) (off := 37) (by rw [c3]; decide) (by decide) ?_
      refine lv_aload_n S.1 S.2.1 dX8_person_53 rfl (lv_at hl 0 rfl) ?_
      refine ed_get (r := (μ 0 13 n1q)) S ed_uX4 hK hM (ed_v13 (by decide) hn1q) rfl (ed_e13 cy B 0 n1q _) rfl 1 (by decide) ed_w1_205 rfl rfl dX8_person_54 ?_
      obtain rfl := Option.some.inj hf
      exact ed_ri S hr hlocks hM hS dX8_person_57
    replace hf := ed_in_ c3 hf
    by_cases c4 : x2 = 2
    · replace hf := ed_ip c4 hf
      refine lv_tableIn (tgt := 58) S.1 S.2.1 dX8_person_16 (by rw [c4]; decide) (by rw [c4]; decide) (off := 42) (by rw [c4]; decide) (by decide) ?_
      refine lv_aload_n S.1 S.2.1 dX8_person_58 rfl (lv_at hl 1 rfl) ?_
      refine ed_get (r := (μ 7 14 0)) S ed_uX8 hK hM ed_v14 rfl (ed_e14 cy B 7 0 _) rfl 0 (by decide) ed_w2_70 rfl rfl dX8_person_59 ?_
      refine lv_iload_n S.1 S.2.1 dX8_person_62 rfl (lv_at hl 2 rfl) ?_
      obtain ⟨r6, hq6, hf⟩ := ed_b_e hf
      refine ed_kI (ed_rV S hK (ed_eta hM) (c_X5_storiesBy _ D cy B μ 0 (by decide) x1 (μ 0) r6 hq6) (cwV 1 S.2.2.2.2 (ed_gV ed_w3_190 ed_w3_128 ed_w3_129 ed_w1_2 ed_w3_130) rfl rfl rfl hd_X5_storiesBy ⟨Nat.le_of_ble_eq_true rfl, Nat.le_of_ble_eq_true rfl⟩) (ed_rc (q := (RX5, TX5, 11)) (r := (μ 0 0 0)) hK hM (ed_v0 (by decide) 0) rfl (ed_e0 cy B 0 0 _) rfl) rfl hl.1 rfl (Nat.le_of_ble_eq_true rfl) dX8_person_63 ⟨Nat.zero_le _, Nat.zero_le _⟩) hS (fun H locs hM hS => ?_)
      have hM : ed_P D cy B μ H := by rw [← ed_sJ_eta μ 0]; exact hM
      obtain rfl := Option.some.inj hf
      exact ed_ri S hr hlocks hM hS dX8_person_66
    replace hf := ed_in_ c4 hf
    by_cases c5 : x2 = 3
    · replace hf := ed_ip c5 hf
      refine lv_tableIn (tgt := 67) S.1 S.2.1 dX8_person_16 (by rw [c5]; decide) (by rw [c5]; decide) (off := 51) (by rw [c5]; decide) (by decide) ?_
      refine lv_aload_n S.1 S.2.1 dX8_person_67 rfl (lv_at hl 1 rfl) ?_
      refine ed_get (r := (μ 7 14 0)) S ed_uX8 hK hM ed_v14 rfl (ed_e14 cy B 7 0 _) rfl 0 (by decide) ed_w2_70 rfl rfl dX8_person_68 ?_
      refine lv_iload_n S.1 S.2.1 dX8_person_71 rfl (lv_at hl 2 rfl) ?_
      obtain ⟨r7, hq7, hf⟩ := ed_b_e hf
      refine ed_kI (ed_rV S hK (ed_eta hM) (c_X5_copiesInUseBy _ D cy B μ 0 (by decide) x1 (μ 0) r7 hq7) (cwV 1 S.2.2.2.2 (ed_gV ed_w3_191 ed_w3_192 ed_w3_193 ed_w1_2 ed_w3_194) rfl rfl rfl hd_X5_copiesInUseBy ⟨Nat.le_of_ble_eq_true rfl, Nat.le_of_ble_eq_true rfl⟩) (ed_rc (q := (RX5, TX5, 11)) (r := (μ 0 0 0)) hK hM (ed_v0 (by decide) 0) rfl (ed_e0 cy B 0 0 _) rfl) rfl hl.1 rfl (Nat.le_of_ble_eq_true rfl) dX8_person_72 ⟨Nat.zero_le _, Nat.zero_le _⟩) hS (fun H locs hM hS => ?_)
      have hM : ed_P D cy B μ H := by rw [← ed_sJ_eta μ 0]; exact hM
      obtain rfl := Option.some.inj hf
      exact ed_ri S hr hlocks hM hS dX8_person_75
    replace hf := ed_in_ c5 hf
    have tc2 : x2.toInt ≠ 0 := fun q => c2 (Int32.toInt_inj.mp (by rw [q]; decide))
    have tc3 : x2.toInt ≠ 1 := fun q => c3 (Int32.toInt_inj.mp (by rw [q]; decide))
    have tc4 : x2.toInt ≠ 2 := fun q => c4 (Int32.toInt_inj.mp (by rw [q]; decide))
    have tc5 : x2.toInt ≠ 3 := fun q => c5 (Int32.toInt_inj.mp (by rw [q]; decide))
    refine lv_tableOut (tgt := 76) S.1 S.2.1 dX8_person_16 (by omega) (by decide) ?_
    refine lv_bipush (v := (-2)) S.1 S.2.1 dX8_person_76 (by decide) ?_
    obtain rfl := Option.some.inj hf
    exact ed_ri S hr hlocks hM hS dX8_person_78
set_option maxHeartbeats 4000000 in
set_option maxRecDepth 100000 in
theorem c_X8_copy (l : Launch) (D : va_G) (cy : Nat → ClassId) (B : Nat) (x1 x2 x3 : Int32) (μ : ed_CM) (r : Int32) (hf : f_X8_copy x1 x2 x3 μ = some r) :
    Met l yX8_copy wsX8_copy rmX8_copy (ed_pC D cy (ed_P D cy B μ) [.ref (B + ed_oF 7 14 0), .int x1, .int x2, .int x3]) (ed_qI (ed_A B) (ed_P D cy B μ) r) 0 0 (ed_A B) := by
  refine Met.ofW (cc := cX8_copy) (maxL := 5) (ret := (some .int)) (by decide) rfl ?_
  intro p e s m args below meth c s₁ B0 hml hv
  obtain ⟨rfl, hM, hK⟩ := hv
  have S : CallFix p m c cX8_copy 5 s _ ed_ws RX8 := ⟨B0.exec, B0.bytes, hml, findClass_of_methodNamed B0.named, fun w hw => atoms_spec (ws := wsX8_copy) B0.pre w (List.mem_cons_of_mem _ hw)⟩
  have hr := B0.returns
  have hlocks := B0.notSynchronized
  have hS : va_S (ed_A B) s.heap s.heap [] := va_S.rf
  have hl := lv_entry ([.ref (B + ed_oF 7 14 0), .int x1, .int x2, .int x3]) (n := 5) (Nat.le_of_ble_eq_true rfl)
  rw [lg_entry_eq]
  generalize (lg_sl ([.ref (B + ed_oF 7 14 0), .int x1, .int x2, .int x3]) ++ List.replicate (5 - (lg_sl ([.ref (B + ed_oF 7 14 0), .int x1, .int x2, .int x3])).length) Slot.unset).toArray = ls at hl ⊢
  have hl : lv_has ls 5 [(0, .ref (B + ed_oF 7 14 0)), (1, .int x1), (2, .int x2), (3, .int x3)] := hl
  unfold f_X8_copy at hf
  refine lv_aload_n S.1 S.2.1 dX8_copy_0 rfl (lv_at hl 0 rfl) ?_
  refine ed_get (r := (μ 7 14 0)) S ed_uX8 hK hM ed_v14 rfl (ed_e14 cy B 7 0 _) rfl 0 (by decide) ed_w2_70 rfl rfl dX8_copy_1 ?_
  refine lv_iload_n S.1 S.2.1 dX8_copy_4 rfl (lv_at hl 1 rfl) ?_
  refine lv_iload_n S.1 S.2.1 dX8_copy_5 rfl (lv_at hl 2 rfl) ?_
  obtain ⟨o1, hq1, hf⟩ := ed_b_e hf
  refine ed_kA (ed_rV S hK (ed_eta hM) (c_X5_copyFor _ D cy B μ 0 (by decide) x1 x2 (μ 0) o1 hq1) (cwV 2 S.2.2.2.2 (ed_gV ed_w3_153 ed_w3_154 ed_w3_155 ed_w1_2 ed_w3_156) rfl rfl rfl hd_X5_copyFor ⟨Nat.le_of_ble_eq_true rfl, Nat.le_of_ble_eq_true rfl⟩) (ed_rc (q := (RX5, TX5, 11)) (r := (μ 0 0 0)) hK hM (ed_v0 (by decide) 0) rfl (ed_e0 cy B 0 0 _) rfl) rfl hl.1 rfl (Nat.le_of_ble_eq_true rfl) dX8_copy_6 ⟨Nat.zero_le _, Nat.zero_le _⟩) hS (fun H locs hM hS => ?_)
  have hM : ed_P D cy B μ H := by rw [← ed_sJ_eta μ 0]; exact hM
  cases o1 with
  | none =>
    dsimp only at hf
    refine W.eq (g2 := F0 m 9 ls (.null :: [])) rfl ?_
    refine lv_astoreN (lv' := [(4, .null), (0, .ref (B + ed_oF 7 14 0)), (1, .int x1), (2, .int x2), (3, .int x3)]) S.1 S.2.1 dX8_copy_9 hl (by decide) rfl (fun ls hl => ?_)
    refine lv_aloadN S.1 S.2.1 dX8_copy_11 (lv_at hl 0 rfl) ?_
    refine lv_ifnonnullN S.1 S.2.1 dX8_copy_13 ?_
    refine lv_iconst (v := (-1)) S.1 S.2.1 dX8_copy_16 (by decide) ?_
    obtain rfl := Option.some.inj hf
    exact ed_ri S hr hlocks hM hS dX8_copy_17
  | some n1q =>
    dsimp only at hf
    obtain ⟨hn1q, hf⟩ := ed_g_e hf
    refine W.eq (g2 := F0 m 9 ls (.ref (B + ed_oF 0 12 n1q) :: [])) rfl ?_
    refine lv_astore (lv' := [(4, .ref (B + ed_oF 0 12 n1q)), (0, .ref (B + ed_oF 7 14 0)), (1, .int x1), (2, .int x2), (3, .int x3)]) S.1 S.2.1 dX8_copy_9 hl (by decide) rfl (fun ls hl => ?_)
    refine lv_aload S.1 S.2.1 dX8_copy_11 (lv_at hl 0 rfl) ?_
    refine lv_ifnonnull (tgt := 18) S.1 S.2.1 dX8_copy_13 (by decide) ?_
    refine lv_iload_n S.1 S.2.1 dX8_copy_18 rfl (lv_at hl 4 rfl) ?_
    by_cases c2 : x3 = 0
    · replace hf := ed_ip c2 hf
      refine lv_tableIn (tgt := 68) S.1 S.2.1 dX8_copy_19 (by rw [c2]; decide) (by rw [c2]; decide) (off := 49) (by rw [c2]; decide) (by decide) ?_
      refine lv_aload S.1 S.2.1 dX8_copy_68 (lv_at hl 0 rfl) ?_
      refine ed_get (r := (μ 0 12 n1q)) S ed_uX1 hK hM (ed_v12 (by decide) hn1q) rfl (ed_e12 cy B 0 n1q _) rfl 2 (by decide) ed_w1_172 rfl rfl dX8_copy_70 ?_
      obtain rfl := Option.some.inj hf
      exact ed_ri S hr hlocks hM hS dX8_copy_73
    replace hf := ed_in_ c2 hf
    by_cases c3 : x3 = 1
    · replace hf := ed_ip c3 hf
      refine lv_tableIn (tgt := 74) S.1 S.2.1 dX8_copy_19 (by rw [c3]; decide) (by rw [c3]; decide) (off := 55) (by rw [c3]; decide) (by decide) ?_
      refine lv_aload S.1 S.2.1 dX8_copy_74 (lv_at hl 0 rfl) ?_
      refine ed_get (r := (μ 0 12 n1q)) S ed_uX1 hK hM (ed_v12 (by decide) hn1q) rfl (ed_e12 cy B 0 n1q _) rfl 3 (by decide) ed_w1_175 rfl rfl dX8_copy_76 ?_
      obtain rfl := Option.some.inj hf
      exact ed_ri S hr hlocks hM hS dX8_copy_79
    replace hf := ed_in_ c3 hf
    by_cases c4 : x3 = 2
    · replace hf := ed_ip c4 hf
      refine lv_tableIn (tgt := 80) S.1 S.2.1 dX8_copy_19 (by rw [c4]; decide) (by rw [c4]; decide) (off := 61) (by rw [c4]; decide) (by decide) ?_
      refine lv_aload S.1 S.2.1 dX8_copy_80 (lv_at hl 0 rfl) ?_
      refine ed_get (r := (μ 0 12 n1q)) S ed_uX1 hK hM (ed_v12 (by decide) hn1q) rfl (ed_e12 cy B 0 n1q _) rfl 4 (by decide) ed_w1_178 rfl rfl dX8_copy_82 ?_
      obtain rfl := Option.some.inj hf
      exact ed_ri S hr hlocks hM hS dX8_copy_85
    replace hf := ed_in_ c4 hf
    by_cases c5 : x3 = 3
    · replace hf := ed_ip c5 hf
      refine lv_tableIn (tgt := 86) S.1 S.2.1 dX8_copy_19 (by rw [c5]; decide) (by rw [c5]; decide) (off := 67) (by rw [c5]; decide) (by decide) ?_
      refine lv_aload S.1 S.2.1 dX8_copy_86 (lv_at hl 0 rfl) ?_
      refine ed_get (r := (μ 0 12 n1q)) S ed_uX1 hK hM (ed_v12 (by decide) hn1q) rfl (ed_e12 cy B 0 n1q _) rfl 5 (by decide) ed_w1_181 rfl rfl dX8_copy_88 ?_
      obtain rfl := Option.some.inj hf
      exact ed_ri S hr hlocks hM hS dX8_copy_91
    replace hf := ed_in_ c5 hf
    by_cases c6 : x3 = 4
    · replace hf := ed_ip c6 hf
      refine lv_tableIn (tgt := 92) S.1 S.2.1 dX8_copy_19 (by rw [c6]; decide) (by rw [c6]; decide) (off := 73) (by rw [c6]; decide) (by decide) ?_
      refine lv_aload_n S.1 S.2.1 dX8_copy_92 rfl (lv_at hl 1 rfl) ?_
      refine ed_get (r := (μ 7 14 0)) S ed_uX8 hK hM ed_v14 rfl (ed_e14 cy B 7 0 _) rfl 0 (by decide) ed_w2_70 rfl rfl dX8_copy_93 ?_
      refine lv_aload S.1 S.2.1 dX8_copy_96 (lv_at hl 0 rfl) ?_
      obtain ⟨r11, hq11, hf⟩ := ed_b_e hf
      refine ed_kI (ed_rV S hK (ed_eta hM) (c_X5_correctionsMissing _ D cy B μ 0 (by decide) n1q hn1q (μ 0) r11 hq11) (cwV 1 S.2.2.2.2 (ed_gV ed_w3_157 ed_w3_158 ed_w3_159 ed_w1_2 ed_w3_160) rfl rfl rfl hd_X5_correctionsMissing ⟨Nat.le_of_ble_eq_true rfl, Nat.le_of_ble_eq_true rfl⟩) (ed_rc (q := (RX5, TX5, 11)) (r := (μ 0 0 0)) hK hM (ed_v0 (by decide) 0) rfl (ed_e0 cy B 0 0 _) rfl) rfl hl.1 rfl (Nat.le_of_ble_eq_true rfl) dX8_copy_98 ⟨Nat.zero_le _, Nat.zero_le _⟩) hS (fun H locs hM hS => ?_)
      have hM : ed_P D cy B μ H := by rw [← ed_sJ_eta μ 0]; exact hM
      obtain rfl := Option.some.inj hf
      exact ed_ri S hr hlocks hM hS dX8_copy_101
    replace hf := ed_in_ c6 hf
    by_cases c7 : x3 = 5
    · replace hf := ed_ip c7 hf
      refine lv_tableIn (tgt := 102) S.1 S.2.1 dX8_copy_19 (by rw [c7]; decide) (by rw [c7]; decide) (off := 83) (by rw [c7]; decide) (by decide) ?_
      refine lv_aload_n S.1 S.2.1 dX8_copy_102 rfl (lv_at hl 1 rfl) ?_
      refine ed_get (r := (μ 7 14 0)) S ed_uX8 hK hM ed_v14 rfl (ed_e14 cy B 7 0 _) rfl 0 (by decide) ed_w2_70 rfl rfl dX8_copy_103 ?_
      refine lv_aload S.1 S.2.1 dX8_copy_106 (lv_at hl 0 rfl) ?_
      obtain ⟨r12, hq12, hf⟩ := ed_b_e hf
      refine ed_kI (ed_rV S hK (ed_eta hM) (c_X5_correctionsDue _ D cy B μ 0 (by decide) n1q hn1q (μ 0) r12 hq12) (cwV 1 S.2.2.2.2 (ed_gV ed_w3_161 ed_w3_80 ed_w3_81 ed_w1_2 ed_w3_82) rfl rfl rfl hd_X5_correctionsDue ⟨Nat.le_of_ble_eq_true rfl, Nat.le_of_ble_eq_true rfl⟩) (ed_rc (q := (RX5, TX5, 11)) (r := (μ 0 0 0)) hK hM (ed_v0 (by decide) 0) rfl (ed_e0 cy B 0 0 _) rfl) rfl hl.1 rfl (Nat.le_of_ble_eq_true rfl) dX8_copy_108 ⟨Nat.zero_le _, Nat.zero_le _⟩) hS (fun H locs hM hS => ?_)
      have hM : ed_P D cy B μ H := by rw [← ed_sJ_eta μ 0]; exact hM
      obtain rfl := Option.some.inj hf
      exact ed_ri S hr hlocks hM hS dX8_copy_111
    replace hf := ed_in_ c7 hf
    by_cases c8 : x3 = 6
    · replace hf := ed_ip c8 hf
      refine lv_tableIn (tgt := 112) S.1 S.2.1 dX8_copy_19 (by rw [c8]; decide) (by rw [c8]; decide) (off := 93) (by rw [c8]; decide) (by decide) ?_
      refine lv_aload_n S.1 S.2.1 dX8_copy_112 rfl (lv_at hl 1 rfl) ?_
      refine ed_get (r := (μ 7 14 0)) S ed_uX8 hK hM ed_v14 rfl (ed_e14 cy B 7 0 _) rfl 0 (by decide) ed_w2_70 rfl rfl dX8_copy_113 ?_
      refine lv_aload S.1 S.2.1 dX8_copy_116 (lv_at hl 0 rfl) ?_
      obtain ⟨r13, hq13, hf⟩ := ed_b_e hf
      refine ed_kI (ed_rV S hK (ed_eta hM) (c_X5_nextCorrectionAt _ D cy B μ 0 (by decide) n1q hn1q (μ 0) r13 hq13) (cwV 1 S.2.2.2.2 (ed_gV ed_w3_162 ed_w3_163 ed_w3_164 ed_w1_2 ed_w3_165) rfl rfl rfl hd_X5_nextCorrectionAt ⟨Nat.le_of_ble_eq_true rfl, Nat.le_of_ble_eq_true rfl⟩) (ed_rc (q := (RX5, TX5, 11)) (r := (μ 0 0 0)) hK hM (ed_v0 (by decide) 0) rfl (ed_e0 cy B 0 0 _) rfl) rfl hl.1 rfl (Nat.le_of_ble_eq_true rfl) dX8_copy_118 ⟨Nat.zero_le _, Nat.zero_le _⟩) hS (fun H locs hM hS => ?_)
      have hM : ed_P D cy B μ H := by rw [← ed_sJ_eta μ 0]; exact hM
      obtain rfl := Option.some.inj hf
      exact ed_ri S hr hlocks hM hS dX8_copy_121
    replace hf := ed_in_ c8 hf
    by_cases c9 : x3 = 7
    · replace hf := ed_ip c9 hf
      refine lv_tableIn (tgt := 122) S.1 S.2.1 dX8_copy_19 (by rw [c9]; decide) (by rw [c9]; decide) (off := 103) (by rw [c9]; decide) (by decide) ?_
      refine lv_aload_n S.1 S.2.1 dX8_copy_122 rfl (lv_at hl 1 rfl) ?_
      refine ed_get (r := (μ 7 14 0)) S ed_uX8 hK hM ed_v14 rfl (ed_e14 cy B 7 0 _) rfl 0 (by decide) ed_w2_70 rfl rfl dX8_copy_123 ?_
      refine lv_aload S.1 S.2.1 dX8_copy_126 (lv_at hl 0 rfl) ?_
      obtain ⟨r14, hq14, hf⟩ := ed_b_e hf
      refine ed_kI (ed_rV S hK (ed_eta hM) (c_X5_killNoticeAt _ D cy B μ 0 (by decide) n1q hn1q (μ 0) r14 hq14) (cwV 1 S.2.2.2.2 (ed_gV ed_w3_167 ed_w3_76 ed_w3_77 ed_w1_2 ed_w3_78) rfl rfl rfl hd_X5_killNoticeAt ⟨Nat.le_of_ble_eq_true rfl, Nat.le_of_ble_eq_true rfl⟩) (ed_rc (q := (RX5, TX5, 11)) (r := (μ 0 0 0)) hK hM (ed_v0 (by decide) 0) rfl (ed_e0 cy B 0 0 _) rfl) rfl hl.1 rfl (Nat.le_of_ble_eq_true rfl) dX8_copy_128 ⟨Nat.zero_le _, Nat.zero_le _⟩) hS (fun H locs hM hS => ?_)
      have hM : ed_P D cy B μ H := by rw [← ed_sJ_eta μ 0]; exact hM
      obtain rfl := Option.some.inj hf
      exact ed_ri S hr hlocks hM hS dX8_copy_131
    replace hf := ed_in_ c9 hf
    by_cases c10 : x3 = 8
    · replace hf := ed_ip c10 hf
      refine lv_tableIn (tgt := 132) S.1 S.2.1 dX8_copy_19 (by rw [c10]; decide) (by rw [c10]; decide) (off := 113) (by rw [c10]; decide) (by decide) ?_
      refine lv_aload_n S.1 S.2.1 dX8_copy_132 rfl (lv_at hl 1 rfl) ?_
      refine ed_get (r := (μ 7 14 0)) S ed_uX8 hK hM ed_v14 rfl (ed_e14 cy B 7 0 _) rfl 0 (by decide) ed_w2_70 rfl rfl dX8_copy_133 ?_
      refine lv_aload S.1 S.2.1 dX8_copy_136 (lv_at hl 0 rfl) ?_
      refine ed_kI (ed_rV S hK (ed_eta hM) (c_X5_useEndsAt _ D cy B μ 0 (by decide) n1q hn1q (μ 0)) (cwV 1 S.2.2.2.2 (ed_gV ed_w3_168 ed_w3_68 ed_w3_69 ed_w1_2 ed_w3_70) rfl rfl rfl hd_X5_useEndsAt ⟨Nat.le_of_ble_eq_true rfl, Nat.le_of_ble_eq_true rfl⟩) (ed_rc (q := (RX5, TX5, 11)) (r := (μ 0 0 0)) hK hM (ed_v0 (by decide) 0) rfl (ed_e0 cy B 0 0 _) rfl) rfl hl.1 rfl (Nat.le_of_ble_eq_true rfl) dX8_copy_138 ⟨Nat.zero_le _, Nat.zero_le _⟩) hS (fun H locs hM hS => ?_)
      have hM : ed_P D cy B μ H := by rw [← ed_sJ_eta μ 0]; exact hM
      obtain rfl := Option.some.inj hf
      exact ed_ri S hr hlocks hM hS dX8_copy_141
    replace hf := ed_in_ c10 hf
    have tc2 : x3.toInt ≠ 0 := fun q => c2 (Int32.toInt_inj.mp (by rw [q]; decide))
    have tc3 : x3.toInt ≠ 1 := fun q => c3 (Int32.toInt_inj.mp (by rw [q]; decide))
    have tc4 : x3.toInt ≠ 2 := fun q => c4 (Int32.toInt_inj.mp (by rw [q]; decide))
    have tc5 : x3.toInt ≠ 3 := fun q => c5 (Int32.toInt_inj.mp (by rw [q]; decide))
    have tc6 : x3.toInt ≠ 4 := fun q => c6 (Int32.toInt_inj.mp (by rw [q]; decide))
    have tc7 : x3.toInt ≠ 5 := fun q => c7 (Int32.toInt_inj.mp (by rw [q]; decide))
    have tc8 : x3.toInt ≠ 6 := fun q => c8 (Int32.toInt_inj.mp (by rw [q]; decide))
    have tc9 : x3.toInt ≠ 7 := fun q => c9 (Int32.toInt_inj.mp (by rw [q]; decide))
    have tc10 : x3.toInt ≠ 8 := fun q => c10 (Int32.toInt_inj.mp (by rw [q]; decide))
    refine lv_tableOut (tgt := 142) S.1 S.2.1 dX8_copy_19 (by omega) (by decide) ?_
    refine lv_bipush (v := (-2)) S.1 S.2.1 dX8_copy_142 (by decide) ?_
    obtain rfl := Option.some.inj hf
    exact ed_ri S hr hlocks hM hS dX8_copy_144
set_option maxHeartbeats 4000000 in
set_option maxRecDepth 100000 in
theorem c_X8_copyAt (l : Launch) (D : va_G) (cy : Nat → ClassId) (B : Nat) (x1 : Int32) (μ : ed_CM) (r : Int32) (hf : f_X8_copyAt x1 μ = some r) :
    Met l yX8_copyAt wsX8_copyAt rmX8_copyAt (ed_pC D cy (ed_P D cy B μ) [.ref (B + ed_oF 7 14 0), .int x1]) (ed_qI (ed_A B) (ed_P D cy B μ) r) 0 0 (ed_A B) := by
  refine Met.ofW (cc := cX8_copyAt) (maxL := 3) (ret := (some .int)) (by decide) rfl ?_
  intro p e s m args below meth c s₁ B0 hml hv
  obtain ⟨rfl, hM, hK⟩ := hv
  have S : CallFix p m c cX8_copyAt 3 s _ ed_ws RX8 := ⟨B0.exec, B0.bytes, hml, findClass_of_methodNamed B0.named, fun w hw => atoms_spec (ws := wsX8_copyAt) B0.pre w (List.mem_cons_of_mem _ hw)⟩
  have hr := B0.returns
  have hlocks := B0.notSynchronized
  have hS : va_S (ed_A B) s.heap s.heap [] := va_S.rf
  have hl := lv_entry ([.ref (B + ed_oF 7 14 0), .int x1]) (n := 3) (Nat.le_of_ble_eq_true rfl)
  rw [lg_entry_eq]
  generalize (lg_sl ([.ref (B + ed_oF 7 14 0), .int x1]) ++ List.replicate (3 - (lg_sl ([.ref (B + ed_oF 7 14 0), .int x1])).length) Slot.unset).toArray = ls at hl ⊢
  have hl : lv_has ls 3 [(0, .ref (B + ed_oF 7 14 0)), (1, .int x1)] := hl
  unfold f_X8_copyAt at hf
  refine lv_iload_n S.1 S.2.1 dX8_copyAt_0 rfl (lv_at hl 1 rfl) ?_
  refine lv_if_ge (tgt := 7) S.1 S.2.1 dX8_copyAt_1 (by decide) (fun c1 => ?_) (fun c1 => ?_)
  · replace hf := ed_ip c1 hf
    refine lv_aload_n S.1 S.2.1 dX8_copyAt_7 rfl (lv_at hl 0 rfl) ?_
    refine ed_get (r := (μ 7 14 0)) S ed_uX8 hK hM ed_v14 rfl (ed_e14 cy B 7 0 _) rfl 0 (by decide) ed_w2_70 rfl rfl dX8_copyAt_8 ?_
    refine lv_iload_n S.1 S.2.1 dX8_copyAt_11 rfl (lv_at hl 1 rfl) ?_
    obtain ⟨o2, hq2, hf⟩ := ed_b_e hf
    refine ed_kA (ed_rV S hK (ed_eta hM) (c_X5_copyMade _ D cy B μ 0 (by decide) x1 (μ 0) o2 hq2) (cwV 1 S.2.2.2.2 (ed_gV ed_w3_148 ed_w2_157 ed_w2_158 ed_w1_2 ed_w2_159) rfl rfl rfl hd_X5_copyMade ⟨Nat.le_of_ble_eq_true rfl, Nat.le_of_ble_eq_true rfl⟩) (ed_rc (q := (RX5, TX5, 11)) (r := (μ 0 0 0)) hK hM (ed_v0 (by decide) 0) rfl (ed_e0 cy B 0 0 _) rfl) rfl hl.1 rfl (Nat.le_of_ble_eq_true rfl) dX8_copyAt_12 ⟨Nat.zero_le _, Nat.zero_le _⟩) hS (fun H locs hM hS => ?_)
    have hM : ed_P D cy B μ H := by rw [← ed_sJ_eta μ 0]; exact hM
    cases o2 with
    | none =>
      dsimp only at hf
      refine W.eq (g2 := F0 m 15 ls (.null :: [])) rfl ?_
      refine lv_astore_nN (lv' := [(2, .null), (0, .ref (B + ed_oF 7 14 0)), (1, .int x1)]) S.1 S.2.1 dX8_copyAt_15 rfl hl (by decide) rfl (fun ls hl => ?_)
      refine lv_aload_nN S.1 S.2.1 dX8_copyAt_16 rfl (lv_at hl 0 rfl) ?_
      refine lv_ifnonnullN S.1 S.2.1 dX8_copyAt_17 ?_
      refine lv_bipush (v := (-5)) S.1 S.2.1 dX8_copyAt_20 (by decide) ?_
      refine lv_goto (tgt := 37) S.1 S.2.1 dX8_copyAt_22 (by decide) ?_
      obtain rfl := Option.some.inj hf
      exact ed_ri S hr hlocks hM hS dX8_copyAt_37
    | some n2q =>
      dsimp only at hf
      obtain ⟨hn2q, hf⟩ := ed_g_e hf
      refine W.eq (g2 := F0 m 15 ls (.ref (B + ed_oF 0 12 n2q) :: [])) rfl ?_
      refine lv_astore_n (lv' := [(2, .ref (B + ed_oF 0 12 n2q)), (0, .ref (B + ed_oF 7 14 0)), (1, .int x1)]) S.1 S.2.1 dX8_copyAt_15 rfl hl (by decide) rfl (fun ls hl => ?_)
      refine lv_aload_n S.1 S.2.1 dX8_copyAt_16 rfl (lv_at hl 0 rfl) ?_
      refine lv_ifnonnull (tgt := 25) S.1 S.2.1 dX8_copyAt_17 (by decide) ?_
      refine lv_bipush (v := 10) S.1 S.2.1 dX8_copyAt_25 (by decide) ?_
      refine lv_aload_n S.1 S.2.1 dX8_copyAt_27 rfl (lv_at hl 0 rfl) ?_
      refine ed_get (r := (μ 0 12 n2q)) S ed_uX1 hK hM (ed_v12 (by decide) hn2q) rfl (ed_e12 cy B 0 n2q _) rfl 0 (by decide) ed_w1_166 rfl rfl dX8_copyAt_28 ?_
      refine lv_imul S.1 S.2.1 dX8_copyAt_31 ?_
      refine lv_aload_n S.1 S.2.1 dX8_copyAt_32 rfl (lv_at hl 0 rfl) ?_
      refine ed_get (r := (μ 0 12 n2q)) S ed_uX1 hK hM (ed_v12 (by decide) hn2q) rfl (ed_e12 cy B 0 n2q _) rfl 1 (by decide) ed_w1_169 rfl rfl dX8_copyAt_33 ?_
      refine lv_iadd S.1 S.2.1 dX8_copyAt_36 ?_
      obtain rfl := Option.some.inj hf
      exact ed_ri S hr hlocks hM hS dX8_copyAt_37
  · replace hf := ed_in_ c1 hf
    refine lv_bipush (v := (-2)) S.1 S.2.1 dX8_copyAt_4 (by decide) ?_
    obtain rfl := Option.some.inj hf
    exact ed_ri S hr hlocks hM hS dX8_copyAt_6
set_option maxHeartbeats 4000000 in
set_option maxRecDepth 100000 in
theorem w_X8_carriedIn_45 {p : Program} {l : Launch} {e : Env} {s : State} {m : MethodId} {args : Array Value} {below : List Frame} {meth : Method} {c : Code} {D : va_G} {cy : Nat → ClassId} {B : Nat} (S : CallFix p m c cX8_carriedIn 6 s args ed_ws RX8) (hr : meth.sig.returnType = (some .int)) (hlocks : meth.locks = false) (hK : ed_K D cy s) (r : Int32) (μ' : ed_CM) :
    ∀ (n : Nat), ∀ (m3 m4 : Nat) (x5 : Int32) (μ : ed_CM), m3 < 160 → m4 < 20 → f_X8_carriedIn_45  n m3 m4 x5 μ = some (r, μ') → ∀ (H : Heap) (locs : List Loc) (ls : Array Slot), ed_P D cy B μ H → va_S (ed_A B) s.heap H locs → lv_has ls 6 [(0, .ref (B + ed_oF 7 14 0)), (3, .ref (B + ed_oF 1 12 m3)), (4, .ref (B + ed_oF 1 7 m4)), (5, .int x5)] → W p l e (headSpec wsX8_carriedIn rmX8_carriedIn).room s m args below meth c H locs 0 0 (MQ below (ed_qI (ed_A B) (ed_P D cy B μ') r) args s 0 0 (ed_A B)) (F0 m 45 ls []) := by
  intro n
  induction n with
  | zero => intro m3 m4 x5 μ hm3 hm4 hf; rw [f_X8_carriedIn_45] at hf; cases hf
  | succ n ih =>
    intro m3 m4 x5 μ hm3 hm4 hf H locs ls hM hS hl
    rw [f_X8_carriedIn_45] at hf
    refine lv_iload S.1 S.2.1 dX8_carriedIn_45 (lv_at hl 3 rfl) ?_
    refine lv_bipush (v := 100) S.1 S.2.1 dX8_carriedIn_47 (by decide) ?_
    refine lv_icmp_gt (tgt := 93) S.1 S.2.1 dX8_carriedIn_49 (by decide) (fun c6 => ?_) (fun c6 => ?_)
    · replace hf := ed_ip c6 hf
      refine lv_bipush (v := (-5)) S.1 S.2.1 dX8_carriedIn_93 (by decide) ?_
      obtain ⟨rfl, rfl⟩ := ed_so hf
      exact ed_ri S hr hlocks hM hS dX8_carriedIn_95
    · replace hf := ed_in_ c6 hf
      refine lv_iload S.1 S.2.1 dX8_carriedIn_52 (lv_at hl 3 rfl) ?_
      refine lv_if_le (tgt := 64) S.1 S.2.1 dX8_carriedIn_54 (by decide) (fun c7 => ?_) (fun c7 => ?_)
      · replace hf := ed_ip c7 hf
        refine lv_aload_n S.1 S.2.1 dX8_carriedIn_64 rfl (lv_at hl 1 rfl) ?_
        refine ed_get (r := (μ 1 12 m3)) S ed_uX1 hK hM (ed_v12 (by decide) hm3) rfl (ed_e12 cy B 1 m3 _) rfl 2 (by decide) ed_w1_172 rfl rfl dX8_carriedIn_65 ?_
        refine lv_iconst (v := 1) S.1 S.2.1 dX8_carriedIn_68 (by decide) ?_
        refine lv_icmp_ne (tgt := 87) S.1 S.2.1 dX8_carriedIn_69 (by decide) (fun c8 => ?_) (fun c8 => ?_)
        · replace hf := ed_in_ c8 hf
          refine lv_iinc (v := x5 + 1) (lv' := [(5, .int (x5 + 1)), (0, .ref (B + ed_oF 7 14 0)), (3, .ref (B + ed_oF 1 12 m3)), (4, .ref (B + ed_oF 1 7 m4))]) S.1 S.2.1 dX8_carriedIn_87 hl (k := 3) rfl rfl (by decide) rfl (fun ls hl => ?_)
          refine lv_goto (tgt := 45) S.1 S.2.1 dX8_carriedIn_90 (by decide) ?_
          exact ih m3 m4 (x5 + 1) μ hm3 hm4 hf _ _ _ hM hS (lv_sub hl [1, 2, 3, 0] rfl)
        · replace hf := ed_ip c8 hf
          refine lv_aload_n S.1 S.2.1 dX8_carriedIn_72 rfl (lv_at hl 1 rfl) ?_
          refine ed_get (r := (μ 1 12 m3)) S ed_uX1 hK hM (ed_v12 (by decide) hm3) rfl (ed_e12 cy B 1 m3 _) rfl 5 (by decide) ed_w1_181 rfl rfl dX8_carriedIn_73 ?_
          refine lv_aload S.1 S.2.1 dX8_carriedIn_76 (lv_at hl 2 rfl) ?_
          refine ed_get (r := (μ 1 7 m4)) S ed_uX6 hK hM (ed_v7 (by decide) hm4 7) rfl (ed_e7 cy B 1 m4 _) rfl 7 (by decide) ed_w1_73 rfl rfl dX8_carriedIn_78 ?_
          refine lv_icmp_ne (tgt := 87) S.1 S.2.1 dX8_carriedIn_81 (by decide) (fun c9 => ?_) (fun c9 => ?_)
          · replace hf := ed_in_ c9 hf
            refine lv_iinc (v := x5 + 1) (lv' := [(5, .int (x5 + 1)), (0, .ref (B + ed_oF 7 14 0)), (3, .ref (B + ed_oF 1 12 m3)), (4, .ref (B + ed_oF 1 7 m4))]) S.1 S.2.1 dX8_carriedIn_87 hl (k := 3) rfl rfl (by decide) rfl (fun ls hl => ?_)
            refine lv_goto (tgt := 45) S.1 S.2.1 dX8_carriedIn_90 (by decide) ?_
            exact ih m3 m4 (x5 + 1) μ hm3 hm4 hf _ _ _ hM hS (lv_sub hl [1, 2, 3, 0] rfl)
          · replace hf := ed_ip c9 hf
            refine lv_iload S.1 S.2.1 dX8_carriedIn_84 (lv_at hl 3 rfl) ?_
            obtain ⟨rfl, rfl⟩ := ed_so hf
            exact ed_ri S hr hlocks hM hS dX8_carriedIn_86
      · replace hf := ed_in_ c7 hf
        refine lv_aload_n S.1 S.2.1 dX8_carriedIn_57 rfl (lv_at hl 0 rfl) ?_
        refine ed_get (r := (μ 7 14 0)) S ed_uX8 hK hM ed_v14 rfl (ed_e14 cy B 7 0 _) rfl 1 (by decide) ed_w2_71 rfl rfl dX8_carriedIn_58 ?_
        obtain ⟨σ10, hq10, hf⟩ := ed_b_e hf
        refine ed_kV (ed_rV S hK (ed_eta hM) (c_X5_passHour _ D cy B μ 1 (by decide) (μ 1) σ10 hq10) (cwV 0 S.2.2.2.2 (ed_gV ed_w3_5 ed_w3_6 ed_w3_7 ed_w1_2 ed_w3_8) rfl rfl rfl hd_X5_passHour ⟨Nat.le_of_ble_eq_true rfl, Nat.le_of_ble_eq_true rfl⟩) (ed_rc (q := (RX5, TX5, 11)) (r := (μ 1 0 0)) hK hM (ed_v0 (by decide) 0) rfl (ed_e0 cy B 1 0 _) rfl) rfl hl.1 rfl (Nat.le_of_ble_eq_true rfl) dX8_carriedIn_61 ⟨Nat.zero_le _, Nat.zero_le _⟩) hS (fun H locs hM hS => ?_)
        obtain ⟨μ11, eμ11, hf⟩ := ed_t_e hf
        have hM : ed_P D cy B μ11 H := by rw [eμ11]; exact hM
        refine lv_aload_n S.1 S.2.1 dX8_carriedIn_64 rfl (lv_at hl 1 rfl) ?_
        refine ed_get (r := (μ11 1 12 m3)) S ed_uX1 hK hM (ed_v12 (by decide) hm3) rfl (ed_e12 cy B 1 m3 _) rfl 2 (by decide) ed_w1_172 rfl rfl dX8_carriedIn_65 ?_
        refine lv_iconst (v := 1) S.1 S.2.1 dX8_carriedIn_68 (by decide) ?_
        refine lv_icmp_ne (tgt := 87) S.1 S.2.1 dX8_carriedIn_69 (by decide) (fun c12 => ?_) (fun c12 => ?_)
        · replace hf := ed_in_ c12 hf
          refine lv_iinc (v := x5 + 1) (lv' := [(5, .int (x5 + 1)), (0, .ref (B + ed_oF 7 14 0)), (3, .ref (B + ed_oF 1 12 m3)), (4, .ref (B + ed_oF 1 7 m4))]) S.1 S.2.1 dX8_carriedIn_87 hl (k := 3) rfl rfl (by decide) rfl (fun ls hl => ?_)
          refine lv_goto (tgt := 45) S.1 S.2.1 dX8_carriedIn_90 (by decide) ?_
          exact ih m3 m4 (x5 + 1) μ11 hm3 hm4 hf _ _ _ hM hS (lv_sub hl [1, 2, 3, 0] rfl)
        · replace hf := ed_ip c12 hf
          refine lv_aload_n S.1 S.2.1 dX8_carriedIn_72 rfl (lv_at hl 1 rfl) ?_
          refine ed_get (r := (μ11 1 12 m3)) S ed_uX1 hK hM (ed_v12 (by decide) hm3) rfl (ed_e12 cy B 1 m3 _) rfl 5 (by decide) ed_w1_181 rfl rfl dX8_carriedIn_73 ?_
          refine lv_aload S.1 S.2.1 dX8_carriedIn_76 (lv_at hl 2 rfl) ?_
          refine ed_get (r := (μ11 1 7 m4)) S ed_uX6 hK hM (ed_v7 (by decide) hm4 7) rfl (ed_e7 cy B 1 m4 _) rfl 7 (by decide) ed_w1_73 rfl rfl dX8_carriedIn_78 ?_
          refine lv_icmp_ne (tgt := 87) S.1 S.2.1 dX8_carriedIn_81 (by decide) (fun c13 => ?_) (fun c13 => ?_)
          · replace hf := ed_in_ c13 hf
            refine lv_iinc (v := x5 + 1) (lv' := [(5, .int (x5 + 1)), (0, .ref (B + ed_oF 7 14 0)), (3, .ref (B + ed_oF 1 12 m3)), (4, .ref (B + ed_oF 1 7 m4))]) S.1 S.2.1 dX8_carriedIn_87 hl (k := 3) rfl rfl (by decide) rfl (fun ls hl => ?_)
            refine lv_goto (tgt := 45) S.1 S.2.1 dX8_carriedIn_90 (by decide) ?_
            exact ih m3 m4 (x5 + 1) μ11 hm3 hm4 hf _ _ _ hM hS (lv_sub hl [1, 2, 3, 0] rfl)
          · replace hf := ed_ip c13 hf
            refine lv_iload S.1 S.2.1 dX8_carriedIn_84 (lv_at hl 3 rfl) ?_
            obtain ⟨rfl, rfl⟩ := ed_so hf
            exact ed_ri S hr hlocks hM hS dX8_carriedIn_86
set_option maxHeartbeats 4000000 in
set_option maxRecDepth 100000 in
theorem c_X8_carriedIn (l : Launch) (D : va_G) (cy : Nat → ClassId) (B : Nat) (x1 x2 : Int32) (μ : ed_CM) (r : Int32) (μ' : ed_CM) (hf : f_X8_carriedIn x1 x2 μ = some (r, μ')) :
    Met l yX8_carriedIn wsX8_carriedIn rmX8_carriedIn (ed_pC D cy (ed_P D cy B μ) [.ref (B + ed_oF 7 14 0), .int x1, .int x2]) (ed_qI (ed_A B) (ed_P D cy B μ') r) 0 0 (ed_A B) := by
  refine Met.ofW (cc := cX8_carriedIn) (maxL := 6) (ret := (some .int)) (by decide) rfl ?_
  intro p e s m args below meth c s₁ B0 hml hv
  obtain ⟨rfl, hM, hK⟩ := hv
  have S : CallFix p m c cX8_carriedIn 6 s _ ed_ws RX8 := ⟨B0.exec, B0.bytes, hml, findClass_of_methodNamed B0.named, fun w hw => atoms_spec (ws := wsX8_carriedIn) B0.pre w (List.mem_cons_of_mem _ hw)⟩
  have hr := B0.returns
  have hlocks := B0.notSynchronized
  have hS : va_S (ed_A B) s.heap s.heap [] := va_S.rf
  have hl := lv_entry ([.ref (B + ed_oF 7 14 0), .int x1, .int x2]) (n := 6) (Nat.le_of_ble_eq_true rfl)
  rw [lg_entry_eq]
  generalize (lg_sl ([.ref (B + ed_oF 7 14 0), .int x1, .int x2]) ++ List.replicate (6 - (lg_sl ([.ref (B + ed_oF 7 14 0), .int x1, .int x2])).length) Slot.unset).toArray = ls at hl ⊢
  have hl : lv_has ls 6 [(0, .ref (B + ed_oF 7 14 0)), (1, .int x1), (2, .int x2)] := hl
  unfold f_X8_carriedIn at hf
  refine lv_aload_n S.1 S.2.1 dX8_carriedIn_0 rfl (lv_at hl 0 rfl) ?_
  refine ed_get (r := (μ 7 14 0)) S ed_uX8 hK hM ed_v14 rfl (ed_e14 cy B 7 0 _) rfl 1 (by decide) ed_w2_71 rfl rfl dX8_carriedIn_1 ?_
  refine lv_aload_n S.1 S.2.1 dX8_carriedIn_4 rfl (lv_at hl 0 rfl) ?_
  refine ed_get (r := (μ 7 14 0)) S ed_uX8 hK hM ed_v14 rfl (ed_e14 cy B 7 0 _) rfl 0 (by decide) ed_w2_70 rfl rfl dX8_carriedIn_5 ?_
  obtain ⟨σ1, hq1, hf⟩ := ed_b_e hf
  refine ed_kV (ed_rV S hK (ed_eta hM) (c_X5_copyFrom _ D cy B μ 1 (by decide) 0 (by decide) (by decide) (μ 0) rfl (μ 1) σ1 hq1) (cwV 1 S.2.2.2.2 (ed_gV ed_w3_99 ed_w2_109 ed_w2_110 ed_w1_2 ed_w2_111) rfl rfl rfl hd_X5_copyFrom ⟨Nat.le_of_ble_eq_true rfl, Nat.le_of_ble_eq_true rfl⟩) (ed_rc (q := (RX5, TX5, 11)) (r := (μ 1 0 0)) hK hM (ed_v0 (by decide) 0) rfl (ed_e0 cy B 1 0 _) rfl) rfl hl.1 rfl (Nat.le_of_ble_eq_true rfl) dX8_carriedIn_8 ⟨Nat.zero_le _, Nat.zero_le _⟩) hS (fun H locs hM hS => ?_)
  obtain ⟨μ2, eμ2, hf⟩ := ed_t_e hf
  have hM : ed_P D cy B μ2 H := by rw [eμ2]; exact hM
  refine lv_aload_n S.1 S.2.1 dX8_carriedIn_11 rfl (lv_at hl 0 rfl) ?_
  refine ed_get (r := (μ2 7 14 0)) S ed_uX8 hK hM ed_v14 rfl (ed_e14 cy B 7 0 _) rfl 1 (by decide) ed_w2_71 rfl rfl dX8_carriedIn_12 ?_
  refine lv_iload_n S.1 S.2.1 dX8_carriedIn_15 rfl (lv_at hl 1 rfl) ?_
  refine lv_iload_n S.1 S.2.1 dX8_carriedIn_16 rfl (lv_at hl 2 rfl) ?_
  obtain ⟨o3, hq3, hf⟩ := ed_b_e hf
  refine ed_kA (ed_rV S hK (ed_eta hM) (c_X5_copyFor _ D cy B μ2 1 (by decide) x1 x2 (μ2 1) o3 hq3) (cwV 2 S.2.2.2.2 (ed_gV ed_w3_153 ed_w3_154 ed_w3_155 ed_w1_2 ed_w3_156) rfl rfl rfl hd_X5_copyFor ⟨Nat.le_of_ble_eq_true rfl, Nat.le_of_ble_eq_true rfl⟩) (ed_rc (q := (RX5, TX5, 11)) (r := (μ2 1 0 0)) hK hM (ed_v0 (by decide) 0) rfl (ed_e0 cy B 1 0 _) rfl) rfl hl.1 rfl (Nat.le_of_ble_eq_true rfl) dX8_carriedIn_17 ⟨Nat.zero_le _, Nat.zero_le _⟩) hS (fun H locs hM hS => ?_)
  have hM : ed_P D cy B μ2 H := by rw [← ed_sJ_eta μ2 1]; exact hM
  cases o3 with
  | none =>
    dsimp only at hf
    refine W.eq (g2 := F0 m 20 ls (.null :: [])) rfl ?_
    refine lv_astore_nN (lv' := [(3, .null), (0, .ref (B + ed_oF 7 14 0)), (1, .int x1), (2, .int x2)]) S.1 S.2.1 dX8_carriedIn_20 rfl hl (by decide) rfl (fun ls hl => ?_)
    refine lv_aload_n S.1 S.2.1 dX8_carriedIn_21 rfl (lv_at hl 1 rfl) ?_
    refine ed_get (r := (μ2 7 14 0)) S ed_uX8 hK hM ed_v14 rfl (ed_e14 cy B 7 0 _) rfl 1 (by decide) ed_w2_71 rfl rfl dX8_carriedIn_22 ?_
    refine lv_iload_n S.1 S.2.1 dX8_carriedIn_25 rfl (lv_at hl 2 rfl) ?_
    obtain ⟨o4, hq4, hf⟩ := ed_b_e hf
    refine ed_kA (ed_rV S hK (ed_eta hM) (c_X5_storyAt _ D cy B μ2 1 (by decide) x1 (μ2 1) o4 hq4) (cwV 1 S.2.2.2.2 (ed_gV ed_w2_232 ed_w2_130 ed_w2_131 ed_w1_2 ed_w2_132) rfl rfl rfl hd_X5_storyAt ⟨Nat.le_of_ble_eq_true rfl, Nat.le_of_ble_eq_true rfl⟩) (ed_rc (q := (RX5, TX5, 11)) (r := (μ2 1 0 0)) hK hM (ed_v0 (by decide) 0) rfl (ed_e0 cy B 1 0 _) rfl) rfl hl.1 rfl (Nat.le_of_ble_eq_true rfl) dX8_carriedIn_26 ⟨Nat.zero_le _, Nat.zero_le _⟩) hS (fun H locs hM hS => ?_)
    have hM : ed_P D cy B μ2 H := by rw [← ed_sJ_eta μ2 1]; exact hM
    cases o4 with
    | none =>
      dsimp only at hf
      refine W.eq (g2 := F0 m 29 ls (.null :: [])) rfl ?_
      refine lv_astoreN (lv' := [(4, .null), (3, .null), (0, .ref (B + ed_oF 7 14 0)), (1, .int x1), (2, .int x2)]) S.1 S.2.1 dX8_carriedIn_29 hl (by decide) rfl (fun ls hl => ?_)
      refine lv_aload_nN S.1 S.2.1 dX8_carriedIn_31 rfl (lv_at hl 1 rfl) ?_
      refine lv_ifnullN (tgt := 40) S.1 S.2.1 dX8_carriedIn_32 (by decide) ?_
      refine lv_iconst (v := (-1)) S.1 S.2.1 dX8_carriedIn_40 (by decide) ?_
      obtain ⟨rfl, rfl⟩ := ed_so hf
      exact ed_ri S hr hlocks hM hS dX8_carriedIn_41
    | some n4q =>
      dsimp only at hf
      obtain ⟨hn4q, hf⟩ := ed_g_e hf
      refine W.eq (g2 := F0 m 29 ls (.ref (B + ed_oF 1 7 n4q) :: [])) rfl ?_
      refine lv_astore (lv' := [(4, .ref (B + ed_oF 1 7 n4q)), (3, .null), (0, .ref (B + ed_oF 7 14 0)), (1, .int x1), (2, .int x2)]) S.1 S.2.1 dX8_carriedIn_29 hl (by decide) rfl (fun ls hl => ?_)
      refine lv_aload_nN S.1 S.2.1 dX8_carriedIn_31 rfl (lv_at hl 1 rfl) ?_
      refine lv_ifnullN (tgt := 40) S.1 S.2.1 dX8_carriedIn_32 (by decide) ?_
      refine lv_iconst (v := (-1)) S.1 S.2.1 dX8_carriedIn_40 (by decide) ?_
      obtain ⟨rfl, rfl⟩ := ed_so hf
      exact ed_ri S hr hlocks hM hS dX8_carriedIn_41
  | some n3q =>
    dsimp only at hf
    obtain ⟨hn3q, hf⟩ := ed_g_e hf
    refine W.eq (g2 := F0 m 20 ls (.ref (B + ed_oF 1 12 n3q) :: [])) rfl ?_
    refine lv_astore_n (lv' := [(3, .ref (B + ed_oF 1 12 n3q)), (0, .ref (B + ed_oF 7 14 0)), (1, .int x1), (2, .int x2)]) S.1 S.2.1 dX8_carriedIn_20 rfl hl (by decide) rfl (fun ls hl => ?_)
    refine lv_aload_n S.1 S.2.1 dX8_carriedIn_21 rfl (lv_at hl 1 rfl) ?_
    refine ed_get (r := (μ2 7 14 0)) S ed_uX8 hK hM ed_v14 rfl (ed_e14 cy B 7 0 _) rfl 1 (by decide) ed_w2_71 rfl rfl dX8_carriedIn_22 ?_
    refine lv_iload_n S.1 S.2.1 dX8_carriedIn_25 rfl (lv_at hl 2 rfl) ?_
    obtain ⟨o5, hq5, hf⟩ := ed_b_e hf
    refine ed_kA (ed_rV S hK (ed_eta hM) (c_X5_storyAt _ D cy B μ2 1 (by decide) x1 (μ2 1) o5 hq5) (cwV 1 S.2.2.2.2 (ed_gV ed_w2_232 ed_w2_130 ed_w2_131 ed_w1_2 ed_w2_132) rfl rfl rfl hd_X5_storyAt ⟨Nat.le_of_ble_eq_true rfl, Nat.le_of_ble_eq_true rfl⟩) (ed_rc (q := (RX5, TX5, 11)) (r := (μ2 1 0 0)) hK hM (ed_v0 (by decide) 0) rfl (ed_e0 cy B 1 0 _) rfl) rfl hl.1 rfl (Nat.le_of_ble_eq_true rfl) dX8_carriedIn_26 ⟨Nat.zero_le _, Nat.zero_le _⟩) hS (fun H locs hM hS => ?_)
    have hM : ed_P D cy B μ2 H := by rw [← ed_sJ_eta μ2 1]; exact hM
    cases o5 with
    | none =>
      dsimp only at hf
      refine W.eq (g2 := F0 m 29 ls (.null :: [])) rfl ?_
      refine lv_astoreN (lv' := [(4, .null), (3, .ref (B + ed_oF 1 12 n3q)), (0, .ref (B + ed_oF 7 14 0)), (1, .int x1), (2, .int x2)]) S.1 S.2.1 dX8_carriedIn_29 hl (by decide) rfl (fun ls hl => ?_)
      refine lv_aload_n S.1 S.2.1 dX8_carriedIn_31 rfl (lv_at hl 1 rfl) ?_
      refine lv_ifnull S.1 S.2.1 dX8_carriedIn_32 ?_
      refine lv_aloadN S.1 S.2.1 dX8_carriedIn_35 (lv_at hl 0 rfl) ?_
      refine lv_ifnonnullN S.1 S.2.1 dX8_carriedIn_37 ?_
      refine lv_iconst (v := (-1)) S.1 S.2.1 dX8_carriedIn_40 (by decide) ?_
      obtain ⟨rfl, rfl⟩ := ed_so hf
      exact ed_ri S hr hlocks hM hS dX8_carriedIn_41
    | some n5q =>
      dsimp only at hf
      obtain ⟨hn5q, hf⟩ := ed_g_e hf
      refine W.eq (g2 := F0 m 29 ls (.ref (B + ed_oF 1 7 n5q) :: [])) rfl ?_
      refine lv_astore (lv' := [(4, .ref (B + ed_oF 1 7 n5q)), (3, .ref (B + ed_oF 1 12 n3q)), (0, .ref (B + ed_oF 7 14 0)), (1, .int x1), (2, .int x2)]) S.1 S.2.1 dX8_carriedIn_29 hl (by decide) rfl (fun ls hl => ?_)
      refine lv_aload_n S.1 S.2.1 dX8_carriedIn_31 rfl (lv_at hl 1 rfl) ?_
      refine lv_ifnull S.1 S.2.1 dX8_carriedIn_32 ?_
      refine lv_aload S.1 S.2.1 dX8_carriedIn_35 (lv_at hl 0 rfl) ?_
      refine lv_ifnonnull (tgt := 42) S.1 S.2.1 dX8_carriedIn_37 (by decide) ?_
      refine lv_iconst (v := 0) S.1 S.2.1 dX8_carriedIn_42 (by decide) ?_
      refine lv_istore (lv' := [(5, .int 0), (4, .ref (B + ed_oF 1 7 n5q)), (3, .ref (B + ed_oF 1 12 n3q)), (0, .ref (B + ed_oF 7 14 0)), (1, .int x1), (2, .int x2)]) S.1 S.2.1 dX8_carriedIn_43 hl (by decide) rfl (fun ls hl => ?_)
      exact w_X8_carriedIn_45 S hr hlocks hK r μ' ed_N n3q n5q 0 μ2 hn3q hn5q hf _ _ _ hM hS (lv_sub hl [3, 2, 1, 0] rfl)
set_option maxHeartbeats 4000000 in
set_option maxRecDepth 100000 in
theorem w_X8_wouldCome_48 {p : Program} {l : Launch} {e : Env} {s : State} {m : MethodId} {args : Array Value} {below : List Frame} {meth : Method} {c : Code} {D : va_G} {cy : Nat → ClassId} {B : Nat} (S : CallFix p m c cX8_wouldCome 6 s args ed_ws RX8) (hr : meth.sig.returnType = (some .int)) (hlocks : meth.locks = false) (hK : ed_K D cy s) (r : Int32) (μ' : ed_CM) :
    ∀ (n : Nat), ∀ (m3 : Nat) (x2 x4 x5 : Int32) (μ : ed_CM), m3 < 8 → f_X8_wouldCome_48  n m3 x2 x4 x5 μ = some (r, μ') → ∀ (H : Heap) (locs : List Loc) (ls : Array Slot), ed_P D cy B μ H → va_S (ed_A B) s.heap H locs → lv_has ls 6 [(0, .ref (B + ed_oF 7 14 0)), (2, .int x2), (3, .ref (B + ed_oF 1 11 m3)), (4, .int x4), (5, .int x5)] → W p l e (headSpec wsX8_wouldCome rmX8_wouldCome).room s m args below meth c H locs 0 0 (MQ below (ed_qI (ed_A B) (ed_P D cy B μ') r) args s 0 0 (ed_A B)) (F0 m 48 ls []) := by
  intro n
  induction n with
  | zero => intro m3 x2 x4 x5 μ hm3 hf; rw [f_X8_wouldCome_48] at hf; cases hf
  | succ n ih =>
    intro m3 x2 x4 x5 μ hm3 hf H locs ls hM hS hl
    rw [f_X8_wouldCome_48] at hf
    refine lv_iload S.1 S.2.1 dX8_wouldCome_48 (lv_at hl 4 rfl) ?_
    refine lv_iload_n S.1 S.2.1 dX8_wouldCome_50 rfl (lv_at hl 1 rfl) ?_
    refine lv_icmp_ge (tgt := 67) S.1 S.2.1 dX8_wouldCome_51 (by decide) (fun c6 => ?_) (fun c6 => ?_)
    · replace hf := ed_ip c6 hf
      refine lv_aload_n S.1 S.2.1 dX8_wouldCome_67 rfl (lv_at hl 2 rfl) ?_
      refine ed_get (r := (μ 1 11 m3)) S ed_uX0 hK hM (ed_v11 (by decide) hm3) rfl (ed_e11 cy B 1 m3 _) rfl 8 (by decide) ed_w1_134 rfl rfl dX8_wouldCome_68 ?_
      refine lv_iload S.1 S.2.1 dX8_wouldCome_71 (lv_at hl 3 rfl) ?_
      refine lv_isub S.1 S.2.1 dX8_wouldCome_73 ?_
      obtain ⟨rfl, rfl⟩ := ed_so hf
      exact ed_ri S hr hlocks hM hS dX8_wouldCome_74
    · replace hf := ed_in_ c6 hf
      refine lv_aload_n S.1 S.2.1 dX8_wouldCome_54 rfl (lv_at hl 0 rfl) ?_
      refine ed_get (r := (μ 7 14 0)) S ed_uX8 hK hM ed_v14 rfl (ed_e14 cy B 7 0 _) rfl 1 (by decide) ed_w2_71 rfl rfl dX8_wouldCome_55 ?_
      obtain ⟨σ7, hq7, hf⟩ := ed_b_e hf
      refine ed_kV (ed_rV S hK (ed_eta hM) (c_X5_passHour _ D cy B μ 1 (by decide) (μ 1) σ7 hq7) (cwV 0 S.2.2.2.2 (ed_gV ed_w3_5 ed_w3_6 ed_w3_7 ed_w1_2 ed_w3_8) rfl rfl rfl hd_X5_passHour ⟨Nat.le_of_ble_eq_true rfl, Nat.le_of_ble_eq_true rfl⟩) (ed_rc (q := (RX5, TX5, 11)) (r := (μ 1 0 0)) hK hM (ed_v0 (by decide) 0) rfl (ed_e0 cy B 1 0 _) rfl) rfl hl.1 rfl (Nat.le_of_ble_eq_true rfl) dX8_wouldCome_58 ⟨Nat.zero_le _, Nat.zero_le _⟩) hS (fun H locs hM hS => ?_)
      obtain ⟨μ8, eμ8, hf⟩ := ed_t_e hf
      have hM : ed_P D cy B μ8 H := by rw [eμ8]; exact hM
      refine lv_iinc (v := x5 + 1) (lv' := [(5, .int (x5 + 1)), (0, .ref (B + ed_oF 7 14 0)), (2, .int x2), (3, .ref (B + ed_oF 1 11 m3)), (4, .int x4)]) S.1 S.2.1 dX8_wouldCome_61 hl (k := 4) rfl rfl (by decide) rfl (fun ls hl => ?_)
      refine lv_goto (tgt := 48) S.1 S.2.1 dX8_wouldCome_64 (by decide) ?_
      exact ih m3 x2 x4 (x5 + 1) μ8 hm3 hf _ _ _ hM hS (lv_sub hl [1, 2, 3, 4, 0] rfl)
set_option maxHeartbeats 4000000 in
set_option maxRecDepth 100000 in
theorem c_X8_wouldCome (l : Launch) (D : va_G) (cy : Nat → ClassId) (B : Nat) (x1 x2 : Int32) (μ : ed_CM) (r : Int32) (μ' : ed_CM) (hf : f_X8_wouldCome x1 x2 μ = some (r, μ')) :
    Met l yX8_wouldCome wsX8_wouldCome rmX8_wouldCome (ed_pC D cy (ed_P D cy B μ) [.ref (B + ed_oF 7 14 0), .int x1, .int x2]) (ed_qI (ed_A B) (ed_P D cy B μ') r) 0 0 (ed_A B) := by
  refine Met.ofW (cc := cX8_wouldCome) (maxL := 6) (ret := (some .int)) (by decide) rfl ?_
  intro p e s m args below meth c s₁ B0 hml hv
  obtain ⟨rfl, hM, hK⟩ := hv
  have S : CallFix p m c cX8_wouldCome 6 s _ ed_ws RX8 := ⟨B0.exec, B0.bytes, hml, findClass_of_methodNamed B0.named, fun w hw => atoms_spec (ws := wsX8_wouldCome) B0.pre w (List.mem_cons_of_mem _ hw)⟩
  have hr := B0.returns
  have hlocks := B0.notSynchronized
  have hS : va_S (ed_A B) s.heap s.heap [] := va_S.rf
  have hl := lv_entry ([.ref (B + ed_oF 7 14 0), .int x1, .int x2]) (n := 6) (Nat.le_of_ble_eq_true rfl)
  rw [lg_entry_eq]
  generalize (lg_sl ([.ref (B + ed_oF 7 14 0), .int x1, .int x2]) ++ List.replicate (6 - (lg_sl ([.ref (B + ed_oF 7 14 0), .int x1, .int x2])).length) Slot.unset).toArray = ls at hl ⊢
  have hl : lv_has ls 6 [(0, .ref (B + ed_oF 7 14 0)), (1, .int x1), (2, .int x2)] := hl
  unfold f_X8_wouldCome at hf
  refine lv_aload_n S.1 S.2.1 dX8_wouldCome_0 rfl (lv_at hl 0 rfl) ?_
  refine ed_get (r := (μ 7 14 0)) S ed_uX8 hK hM ed_v14 rfl (ed_e14 cy B 7 0 _) rfl 1 (by decide) ed_w2_71 rfl rfl dX8_wouldCome_1 ?_
  refine lv_aload_n S.1 S.2.1 dX8_wouldCome_4 rfl (lv_at hl 0 rfl) ?_
  refine ed_get (r := (μ 7 14 0)) S ed_uX8 hK hM ed_v14 rfl (ed_e14 cy B 7 0 _) rfl 0 (by decide) ed_w2_70 rfl rfl dX8_wouldCome_5 ?_
  obtain ⟨σ1, hq1, hf⟩ := ed_b_e hf
  refine ed_kV (ed_rV S hK (ed_eta hM) (c_X5_copyFrom _ D cy B μ 1 (by decide) 0 (by decide) (by decide) (μ 0) rfl (μ 1) σ1 hq1) (cwV 1 S.2.2.2.2 (ed_gV ed_w3_99 ed_w2_109 ed_w2_110 ed_w1_2 ed_w2_111) rfl rfl rfl hd_X5_copyFrom ⟨Nat.le_of_ble_eq_true rfl, Nat.le_of_ble_eq_true rfl⟩) (ed_rc (q := (RX5, TX5, 11)) (r := (μ 1 0 0)) hK hM (ed_v0 (by decide) 0) rfl (ed_e0 cy B 1 0 _) rfl) rfl hl.1 rfl (Nat.le_of_ble_eq_true rfl) dX8_wouldCome_8 ⟨Nat.zero_le _, Nat.zero_le _⟩) hS (fun H locs hM hS => ?_)
  obtain ⟨μ2, eμ2, hf⟩ := ed_t_e hf
  have hM : ed_P D cy B μ2 H := by rw [eμ2]; exact hM
  refine lv_aload_n S.1 S.2.1 dX8_wouldCome_11 rfl (lv_at hl 0 rfl) ?_
  refine ed_get (r := (μ2 7 14 0)) S ed_uX8 hK hM ed_v14 rfl (ed_e14 cy B 7 0 _) rfl 1 (by decide) ed_w2_71 rfl rfl dX8_wouldCome_12 ?_
  refine lv_iload_n S.1 S.2.1 dX8_wouldCome_15 rfl (lv_at hl 1 rfl) ?_
  obtain ⟨o3, hq3, hf⟩ := ed_b_e hf
  refine ed_kA (ed_rV S hK (ed_eta hM) (c_X5_clientAt _ D cy B μ2 1 (by decide) x1 (μ2 1) o3 hq3) (cwV 1 S.2.2.2.2 (ed_gV ed_w2_172 ed_w2_145 ed_w2_146 ed_w1_2 ed_w2_147) rfl rfl rfl hd_X5_clientAt ⟨Nat.le_of_ble_eq_true rfl, Nat.le_of_ble_eq_true rfl⟩) (ed_rc (q := (RX5, TX5, 11)) (r := (μ2 1 0 0)) hK hM (ed_v0 (by decide) 0) rfl (ed_e0 cy B 1 0 _) rfl) rfl hl.1 rfl (Nat.le_of_ble_eq_true rfl) dX8_wouldCome_16 ⟨Nat.zero_le _, Nat.zero_le _⟩) hS (fun H locs hM hS => ?_)
  have hM : ed_P D cy B μ2 H := by rw [← ed_sJ_eta μ2 1]; exact hM
  cases o3 with
  | none =>
    dsimp only at hf
    refine W.eq (g2 := F0 m 19 ls (.null :: [])) rfl ?_
    refine lv_astore_nN (lv' := [(3, .null), (0, .ref (B + ed_oF 7 14 0)), (1, .int x1), (2, .int x2)]) S.1 S.2.1 dX8_wouldCome_19 rfl hl (by decide) rfl (fun ls hl => ?_)
    refine lv_aload_nN S.1 S.2.1 dX8_wouldCome_20 rfl (lv_at hl 0 rfl) ?_
    refine lv_ifnonnullN S.1 S.2.1 dX8_wouldCome_21 ?_
    refine lv_iconst (v := (-1)) S.1 S.2.1 dX8_wouldCome_24 (by decide) ?_
    obtain ⟨rfl, rfl⟩ := ed_so hf
    exact ed_ri S hr hlocks hM hS dX8_wouldCome_25
  | some n3q =>
    dsimp only at hf
    obtain ⟨hn3q, hf⟩ := ed_g_e hf
    refine W.eq (g2 := F0 m 19 ls (.ref (B + ed_oF 1 11 n3q) :: [])) rfl ?_
    refine lv_astore_n (lv' := [(3, .ref (B + ed_oF 1 11 n3q)), (0, .ref (B + ed_oF 7 14 0)), (1, .int x1), (2, .int x2)]) S.1 S.2.1 dX8_wouldCome_19 rfl hl (by decide) rfl (fun ls hl => ?_)
    refine lv_aload_n S.1 S.2.1 dX8_wouldCome_20 rfl (lv_at hl 0 rfl) ?_
    refine lv_ifnonnull (tgt := 26) S.1 S.2.1 dX8_wouldCome_21 (by decide) ?_
    refine lv_iload_n S.1 S.2.1 dX8_wouldCome_26 rfl (lv_at hl 3 rfl) ?_
    refine lv_iconst (v := 1) S.1 S.2.1 dX8_wouldCome_27 (by decide) ?_
    refine lv_bipush (v := 100) S.1 S.2.1 dX8_wouldCome_28 (by decide) ?_
    refine ed_kI (ed_rS S hK hM (c_X8_isBetween _ D cy (ed_P D cy B μ2) (ed_A B) x2 1 100) (va_cwS 3 S.2.2.2.2 (ed_gS ed_w2_93 ed_w2_94 ed_w1_1 ed_w2_95) rfl rfl rfl hd_X8_isBetween.2 ⟨Nat.le_of_ble_eq_true rfl, Nat.le_of_ble_eq_true rfl⟩) rfl hl.1 rfl (Nat.le_of_ble_eq_true rfl) dX8_wouldCome_30 ⟨Nat.zero_le _, Nat.zero_le _⟩) hS (fun H locs hM hS => ?_)
    refine lv_if_ne (tgt := 39) S.1 S.2.1 dX8_wouldCome_33 (by decide) (fun c5 => ?_) (fun c5 => ?_)
    · replace hf := ed_in_ c5 hf
      refine lv_aload_n S.1 S.2.1 dX8_wouldCome_39 rfl (lv_at hl 0 rfl) ?_
      refine ed_get (r := (μ2 1 11 n3q)) S ed_uX0 hK hM (ed_v11 (by decide) hn3q) rfl (ed_e11 cy B 1 n3q _) rfl 8 (by decide) ed_w1_134 rfl rfl dX8_wouldCome_40 ?_
      refine lv_istore (lv' := [(4, .int (μ2 1 11 n3q 8)), (3, .ref (B + ed_oF 1 11 n3q)), (0, .ref (B + ed_oF 7 14 0)), (1, .int x1), (2, .int x2)]) S.1 S.2.1 dX8_wouldCome_43 hl (by decide) rfl (fun ls hl => ?_)
      refine lv_iconst (v := 0) S.1 S.2.1 dX8_wouldCome_45 (by decide) ?_
      refine lv_istore (lv' := [(5, .int 0), (4, .int (μ2 1 11 n3q 8)), (3, .ref (B + ed_oF 1 11 n3q)), (0, .ref (B + ed_oF 7 14 0)), (1, .int x1), (2, .int x2)]) S.1 S.2.1 dX8_wouldCome_46 hl (by decide) rfl (fun ls hl => ?_)
      exact w_X8_wouldCome_48 S hr hlocks hK r μ' ed_N n3q x2 (μ2 1 11 n3q 8) 0 μ2 hn3q hf _ _ _ hM hS (lv_sub hl [3, 5, 2, 1, 0] rfl)
    · replace hf := ed_ip c5 hf
      refine lv_bipush (v := (-2)) S.1 S.2.1 dX8_wouldCome_36 (by decide) ?_
      obtain ⟨rfl, rfl⟩ := ed_so hf
      exact ed_ri S hr hlocks hM hS dX8_wouldCome_38
set_option maxHeartbeats 4000000 in
set_option maxRecDepth 100000 in
theorem c_X8_count (l : Launch) (D : va_G) (cy : Nat → ClassId) (B : Nat) (x1 : Int32) (μ : ed_CM) (r : Int32) (hf : f_X8_count x1 μ = some r) :
    Met l yX8_count wsX8_count rmX8_count (ed_pC D cy (ed_P D cy B μ) [.ref (B + ed_oF 7 14 0), .int x1]) (ed_qI (ed_A B) (ed_P D cy B μ) r) 0 0 (ed_A B) := by
  refine Met.ofW (cc := cX8_count) (maxL := 2) (ret := (some .int)) (by decide) rfl ?_
  intro p e s m args below meth c s₁ B0 hml hv
  obtain ⟨rfl, hM, hK⟩ := hv
  have S : CallFix p m c cX8_count 2 s _ ed_ws RX8 := ⟨B0.exec, B0.bytes, hml, findClass_of_methodNamed B0.named, fun w hw => atoms_spec (ws := wsX8_count) B0.pre w (List.mem_cons_of_mem _ hw)⟩
  have hr := B0.returns
  have hlocks := B0.notSynchronized
  have hS : va_S (ed_A B) s.heap s.heap [] := va_S.rf
  have hl := lv_entry ([.ref (B + ed_oF 7 14 0), .int x1]) (n := 2) (Nat.le_of_ble_eq_true rfl)
  rw [lg_entry_eq]
  generalize (lg_sl ([.ref (B + ed_oF 7 14 0), .int x1]) ++ List.replicate (2 - (lg_sl ([.ref (B + ed_oF 7 14 0), .int x1])).length) Slot.unset).toArray = ls at hl ⊢
  have hl : lv_has ls 2 [(0, .ref (B + ed_oF 7 14 0)), (1, .int x1)] := hl
  unfold f_X8_count at hf
  refine lv_iload_n S.1 S.2.1 dX8_count_0 rfl (lv_at hl 1 rfl) ?_
  by_cases c1 : x1 = 0
  · replace hf := ed_ip c1 hf
    refine lv_tableIn (tgt := 76) S.1 S.2.1 dX8_count_1 (by rw [c1]; decide) (by rw [c1]; decide) (off := 75) (by rw [c1]; decide) (by decide) ?_
    refine lv_aload_n S.1 S.2.1 dX8_count_76 rfl (lv_at hl 0 rfl) ?_
    refine ed_get (r := (μ 7 14 0)) S ed_uX8 hK hM ed_v14 rfl (ed_e14 cy B 7 0 _) rfl 0 (by decide) ed_w2_70 rfl rfl dX8_count_77 ?_
    refine ed_get (r := (μ 0 0 0)) S ed_uX5 hK hM (ed_v0 (by decide) 0) rfl (ed_e0 cy B 0 0 _) rfl 0 (by decide) ed_w1_212 rfl rfl dX8_count_80 ?_
    obtain rfl := Option.some.inj hf
    exact ed_ri S hr hlocks hM hS dX8_count_83
  replace hf := ed_in_ c1 hf
  by_cases c2 : x1 = 1
  · replace hf := ed_ip c2 hf
    refine lv_tableIn (tgt := 84) S.1 S.2.1 dX8_count_1 (by rw [c2]; decide) (by rw [c2]; decide) (off := 83) (by rw [c2]; decide) (by decide) ?_
    refine lv_aload_n S.1 S.2.1 dX8_count_84 rfl (lv_at hl 0 rfl) ?_
    refine ed_get (r := (μ 7 14 0)) S ed_uX8 hK hM ed_v14 rfl (ed_e14 cy B 7 0 _) rfl 0 (by decide) ed_w2_70 rfl rfl dX8_count_85 ?_
    refine ed_get (r := (μ 0 0 0)) S ed_uX5 hK hM (ed_v0 (by decide) 0) rfl (ed_e0 cy B 0 0 _) rfl 4 (by decide) ed_w1_219 rfl rfl dX8_count_88 ?_
    obtain rfl := Option.some.inj hf
    exact ed_ri S hr hlocks hM hS dX8_count_91
  replace hf := ed_in_ c2 hf
  by_cases c3 : x1 = 2
  · replace hf := ed_ip c3 hf
    refine lv_tableIn (tgt := 92) S.1 S.2.1 dX8_count_1 (by rw [c3]; decide) (by rw [c3]; decide) (off := 91) (by rw [c3]; decide) (by decide) ?_
    refine lv_aload_n S.1 S.2.1 dX8_count_92 rfl (lv_at hl 0 rfl) ?_
    refine ed_get (r := (μ 7 14 0)) S ed_uX8 hK hM ed_v14 rfl (ed_e14 cy B 7 0 _) rfl 0 (by decide) ed_w2_70 rfl rfl dX8_count_93 ?_
    refine ed_get (r := (μ 0 0 0)) S ed_uX5 hK hM (ed_v0 (by decide) 0) rfl (ed_e0 cy B 0 0 _) rfl 3 (by decide) ed_w1_218 rfl rfl dX8_count_96 ?_
    obtain rfl := Option.some.inj hf
    exact ed_ri S hr hlocks hM hS dX8_count_99
  replace hf := ed_in_ c3 hf
  by_cases c4 : x1 = 3
  · replace hf := ed_ip c4 hf
    refine lv_tableIn (tgt := 100) S.1 S.2.1 dX8_count_1 (by rw [c4]; decide) (by rw [c4]; decide) (off := 99) (by rw [c4]; decide) (by decide) ?_
    refine lv_aload_n S.1 S.2.1 dX8_count_100 rfl (lv_at hl 0 rfl) ?_
    refine ed_get (r := (μ 7 14 0)) S ed_uX8 hK hM ed_v14 rfl (ed_e14 cy B 7 0 _) rfl 0 (by decide) ed_w2_70 rfl rfl dX8_count_101 ?_
    refine ed_get (r := (μ 0 0 0)) S ed_uX5 hK hM (ed_v0 (by decide) 0) rfl (ed_e0 cy B 0 0 _) rfl 5 (by decide) ed_w1_222 rfl rfl dX8_count_104 ?_
    obtain rfl := Option.some.inj hf
    exact ed_ri S hr hlocks hM hS dX8_count_107
  replace hf := ed_in_ c4 hf
  by_cases c5 : x1 = 4
  · replace hf := ed_ip c5 hf
    refine lv_tableIn (tgt := 108) S.1 S.2.1 dX8_count_1 (by rw [c5]; decide) (by rw [c5]; decide) (off := 107) (by rw [c5]; decide) (by decide) ?_
    refine lv_aload_n S.1 S.2.1 dX8_count_108 rfl (lv_at hl 0 rfl) ?_
    refine ed_get (r := (μ 7 14 0)) S ed_uX8 hK hM ed_v14 rfl (ed_e14 cy B 7 0 _) rfl 0 (by decide) ed_w2_70 rfl rfl dX8_count_109 ?_
    refine lv_iconst (v := (-1)) S.1 S.2.1 dX8_count_112 (by decide) ?_
    refine lv_iconst (v := (-1)) S.1 S.2.1 dX8_count_113 (by decide) ?_
    refine lv_iload_n S.1 S.2.1 dX8_count_114 rfl (lv_at hl 1 rfl) ?_
    refine lv_iconst (v := 4) S.1 S.2.1 dX8_count_115 (by decide) ?_
    refine lv_isub S.1 S.2.1 dX8_count_116 ?_
    obtain ⟨r16, hq16, hf⟩ := ed_b_e hf
    refine ed_kI (ed_rV S hK (ed_eta hM) (c_X5_copiesOf _ D cy B μ 0 (by decide) (-1) (-1) (x1 - 4) (μ 0) r16 hq16) (cwV 3 S.2.2.2.2 (ed_gV ed_w3_108 ed_w3_109 ed_w3_110 ed_w1_2 ed_w3_111) rfl rfl rfl hd_X5_copiesOf ⟨Nat.le_of_ble_eq_true rfl, Nat.le_of_ble_eq_true rfl⟩) (ed_rc (q := (RX5, TX5, 11)) (r := (μ 0 0 0)) hK hM (ed_v0 (by decide) 0) rfl (ed_e0 cy B 0 0 _) rfl) rfl hl.1 rfl (Nat.le_of_ble_eq_true rfl) dX8_count_117 ⟨Nat.zero_le _, Nat.zero_le _⟩) hS (fun H locs hM hS => ?_)
    have hM : ed_P D cy B μ H := by rw [← ed_sJ_eta μ 0]; exact hM
    obtain rfl := Option.some.inj hf
    exact ed_ri S hr hlocks hM hS dX8_count_120
  replace hf := ed_in_ c5 hf
  by_cases c6 : x1 = 5
  · replace hf := ed_ip c6 hf
    refine lv_tableIn (tgt := 108) S.1 S.2.1 dX8_count_1 (by rw [c6]; decide) (by rw [c6]; decide) (off := 107) (by rw [c6]; decide) (by decide) ?_
    refine lv_aload_n S.1 S.2.1 dX8_count_108 rfl (lv_at hl 0 rfl) ?_
    refine ed_get (r := (μ 7 14 0)) S ed_uX8 hK hM ed_v14 rfl (ed_e14 cy B 7 0 _) rfl 0 (by decide) ed_w2_70 rfl rfl dX8_count_109 ?_
    refine lv_iconst (v := (-1)) S.1 S.2.1 dX8_count_112 (by decide) ?_
    refine lv_iconst (v := (-1)) S.1 S.2.1 dX8_count_113 (by decide) ?_
    refine lv_iload_n S.1 S.2.1 dX8_count_114 rfl (lv_at hl 1 rfl) ?_
    refine lv_iconst (v := 4) S.1 S.2.1 dX8_count_115 (by decide) ?_
    refine lv_isub S.1 S.2.1 dX8_count_116 ?_
    obtain ⟨r17, hq17, hf⟩ := ed_b_e hf
    refine ed_kI (ed_rV S hK (ed_eta hM) (c_X5_copiesOf _ D cy B μ 0 (by decide) (-1) (-1) (x1 - 4) (μ 0) r17 hq17) (cwV 3 S.2.2.2.2 (ed_gV ed_w3_108 ed_w3_109 ed_w3_110 ed_w1_2 ed_w3_111) rfl rfl rfl hd_X5_copiesOf ⟨Nat.le_of_ble_eq_true rfl, Nat.le_of_ble_eq_true rfl⟩) (ed_rc (q := (RX5, TX5, 11)) (r := (μ 0 0 0)) hK hM (ed_v0 (by decide) 0) rfl (ed_e0 cy B 0 0 _) rfl) rfl hl.1 rfl (Nat.le_of_ble_eq_true rfl) dX8_count_117 ⟨Nat.zero_le _, Nat.zero_le _⟩) hS (fun H locs hM hS => ?_)
    have hM : ed_P D cy B μ H := by rw [← ed_sJ_eta μ 0]; exact hM
    obtain rfl := Option.some.inj hf
    exact ed_ri S hr hlocks hM hS dX8_count_120
  replace hf := ed_in_ c6 hf
  by_cases c7 : x1 = 6
  · replace hf := ed_ip c7 hf
    refine lv_tableIn (tgt := 108) S.1 S.2.1 dX8_count_1 (by rw [c7]; decide) (by rw [c7]; decide) (off := 107) (by rw [c7]; decide) (by decide) ?_
    refine lv_aload_n S.1 S.2.1 dX8_count_108 rfl (lv_at hl 0 rfl) ?_
    refine ed_get (r := (μ 7 14 0)) S ed_uX8 hK hM ed_v14 rfl (ed_e14 cy B 7 0 _) rfl 0 (by decide) ed_w2_70 rfl rfl dX8_count_109 ?_
    refine lv_iconst (v := (-1)) S.1 S.2.1 dX8_count_112 (by decide) ?_
    refine lv_iconst (v := (-1)) S.1 S.2.1 dX8_count_113 (by decide) ?_
    refine lv_iload_n S.1 S.2.1 dX8_count_114 rfl (lv_at hl 1 rfl) ?_
    refine lv_iconst (v := 4) S.1 S.2.1 dX8_count_115 (by decide) ?_
    refine lv_isub S.1 S.2.1 dX8_count_116 ?_
    obtain ⟨r18, hq18, hf⟩ := ed_b_e hf
    refine ed_kI (ed_rV S hK (ed_eta hM) (c_X5_copiesOf _ D cy B μ 0 (by decide) (-1) (-1) (x1 - 4) (μ 0) r18 hq18) (cwV 3 S.2.2.2.2 (ed_gV ed_w3_108 ed_w3_109 ed_w3_110 ed_w1_2 ed_w3_111) rfl rfl rfl hd_X5_copiesOf ⟨Nat.le_of_ble_eq_true rfl, Nat.le_of_ble_eq_true rfl⟩) (ed_rc (q := (RX5, TX5, 11)) (r := (μ 0 0 0)) hK hM (ed_v0 (by decide) 0) rfl (ed_e0 cy B 0 0 _) rfl) rfl hl.1 rfl (Nat.le_of_ble_eq_true rfl) dX8_count_117 ⟨Nat.zero_le _, Nat.zero_le _⟩) hS (fun H locs hM hS => ?_)
    have hM : ed_P D cy B μ H := by rw [← ed_sJ_eta μ 0]; exact hM
    obtain rfl := Option.some.inj hf
    exact ed_ri S hr hlocks hM hS dX8_count_120
  replace hf := ed_in_ c7 hf
  by_cases c8 : x1 = 7
  · replace hf := ed_ip c8 hf
    refine lv_tableIn (tgt := 108) S.1 S.2.1 dX8_count_1 (by rw [c8]; decide) (by rw [c8]; decide) (off := 107) (by rw [c8]; decide) (by decide) ?_
    refine lv_aload_n S.1 S.2.1 dX8_count_108 rfl (lv_at hl 0 rfl) ?_
    refine ed_get (r := (μ 7 14 0)) S ed_uX8 hK hM ed_v14 rfl (ed_e14 cy B 7 0 _) rfl 0 (by decide) ed_w2_70 rfl rfl dX8_count_109 ?_
    refine lv_iconst (v := (-1)) S.1 S.2.1 dX8_count_112 (by decide) ?_
    refine lv_iconst (v := (-1)) S.1 S.2.1 dX8_count_113 (by decide) ?_
    refine lv_iload_n S.1 S.2.1 dX8_count_114 rfl (lv_at hl 1 rfl) ?_
    refine lv_iconst (v := 4) S.1 S.2.1 dX8_count_115 (by decide) ?_
    refine lv_isub S.1 S.2.1 dX8_count_116 ?_
    obtain ⟨r19, hq19, hf⟩ := ed_b_e hf
    refine ed_kI (ed_rV S hK (ed_eta hM) (c_X5_copiesOf _ D cy B μ 0 (by decide) (-1) (-1) (x1 - 4) (μ 0) r19 hq19) (cwV 3 S.2.2.2.2 (ed_gV ed_w3_108 ed_w3_109 ed_w3_110 ed_w1_2 ed_w3_111) rfl rfl rfl hd_X5_copiesOf ⟨Nat.le_of_ble_eq_true rfl, Nat.le_of_ble_eq_true rfl⟩) (ed_rc (q := (RX5, TX5, 11)) (r := (μ 0 0 0)) hK hM (ed_v0 (by decide) 0) rfl (ed_e0 cy B 0 0 _) rfl) rfl hl.1 rfl (Nat.le_of_ble_eq_true rfl) dX8_count_117 ⟨Nat.zero_le _, Nat.zero_le _⟩) hS (fun H locs hM hS => ?_)
    have hM : ed_P D cy B μ H := by rw [← ed_sJ_eta μ 0]; exact hM
    obtain rfl := Option.some.inj hf
    exact ed_ri S hr hlocks hM hS dX8_count_120
  replace hf := ed_in_ c8 hf
  by_cases c9 : x1 = 8
  · replace hf := ed_ip c9 hf
    refine lv_tableIn (tgt := 108) S.1 S.2.1 dX8_count_1 (by rw [c9]; decide) (by rw [c9]; decide) (off := 107) (by rw [c9]; decide) (by decide) ?_
    refine lv_aload_n S.1 S.2.1 dX8_count_108 rfl (lv_at hl 0 rfl) ?_
    refine ed_get (r := (μ 7 14 0)) S ed_uX8 hK hM ed_v14 rfl (ed_e14 cy B 7 0 _) rfl 0 (by decide) ed_w2_70 rfl rfl dX8_count_109 ?_
    refine lv_iconst (v := (-1)) S.1 S.2.1 dX8_count_112 (by decide) ?_
    refine lv_iconst (v := (-1)) S.1 S.2.1 dX8_count_113 (by decide) ?_
    refine lv_iload_n S.1 S.2.1 dX8_count_114 rfl (lv_at hl 1 rfl) ?_
    refine lv_iconst (v := 4) S.1 S.2.1 dX8_count_115 (by decide) ?_
    refine lv_isub S.1 S.2.1 dX8_count_116 ?_
    obtain ⟨r20, hq20, hf⟩ := ed_b_e hf
    refine ed_kI (ed_rV S hK (ed_eta hM) (c_X5_copiesOf _ D cy B μ 0 (by decide) (-1) (-1) (x1 - 4) (μ 0) r20 hq20) (cwV 3 S.2.2.2.2 (ed_gV ed_w3_108 ed_w3_109 ed_w3_110 ed_w1_2 ed_w3_111) rfl rfl rfl hd_X5_copiesOf ⟨Nat.le_of_ble_eq_true rfl, Nat.le_of_ble_eq_true rfl⟩) (ed_rc (q := (RX5, TX5, 11)) (r := (μ 0 0 0)) hK hM (ed_v0 (by decide) 0) rfl (ed_e0 cy B 0 0 _) rfl) rfl hl.1 rfl (Nat.le_of_ble_eq_true rfl) dX8_count_117 ⟨Nat.zero_le _, Nat.zero_le _⟩) hS (fun H locs hM hS => ?_)
    have hM : ed_P D cy B μ H := by rw [← ed_sJ_eta μ 0]; exact hM
    obtain rfl := Option.some.inj hf
    exact ed_ri S hr hlocks hM hS dX8_count_120
  replace hf := ed_in_ c9 hf
  by_cases c10 : x1 = 9
  · replace hf := ed_ip c10 hf
    refine lv_tableIn (tgt := 121) S.1 S.2.1 dX8_count_1 (by rw [c10]; decide) (by rw [c10]; decide) (off := 120) (by rw [c10]; decide) (by decide) ?_
    refine lv_aload_n S.1 S.2.1 dX8_count_121 rfl (lv_at hl 0 rfl) ?_
    refine ed_get (r := (μ 7 14 0)) S ed_uX8 hK hM ed_v14 rfl (ed_e14 cy B 7 0 _) rfl 0 (by decide) ed_w2_70 rfl rfl dX8_count_122 ?_
    obtain ⟨r21, hq21, hf⟩ := ed_b_e hf
    refine ed_kI (ed_rV S hK (ed_eta hM) (c_X5_copiesWithCorrectionsDue _ D cy B μ 0 (by decide) (μ 0) r21 hq21) (cwV 0 S.2.2.2.2 (ed_gV ed_w3_119 ed_w3_120 ed_w3_121 ed_w1_2 ed_w3_122) rfl rfl rfl hd_X5_copiesWithCorrectionsDue ⟨Nat.le_of_ble_eq_true rfl, Nat.le_of_ble_eq_true rfl⟩) (ed_rc (q := (RX5, TX5, 11)) (r := (μ 0 0 0)) hK hM (ed_v0 (by decide) 0) rfl (ed_e0 cy B 0 0 _) rfl) rfl hl.1 rfl (Nat.le_of_ble_eq_true rfl) dX8_count_125 ⟨Nat.zero_le _, Nat.zero_le _⟩) hS (fun H locs hM hS => ?_)
    have hM : ed_P D cy B μ H := by rw [← ed_sJ_eta μ 0]; exact hM
    obtain rfl := Option.some.inj hf
    exact ed_ri S hr hlocks hM hS dX8_count_128
  replace hf := ed_in_ c10 hf
  by_cases c11 : x1 = 10
  · replace hf := ed_ip c11 hf
    refine lv_tableIn (tgt := 129) S.1 S.2.1 dX8_count_1 (by rw [c11]; decide) (by rw [c11]; decide) (off := 128) (by rw [c11]; decide) (by decide) ?_
    refine lv_aload_n S.1 S.2.1 dX8_count_129 rfl (lv_at hl 0 rfl) ?_
    refine ed_get (r := (μ 7 14 0)) S ed_uX8 hK hM ed_v14 rfl (ed_e14 cy B 7 0 _) rfl 0 (by decide) ed_w2_70 rfl rfl dX8_count_130 ?_
    refine ed_get (r := (μ 0 0 0)) S ed_uX5 hK hM (ed_v0 (by decide) 0) rfl (ed_e0 cy B 0 0 _) rfl 2 (by decide) ed_w1_216 rfl rfl dX8_count_133 ?_
    obtain rfl := Option.some.inj hf
    exact ed_ri S hr hlocks hM hS dX8_count_136
  replace hf := ed_in_ c11 hf
  by_cases c12 : x1 = 11
  · replace hf := ed_ip c12 hf
    refine lv_tableIn (tgt := 137) S.1 S.2.1 dX8_count_1 (by rw [c12]; decide) (by rw [c12]; decide) (off := 136) (by rw [c12]; decide) (by decide) ?_
    refine lv_aload_n S.1 S.2.1 dX8_count_137 rfl (lv_at hl 0 rfl) ?_
    refine ed_get (r := (μ 7 14 0)) S ed_uX8 hK hM ed_v14 rfl (ed_e14 cy B 7 0 _) rfl 0 (by decide) ed_w2_70 rfl rfl dX8_count_138 ?_
    obtain ⟨r22, hq22, hf⟩ := ed_b_e hf
    refine ed_kI (ed_rV S hK (ed_eta hM) (c_X5_authors _ D cy B μ 0 (by decide) (μ 0) r22 hq22) (cwV 0 S.2.2.2.2 (ed_gV ed_w3_123 ed_w3_124 ed_w3_125 ed_w1_2 ed_w3_126) rfl rfl rfl hd_X5_authors ⟨Nat.le_of_ble_eq_true rfl, Nat.le_of_ble_eq_true rfl⟩) (ed_rc (q := (RX5, TX5, 11)) (r := (μ 0 0 0)) hK hM (ed_v0 (by decide) 0) rfl (ed_e0 cy B 0 0 _) rfl) rfl hl.1 rfl (Nat.le_of_ble_eq_true rfl) dX8_count_141 ⟨Nat.zero_le _, Nat.zero_le _⟩) hS (fun H locs hM hS => ?_)
    have hM : ed_P D cy B μ H := by rw [← ed_sJ_eta μ 0]; exact hM
    obtain rfl := Option.some.inj hf
    exact ed_ri S hr hlocks hM hS dX8_count_144
  replace hf := ed_in_ c12 hf
  by_cases c13 : x1 = 12
  · replace hf := ed_ip c13 hf
    refine lv_tableIn (tgt := 145) S.1 S.2.1 dX8_count_1 (by rw [c13]; decide) (by rw [c13]; decide) (off := 144) (by rw [c13]; decide) (by decide) ?_
    refine lv_aload_n S.1 S.2.1 dX8_count_145 rfl (lv_at hl 0 rfl) ?_
    refine ed_get (r := (μ 7 14 0)) S ed_uX8 hK hM ed_v14 rfl (ed_e14 cy B 7 0 _) rfl 0 (by decide) ed_w2_70 rfl rfl dX8_count_146 ?_
    refine ed_get (r := (μ 0 0 0)) S ed_uX5 hK hM (ed_v0 (by decide) 0) rfl (ed_e0 cy B 0 0 _) rfl 1 (by decide) ed_w1_214 rfl rfl dX8_count_149 ?_
    obtain rfl := Option.some.inj hf
    exact ed_ri S hr hlocks hM hS dX8_count_152
  replace hf := ed_in_ c13 hf
  by_cases c14 : x1 = 13
  · replace hf := ed_ip c14 hf
    refine lv_tableIn (tgt := 153) S.1 S.2.1 dX8_count_1 (by rw [c14]; decide) (by rw [c14]; decide) (off := 152) (by rw [c14]; decide) (by decide) ?_
    refine lv_aload_n S.1 S.2.1 dX8_count_153 rfl (lv_at hl 0 rfl) ?_
    refine ed_get (r := (μ 7 14 0)) S ed_uX8 hK hM ed_v14 rfl (ed_e14 cy B 7 0 _) rfl 4 (by decide) ed_w2_74 rfl rfl dX8_count_154 ?_
    refine ed_get (r := (μ 7 15 0)) S ed_uX2 hK hM ed_v15 rfl (ed_e15 cy B 7 0 _) rfl 1 (by decide) ed_w2_23 rfl rfl dX8_count_157 ?_
    obtain rfl := Option.some.inj hf
    exact ed_ri S hr hlocks hM hS dX8_count_160
  replace hf := ed_in_ c14 hf
  by_cases c15 : x1 = 14
  · replace hf := ed_ip c15 hf
    refine lv_tableIn (tgt := 161) S.1 S.2.1 dX8_count_1 (by rw [c15]; decide) (by rw [c15]; decide) (off := 160) (by rw [c15]; decide) (by decide) ?_
    refine lv_aload_n S.1 S.2.1 dX8_count_161 rfl (lv_at hl 0 rfl) ?_
    refine ed_get (r := (μ 7 14 0)) S ed_uX8 hK hM ed_v14 rfl (ed_e14 cy B 7 0 _) rfl 5 (by decide) ed_w2_75 rfl rfl dX8_count_162 ?_
    refine ed_get (r := (μ 7 17 0)) S ed_uX7 hK hM ed_v17 rfl (ed_e17 cy B 7 0 _) rfl 1 (by decide) ed_w2_37 rfl rfl dX8_count_165 ?_
    obtain rfl := Option.some.inj hf
    exact ed_ri S hr hlocks hM hS dX8_count_168
  replace hf := ed_in_ c15 hf
  have tc1 : x1.toInt ≠ 0 := fun q => c1 (Int32.toInt_inj.mp (by rw [q]; decide))
  have tc2 : x1.toInt ≠ 1 := fun q => c2 (Int32.toInt_inj.mp (by rw [q]; decide))
  have tc3 : x1.toInt ≠ 2 := fun q => c3 (Int32.toInt_inj.mp (by rw [q]; decide))
  have tc4 : x1.toInt ≠ 3 := fun q => c4 (Int32.toInt_inj.mp (by rw [q]; decide))
  have tc5 : x1.toInt ≠ 4 := fun q => c5 (Int32.toInt_inj.mp (by rw [q]; decide))
  have tc6 : x1.toInt ≠ 5 := fun q => c6 (Int32.toInt_inj.mp (by rw [q]; decide))
  have tc7 : x1.toInt ≠ 6 := fun q => c7 (Int32.toInt_inj.mp (by rw [q]; decide))
  have tc8 : x1.toInt ≠ 7 := fun q => c8 (Int32.toInt_inj.mp (by rw [q]; decide))
  have tc9 : x1.toInt ≠ 8 := fun q => c9 (Int32.toInt_inj.mp (by rw [q]; decide))
  have tc10 : x1.toInt ≠ 9 := fun q => c10 (Int32.toInt_inj.mp (by rw [q]; decide))
  have tc11 : x1.toInt ≠ 10 := fun q => c11 (Int32.toInt_inj.mp (by rw [q]; decide))
  have tc12 : x1.toInt ≠ 11 := fun q => c12 (Int32.toInt_inj.mp (by rw [q]; decide))
  have tc13 : x1.toInt ≠ 12 := fun q => c13 (Int32.toInt_inj.mp (by rw [q]; decide))
  have tc14 : x1.toInt ≠ 13 := fun q => c14 (Int32.toInt_inj.mp (by rw [q]; decide))
  have tc15 : x1.toInt ≠ 14 := fun q => c15 (Int32.toInt_inj.mp (by rw [q]; decide))
  refine lv_tableOut (tgt := 169) S.1 S.2.1 dX8_count_1 (by omega) (by decide) ?_
  refine lv_bipush (v := (-2)) S.1 S.2.1 dX8_count_169 (by decide) ?_
  obtain rfl := Option.some.inj hf
  exact ed_ri S hr hlocks hM hS dX8_count_171
