set_option maxHeartbeats 4000000 in
set_option maxRecDepth 100000 in
/-- copyRow(from, to): a row of n ints over another of n -/
theorem c_X8_copyRow (l : Launch) (D : va_G) (cy : Nat → ClassId) (B : Nat) (μ : ed_CM) (j jo n K2 i2 K i : Nat) (hv2 : ed_vd jo K2 i2 = true) (hv : ed_vd j K i = true) (hne : jo ≠ j) (τ : ed_SM) (hτ : μ jo = τ) (he2 : ∀ r, ed_ent cy B jo K2 i2 r = .inl (cy 0, n, .inl r)) (he : ∀ r, ed_ent cy B j K i r = .inl (cy 0, n, .inl r)) (hn : n < 2 ^ 31) (σ : ed_SM) :
    Met l yX8_copyRow wsX8_copyRow rmX8_copyRow (ed_pC D cy (ed_P D cy B (ed_sJ μ j σ)) [.ref (B + ed_oF jo K2 i2), .ref (B + ed_oF j K i)]) (ed_qV (ed_A B) (ed_P D cy B (ed_sJ μ j (ed_sR σ K i (va_cpy (τ K2 i2) (σ K i) 0 0 n))))) 0 0 (ed_A B) := by
  refine Met.ofW (cc := cX8_copyRow) (maxL := 2) (ret := none) (by decide) rfl ?_
  intro p e s m args below meth c s₁ B0 hml hv0
  obtain ⟨rfl, hM, hK⟩ := hv0
  have S : CallFix p m c cX8_copyRow 2 s _ ed_ws RX8 := ⟨B0.exec, B0.bytes, hml, findClass_of_methodNamed B0.named, fun w hw => atoms_spec (ws := wsX8_copyRow) B0.pre w (List.mem_cons_of_mem _ hw)⟩
  have hr := B0.returns
  have hlocks := B0.notSynchronized
  have hS : va_S (ed_A B) s.heap s.heap [] := va_S.rf
  have hl := lv_entry ([.ref (B + ed_oF jo K2 i2), .ref (B + ed_oF j K i)]) (n := 2) (Nat.le_of_ble_eq_true rfl)
  rw [lg_entry_eq]
  generalize (lg_sl ([.ref (B + ed_oF jo K2 i2), .ref (B + ed_oF j K i)]) ++ List.replicate (2 - (lg_sl ([.ref (B + ed_oF jo K2 i2), .ref (B + ed_oF j K i)])).length) Slot.unset).toArray = ls at hl ⊢
  have hl : lv_has ls 2 [(0, .ref (B + ed_oF jo K2 i2)), (1, .ref (B + ed_oF j K i))] := hl
  refine lv_aload_n S.1 S.2.1 dX8_copyRow_0 rfl (lv_at hl 0 rfl) ?_
  refine lv_iconst (v := 0) S.1 S.2.1 dX8_copyRow_1 (by decide) ?_
  refine lv_aload_n S.1 S.2.1 dX8_copyRow_2 rfl (lv_at hl 1 rfl) ?_
  refine lv_iconst (v := 0) S.1 S.2.1 dX8_copyRow_3 (by decide) ?_
  refine lv_aload_n S.1 S.2.1 dX8_copyRow_4 rfl (lv_at hl 0 rfl) ?_
  refine ed_len (r := τ K2 i2) (v := nI n) (ty := .int) (t := 0) S hK hM hv2 (ed_sJn μ σ hne hτ K2 i2) (he2 _) rfl rfl dX8_copyRow_5 ?_
  refine lv_aload_n S.1 S.2.1 dX8_copyRow_6 rfl (lv_at hl 1 rfl) ?_
  refine ed_len (r := σ K i) (v := nI n) (ty := .int) (t := 0) S hK hM hv (ed_sJr μ j σ K i) (he _) rfl rfl dX8_copyRow_7 ?_
  refine ed_min S hl.1 ed_w2_119 ed_w2_120 ed_w1_10 ed_w2_121 (Nat.le_of_ble_eq_true rfl) (Nat.le_of_ble_eq_true rfl) ⟨Nat.zero_le _, Nat.zero_le _⟩ dX8_copyRow_8 ?_
  refine W.eq (g2 := F0 m 11 ls (.int (nI n) :: .int 0 :: .ref (B + ed_oF j K i) :: .int 0 :: .ref (B + ed_oF jo K2 i2) :: [])) (by simp) ?_
  have h0 : ¬ (nI n) < 0 := nI_pos hn
  have hcl : (nI n).toNatClampNeg = n := nI_clamp hn
  refine va_copyi (cc := cX8_copyRow) S.1 S.2.1 (S.2.2.1.trans hl.1.symm) S.2.2.2.1 (S.2.2.2.2 _ ed_w2_122) (S.2.2.2.2 _ ed_w2_124) (S.2.2.2.2 _ ed_w2_123) (S.2.2.2.2 _ ed_w1_11) hK.1 hM (ed_w_D cy B _) hS (ed_oF jo K2 i2) (ed_oF j K i) 0 0 (by rw [ed_w_at cy B _ hv2, ed_sJn μ σ hne hτ, he2]) (by rw [ed_w_at cy B _ hv, ed_sJr, he]) rfl rfl rfl (by decide) (by decide) h0 (by rw [hcl]; exact Nat.le_of_eq (Nat.zero_add n)) (by rw [hcl]; exact Nat.le_of_eq (Nat.zero_add n)) (fun _ _ => rfl) (Nat.le_of_ble_eq_true rfl) (Nat.le_of_ble_eq_true rfl) dX8_copyRow_11 (fun H locs hP _ hS => ?_)
  rw [hcl] at hP
  have hM : ed_P D cy B (ed_sJ μ j (ed_sR σ K i (va_cpy (τ K2 i2) (σ K i) 0 0 n))) H := by
    unfold ed_P
    rw [← ed_w_set2 cy B μ hv, he]
    exact hP
  exact ed_rv S hr hlocks hM hS dX8_copyRow_14
