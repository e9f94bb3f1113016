/-! The law, a case a row (laid by wip/whole/gen/gen_law.py) -/
set_option maxHeartbeats 4000000 in
set_option maxRecDepth 100000 in
theorem w_L_702 {p : Program} {l : Launch} {e : Env} {s : State} {m : MethodId} {below : List Frame} {meth : Method} {c : Code} {b L B : Nat} {xs : Nat → Int32} {D : va_G} {cy : Nat → ClassId} {Q : State → Prop} (S : CallFix p m c cL_law 4 s #[Value.ref b] ed_ws RL) (hK : ed_K D cy s) (hX : va_X b L xs s s.heap) (hbl : b < s.heap.size) (hB : b < B) (hL : L ≤ 3072) {i : Nat} (hi : i + 6 ≤ L)
    (kk : el_Go p l e s m b below meth c D cy B i Q) {μ : ed_CM} {ν : em_MM} {H : Heap} {locs : List Loc} {ls : Array Slot} (hM : ed_P D cy B μ H) (hN : em_P D cy (B + 1862) ν H) (hR : r_REL μ ν) (hS : va_S (ec_A B) s.heap H locs) (hl : lv_has ls 4 (el_lv b B i)) :
    W p l e room_1 s m #[Value.ref b] below meth c H locs 600000 7302250 Q (F0 m 702 ls []) := by
  have hbA : ¬ ec_A B b := Nat.not_le.mpr hB
  obtain ⟨r, h1, h2⟩ := m_correction hR (xs (nI i + 1).toNatClampNeg) (xs (nI i + 2).toNatClampNeg)
  refine lv_aload_n S.1 S.2.1 dL_law_702 rfl (lv_at hl 1 rfl) ?_
  refine lv_aload_n S.1 S.2.1 dL_law_703 rfl (lv_at hl 0 rfl) ?_
  refine lv_iload_n S.1 S.2.1 dL_law_704 rfl (lv_at hl 3 rfl) ?_
  refine lv_iconst (v := 1) S.1 S.2.1 dL_law_705 (by decide) ?_
  refine lv_iadd S.1 S.2.1 dL_law_706 ?_
  refine va_sld S.1 S.2.1 hX hbl hbA hS (el_in 1 (by decide) hi hL) dL_law_707 ?_
  refine lv_aload_n S.1 S.2.1 dL_law_708 rfl (lv_at hl 0 rfl) ?_
  refine lv_iload_n S.1 S.2.1 dL_law_709 rfl (lv_at hl 3 rfl) ?_
  refine lv_iconst (v := 2) S.1 S.2.1 dL_law_710 (by decide) ?_
  refine lv_iadd S.1 S.2.1 dL_law_711 ?_
  refine va_sld S.1 S.2.1 hX hbl hbA hS (el_in 2 (by decide) hi hL) dL_law_712 ?_
  refine el_k8 (ed_rV S hK hM (c_X8_correction _ D cy B (xs (nI i + 1).toNatClampNeg) (xs (nI i + 2).toNatClampNeg) μ r h1) (cwV 2 S.2.2.2.2 (ed_gV ed_w3_189 ed_w3_190 ed_w3_191 ed_w1_1 ed_w3_192) rfl rfl rfl hd_X8_correction ⟨Nat.le_of_ble_eq_true rfl, Nat.le_of_ble_eq_true rfl⟩) (ed_rc (q := (RX8, TX8, 6)) (r := (μ 7 14 0)) hK hM ed_v14 rfl (ed_e14 cy B 7 0 _) rfl) rfl hl.1 rfl (Nat.le_of_ble_eq_true rfl) dL_law_713 ⟨Nat.le_of_ble_eq_true rfl, Nat.le_of_ble_eq_true rfl⟩) hN hS (fun H locs hM hN hS => ?_)
  refine lv_aload_n S.1 S.2.1 dL_law_716 rfl (lv_at hl 2 rfl) ?_
  refine lv_aload_n S.1 S.2.1 dL_law_717 rfl (lv_at hl 0 rfl) ?_
  refine lv_iload_n S.1 S.2.1 dL_law_718 rfl (lv_at hl 3 rfl) ?_
  refine lv_iconst (v := 1) S.1 S.2.1 dL_law_719 (by decide) ?_
  refine lv_iadd S.1 S.2.1 dL_law_720 ?_
  refine va_sld S.1 S.2.1 hX hbl hbA hS (el_in 1 (by decide) hi hL) dL_law_721 ?_
  refine lv_aload_n S.1 S.2.1 dL_law_722 rfl (lv_at hl 0 rfl) ?_
  refine lv_iload_n S.1 S.2.1 dL_law_723 rfl (lv_at hl 3 rfl) ?_
  refine lv_iconst (v := 2) S.1 S.2.1 dL_law_724 (by decide) ?_
  refine lv_iadd S.1 S.2.1 dL_law_725 ?_
  refine va_sld S.1 S.2.1 hX hbl hbA hS (el_in 2 (by decide) hi hL) dL_law_726 ?_
  refine el_k9 (ed_rV S hK hN (c_X9_correction _ D cy (B + 1862) (xs (nI i + 1).toNatClampNeg) (xs (nI i + 2).toNatClampNeg) ν r h2) (cwV 2 S.2.2.2.2 (ed_gV ed_w5_21 ed_w5_22 ed_w5_23 ed_w1_10 ed_w5_24) rfl rfl rfl hd_X9_correction ⟨Nat.le_of_ble_eq_true rfl, Nat.le_of_ble_eq_true rfl⟩) (em_rc hK hN) rfl hl.1 rfl (Nat.le_of_ble_eq_true rfl) dL_law_727 ⟨Nat.le_of_ble_eq_true rfl, Nat.le_of_ble_eq_true rfl⟩) hM hS (fun H locs hN hM hS => ?_)
  refine lv_icmp_eq (tgt := 989) S.1 S.2.1 dL_law_730 (by decide) (fun _ => ?_) (fun q => absurd rfl q)
  exact kk _ _ _ _ _ hM hN hR hS hl
set_option maxHeartbeats 4000000 in
set_option maxRecDepth 100000 in
theorem w_L_735 {p : Program} {l : Launch} {e : Env} {s : State} {m : MethodId} {below : List Frame} {meth : Method} {c : Code} {b L B : Nat} {xs : Nat → Int32} {D : va_G} {cy : Nat → ClassId} {Q : State → Prop} (S : CallFix p m c cL_law 4 s #[Value.ref b] ed_ws RL) (hK : ed_K D cy s) (hX : va_X b L xs s s.heap) (hbl : b < s.heap.size) (hB : b < B) (hL : L ≤ 3072) {i : Nat} (hi : i + 6 ≤ L)
    (kk : el_Go p l e s m b below meth c D cy B i Q) {μ : ed_CM} {ν : em_MM} {H : Heap} {locs : List Loc} {ls : Array Slot} (hM : ed_P D cy B μ H) (hN : em_P D cy (B + 1862) ν H) (hR : r_REL μ ν) (hS : va_S (ec_A B) s.heap H locs) (hl : lv_has ls 4 (el_lv b B i)) :
    W p l e room_1 s m #[Value.ref b] below meth c H locs 600000 7302250 Q (F0 m 735 ls []) := by
  have hbA : ¬ ec_A B b := Nat.not_le.mpr hB
  obtain ⟨r, h1, h2⟩ := m_client hR (xs (nI i + 1).toNatClampNeg) (xs (nI i + 2).toNatClampNeg)
  refine lv_aload_n S.1 S.2.1 dL_law_735 rfl (lv_at hl 1 rfl) ?_
  refine lv_aload_n S.1 S.2.1 dL_law_736 rfl (lv_at hl 0 rfl) ?_
  refine lv_iload_n S.1 S.2.1 dL_law_737 rfl (lv_at hl 3 rfl) ?_
  refine lv_iconst (v := 1) S.1 S.2.1 dL_law_738 (by decide) ?_
  refine lv_iadd S.1 S.2.1 dL_law_739 ?_
  refine va_sld S.1 S.2.1 hX hbl hbA hS (el_in 1 (by decide) hi hL) dL_law_740 ?_
  refine lv_aload_n S.1 S.2.1 dL_law_741 rfl (lv_at hl 0 rfl) ?_
  refine lv_iload_n S.1 S.2.1 dL_law_742 rfl (lv_at hl 3 rfl) ?_
  refine lv_iconst (v := 2) S.1 S.2.1 dL_law_743 (by decide) ?_
  refine lv_iadd S.1 S.2.1 dL_law_744 ?_
  refine va_sld S.1 S.2.1 hX hbl hbA hS (el_in 2 (by decide) hi hL) dL_law_745 ?_
  refine el_k8 (ed_rV S hK hM (c_X8_client _ D cy B (xs (nI i + 1).toNatClampNeg) (xs (nI i + 2).toNatClampNeg) μ r h1) (cwV 2 S.2.2.2.2 (ed_gV ed_w3_194 ed_w3_195 ed_w3_196 ed_w1_1 ed_w3_197) rfl rfl rfl hd_X8_client ⟨Nat.le_of_ble_eq_true rfl, Nat.le_of_ble_eq_true rfl⟩) (ed_rc (q := (RX8, TX8, 6)) (r := (μ 7 14 0)) hK hM ed_v14 rfl (ed_e14 cy B 7 0 _) rfl) rfl hl.1 rfl (Nat.le_of_ble_eq_true rfl) dL_law_746 ⟨Nat.le_of_ble_eq_true rfl, Nat.le_of_ble_eq_true rfl⟩) hN hS (fun H locs hM hN hS => ?_)
  refine lv_aload_n S.1 S.2.1 dL_law_749 rfl (lv_at hl 2 rfl) ?_
  refine lv_aload_n S.1 S.2.1 dL_law_750 rfl (lv_at hl 0 rfl) ?_
  refine lv_iload_n S.1 S.2.1 dL_law_751 rfl (lv_at hl 3 rfl) ?_
  refine lv_iconst (v := 1) S.1 S.2.1 dL_law_752 (by decide) ?_
  refine lv_iadd S.1 S.2.1 dL_law_753 ?_
  refine va_sld S.1 S.2.1 hX hbl hbA hS (el_in 1 (by decide) hi hL) dL_law_754 ?_
  refine lv_aload_n S.1 S.2.1 dL_law_755 rfl (lv_at hl 0 rfl) ?_
  refine lv_iload_n S.1 S.2.1 dL_law_756 rfl (lv_at hl 3 rfl) ?_
  refine lv_iconst (v := 2) S.1 S.2.1 dL_law_757 (by decide) ?_
  refine lv_iadd S.1 S.2.1 dL_law_758 ?_
  refine va_sld S.1 S.2.1 hX hbl hbA hS (el_in 2 (by decide) hi hL) dL_law_759 ?_
  refine el_k9 (ed_rV S hK hN (c_X9_client _ D cy (B + 1862) (xs (nI i + 1).toNatClampNeg) (xs (nI i + 2).toNatClampNeg) ν r h2) (cwV 2 S.2.2.2.2 (ed_gV ed_w5_25 ed_w5_26 ed_w5_27 ed_w1_10 ed_w5_28) rfl rfl rfl hd_X9_client ⟨Nat.le_of_ble_eq_true rfl, Nat.le_of_ble_eq_true rfl⟩) (em_rc hK hN) rfl hl.1 rfl (Nat.le_of_ble_eq_true rfl) dL_law_760 ⟨Nat.le_of_ble_eq_true rfl, Nat.le_of_ble_eq_true rfl⟩) hM hS (fun H locs hN hM hS => ?_)
  refine lv_icmp_eq (tgt := 989) S.1 S.2.1 dL_law_763 (by decide) (fun _ => ?_) (fun q => absurd rfl q)
  exact kk _ _ _ _ _ hM hN hR hS hl
set_option maxHeartbeats 4000000 in
set_option maxRecDepth 100000 in
theorem w_L_768 {p : Program} {l : Launch} {e : Env} {s : State} {m : MethodId} {below : List Frame} {meth : Method} {c : Code} {b L B : Nat} {xs : Nat → Int32} {D : va_G} {cy : Nat → ClassId} {Q : State → Prop} (S : CallFix p m c cL_law 4 s #[Value.ref b] ed_ws RL) (hK : ed_K D cy s) (hX : va_X b L xs s s.heap) (hbl : b < s.heap.size) (hB : b < B) (hL : L ≤ 3072) {i : Nat} (hi : i + 6 ≤ L)
    (kk : el_Go p l e s m b below meth c D cy B i Q) {μ : ed_CM} {ν : em_MM} {H : Heap} {locs : List Loc} {ls : Array Slot} (hM : ed_P D cy B μ H) (hN : em_P D cy (B + 1862) ν H) (hR : r_REL μ ν) (hS : va_S (ec_A B) s.heap H locs) (hl : lv_has ls 4 (el_lv b B i)) :
    W p l e room_1 s m #[Value.ref b] below meth c H locs 600000 7302250 Q (F0 m 768 ls []) := by
  have hbA : ¬ ec_A B b := Nat.not_le.mpr hB
  obtain ⟨r, h1, h2⟩ := m_person hR (xs (nI i + 1).toNatClampNeg) (xs (nI i + 2).toNatClampNeg)
  refine lv_aload_n S.1 S.2.1 dL_law_768 rfl (lv_at hl 1 rfl) ?_
  refine lv_aload_n S.1 S.2.1 dL_law_769 rfl (lv_at hl 0 rfl) ?_
  refine lv_iload_n S.1 S.2.1 dL_law_770 rfl (lv_at hl 3 rfl) ?_
  refine lv_iconst (v := 1) S.1 S.2.1 dL_law_771 (by decide) ?_
  refine lv_iadd S.1 S.2.1 dL_law_772 ?_
  refine va_sld S.1 S.2.1 hX hbl hbA hS (el_in 1 (by decide) hi hL) dL_law_773 ?_
  refine lv_aload_n S.1 S.2.1 dL_law_774 rfl (lv_at hl 0 rfl) ?_
  refine lv_iload_n S.1 S.2.1 dL_law_775 rfl (lv_at hl 3 rfl) ?_
  refine lv_iconst (v := 2) S.1 S.2.1 dL_law_776 (by decide) ?_
  refine lv_iadd S.1 S.2.1 dL_law_777 ?_
  refine va_sld S.1 S.2.1 hX hbl hbA hS (el_in 2 (by decide) hi hL) dL_law_778 ?_
  refine el_k8 (ed_rV S hK hM (c_X8_person _ D cy B (xs (nI i + 1).toNatClampNeg) (xs (nI i + 2).toNatClampNeg) μ r h1) (cwV 2 S.2.2.2.2 (ed_gV ed_w3_198 ed_w3_199 ed_w3_200 ed_w1_1 ed_w3_201) rfl rfl rfl hd_X8_person ⟨Nat.le_of_ble_eq_true rfl, Nat.le_of_ble_eq_true rfl⟩) (ed_rc (q := (RX8, TX8, 6)) (r := (μ 7 14 0)) hK hM ed_v14 rfl (ed_e14 cy B 7 0 _) rfl) rfl hl.1 rfl (Nat.le_of_ble_eq_true rfl) dL_law_779 ⟨Nat.le_of_ble_eq_true rfl, Nat.le_of_ble_eq_true rfl⟩) hN hS (fun H locs hM hN hS => ?_)
  refine lv_aload_n S.1 S.2.1 dL_law_782 rfl (lv_at hl 2 rfl) ?_
  refine lv_aload_n S.1 S.2.1 dL_law_783 rfl (lv_at hl 0 rfl) ?_
  refine lv_iload_n S.1 S.2.1 dL_law_784 rfl (lv_at hl 3 rfl) ?_
  refine lv_iconst (v := 1) S.1 S.2.1 dL_law_785 (by decide) ?_
  refine lv_iadd S.1 S.2.1 dL_law_786 ?_
  refine va_sld S.1 S.2.1 hX hbl hbA hS (el_in 1 (by decide) hi hL) dL_law_787 ?_
  refine lv_aload_n S.1 S.2.1 dL_law_788 rfl (lv_at hl 0 rfl) ?_
  refine lv_iload_n S.1 S.2.1 dL_law_789 rfl (lv_at hl 3 rfl) ?_
  refine lv_iconst (v := 2) S.1 S.2.1 dL_law_790 (by decide) ?_
  refine lv_iadd S.1 S.2.1 dL_law_791 ?_
  refine va_sld S.1 S.2.1 hX hbl hbA hS (el_in 2 (by decide) hi hL) dL_law_792 ?_
  refine el_k9 (ed_rV S hK hN (c_X9_person _ D cy (B + 1862) (xs (nI i + 1).toNatClampNeg) (xs (nI i + 2).toNatClampNeg) ν r h2) (cwV 2 S.2.2.2.2 (ed_gV ed_w5_33 ed_w5_34 ed_w5_35 ed_w1_10 ed_w5_36) rfl rfl rfl hd_X9_person ⟨Nat.le_of_ble_eq_true rfl, Nat.le_of_ble_eq_true rfl⟩) (em_rc hK hN) rfl hl.1 rfl (Nat.le_of_ble_eq_true rfl) dL_law_793 ⟨Nat.le_of_ble_eq_true rfl, Nat.le_of_ble_eq_true rfl⟩) hM hS (fun H locs hN hM hS => ?_)
  refine lv_icmp_eq (tgt := 989) S.1 S.2.1 dL_law_796 (by decide) (fun _ => ?_) (fun q => absurd rfl q)
  exact kk _ _ _ _ _ hM hN hR hS hl
set_option maxHeartbeats 4000000 in
set_option maxRecDepth 100000 in
theorem w_L_801 {p : Program} {l : Launch} {e : Env} {s : State} {m : MethodId} {below : List Frame} {meth : Method} {c : Code} {b L B : Nat} {xs : Nat → Int32} {D : va_G} {cy : Nat → ClassId} {Q : State → Prop} (S : CallFix p m c cL_law 4 s #[Value.ref b] ed_ws RL) (hK : ed_K D cy s) (hX : va_X b L xs s s.heap) (hbl : b < s.heap.size) (hB : b < B) (hL : L ≤ 3072) {i : Nat} (hi : i + 6 ≤ L)
    (kk : el_Go p l e s m b below meth c D cy B i Q) {μ : ed_CM} {ν : em_MM} {H : Heap} {locs : List Loc} {ls : Array Slot} (hM : ed_P D cy B μ H) (hN : em_P D cy (B + 1862) ν H) (hR : r_REL μ ν) (hS : va_S (ec_A B) s.heap H locs) (hl : lv_has ls 4 (el_lv b B i)) :
    W p l e room_1 s m #[Value.ref b] below meth c H locs 600000 7302250 Q (F0 m 801 ls []) := by
  have hbA : ¬ ec_A B b := Nat.not_le.mpr hB
  obtain ⟨r, h1, h2⟩ := m_copy hR (xs (nI i + 1).toNatClampNeg) (xs (nI i + 2).toNatClampNeg) (xs (nI i + 3).toNatClampNeg)
  refine lv_aload_n S.1 S.2.1 dL_law_801 rfl (lv_at hl 1 rfl) ?_
  refine lv_aload_n S.1 S.2.1 dL_law_802 rfl (lv_at hl 0 rfl) ?_
  refine lv_iload_n S.1 S.2.1 dL_law_803 rfl (lv_at hl 3 rfl) ?_
  refine lv_iconst (v := 1) S.1 S.2.1 dL_law_804 (by decide) ?_
  refine lv_iadd S.1 S.2.1 dL_law_805 ?_
  refine va_sld S.1 S.2.1 hX hbl hbA hS (el_in 1 (by decide) hi hL) dL_law_806 ?_
  refine lv_aload_n S.1 S.2.1 dL_law_807 rfl (lv_at hl 0 rfl) ?_
  refine lv_iload_n S.1 S.2.1 dL_law_808 rfl (lv_at hl 3 rfl) ?_
  refine lv_iconst (v := 2) S.1 S.2.1 dL_law_809 (by decide) ?_
  refine lv_iadd S.1 S.2.1 dL_law_810 ?_
  refine va_sld S.1 S.2.1 hX hbl hbA hS (el_in 2 (by decide) hi hL) dL_law_811 ?_
  refine lv_aload_n S.1 S.2.1 dL_law_812 rfl (lv_at hl 0 rfl) ?_
  refine lv_iload_n S.1 S.2.1 dL_law_813 rfl (lv_at hl 3 rfl) ?_
  refine lv_iconst (v := 3) S.1 S.2.1 dL_law_814 (by decide) ?_
  refine lv_iadd S.1 S.2.1 dL_law_815 ?_
  refine va_sld S.1 S.2.1 hX hbl hbA hS (el_in 3 (by decide) hi hL) dL_law_816 ?_
  refine el_k8 (ed_rV S hK hM (c_X8_copy _ D cy B (xs (nI i + 1).toNatClampNeg) (xs (nI i + 2).toNatClampNeg) (xs (nI i + 3).toNatClampNeg) μ r h1) (cwV 3 S.2.2.2.2 (ed_gV ed_w3_217 ed_w3_218 ed_w3_219 ed_w1_1 ed_w3_220) rfl rfl rfl hd_X8_copy ⟨Nat.le_of_ble_eq_true rfl, Nat.le_of_ble_eq_true rfl⟩) (ed_rc (q := (RX8, TX8, 6)) (r := (μ 7 14 0)) hK hM ed_v14 rfl (ed_e14 cy B 7 0 _) rfl) rfl hl.1 rfl (Nat.le_of_ble_eq_true rfl) dL_law_817 ⟨Nat.le_of_ble_eq_true rfl, Nat.le_of_ble_eq_true rfl⟩) hN hS (fun H locs hM hN hS => ?_)
  refine lv_aload_n S.1 S.2.1 dL_law_820 rfl (lv_at hl 2 rfl) ?_
  refine lv_aload_n S.1 S.2.1 dL_law_821 rfl (lv_at hl 0 rfl) ?_
  refine lv_iload_n S.1 S.2.1 dL_law_822 rfl (lv_at hl 3 rfl) ?_
  refine lv_iconst (v := 1) S.1 S.2.1 dL_law_823 (by decide) ?_
  refine lv_iadd S.1 S.2.1 dL_law_824 ?_
  refine va_sld S.1 S.2.1 hX hbl hbA hS (el_in 1 (by decide) hi hL) dL_law_825 ?_
  refine lv_aload_n S.1 S.2.1 dL_law_826 rfl (lv_at hl 0 rfl) ?_
  refine lv_iload_n S.1 S.2.1 dL_law_827 rfl (lv_at hl 3 rfl) ?_
  refine lv_iconst (v := 2) S.1 S.2.1 dL_law_828 (by decide) ?_
  refine lv_iadd S.1 S.2.1 dL_law_829 ?_
  refine va_sld S.1 S.2.1 hX hbl hbA hS (el_in 2 (by decide) hi hL) dL_law_830 ?_
  refine lv_aload_n S.1 S.2.1 dL_law_831 rfl (lv_at hl 0 rfl) ?_
  refine lv_iload_n S.1 S.2.1 dL_law_832 rfl (lv_at hl 3 rfl) ?_
  refine lv_iconst (v := 3) S.1 S.2.1 dL_law_833 (by decide) ?_
  refine lv_iadd S.1 S.2.1 dL_law_834 ?_
  refine va_sld S.1 S.2.1 hX hbl hbA hS (el_in 3 (by decide) hi hL) dL_law_835 ?_
  refine el_k9 (ed_rV S hK hN (c_X9_copy _ D cy (B + 1862) (xs (nI i + 1).toNatClampNeg) (xs (nI i + 2).toNatClampNeg) (xs (nI i + 3).toNatClampNeg) ν r h2) (cwV 3 S.2.2.2.2 (ed_gV ed_w5_41 ed_w5_42 ed_w5_43 ed_w1_10 ed_w5_44) rfl rfl rfl hd_X9_copy ⟨Nat.le_of_ble_eq_true rfl, Nat.le_of_ble_eq_true rfl⟩) (em_rc hK hN) rfl hl.1 rfl (Nat.le_of_ble_eq_true rfl) dL_law_836 ⟨Nat.le_of_ble_eq_true rfl, Nat.le_of_ble_eq_true rfl⟩) hM hS (fun H locs hN hM hS => ?_)
  refine lv_icmp_eq (tgt := 989) S.1 S.2.1 dL_law_839 (by decide) (fun _ => ?_) (fun q => absurd rfl q)
  exact kk _ _ _ _ _ hM hN hR hS hl
set_option maxHeartbeats 4000000 in
set_option maxRecDepth 100000 in
theorem w_L_844 {p : Program} {l : Launch} {e : Env} {s : State} {m : MethodId} {below : List Frame} {meth : Method} {c : Code} {b L B : Nat} {xs : Nat → Int32} {D : va_G} {cy : Nat → ClassId} {Q : State → Prop} (S : CallFix p m c cL_law 4 s #[Value.ref b] ed_ws RL) (hK : ed_K D cy s) (hX : va_X b L xs s s.heap) (hbl : b < s.heap.size) (hB : b < B) (hL : L ≤ 3072) {i : Nat} (hi : i + 6 ≤ L)
    (kk : el_Go p l e s m b below meth c D cy B i Q) {μ : ed_CM} {ν : em_MM} {H : Heap} {locs : List Loc} {ls : Array Slot} (hM : ed_P D cy B μ H) (hN : em_P D cy (B + 1862) ν H) (hR : r_REL μ ν) (hS : va_S (ec_A B) s.heap H locs) (hl : lv_has ls 4 (el_lv b B i)) :
    W p l e room_1 s m #[Value.ref b] below meth c H locs 600000 7302250 Q (F0 m 844 ls []) := by
  have hbA : ¬ ec_A B b := Nat.not_le.mpr hB
  obtain ⟨r, h1, h2⟩ := m_copyAt hR (xs (nI i + 1).toNatClampNeg)
  refine lv_aload_n S.1 S.2.1 dL_law_844 rfl (lv_at hl 1 rfl) ?_
  refine lv_aload_n S.1 S.2.1 dL_law_845 rfl (lv_at hl 0 rfl) ?_
  refine lv_iload_n S.1 S.2.1 dL_law_846 rfl (lv_at hl 3 rfl) ?_
  refine lv_iconst (v := 1) S.1 S.2.1 dL_law_847 (by decide) ?_
  refine lv_iadd S.1 S.2.1 dL_law_848 ?_
  refine va_sld S.1 S.2.1 hX hbl hbA hS (el_in 1 (by decide) hi hL) dL_law_849 ?_
  refine el_k8 (ed_rV S hK hM (c_X8_copyAt _ D cy B (xs (nI i + 1).toNatClampNeg) μ r h1) (cwV 1 S.2.2.2.2 (ed_gV ed_w3_233 ed_w3_234 ed_w3_235 ed_w1_1 ed_w3_236) rfl rfl rfl hd_X8_copyAt ⟨Nat.le_of_ble_eq_true rfl, Nat.le_of_ble_eq_true rfl⟩) (ed_rc (q := (RX8, TX8, 6)) (r := (μ 7 14 0)) hK hM ed_v14 rfl (ed_e14 cy B 7 0 _) rfl) rfl hl.1 rfl (Nat.le_of_ble_eq_true rfl) dL_law_850 ⟨Nat.le_of_ble_eq_true rfl, Nat.le_of_ble_eq_true rfl⟩) hN hS (fun H locs hM hN hS => ?_)
  refine lv_aload_n S.1 S.2.1 dL_law_853 rfl (lv_at hl 2 rfl) ?_
  refine lv_aload_n S.1 S.2.1 dL_law_854 rfl (lv_at hl 0 rfl) ?_
  refine lv_iload_n S.1 S.2.1 dL_law_855 rfl (lv_at hl 3 rfl) ?_
  refine lv_iconst (v := 1) S.1 S.2.1 dL_law_856 (by decide) ?_
  refine lv_iadd S.1 S.2.1 dL_law_857 ?_
  refine va_sld S.1 S.2.1 hX hbl hbA hS (el_in 1 (by decide) hi hL) dL_law_858 ?_
  refine el_k9 (ed_rV S hK hN (c_X9_copyAt _ D cy (B + 1862) (xs (nI i + 1).toNatClampNeg) ν r h2) (cwV 1 S.2.2.2.2 (ed_gV ed_w5_53 ed_w5_54 ed_w5_55 ed_w1_10 ed_w5_56) rfl rfl rfl hd_X9_copyAt ⟨Nat.le_of_ble_eq_true rfl, Nat.le_of_ble_eq_true rfl⟩) (em_rc hK hN) rfl hl.1 rfl (Nat.le_of_ble_eq_true rfl) dL_law_859 ⟨Nat.le_of_ble_eq_true rfl, Nat.le_of_ble_eq_true rfl⟩) hM hS (fun H locs hN hM hS => ?_)
  refine lv_icmp_eq (tgt := 989) S.1 S.2.1 dL_law_862 (by decide) (fun _ => ?_) (fun q => absurd rfl q)
  exact kk _ _ _ _ _ hM hN hR hS hl
set_option maxHeartbeats 4000000 in
set_option maxRecDepth 100000 in
theorem w_L_867 {p : Program} {l : Launch} {e : Env} {s : State} {m : MethodId} {below : List Frame} {meth : Method} {c : Code} {b L B : Nat} {xs : Nat → Int32} {D : va_G} {cy : Nat → ClassId} {Q : State → Prop} (S : CallFix p m c cL_law 4 s #[Value.ref b] ed_ws RL) (hK : ed_K D cy s) (hX : va_X b L xs s s.heap) (hbl : b < s.heap.size) (hB : b < B) (hL : L ≤ 3072) {i : Nat} (hi : i + 6 ≤ L)
    (kk : el_Go p l e s m b below meth c D cy B i Q) {μ : ed_CM} {ν : em_MM} {H : Heap} {locs : List Loc} {ls : Array Slot} (hM : ed_P D cy B μ H) (hN : em_P D cy (B + 1862) ν H) (hR : r_REL μ ν) (hS : va_S (ec_A B) s.heap H locs) (hl : lv_has ls 4 (el_lv b B i)) :
    W p l e room_1 s m #[Value.ref b] below meth c H locs 600000 7302250 Q (F0 m 867 ls []) := by
  have hbA : ¬ ec_A B b := Nat.not_le.mpr hB
  obtain ⟨r, μ1, ν1, h1, h2, hR⟩ := m_carriedIn hR (xs (nI i + 1).toNatClampNeg) (xs (nI i + 2).toNatClampNeg)
  refine lv_aload_n S.1 S.2.1 dL_law_867 rfl (lv_at hl 1 rfl) ?_
  refine lv_aload_n S.1 S.2.1 dL_law_868 rfl (lv_at hl 0 rfl) ?_
  refine lv_iload_n S.1 S.2.1 dL_law_869 rfl (lv_at hl 3 rfl) ?_
  refine lv_iconst (v := 1) S.1 S.2.1 dL_law_870 (by decide) ?_
  refine lv_iadd S.1 S.2.1 dL_law_871 ?_
  refine va_sld S.1 S.2.1 hX hbl hbA hS (el_in 1 (by decide) hi hL) dL_law_872 ?_
  refine lv_aload_n S.1 S.2.1 dL_law_873 rfl (lv_at hl 0 rfl) ?_
  refine lv_iload_n S.1 S.2.1 dL_law_874 rfl (lv_at hl 3 rfl) ?_
  refine lv_iconst (v := 2) S.1 S.2.1 dL_law_875 (by decide) ?_
  refine lv_iadd S.1 S.2.1 dL_law_876 ?_
  refine va_sld S.1 S.2.1 hX hbl hbA hS (el_in 2 (by decide) hi hL) dL_law_877 ?_
  refine el_k8 (ed_rV S hK hM (c_X8_carriedIn _ D cy B (xs (nI i + 1).toNatClampNeg) (xs (nI i + 2).toNatClampNeg) μ r μ1 h1) (cwV 2 S.2.2.2.2 (ed_gV ed_w3_238 ed_w3_239 ed_w4_0 ed_w1_1 ed_w4_1) rfl rfl rfl hd_X8_carriedIn ⟨Nat.le_of_ble_eq_true rfl, Nat.le_of_ble_eq_true rfl⟩) (ed_rc (q := (RX8, TX8, 6)) (r := (μ 7 14 0)) hK hM ed_v14 rfl (ed_e14 cy B 7 0 _) rfl) rfl hl.1 rfl (Nat.le_of_ble_eq_true rfl) dL_law_878 ⟨Nat.le_of_ble_eq_true rfl, Nat.le_of_ble_eq_true rfl⟩) hN hS (fun H locs hM hN hS => ?_)
  refine lv_aload_n S.1 S.2.1 dL_law_881 rfl (lv_at hl 2 rfl) ?_
  refine lv_aload_n S.1 S.2.1 dL_law_882 rfl (lv_at hl 0 rfl) ?_
  refine lv_iload_n S.1 S.2.1 dL_law_883 rfl (lv_at hl 3 rfl) ?_
  refine lv_iconst (v := 1) S.1 S.2.1 dL_law_884 (by decide) ?_
  refine lv_iadd S.1 S.2.1 dL_law_885 ?_
  refine va_sld S.1 S.2.1 hX hbl hbA hS (el_in 1 (by decide) hi hL) dL_law_886 ?_
  refine lv_aload_n S.1 S.2.1 dL_law_887 rfl (lv_at hl 0 rfl) ?_
  refine lv_iload_n S.1 S.2.1 dL_law_888 rfl (lv_at hl 3 rfl) ?_
  refine lv_iconst (v := 2) S.1 S.2.1 dL_law_889 (by decide) ?_
  refine lv_iadd S.1 S.2.1 dL_law_890 ?_
  refine va_sld S.1 S.2.1 hX hbl hbA hS (el_in 2 (by decide) hi hL) dL_law_891 ?_
  refine el_k9 (ed_rV S hK hN (c_X9_carriedIn _ D cy (B + 1862) (xs (nI i + 1).toNatClampNeg) (xs (nI i + 2).toNatClampNeg) ν r ν1 h2) (cwV 2 S.2.2.2.2 (ed_gV ed_w5_57 ed_w5_58 ed_w5_59 ed_w1_10 ed_w5_60) rfl rfl rfl hd_X9_carriedIn ⟨Nat.le_of_ble_eq_true rfl, Nat.le_of_ble_eq_true rfl⟩) (em_rc hK hN) rfl hl.1 rfl (Nat.le_of_ble_eq_true rfl) dL_law_892 ⟨Nat.le_of_ble_eq_true rfl, Nat.le_of_ble_eq_true rfl⟩) hM hS (fun H locs hN hM hS => ?_)
  refine lv_icmp_eq (tgt := 989) S.1 S.2.1 dL_law_895 (by decide) (fun _ => ?_) (fun q => absurd rfl q)
  exact kk _ _ _ _ _ hM hN hR hS hl
set_option maxHeartbeats 4000000 in
set_option maxRecDepth 100000 in
theorem w_L_900 {p : Program} {l : Launch} {e : Env} {s : State} {m : MethodId} {below : List Frame} {meth : Method} {c : Code} {b L B : Nat} {xs : Nat → Int32} {D : va_G} {cy : Nat → ClassId} {Q : State → Prop} (S : CallFix p m c cL_law 4 s #[Value.ref b] ed_ws RL) (hK : ed_K D cy s) (hX : va_X b L xs s s.heap) (hbl : b < s.heap.size) (hB : b < B) (hL : L ≤ 3072) {i : Nat} (hi : i + 6 ≤ L)
    (kk : el_Go p l e s m b below meth c D cy B i Q) {μ : ed_CM} {ν : em_MM} {H : Heap} {locs : List Loc} {ls : Array Slot} (hM : ed_P D cy B μ H) (hN : em_P D cy (B + 1862) ν H) (hR : r_REL μ ν) (hS : va_S (ec_A B) s.heap H locs) (hl : lv_has ls 4 (el_lv b B i)) :
    W p l e room_1 s m #[Value.ref b] below meth c H locs 600000 7302250 Q (F0 m 900 ls []) := by
  have hbA : ¬ ec_A B b := Nat.not_le.mpr hB
  obtain ⟨r, μ1, ν1, h1, h2, hR⟩ := m_wouldCome hR (xs (nI i + 1).toNatClampNeg) (xs (nI i + 2).toNatClampNeg)
  refine lv_aload_n S.1 S.2.1 dL_law_900 rfl (lv_at hl 1 rfl) ?_
  refine lv_aload_n S.1 S.2.1 dL_law_901 rfl (lv_at hl 0 rfl) ?_
  refine lv_iload_n S.1 S.2.1 dL_law_902 rfl (lv_at hl 3 rfl) ?_
  refine lv_iconst (v := 1) S.1 S.2.1 dL_law_903 (by decide) ?_
  refine lv_iadd S.1 S.2.1 dL_law_904 ?_
  refine va_sld S.1 S.2.1 hX hbl hbA hS (el_in 1 (by decide) hi hL) dL_law_905 ?_
  refine lv_aload_n S.1 S.2.1 dL_law_906 rfl (lv_at hl 0 rfl) ?_
  refine lv_iload_n S.1 S.2.1 dL_law_907 rfl (lv_at hl 3 rfl) ?_
  refine lv_iconst (v := 2) S.1 S.2.1 dL_law_908 (by decide) ?_
  refine lv_iadd S.1 S.2.1 dL_law_909 ?_
  refine va_sld S.1 S.2.1 hX hbl hbA hS (el_in 2 (by decide) hi hL) dL_law_910 ?_
  refine el_k8 (ed_rV S hK hM (c_X8_wouldCome _ D cy B (xs (nI i + 1).toNatClampNeg) (xs (nI i + 2).toNatClampNeg) μ r μ1 h1) (cwV 2 S.2.2.2.2 (ed_gV ed_w4_2 ed_w4_3 ed_w4_4 ed_w1_1 ed_w4_5) rfl rfl rfl hd_X8_wouldCome ⟨Nat.le_of_ble_eq_true rfl, Nat.le_of_ble_eq_true rfl⟩) (ed_rc (q := (RX8, TX8, 6)) (r := (μ 7 14 0)) hK hM ed_v14 rfl (ed_e14 cy B 7 0 _) rfl) rfl hl.1 rfl (Nat.le_of_ble_eq_true rfl) dL_law_911 ⟨Nat.le_of_ble_eq_true rfl, Nat.le_of_ble_eq_true rfl⟩) hN hS (fun H locs hM hN hS => ?_)
  refine lv_aload_n S.1 S.2.1 dL_law_914 rfl (lv_at hl 2 rfl) ?_
  refine lv_aload_n S.1 S.2.1 dL_law_915 rfl (lv_at hl 0 rfl) ?_
  refine lv_iload_n S.1 S.2.1 dL_law_916 rfl (lv_at hl 3 rfl) ?_
  refine lv_iconst (v := 1) S.1 S.2.1 dL_law_917 (by decide) ?_
  refine lv_iadd S.1 S.2.1 dL_law_918 ?_
  refine va_sld S.1 S.2.1 hX hbl hbA hS (el_in 1 (by decide) hi hL) dL_law_919 ?_
  refine lv_aload_n S.1 S.2.1 dL_law_920 rfl (lv_at hl 0 rfl) ?_
  refine lv_iload_n S.1 S.2.1 dL_law_921 rfl (lv_at hl 3 rfl) ?_
  refine lv_iconst (v := 2) S.1 S.2.1 dL_law_922 (by decide) ?_
  refine lv_iadd S.1 S.2.1 dL_law_923 ?_
  refine va_sld S.1 S.2.1 hX hbl hbA hS (el_in 2 (by decide) hi hL) dL_law_924 ?_
  refine el_k9 (ed_rV S hK hN (c_X9_wouldCome _ D cy (B + 1862) (xs (nI i + 1).toNatClampNeg) (xs (nI i + 2).toNatClampNeg) ν r ν1 h2) (cwV 2 S.2.2.2.2 (ed_gV ed_w5_69 ed_w5_70 ed_w5_71 ed_w1_10 ed_w5_72) rfl rfl rfl hd_X9_wouldCome ⟨Nat.le_of_ble_eq_true rfl, Nat.le_of_ble_eq_true rfl⟩) (em_rc hK hN) rfl hl.1 rfl (Nat.le_of_ble_eq_true rfl) dL_law_925 ⟨Nat.le_of_ble_eq_true rfl, Nat.le_of_ble_eq_true rfl⟩) hM hS (fun H locs hN hM hS => ?_)
  refine lv_icmp_eq (tgt := 989) S.1 S.2.1 dL_law_928 (by decide) (fun _ => ?_) (fun q => absurd rfl q)
  exact kk _ _ _ _ _ hM hN hR hS hl
set_option maxHeartbeats 4000000 in
set_option maxRecDepth 100000 in
theorem w_L_933 {p : Program} {l : Launch} {e : Env} {s : State} {m : MethodId} {below : List Frame} {meth : Method} {c : Code} {b L B : Nat} {xs : Nat → Int32} {D : va_G} {cy : Nat → ClassId} {Q : State → Prop} (S : CallFix p m c cL_law 4 s #[Value.ref b] ed_ws RL) (hK : ed_K D cy s) (hX : va_X b L xs s s.heap) (hbl : b < s.heap.size) (hB : b < B) (hL : L ≤ 3072) {i : Nat} (hi : i + 6 ≤ L)
    (kk : el_Go p l e s m b below meth c D cy B i Q) {μ : ed_CM} {ν : em_MM} {H : Heap} {locs : List Loc} {ls : Array Slot} (hM : ed_P D cy B μ H) (hN : em_P D cy (B + 1862) ν H) (hR : r_REL μ ν) (hS : va_S (ec_A B) s.heap H locs) (hl : lv_has ls 4 (el_lv b B i)) :
    W p l e room_1 s m #[Value.ref b] below meth c H locs 600000 7302250 Q (F0 m 933 ls []) := by
  have hbA : ¬ ec_A B b := Nat.not_le.mpr hB
  obtain ⟨r, h1, h2⟩ := m_event hR (xs (nI i + 1).toNatClampNeg) (xs (nI i + 2).toNatClampNeg)
  refine lv_aload_n S.1 S.2.1 dL_law_933 rfl (lv_at hl 1 rfl) ?_
  refine lv_aload_n S.1 S.2.1 dL_law_934 rfl (lv_at hl 0 rfl) ?_
  refine lv_iload_n S.1 S.2.1 dL_law_935 rfl (lv_at hl 3 rfl) ?_
  refine lv_iconst (v := 1) S.1 S.2.1 dL_law_936 (by decide) ?_
  refine lv_iadd S.1 S.2.1 dL_law_937 ?_
  refine va_sld S.1 S.2.1 hX hbl hbA hS (el_in 1 (by decide) hi hL) dL_law_938 ?_
  refine lv_aload_n S.1 S.2.1 dL_law_939 rfl (lv_at hl 0 rfl) ?_
  refine lv_iload_n S.1 S.2.1 dL_law_940 rfl (lv_at hl 3 rfl) ?_
  refine lv_iconst (v := 2) S.1 S.2.1 dL_law_941 (by decide) ?_
  refine lv_iadd S.1 S.2.1 dL_law_942 ?_
  refine va_sld S.1 S.2.1 hX hbl hbA hS (el_in 2 (by decide) hi hL) dL_law_943 ?_
  refine el_k8 (ed_rV S hK hM (c_X8_event _ D cy B (xs (nI i + 1).toNatClampNeg) (xs (nI i + 2).toNatClampNeg) μ r h1) (cwV 2 S.2.2.2.2 (ed_gV ed_w4_6 ed_w4_7 ed_w4_8 ed_w1_1 ed_w4_9) rfl rfl rfl hd_X8_event ⟨Nat.le_of_ble_eq_true rfl, Nat.le_of_ble_eq_true rfl⟩) (ed_rc (q := (RX8, TX8, 6)) (r := (μ 7 14 0)) hK hM ed_v14 rfl (ed_e14 cy B 7 0 _) rfl) rfl hl.1 rfl (Nat.le_of_ble_eq_true rfl) dL_law_944 ⟨Nat.le_of_ble_eq_true rfl, Nat.le_of_ble_eq_true rfl⟩) hN hS (fun H locs hM hN hS => ?_)
  refine lv_aload_n S.1 S.2.1 dL_law_947 rfl (lv_at hl 2 rfl) ?_
  refine lv_aload_n S.1 S.2.1 dL_law_948 rfl (lv_at hl 0 rfl) ?_
  refine lv_iload_n S.1 S.2.1 dL_law_949 rfl (lv_at hl 3 rfl) ?_
  refine lv_iconst (v := 1) S.1 S.2.1 dL_law_950 (by decide) ?_
  refine lv_iadd S.1 S.2.1 dL_law_951 ?_
  refine va_sld S.1 S.2.1 hX hbl hbA hS (el_in 1 (by decide) hi hL) dL_law_952 ?_
  refine lv_aload_n S.1 S.2.1 dL_law_953 rfl (lv_at hl 0 rfl) ?_
  refine lv_iload_n S.1 S.2.1 dL_law_954 rfl (lv_at hl 3 rfl) ?_
  refine lv_iconst (v := 2) S.1 S.2.1 dL_law_955 (by decide) ?_
  refine lv_iadd S.1 S.2.1 dL_law_956 ?_
  refine va_sld S.1 S.2.1 hX hbl hbA hS (el_in 2 (by decide) hi hL) dL_law_957 ?_
  refine el_k9 (ed_rV S hK hN (c_X9_event _ D cy (B + 1862) (xs (nI i + 1).toNatClampNeg) (xs (nI i + 2).toNatClampNeg) ν r h2) (cwV 2 S.2.2.2.2 (ed_gV ed_w5_73 ed_w5_74 ed_w5_75 ed_w1_10 ed_w5_76) rfl rfl rfl hd_X9_event ⟨Nat.le_of_ble_eq_true rfl, Nat.le_of_ble_eq_true rfl⟩) (em_rc hK hN) rfl hl.1 rfl (Nat.le_of_ble_eq_true rfl) dL_law_958 ⟨Nat.le_of_ble_eq_true rfl, Nat.le_of_ble_eq_true rfl⟩) hM hS (fun H locs hN hM hS => ?_)
  refine lv_icmp_eq (tgt := 989) S.1 S.2.1 dL_law_961 (by decide) (fun _ => ?_) (fun q => absurd rfl q)
  exact kk _ _ _ _ _ hM hN hR hS hl
set_option maxHeartbeats 4000000 in
set_option maxRecDepth 100000 in
theorem w_L_966 {p : Program} {l : Launch} {e : Env} {s : State} {m : MethodId} {below : List Frame} {meth : Method} {c : Code} {b L B : Nat} {xs : Nat → Int32} {D : va_G} {cy : Nat → ClassId} {Q : State → Prop} (S : CallFix p m c cL_law 4 s #[Value.ref b] ed_ws RL) (hK : ed_K D cy s) (hX : va_X b L xs s s.heap) (hbl : b < s.heap.size) (hB : b < B) (hL : L ≤ 3072) {i : Nat} (hi : i + 6 ≤ L)
    (kk : el_Go p l e s m b below meth c D cy B i Q) {μ : ed_CM} {ν : em_MM} {H : Heap} {locs : List Loc} {ls : Array Slot} (hM : ed_P D cy B μ H) (hN : em_P D cy (B + 1862) ν H) (hR : r_REL μ ν) (hS : va_S (ec_A B) s.heap H locs) (hl : lv_has ls 4 (el_lv b B i)) :
    W p l e room_1 s m #[Value.ref b] below meth c H locs 600000 7302250 Q (F0 m 966 ls []) := by
  have hbA : ¬ ec_A B b := Nat.not_le.mpr hB
  obtain ⟨r, h1, h2⟩ := m_count hR (xs (nI i + 1).toNatClampNeg)
  refine lv_aload_n S.1 S.2.1 dL_law_966 rfl (lv_at hl 1 rfl) ?_
  refine lv_aload_n S.1 S.2.1 dL_law_967 rfl (lv_at hl 0 rfl) ?_
  refine lv_iload_n S.1 S.2.1 dL_law_968 rfl (lv_at hl 3 rfl) ?_
  refine lv_iconst (v := 1) S.1 S.2.1 dL_law_969 (by decide) ?_
  refine lv_iadd S.1 S.2.1 dL_law_970 ?_
  refine va_sld S.1 S.2.1 hX hbl hbA hS (el_in 1 (by decide) hi hL) dL_law_971 ?_
  refine el_k8 (ed_rV S hK hM (c_X8_count _ D cy B (xs (nI i + 1).toNatClampNeg) μ r h1) (cwV 1 S.2.2.2.2 (ed_gV ed_w4_14 ed_w4_15 ed_w4_16 ed_w1_1 ed_w4_17) rfl rfl rfl hd_X8_count ⟨Nat.le_of_ble_eq_true rfl, Nat.le_of_ble_eq_true rfl⟩) (ed_rc (q := (RX8, TX8, 6)) (r := (μ 7 14 0)) hK hM ed_v14 rfl (ed_e14 cy B 7 0 _) rfl) rfl hl.1 rfl (Nat.le_of_ble_eq_true rfl) dL_law_972 ⟨Nat.le_of_ble_eq_true rfl, Nat.le_of_ble_eq_true rfl⟩) hN hS (fun H locs hM hN hS => ?_)
  refine lv_aload_n S.1 S.2.1 dL_law_975 rfl (lv_at hl 2 rfl) ?_
  refine lv_aload_n S.1 S.2.1 dL_law_976 rfl (lv_at hl 0 rfl) ?_
  refine lv_iload_n S.1 S.2.1 dL_law_977 rfl (lv_at hl 3 rfl) ?_
  refine lv_iconst (v := 1) S.1 S.2.1 dL_law_978 (by decide) ?_
  refine lv_iadd S.1 S.2.1 dL_law_979 ?_
  refine va_sld S.1 S.2.1 hX hbl hbA hS (el_in 1 (by decide) hi hL) dL_law_980 ?_
  refine el_k9 (ed_rV S hK hN (c_X9_count _ D cy (B + 1862) (xs (nI i + 1).toNatClampNeg) ν r h2) (cwV 1 S.2.2.2.2 (ed_gV ed_w5_77 ed_w5_78 ed_w5_79 ed_w1_10 ed_w5_80) rfl rfl rfl hd_X9_count ⟨Nat.le_of_ble_eq_true rfl, Nat.le_of_ble_eq_true rfl⟩) (em_rc hK hN) rfl hl.1 rfl (Nat.le_of_ble_eq_true rfl) dL_law_981 ⟨Nat.le_of_ble_eq_true rfl, Nat.le_of_ble_eq_true rfl⟩) hM hS (fun H locs hN hM hS => ?_)
  refine lv_icmp_eq (tgt := 989) S.1 S.2.1 dL_law_984 (by decide) (fun _ => ?_) (fun q => absurd rfl q)
  exact kk _ _ _ _ _ hM hN hR hS hl
