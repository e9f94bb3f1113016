/-! The law, a case a row (laid by wip/whole/gen/gen_law.py) -/
set_option maxHeartbeats 4000000 in
set_option maxRecDepth 100000 in
theorem w_L_480 {p : Program} {l : Launch} {e : Env} {s : State} {m : MethodId} {below : List Frame} {meth : Method} {c : Code} {b L B : Nat} {xs : Nat → Int32} {D : va_G} {cy : Nat → ClassId} {Q : State → Prop} (S : CallFix p m c cL_law 4 s #[Value.ref b] ed_ws RL) (hK : ed_K D cy s) (hX : va_X b L xs s s.heap) (hbl : b < s.heap.size) (hB : b < B) (hL : L ≤ 3072) {i : Nat} (hi : i + 6 ≤ L)
    (kk : el_Go p l e s m b below meth c D cy B i Q) {μ : ed_CM} {ν : em_MM} {H : Heap} {locs : List Loc} {ls : Array Slot} (hM : ed_P D cy B μ H) (hN : em_P D cy (B + 1862) ν H) (hR : r_REL μ ν) (hS : va_S (ec_A B) s.heap H locs) (hl : lv_has ls 4 (el_lv b B i)) :
    W p l e room_1 s m #[Value.ref b] below meth c H locs 600000 7302250 Q (F0 m 480 ls []) := by
  have hbA : ¬ ec_A B b := Nat.not_le.mpr hB
  obtain ⟨r, μ1, ν1, h1, h2, hR⟩ := m_kill hR (xs (nI i + 1).toNatClampNeg)
  refine lv_aload_n S.1 S.2.1 dL_law_480 rfl (lv_at hl 1 rfl) ?_
  refine lv_aload_n S.1 S.2.1 dL_law_481 rfl (lv_at hl 0 rfl) ?_
  refine lv_iload_n S.1 S.2.1 dL_law_482 rfl (lv_at hl 3 rfl) ?_
  refine lv_iconst (v := 1) S.1 S.2.1 dL_law_483 (by decide) ?_
  refine lv_iadd S.1 S.2.1 dL_law_484 ?_
  refine va_sld S.1 S.2.1 hX hbl hbA hS (el_in 1 (by decide) hi hL) dL_law_485 ?_
  refine el_k8 (ed_rV S hK hM (c_X8_kill _ D cy B (xs (nI i + 1).toNatClampNeg) μ r μ1 h1) (cwV 1 S.2.2.2.2 (ed_gV ed_w3_51 ed_w3_52 ed_w3_53 ed_w1_1 ed_w3_54) rfl rfl rfl hd_X8_kill ⟨Nat.le_of_ble_eq_true rfl, Nat.le_of_ble_eq_true rfl⟩) (ed_rc (q := (RX8, TX8, 6)) (r := (μ 7 14 0)) hK hM ed_v14 rfl (ed_e14 cy B 7 0 _) rfl) rfl hl.1 rfl (Nat.le_of_ble_eq_true rfl) dL_law_486 ⟨Nat.le_of_ble_eq_true rfl, Nat.le_of_ble_eq_true rfl⟩) hN hS (fun H locs hM hN hS => ?_)
  refine lv_aload_n S.1 S.2.1 dL_law_489 rfl (lv_at hl 2 rfl) ?_
  refine lv_aload_n S.1 S.2.1 dL_law_490 rfl (lv_at hl 0 rfl) ?_
  refine lv_iload_n S.1 S.2.1 dL_law_491 rfl (lv_at hl 3 rfl) ?_
  refine lv_iconst (v := 1) S.1 S.2.1 dL_law_492 (by decide) ?_
  refine lv_iadd S.1 S.2.1 dL_law_493 ?_
  refine va_sld S.1 S.2.1 hX hbl hbA hS (el_in 1 (by decide) hi hL) dL_law_494 ?_
  refine el_k9 (ed_rV S hK hN (c_X9_kill _ D cy (B + 1862) (xs (nI i + 1).toNatClampNeg) ν r ν1 h2) (cwV 1 S.2.2.2.2 (ed_gV ed_w4_188 ed_w4_189 ed_w4_190 ed_w1_10 ed_w4_191) rfl rfl rfl hd_X9_kill ⟨Nat.le_of_ble_eq_true rfl, Nat.le_of_ble_eq_true rfl⟩) (em_rc hK hN) rfl hl.1 rfl (Nat.le_of_ble_eq_true rfl) dL_law_495 ⟨Nat.le_of_ble_eq_true rfl, Nat.le_of_ble_eq_true rfl⟩) hM hS (fun H locs hN hM hS => ?_)
  refine lv_icmp_eq (tgt := 989) S.1 S.2.1 dL_law_498 (by decide) (fun _ => ?_) (fun q => absurd rfl q)
  exact kk _ _ _ _ _ hM hN hR hS hl
set_option maxHeartbeats 4000000 in
set_option maxRecDepth 100000 in
theorem w_L_503 {p : Program} {l : Launch} {e : Env} {s : State} {m : MethodId} {below : List Frame} {meth : Method} {c : Code} {b L B : Nat} {xs : Nat → Int32} {D : va_G} {cy : Nat → ClassId} {Q : State → Prop} (S : CallFix p m c cL_law 4 s #[Value.ref b] ed_ws RL) (hK : ed_K D cy s) (hX : va_X b L xs s s.heap) (hbl : b < s.heap.size) (hB : b < B) (hL : L ≤ 3072) {i : Nat} (hi : i + 6 ≤ L)
    (kk : el_Go p l e s m b below meth c D cy B i Q) {μ : ed_CM} {ν : em_MM} {H : Heap} {locs : List Loc} {ls : Array Slot} (hM : ed_P D cy B μ H) (hN : em_P D cy (B + 1862) ν H) (hR : r_REL μ ν) (hS : va_S (ec_A B) s.heap H locs) (hl : lv_has ls 4 (el_lv b B i)) :
    W p l e room_1 s m #[Value.ref b] below meth c H locs 600000 7302250 Q (F0 m 503 ls []) := by
  have hbA : ¬ ec_A B b := Nat.not_le.mpr hB
  obtain ⟨r, μ1, ν1, h1, h2, hR⟩ := m_pass hR (xs (nI i + 1).toNatClampNeg)
  refine lv_aload_n S.1 S.2.1 dL_law_503 rfl (lv_at hl 1 rfl) ?_
  refine lv_aload_n S.1 S.2.1 dL_law_504 rfl (lv_at hl 0 rfl) ?_
  refine lv_iload_n S.1 S.2.1 dL_law_505 rfl (lv_at hl 3 rfl) ?_
  refine lv_iconst (v := 1) S.1 S.2.1 dL_law_506 (by decide) ?_
  refine lv_iadd S.1 S.2.1 dL_law_507 ?_
  refine va_sld S.1 S.2.1 hX hbl hbA hS (el_in 1 (by decide) hi hL) dL_law_508 ?_
  refine el_k8 (ed_rV S hK hM (c_X8_pass _ D cy B (xs (nI i + 1).toNatClampNeg) μ r μ1 h1) (cwV 1 S.2.2.2.2 (ed_gV ed_w3_55 ed_w3_56 ed_w3_57 ed_w1_1 ed_w3_58) rfl rfl rfl hd_X8_pass ⟨Nat.le_of_ble_eq_true rfl, Nat.le_of_ble_eq_true rfl⟩) (ed_rc (q := (RX8, TX8, 6)) (r := (μ 7 14 0)) hK hM ed_v14 rfl (ed_e14 cy B 7 0 _) rfl) rfl hl.1 rfl (Nat.le_of_ble_eq_true rfl) dL_law_509 ⟨Nat.le_of_ble_eq_true rfl, Nat.le_of_ble_eq_true rfl⟩) hN hS (fun H locs hM hN hS => ?_)
  refine lv_aload_n S.1 S.2.1 dL_law_512 rfl (lv_at hl 2 rfl) ?_
  refine lv_aload_n S.1 S.2.1 dL_law_513 rfl (lv_at hl 0 rfl) ?_
  refine lv_iload_n S.1 S.2.1 dL_law_514 rfl (lv_at hl 3 rfl) ?_
  refine lv_iconst (v := 1) S.1 S.2.1 dL_law_515 (by decide) ?_
  refine lv_iadd S.1 S.2.1 dL_law_516 ?_
  refine va_sld S.1 S.2.1 hX hbl hbA hS (el_in 1 (by decide) hi hL) dL_law_517 ?_
  refine el_k9 (ed_rV S hK hN (c_X9_pass _ D cy (B + 1862) (xs (nI i + 1).toNatClampNeg) ν r ν1 h2) (cwV 1 S.2.2.2.2 (ed_gV ed_w4_196 ed_w4_197 ed_w4_198 ed_w1_10 ed_w4_199) rfl rfl rfl hd_X9_pass ⟨Nat.le_of_ble_eq_true rfl, Nat.le_of_ble_eq_true rfl⟩) (em_rc hK hN) rfl hl.1 rfl (Nat.le_of_ble_eq_true rfl) dL_law_518 ⟨Nat.le_of_ble_eq_true rfl, Nat.le_of_ble_eq_true rfl⟩) hM hS (fun H locs hN hM hS => ?_)
  refine lv_icmp_eq (tgt := 989) S.1 S.2.1 dL_law_521 (by decide) (fun _ => ?_) (fun q => absurd rfl q)
  exact kk _ _ _ _ _ hM hN hR hS hl
set_option maxHeartbeats 4000000 in
set_option maxRecDepth 100000 in
theorem w_L_526 {p : Program} {l : Launch} {e : Env} {s : State} {m : MethodId} {below : List Frame} {meth : Method} {c : Code} {b L B : Nat} {xs : Nat → Int32} {D : va_G} {cy : Nat → ClassId} {Q : State → Prop} (S : CallFix p m c cL_law 4 s #[Value.ref b] ed_ws RL) (hK : ed_K D cy s) (hX : va_X b L xs s s.heap) (hbl : b < s.heap.size) (hB : b < B) (hL : L ≤ 3072) {i : Nat} (hi : i + 6 ≤ L)
    (kk : el_Go p l e s m b below meth c D cy B i Q) {μ : ed_CM} {ν : em_MM} {H : Heap} {locs : List Loc} {ls : Array Slot} (hM : ed_P D cy B μ H) (hN : em_P D cy (B + 1862) ν H) (hR : r_REL μ ν) (hS : va_S (ec_A B) s.heap H locs) (hl : lv_has ls 4 (el_lv b B i)) :
    W p l e room_1 s m #[Value.ref b] below meth c H locs 600000 7302250 Q (F0 m 526 ls []) := by
  have hbA : ¬ ec_A B b := Nat.not_le.mpr hB
  obtain ⟨r, μ1, ν1, h1, h2, hR⟩ := m_type hR (((xs (nI i + 1).toNatClampNeg).toUInt32 % 65536).toInt32)
  refine lv_aload_n S.1 S.2.1 dL_law_526 rfl (lv_at hl 1 rfl) ?_
  refine lv_aload_n S.1 S.2.1 dL_law_527 rfl (lv_at hl 0 rfl) ?_
  refine lv_iload_n S.1 S.2.1 dL_law_528 rfl (lv_at hl 3 rfl) ?_
  refine lv_iconst (v := 1) S.1 S.2.1 dL_law_529 (by decide) ?_
  refine lv_iadd S.1 S.2.1 dL_law_530 ?_
  refine va_sld S.1 S.2.1 hX hbl hbA hS (el_in 1 (by decide) hi hL) dL_law_531 ?_
  refine lv_i2c S.1 S.2.1 dL_law_532 rfl ?_
  refine el_k8 (ed_rV S hK hM (c_X8_type _ D cy B (((xs (nI i + 1).toNatClampNeg).toUInt32 % 65536).toInt32) μ r μ1 h1) (cwV 1 S.2.2.2.2 (ed_gV ed_w3_135 ed_w3_136 ed_w3_137 ed_w1_1 ed_w3_138) rfl rfl rfl hd_X8_type ⟨Nat.le_of_ble_eq_true rfl, Nat.le_of_ble_eq_true rfl⟩) (ed_rc (q := (RX8, TX8, 6)) (r := (μ 7 14 0)) hK hM ed_v14 rfl (ed_e14 cy B 7 0 _) rfl) rfl hl.1 rfl (Nat.le_of_ble_eq_true rfl) dL_law_533 ⟨Nat.le_of_ble_eq_true rfl, Nat.le_of_ble_eq_true rfl⟩) hN hS (fun H locs hM hN hS => ?_)
  refine lv_aload_n S.1 S.2.1 dL_law_536 rfl (lv_at hl 2 rfl) ?_
  refine lv_aload_n S.1 S.2.1 dL_law_537 rfl (lv_at hl 0 rfl) ?_
  refine lv_iload_n S.1 S.2.1 dL_law_538 rfl (lv_at hl 3 rfl) ?_
  refine lv_iconst (v := 1) S.1 S.2.1 dL_law_539 (by decide) ?_
  refine lv_iadd S.1 S.2.1 dL_law_540 ?_
  refine va_sld S.1 S.2.1 hX hbl hbA hS (el_in 1 (by decide) hi hL) dL_law_541 ?_
  refine lv_i2c S.1 S.2.1 dL_law_542 rfl ?_
  refine el_k9 (ed_rV S hK hN (c_X9_type _ D cy (B + 1862) (((xs (nI i + 1).toNatClampNeg).toUInt32 % 65536).toInt32) ν r ν1 h2) (cwV 1 S.2.2.2.2 (ed_gV ed_w4_117 ed_w4_118 ed_w4_119 ed_w1_10 ed_w4_120) rfl rfl rfl hd_X9_type ⟨Nat.le_of_ble_eq_true rfl, Nat.le_of_ble_eq_true rfl⟩) (em_rc hK hN) rfl hl.1 rfl (Nat.le_of_ble_eq_true rfl) dL_law_543 ⟨Nat.le_of_ble_eq_true rfl, Nat.le_of_ble_eq_true rfl⟩) hM hS (fun H locs hN hM hS => ?_)
  refine lv_icmp_eq (tgt := 989) S.1 S.2.1 dL_law_546 (by decide) (fun _ => ?_) (fun q => absurd rfl q)
  exact kk _ _ _ _ _ hM hN hR hS hl
set_option maxHeartbeats 4000000 in
set_option maxRecDepth 100000 in
theorem w_L_551 {p : Program} {l : Launch} {e : Env} {s : State} {m : MethodId} {below : List Frame} {meth : Method} {c : Code} {b L B : Nat} {xs : Nat → Int32} {D : va_G} {cy : Nat → ClassId} {Q : State → Prop} (S : CallFix p m c cL_law 4 s #[Value.ref b] ed_ws RL) (hK : ed_K D cy s) (hX : va_X b L xs s s.heap) (hbl : b < s.heap.size) (hB : b < B) (hL : L ≤ 3072) {i : Nat} (hi : i + 6 ≤ L)
    (kk : el_Go p l e s m b below meth c D cy B i Q) {μ : ed_CM} {ν : em_MM} {H : Heap} {locs : List Loc} {ls : Array Slot} (hM : ed_P D cy B μ H) (hN : em_P D cy (B + 1862) ν H) (hR : r_REL μ ν) (hS : va_S (ec_A B) s.heap H locs) (hl : lv_has ls 4 (el_lv b B i)) :
    W p l e room_1 s m #[Value.ref b] below meth c H locs 600000 7302250 Q (F0 m 551 ls []) := by
  have hbA : ¬ ec_A B b := Nat.not_le.mpr hB
  obtain ⟨r, μ1, ν1, h1, h2, hR⟩ := m_clearText hR
  refine lv_aload_n S.1 S.2.1 dL_law_551 rfl (lv_at hl 1 rfl) ?_
  refine el_k8 (ed_rV S hK hM (c_X8_clearText _ D cy B μ r μ1 h1) (cwV 0 S.2.2.2.2 (ed_gV ed_w3_143 ed_w3_144 ed_w3_145 ed_w1_1 ed_w3_146) rfl rfl rfl hd_X8_clearText ⟨Nat.le_of_ble_eq_true rfl, Nat.le_of_ble_eq_true rfl⟩) (ed_rc (q := (RX8, TX8, 6)) (r := (μ 7 14 0)) hK hM ed_v14 rfl (ed_e14 cy B 7 0 _) rfl) rfl hl.1 rfl (Nat.le_of_ble_eq_true rfl) dL_law_552 ⟨Nat.le_of_ble_eq_true rfl, Nat.le_of_ble_eq_true rfl⟩) hN hS (fun H locs hM hN hS => ?_)
  refine lv_aload_n S.1 S.2.1 dL_law_555 rfl (lv_at hl 2 rfl) ?_
  refine el_k9 (ed_rV S hK hN (c_X9_clearText _ D cy (B + 1862) ν r ν1 h2) (cwV 0 S.2.2.2.2 (ed_gV ed_w4_121 ed_w4_122 ed_w4_123 ed_w1_10 ed_w4_124) rfl rfl rfl hd_X9_clearText ⟨Nat.le_of_ble_eq_true rfl, Nat.le_of_ble_eq_true rfl⟩) (em_rc hK hN) rfl hl.1 rfl (Nat.le_of_ble_eq_true rfl) dL_law_556 ⟨Nat.le_of_ble_eq_true rfl, Nat.le_of_ble_eq_true rfl⟩) hM hS (fun H locs hN hM hS => ?_)
  refine lv_icmp_eq (tgt := 989) S.1 S.2.1 dL_law_559 (by decide) (fun _ => ?_) (fun q => absurd rfl q)
  exact kk _ _ _ _ _ hM hN hR hS hl
set_option maxHeartbeats 4000000 in
set_option maxRecDepth 100000 in
theorem w_L_564 {p : Program} {l : Launch} {e : Env} {s : State} {m : MethodId} {below : List Frame} {meth : Method} {c : Code} {b L B : Nat} {xs : Nat → Int32} {D : va_G} {cy : Nat → ClassId} {Q : State → Prop} (S : CallFix p m c cL_law 4 s #[Value.ref b] ed_ws RL) (hK : ed_K D cy s) (hX : va_X b L xs s s.heap) (hbl : b < s.heap.size) (hB : b < B) (hL : L ≤ 3072) {i : Nat} (hi : i + 6 ≤ L)
    (kk : el_Go p l e s m b below meth c D cy B i Q) {μ : ed_CM} {ν : em_MM} {H : Heap} {locs : List Loc} {ls : Array Slot} (hM : ed_P D cy B μ H) (hN : em_P D cy (B + 1862) ν H) (hR : r_REL μ ν) (hS : va_S (ec_A B) s.heap H locs) (hl : lv_has ls 4 (el_lv b B i)) :
    W p l e room_1 s m #[Value.ref b] below meth c H locs 600000 7302250 Q (F0 m 564 ls []) := by
  have hbA : ¬ ec_A B b := Nat.not_le.mpr hB
  obtain ⟨r, μ1, ν1, h1, h2, hR⟩ := m_undo hR
  refine lv_aload_n S.1 S.2.1 dL_law_564 rfl (lv_at hl 1 rfl) ?_
  refine el_k8 (ed_rV S hK hM (c_X8_undo _ D cy B μ r μ1 h1) (cwV 0 S.2.2.2.2 (ed_gV ed_w3_147 ed_w3_148 ed_w3_149 ed_w1_1 ed_w3_150) rfl rfl rfl hd_X8_undo ⟨Nat.le_of_ble_eq_true rfl, Nat.le_of_ble_eq_true rfl⟩) (ed_rc (q := (RX8, TX8, 6)) (r := (μ 7 14 0)) hK hM ed_v14 rfl (ed_e14 cy B 7 0 _) rfl) rfl hl.1 rfl (Nat.le_of_ble_eq_true rfl) dL_law_565 ⟨Nat.le_of_ble_eq_true rfl, Nat.le_of_ble_eq_true rfl⟩) hN hS (fun H locs hM hN hS => ?_)
  refine lv_aload_n S.1 S.2.1 dL_law_568 rfl (lv_at hl 2 rfl) ?_
  refine el_k9 (ed_rV S hK hN (c_X9_undo _ D cy (B + 1862) ν r ν1 h2) (cwV 0 S.2.2.2.2 (ed_gV ed_w4_233 ed_w4_234 ed_w4_235 ed_w1_10 ed_w4_236) rfl rfl rfl hd_X9_undo ⟨Nat.le_of_ble_eq_true rfl, Nat.le_of_ble_eq_true rfl⟩) (em_rc hK hN) rfl hl.1 rfl (Nat.le_of_ble_eq_true rfl) dL_law_569 ⟨Nat.le_of_ble_eq_true rfl, Nat.le_of_ble_eq_true rfl⟩) hM hS (fun H locs hN hM hS => ?_)
  refine lv_icmp_eq (tgt := 989) S.1 S.2.1 dL_law_572 (by decide) (fun _ => ?_) (fun q => absurd rfl q)
  exact kk _ _ _ _ _ hM hN hR hS hl
set_option maxHeartbeats 4000000 in
set_option maxRecDepth 100000 in
theorem w_L_577 {p : Program} {l : Launch} {e : Env} {s : State} {m : MethodId} {below : List Frame} {meth : Method} {c : Code} {b L B : Nat} {xs : Nat → Int32} {D : va_G} {cy : Nat → ClassId} {Q : State → Prop} (S : CallFix p m c cL_law 4 s #[Value.ref b] ed_ws RL) (hK : ed_K D cy s) (hX : va_X b L xs s s.heap) (hbl : b < s.heap.size) (hB : b < B) (hL : L ≤ 3072) {i : Nat} (hi : i + 6 ≤ L)
    (kk : el_Go p l e s m b below meth c D cy B i Q) {μ : ed_CM} {ν : em_MM} {H : Heap} {locs : List Loc} {ls : Array Slot} (hM : ed_P D cy B μ H) (hN : em_P D cy (B + 1862) ν H) (hR : r_REL μ ν) (hS : va_S (ec_A B) s.heap H locs) (hl : lv_has ls 4 (el_lv b B i)) :
    W p l e room_1 s m #[Value.ref b] below meth c H locs 600000 7302250 Q (F0 m 577 ls []) := by
  have hbA : ¬ ec_A B b := Nat.not_le.mpr hB
  obtain ⟨r, μ1, ν1, h1, h2, hR⟩ := m_keep hR
  refine lv_aload_n S.1 S.2.1 dL_law_577 rfl (lv_at hl 1 rfl) ?_
  refine el_k8 (ed_rV S hK hM (c_X8_keep _ D cy B μ r μ1 h1) (cwV 0 S.2.2.2.2 (ed_gV ed_w3_155 ed_w3_156 ed_w3_157 ed_w1_1 ed_w3_158) rfl rfl rfl hd_X8_keep ⟨Nat.le_of_ble_eq_true rfl, Nat.le_of_ble_eq_true rfl⟩) (ed_rc (q := (RX8, TX8, 6)) (r := (μ 7 14 0)) hK hM ed_v14 rfl (ed_e14 cy B 7 0 _) rfl) rfl hl.1 rfl (Nat.le_of_ble_eq_true rfl) dL_law_578 ⟨Nat.le_of_ble_eq_true rfl, Nat.le_of_ble_eq_true rfl⟩) hN hS (fun H locs hM hN hS => ?_)
  refine lv_aload_n S.1 S.2.1 dL_law_581 rfl (lv_at hl 2 rfl) ?_
  refine el_k9 (ed_rV S hK hN (c_X9_keep _ D cy (B + 1862) ν r ν1 h2) (cwV 0 S.2.2.2.2 (ed_gV ed_w4_237 ed_w4_238 ed_w4_239 ed_w1_10 ed_w5_0) rfl rfl rfl hd_X9_keep ⟨Nat.le_of_ble_eq_true rfl, Nat.le_of_ble_eq_true rfl⟩) (em_rc hK hN) rfl hl.1 rfl (Nat.le_of_ble_eq_true rfl) dL_law_582 ⟨Nat.le_of_ble_eq_true rfl, Nat.le_of_ble_eq_true rfl⟩) hM hS (fun H locs hN hM hS => ?_)
  refine lv_icmp_eq (tgt := 989) S.1 S.2.1 dL_law_585 (by decide) (fun _ => ?_) (fun q => absurd rfl q)
  exact kk _ _ _ _ _ hM hN hR hS hl
set_option maxHeartbeats 4000000 in
set_option maxRecDepth 100000 in
theorem w_L_590 {p : Program} {l : Launch} {e : Env} {s : State} {m : MethodId} {below : List Frame} {meth : Method} {c : Code} {b L B : Nat} {xs : Nat → Int32} {D : va_G} {cy : Nat → ClassId} {Q : State → Prop} (S : CallFix p m c cL_law 4 s #[Value.ref b] ed_ws RL) (hK : ed_K D cy s) (hX : va_X b L xs s s.heap) (hbl : b < s.heap.size) (hB : b < B) (hL : L ≤ 3072) {i : Nat} (hi : i + 6 ≤ L)
    (kk : el_Go p l e s m b below meth c D cy B i Q) {μ : ed_CM} {ν : em_MM} {H : Heap} {locs : List Loc} {ls : Array Slot} (hM : ed_P D cy B μ H) (hN : em_P D cy (B + 1862) ν H) (hR : r_REL μ ν) (hS : va_S (ec_A B) s.heap H locs) (hl : lv_has ls 4 (el_lv b B i)) :
    W p l e room_1 s m #[Value.ref b] below meth c H locs 600000 7302250 Q (F0 m 590 ls []) := by
  have hbA : ¬ ec_A B b := Nat.not_le.mpr hB
  obtain ⟨r, μ1, ν1, h1, h2, hR⟩ := m_restore hR
  refine lv_aload_n S.1 S.2.1 dL_law_590 rfl (lv_at hl 1 rfl) ?_
  refine el_k8 (ed_rV S hK hM (c_X8_restore _ D cy B μ r μ1 h1) (cwV 0 S.2.2.2.2 (ed_gV ed_w3_160 ed_w3_161 ed_w3_162 ed_w1_1 ed_w3_163) rfl rfl rfl hd_X8_restore ⟨Nat.le_of_ble_eq_true rfl, Nat.le_of_ble_eq_true rfl⟩) (ed_rc (q := (RX8, TX8, 6)) (r := (μ 7 14 0)) hK hM ed_v14 rfl (ed_e14 cy B 7 0 _) rfl) rfl hl.1 rfl (Nat.le_of_ble_eq_true rfl) dL_law_591 ⟨Nat.le_of_ble_eq_true rfl, Nat.le_of_ble_eq_true rfl⟩) hN hS (fun H locs hM hN hS => ?_)
  refine lv_aload_n S.1 S.2.1 dL_law_594 rfl (lv_at hl 2 rfl) ?_
  refine el_k9 (ed_rV S hK hN (c_X9_restore _ D cy (B + 1862) ν r ν1 h2) (cwV 0 S.2.2.2.2 (ed_gV ed_w5_1 ed_w5_2 ed_w5_3 ed_w1_10 ed_w5_4) rfl rfl rfl hd_X9_restore ⟨Nat.le_of_ble_eq_true rfl, Nat.le_of_ble_eq_true rfl⟩) (em_rc hK hN) rfl hl.1 rfl (Nat.le_of_ble_eq_true rfl) dL_law_595 ⟨Nat.le_of_ble_eq_true rfl, Nat.le_of_ble_eq_true rfl⟩) hM hS (fun H locs hN hM hS => ?_)
  refine lv_icmp_eq (tgt := 989) S.1 S.2.1 dL_law_598 (by decide) (fun _ => ?_) (fun q => absurd rfl q)
  exact kk _ _ _ _ _ hM hN hR hS hl
set_option maxHeartbeats 4000000 in
set_option maxRecDepth 100000 in
theorem w_L_603 {p : Program} {l : Launch} {e : Env} {s : State} {m : MethodId} {below : List Frame} {meth : Method} {c : Code} {b L B : Nat} {xs : Nat → Int32} {D : va_G} {cy : Nat → ClassId} {Q : State → Prop} (S : CallFix p m c cL_law 4 s #[Value.ref b] ed_ws RL) (hK : ed_K D cy s) (hX : va_X b L xs s s.heap) (hbl : b < s.heap.size) (hB : b < B) (hL : L ≤ 3072) {i : Nat} (hi : i + 6 ≤ L)
    (kk : el_Go p l e s m b below meth c D cy B i Q) {μ : ed_CM} {ν : em_MM} {H : Heap} {locs : List Loc} {ls : Array Slot} (hM : ed_P D cy B μ H) (hN : em_P D cy (B + 1862) ν H) (hR : r_REL μ ν) (hS : va_S (ec_A B) s.heap H locs) (hl : lv_has ls 4 (el_lv b B i)) :
    W p l e room_1 s m #[Value.ref b] below meth c H locs 600000 7302250 Q (F0 m 603 ls []) := by
  have hbA : ¬ ec_A B b := Nat.not_le.mpr hB
  obtain ⟨r, h1, h2⟩ := m_story hR (xs (nI i + 1).toNatClampNeg) (xs (nI i + 2).toNatClampNeg)
  refine lv_aload_n S.1 S.2.1 dL_law_603 rfl (lv_at hl 1 rfl) ?_
  refine lv_aload_n S.1 S.2.1 dL_law_604 rfl (lv_at hl 0 rfl) ?_
  refine lv_iload_n S.1 S.2.1 dL_law_605 rfl (lv_at hl 3 rfl) ?_
  refine lv_iconst (v := 1) S.1 S.2.1 dL_law_606 (by decide) ?_
  refine lv_iadd S.1 S.2.1 dL_law_607 ?_
  refine va_sld S.1 S.2.1 hX hbl hbA hS (el_in 1 (by decide) hi hL) dL_law_608 ?_
  refine lv_aload_n S.1 S.2.1 dL_law_609 rfl (lv_at hl 0 rfl) ?_
  refine lv_iload_n S.1 S.2.1 dL_law_610 rfl (lv_at hl 3 rfl) ?_
  refine lv_iconst (v := 2) S.1 S.2.1 dL_law_611 (by decide) ?_
  refine lv_iadd S.1 S.2.1 dL_law_612 ?_
  refine va_sld S.1 S.2.1 hX hbl hbA hS (el_in 2 (by decide) hi hL) dL_law_613 ?_
  refine el_k8 (ed_rV S hK hM (c_X8_story _ D cy B (xs (nI i + 1).toNatClampNeg) (xs (nI i + 2).toNatClampNeg) μ r h1) (cwV 2 S.2.2.2.2 (ed_gV ed_w3_164 ed_w3_165 ed_w3_166 ed_w1_1 ed_w3_167) rfl rfl rfl hd_X8_story ⟨Nat.le_of_ble_eq_true rfl, Nat.le_of_ble_eq_true rfl⟩) (ed_rc (q := (RX8, TX8, 6)) (r := (μ 7 14 0)) hK hM ed_v14 rfl (ed_e14 cy B 7 0 _) rfl) rfl hl.1 rfl (Nat.le_of_ble_eq_true rfl) dL_law_614 ⟨Nat.le_of_ble_eq_true rfl, Nat.le_of_ble_eq_true rfl⟩) hN hS (fun H locs hM hN hS => ?_)
  refine lv_aload_n S.1 S.2.1 dL_law_617 rfl (lv_at hl 2 rfl) ?_
  refine lv_aload_n S.1 S.2.1 dL_law_618 rfl (lv_at hl 0 rfl) ?_
  refine lv_iload_n S.1 S.2.1 dL_law_619 rfl (lv_at hl 3 rfl) ?_
  refine lv_iconst (v := 1) S.1 S.2.1 dL_law_620 (by decide) ?_
  refine lv_iadd S.1 S.2.1 dL_law_621 ?_
  refine va_sld S.1 S.2.1 hX hbl hbA hS (el_in 1 (by decide) hi hL) dL_law_622 ?_
  refine lv_aload_n S.1 S.2.1 dL_law_623 rfl (lv_at hl 0 rfl) ?_
  refine lv_iload_n S.1 S.2.1 dL_law_624 rfl (lv_at hl 3 rfl) ?_
  refine lv_iconst (v := 2) S.1 S.2.1 dL_law_625 (by decide) ?_
  refine lv_iadd S.1 S.2.1 dL_law_626 ?_
  refine va_sld S.1 S.2.1 hX hbl hbA hS (el_in 2 (by decide) hi hL) dL_law_627 ?_
  refine el_k9 (ed_rV S hK hN (c_X9_story _ D cy (B + 1862) (xs (nI i + 1).toNatClampNeg) (xs (nI i + 2).toNatClampNeg) ν r h2) (cwV 2 S.2.2.2.2 (ed_gV ed_w5_5 ed_w5_6 ed_w5_7 ed_w1_10 ed_w5_8) rfl rfl rfl hd_X9_story ⟨Nat.le_of_ble_eq_true rfl, Nat.le_of_ble_eq_true rfl⟩) (em_rc hK hN) rfl hl.1 rfl (Nat.le_of_ble_eq_true rfl) dL_law_628 ⟨Nat.le_of_ble_eq_true rfl, Nat.le_of_ble_eq_true rfl⟩) hM hS (fun H locs hN hM hS => ?_)
  refine lv_icmp_eq (tgt := 989) S.1 S.2.1 dL_law_631 (by decide) (fun _ => ?_) (fun q => absurd rfl q)
  exact kk _ _ _ _ _ hM hN hR hS hl
set_option maxHeartbeats 4000000 in
set_option maxRecDepth 100000 in
theorem w_L_636 {p : Program} {l : Launch} {e : Env} {s : State} {m : MethodId} {below : List Frame} {meth : Method} {c : Code} {b L B : Nat} {xs : Nat → Int32} {D : va_G} {cy : Nat → ClassId} {Q : State → Prop} (S : CallFix p m c cL_law 4 s #[Value.ref b] ed_ws RL) (hK : ed_K D cy s) (hX : va_X b L xs s s.heap) (hbl : b < s.heap.size) (hB : b < B) (hL : L ≤ 3072) {i : Nat} (hi : i + 6 ≤ L)
    (kk : el_Go p l e s m b below meth c D cy B i Q) {μ : ed_CM} {ν : em_MM} {H : Heap} {locs : List Loc} {ls : Array Slot} (hM : ed_P D cy B μ H) (hN : em_P D cy (B + 1862) ν H) (hR : r_REL μ ν) (hS : va_S (ec_A B) s.heap H locs) (hl : lv_has ls 4 (el_lv b B i)) :
    W p l e room_1 s m #[Value.ref b] below meth c H locs 600000 7302250 Q (F0 m 636 ls []) := by
  have hbA : ¬ ec_A B b := Nat.not_le.mpr hB
  obtain ⟨r, h1, h2⟩ := m_byline hR (xs (nI i + 1).toNatClampNeg) (xs (nI i + 2).toNatClampNeg)
  refine lv_aload_n S.1 S.2.1 dL_law_636 rfl (lv_at hl 1 rfl) ?_
  refine lv_aload_n S.1 S.2.1 dL_law_637 rfl (lv_at hl 0 rfl) ?_
  refine lv_iload_n S.1 S.2.1 dL_law_638 rfl (lv_at hl 3 rfl) ?_
  refine lv_iconst (v := 1) S.1 S.2.1 dL_law_639 (by decide) ?_
  refine lv_iadd S.1 S.2.1 dL_law_640 ?_
  refine va_sld S.1 S.2.1 hX hbl hbA hS (el_in 1 (by decide) hi hL) dL_law_641 ?_
  refine lv_aload_n S.1 S.2.1 dL_law_642 rfl (lv_at hl 0 rfl) ?_
  refine lv_iload_n S.1 S.2.1 dL_law_643 rfl (lv_at hl 3 rfl) ?_
  refine lv_iconst (v := 2) S.1 S.2.1 dL_law_644 (by decide) ?_
  refine lv_iadd S.1 S.2.1 dL_law_645 ?_
  refine va_sld S.1 S.2.1 hX hbl hbA hS (el_in 2 (by decide) hi hL) dL_law_646 ?_
  refine el_k8 (ed_rV S hK hM (c_X8_byline _ D cy B (xs (nI i + 1).toNatClampNeg) (xs (nI i + 2).toNatClampNeg) μ r h1) (cwV 2 S.2.2.2.2 (ed_gV ed_w3_176 ed_w3_177 ed_w3_178 ed_w1_1 ed_w3_179) rfl rfl rfl hd_X8_byline ⟨Nat.le_of_ble_eq_true rfl, Nat.le_of_ble_eq_true rfl⟩) (ed_rc (q := (RX8, TX8, 6)) (r := (μ 7 14 0)) hK hM ed_v14 rfl (ed_e14 cy B 7 0 _) rfl) rfl hl.1 rfl (Nat.le_of_ble_eq_true rfl) dL_law_647 ⟨Nat.le_of_ble_eq_true rfl, Nat.le_of_ble_eq_true rfl⟩) hN hS (fun H locs hM hN hS => ?_)
  refine lv_aload_n S.1 S.2.1 dL_law_650 rfl (lv_at hl 2 rfl) ?_
  refine lv_aload_n S.1 S.2.1 dL_law_651 rfl (lv_at hl 0 rfl) ?_
  refine lv_iload_n S.1 S.2.1 dL_law_652 rfl (lv_at hl 3 rfl) ?_
  refine lv_iconst (v := 1) S.1 S.2.1 dL_law_653 (by decide) ?_
  refine lv_iadd S.1 S.2.1 dL_law_654 ?_
  refine va_sld S.1 S.2.1 hX hbl hbA hS (el_in 1 (by decide) hi hL) dL_law_655 ?_
  refine lv_aload_n S.1 S.2.1 dL_law_656 rfl (lv_at hl 0 rfl) ?_
  refine lv_iload_n S.1 S.2.1 dL_law_657 rfl (lv_at hl 3 rfl) ?_
  refine lv_iconst (v := 2) S.1 S.2.1 dL_law_658 (by decide) ?_
  refine lv_iadd S.1 S.2.1 dL_law_659 ?_
  refine va_sld S.1 S.2.1 hX hbl hbA hS (el_in 2 (by decide) hi hL) dL_law_660 ?_
  refine el_k9 (ed_rV S hK hN (c_X9_byline _ D cy (B + 1862) (xs (nI i + 1).toNatClampNeg) (xs (nI i + 2).toNatClampNeg) ν r h2) (cwV 2 S.2.2.2.2 (ed_gV ed_w5_9 ed_w5_10 ed_w5_11 ed_w1_10 ed_w5_12) rfl rfl rfl hd_X9_byline ⟨Nat.le_of_ble_eq_true rfl, Nat.le_of_ble_eq_true rfl⟩) (em_rc hK hN) rfl hl.1 rfl (Nat.le_of_ble_eq_true rfl) dL_law_661 ⟨Nat.le_of_ble_eq_true rfl, Nat.le_of_ble_eq_true rfl⟩) hM hS (fun H locs hN hM hS => ?_)
  refine lv_icmp_eq (tgt := 989) S.1 S.2.1 dL_law_664 (by decide) (fun _ => ?_) (fun q => absurd rfl q)
  exact kk _ _ _ _ _ hM hN hR hS hl
set_option maxHeartbeats 4000000 in
set_option maxRecDepth 100000 in
theorem w_L_669 {p : Program} {l : Launch} {e : Env} {s : State} {m : MethodId} {below : List Frame} {meth : Method} {c : Code} {b L B : Nat} {xs : Nat → Int32} {D : va_G} {cy : Nat → ClassId} {Q : State → Prop} (S : CallFix p m c cL_law 4 s #[Value.ref b] ed_ws RL) (hK : ed_K D cy s) (hX : va_X b L xs s s.heap) (hbl : b < s.heap.size) (hB : b < B) (hL : L ≤ 3072) {i : Nat} (hi : i + 6 ≤ L)
    (kk : el_Go p l e s m b below meth c D cy B i Q) {μ : ed_CM} {ν : em_MM} {H : Heap} {locs : List Loc} {ls : Array Slot} (hM : ed_P D cy B μ H) (hN : em_P D cy (B + 1862) ν H) (hR : r_REL μ ν) (hS : va_S (ec_A B) s.heap H locs) (hl : lv_has ls 4 (el_lv b B i)) :
    W p l e room_1 s m #[Value.ref b] below meth c H locs 600000 7302250 Q (F0 m 669 ls []) := by
  have hbA : ¬ ec_A B b := Nat.not_le.mpr hB
  obtain ⟨r, h1, h2⟩ := m_slugChar hR (xs (nI i + 1).toNatClampNeg) (xs (nI i + 2).toNatClampNeg)
  refine lv_aload_n S.1 S.2.1 dL_law_669 rfl (lv_at hl 1 rfl) ?_
  refine lv_aload_n S.1 S.2.1 dL_law_670 rfl (lv_at hl 0 rfl) ?_
  refine lv_iload_n S.1 S.2.1 dL_law_671 rfl (lv_at hl 3 rfl) ?_
  refine lv_iconst (v := 1) S.1 S.2.1 dL_law_672 (by decide) ?_
  refine lv_iadd S.1 S.2.1 dL_law_673 ?_
  refine va_sld S.1 S.2.1 hX hbl hbA hS (el_in 1 (by decide) hi hL) dL_law_674 ?_
  refine lv_aload_n S.1 S.2.1 dL_law_675 rfl (lv_at hl 0 rfl) ?_
  refine lv_iload_n S.1 S.2.1 dL_law_676 rfl (lv_at hl 3 rfl) ?_
  refine lv_iconst (v := 2) S.1 S.2.1 dL_law_677 (by decide) ?_
  refine lv_iadd S.1 S.2.1 dL_law_678 ?_
  refine va_sld S.1 S.2.1 hX hbl hbA hS (el_in 2 (by decide) hi hL) dL_law_679 ?_
  refine el_k8 (ed_rV S hK hM (c_X8_slugChar _ D cy B (xs (nI i + 1).toNatClampNeg) (xs (nI i + 2).toNatClampNeg) μ r h1) (cwV 2 S.2.2.2.2 (ed_gV ed_w3_181 ed_w3_182 ed_w3_183 ed_w1_1 ed_w3_184) rfl rfl rfl hd_X8_slugChar ⟨Nat.le_of_ble_eq_true rfl, Nat.le_of_ble_eq_true rfl⟩) (ed_rc (q := (RX8, TX8, 6)) (r := (μ 7 14 0)) hK hM ed_v14 rfl (ed_e14 cy B 7 0 _) rfl) rfl hl.1 rfl (Nat.le_of_ble_eq_true rfl) dL_law_680 ⟨Nat.le_of_ble_eq_true rfl, Nat.le_of_ble_eq_true rfl⟩) hN hS (fun H locs hM hN hS => ?_)
  refine lv_aload_n S.1 S.2.1 dL_law_683 rfl (lv_at hl 2 rfl) ?_
  refine lv_aload_n S.1 S.2.1 dL_law_684 rfl (lv_at hl 0 rfl) ?_
  refine lv_iload_n S.1 S.2.1 dL_law_685 rfl (lv_at hl 3 rfl) ?_
  refine lv_iconst (v := 1) S.1 S.2.1 dL_law_686 (by decide) ?_
  refine lv_iadd S.1 S.2.1 dL_law_687 ?_
  refine va_sld S.1 S.2.1 hX hbl hbA hS (el_in 1 (by decide) hi hL) dL_law_688 ?_
  refine lv_aload_n S.1 S.2.1 dL_law_689 rfl (lv_at hl 0 rfl) ?_
  refine lv_iload_n S.1 S.2.1 dL_law_690 rfl (lv_at hl 3 rfl) ?_
  refine lv_iconst (v := 2) S.1 S.2.1 dL_law_691 (by decide) ?_
  refine lv_iadd S.1 S.2.1 dL_law_692 ?_
  refine va_sld S.1 S.2.1 hX hbl hbA hS (el_in 2 (by decide) hi hL) dL_law_693 ?_
  refine el_k9 (ed_rV S hK hN (c_X9_slugChar _ D cy (B + 1862) (xs (nI i + 1).toNatClampNeg) (xs (nI i + 2).toNatClampNeg) ν r h2) (cwV 2 S.2.2.2.2 (ed_gV ed_w5_17 ed_w5_18 ed_w5_19 ed_w1_10 ed_w5_20) rfl rfl rfl hd_X9_slugChar ⟨Nat.le_of_ble_eq_true rfl, Nat.le_of_ble_eq_true rfl⟩) (em_rc hK hN) rfl hl.1 rfl (Nat.le_of_ble_eq_true rfl) dL_law_694 ⟨Nat.le_of_ble_eq_true rfl, Nat.le_of_ble_eq_true rfl⟩) hM hS (fun H locs hN hM hS => ?_)
  refine lv_icmp_eq (tgt := 989) S.1 S.2.1 dL_law_697 (by decide) (fun _ => ?_) (fun q => absurd rfl q)
  exact kk _ _ _ _ _ hM hN hR hS hl
