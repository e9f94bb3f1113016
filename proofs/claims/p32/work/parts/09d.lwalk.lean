/-! walks, laid by program (wip/p32/gen/gen.py) -/
set_option maxHeartbeats 4000000 in
set_option maxRecDepth 100000 in
theorem w_L_copies_637 {p : Program} {l : Launch} {e : Env} {s : State} {m : MethodId} {args : Array Value} {below : List Frame} {meth : Method} {c : Code} {D : va_G} {cy : Nat → ClassId} {B : Nat} {b : Nat} {μ : ed_CM} (S : CallFix p m c cL_copies 13 s args ed_ws RL) (hr : meth.sig.returnType = (some .boolean)) (hlocks : meth.locks = false) (hK : ed_K D cy s) (r : Int32) :
    ∀ (n : Nat), ∀ (x4 x5 x6 : Int32) (α : em_MM), f_L_copies_637 μ n x4 x5 x6 α = some r → ∀ (H : Heap) (locs : List Loc) (ls : Array Slot), la_P D cy B b μ α H → va_S (ec_A B) s.heap H locs → lv_has ls 13 [(0, .ref (B + ed_oF 7 14 0)), (1, .ref (b + 0)), (3, .ref (b + 2)), (4, .int x4), (5, .int x5), (6, .int x6)] → W p l e (headSpec wsL_copies rmL_copies).room s m args below meth c H locs 3 33 (MQ below (ed_qI (ec_A B) (ed_P D cy B μ) r) args s 3 33 (ec_A B)) (F0 m 637 ls []) := by
  intro n
  induction n with
  | zero => intro x4 x5 x6 α hf; rw [f_L_copies_637] at hf; cases hf
  | succ n ih =>
    intro x4 x5 x6 α hf H locs ls hM hS hl
    rw [f_L_copies_637] at hf
    refine lv_iload S.1 S.2.1 dL_copies_637 (lv_at hl 5 rfl) ?_
    refine lv_aload_n S.1 S.2.1 dL_copies_639 rfl (lv_at hl 0 rfl) ?_
    refine lv_iconst (v := 1) S.1 S.2.1 dL_copies_640 (by decide) ?_
    obtain ⟨r6, hq6, hf⟩ := ed_b_e hf
    refine la_kA (ed_rV S hK hM.1 (c_X8_count _ D cy B 1 μ r6 hq6) (cwV 1 S.2.2.2.2 (ed_gV ed_w3_115 ed_w3_116 ed_w3_117 ed_w1_1 ed_w3_118) rfl rfl rfl hd_X8_count ⟨Nat.le_of_ble_eq_true rfl, Nat.le_of_ble_eq_true rfl⟩) (ed_rc (q := (RX8, TX8, 6)) (r := (μ 7 14 0)) hK hM.1 ed_v14 rfl (ed_e14 cy B 7 0 _) rfl) rfl hl.1 rfl (Nat.le_of_ble_eq_true rfl) dL_copies_641 ⟨Nat.le_of_ble_eq_true rfl, Nat.le_of_ble_eq_true rfl⟩) hM hS (fun H locs hM hS => ?_)
    refine lv_icmp_ge (tgt := 717) S.1 S.2.1 dL_copies_644 (by decide) (fun c7 => ?_) (fun c7 => ?_)
    · replace hf := ed_ip c7 hf
      refine lv_iload S.1 S.2.1 dL_copies_717 (lv_at hl 4 rfl) ?_
      refine lv_if_eq (tgt := 764) S.1 S.2.1 dL_copies_719 (by decide) (fun c8 => ?_) (fun c8 => ?_)
      · replace hf := ed_ip c8 hf
        refine lv_iconst (v := 0) S.1 S.2.1 dL_copies_764 (by decide) ?_
        obtain rfl := Option.some.inj hf
        exact ed_rz S hr hlocks rfl hM.1 hS dL_copies_765
      · replace hf := ed_in_ c8 hf
        refine lv_iload S.1 S.2.1 dL_copies_722 (lv_at hl 3 rfl) ?_
        refine lv_aload_n S.1 S.2.1 dL_copies_724 rfl (lv_at hl 0 rfl) ?_
        refine lv_bipush (v := 9) S.1 S.2.1 dL_copies_725 (by decide) ?_
        obtain ⟨r9, hq9, hf⟩ := ed_b_e hf
        refine la_kA (ed_rV S hK hM.1 (c_X8_count _ D cy B 9 μ r9 hq9) (cwV 1 S.2.2.2.2 (ed_gV ed_w3_115 ed_w3_116 ed_w3_117 ed_w1_1 ed_w3_118) rfl rfl rfl hd_X8_count ⟨Nat.le_of_ble_eq_true rfl, Nat.le_of_ble_eq_true rfl⟩) (ed_rc (q := (RX8, TX8, 6)) (r := (μ 7 14 0)) hK hM.1 ed_v14 rfl (ed_e14 cy B 7 0 _) rfl) rfl hl.1 rfl (Nat.le_of_ble_eq_true rfl) dL_copies_727 ⟨Nat.le_of_ble_eq_true rfl, Nat.le_of_ble_eq_true rfl⟩) hM hS (fun H locs hM hS => ?_)
        refine lv_icmp_ne (tgt := 764) S.1 S.2.1 dL_copies_730 (by decide) (fun c10 => ?_) (fun c10 => ?_)
        · replace hf := ed_in_ c10 hf
          refine lv_iconst (v := 0) S.1 S.2.1 dL_copies_764 (by decide) ?_
          obtain rfl := Option.some.inj hf
          exact ed_rz S hr hlocks rfl hM.1 hS dL_copies_765
        · replace hf := ed_ip c10 hf
          refine lv_aload_n S.1 S.2.1 dL_copies_733 rfl (lv_at hl 0 rfl) ?_
          refine lv_iconst (v := 3) S.1 S.2.1 dL_copies_734 (by decide) ?_
          obtain ⟨r11, hq11, hf⟩ := ed_b_e hf
          refine la_kA (ed_rV S hK hM.1 (c_X8_count _ D cy B 3 μ r11 hq11) (cwV 1 S.2.2.2.2 (ed_gV ed_w3_115 ed_w3_116 ed_w3_117 ed_w1_1 ed_w3_118) rfl rfl rfl hd_X8_count ⟨Nat.le_of_ble_eq_true rfl, Nat.le_of_ble_eq_true rfl⟩) (ed_rc (q := (RX8, TX8, 6)) (r := (μ 7 14 0)) hK hM.1 ed_v14 rfl (ed_e14 cy B 7 0 _) rfl) rfl hl.1 rfl (Nat.le_of_ble_eq_true rfl) dL_copies_735 ⟨Nat.le_of_ble_eq_true rfl, Nat.le_of_ble_eq_true rfl⟩) hM hS (fun H locs hM hS => ?_)
          refine lv_aload_n S.1 S.2.1 dL_copies_738 rfl (lv_at hl 1 rfl) ?_
          refine lv_iconst (v := 0) S.1 S.2.1 dL_copies_739 (by decide) ?_
          obtain ⟨hx12, hf⟩ := ed_g_e hf
          refine la_ild S hK hM 0 (by decide) rfl hx12 dL_copies_740 ?_
          refine lv_aload_n S.1 S.2.1 dL_copies_741 rfl (lv_at hl 1 rfl) ?_
          refine lv_iconst (v := 1) S.1 S.2.1 dL_copies_742 (by decide) ?_
          obtain ⟨hx13, hf⟩ := ed_g_e hf
          refine la_ild S hK hM 0 (by decide) rfl hx13 dL_copies_743 ?_
          refine lv_iadd S.1 S.2.1 dL_copies_744 ?_
          refine lv_aload_n S.1 S.2.1 dL_copies_745 rfl (lv_at hl 1 rfl) ?_
          refine lv_iconst (v := 2) S.1 S.2.1 dL_copies_746 (by decide) ?_
          obtain ⟨hx14, hf⟩ := ed_g_e hf
          refine la_ild S hK hM 0 (by decide) rfl hx14 dL_copies_747 ?_
          refine lv_iadd S.1 S.2.1 dL_copies_748 ?_
          refine lv_aload_n S.1 S.2.1 dL_copies_749 rfl (lv_at hl 1 rfl) ?_
          refine lv_iconst (v := 3) S.1 S.2.1 dL_copies_750 (by decide) ?_
          obtain ⟨hx15, hf⟩ := ed_g_e hf
          refine la_ild S hK hM 0 (by decide) rfl hx15 dL_copies_751 ?_
          refine lv_iadd S.1 S.2.1 dL_copies_752 ?_
          refine lv_aload_n S.1 S.2.1 dL_copies_753 rfl (lv_at hl 1 rfl) ?_
          refine lv_iconst (v := 4) S.1 S.2.1 dL_copies_754 (by decide) ?_
          obtain ⟨hx16, hf⟩ := ed_g_e hf
          refine la_ild S hK hM 0 (by decide) rfl hx16 dL_copies_755 ?_
          refine lv_iadd S.1 S.2.1 dL_copies_756 ?_
          refine lv_icmp_ne (tgt := 764) S.1 S.2.1 dL_copies_757 (by decide) (fun c17 => ?_) (fun c17 => ?_)
          · replace hf := ed_in_ c17 hf
            refine lv_iconst (v := 0) S.1 S.2.1 dL_copies_764 (by decide) ?_
            obtain rfl := Option.some.inj hf
            exact ed_rz S hr hlocks rfl hM.1 hS dL_copies_765
          · replace hf := ed_ip c17 hf
            refine lv_iconst (v := 1) S.1 S.2.1 dL_copies_760 (by decide) ?_
            refine lv_goto (tgt := 765) S.1 S.2.1 dL_copies_761 (by decide) ?_
            obtain rfl := Option.some.inj hf
            exact ed_rz S hr hlocks rfl hM.1 hS dL_copies_765
    · replace hf := ed_in_ c7 hf
      refine lv_iload S.1 S.2.1 dL_copies_647 (lv_at hl 4 rfl) ?_
      refine lv_if_eq (tgt := 717) S.1 S.2.1 dL_copies_649 (by decide) (fun c18 => ?_) (fun c18 => ?_)
      · replace hf := ed_ip c18 hf
        refine lv_iload S.1 S.2.1 dL_copies_717 (lv_at hl 4 rfl) ?_
        refine lv_if_eq (tgt := 764) S.1 S.2.1 dL_copies_719 (by decide) (fun c19 => ?_) (fun c19 => ?_)
        · replace hf := ed_ip c19 hf
          refine lv_iconst (v := 0) S.1 S.2.1 dL_copies_764 (by decide) ?_
          obtain rfl := Option.some.inj hf
          exact ed_rz S hr hlocks rfl hM.1 hS dL_copies_765
        · replace hf := ed_in_ c19 hf
          refine lv_iload S.1 S.2.1 dL_copies_722 (lv_at hl 3 rfl) ?_
          refine lv_aload_n S.1 S.2.1 dL_copies_724 rfl (lv_at hl 0 rfl) ?_
          refine lv_bipush (v := 9) S.1 S.2.1 dL_copies_725 (by decide) ?_
          obtain ⟨r20, hq20, hf⟩ := ed_b_e hf
          refine la_kA (ed_rV S hK hM.1 (c_X8_count _ D cy B 9 μ r20 hq20) (cwV 1 S.2.2.2.2 (ed_gV ed_w3_115 ed_w3_116 ed_w3_117 ed_w1_1 ed_w3_118) rfl rfl rfl hd_X8_count ⟨Nat.le_of_ble_eq_true rfl, Nat.le_of_ble_eq_true rfl⟩) (ed_rc (q := (RX8, TX8, 6)) (r := (μ 7 14 0)) hK hM.1 ed_v14 rfl (ed_e14 cy B 7 0 _) rfl) rfl hl.1 rfl (Nat.le_of_ble_eq_true rfl) dL_copies_727 ⟨Nat.le_of_ble_eq_true rfl, Nat.le_of_ble_eq_true rfl⟩) hM hS (fun H locs hM hS => ?_)
          refine lv_icmp_ne (tgt := 764) S.1 S.2.1 dL_copies_730 (by decide) (fun c21 => ?_) (fun c21 => ?_)
          · replace hf := ed_in_ c21 hf
            refine lv_iconst (v := 0) S.1 S.2.1 dL_copies_764 (by decide) ?_
            obtain rfl := Option.some.inj hf
            exact ed_rz S hr hlocks rfl hM.1 hS dL_copies_765
          · replace hf := ed_ip c21 hf
            refine lv_aload_n S.1 S.2.1 dL_copies_733 rfl (lv_at hl 0 rfl) ?_
            refine lv_iconst (v := 3) S.1 S.2.1 dL_copies_734 (by decide) ?_
            obtain ⟨r22, hq22, hf⟩ := ed_b_e hf
            refine la_kA (ed_rV S hK hM.1 (c_X8_count _ D cy B 3 μ r22 hq22) (cwV 1 S.2.2.2.2 (ed_gV ed_w3_115 ed_w3_116 ed_w3_117 ed_w1_1 ed_w3_118) rfl rfl rfl hd_X8_count ⟨Nat.le_of_ble_eq_true rfl, Nat.le_of_ble_eq_true rfl⟩) (ed_rc (q := (RX8, TX8, 6)) (r := (μ 7 14 0)) hK hM.1 ed_v14 rfl (ed_e14 cy B 7 0 _) rfl) rfl hl.1 rfl (Nat.le_of_ble_eq_true rfl) dL_copies_735 ⟨Nat.le_of_ble_eq_true rfl, Nat.le_of_ble_eq_true rfl⟩) hM hS (fun H locs hM hS => ?_)
            refine lv_aload_n S.1 S.2.1 dL_copies_738 rfl (lv_at hl 1 rfl) ?_
            refine lv_iconst (v := 0) S.1 S.2.1 dL_copies_739 (by decide) ?_
            obtain ⟨hx23, hf⟩ := ed_g_e hf
            refine la_ild S hK hM 0 (by decide) rfl hx23 dL_copies_740 ?_
            refine lv_aload_n S.1 S.2.1 dL_copies_741 rfl (lv_at hl 1 rfl) ?_
            refine lv_iconst (v := 1) S.1 S.2.1 dL_copies_742 (by decide) ?_
            obtain ⟨hx24, hf⟩ := ed_g_e hf
            refine la_ild S hK hM 0 (by decide) rfl hx24 dL_copies_743 ?_
            refine lv_iadd S.1 S.2.1 dL_copies_744 ?_
            refine lv_aload_n S.1 S.2.1 dL_copies_745 rfl (lv_at hl 1 rfl) ?_
            refine lv_iconst (v := 2) S.1 S.2.1 dL_copies_746 (by decide) ?_
            obtain ⟨hx25, hf⟩ := ed_g_e hf
            refine la_ild S hK hM 0 (by decide) rfl hx25 dL_copies_747 ?_
            refine lv_iadd S.1 S.2.1 dL_copies_748 ?_
            refine lv_aload_n S.1 S.2.1 dL_copies_749 rfl (lv_at hl 1 rfl) ?_
            refine lv_iconst (v := 3) S.1 S.2.1 dL_copies_750 (by decide) ?_
            obtain ⟨hx26, hf⟩ := ed_g_e hf
            refine la_ild S hK hM 0 (by decide) rfl hx26 dL_copies_751 ?_
            refine lv_iadd S.1 S.2.1 dL_copies_752 ?_
            refine lv_aload_n S.1 S.2.1 dL_copies_753 rfl (lv_at hl 1 rfl) ?_
            refine lv_iconst (v := 4) S.1 S.2.1 dL_copies_754 (by decide) ?_
            obtain ⟨hx27, hf⟩ := ed_g_e hf
            refine la_ild S hK hM 0 (by decide) rfl hx27 dL_copies_755 ?_
            refine lv_iadd S.1 S.2.1 dL_copies_756 ?_
            refine lv_icmp_ne (tgt := 764) S.1 S.2.1 dL_copies_757 (by decide) (fun c28 => ?_) (fun c28 => ?_)
            · replace hf := ed_in_ c28 hf
              refine lv_iconst (v := 0) S.1 S.2.1 dL_copies_764 (by decide) ?_
              obtain rfl := Option.some.inj hf
              exact ed_rz S hr hlocks rfl hM.1 hS dL_copies_765
            · replace hf := ed_ip c28 hf
              refine lv_iconst (v := 1) S.1 S.2.1 dL_copies_760 (by decide) ?_
              refine lv_goto (tgt := 765) S.1 S.2.1 dL_copies_761 (by decide) ?_
              obtain rfl := Option.some.inj hf
              exact ed_rz S hr hlocks rfl hM.1 hS dL_copies_765
      · replace hf := ed_in_ c18 hf
        refine lv_aload_n S.1 S.2.1 dL_copies_652 rfl (lv_at hl 0 rfl) ?_
        refine lv_iload S.1 S.2.1 dL_copies_653 (lv_at hl 5 rfl) ?_
        refine lv_bipush (v := 9) S.1 S.2.1 dL_copies_655 (by decide) ?_
        obtain ⟨r29, hq29, hf⟩ := ed_b_e hf
        refine la_kA (ed_rV S hK hM.1 (c_X8_client _ D cy B x6 9 μ r29 hq29) (cwV 2 S.2.2.2.2 (ed_gV ed_w3_104 ed_w3_105 ed_w3_106 ed_w1_1 ed_w3_107) rfl rfl rfl hd_X8_client ⟨Nat.le_of_ble_eq_true rfl, Nat.le_of_ble_eq_true rfl⟩) (ed_rc (q := (RX8, TX8, 6)) (r := (μ 7 14 0)) hK hM.1 ed_v14 rfl (ed_e14 cy B 7 0 _) rfl) rfl hl.1 rfl (Nat.le_of_ble_eq_true rfl) dL_copies_657 ⟨Nat.le_of_ble_eq_true rfl, Nat.le_of_ble_eq_true rfl⟩) hM hS (fun H locs hM hS => ?_)
        refine lv_aload_n S.1 S.2.1 dL_copies_660 rfl (lv_at hl 2 rfl) ?_
        refine lv_iload S.1 S.2.1 dL_copies_661 (lv_at hl 5 rfl) ?_
        obtain ⟨hx30, hf⟩ := ed_g_e hf
        refine la_ild S hK hM 2 (by decide) rfl hx30 dL_copies_663 ?_
        refine lv_icmp_ne (tgt := 708) S.1 S.2.1 dL_copies_664 (by decide) (fun c31 => ?_) (fun c31 => ?_)
        · replace hf := ed_in_ c31 hf
          refine lv_iconst (v := 0) S.1 S.2.1 dL_copies_708 (by decide) ?_
          refine lv_istore (lv' := [(5, .int 0), (0, .ref (B + ed_oF 7 14 0)), (1, .ref (b + 0)), (3, .ref (b + 2)), (4, .int x4), (6, .int x6)]) S.1 S.2.1 dL_copies_709 hl (by decide) rfl (fun ls hl => ?_)
          refine lv_iinc (v := x6 + 1) (lv' := [(6, .int (x6 + 1)), (5, .int 0), (0, .ref (B + ed_oF 7 14 0)), (1, .ref (b + 0)), (3, .ref (b + 2)), (4, .int x4)]) S.1 S.2.1 dL_copies_711 hl (k := 5) rfl rfl (by decide) rfl (fun ls hl => ?_)
          refine lv_goto (tgt := 637) S.1 S.2.1 dL_copies_714 (by decide) ?_
          exact ih x4 0 (x6 + 1) α hf _ _ _ hM hS (lv_sub hl [2, 3, 4, 5, 1, 0] rfl)
        · replace hf := ed_ip c31 hf
          refine lv_aload_n S.1 S.2.1 dL_copies_667 rfl (lv_at hl 0 rfl) ?_
          refine lv_iload S.1 S.2.1 dL_copies_668 (lv_at hl 5 rfl) ?_
          refine lv_bipush (v := 7) S.1 S.2.1 dL_copies_670 (by decide) ?_
          obtain ⟨r32, hq32, hf⟩ := ed_b_e hf
          refine la_kA (ed_rV S hK hM.1 (c_X8_client _ D cy B x6 7 μ r32 hq32) (cwV 2 S.2.2.2.2 (ed_gV ed_w3_104 ed_w3_105 ed_w3_106 ed_w1_1 ed_w3_107) rfl rfl rfl hd_X8_client ⟨Nat.le_of_ble_eq_true rfl, Nat.le_of_ble_eq_true rfl⟩) (ed_rc (q := (RX8, TX8, 6)) (r := (μ 7 14 0)) hK hM.1 ed_v14 rfl (ed_e14 cy B 7 0 _) rfl) rfl hl.1 rfl (Nat.le_of_ble_eq_true rfl) dL_copies_672 ⟨Nat.le_of_ble_eq_true rfl, Nat.le_of_ble_eq_true rfl⟩) hM hS (fun H locs hM hS => ?_)
          refine lv_aload_n S.1 S.2.1 dL_copies_675 rfl (lv_at hl 0 rfl) ?_
          refine lv_iload S.1 S.2.1 dL_copies_676 (lv_at hl 5 rfl) ?_
          refine lv_iconst (v := 3) S.1 S.2.1 dL_copies_678 (by decide) ?_
          obtain ⟨r33, hq33, hf⟩ := ed_b_e hf
          refine la_kA (ed_rV S hK hM.1 (c_X8_client _ D cy B x6 3 μ r33 hq33) (cwV 2 S.2.2.2.2 (ed_gV ed_w3_104 ed_w3_105 ed_w3_106 ed_w1_1 ed_w3_107) rfl rfl rfl hd_X8_client ⟨Nat.le_of_ble_eq_true rfl, Nat.le_of_ble_eq_true rfl⟩) (ed_rc (q := (RX8, TX8, 6)) (r := (μ 7 14 0)) hK hM.1 ed_v14 rfl (ed_e14 cy B 7 0 _) rfl) rfl hl.1 rfl (Nat.le_of_ble_eq_true rfl) dL_copies_679 ⟨Nat.le_of_ble_eq_true rfl, Nat.le_of_ble_eq_true rfl⟩) hM hS (fun H locs hM hS => ?_)
          refine lv_icmp_gt (tgt := 708) S.1 S.2.1 dL_copies_682 (by decide) (fun c34 => ?_) (fun c34 => ?_)
          · replace hf := ed_ip c34 hf
            refine lv_iconst (v := 0) S.1 S.2.1 dL_copies_708 (by decide) ?_
            refine lv_istore (lv' := [(5, .int 0), (0, .ref (B + ed_oF 7 14 0)), (1, .ref (b + 0)), (3, .ref (b + 2)), (4, .int x4), (6, .int x6)]) S.1 S.2.1 dL_copies_709 hl (by decide) rfl (fun ls hl => ?_)
            refine lv_iinc (v := x6 + 1) (lv' := [(6, .int (x6 + 1)), (5, .int 0), (0, .ref (B + ed_oF 7 14 0)), (1, .ref (b + 0)), (3, .ref (b + 2)), (4, .int x4)]) S.1 S.2.1 dL_copies_711 hl (k := 5) rfl rfl (by decide) rfl (fun ls hl => ?_)
            refine lv_goto (tgt := 637) S.1 S.2.1 dL_copies_714 (by decide) ?_
            exact ih x4 0 (x6 + 1) α hf _ _ _ hM hS (lv_sub hl [2, 3, 4, 5, 1, 0] rfl)
          · replace hf := ed_in_ c34 hf
            refine lv_aload_n S.1 S.2.1 dL_copies_685 rfl (lv_at hl 0 rfl) ?_
            refine lv_iload S.1 S.2.1 dL_copies_686 (lv_at hl 5 rfl) ?_
            refine lv_bipush (v := 7) S.1 S.2.1 dL_copies_688 (by decide) ?_
            obtain ⟨r35, hq35, hf⟩ := ed_b_e hf
            refine la_kA (ed_rV S hK hM.1 (c_X8_client _ D cy B x6 7 μ r35 hq35) (cwV 2 S.2.2.2.2 (ed_gV ed_w3_104 ed_w3_105 ed_w3_106 ed_w1_1 ed_w3_107) rfl rfl rfl hd_X8_client ⟨Nat.le_of_ble_eq_true rfl, Nat.le_of_ble_eq_true rfl⟩) (ed_rc (q := (RX8, TX8, 6)) (r := (μ 7 14 0)) hK hM.1 ed_v14 rfl (ed_e14 cy B 7 0 _) rfl) rfl hl.1 rfl (Nat.le_of_ble_eq_true rfl) dL_copies_690 ⟨Nat.le_of_ble_eq_true rfl, Nat.le_of_ble_eq_true rfl⟩) hM hS (fun H locs hM hS => ?_)
            refine lv_aload_n S.1 S.2.1 dL_copies_693 rfl (lv_at hl 0 rfl) ?_
            refine lv_iload S.1 S.2.1 dL_copies_694 (lv_at hl 5 rfl) ?_
            refine lv_bipush (v := 8) S.1 S.2.1 dL_copies_696 (by decide) ?_
            obtain ⟨r36, hq36, hf⟩ := ed_b_e hf
            refine la_kA (ed_rV S hK hM.1 (c_X8_client _ D cy B x6 8 μ r36 hq36) (cwV 2 S.2.2.2.2 (ed_gV ed_w3_104 ed_w3_105 ed_w3_106 ed_w1_1 ed_w3_107) rfl rfl rfl hd_X8_client ⟨Nat.le_of_ble_eq_true rfl, Nat.le_of_ble_eq_true rfl⟩) (ed_rc (q := (RX8, TX8, 6)) (r := (μ 7 14 0)) hK hM.1 ed_v14 rfl (ed_e14 cy B 7 0 _) rfl) rfl hl.1 rfl (Nat.le_of_ble_eq_true rfl) dL_copies_698 ⟨Nat.le_of_ble_eq_true rfl, Nat.le_of_ble_eq_true rfl⟩) hM hS (fun H locs hM hS => ?_)
            refine lv_icmp_gt (tgt := 708) S.1 S.2.1 dL_copies_701 (by decide) (fun c37 => ?_) (fun c37 => ?_)
            · replace hf := ed_ip c37 hf
              refine lv_iconst (v := 0) S.1 S.2.1 dL_copies_708 (by decide) ?_
              refine lv_istore (lv' := [(5, .int 0), (0, .ref (B + ed_oF 7 14 0)), (1, .ref (b + 0)), (3, .ref (b + 2)), (4, .int x4), (6, .int x6)]) S.1 S.2.1 dL_copies_709 hl (by decide) rfl (fun ls hl => ?_)
              refine lv_iinc (v := x6 + 1) (lv' := [(6, .int (x6 + 1)), (5, .int 0), (0, .ref (B + ed_oF 7 14 0)), (1, .ref (b + 0)), (3, .ref (b + 2)), (4, .int x4)]) S.1 S.2.1 dL_copies_711 hl (k := 5) rfl rfl (by decide) rfl (fun ls hl => ?_)
              refine lv_goto (tgt := 637) S.1 S.2.1 dL_copies_714 (by decide) ?_
              exact ih x4 0 (x6 + 1) α hf _ _ _ hM hS (lv_sub hl [2, 3, 4, 5, 1, 0] rfl)
            · replace hf := ed_in_ c37 hf
              refine lv_iconst (v := 1) S.1 S.2.1 dL_copies_704 (by decide) ?_
              refine lv_goto (tgt := 709) S.1 S.2.1 dL_copies_705 (by decide) ?_
              refine lv_istore (lv' := [(5, .int 1), (0, .ref (B + ed_oF 7 14 0)), (1, .ref (b + 0)), (3, .ref (b + 2)), (4, .int x4), (6, .int x6)]) S.1 S.2.1 dL_copies_709 hl (by decide) rfl (fun ls hl => ?_)
              refine lv_iinc (v := x6 + 1) (lv' := [(6, .int (x6 + 1)), (5, .int 1), (0, .ref (B + ed_oF 7 14 0)), (1, .ref (b + 0)), (3, .ref (b + 2)), (4, .int x4)]) S.1 S.2.1 dL_copies_711 hl (k := 5) rfl rfl (by decide) rfl (fun ls hl => ?_)
              refine lv_goto (tgt := 637) S.1 S.2.1 dL_copies_714 (by decide) ?_
              exact ih x4 1 (x6 + 1) α hf _ _ _ hM hS (lv_sub hl [2, 3, 4, 5, 1, 0] rfl)
set_option maxHeartbeats 4000000 in
set_option maxRecDepth 100000 in
theorem w_L_copies_557 {p : Program} {l : Launch} {e : Env} {s : State} {m : MethodId} {args : Array Value} {below : List Frame} {meth : Method} {c : Code} {D : va_G} {cy : Nat → ClassId} {B : Nat} {b : Nat} {μ : ed_CM} (S : CallFix p m c cL_copies 13 s args ed_ws RL) (hr : meth.sig.returnType = (some .boolean)) (hlocks : meth.locks = false) (hK : ed_K D cy s) (r : Int32) :
    ∀ (n : Nat), ∀ (x4 x5 x6 : Int32) (α : em_MM), f_L_copies_557 μ n x4 x5 x6 α = some r → ∀ (H : Heap) (locs : List Loc) (ls : Array Slot), la_P D cy B b μ α H → va_S (ec_A B) s.heap H locs → lv_has ls 13 [(0, .ref (B + ed_oF 7 14 0)), (1, .ref (b + 0)), (2, .ref (b + 1)), (3, .ref (b + 2)), (4, .int x4), (5, .int x5), (6, .int x6)] → W p l e (headSpec wsL_copies rmL_copies).room s m args below meth c H locs 3 33 (MQ below (ed_qI (ec_A B) (ed_P D cy B μ) r) args s 3 33 (ec_A B)) (F0 m 557 ls []) := by
  intro n
  induction n with
  | zero => intro x4 x5 x6 α hf; rw [f_L_copies_557] at hf; cases hf
  | succ n ih =>
    intro x4 x5 x6 α hf H locs ls hM hS hl
    rw [f_L_copies_557] at hf
    refine lv_iload S.1 S.2.1 dL_copies_557 (lv_at hl 6 rfl) ?_
    refine lv_aload_n S.1 S.2.1 dL_copies_559 rfl (lv_at hl 0 rfl) ?_
    refine lv_iconst (v := 2) S.1 S.2.1 dL_copies_560 (by decide) ?_
    obtain ⟨r4, hq4, hf⟩ := ed_b_e hf
    refine la_kA (ed_rV S hK hM.1 (c_X8_count _ D cy B 2 μ r4 hq4) (cwV 1 S.2.2.2.2 (ed_gV ed_w3_115 ed_w3_116 ed_w3_117 ed_w1_1 ed_w3_118) rfl rfl rfl hd_X8_count ⟨Nat.le_of_ble_eq_true rfl, Nat.le_of_ble_eq_true rfl⟩) (ed_rc (q := (RX8, TX8, 6)) (r := (μ 7 14 0)) hK hM.1 ed_v14 rfl (ed_e14 cy B 7 0 _) rfl) rfl hl.1 rfl (Nat.le_of_ble_eq_true rfl) dL_copies_561 ⟨Nat.le_of_ble_eq_true rfl, Nat.le_of_ble_eq_true rfl⟩) hM hS (fun H locs hM hS => ?_)
    refine lv_icmp_ge (tgt := 634) S.1 S.2.1 dL_copies_564 (by decide) (fun c5 => ?_) (fun c5 => ?_)
    · replace hf := ed_ip c5 hf
      refine lv_iconst (v := 0) S.1 S.2.1 dL_copies_634 (by decide) ?_
      refine lv_istore (lv' := [(6, .int 0), (0, .ref (B + ed_oF 7 14 0)), (1, .ref (b + 0)), (2, .ref (b + 1)), (3, .ref (b + 2)), (4, .int x4), (5, .int x5)]) S.1 S.2.1 dL_copies_635 hl (by decide) rfl (fun ls hl => ?_)
      exact w_L_copies_637 S hr hlocks hK r ed_N x4 x5 0 α hf _ _ _ hM hS (lv_sub hl [1, 2, 4, 5, 6, 0] rfl)
    · replace hf := ed_in_ c5 hf
      refine lv_iload S.1 S.2.1 dL_copies_567 (lv_at hl 5 rfl) ?_
      refine lv_if_eq (tgt := 634) S.1 S.2.1 dL_copies_569 (by decide) (fun c38 => ?_) (fun c38 => ?_)
      · replace hf := ed_ip c38 hf
        refine lv_iconst (v := 0) S.1 S.2.1 dL_copies_634 (by decide) ?_
        refine lv_istore (lv' := [(6, .int 0), (0, .ref (B + ed_oF 7 14 0)), (1, .ref (b + 0)), (2, .ref (b + 1)), (3, .ref (b + 2)), (4, .int x4), (5, .int x5)]) S.1 S.2.1 dL_copies_635 hl (by decide) rfl (fun ls hl => ?_)
        exact w_L_copies_637 S hr hlocks hK r ed_N x4 x5 0 α hf _ _ _ hM hS (lv_sub hl [1, 2, 4, 5, 6, 0] rfl)
      · replace hf := ed_in_ c38 hf
        refine lv_aload_n S.1 S.2.1 dL_copies_572 rfl (lv_at hl 0 rfl) ?_
        refine lv_iload S.1 S.2.1 dL_copies_573 (lv_at hl 6 rfl) ?_
        refine lv_bipush (v := 8) S.1 S.2.1 dL_copies_575 (by decide) ?_
        obtain ⟨r39, hq39, hf⟩ := ed_b_e hf
        refine la_kA (ed_rV S hK hM.1 (c_X8_story _ D cy B x6 8 μ r39 hq39) (cwV 2 S.2.2.2.2 (ed_gV ed_w3_169 ed_w3_170 ed_w3_171 ed_w1_1 ed_w3_172) rfl rfl rfl hd_X8_story ⟨Nat.le_of_ble_eq_true rfl, Nat.le_of_ble_eq_true rfl⟩) (ed_rc (q := (RX8, TX8, 6)) (r := (μ 7 14 0)) hK hM.1 ed_v14 rfl (ed_e14 cy B 7 0 _) rfl) rfl hl.1 rfl (Nat.le_of_ble_eq_true rfl) dL_copies_577 ⟨Nat.le_of_ble_eq_true rfl, Nat.le_of_ble_eq_true rfl⟩) hM hS (fun H locs hM hS => ?_)
        refine lv_aload_n S.1 S.2.1 dL_copies_580 rfl (lv_at hl 2 rfl) ?_
        refine lv_iload S.1 S.2.1 dL_copies_581 (lv_at hl 6 rfl) ?_
        obtain ⟨hx40, hf⟩ := ed_g_e hf
        refine la_ild S hK hM 1 (by decide) rfl hx40 dL_copies_583 ?_
        refine lv_icmp_ne (tgt := 625) S.1 S.2.1 dL_copies_584 (by decide) (fun c41 => ?_) (fun c41 => ?_)
        · replace hf := ed_in_ c41 hf
          refine lv_iconst (v := 0) S.1 S.2.1 dL_copies_625 (by decide) ?_
          refine lv_istore (lv' := [(5, .int 0), (0, .ref (B + ed_oF 7 14 0)), (1, .ref (b + 0)), (2, .ref (b + 1)), (3, .ref (b + 2)), (4, .int x4), (6, .int x6)]) S.1 S.2.1 dL_copies_626 hl (by decide) rfl (fun ls hl => ?_)
          refine lv_iinc (v := x6 + 1) (lv' := [(6, .int (x6 + 1)), (5, .int 0), (0, .ref (B + ed_oF 7 14 0)), (1, .ref (b + 0)), (2, .ref (b + 1)), (3, .ref (b + 2)), (4, .int x4)]) S.1 S.2.1 dL_copies_628 hl (k := 6) rfl rfl (by decide) rfl (fun ls hl => ?_)
          refine lv_goto (tgt := 557) S.1 S.2.1 dL_copies_631 (by decide) ?_
          exact ih x4 0 (x6 + 1) α hf _ _ _ hM hS (lv_sub hl [2, 3, 4, 5, 6, 1, 0] rfl)
        · replace hf := ed_ip c41 hf
          refine lv_aload_n S.1 S.2.1 dL_copies_587 rfl (lv_at hl 0 rfl) ?_
          refine lv_iload S.1 S.2.1 dL_copies_588 (lv_at hl 6 rfl) ?_
          refine lv_bipush (v := 9) S.1 S.2.1 dL_copies_590 (by decide) ?_
          obtain ⟨r42, hq42, hf⟩ := ed_b_e hf
          refine la_kA (ed_rV S hK hM.1 (c_X8_story _ D cy B x6 9 μ r42 hq42) (cwV 2 S.2.2.2.2 (ed_gV ed_w3_169 ed_w3_170 ed_w3_171 ed_w1_1 ed_w3_172) rfl rfl rfl hd_X8_story ⟨Nat.le_of_ble_eq_true rfl, Nat.le_of_ble_eq_true rfl⟩) (ed_rc (q := (RX8, TX8, 6)) (r := (μ 7 14 0)) hK hM.1 ed_v14 rfl (ed_e14 cy B 7 0 _) rfl) rfl hl.1 rfl (Nat.le_of_ble_eq_true rfl) dL_copies_592 ⟨Nat.le_of_ble_eq_true rfl, Nat.le_of_ble_eq_true rfl⟩) hM hS (fun H locs hM hS => ?_)
          refine lv_aload_n S.1 S.2.1 dL_copies_595 rfl (lv_at hl 2 rfl) ?_
          refine lv_iload S.1 S.2.1 dL_copies_596 (lv_at hl 6 rfl) ?_
          obtain ⟨hx43, hf⟩ := ed_g_e hf
          refine la_ild S hK hM 1 (by decide) rfl hx43 dL_copies_598 ?_
          refine lv_icmp_gt (tgt := 625) S.1 S.2.1 dL_copies_599 (by decide) (fun c44 => ?_) (fun c44 => ?_)
          · replace hf := ed_ip c44 hf
            refine lv_iconst (v := 0) S.1 S.2.1 dL_copies_625 (by decide) ?_
            refine lv_istore (lv' := [(5, .int 0), (0, .ref (B + ed_oF 7 14 0)), (1, .ref (b + 0)), (2, .ref (b + 1)), (3, .ref (b + 2)), (4, .int x4), (6, .int x6)]) S.1 S.2.1 dL_copies_626 hl (by decide) rfl (fun ls hl => ?_)
            refine lv_iinc (v := x6 + 1) (lv' := [(6, .int (x6 + 1)), (5, .int 0), (0, .ref (B + ed_oF 7 14 0)), (1, .ref (b + 0)), (2, .ref (b + 1)), (3, .ref (b + 2)), (4, .int x4)]) S.1 S.2.1 dL_copies_628 hl (k := 6) rfl rfl (by decide) rfl (fun ls hl => ?_)
            refine lv_goto (tgt := 557) S.1 S.2.1 dL_copies_631 (by decide) ?_
            exact ih x4 0 (x6 + 1) α hf _ _ _ hM hS (lv_sub hl [2, 3, 4, 5, 6, 1, 0] rfl)
          · replace hf := ed_in_ c44 hf
            refine lv_aload_n S.1 S.2.1 dL_copies_602 rfl (lv_at hl 0 rfl) ?_
            refine lv_iload S.1 S.2.1 dL_copies_603 (lv_at hl 6 rfl) ?_
            refine lv_bipush (v := 10) S.1 S.2.1 dL_copies_605 (by decide) ?_
            obtain ⟨r45, hq45, hf⟩ := ed_b_e hf
            refine la_kA (ed_rV S hK hM.1 (c_X8_story _ D cy B x6 10 μ r45 hq45) (cwV 2 S.2.2.2.2 (ed_gV ed_w3_169 ed_w3_170 ed_w3_171 ed_w1_1 ed_w3_172) rfl rfl rfl hd_X8_story ⟨Nat.le_of_ble_eq_true rfl, Nat.le_of_ble_eq_true rfl⟩) (ed_rc (q := (RX8, TX8, 6)) (r := (μ 7 14 0)) hK hM.1 ed_v14 rfl (ed_e14 cy B 7 0 _) rfl) rfl hl.1 rfl (Nat.le_of_ble_eq_true rfl) dL_copies_607 ⟨Nat.le_of_ble_eq_true rfl, Nat.le_of_ble_eq_true rfl⟩) hM hS (fun H locs hM hS => ?_)
            refine lv_aload_n S.1 S.2.1 dL_copies_610 rfl (lv_at hl 0 rfl) ?_
            refine lv_iload S.1 S.2.1 dL_copies_611 (lv_at hl 6 rfl) ?_
            refine lv_bipush (v := 9) S.1 S.2.1 dL_copies_613 (by decide) ?_
            obtain ⟨r46, hq46, hf⟩ := ed_b_e hf
            refine la_kA (ed_rV S hK hM.1 (c_X8_story _ D cy B x6 9 μ r46 hq46) (cwV 2 S.2.2.2.2 (ed_gV ed_w3_169 ed_w3_170 ed_w3_171 ed_w1_1 ed_w3_172) rfl rfl rfl hd_X8_story ⟨Nat.le_of_ble_eq_true rfl, Nat.le_of_ble_eq_true rfl⟩) (ed_rc (q := (RX8, TX8, 6)) (r := (μ 7 14 0)) hK hM.1 ed_v14 rfl (ed_e14 cy B 7 0 _) rfl) rfl hl.1 rfl (Nat.le_of_ble_eq_true rfl) dL_copies_615 ⟨Nat.le_of_ble_eq_true rfl, Nat.le_of_ble_eq_true rfl⟩) hM hS (fun H locs hM hS => ?_)
            refine lv_icmp_gt (tgt := 625) S.1 S.2.1 dL_copies_618 (by decide) (fun c47 => ?_) (fun c47 => ?_)
            · replace hf := ed_ip c47 hf
              refine lv_iconst (v := 0) S.1 S.2.1 dL_copies_625 (by decide) ?_
              refine lv_istore (lv' := [(5, .int 0), (0, .ref (B + ed_oF 7 14 0)), (1, .ref (b + 0)), (2, .ref (b + 1)), (3, .ref (b + 2)), (4, .int x4), (6, .int x6)]) S.1 S.2.1 dL_copies_626 hl (by decide) rfl (fun ls hl => ?_)
              refine lv_iinc (v := x6 + 1) (lv' := [(6, .int (x6 + 1)), (5, .int 0), (0, .ref (B + ed_oF 7 14 0)), (1, .ref (b + 0)), (2, .ref (b + 1)), (3, .ref (b + 2)), (4, .int x4)]) S.1 S.2.1 dL_copies_628 hl (k := 6) rfl rfl (by decide) rfl (fun ls hl => ?_)
              refine lv_goto (tgt := 557) S.1 S.2.1 dL_copies_631 (by decide) ?_
              exact ih x4 0 (x6 + 1) α hf _ _ _ hM hS (lv_sub hl [2, 3, 4, 5, 6, 1, 0] rfl)
            · replace hf := ed_in_ c47 hf
              refine lv_iconst (v := 1) S.1 S.2.1 dL_copies_621 (by decide) ?_
              refine lv_goto (tgt := 626) S.1 S.2.1 dL_copies_622 (by decide) ?_
              refine lv_istore (lv' := [(5, .int 1), (0, .ref (B + ed_oF 7 14 0)), (1, .ref (b + 0)), (2, .ref (b + 1)), (3, .ref (b + 2)), (4, .int x4), (6, .int x6)]) S.1 S.2.1 dL_copies_626 hl (by decide) rfl (fun ls hl => ?_)
              refine lv_iinc (v := x6 + 1) (lv' := [(6, .int (x6 + 1)), (5, .int 1), (0, .ref (B + ed_oF 7 14 0)), (1, .ref (b + 0)), (2, .ref (b + 1)), (3, .ref (b + 2)), (4, .int x4)]) S.1 S.2.1 dL_copies_628 hl (k := 6) rfl rfl (by decide) rfl (fun ls hl => ?_)
              refine lv_goto (tgt := 557) S.1 S.2.1 dL_copies_631 (by decide) ?_
              exact ih x4 1 (x6 + 1) α hf _ _ _ hM hS (lv_sub hl [2, 3, 4, 5, 6, 1, 0] rfl)
set_option maxHeartbeats 4000000 in
set_option maxRecDepth 100000 in
theorem w_L_copies_515 {p : Program} {l : Launch} {e : Env} {s : State} {m : MethodId} {args : Array Value} {below : List Frame} {meth : Method} {c : Code} {D : va_G} {cy : Nat → ClassId} {B : Nat} {b : Nat} {μ : ed_CM} (S : CallFix p m c cL_copies 13 s args ed_ws RL) (hr : meth.sig.returnType = (some .boolean)) (hlocks : meth.locks = false) (hK : ed_K D cy s) (r : Int32) :
    ∀ (n : Nat), ∀ (x4 x5 x6 : Int32) (α : em_MM), f_L_copies_515 μ n x4 x5 x6 α = some r → ∀ (H : Heap) (locs : List Loc) (ls : Array Slot), la_P D cy B b μ α H → va_S (ec_A B) s.heap H locs → lv_has ls 13 [(0, .ref (B + ed_oF 7 14 0)), (1, .ref (b + 0)), (2, .ref (b + 1)), (3, .ref (b + 2)), (4, .int x4), (5, .int x5), (6, .int x6)] → W p l e (headSpec wsL_copies rmL_copies).room s m args below meth c H locs 3 33 (MQ below (ed_qI (ec_A B) (ed_P D cy B μ) r) args s 3 33 (ec_A B)) (F0 m 515 ls []) := by
  intro n
  induction n with
  | zero => intro x4 x5 x6 α hf; rw [f_L_copies_515] at hf; cases hf
  | succ n ih =>
    intro x4 x5 x6 α hf H locs ls hM hS hl
    rw [f_L_copies_515] at hf
    refine lv_iload S.1 S.2.1 dL_copies_515 (lv_at hl 6 rfl) ?_
    refine lv_iconst (v := 5) S.1 S.2.1 dL_copies_517 (by decide) ?_
    refine lv_icmp_ge (tgt := 554) S.1 S.2.1 dL_copies_518 (by decide) (fun c3 => ?_) (fun c3 => ?_)
    · replace hf := ed_ip c3 hf
      refine lv_iconst (v := 0) S.1 S.2.1 dL_copies_554 (by decide) ?_
      refine lv_istore (lv' := [(6, .int 0), (0, .ref (B + ed_oF 7 14 0)), (1, .ref (b + 0)), (2, .ref (b + 1)), (3, .ref (b + 2)), (4, .int x4), (5, .int x5)]) S.1 S.2.1 dL_copies_555 hl (by decide) rfl (fun ls hl => ?_)
      exact w_L_copies_557 S hr hlocks hK r ed_N x4 x5 0 α hf _ _ _ hM hS (lv_sub hl [1, 2, 3, 4, 5, 6, 0] rfl)
    · replace hf := ed_in_ c3 hf
      refine lv_iload S.1 S.2.1 dL_copies_521 (lv_at hl 5 rfl) ?_
      refine lv_if_eq (tgt := 554) S.1 S.2.1 dL_copies_523 (by decide) (fun c48 => ?_) (fun c48 => ?_)
      · replace hf := ed_ip c48 hf
        refine lv_iconst (v := 0) S.1 S.2.1 dL_copies_554 (by decide) ?_
        refine lv_istore (lv' := [(6, .int 0), (0, .ref (B + ed_oF 7 14 0)), (1, .ref (b + 0)), (2, .ref (b + 1)), (3, .ref (b + 2)), (4, .int x4), (5, .int x5)]) S.1 S.2.1 dL_copies_555 hl (by decide) rfl (fun ls hl => ?_)
        exact w_L_copies_557 S hr hlocks hK r ed_N x4 x5 0 α hf _ _ _ hM hS (lv_sub hl [1, 2, 3, 4, 5, 6, 0] rfl)
      · replace hf := ed_in_ c48 hf
        refine lv_aload_n S.1 S.2.1 dL_copies_526 rfl (lv_at hl 0 rfl) ?_
        refine lv_iconst (v := 4) S.1 S.2.1 dL_copies_527 (by decide) ?_
        refine lv_iload S.1 S.2.1 dL_copies_528 (lv_at hl 6 rfl) ?_
        refine lv_iadd S.1 S.2.1 dL_copies_530 ?_
        obtain ⟨r49, hq49, hf⟩ := ed_b_e hf
        refine la_kA (ed_rV S hK hM.1 (c_X8_count _ D cy B ((4 : Int32) + x6 : Int32) μ r49 hq49) (cwV 1 S.2.2.2.2 (ed_gV ed_w3_115 ed_w3_116 ed_w3_117 ed_w1_1 ed_w3_118) rfl rfl rfl hd_X8_count ⟨Nat.le_of_ble_eq_true rfl, Nat.le_of_ble_eq_true rfl⟩) (ed_rc (q := (RX8, TX8, 6)) (r := (μ 7 14 0)) hK hM.1 ed_v14 rfl (ed_e14 cy B 7 0 _) rfl) rfl hl.1 rfl (Nat.le_of_ble_eq_true rfl) dL_copies_531 ⟨Nat.le_of_ble_eq_true rfl, Nat.le_of_ble_eq_true rfl⟩) hM hS (fun H locs hM hS => ?_)
        refine lv_aload_n S.1 S.2.1 dL_copies_534 rfl (lv_at hl 1 rfl) ?_
        refine lv_iload S.1 S.2.1 dL_copies_535 (lv_at hl 6 rfl) ?_
        obtain ⟨hx50, hf⟩ := ed_g_e hf
        refine la_ild S hK hM 0 (by decide) rfl hx50 dL_copies_537 ?_
        refine lv_icmp_ne (tgt := 545) S.1 S.2.1 dL_copies_538 (by decide) (fun c51 => ?_) (fun c51 => ?_)
        · replace hf := ed_in_ c51 hf
          refine lv_iconst (v := 0) S.1 S.2.1 dL_copies_545 (by decide) ?_
          refine lv_istore (lv' := [(5, .int 0), (0, .ref (B + ed_oF 7 14 0)), (1, .ref (b + 0)), (2, .ref (b + 1)), (3, .ref (b + 2)), (4, .int x4), (6, .int x6)]) S.1 S.2.1 dL_copies_546 hl (by decide) rfl (fun ls hl => ?_)
          refine lv_iinc (v := x6 + 1) (lv' := [(6, .int (x6 + 1)), (5, .int 0), (0, .ref (B + ed_oF 7 14 0)), (1, .ref (b + 0)), (2, .ref (b + 1)), (3, .ref (b + 2)), (4, .int x4)]) S.1 S.2.1 dL_copies_548 hl (k := 6) rfl rfl (by decide) rfl (fun ls hl => ?_)
          refine lv_goto (tgt := 515) S.1 S.2.1 dL_copies_551 (by decide) ?_
          exact ih x4 0 (x6 + 1) α hf _ _ _ hM hS (lv_sub hl [2, 3, 4, 5, 6, 1, 0] rfl)
        · replace hf := ed_ip c51 hf
          refine lv_iconst (v := 1) S.1 S.2.1 dL_copies_541 (by decide) ?_
          refine lv_goto (tgt := 546) S.1 S.2.1 dL_copies_542 (by decide) ?_
          refine lv_istore (lv' := [(5, .int 1), (0, .ref (B + ed_oF 7 14 0)), (1, .ref (b + 0)), (2, .ref (b + 1)), (3, .ref (b + 2)), (4, .int x4), (6, .int x6)]) S.1 S.2.1 dL_copies_546 hl (by decide) rfl (fun ls hl => ?_)
          refine lv_iinc (v := x6 + 1) (lv' := [(6, .int (x6 + 1)), (5, .int 1), (0, .ref (B + ed_oF 7 14 0)), (1, .ref (b + 0)), (2, .ref (b + 1)), (3, .ref (b + 2)), (4, .int x4)]) S.1 S.2.1 dL_copies_548 hl (k := 6) rfl rfl (by decide) rfl (fun ls hl => ?_)
          refine lv_goto (tgt := 515) S.1 S.2.1 dL_copies_551 (by decide) ?_
          exact ih x4 1 (x6 + 1) α hf _ _ _ hM hS (lv_sub hl [2, 3, 4, 5, 6, 1, 0] rfl)
set_option maxHeartbeats 4000000 in
set_option maxRecDepth 100000 in
theorem w_L_copies_506 {p : Program} {l : Launch} {e : Env} {s : State} {m : MethodId} {args : Array Value} {below : List Frame} {meth : Method} {c : Code} {D : va_G} {cy : Nat → ClassId} {B : Nat} {b : Nat} {μ : ed_CM} (S : CallFix p m c cL_copies 13 s args ed_ws RL) (hr : meth.sig.returnType = (some .boolean)) (hlocks : meth.locks = false) (hK : ed_K D cy s) (r : Int32) (k23 : Int32 → Int32 → Int32 → em_MM → Option Int32) (hk23 : ∀ (x4 x5 x6 : Int32) (α : em_MM), k23 x4 x5 x6 α = some r → ∀ (H : Heap) (locs : List Loc) (ls : Array Slot), la_P D cy B b μ α H → va_S (ec_A B) s.heap H locs → lv_has ls 13 [(0, .ref (B + ed_oF 7 14 0)), (1, .ref (b + 0)), (2, .ref (b + 1)), (3, .ref (b + 2)), (4, .int x4), (5, .int x5), (6, .int x6)] → W p l e (headSpec wsL_copies rmL_copies).room s m args below meth c H locs 3 33 (MQ below (ed_qI (ec_A B) (ed_P D cy B μ) r) args s 3 33 (ec_A B)) (F0 m 23 ls [])) :
    ∀ (x4 x5 x6 : Int32) (α : em_MM), f_L_copies_506 k23 μ x4 x5 x6 α = some r → ∀ (H : Heap) (locs : List Loc) (ls : Array Slot), la_P D cy B b μ α H → va_S (ec_A B) s.heap H locs → lv_has ls 13 [(0, .ref (B + ed_oF 7 14 0)), (1, .ref (b + 0)), (2, .ref (b + 1)), (3, .ref (b + 2)), (4, .int x4), (5, .int x5), (6, .int x6)] → W p l e (headSpec wsL_copies rmL_copies).room s m args below meth c H locs 3 33 (MQ below (ed_qI (ec_A B) (ed_P D cy B μ) r) args s 3 33 (ec_A B)) (F0 m 506 ls []) := by
  intro x4 x5 x6 α hf H locs ls hM hS hl
  unfold f_L_copies_506 at hf
  refine lv_iinc (v := x6 + 1) (lv' := [(6, .int (x6 + 1)), (0, .ref (B + ed_oF 7 14 0)), (1, .ref (b + 0)), (2, .ref (b + 1)), (3, .ref (b + 2)), (4, .int x4), (5, .int x5)]) S.1 S.2.1 dL_copies_506 hl (k := 6) rfl rfl (by decide) rfl (fun ls hl => ?_)
  refine lv_goto (tgt := 23) S.1 S.2.1 dL_copies_509 (by decide) ?_
  exact hk23 x4 x5 (x6 + 1) α hf _ _ _ hM hS (lv_sub hl [1, 2, 3, 4, 5, 6, 0] rfl)
set_option maxHeartbeats 4000000 in
set_option maxRecDepth 100000 in
theorem w_L_copies_447 {p : Program} {l : Launch} {e : Env} {s : State} {m : MethodId} {args : Array Value} {below : List Frame} {meth : Method} {c : Code} {D : va_G} {cy : Nat → ClassId} {B : Nat} {b : Nat} {μ : ed_CM} (S : CallFix p m c cL_copies 13 s args ed_ws RL) (hr : meth.sig.returnType = (some .boolean)) (hlocks : meth.locks = false) (hK : ed_K D cy s) (r : Int32) (k23 : Int32 → Int32 → Int32 → em_MM → Option Int32) (hk23 : ∀ (x4 x5 x6 : Int32) (α : em_MM), k23 x4 x5 x6 α = some r → ∀ (H : Heap) (locs : List Loc) (ls : Array Slot), la_P D cy B b μ α H → va_S (ec_A B) s.heap H locs → lv_has ls 13 [(0, .ref (B + ed_oF 7 14 0)), (1, .ref (b + 0)), (2, .ref (b + 1)), (3, .ref (b + 2)), (4, .int x4), (5, .int x5), (6, .int x6)] → W p l e (headSpec wsL_copies rmL_copies).room s m args below meth c H locs 3 33 (MQ below (ed_qI (ec_A B) (ed_P D cy B μ) r) args s 3 33 (ec_A B)) (F0 m 23 ls [])) :
    ∀ (x4 x5 x6 x7 x8 x12 : Int32) (α : em_MM), f_L_copies_447 k23 μ x4 x5 x6 x7 x8 x12 α = some r → ∀ (H : Heap) (locs : List Loc) (ls : Array Slot), la_P D cy B b μ α H → va_S (ec_A B) s.heap H locs → lv_has ls 13 [(0, .ref (B + ed_oF 7 14 0)), (1, .ref (b + 0)), (2, .ref (b + 1)), (3, .ref (b + 2)), (4, .int x4), (5, .int x5), (6, .int x6), (7, .int x7), (8, .int x8), (12, .int x12)] → W p l e (headSpec wsL_copies rmL_copies).room s m args below meth c H locs 3 33 (MQ below (ed_qI (ec_A B) (ed_P D cy B μ) r) args s 3 33 (ec_A B)) (F0 m 447 ls []) := by
  intro x4 x5 x6 x7 x8 x12 α hf H locs ls hM hS hl
  unfold f_L_copies_447 at hf
  refine lv_iload S.1 S.2.1 dL_copies_447 (lv_at hl 5 rfl) ?_
  refine lv_if_eq (tgt := 503) S.1 S.2.1 dL_copies_449 (by decide) (fun c78 => ?_) (fun c78 => ?_)
  · replace hf := ed_ip c78 hf
    refine lv_iconst (v := 0) S.1 S.2.1 dL_copies_503 (by decide) ?_
    refine lv_istore (lv' := [(5, .int 0), (0, .ref (B + ed_oF 7 14 0)), (1, .ref (b + 0)), (2, .ref (b + 1)), (3, .ref (b + 2)), (4, .int x4), (6, .int x6), (7, .int x7), (8, .int x8), (12, .int x12)]) S.1 S.2.1 dL_copies_504 hl (by decide) rfl (fun ls hl => ?_)
    exact w_L_copies_506 S hr hlocks hK r k23 hk23 x4 0 x6 α hf _ _ _ hM hS (lv_sub hl [1, 2, 3, 4, 5, 0, 6] rfl)
  · replace hf := ed_in_ c78 hf
    refine lv_iload S.1 S.2.1 dL_copies_452 (lv_at hl 9 rfl) ?_
    refine lv_if_eq (tgt := 499) S.1 S.2.1 dL_copies_454 (by decide) (fun c79 => ?_) (fun c79 => ?_)
    · replace hf := ed_ip c79 hf
      refine lv_iconst (v := 1) S.1 S.2.1 dL_copies_499 (by decide) ?_
      refine lv_goto (tgt := 504) S.1 S.2.1 dL_copies_500 (by decide) ?_
      refine lv_istore (lv' := [(5, .int 1), (0, .ref (B + ed_oF 7 14 0)), (1, .ref (b + 0)), (2, .ref (b + 1)), (3, .ref (b + 2)), (4, .int x4), (6, .int x6), (7, .int x7), (8, .int x8), (12, .int x12)]) S.1 S.2.1 dL_copies_504 hl (by decide) rfl (fun ls hl => ?_)
      exact w_L_copies_506 S hr hlocks hK r k23 hk23 x4 1 x6 α hf _ _ _ hM hS (lv_sub hl [1, 2, 3, 4, 5, 0, 6] rfl)
    · replace hf := ed_in_ c79 hf
      refine lv_aload_n S.1 S.2.1 dL_copies_457 rfl (lv_at hl 0 rfl) ?_
      refine lv_iload S.1 S.2.1 dL_copies_458 (lv_at hl 7 rfl) ?_
      refine lv_iconst (v := 3) S.1 S.2.1 dL_copies_460 (by decide) ?_
      obtain ⟨r80, hq80, hf⟩ := ed_b_e hf
      refine la_kA (ed_rV S hK hM.1 (c_X8_story _ D cy B x7 3 μ r80 hq80) (cwV 2 S.2.2.2.2 (ed_gV ed_w3_169 ed_w3_170 ed_w3_171 ed_w1_1 ed_w3_172) rfl rfl rfl hd_X8_story ⟨Nat.le_of_ble_eq_true rfl, Nat.le_of_ble_eq_true rfl⟩) (ed_rc (q := (RX8, TX8, 6)) (r := (μ 7 14 0)) hK hM.1 ed_v14 rfl (ed_e14 cy B 7 0 _) rfl) rfl hl.1 rfl (Nat.le_of_ble_eq_true rfl) dL_copies_461 ⟨Nat.le_of_ble_eq_true rfl, Nat.le_of_ble_eq_true rfl⟩) hM hS (fun H locs hM hS => ?_)
      refine lv_iconst (v := 3) S.1 S.2.1 dL_copies_464 (by decide) ?_
      refine lv_icmp_ne (tgt := 499) S.1 S.2.1 dL_copies_465 (by decide) (fun c81 => ?_) (fun c81 => ?_)
      · replace hf := ed_in_ c81 hf
        refine lv_iconst (v := 1) S.1 S.2.1 dL_copies_499 (by decide) ?_
        refine lv_goto (tgt := 504) S.1 S.2.1 dL_copies_500 (by decide) ?_
        refine lv_istore (lv' := [(5, .int 1), (0, .ref (B + ed_oF 7 14 0)), (1, .ref (b + 0)), (2, .ref (b + 1)), (3, .ref (b + 2)), (4, .int x4), (6, .int x6), (7, .int x7), (8, .int x8), (12, .int x12)]) S.1 S.2.1 dL_copies_504 hl (by decide) rfl (fun ls hl => ?_)
        exact w_L_copies_506 S hr hlocks hK r k23 hk23 x4 1 x6 α hf _ _ _ hM hS (lv_sub hl [1, 2, 3, 4, 5, 0, 6] rfl)
      · replace hf := ed_ip c81 hf
        refine lv_aload_n S.1 S.2.1 dL_copies_468 rfl (lv_at hl 0 rfl) ?_
        refine lv_iload S.1 S.2.1 dL_copies_469 (lv_at hl 7 rfl) ?_
        refine lv_iload S.1 S.2.1 dL_copies_471 (lv_at hl 8 rfl) ?_
        refine lv_bipush (v := 7) S.1 S.2.1 dL_copies_473 (by decide) ?_
        obtain ⟨r82, hq82, hf⟩ := ed_b_e hf
        refine la_kA (ed_rV S hK hM.1 (c_X8_copy _ D cy B x7 x8 7 μ r82 hq82) (cwV 3 S.2.2.2.2 (ed_gV ed_w3_149 ed_w3_150 ed_w3_151 ed_w1_1 ed_w3_152) rfl rfl rfl hd_X8_copy ⟨Nat.le_of_ble_eq_true rfl, Nat.le_of_ble_eq_true rfl⟩) (ed_rc (q := (RX8, TX8, 6)) (r := (μ 7 14 0)) hK hM.1 ed_v14 rfl (ed_e14 cy B 7 0 _) rfl) rfl hl.1 rfl (Nat.le_of_ble_eq_true rfl) dL_copies_475 ⟨Nat.le_of_ble_eq_true rfl, Nat.le_of_ble_eq_true rfl⟩) hM hS (fun H locs hM hS => ?_)
        refine lv_aload_n S.1 S.2.1 dL_copies_478 rfl (lv_at hl 0 rfl) ?_
        refine lv_iload S.1 S.2.1 dL_copies_479 (lv_at hl 7 rfl) ?_
        refine lv_bipush (v := 6) S.1 S.2.1 dL_copies_481 (by decide) ?_
        obtain ⟨r83, hq83, hf⟩ := ed_b_e hf
        refine la_kA (ed_rV S hK hM.1 (c_X8_story _ D cy B x7 6 μ r83 hq83) (cwV 2 S.2.2.2.2 (ed_gV ed_w3_169 ed_w3_170 ed_w3_171 ed_w1_1 ed_w3_172) rfl rfl rfl hd_X8_story ⟨Nat.le_of_ble_eq_true rfl, Nat.le_of_ble_eq_true rfl⟩) (ed_rc (q := (RX8, TX8, 6)) (r := (μ 7 14 0)) hK hM.1 ed_v14 rfl (ed_e14 cy B 7 0 _) rfl) rfl hl.1 rfl (Nat.le_of_ble_eq_true rfl) dL_copies_483 ⟨Nat.le_of_ble_eq_true rfl, Nat.le_of_ble_eq_true rfl⟩) hM hS (fun H locs hM hS => ?_)
        refine lv_aload_n S.1 S.2.1 dL_copies_486 rfl (lv_at hl 0 rfl) ?_
        refine lv_iload S.1 S.2.1 dL_copies_487 (lv_at hl 8 rfl) ?_
        refine lv_iconst (v := 2) S.1 S.2.1 dL_copies_489 (by decide) ?_
        obtain ⟨r84, hq84, hf⟩ := ed_b_e hf
        refine la_kA (ed_rV S hK hM.1 (c_X8_client _ D cy B x8 2 μ r84 hq84) (cwV 2 S.2.2.2.2 (ed_gV ed_w3_104 ed_w3_105 ed_w3_106 ed_w1_1 ed_w3_107) rfl rfl rfl hd_X8_client ⟨Nat.le_of_ble_eq_true rfl, Nat.le_of_ble_eq_true rfl⟩) (ed_rc (q := (RX8, TX8, 6)) (r := (μ 7 14 0)) hK hM.1 ed_v14 rfl (ed_e14 cy B 7 0 _) rfl) rfl hl.1 rfl (Nat.le_of_ble_eq_true rfl) dL_copies_490 ⟨Nat.le_of_ble_eq_true rfl, Nat.le_of_ble_eq_true rfl⟩) hM hS (fun H locs hM hS => ?_)
        refine lv_iconst (v := 2) S.1 S.2.1 dL_copies_493 (by decide) ?_
        refine lv_idiv S.1 S.2.1 dL_copies_494 (by decide) ?_
        refine lv_iadd S.1 S.2.1 dL_copies_495 ?_
        refine lv_icmp_ne (tgt := 503) S.1 S.2.1 dL_copies_496 (by decide) (fun c85 => ?_) (fun c85 => ?_)
        · replace hf := ed_in_ c85 hf
          refine lv_iconst (v := 0) S.1 S.2.1 dL_copies_503 (by decide) ?_
          refine lv_istore (lv' := [(5, .int 0), (0, .ref (B + ed_oF 7 14 0)), (1, .ref (b + 0)), (2, .ref (b + 1)), (3, .ref (b + 2)), (4, .int x4), (6, .int x6), (7, .int x7), (8, .int x8), (12, .int x12)]) S.1 S.2.1 dL_copies_504 hl (by decide) rfl (fun ls hl => ?_)
          exact w_L_copies_506 S hr hlocks hK r k23 hk23 x4 0 x6 α hf _ _ _ hM hS (lv_sub hl [1, 2, 3, 4, 5, 0, 6] rfl)
        · replace hf := ed_ip c85 hf
          refine lv_iconst (v := 1) S.1 S.2.1 dL_copies_499 (by decide) ?_
          refine lv_goto (tgt := 504) S.1 S.2.1 dL_copies_500 (by decide) ?_
          refine lv_istore (lv' := [(5, .int 1), (0, .ref (B + ed_oF 7 14 0)), (1, .ref (b + 0)), (2, .ref (b + 1)), (3, .ref (b + 2)), (4, .int x4), (6, .int x6), (7, .int x7), (8, .int x8), (12, .int x12)]) S.1 S.2.1 dL_copies_504 hl (by decide) rfl (fun ls hl => ?_)
          exact w_L_copies_506 S hr hlocks hK r k23 hk23 x4 1 x6 α hf _ _ _ hM hS (lv_sub hl [1, 2, 3, 4, 5, 0, 6] rfl)
set_option maxHeartbeats 4000000 in
set_option maxRecDepth 100000 in
theorem w_L_copies_389 {p : Program} {l : Launch} {e : Env} {s : State} {m : MethodId} {args : Array Value} {below : List Frame} {meth : Method} {c : Code} {D : va_G} {cy : Nat → ClassId} {B : Nat} {b : Nat} {μ : ed_CM} (S : CallFix p m c cL_copies 13 s args ed_ws RL) (hr : meth.sig.returnType = (some .boolean)) (hlocks : meth.locks = false) (hK : ed_K D cy s) (r : Int32) (k23 : Int32 → Int32 → Int32 → em_MM → Option Int32) (hk23 : ∀ (x4 x5 x6 : Int32) (α : em_MM), k23 x4 x5 x6 α = some r → ∀ (H : Heap) (locs : List Loc) (ls : Array Slot), la_P D cy B b μ α H → va_S (ec_A B) s.heap H locs → lv_has ls 13 [(0, .ref (B + ed_oF 7 14 0)), (1, .ref (b + 0)), (2, .ref (b + 1)), (3, .ref (b + 2)), (4, .int x4), (5, .int x5), (6, .int x6)] → W p l e (headSpec wsL_copies rmL_copies).room s m args below meth c H locs 3 33 (MQ below (ed_qI (ec_A B) (ed_P D cy B μ) r) args s 3 33 (ec_A B)) (F0 m 23 ls [])) :
    ∀ (x4 x5 x6 x7 x8 x11 x12 : Int32) (α : em_MM), f_L_copies_389 k23 μ x4 x5 x6 x7 x8 x11 x12 α = some r → ∀ (H : Heap) (locs : List Loc) (ls : Array Slot), la_P D cy B b μ α H → va_S (ec_A B) s.heap H locs → lv_has ls 13 [(0, .ref (B + ed_oF 7 14 0)), (1, .ref (b + 0)), (2, .ref (b + 1)), (3, .ref (b + 2)), (4, .int x4), (5, .int x5), (6, .int x6), (7, .int x7), (8, .int x8), (11, .int x11), (12, .int x12)] → W p l e (headSpec wsL_copies rmL_copies).room s m args below meth c H locs 3 33 (MQ below (ed_qI (ec_A B) (ed_P D cy B μ) r) args s 3 33 (ec_A B)) (F0 m 389 ls []) := by
  intro x4 x5 x6 x7 x8 x11 x12 α hf H locs ls hM hS hl
  unfold f_L_copies_389 at hf
  refine lv_iload S.1 S.2.1 dL_copies_389 (lv_at hl 5 rfl) ?_
  refine lv_if_eq (tgt := 444) S.1 S.2.1 dL_copies_391 (by decide) (fun c77 => ?_) (fun c77 => ?_)
  · replace hf := ed_ip c77 hf
    refine lv_iconst (v := 0) S.1 S.2.1 dL_copies_444 (by decide) ?_
    refine lv_istore (lv' := [(5, .int 0), (0, .ref (B + ed_oF 7 14 0)), (1, .ref (b + 0)), (2, .ref (b + 1)), (3, .ref (b + 2)), (4, .int x4), (6, .int x6), (7, .int x7), (8, .int x8), (11, .int x11), (12, .int x12)]) S.1 S.2.1 dL_copies_445 hl (by decide) rfl (fun ls hl => ?_)
    exact w_L_copies_447 S hr hlocks hK r k23 hk23 x4 0 x6 x7 x8 x12 α hf _ _ _ hM hS (lv_sub hl [1, 2, 3, 4, 5, 0, 6, 7, 8, 10] rfl)
  · replace hf := ed_in_ c77 hf
    refine lv_iload S.1 S.2.1 dL_copies_394 (lv_at hl 10 rfl) ?_
    refine lv_if_eq (tgt := 440) S.1 S.2.1 dL_copies_396 (by decide) (fun c86 => ?_) (fun c86 => ?_)
    · replace hf := ed_ip c86 hf
      refine lv_iconst (v := 1) S.1 S.2.1 dL_copies_440 (by decide) ?_
      refine lv_goto (tgt := 445) S.1 S.2.1 dL_copies_441 (by decide) ?_
      refine lv_istore (lv' := [(5, .int 1), (0, .ref (B + ed_oF 7 14 0)), (1, .ref (b + 0)), (2, .ref (b + 1)), (3, .ref (b + 2)), (4, .int x4), (6, .int x6), (7, .int x7), (8, .int x8), (11, .int x11), (12, .int x12)]) S.1 S.2.1 dL_copies_445 hl (by decide) rfl (fun ls hl => ?_)
      exact w_L_copies_447 S hr hlocks hK r k23 hk23 x4 1 x6 x7 x8 x12 α hf _ _ _ hM hS (lv_sub hl [1, 2, 3, 4, 5, 0, 6, 7, 8, 10] rfl)
    · replace hf := ed_in_ c86 hf
      refine lv_iload S.1 S.2.1 dL_copies_399 (lv_at hl 9 rfl) ?_
      refine lv_aload_n S.1 S.2.1 dL_copies_401 rfl (lv_at hl 0 rfl) ?_
      refine lv_iload S.1 S.2.1 dL_copies_402 (lv_at hl 7 rfl) ?_
      refine lv_iconst (v := 4) S.1 S.2.1 dL_copies_404 (by decide) ?_
      obtain ⟨r87, hq87, hf⟩ := ed_b_e hf
      refine la_kA (ed_rV S hK hM.1 (c_X8_story _ D cy B x7 4 μ r87 hq87) (cwV 2 S.2.2.2.2 (ed_gV ed_w3_169 ed_w3_170 ed_w3_171 ed_w1_1 ed_w3_172) rfl rfl rfl hd_X8_story ⟨Nat.le_of_ble_eq_true rfl, Nat.le_of_ble_eq_true rfl⟩) (ed_rc (q := (RX8, TX8, 6)) (r := (μ 7 14 0)) hK hM.1 ed_v14 rfl (ed_e14 cy B 7 0 _) rfl) rfl hl.1 rfl (Nat.le_of_ble_eq_true rfl) dL_copies_405 ⟨Nat.le_of_ble_eq_true rfl, Nat.le_of_ble_eq_true rfl⟩) hM hS (fun H locs hM hS => ?_)
      refine lv_icmp_eq (tgt := 440) S.1 S.2.1 dL_copies_408 (by decide) (fun c88 => ?_) (fun c88 => ?_)
      · replace hf := ed_ip c88 hf
        refine lv_iconst (v := 1) S.1 S.2.1 dL_copies_440 (by decide) ?_
        refine lv_goto (tgt := 445) S.1 S.2.1 dL_copies_441 (by decide) ?_
        refine lv_istore (lv' := [(5, .int 1), (0, .ref (B + ed_oF 7 14 0)), (1, .ref (b + 0)), (2, .ref (b + 1)), (3, .ref (b + 2)), (4, .int x4), (6, .int x6), (7, .int x7), (8, .int x8), (11, .int x11), (12, .int x12)]) S.1 S.2.1 dL_copies_445 hl (by decide) rfl (fun ls hl => ?_)
        exact w_L_copies_447 S hr hlocks hK r k23 hk23 x4 1 x6 x7 x8 x12 α hf _ _ _ hM hS (lv_sub hl [1, 2, 3, 4, 5, 0, 6, 7, 8, 10] rfl)
      · replace hf := ed_in_ c88 hf
        refine lv_aload_n S.1 S.2.1 dL_copies_411 rfl (lv_at hl 0 rfl) ?_
        refine lv_iload S.1 S.2.1 dL_copies_412 (lv_at hl 7 rfl) ?_
        refine lv_iload S.1 S.2.1 dL_copies_414 (lv_at hl 8 rfl) ?_
        refine lv_bipush (v := 6) S.1 S.2.1 dL_copies_416 (by decide) ?_
        obtain ⟨r89, hq89, hf⟩ := ed_b_e hf
        refine la_kA (ed_rV S hK hM.1 (c_X8_copy _ D cy B x7 x8 6 μ r89 hq89) (cwV 3 S.2.2.2.2 (ed_gV ed_w3_149 ed_w3_150 ed_w3_151 ed_w1_1 ed_w3_152) rfl rfl rfl hd_X8_copy ⟨Nat.le_of_ble_eq_true rfl, Nat.le_of_ble_eq_true rfl⟩) (ed_rc (q := (RX8, TX8, 6)) (r := (μ 7 14 0)) hK hM.1 ed_v14 rfl (ed_e14 cy B 7 0 _) rfl) rfl hl.1 rfl (Nat.le_of_ble_eq_true rfl) dL_copies_418 ⟨Nat.le_of_ble_eq_true rfl, Nat.le_of_ble_eq_true rfl⟩) hM hS (fun H locs hM hS => ?_)
        refine lv_aload_n S.1 S.2.1 dL_copies_421 rfl (lv_at hl 0 rfl) ?_
        refine lv_iload S.1 S.2.1 dL_copies_422 (lv_at hl 7 rfl) ?_
        refine lv_iload S.1 S.2.1 dL_copies_424 (lv_at hl 9 rfl) ?_
        obtain ⟨r90, hq90, hf⟩ := ed_b_e hf
        refine la_kA (ed_rV S hK hM.1 (c_X8_correction _ D cy B x7 x11 μ r90 hq90) (cwV 2 S.2.2.2.2 (ed_gV ed_w3_177 ed_w3_178 ed_w3_179 ed_w1_1 ed_w3_180) rfl rfl rfl hd_X8_correction ⟨Nat.le_of_ble_eq_true rfl, Nat.le_of_ble_eq_true rfl⟩) (ed_rc (q := (RX8, TX8, 6)) (r := (μ 7 14 0)) hK hM.1 ed_v14 rfl (ed_e14 cy B 7 0 _) rfl) rfl hl.1 rfl (Nat.le_of_ble_eq_true rfl) dL_copies_426 ⟨Nat.le_of_ble_eq_true rfl, Nat.le_of_ble_eq_true rfl⟩) hM hS (fun H locs hM hS => ?_)
        refine lv_aload_n S.1 S.2.1 dL_copies_429 rfl (lv_at hl 0 rfl) ?_
        refine lv_iload S.1 S.2.1 dL_copies_430 (lv_at hl 8 rfl) ?_
        refine lv_iconst (v := 2) S.1 S.2.1 dL_copies_432 (by decide) ?_
        obtain ⟨r91, hq91, hf⟩ := ed_b_e hf
        refine la_kA (ed_rV S hK hM.1 (c_X8_client _ D cy B x8 2 μ r91 hq91) (cwV 2 S.2.2.2.2 (ed_gV ed_w3_104 ed_w3_105 ed_w3_106 ed_w1_1 ed_w3_107) rfl rfl rfl hd_X8_client ⟨Nat.le_of_ble_eq_true rfl, Nat.le_of_ble_eq_true rfl⟩) (ed_rc (q := (RX8, TX8, 6)) (r := (μ 7 14 0)) hK hM.1 ed_v14 rfl (ed_e14 cy B 7 0 _) rfl) rfl hl.1 rfl (Nat.le_of_ble_eq_true rfl) dL_copies_433 ⟨Nat.le_of_ble_eq_true rfl, Nat.le_of_ble_eq_true rfl⟩) hM hS (fun H locs hM hS => ?_)
        refine lv_iadd S.1 S.2.1 dL_copies_436 ?_
        refine lv_icmp_ne (tgt := 444) S.1 S.2.1 dL_copies_437 (by decide) (fun c92 => ?_) (fun c92 => ?_)
        · replace hf := ed_in_ c92 hf
          refine lv_iconst (v := 0) S.1 S.2.1 dL_copies_444 (by decide) ?_
          refine lv_istore (lv' := [(5, .int 0), (0, .ref (B + ed_oF 7 14 0)), (1, .ref (b + 0)), (2, .ref (b + 1)), (3, .ref (b + 2)), (4, .int x4), (6, .int x6), (7, .int x7), (8, .int x8), (11, .int x11), (12, .int x12)]) S.1 S.2.1 dL_copies_445 hl (by decide) rfl (fun ls hl => ?_)
          exact w_L_copies_447 S hr hlocks hK r k23 hk23 x4 0 x6 x7 x8 x12 α hf _ _ _ hM hS (lv_sub hl [1, 2, 3, 4, 5, 0, 6, 7, 8, 10] rfl)
        · replace hf := ed_ip c92 hf
          refine lv_iconst (v := 1) S.1 S.2.1 dL_copies_440 (by decide) ?_
          refine lv_goto (tgt := 445) S.1 S.2.1 dL_copies_441 (by decide) ?_
          refine lv_istore (lv' := [(5, .int 1), (0, .ref (B + ed_oF 7 14 0)), (1, .ref (b + 0)), (2, .ref (b + 1)), (3, .ref (b + 2)), (4, .int x4), (6, .int x6), (7, .int x7), (8, .int x8), (11, .int x11), (12, .int x12)]) S.1 S.2.1 dL_copies_445 hl (by decide) rfl (fun ls hl => ?_)
          exact w_L_copies_447 S hr hlocks hK r k23 hk23 x4 1 x6 x7 x8 x12 α hf _ _ _ hM hS (lv_sub hl [1, 2, 3, 4, 5, 0, 6, 7, 8, 10] rfl)
set_option maxHeartbeats 4000000 in
set_option maxRecDepth 100000 in
theorem w_L_copies_253 {p : Program} {l : Launch} {e : Env} {s : State} {m : MethodId} {args : Array Value} {below : List Frame} {meth : Method} {c : Code} {D : va_G} {cy : Nat → ClassId} {B : Nat} {b : Nat} {μ : ed_CM} (S : CallFix p m c cL_copies 13 s args ed_ws RL) (hr : meth.sig.returnType = (some .boolean)) (hlocks : meth.locks = false) (hK : ed_K D cy s) (r : Int32) (k23 : Int32 → Int32 → Int32 → em_MM → Option Int32) (hk23 : ∀ (x4 x5 x6 : Int32) (α : em_MM), k23 x4 x5 x6 α = some r → ∀ (H : Heap) (locs : List Loc) (ls : Array Slot), la_P D cy B b μ α H → va_S (ec_A B) s.heap H locs → lv_has ls 13 [(0, .ref (B + ed_oF 7 14 0)), (1, .ref (b + 0)), (2, .ref (b + 1)), (3, .ref (b + 2)), (4, .int x4), (5, .int x5), (6, .int x6)] → W p l e (headSpec wsL_copies rmL_copies).room s m args below meth c H locs 3 33 (MQ below (ed_qI (ec_A B) (ed_P D cy B μ) r) args s 3 33 (ec_A B)) (F0 m 23 ls [])) :
    ∀ (x4 x5 x6 x7 x8 x10 x11 x12 : Int32) (α : em_MM), f_L_copies_253 k23 μ x4 x5 x6 x7 x8 x10 x11 x12 α = some r → ∀ (H : Heap) (locs : List Loc) (ls : Array Slot), la_P D cy B b μ α H → va_S (ec_A B) s.heap H locs → lv_has ls 13 [(0, .ref (B + ed_oF 7 14 0)), (1, .ref (b + 0)), (2, .ref (b + 1)), (3, .ref (b + 2)), (4, .int x4), (5, .int x5), (6, .int x6), (7, .int x7), (8, .int x8), (10, .int x10), (11, .int x11), (12, .int x12)] → W p l e (headSpec wsL_copies rmL_copies).room s m args below meth c H locs 3 33 (MQ below (ed_qI (ec_A B) (ed_P D cy B μ) r) args s 3 33 (ec_A B)) (F0 m 253 ls []) := by
  intro x4 x5 x6 x7 x8 x10 x11 x12 α hf H locs ls hM hS hl
  unfold f_L_copies_253 at hf
  refine lv_iload S.1 S.2.1 dL_copies_253 (lv_at hl 5 rfl) ?_
  refine lv_if_eq (tgt := 386) S.1 S.2.1 dL_copies_255 (by decide) (fun c76 => ?_) (fun c76 => ?_)
  · replace hf := ed_ip c76 hf
    refine lv_iconst (v := 0) S.1 S.2.1 dL_copies_386 (by decide) ?_
    refine lv_istore (lv' := [(5, .int 0), (0, .ref (B + ed_oF 7 14 0)), (1, .ref (b + 0)), (2, .ref (b + 1)), (3, .ref (b + 2)), (4, .int x4), (6, .int x6), (7, .int x7), (8, .int x8), (10, .int x10), (11, .int x11), (12, .int x12)]) S.1 S.2.1 dL_copies_387 hl (by decide) rfl (fun ls hl => ?_)
    exact w_L_copies_389 S hr hlocks hK r k23 hk23 x4 0 x6 x7 x8 x11 x12 α hf _ _ _ hM hS (lv_sub hl [1, 2, 3, 4, 5, 0, 6, 7, 8, 10, 11] rfl)
  · replace hf := ed_in_ c76 hf
    refine lv_iload S.1 S.2.1 dL_copies_258 (lv_at hl 11 rfl) ?_
    refine lv_if_eq (tgt := 313) S.1 S.2.1 dL_copies_260 (by decide) (fun c93 => ?_) (fun c93 => ?_)
    · replace hf := ed_ip c93 hf
      refine lv_aload_n S.1 S.2.1 dL_copies_313 rfl (lv_at hl 0 rfl) ?_
      refine lv_iload S.1 S.2.1 dL_copies_314 (lv_at hl 7 rfl) ?_
      refine lv_iload S.1 S.2.1 dL_copies_316 (lv_at hl 8 rfl) ?_
      refine lv_iconst (v := 4) S.1 S.2.1 dL_copies_318 (by decide) ?_
      obtain ⟨r94, hq94, hf⟩ := ed_b_e hf
      refine la_kA (ed_rV S hK hM.1 (c_X8_copy _ D cy B x7 x8 4 μ r94 hq94) (cwV 3 S.2.2.2.2 (ed_gV ed_w3_149 ed_w3_150 ed_w3_151 ed_w1_1 ed_w3_152) rfl rfl rfl hd_X8_copy ⟨Nat.le_of_ble_eq_true rfl, Nat.le_of_ble_eq_true rfl⟩) (ed_rc (q := (RX8, TX8, 6)) (r := (μ 7 14 0)) hK hM.1 ed_v14 rfl (ed_e14 cy B 7 0 _) rfl) rfl hl.1 rfl (Nat.le_of_ble_eq_true rfl) dL_copies_319 ⟨Nat.le_of_ble_eq_true rfl, Nat.le_of_ble_eq_true rfl⟩) hM hS (fun H locs hM hS => ?_)
      refine lv_if_ne (tgt := 386) S.1 S.2.1 dL_copies_322 (by decide) (fun c95 => ?_) (fun c95 => ?_)
      · replace hf := ed_in_ c95 hf
        refine lv_iconst (v := 0) S.1 S.2.1 dL_copies_386 (by decide) ?_
        refine lv_istore (lv' := [(5, .int 0), (0, .ref (B + ed_oF 7 14 0)), (1, .ref (b + 0)), (2, .ref (b + 1)), (3, .ref (b + 2)), (4, .int x4), (6, .int x6), (7, .int x7), (8, .int x8), (10, .int x10), (11, .int x11), (12, .int x12)]) S.1 S.2.1 dL_copies_387 hl (by decide) rfl (fun ls hl => ?_)
        exact w_L_copies_389 S hr hlocks hK r k23 hk23 x4 0 x6 x7 x8 x11 x12 α hf _ _ _ hM hS (lv_sub hl [1, 2, 3, 4, 5, 0, 6, 7, 8, 10, 11] rfl)
      · replace hf := ed_ip c95 hf
        refine lv_aload_n S.1 S.2.1 dL_copies_325 rfl (lv_at hl 0 rfl) ?_
        refine lv_iload S.1 S.2.1 dL_copies_326 (lv_at hl 7 rfl) ?_
        refine lv_iload S.1 S.2.1 dL_copies_328 (lv_at hl 8 rfl) ?_
        refine lv_iconst (v := 5) S.1 S.2.1 dL_copies_330 (by decide) ?_
        obtain ⟨r96, hq96, hf⟩ := ed_b_e hf
        refine la_kA (ed_rV S hK hM.1 (c_X8_copy _ D cy B x7 x8 5 μ r96 hq96) (cwV 3 S.2.2.2.2 (ed_gV ed_w3_149 ed_w3_150 ed_w3_151 ed_w1_1 ed_w3_152) rfl rfl rfl hd_X8_copy ⟨Nat.le_of_ble_eq_true rfl, Nat.le_of_ble_eq_true rfl⟩) (ed_rc (q := (RX8, TX8, 6)) (r := (μ 7 14 0)) hK hM.1 ed_v14 rfl (ed_e14 cy B 7 0 _) rfl) rfl hl.1 rfl (Nat.le_of_ble_eq_true rfl) dL_copies_331 ⟨Nat.le_of_ble_eq_true rfl, Nat.le_of_ble_eq_true rfl⟩) hM hS (fun H locs hM hS => ?_)
        refine lv_if_ne (tgt := 386) S.1 S.2.1 dL_copies_334 (by decide) (fun c97 => ?_) (fun c97 => ?_)
        · replace hf := ed_in_ c97 hf
          refine lv_iconst (v := 0) S.1 S.2.1 dL_copies_386 (by decide) ?_
          refine lv_istore (lv' := [(5, .int 0), (0, .ref (B + ed_oF 7 14 0)), (1, .ref (b + 0)), (2, .ref (b + 1)), (3, .ref (b + 2)), (4, .int x4), (6, .int x6), (7, .int x7), (8, .int x8), (10, .int x10), (11, .int x11), (12, .int x12)]) S.1 S.2.1 dL_copies_387 hl (by decide) rfl (fun ls hl => ?_)
          exact w_L_copies_389 S hr hlocks hK r k23 hk23 x4 0 x6 x7 x8 x11 x12 α hf _ _ _ hM hS (lv_sub hl [1, 2, 3, 4, 5, 0, 6, 7, 8, 10, 11] rfl)
        · replace hf := ed_ip c97 hf
          refine lv_aload_n S.1 S.2.1 dL_copies_337 rfl (lv_at hl 0 rfl) ?_
          refine lv_iload S.1 S.2.1 dL_copies_338 (lv_at hl 7 rfl) ?_
          refine lv_iload S.1 S.2.1 dL_copies_340 (lv_at hl 8 rfl) ?_
          refine lv_bipush (v := 6) S.1 S.2.1 dL_copies_342 (by decide) ?_
          obtain ⟨r98, hq98, hf⟩ := ed_b_e hf
          refine la_kA (ed_rV S hK hM.1 (c_X8_copy _ D cy B x7 x8 6 μ r98 hq98) (cwV 3 S.2.2.2.2 (ed_gV ed_w3_149 ed_w3_150 ed_w3_151 ed_w1_1 ed_w3_152) rfl rfl rfl hd_X8_copy ⟨Nat.le_of_ble_eq_true rfl, Nat.le_of_ble_eq_true rfl⟩) (ed_rc (q := (RX8, TX8, 6)) (r := (μ 7 14 0)) hK hM.1 ed_v14 rfl (ed_e14 cy B 7 0 _) rfl) rfl hl.1 rfl (Nat.le_of_ble_eq_true rfl) dL_copies_344 ⟨Nat.le_of_ble_eq_true rfl, Nat.le_of_ble_eq_true rfl⟩) hM hS (fun H locs hM hS => ?_)
          refine lv_bipush (v := (-5)) S.1 S.2.1 dL_copies_347 (by decide) ?_
          refine lv_icmp_ne (tgt := 386) S.1 S.2.1 dL_copies_349 (by decide) (fun c99 => ?_) (fun c99 => ?_)
          · replace hf := ed_in_ c99 hf
            refine lv_iconst (v := 0) S.1 S.2.1 dL_copies_386 (by decide) ?_
            refine lv_istore (lv' := [(5, .int 0), (0, .ref (B + ed_oF 7 14 0)), (1, .ref (b + 0)), (2, .ref (b + 1)), (3, .ref (b + 2)), (4, .int x4), (6, .int x6), (7, .int x7), (8, .int x8), (10, .int x10), (11, .int x11), (12, .int x12)]) S.1 S.2.1 dL_copies_387 hl (by decide) rfl (fun ls hl => ?_)
            exact w_L_copies_389 S hr hlocks hK r k23 hk23 x4 0 x6 x7 x8 x11 x12 α hf _ _ _ hM hS (lv_sub hl [1, 2, 3, 4, 5, 0, 6, 7, 8, 10, 11] rfl)
          · replace hf := ed_ip c99 hf
            refine lv_aload_n S.1 S.2.1 dL_copies_352 rfl (lv_at hl 0 rfl) ?_
            refine lv_iload S.1 S.2.1 dL_copies_353 (lv_at hl 7 rfl) ?_
            refine lv_iload S.1 S.2.1 dL_copies_355 (lv_at hl 8 rfl) ?_
            refine lv_bipush (v := 7) S.1 S.2.1 dL_copies_357 (by decide) ?_
            obtain ⟨r100, hq100, hf⟩ := ed_b_e hf
            refine la_kA (ed_rV S hK hM.1 (c_X8_copy _ D cy B x7 x8 7 μ r100 hq100) (cwV 3 S.2.2.2.2 (ed_gV ed_w3_149 ed_w3_150 ed_w3_151 ed_w1_1 ed_w3_152) rfl rfl rfl hd_X8_copy ⟨Nat.le_of_ble_eq_true rfl, Nat.le_of_ble_eq_true rfl⟩) (ed_rc (q := (RX8, TX8, 6)) (r := (μ 7 14 0)) hK hM.1 ed_v14 rfl (ed_e14 cy B 7 0 _) rfl) rfl hl.1 rfl (Nat.le_of_ble_eq_true rfl) dL_copies_359 ⟨Nat.le_of_ble_eq_true rfl, Nat.le_of_ble_eq_true rfl⟩) hM hS (fun H locs hM hS => ?_)
            refine lv_bipush (v := (-5)) S.1 S.2.1 dL_copies_362 (by decide) ?_
            refine lv_icmp_ne (tgt := 386) S.1 S.2.1 dL_copies_364 (by decide) (fun c101 => ?_) (fun c101 => ?_)
            · replace hf := ed_in_ c101 hf
              refine lv_iconst (v := 0) S.1 S.2.1 dL_copies_386 (by decide) ?_
              refine lv_istore (lv' := [(5, .int 0), (0, .ref (B + ed_oF 7 14 0)), (1, .ref (b + 0)), (2, .ref (b + 1)), (3, .ref (b + 2)), (4, .int x4), (6, .int x6), (7, .int x7), (8, .int x8), (10, .int x10), (11, .int x11), (12, .int x12)]) S.1 S.2.1 dL_copies_387 hl (by decide) rfl (fun ls hl => ?_)
              exact w_L_copies_389 S hr hlocks hK r k23 hk23 x4 0 x6 x7 x8 x11 x12 α hf _ _ _ hM hS (lv_sub hl [1, 2, 3, 4, 5, 0, 6, 7, 8, 10, 11] rfl)
            · replace hf := ed_ip c101 hf
              refine lv_aload_n S.1 S.2.1 dL_copies_367 rfl (lv_at hl 0 rfl) ?_
              refine lv_iload S.1 S.2.1 dL_copies_368 (lv_at hl 7 rfl) ?_
              refine lv_iload S.1 S.2.1 dL_copies_370 (lv_at hl 8 rfl) ?_
              refine lv_bipush (v := 8) S.1 S.2.1 dL_copies_372 (by decide) ?_
              obtain ⟨r102, hq102, hf⟩ := ed_b_e hf
              refine la_kA (ed_rV S hK hM.1 (c_X8_copy _ D cy B x7 x8 8 μ r102 hq102) (cwV 3 S.2.2.2.2 (ed_gV ed_w3_149 ed_w3_150 ed_w3_151 ed_w1_1 ed_w3_152) rfl rfl rfl hd_X8_copy ⟨Nat.le_of_ble_eq_true rfl, Nat.le_of_ble_eq_true rfl⟩) (ed_rc (q := (RX8, TX8, 6)) (r := (μ 7 14 0)) hK hM.1 ed_v14 rfl (ed_e14 cy B 7 0 _) rfl) rfl hl.1 rfl (Nat.le_of_ble_eq_true rfl) dL_copies_374 ⟨Nat.le_of_ble_eq_true rfl, Nat.le_of_ble_eq_true rfl⟩) hM hS (fun H locs hM hS => ?_)
              refine lv_bipush (v := (-5)) S.1 S.2.1 dL_copies_377 (by decide) ?_
              refine lv_icmp_ne (tgt := 386) S.1 S.2.1 dL_copies_379 (by decide) (fun c103 => ?_) (fun c103 => ?_)
              · replace hf := ed_in_ c103 hf
                refine lv_iconst (v := 0) S.1 S.2.1 dL_copies_386 (by decide) ?_
                refine lv_istore (lv' := [(5, .int 0), (0, .ref (B + ed_oF 7 14 0)), (1, .ref (b + 0)), (2, .ref (b + 1)), (3, .ref (b + 2)), (4, .int x4), (6, .int x6), (7, .int x7), (8, .int x8), (10, .int x10), (11, .int x11), (12, .int x12)]) S.1 S.2.1 dL_copies_387 hl (by decide) rfl (fun ls hl => ?_)
                exact w_L_copies_389 S hr hlocks hK r k23 hk23 x4 0 x6 x7 x8 x11 x12 α hf _ _ _ hM hS (lv_sub hl [1, 2, 3, 4, 5, 0, 6, 7, 8, 10, 11] rfl)
              · replace hf := ed_ip c103 hf
                refine lv_iconst (v := 1) S.1 S.2.1 dL_copies_382 (by decide) ?_
                refine lv_goto (tgt := 387) S.1 S.2.1 dL_copies_383 (by decide) ?_
                refine lv_istore (lv' := [(5, .int 1), (0, .ref (B + ed_oF 7 14 0)), (1, .ref (b + 0)), (2, .ref (b + 1)), (3, .ref (b + 2)), (4, .int x4), (6, .int x6), (7, .int x7), (8, .int x8), (10, .int x10), (11, .int x11), (12, .int x12)]) S.1 S.2.1 dL_copies_387 hl (by decide) rfl (fun ls hl => ?_)
                exact w_L_copies_389 S hr hlocks hK r k23 hk23 x4 1 x6 x7 x8 x11 x12 α hf _ _ _ hM hS (lv_sub hl [1, 2, 3, 4, 5, 0, 6, 7, 8, 10, 11] rfl)
    · replace hf := ed_in_ c93 hf
      refine lv_aload_n S.1 S.2.1 dL_copies_263 rfl (lv_at hl 0 rfl) ?_
      refine lv_iload S.1 S.2.1 dL_copies_264 (lv_at hl 7 rfl) ?_
      refine lv_iload S.1 S.2.1 dL_copies_266 (lv_at hl 8 rfl) ?_
      refine lv_iconst (v := 4) S.1 S.2.1 dL_copies_268 (by decide) ?_
      obtain ⟨r104, hq104, hf⟩ := ed_b_e hf
      refine la_kA (ed_rV S hK hM.1 (c_X8_copy _ D cy B x7 x8 4 μ r104 hq104) (cwV 3 S.2.2.2.2 (ed_gV ed_w3_149 ed_w3_150 ed_w3_151 ed_w1_1 ed_w3_152) rfl rfl rfl hd_X8_copy ⟨Nat.le_of_ble_eq_true rfl, Nat.le_of_ble_eq_true rfl⟩) (ed_rc (q := (RX8, TX8, 6)) (r := (μ 7 14 0)) hK hM.1 ed_v14 rfl (ed_e14 cy B 7 0 _) rfl) rfl hl.1 rfl (Nat.le_of_ble_eq_true rfl) dL_copies_269 ⟨Nat.le_of_ble_eq_true rfl, Nat.le_of_ble_eq_true rfl⟩) hM hS (fun H locs hM hS => ?_)
      refine lv_aload_n S.1 S.2.1 dL_copies_272 rfl (lv_at hl 0 rfl) ?_
      refine lv_iload S.1 S.2.1 dL_copies_273 (lv_at hl 7 rfl) ?_
      refine lv_iconst (v := 4) S.1 S.2.1 dL_copies_275 (by decide) ?_
      obtain ⟨r105, hq105, hf⟩ := ed_b_e hf
      refine la_kA (ed_rV S hK hM.1 (c_X8_story _ D cy B x7 4 μ r105 hq105) (cwV 2 S.2.2.2.2 (ed_gV ed_w3_169 ed_w3_170 ed_w3_171 ed_w1_1 ed_w3_172) rfl rfl rfl hd_X8_story ⟨Nat.le_of_ble_eq_true rfl, Nat.le_of_ble_eq_true rfl⟩) (ed_rc (q := (RX8, TX8, 6)) (r := (μ 7 14 0)) hK hM.1 ed_v14 rfl (ed_e14 cy B 7 0 _) rfl) rfl hl.1 rfl (Nat.le_of_ble_eq_true rfl) dL_copies_276 ⟨Nat.le_of_ble_eq_true rfl, Nat.le_of_ble_eq_true rfl⟩) hM hS (fun H locs hM hS => ?_)
      refine lv_iload S.1 S.2.1 dL_copies_279 (lv_at hl 10 rfl) ?_
      refine lv_isub S.1 S.2.1 dL_copies_281 ?_
      refine lv_icmp_ne (tgt := 386) S.1 S.2.1 dL_copies_282 (by decide) (fun c106 => ?_) (fun c106 => ?_)
      · replace hf := ed_in_ c106 hf
        refine lv_iconst (v := 0) S.1 S.2.1 dL_copies_386 (by decide) ?_
        refine lv_istore (lv' := [(5, .int 0), (0, .ref (B + ed_oF 7 14 0)), (1, .ref (b + 0)), (2, .ref (b + 1)), (3, .ref (b + 2)), (4, .int x4), (6, .int x6), (7, .int x7), (8, .int x8), (10, .int x10), (11, .int x11), (12, .int x12)]) S.1 S.2.1 dL_copies_387 hl (by decide) rfl (fun ls hl => ?_)
        exact w_L_copies_389 S hr hlocks hK r k23 hk23 x4 0 x6 x7 x8 x11 x12 α hf _ _ _ hM hS (lv_sub hl [1, 2, 3, 4, 5, 0, 6, 7, 8, 10, 11] rfl)
      · replace hf := ed_ip c106 hf
        refine lv_aload_n S.1 S.2.1 dL_copies_285 rfl (lv_at hl 0 rfl) ?_
        refine lv_iload S.1 S.2.1 dL_copies_286 (lv_at hl 7 rfl) ?_
        refine lv_iload S.1 S.2.1 dL_copies_288 (lv_at hl 8 rfl) ?_
        refine lv_bipush (v := 8) S.1 S.2.1 dL_copies_290 (by decide) ?_
        obtain ⟨r107, hq107, hf⟩ := ed_b_e hf
        refine la_kA (ed_rV S hK hM.1 (c_X8_copy _ D cy B x7 x8 8 μ r107 hq107) (cwV 3 S.2.2.2.2 (ed_gV ed_w3_149 ed_w3_150 ed_w3_151 ed_w1_1 ed_w3_152) rfl rfl rfl hd_X8_copy ⟨Nat.le_of_ble_eq_true rfl, Nat.le_of_ble_eq_true rfl⟩) (ed_rc (q := (RX8, TX8, 6)) (r := (μ 7 14 0)) hK hM.1 ed_v14 rfl (ed_e14 cy B 7 0 _) rfl) rfl hl.1 rfl (Nat.le_of_ble_eq_true rfl) dL_copies_292 ⟨Nat.le_of_ble_eq_true rfl, Nat.le_of_ble_eq_true rfl⟩) hM hS (fun H locs hM hS => ?_)
        refine lv_iload S.1 S.2.1 dL_copies_295 (lv_at hl 9 rfl) ?_
        refine lv_bipush (v := 24) S.1 S.2.1 dL_copies_297 (by decide) ?_
        refine lv_aload_n S.1 S.2.1 dL_copies_299 rfl (lv_at hl 0 rfl) ?_
        refine lv_bipush (v := 12) S.1 S.2.1 dL_copies_300 (by decide) ?_
        obtain ⟨r108, hq108, hf⟩ := ed_b_e hf
        refine la_kA (ed_rV S hK hM.1 (c_X8_count _ D cy B 12 μ r108 hq108) (cwV 1 S.2.2.2.2 (ed_gV ed_w3_115 ed_w3_116 ed_w3_117 ed_w1_1 ed_w3_118) rfl rfl rfl hd_X8_count ⟨Nat.le_of_ble_eq_true rfl, Nat.le_of_ble_eq_true rfl⟩) (ed_rc (q := (RX8, TX8, 6)) (r := (μ 7 14 0)) hK hM.1 ed_v14 rfl (ed_e14 cy B 7 0 _) rfl) rfl hl.1 rfl (Nat.le_of_ble_eq_true rfl) dL_copies_302 ⟨Nat.le_of_ble_eq_true rfl, Nat.le_of_ble_eq_true rfl⟩) hM hS (fun H locs hM hS => ?_)
        refine lv_imul S.1 S.2.1 dL_copies_305 ?_
        refine lv_iadd S.1 S.2.1 dL_copies_306 ?_
        refine lv_icmp_ne (tgt := 386) S.1 S.2.1 dL_copies_307 (by decide) (fun c109 => ?_) (fun c109 => ?_)
        · replace hf := ed_in_ c109 hf
          refine lv_iconst (v := 0) S.1 S.2.1 dL_copies_386 (by decide) ?_
          refine lv_istore (lv' := [(5, .int 0), (0, .ref (B + ed_oF 7 14 0)), (1, .ref (b + 0)), (2, .ref (b + 1)), (3, .ref (b + 2)), (4, .int x4), (6, .int x6), (7, .int x7), (8, .int x8), (10, .int x10), (11, .int x11), (12, .int x12)]) S.1 S.2.1 dL_copies_387 hl (by decide) rfl (fun ls hl => ?_)
          exact w_L_copies_389 S hr hlocks hK r k23 hk23 x4 0 x6 x7 x8 x11 x12 α hf _ _ _ hM hS (lv_sub hl [1, 2, 3, 4, 5, 0, 6, 7, 8, 10, 11] rfl)
        · replace hf := ed_ip c109 hf
          refine lv_goto (tgt := 382) S.1 S.2.1 dL_copies_310 (by decide) ?_
          refine lv_iconst (v := 1) S.1 S.2.1 dL_copies_382 (by decide) ?_
          refine lv_goto (tgt := 387) S.1 S.2.1 dL_copies_383 (by decide) ?_
          refine lv_istore (lv' := [(5, .int 1), (0, .ref (B + ed_oF 7 14 0)), (1, .ref (b + 0)), (2, .ref (b + 1)), (3, .ref (b + 2)), (4, .int x4), (6, .int x6), (7, .int x7), (8, .int x8), (10, .int x10), (11, .int x11), (12, .int x12)]) S.1 S.2.1 dL_copies_387 hl (by decide) rfl (fun ls hl => ?_)
          exact w_L_copies_389 S hr hlocks hK r k23 hk23 x4 1 x6 x7 x8 x11 x12 α hf _ _ _ hM hS (lv_sub hl [1, 2, 3, 4, 5, 0, 6, 7, 8, 10, 11] rfl)
set_option maxHeartbeats 4000000 in
set_option maxRecDepth 100000 in
theorem w_L_copies_160 {p : Program} {l : Launch} {e : Env} {s : State} {m : MethodId} {args : Array Value} {below : List Frame} {meth : Method} {c : Code} {D : va_G} {cy : Nat → ClassId} {B : Nat} {b : Nat} {μ : ed_CM} (S : CallFix p m c cL_copies 13 s args ed_ws RL) (hr : meth.sig.returnType = (some .boolean)) (hlocks : meth.locks = false) (hK : ed_K D cy s) (r : Int32) (k23 : Int32 → Int32 → Int32 → em_MM → Option Int32) (hk23 : ∀ (x4 x5 x6 : Int32) (α : em_MM), k23 x4 x5 x6 α = some r → ∀ (H : Heap) (locs : List Loc) (ls : Array Slot), la_P D cy B b μ α H → va_S (ec_A B) s.heap H locs → lv_has ls 13 [(0, .ref (B + ed_oF 7 14 0)), (1, .ref (b + 0)), (2, .ref (b + 1)), (3, .ref (b + 2)), (4, .int x4), (5, .int x5), (6, .int x6)] → W p l e (headSpec wsL_copies rmL_copies).room s m args below meth c H locs 3 33 (MQ below (ed_qI (ec_A B) (ed_P D cy B μ) r) args s 3 33 (ec_A B)) (F0 m 23 ls [])) :
    ∀ (x4 x6 x7 x8 x9 x10 x11 x12 : Int32) (α : em_MM), f_L_copies_160 k23 μ x4 x6 x7 x8 x9 x10 x11 x12 α = some r → ∀ (H : Heap) (locs : List Loc) (ls : Array Slot), la_P D cy B b μ α H → va_S (ec_A B) s.heap H locs → lv_has ls 13 [(0, .ref (B + ed_oF 7 14 0)), (1, .ref (b + 0)), (2, .ref (b + 1)), (3, .ref (b + 2)), (4, .int x4), (6, .int x6), (7, .int x7), (8, .int x8), (9, .int x9), (10, .int x10), (11, .int x11), (12, .int x12)] → W p l e (headSpec wsL_copies rmL_copies).room s m args below meth c H locs 3 33 (MQ below (ed_qI (ec_A B) (ed_P D cy B μ) r) args s 3 33 (ec_A B)) (F0 m 160 ls []) := by
  intro x4 x6 x7 x8 x9 x10 x11 x12 α hf H locs ls hM hS hl
  unfold f_L_copies_160 at hf
  refine lv_aload_n S.1 S.2.1 dL_copies_160 rfl (lv_at hl 0 rfl) ?_
  refine lv_iload S.1 S.2.1 dL_copies_161 (lv_at hl 6 rfl) ?_
  refine lv_iload S.1 S.2.1 dL_copies_163 (lv_at hl 7 rfl) ?_
  refine lv_iconst (v := 1) S.1 S.2.1 dL_copies_165 (by decide) ?_
  obtain ⟨r72, hq72, hf⟩ := ed_b_e hf
  refine la_kA (ed_rV S hK hM.1 (c_X8_copy _ D cy B x7 x8 1 μ r72 hq72) (cwV 3 S.2.2.2.2 (ed_gV ed_w3_149 ed_w3_150 ed_w3_151 ed_w1_1 ed_w3_152) rfl rfl rfl hd_X8_copy ⟨Nat.le_of_ble_eq_true rfl, Nat.le_of_ble_eq_true rfl⟩) (ed_rc (q := (RX8, TX8, 6)) (r := (μ 7 14 0)) hK hM.1 ed_v14 rfl (ed_e14 cy B 7 0 _) rfl) rfl hl.1 rfl (Nat.le_of_ble_eq_true rfl) dL_copies_166 ⟨Nat.le_of_ble_eq_true rfl, Nat.le_of_ble_eq_true rfl⟩) hM hS (fun H locs hM hS => ?_)
  refine lv_aload_n S.1 S.2.1 dL_copies_169 rfl (lv_at hl 0 rfl) ?_
  refine lv_iload S.1 S.2.1 dL_copies_170 (lv_at hl 6 rfl) ?_
  refine lv_iconst (v := 5) S.1 S.2.1 dL_copies_172 (by decide) ?_
  obtain ⟨r73, hq73, hf⟩ := ed_b_e hf
  refine la_kA (ed_rV S hK hM.1 (c_X8_story _ D cy B x7 5 μ r73 hq73) (cwV 2 S.2.2.2.2 (ed_gV ed_w3_169 ed_w3_170 ed_w3_171 ed_w1_1 ed_w3_172) rfl rfl rfl hd_X8_story ⟨Nat.le_of_ble_eq_true rfl, Nat.le_of_ble_eq_true rfl⟩) (ed_rc (q := (RX8, TX8, 6)) (r := (μ 7 14 0)) hK hM.1 ed_v14 rfl (ed_e14 cy B 7 0 _) rfl) rfl hl.1 rfl (Nat.le_of_ble_eq_true rfl) dL_copies_173 ⟨Nat.le_of_ble_eq_true rfl, Nat.le_of_ble_eq_true rfl⟩) hM hS (fun H locs hM hS => ?_)
  refine lv_aload_n S.1 S.2.1 dL_copies_176 rfl (lv_at hl 0 rfl) ?_
  refine lv_iload S.1 S.2.1 dL_copies_177 (lv_at hl 7 rfl) ?_
  refine lv_iconst (v := 1) S.1 S.2.1 dL_copies_179 (by decide) ?_
  obtain ⟨r74, hq74, hf⟩ := ed_b_e hf
  refine la_kA (ed_rV S hK hM.1 (c_X8_client _ D cy B x8 1 μ r74 hq74) (cwV 2 S.2.2.2.2 (ed_gV ed_w3_104 ed_w3_105 ed_w3_106 ed_w1_1 ed_w3_107) rfl rfl rfl hd_X8_client ⟨Nat.le_of_ble_eq_true rfl, Nat.le_of_ble_eq_true rfl⟩) (ed_rc (q := (RX8, TX8, 6)) (r := (μ 7 14 0)) hK hM.1 ed_v14 rfl (ed_e14 cy B 7 0 _) rfl) rfl hl.1 rfl (Nat.le_of_ble_eq_true rfl) dL_copies_180 ⟨Nat.le_of_ble_eq_true rfl, Nat.le_of_ble_eq_true rfl⟩) hM hS (fun H locs hM hS => ?_)
  refine lv_iadd S.1 S.2.1 dL_copies_183 ?_
  refine lv_icmp_ne (tgt := 250) S.1 S.2.1 dL_copies_184 (by decide) (fun c75 => ?_) (fun c75 => ?_)
  · replace hf := ed_in_ c75 hf
    refine lv_iconst (v := 0) S.1 S.2.1 dL_copies_250 (by decide) ?_
    refine lv_istore (lv' := [(5, .int 0), (0, .ref (B + ed_oF 7 14 0)), (1, .ref (b + 0)), (2, .ref (b + 1)), (3, .ref (b + 2)), (4, .int x4), (6, .int x6), (7, .int x7), (8, .int x8), (9, .int x9), (10, .int x10), (11, .int x11), (12, .int x12)]) S.1 S.2.1 dL_copies_251 hl (by decide) rfl (fun ls hl => ?_)
    exact w_L_copies_253 S hr hlocks hK r k23 hk23 x4 0 x6 x7 x8 x10 x11 x12 α hf _ _ _ hM hS (lv_sub hl [1, 2, 3, 4, 5, 0, 6, 7, 8, 10, 11, 12] rfl)
  · replace hf := ed_ip c75 hf
    refine lv_iload S.1 S.2.1 dL_copies_187 (lv_at hl 8 rfl) ?_
    refine lv_if_eq (tgt := 198) S.1 S.2.1 dL_copies_189 (by decide) (fun c110 => ?_) (fun c110 => ?_)
    · replace hf := ed_ip c110 hf
      refine lv_iload S.1 S.2.1 dL_copies_198 (lv_at hl 9 rfl) ?_
      refine lv_bipush (v := (-5)) S.1 S.2.1 dL_copies_200 (by decide) ?_
      refine lv_icmp_ne (tgt := 250) S.1 S.2.1 dL_copies_202 (by decide) (fun c111 => ?_) (fun c111 => ?_)
      · replace hf := ed_in_ c111 hf
        refine lv_iconst (v := 0) S.1 S.2.1 dL_copies_250 (by decide) ?_
        refine lv_istore (lv' := [(5, .int 0), (0, .ref (B + ed_oF 7 14 0)), (1, .ref (b + 0)), (2, .ref (b + 1)), (3, .ref (b + 2)), (4, .int x4), (6, .int x6), (7, .int x7), (8, .int x8), (9, .int x9), (10, .int x10), (11, .int x11), (12, .int x12)]) S.1 S.2.1 dL_copies_251 hl (by decide) rfl (fun ls hl => ?_)
        exact w_L_copies_253 S hr hlocks hK r k23 hk23 x4 0 x6 x7 x8 x10 x11 x12 α hf _ _ _ hM hS (lv_sub hl [1, 2, 3, 4, 5, 0, 6, 7, 8, 10, 11, 12] rfl)
      · replace hf := ed_ip c111 hf
        refine lv_iload S.1 S.2.1 dL_copies_205 (lv_at hl 10 rfl) ?_
        refine lv_bipush (v := (-5)) S.1 S.2.1 dL_copies_207 (by decide) ?_
        refine lv_icmp_ne (tgt := 250) S.1 S.2.1 dL_copies_209 (by decide) (fun c112 => ?_) (fun c112 => ?_)
        · replace hf := ed_in_ c112 hf
          refine lv_iconst (v := 0) S.1 S.2.1 dL_copies_250 (by decide) ?_
          refine lv_istore (lv' := [(5, .int 0), (0, .ref (B + ed_oF 7 14 0)), (1, .ref (b + 0)), (2, .ref (b + 1)), (3, .ref (b + 2)), (4, .int x4), (6, .int x6), (7, .int x7), (8, .int x8), (9, .int x9), (10, .int x10), (11, .int x11), (12, .int x12)]) S.1 S.2.1 dL_copies_251 hl (by decide) rfl (fun ls hl => ?_)
          exact w_L_copies_253 S hr hlocks hK r k23 hk23 x4 0 x6 x7 x8 x10 x11 x12 α hf _ _ _ hM hS (lv_sub hl [1, 2, 3, 4, 5, 0, 6, 7, 8, 10, 11, 12] rfl)
        · replace hf := ed_ip c112 hf
          refine lv_goto (tgt := 246) S.1 S.2.1 dL_copies_212 (by decide) ?_
          refine lv_iconst (v := 1) S.1 S.2.1 dL_copies_246 (by decide) ?_
          refine lv_goto (tgt := 251) S.1 S.2.1 dL_copies_247 (by decide) ?_
          refine lv_istore (lv' := [(5, .int 1), (0, .ref (B + ed_oF 7 14 0)), (1, .ref (b + 0)), (2, .ref (b + 1)), (3, .ref (b + 2)), (4, .int x4), (6, .int x6), (7, .int x7), (8, .int x8), (9, .int x9), (10, .int x10), (11, .int x11), (12, .int x12)]) S.1 S.2.1 dL_copies_251 hl (by decide) rfl (fun ls hl => ?_)
          exact w_L_copies_253 S hr hlocks hK r k23 hk23 x4 1 x6 x7 x8 x10 x11 x12 α hf _ _ _ hM hS (lv_sub hl [1, 2, 3, 4, 5, 0, 6, 7, 8, 10, 11, 12] rfl)
    · replace hf := ed_in_ c110 hf
      refine lv_iload S.1 S.2.1 dL_copies_192 (lv_at hl 8 rfl) ?_
      refine lv_iconst (v := 4) S.1 S.2.1 dL_copies_194 (by decide) ?_
      refine lv_icmp_ne (tgt := 215) S.1 S.2.1 dL_copies_195 (by decide) (fun c113 => ?_) (fun c113 => ?_)
      · replace hf := ed_in_ c113 hf
        refine lv_iload S.1 S.2.1 dL_copies_215 (lv_at hl 9 rfl) ?_
        refine lv_aload_n S.1 S.2.1 dL_copies_217 rfl (lv_at hl 0 rfl) ?_
        refine lv_iload S.1 S.2.1 dL_copies_218 (lv_at hl 6 rfl) ?_
        refine lv_iload S.1 S.2.1 dL_copies_220 (lv_at hl 7 rfl) ?_
        refine lv_iconst (v := 1) S.1 S.2.1 dL_copies_222 (by decide) ?_
        obtain ⟨r114, hq114, hf⟩ := ed_b_e hf
        refine la_kA (ed_rV S hK hM.1 (c_X8_copy _ D cy B x7 x8 1 μ r114 hq114) (cwV 3 S.2.2.2.2 (ed_gV ed_w3_149 ed_w3_150 ed_w3_151 ed_w1_1 ed_w3_152) rfl rfl rfl hd_X8_copy ⟨Nat.le_of_ble_eq_true rfl, Nat.le_of_ble_eq_true rfl⟩) (ed_rc (q := (RX8, TX8, 6)) (r := (μ 7 14 0)) hK hM.1 ed_v14 rfl (ed_e14 cy B 7 0 _) rfl) rfl hl.1 rfl (Nat.le_of_ble_eq_true rfl) dL_copies_223 ⟨Nat.le_of_ble_eq_true rfl, Nat.le_of_ble_eq_true rfl⟩) hM hS (fun H locs hM hS => ?_)
        refine lv_icmp_lt (tgt := 250) S.1 S.2.1 dL_copies_226 (by decide) (fun c115 => ?_) (fun c115 => ?_)
        · replace hf := ed_ip c115 hf
          refine lv_iconst (v := 0) S.1 S.2.1 dL_copies_250 (by decide) ?_
          refine lv_istore (lv' := [(5, .int 0), (0, .ref (B + ed_oF 7 14 0)), (1, .ref (b + 0)), (2, .ref (b + 1)), (3, .ref (b + 2)), (4, .int x4), (6, .int x6), (7, .int x7), (8, .int x8), (9, .int x9), (10, .int x10), (11, .int x11), (12, .int x12)]) S.1 S.2.1 dL_copies_251 hl (by decide) rfl (fun ls hl => ?_)
          exact w_L_copies_253 S hr hlocks hK r k23 hk23 x4 0 x6 x7 x8 x10 x11 x12 α hf _ _ _ hM hS (lv_sub hl [1, 2, 3, 4, 5, 0, 6, 7, 8, 10, 11, 12] rfl)
        · replace hf := ed_in_ c115 hf
          refine lv_iload S.1 S.2.1 dL_copies_229 (lv_at hl 10 rfl) ?_
          refine lv_if_lt (tgt := 250) S.1 S.2.1 dL_copies_231 (by decide) (fun c116 => ?_) (fun c116 => ?_)
          · replace hf := ed_ip c116 hf
            refine lv_iconst (v := 0) S.1 S.2.1 dL_copies_250 (by decide) ?_
            refine lv_istore (lv' := [(5, .int 0), (0, .ref (B + ed_oF 7 14 0)), (1, .ref (b + 0)), (2, .ref (b + 1)), (3, .ref (b + 2)), (4, .int x4), (6, .int x6), (7, .int x7), (8, .int x8), (9, .int x9), (10, .int x10), (11, .int x11), (12, .int x12)]) S.1 S.2.1 dL_copies_251 hl (by decide) rfl (fun ls hl => ?_)
            exact w_L_copies_253 S hr hlocks hK r k23 hk23 x4 0 x6 x7 x8 x10 x11 x12 α hf _ _ _ hM hS (lv_sub hl [1, 2, 3, 4, 5, 0, 6, 7, 8, 10, 11, 12] rfl)
          · replace hf := ed_in_ c116 hf
            refine lv_iload S.1 S.2.1 dL_copies_234 (lv_at hl 10 rfl) ?_
            refine lv_aload_n S.1 S.2.1 dL_copies_236 rfl (lv_at hl 0 rfl) ?_
            refine lv_iload S.1 S.2.1 dL_copies_237 (lv_at hl 6 rfl) ?_
            refine lv_iconst (v := 4) S.1 S.2.1 dL_copies_239 (by decide) ?_
            obtain ⟨r117, hq117, hf⟩ := ed_b_e hf
            refine la_kA (ed_rV S hK hM.1 (c_X8_story _ D cy B x7 4 μ r117 hq117) (cwV 2 S.2.2.2.2 (ed_gV ed_w3_169 ed_w3_170 ed_w3_171 ed_w1_1 ed_w3_172) rfl rfl rfl hd_X8_story ⟨Nat.le_of_ble_eq_true rfl, Nat.le_of_ble_eq_true rfl⟩) (ed_rc (q := (RX8, TX8, 6)) (r := (μ 7 14 0)) hK hM.1 ed_v14 rfl (ed_e14 cy B 7 0 _) rfl) rfl hl.1 rfl (Nat.le_of_ble_eq_true rfl) dL_copies_240 ⟨Nat.le_of_ble_eq_true rfl, Nat.le_of_ble_eq_true rfl⟩) hM hS (fun H locs hM hS => ?_)
            refine lv_icmp_gt (tgt := 250) S.1 S.2.1 dL_copies_243 (by decide) (fun c118 => ?_) (fun c118 => ?_)
            · replace hf := ed_ip c118 hf
              refine lv_iconst (v := 0) S.1 S.2.1 dL_copies_250 (by decide) ?_
              refine lv_istore (lv' := [(5, .int 0), (0, .ref (B + ed_oF 7 14 0)), (1, .ref (b + 0)), (2, .ref (b + 1)), (3, .ref (b + 2)), (4, .int x4), (6, .int x6), (7, .int x7), (8, .int x8), (9, .int x9), (10, .int x10), (11, .int x11), (12, .int x12)]) S.1 S.2.1 dL_copies_251 hl (by decide) rfl (fun ls hl => ?_)
              exact w_L_copies_253 S hr hlocks hK r k23 hk23 x4 0 x6 x7 x8 x10 x11 x12 α hf _ _ _ hM hS (lv_sub hl [1, 2, 3, 4, 5, 0, 6, 7, 8, 10, 11, 12] rfl)
            · replace hf := ed_in_ c118 hf
              refine lv_iconst (v := 1) S.1 S.2.1 dL_copies_246 (by decide) ?_
              refine lv_goto (tgt := 251) S.1 S.2.1 dL_copies_247 (by decide) ?_
              refine lv_istore (lv' := [(5, .int 1), (0, .ref (B + ed_oF 7 14 0)), (1, .ref (b + 0)), (2, .ref (b + 1)), (3, .ref (b + 2)), (4, .int x4), (6, .int x6), (7, .int x7), (8, .int x8), (9, .int x9), (10, .int x10), (11, .int x11), (12, .int x12)]) S.1 S.2.1 dL_copies_251 hl (by decide) rfl (fun ls hl => ?_)
              exact w_L_copies_253 S hr hlocks hK r k23 hk23 x4 1 x6 x7 x8 x10 x11 x12 α hf _ _ _ hM hS (lv_sub hl [1, 2, 3, 4, 5, 0, 6, 7, 8, 10, 11, 12] rfl)
      · replace hf := ed_ip c113 hf
        refine lv_iload S.1 S.2.1 dL_copies_198 (lv_at hl 9 rfl) ?_
        refine lv_bipush (v := (-5)) S.1 S.2.1 dL_copies_200 (by decide) ?_
        refine lv_icmp_ne (tgt := 250) S.1 S.2.1 dL_copies_202 (by decide) (fun c119 => ?_) (fun c119 => ?_)
        · replace hf := ed_in_ c119 hf
          refine lv_iconst (v := 0) S.1 S.2.1 dL_copies_250 (by decide) ?_
          refine lv_istore (lv' := [(5, .int 0), (0, .ref (B + ed_oF 7 14 0)), (1, .ref (b + 0)), (2, .ref (b + 1)), (3, .ref (b + 2)), (4, .int x4), (6, .int x6), (7, .int x7), (8, .int x8), (9, .int x9), (10, .int x10), (11, .int x11), (12, .int x12)]) S.1 S.2.1 dL_copies_251 hl (by decide) rfl (fun ls hl => ?_)
          exact w_L_copies_253 S hr hlocks hK r k23 hk23 x4 0 x6 x7 x8 x10 x11 x12 α hf _ _ _ hM hS (lv_sub hl [1, 2, 3, 4, 5, 0, 6, 7, 8, 10, 11, 12] rfl)
        · replace hf := ed_ip c119 hf
          refine lv_iload S.1 S.2.1 dL_copies_205 (lv_at hl 10 rfl) ?_
          refine lv_bipush (v := (-5)) S.1 S.2.1 dL_copies_207 (by decide) ?_
          refine lv_icmp_ne (tgt := 250) S.1 S.2.1 dL_copies_209 (by decide) (fun c120 => ?_) (fun c120 => ?_)
          · replace hf := ed_in_ c120 hf
            refine lv_iconst (v := 0) S.1 S.2.1 dL_copies_250 (by decide) ?_
            refine lv_istore (lv' := [(5, .int 0), (0, .ref (B + ed_oF 7 14 0)), (1, .ref (b + 0)), (2, .ref (b + 1)), (3, .ref (b + 2)), (4, .int x4), (6, .int x6), (7, .int x7), (8, .int x8), (9, .int x9), (10, .int x10), (11, .int x11), (12, .int x12)]) S.1 S.2.1 dL_copies_251 hl (by decide) rfl (fun ls hl => ?_)
            exact w_L_copies_253 S hr hlocks hK r k23 hk23 x4 0 x6 x7 x8 x10 x11 x12 α hf _ _ _ hM hS (lv_sub hl [1, 2, 3, 4, 5, 0, 6, 7, 8, 10, 11, 12] rfl)
          · replace hf := ed_ip c120 hf
            refine lv_goto (tgt := 246) S.1 S.2.1 dL_copies_212 (by decide) ?_
            refine lv_iconst (v := 1) S.1 S.2.1 dL_copies_246 (by decide) ?_
            refine lv_goto (tgt := 251) S.1 S.2.1 dL_copies_247 (by decide) ?_
            refine lv_istore (lv' := [(5, .int 1), (0, .ref (B + ed_oF 7 14 0)), (1, .ref (b + 0)), (2, .ref (b + 1)), (3, .ref (b + 2)), (4, .int x4), (6, .int x6), (7, .int x7), (8, .int x8), (9, .int x9), (10, .int x10), (11, .int x11), (12, .int x12)]) S.1 S.2.1 dL_copies_251 hl (by decide) rfl (fun ls hl => ?_)
            exact w_L_copies_253 S hr hlocks hK r k23 hk23 x4 1 x6 x7 x8 x10 x11 x12 α hf _ _ _ hM hS (lv_sub hl [1, 2, 3, 4, 5, 0, 6, 7, 8, 10, 11, 12] rfl)
set_option maxHeartbeats 4000000 in
set_option maxRecDepth 100000 in
theorem w_L_copies_138 {p : Program} {l : Launch} {e : Env} {s : State} {m : MethodId} {args : Array Value} {below : List Frame} {meth : Method} {c : Code} {D : va_G} {cy : Nat → ClassId} {B : Nat} {b : Nat} {μ : ed_CM} (S : CallFix p m c cL_copies 13 s args ed_ws RL) (hr : meth.sig.returnType = (some .boolean)) (hlocks : meth.locks = false) (hK : ed_K D cy s) (r : Int32) (k23 : Int32 → Int32 → Int32 → em_MM → Option Int32) (hk23 : ∀ (x4 x5 x6 : Int32) (α : em_MM), k23 x4 x5 x6 α = some r → ∀ (H : Heap) (locs : List Loc) (ls : Array Slot), la_P D cy B b μ α H → va_S (ec_A B) s.heap H locs → lv_has ls 13 [(0, .ref (B + ed_oF 7 14 0)), (1, .ref (b + 0)), (2, .ref (b + 1)), (3, .ref (b + 2)), (4, .int x4), (5, .int x5), (6, .int x6)] → W p l e (headSpec wsL_copies rmL_copies).room s m args below meth c H locs 3 33 (MQ below (ed_qI (ec_A B) (ed_P D cy B μ) r) args s 3 33 (ec_A B)) (F0 m 23 ls [])) :
    ∀ (x4 x6 x7 x8 x9 x10 x11 x12 : Int32) (α : em_MM), f_L_copies_138 k23 μ x4 x6 x7 x8 x9 x10 x11 x12 α = some r → ∀ (H : Heap) (locs : List Loc) (ls : Array Slot), la_P D cy B b μ α H → va_S (ec_A B) s.heap H locs → lv_has ls 13 [(0, .ref (B + ed_oF 7 14 0)), (1, .ref (b + 0)), (2, .ref (b + 1)), (3, .ref (b + 2)), (4, .int x4), (6, .int x6), (7, .int x7), (8, .int x8), (9, .int x9), (10, .int x10), (11, .int x11), (12, .int x12)] → W p l e (headSpec wsL_copies rmL_copies).room s m args below meth c H locs 3 33 (MQ below (ed_qI (ec_A B) (ed_P D cy B μ) r) args s 3 33 (ec_A B)) (F0 m 138 ls []) := by
  intro x4 x6 x7 x8 x9 x10 x11 x12 α hf H locs ls hM hS hl
  unfold f_L_copies_138 at hf
  refine lv_iload S.1 S.2.1 dL_copies_138 (lv_at hl 4 rfl) ?_
  refine lv_aload_n S.1 S.2.1 dL_copies_140 rfl (lv_at hl 0 rfl) ?_
  refine lv_iload S.1 S.2.1 dL_copies_141 (lv_at hl 6 rfl) ?_
  refine lv_iload S.1 S.2.1 dL_copies_143 (lv_at hl 7 rfl) ?_
  refine lv_iconst (v := 5) S.1 S.2.1 dL_copies_145 (by decide) ?_
  obtain ⟨r70, hq70, hf⟩ := ed_b_e hf
  refine la_kA (ed_rV S hK hM.1 (c_X8_copy _ D cy B x7 x8 5 μ r70 hq70) (cwV 3 S.2.2.2.2 (ed_gV ed_w3_149 ed_w3_150 ed_w3_151 ed_w1_1 ed_w3_152) rfl rfl rfl hd_X8_copy ⟨Nat.le_of_ble_eq_true rfl, Nat.le_of_ble_eq_true rfl⟩) (ed_rc (q := (RX8, TX8, 6)) (r := (μ 7 14 0)) hK hM.1 ed_v14 rfl (ed_e14 cy B 7 0 _) rfl) rfl hl.1 rfl (Nat.le_of_ble_eq_true rfl) dL_copies_146 ⟨Nat.le_of_ble_eq_true rfl, Nat.le_of_ble_eq_true rfl⟩) hM hS (fun H locs hM hS => ?_)
  refine lv_if_le (tgt := 156) S.1 S.2.1 dL_copies_149 (by decide) (fun c71 => ?_) (fun c71 => ?_)
  · replace hf := ed_ip c71 hf
    refine lv_iconst (v := 0) S.1 S.2.1 dL_copies_156 (by decide) ?_
    refine lv_iadd S.1 S.2.1 dL_copies_157 ?_
    refine lv_istore (lv' := [(4, .int (x4 + 0 : Int32)), (0, .ref (B + ed_oF 7 14 0)), (1, .ref (b + 0)), (2, .ref (b + 1)), (3, .ref (b + 2)), (6, .int x6), (7, .int x7), (8, .int x8), (9, .int x9), (10, .int x10), (11, .int x11), (12, .int x12)]) S.1 S.2.1 dL_copies_158 hl (by decide) rfl (fun ls hl => ?_)
    exact w_L_copies_160 S hr hlocks hK r k23 hk23 (x4 + 0 : Int32) x6 x7 x8 x9 x10 x11 x12 α hf _ _ _ hM hS (lv_sub hl [1, 2, 3, 4, 0, 5, 6, 7, 8, 9, 10, 11] rfl)
  · replace hf := ed_in_ c71 hf
    refine lv_iconst (v := 1) S.1 S.2.1 dL_copies_152 (by decide) ?_
    refine lv_goto (tgt := 157) S.1 S.2.1 dL_copies_153 (by decide) ?_
    refine lv_iadd S.1 S.2.1 dL_copies_157 ?_
    refine lv_istore (lv' := [(4, .int (x4 + 1 : Int32)), (0, .ref (B + ed_oF 7 14 0)), (1, .ref (b + 0)), (2, .ref (b + 1)), (3, .ref (b + 2)), (6, .int x6), (7, .int x7), (8, .int x8), (9, .int x9), (10, .int x10), (11, .int x11), (12, .int x12)]) S.1 S.2.1 dL_copies_158 hl (by decide) rfl (fun ls hl => ?_)
    exact w_L_copies_160 S hr hlocks hK r k23 hk23 (x4 + 1 : Int32) x6 x7 x8 x9 x10 x11 x12 α hf _ _ _ hM hS (lv_sub hl [1, 2, 3, 4, 0, 5, 6, 7, 8, 9, 10, 11] rfl)
set_option maxHeartbeats 4000000 in
set_option maxRecDepth 100000 in
theorem w_L_copies_105 {p : Program} {l : Launch} {e : Env} {s : State} {m : MethodId} {args : Array Value} {below : List Frame} {meth : Method} {c : Code} {D : va_G} {cy : Nat → ClassId} {B : Nat} {b : Nat} {μ : ed_CM} (S : CallFix p m c cL_copies 13 s args ed_ws RL) (hr : meth.sig.returnType = (some .boolean)) (hlocks : meth.locks = false) (hK : ed_K D cy s) (r : Int32) (k23 : Int32 → Int32 → Int32 → em_MM → Option Int32) (hk23 : ∀ (x4 x5 x6 : Int32) (α : em_MM), k23 x4 x5 x6 α = some r → ∀ (H : Heap) (locs : List Loc) (ls : Array Slot), la_P D cy B b μ α H → va_S (ec_A B) s.heap H locs → lv_has ls 13 [(0, .ref (B + ed_oF 7 14 0)), (1, .ref (b + 0)), (2, .ref (b + 1)), (3, .ref (b + 2)), (4, .int x4), (5, .int x5), (6, .int x6)] → W p l e (headSpec wsL_copies rmL_copies).room s m args below meth c H locs 3 33 (MQ below (ed_qI (ec_A B) (ed_P D cy B μ) r) args s 3 33 (ec_A B)) (F0 m 23 ls [])) :
    ∀ (x4 x6 x7 x8 x9 x10 x11 x12 : Int32) (α : em_MM), f_L_copies_105 k23 μ x4 x6 x7 x8 x9 x10 x11 x12 α = some r → ∀ (H : Heap) (locs : List Loc) (ls : Array Slot), la_P D cy B b μ α H → va_S (ec_A B) s.heap H locs → lv_has ls 13 [(0, .ref (B + ed_oF 7 14 0)), (1, .ref (b + 0)), (2, .ref (b + 1)), (3, .ref (b + 2)), (4, .int x4), (6, .int x6), (7, .int x7), (8, .int x8), (9, .int x9), (10, .int x10), (11, .int x11), (12, .int x12)] → W p l e (headSpec wsL_copies rmL_copies).room s m args below meth c H locs 3 33 (MQ below (ed_qI (ec_A B) (ed_P D cy B μ) r) args s 3 33 (ec_A B)) (F0 m 105 ls []) := by
  intro x4 x6 x7 x8 x9 x10 x11 x12 α hf H locs ls hM hS hl
  unfold f_L_copies_105 at hf
  refine lv_aload_n S.1 S.2.1 dL_copies_105 rfl (lv_at hl 1 rfl) ?_
  refine lv_iload S.1 S.2.1 dL_copies_106 (lv_at hl 8 rfl) ?_
  refine lv_dup2_11 S.1 S.2.1 dL_copies_108 rfl rfl ?_
  obtain ⟨hx60, hf⟩ := ed_g_e hf
  refine la_ild S hK hM 0 (by decide) rfl hx60 dL_copies_109 ?_
  refine lv_iconst (v := 1) S.1 S.2.1 dL_copies_110 (by decide) ?_
  refine lv_iadd S.1 S.2.1 dL_copies_111 ?_
  obtain ⟨hx61, hf⟩ := ed_g_e hf
  refine la_ist S hK hM hS 0 (by decide) rfl hx61 dL_copies_112 (fun H locs hM hS => ?_)
  obtain ⟨α62, eα62, hf⟩ := ed_t_e hf
  have hM : la_P D cy B b μ α62 H := by rw [eα62]; exact hM
  refine lv_aload_n S.1 S.2.1 dL_copies_113 rfl (lv_at hl 2 rfl) ?_
  refine lv_iload S.1 S.2.1 dL_copies_114 (lv_at hl 6 rfl) ?_
  refine lv_dup2_11 S.1 S.2.1 dL_copies_116 rfl rfl ?_
  obtain ⟨hx63, hf⟩ := ed_g_e hf
  refine la_ild S hK hM 1 (by decide) rfl hx63 dL_copies_117 ?_
  refine lv_iconst (v := 1) S.1 S.2.1 dL_copies_118 (by decide) ?_
  refine lv_iadd S.1 S.2.1 dL_copies_119 ?_
  obtain ⟨hx64, hf⟩ := ed_g_e hf
  refine la_ist S hK hM hS 1 (by decide) rfl hx64 dL_copies_120 (fun H locs hM hS => ?_)
  obtain ⟨α65, eα65, hf⟩ := ed_t_e hf
  have hM : la_P D cy B b μ α65 H := by rw [eα65]; exact hM
  refine lv_aload_n S.1 S.2.1 dL_copies_121 rfl (lv_at hl 3 rfl) ?_
  refine lv_iload S.1 S.2.1 dL_copies_122 (lv_at hl 7 rfl) ?_
  refine lv_dup2_11 S.1 S.2.1 dL_copies_124 rfl rfl ?_
  obtain ⟨hx66, hf⟩ := ed_g_e hf
  refine la_ild S hK hM 2 (by decide) rfl hx66 dL_copies_125 ?_
  refine lv_iload S.1 S.2.1 dL_copies_126 (lv_at hl 11 rfl) ?_
  refine lv_if_eq (tgt := 135) S.1 S.2.1 dL_copies_128 (by decide) (fun c67 => ?_) (fun c67 => ?_)
  · replace hf := ed_ip c67 hf
    refine lv_iconst (v := 0) S.1 S.2.1 dL_copies_135 (by decide) ?_
    refine lv_iadd S.1 S.2.1 dL_copies_136 ?_
    obtain ⟨hx68, hf⟩ := ed_g_e hf
    refine la_ist S hK hM hS 2 (by decide) rfl hx68 dL_copies_137 (fun H locs hM hS => ?_)
    obtain ⟨α69, eα69, hf⟩ := ed_t_e hf
    have hM : la_P D cy B b μ α69 H := by rw [eα69]; exact hM
    exact w_L_copies_138 S hr hlocks hK r k23 hk23 x4 x6 x7 x8 x9 x10 x11 x12 α69 hf _ _ _ hM hS (lv_sub hl [0, 1, 2, 3, 4, 5, 6, 7, 8, 9, 10, 11] rfl)
  · replace hf := ed_in_ c67 hf
    refine lv_iconst (v := 1) S.1 S.2.1 dL_copies_131 (by decide) ?_
    refine lv_goto (tgt := 136) S.1 S.2.1 dL_copies_132 (by decide) ?_
    refine lv_iadd S.1 S.2.1 dL_copies_136 ?_
    obtain ⟨hx121, hf⟩ := ed_g_e hf
    refine la_ist S hK hM hS 2 (by decide) rfl hx121 dL_copies_137 (fun H locs hM hS => ?_)
    obtain ⟨α122, eα122, hf⟩ := ed_t_e hf
    have hM : la_P D cy B b μ α122 H := by rw [eα122]; exact hM
    exact w_L_copies_138 S hr hlocks hK r k23 hk23 x4 x6 x7 x8 x9 x10 x11 x12 α122 hf _ _ _ hM hS (lv_sub hl [0, 1, 2, 3, 4, 5, 6, 7, 8, 9, 10, 11] rfl)
set_option maxHeartbeats 4000000 in
set_option maxRecDepth 100000 in
theorem w_L_copies_23 {p : Program} {l : Launch} {e : Env} {s : State} {m : MethodId} {args : Array Value} {below : List Frame} {meth : Method} {c : Code} {D : va_G} {cy : Nat → ClassId} {B : Nat} {b : Nat} {μ : ed_CM} (S : CallFix p m c cL_copies 13 s args ed_ws RL) (hr : meth.sig.returnType = (some .boolean)) (hlocks : meth.locks = false) (hK : ed_K D cy s) (r : Int32) :
    ∀ (n : Nat), ∀ (x4 x5 x6 : Int32) (α : em_MM), f_L_copies_23 μ n x4 x5 x6 α = some r → ∀ (H : Heap) (locs : List Loc) (ls : Array Slot), la_P D cy B b μ α H → va_S (ec_A B) s.heap H locs → lv_has ls 13 [(0, .ref (B + ed_oF 7 14 0)), (1, .ref (b + 0)), (2, .ref (b + 1)), (3, .ref (b + 2)), (4, .int x4), (5, .int x5), (6, .int x6)] → W p l e (headSpec wsL_copies rmL_copies).room s m args below meth c H locs 3 33 (MQ below (ed_qI (ec_A B) (ed_P D cy B μ) r) args s 3 33 (ec_A B)) (F0 m 23 ls []) := by
  intro n
  induction n with
  | zero => intro x4 x5 x6 α hf; rw [f_L_copies_23] at hf; cases hf
  | succ n ih =>
    intro x4 x5 x6 α hf H locs ls hM hS hl
    rw [f_L_copies_23] at hf
    refine lv_aload_n S.1 S.2.1 dL_copies_23 rfl (lv_at hl 0 rfl) ?_
    refine lv_iload S.1 S.2.1 dL_copies_24 (lv_at hl 6 rfl) ?_
    obtain ⟨r1, hq1, hf⟩ := ed_b_e hf
    refine la_kA (ed_rV S hK hM.1 (c_X8_copyAt _ D cy B x6 μ r1 hq1) (cwV 1 S.2.2.2.2 (ed_gV ed_w3_144 ed_w3_145 ed_w3_146 ed_w1_1 ed_w3_147) rfl rfl rfl hd_X8_copyAt ⟨Nat.le_of_ble_eq_true rfl, Nat.le_of_ble_eq_true rfl⟩) (ed_rc (q := (RX8, TX8, 6)) (r := (μ 7 14 0)) hK hM.1 ed_v14 rfl (ed_e14 cy B 7 0 _) rfl) rfl hl.1 rfl (Nat.le_of_ble_eq_true rfl) dL_copies_26 ⟨Nat.le_of_ble_eq_true rfl, Nat.le_of_ble_eq_true rfl⟩) hM hS (fun H locs hM hS => ?_)
    refine lv_if_lt (tgt := 512) S.1 S.2.1 dL_copies_29 (by decide) (fun c2 => ?_) (fun c2 => ?_)
    · replace hf := ed_ip c2 hf
      refine lv_iconst (v := 0) S.1 S.2.1 dL_copies_512 (by decide) ?_
      refine lv_istore (lv' := [(6, .int 0), (0, .ref (B + ed_oF 7 14 0)), (1, .ref (b + 0)), (2, .ref (b + 1)), (3, .ref (b + 2)), (4, .int x4), (5, .int x5)]) S.1 S.2.1 dL_copies_513 hl (by decide) rfl (fun ls hl => ?_)
      exact w_L_copies_515 S hr hlocks hK r ed_N x4 x5 0 α hf _ _ _ hM hS (lv_sub hl [1, 2, 3, 4, 5, 6, 0] rfl)
    · replace hf := ed_in_ c2 hf
      refine lv_iload S.1 S.2.1 dL_copies_32 (lv_at hl 5 rfl) ?_
      refine lv_if_eq (tgt := 512) S.1 S.2.1 dL_copies_34 (by decide) (fun c52 => ?_) (fun c52 => ?_)
      · replace hf := ed_ip c52 hf
        refine lv_iconst (v := 0) S.1 S.2.1 dL_copies_512 (by decide) ?_
        refine lv_istore (lv' := [(6, .int 0), (0, .ref (B + ed_oF 7 14 0)), (1, .ref (b + 0)), (2, .ref (b + 1)), (3, .ref (b + 2)), (4, .int x4), (5, .int x5)]) S.1 S.2.1 dL_copies_513 hl (by decide) rfl (fun ls hl => ?_)
        exact w_L_copies_515 S hr hlocks hK r ed_N x4 x5 0 α hf _ _ _ hM hS (lv_sub hl [1, 2, 3, 4, 5, 6, 0] rfl)
      · replace hf := ed_in_ c52 hf
        refine lv_aload_n S.1 S.2.1 dL_copies_37 rfl (lv_at hl 0 rfl) ?_
        refine lv_iload S.1 S.2.1 dL_copies_38 (lv_at hl 6 rfl) ?_
        obtain ⟨r53, hq53, hf⟩ := ed_b_e hf
        refine la_kA (ed_rV S hK hM.1 (c_X8_copyAt _ D cy B x6 μ r53 hq53) (cwV 1 S.2.2.2.2 (ed_gV ed_w3_144 ed_w3_145 ed_w3_146 ed_w1_1 ed_w3_147) rfl rfl rfl hd_X8_copyAt ⟨Nat.le_of_ble_eq_true rfl, Nat.le_of_ble_eq_true rfl⟩) (ed_rc (q := (RX8, TX8, 6)) (r := (μ 7 14 0)) hK hM.1 ed_v14 rfl (ed_e14 cy B 7 0 _) rfl) rfl hl.1 rfl (Nat.le_of_ble_eq_true rfl) dL_copies_40 ⟨Nat.le_of_ble_eq_true rfl, Nat.le_of_ble_eq_true rfl⟩) hM hS (fun H locs hM hS => ?_)
        refine lv_bipush (v := 10) S.1 S.2.1 dL_copies_43 (by decide) ?_
        refine lv_idiv S.1 S.2.1 dL_copies_45 (by decide) ?_
        refine lv_istore (lv' := [(7, .int (r53 / 10 : Int32)), (0, .ref (B + ed_oF 7 14 0)), (1, .ref (b + 0)), (2, .ref (b + 1)), (3, .ref (b + 2)), (4, .int x4), (5, .int x5), (6, .int x6)]) S.1 S.2.1 dL_copies_46 hl (by decide) rfl (fun ls hl => ?_)
        refine lv_aload_n S.1 S.2.1 dL_copies_48 rfl (lv_at hl 1 rfl) ?_
        refine lv_iload S.1 S.2.1 dL_copies_49 (lv_at hl 7 rfl) ?_
        obtain ⟨r54, hq54, hf⟩ := ed_b_e hf
        refine la_kA (ed_rV S hK hM.1 (c_X8_copyAt _ D cy B x6 μ r54 hq54) (cwV 1 S.2.2.2.2 (ed_gV ed_w3_144 ed_w3_145 ed_w3_146 ed_w1_1 ed_w3_147) rfl rfl rfl hd_X8_copyAt ⟨Nat.le_of_ble_eq_true rfl, Nat.le_of_ble_eq_true rfl⟩) (ed_rc (q := (RX8, TX8, 6)) (r := (μ 7 14 0)) hK hM.1 ed_v14 rfl (ed_e14 cy B 7 0 _) rfl) rfl hl.1 rfl (Nat.le_of_ble_eq_true rfl) dL_copies_51 ⟨Nat.le_of_ble_eq_true rfl, Nat.le_of_ble_eq_true rfl⟩) hM hS (fun H locs hM hS => ?_)
        refine lv_bipush (v := 10) S.1 S.2.1 dL_copies_54 (by decide) ?_
        refine lv_irem S.1 S.2.1 dL_copies_56 (by decide) ?_
        obtain ⟨y55, ey55, hf⟩ := ed_t_e hf
        refine ed_nm ey55 ?_
        refine lv_istore (lv' := [(8, .int y55), (7, .int (r53 / 10 : Int32)), (0, .ref (B + ed_oF 7 14 0)), (1, .ref (b + 0)), (2, .ref (b + 1)), (3, .ref (b + 2)), (4, .int x4), (5, .int x5), (6, .int x6)]) S.1 S.2.1 dL_copies_57 hl (by decide) rfl (fun ls hl => ?_)
        refine lv_aload_n S.1 S.2.1 dL_copies_59 rfl (lv_at hl 2 rfl) ?_
        refine lv_iload S.1 S.2.1 dL_copies_60 (lv_at hl 1 rfl) ?_
        refine lv_iload S.1 S.2.1 dL_copies_62 (lv_at hl 0 rfl) ?_
        refine lv_iconst (v := 0) S.1 S.2.1 dL_copies_64 (by decide) ?_
        obtain ⟨r56, hq56, hf⟩ := ed_b_e hf
        refine la_kA (ed_rV S hK hM.1 (c_X8_copy _ D cy B (r53 / 10 : Int32) y55 0 μ r56 hq56) (cwV 3 S.2.2.2.2 (ed_gV ed_w3_149 ed_w3_150 ed_w3_151 ed_w1_1 ed_w3_152) rfl rfl rfl hd_X8_copy ⟨Nat.le_of_ble_eq_true rfl, Nat.le_of_ble_eq_true rfl⟩) (ed_rc (q := (RX8, TX8, 6)) (r := (μ 7 14 0)) hK hM.1 ed_v14 rfl (ed_e14 cy B 7 0 _) rfl) rfl hl.1 rfl (Nat.le_of_ble_eq_true rfl) dL_copies_65 ⟨Nat.le_of_ble_eq_true rfl, Nat.le_of_ble_eq_true rfl⟩) hM hS (fun H locs hM hS => ?_)
        refine lv_istore (lv' := [(9, .int r56), (8, .int y55), (7, .int (r53 / 10 : Int32)), (0, .ref (B + ed_oF 7 14 0)), (1, .ref (b + 0)), (2, .ref (b + 1)), (3, .ref (b + 2)), (4, .int x4), (5, .int x5), (6, .int x6)]) S.1 S.2.1 dL_copies_68 hl (by decide) rfl (fun ls hl => ?_)
        refine lv_aload_n S.1 S.2.1 dL_copies_70 rfl (lv_at hl 3 rfl) ?_
        refine lv_iload S.1 S.2.1 dL_copies_71 (lv_at hl 2 rfl) ?_
        refine lv_iload S.1 S.2.1 dL_copies_73 (lv_at hl 1 rfl) ?_
        refine lv_iconst (v := 2) S.1 S.2.1 dL_copies_75 (by decide) ?_
        obtain ⟨r57, hq57, hf⟩ := ed_b_e hf
        refine la_kA (ed_rV S hK hM.1 (c_X8_copy _ D cy B (r53 / 10 : Int32) y55 2 μ r57 hq57) (cwV 3 S.2.2.2.2 (ed_gV ed_w3_149 ed_w3_150 ed_w3_151 ed_w1_1 ed_w3_152) rfl rfl rfl hd_X8_copy ⟨Nat.le_of_ble_eq_true rfl, Nat.le_of_ble_eq_true rfl⟩) (ed_rc (q := (RX8, TX8, 6)) (r := (μ 7 14 0)) hK hM.1 ed_v14 rfl (ed_e14 cy B 7 0 _) rfl) rfl hl.1 rfl (Nat.le_of_ble_eq_true rfl) dL_copies_76 ⟨Nat.le_of_ble_eq_true rfl, Nat.le_of_ble_eq_true rfl⟩) hM hS (fun H locs hM hS => ?_)
        refine lv_istore (lv' := [(10, .int r57), (9, .int r56), (8, .int y55), (7, .int (r53 / 10 : Int32)), (0, .ref (B + ed_oF 7 14 0)), (1, .ref (b + 0)), (2, .ref (b + 1)), (3, .ref (b + 2)), (4, .int x4), (5, .int x5), (6, .int x6)]) S.1 S.2.1 dL_copies_79 hl (by decide) rfl (fun ls hl => ?_)
        refine lv_aload_n S.1 S.2.1 dL_copies_81 rfl (lv_at hl 4 rfl) ?_
        refine lv_iload S.1 S.2.1 dL_copies_82 (lv_at hl 3 rfl) ?_
        refine lv_iload S.1 S.2.1 dL_copies_84 (lv_at hl 2 rfl) ?_
        refine lv_iconst (v := 3) S.1 S.2.1 dL_copies_86 (by decide) ?_
        obtain ⟨r58, hq58, hf⟩ := ed_b_e hf
        refine la_kA (ed_rV S hK hM.1 (c_X8_copy _ D cy B (r53 / 10 : Int32) y55 3 μ r58 hq58) (cwV 3 S.2.2.2.2 (ed_gV ed_w3_149 ed_w3_150 ed_w3_151 ed_w1_1 ed_w3_152) rfl rfl rfl hd_X8_copy ⟨Nat.le_of_ble_eq_true rfl, Nat.le_of_ble_eq_true rfl⟩) (ed_rc (q := (RX8, TX8, 6)) (r := (μ 7 14 0)) hK hM.1 ed_v14 rfl (ed_e14 cy B 7 0 _) rfl) rfl hl.1 rfl (Nat.le_of_ble_eq_true rfl) dL_copies_87 ⟨Nat.le_of_ble_eq_true rfl, Nat.le_of_ble_eq_true rfl⟩) hM hS (fun H locs hM hS => ?_)
        refine lv_istore (lv' := [(11, .int r58), (10, .int r57), (9, .int r56), (8, .int y55), (7, .int (r53 / 10 : Int32)), (0, .ref (B + ed_oF 7 14 0)), (1, .ref (b + 0)), (2, .ref (b + 1)), (3, .ref (b + 2)), (4, .int x4), (5, .int x5), (6, .int x6)]) S.1 S.2.1 dL_copies_90 hl (by decide) rfl (fun ls hl => ?_)
        refine lv_iload S.1 S.2.1 dL_copies_92 (lv_at hl 2 rfl) ?_
        refine lv_iconst (v := 1) S.1 S.2.1 dL_copies_94 (by decide) ?_
        refine lv_icmp_ne (tgt := 102) S.1 S.2.1 dL_copies_95 (by decide) (fun c59 => ?_) (fun c59 => ?_)
        · replace hf := ed_in_ c59 hf
          refine lv_iconst (v := 0) S.1 S.2.1 dL_copies_102 (by decide) ?_
          refine lv_istore (lv' := [(12, .int 0), (11, .int r58), (10, .int r57), (9, .int r56), (8, .int y55), (7, .int (r53 / 10 : Int32)), (0, .ref (B + ed_oF 7 14 0)), (1, .ref (b + 0)), (2, .ref (b + 1)), (3, .ref (b + 2)), (4, .int x4), (5, .int x5), (6, .int x6)]) S.1 S.2.1 dL_copies_103 hl (by decide) rfl (fun ls hl => ?_)
          exact w_L_copies_105 S hr hlocks hK r (fun a0 a1 a2 a3 => f_L_copies_23 μ n a0 a1 a2 a3) ih x4 x6 (r53 / 10 : Int32) y55 r56 r57 r58 0 α hf _ _ _ hM hS (lv_sub hl [6, 7, 8, 9, 10, 12, 5, 4, 3, 2, 1, 0] rfl)
        · replace hf := ed_ip c59 hf
          refine lv_iconst (v := 1) S.1 S.2.1 dL_copies_98 (by decide) ?_
          refine lv_goto (tgt := 103) S.1 S.2.1 dL_copies_99 (by decide) ?_
          refine lv_istore (lv' := [(12, .int 1), (11, .int r58), (10, .int r57), (9, .int r56), (8, .int y55), (7, .int (r53 / 10 : Int32)), (0, .ref (B + ed_oF 7 14 0)), (1, .ref (b + 0)), (2, .ref (b + 1)), (3, .ref (b + 2)), (4, .int x4), (5, .int x5), (6, .int x6)]) S.1 S.2.1 dL_copies_103 hl (by decide) rfl (fun ls hl => ?_)
          exact w_L_copies_105 S hr hlocks hK r (fun a0 a1 a2 a3 => f_L_copies_23 μ n a0 a1 a2 a3) ih x4 x6 (r53 / 10 : Int32) y55 r56 r57 r58 1 α hf _ _ _ hM hS (lv_sub hl [6, 7, 8, 9, 10, 12, 5, 4, 3, 2, 1, 0] rfl)
set_option maxHeartbeats 4000000 in
set_option maxRecDepth 100000 in
theorem c_L_copies (l : Launch) (D : va_G) (cy : Nat → ClassId) (B : Nat) (μ : ed_CM) (r : Int32) (hf : f_L_copies μ = some r) :
    Met l yL_copies wsL_copies rmL_copies (ed_pC D cy (ed_P D cy B μ) [.ref (B + ed_oF 7 14 0)]) (ed_qI (ec_A B) (ed_P D cy B μ) r) 3 33 (ec_A B) := by
  refine Met.ofW (cc := cL_copies) (maxL := 13) (ret := some .boolean) (by decide) rfl ?_
  intro p e s m args below meth c s₁ B0 hml hv
  obtain ⟨rfl, hM, hK⟩ := hv
  have S : CallFix p m c cL_copies 13 s _ ed_ws RL := ⟨B0.exec, B0.bytes, hml, findClass_of_methodNamed B0.named, fun w hw => atoms_spec (ws := wsL_copies) B0.pre w (List.mem_cons_of_mem _ hw)⟩
  have hr := B0.returns
  have hlocks := B0.notSynchronized
  have hS : va_S (ec_A B) s.heap s.heap [] := va_S.rf
  have hl := lv_entry ([.ref (B + ed_oF 7 14 0)]) (n := 13) (Nat.le_of_ble_eq_true rfl)
  rw [lg_entry_eq]
  generalize (lg_sl ([.ref (B + ed_oF 7 14 0)]) ++ List.replicate (13 - (lg_sl ([.ref (B + ed_oF 7 14 0)])).length) Slot.unset).toArray = ls at hl ⊢
  have hl : lv_has ls 13 [(0, .ref (B + ed_oF 7 14 0))] := hl
  unfold f_L_copies at hf
  obtain ⟨b, hb⟩ : ∃ b : Nat, s.heap.size = b := ⟨_, rfl⟩
  have hBb : B + 1862 ≤ b := hb ▸ la_size hM
  have hW : va_P D vwCl ([] : va_W) s.heap := fun k q h => by cases h
  refine lv_iconst (v := 5) S.1 S.2.1 dL_copies_0 (by decide) ?_
  refine la_newa S ed_w1_42 hK hM hW hb hS (N := 5) (by decide) (by decide) (by decide) (Nat.le_of_ble_eq_true rfl) (Nat.le_of_ble_eq_true rfl) dL_copies_1 (fun H hM hW hz hS => ?_)
  refine lv_astore_n (lv' := [(1, .ref b), (0, .ref (B + ed_oF 7 14 0))]) S.1 S.2.1 dL_copies_3 rfl hl (by decide) rfl (fun ls hl => ?_)
  refine lv_bipush (v := 20) S.1 S.2.1 dL_copies_4 (by decide) ?_
  refine la_newa S ed_w1_42 hK hM hW hz hS (N := 20) (by decide) (by decide) (by decide) (Nat.le_of_ble_eq_true rfl) (Nat.le_of_ble_eq_true rfl) dL_copies_6 (fun H hM hW hz hS => ?_)
  refine lv_astore_n (lv' := [(2, .ref (b + 1)), (1, .ref b), (0, .ref (B + ed_oF 7 14 0))]) S.1 S.2.1 dL_copies_8 rfl hl (by decide) rfl (fun ls hl => ?_)
  refine lv_bipush (v := 8) S.1 S.2.1 dL_copies_9 (by decide) ?_
  refine la_newa S ed_w1_42 hK hM hW hz hS (N := 8) (by decide) (by decide) (by decide) (Nat.le_of_ble_eq_true rfl) (Nat.le_of_ble_eq_true rfl) dL_copies_11 (fun H hM hW hz hS => ?_)
  refine lv_astore_n (lv' := [(3, .ref (b + 1 + 1)), (2, .ref (b + 1)), (1, .ref b), (0, .ref (B + ed_oF 7 14 0))]) S.1 S.2.1 dL_copies_13 rfl hl (by decide) rfl (fun ls hl => ?_)
  have hl : lv_has ls 13 [(3, .ref (b + 2)), (2, .ref (b + 1)), (1, .ref (b + 0)), (0, .ref (B + ed_oF 7 14 0))] := hl
  replace hM : la_P D cy B b μ (fun _ _ => 0) H := ⟨hM, hW, hBb⟩
  refine W.widen (k := 3) (n := 33) (Nat.le_of_ble_eq_true rfl) (Nat.le_of_ble_eq_true rfl) ?_
  refine lv_iconst (v := 0) S.1 S.2.1 dL_copies_14 (by decide) ?_
  refine lv_istore (lv' := [(4, .int 0), (3, .ref (b + 2)), (2, .ref (b + 1)), (1, .ref (b + 0)), (0, .ref (B + ed_oF 7 14 0))]) S.1 S.2.1 dL_copies_15 hl (by decide) rfl (fun ls hl => ?_)
  refine lv_iconst (v := 1) S.1 S.2.1 dL_copies_17 (by decide) ?_
  refine lv_istore (lv' := [(5, .int 1), (4, .int 0), (3, .ref (b + 2)), (2, .ref (b + 1)), (1, .ref (b + 0)), (0, .ref (B + ed_oF 7 14 0))]) S.1 S.2.1 dL_copies_18 hl (by decide) rfl (fun ls hl => ?_)
  refine lv_iconst (v := 0) S.1 S.2.1 dL_copies_20 (by decide) ?_
  refine lv_istore (lv' := [(6, .int 0), (5, .int 1), (4, .int 0), (3, .ref (b + 2)), (2, .ref (b + 1)), (1, .ref (b + 0)), (0, .ref (B + ed_oF 7 14 0))]) S.1 S.2.1 dL_copies_21 hl (by decide) rfl (fun ls hl => ?_)
  exact w_L_copies_23 S hr hlocks hK r ed_N 0 1 0 (fun _ _ => 0) hf _ _ _ hM hS (lv_sub hl [6, 5, 4, 3, 2, 1, 0] rfl)
set_option maxHeartbeats 4000000 in
set_option maxRecDepth 100000 in
theorem w_L_money_126 {p : Program} {l : Launch} {e : Env} {s : State} {m : MethodId} {args : Array Value} {below : List Frame} {meth : Method} {c : Code} {D : va_G} {cy : Nat → ClassId} {B : Nat} (S : CallFix p m c cL_money 7 s args ed_ws RL) (hr : meth.sig.returnType = (some .boolean)) (hlocks : meth.locks = false) (hK : ed_K D cy s) (μ : ed_CM) (r : Int32) :
    ∀ (n : Nat), ∀ (x2 x3 x4 x5 x6 : Int32), f_L_money_126 μ n x2 x3 x4 x5 x6 = some r → ∀ (H : Heap) (locs : List Loc) (ls : Array Slot), ed_P D cy B μ H → va_S (ed_A B) s.heap H locs → lv_has ls 7 [(0, .ref (B + ed_oF 7 14 0)), (2, .int x2), (3, .int x3), (4, .int x4), (5, .int x5), (6, .int x6)] → W p l e (headSpec wsL_money rmL_money).room s m args below meth c H locs 0 0 (MQ below (ed_qI (ed_A B) (ed_P D cy B μ) r) args s 0 0 (ed_A B)) (F0 m 126 ls []) := by
  intro n
  induction n with
  | zero => intro x2 x3 x4 x5 x6 hf; rw [f_L_money_126] at hf; cases hf
  | succ n ih =>
    intro x2 x3 x4 x5 x6 hf H locs ls hM hS hl
    rw [f_L_money_126] at hf
    refine lv_iload S.1 S.2.1 dL_money_126 (lv_at hl 5 rfl) ?_
    refine lv_aload_n S.1 S.2.1 dL_money_128 rfl (lv_at hl 0 rfl) ?_
    refine lv_iconst (v := 2) S.1 S.2.1 dL_money_129 (by decide) ?_
    obtain ⟨r4, hq4, hf⟩ := ed_b_e hf
    refine ed_kI (ed_rV S hK hM (c_X8_count _ D cy B 2 μ r4 hq4) (cwV 1 S.2.2.2.2 (ed_gV ed_w3_115 ed_w3_116 ed_w3_117 ed_w1_1 ed_w3_118) rfl rfl rfl hd_X8_count ⟨Nat.le_of_ble_eq_true rfl, Nat.le_of_ble_eq_true rfl⟩) (ed_rc (q := (RX8, TX8, 6)) (r := (μ 7 14 0)) hK hM ed_v14 rfl (ed_e14 cy B 7 0 _) rfl) rfl hl.1 rfl (Nat.le_of_ble_eq_true rfl) dL_money_130 ⟨Nat.zero_le _, Nat.zero_le _⟩) hS (fun H locs hM hS => ?_)
    refine lv_icmp_ge (tgt := 154) S.1 S.2.1 dL_money_133 (by decide) (fun c5 => ?_) (fun c5 => ?_)
    · replace hf := ed_ip c5 hf
      refine lv_iload S.1 S.2.1 dL_money_154 (lv_at hl 4 rfl) ?_
      refine lv_if_eq (tgt := 173) S.1 S.2.1 dL_money_156 (by decide) (fun c6 => ?_) (fun c6 => ?_)
      · replace hf := ed_ip c6 hf
        refine lv_iconst (v := 0) S.1 S.2.1 dL_money_173 (by decide) ?_
        obtain rfl := Option.some.inj hf
        exact ed_rz S hr hlocks rfl hM hS dL_money_174
      · replace hf := ed_in_ c6 hf
        refine lv_iload_n S.1 S.2.1 dL_money_159 rfl (lv_at hl 1 rfl) ?_
        refine lv_iload_n S.1 S.2.1 dL_money_160 rfl (lv_at hl 2 rfl) ?_
        refine lv_icmp_ne (tgt := 173) S.1 S.2.1 dL_money_161 (by decide) (fun c7 => ?_) (fun c7 => ?_)
        · replace hf := ed_in_ c7 hf
          refine lv_iconst (v := 0) S.1 S.2.1 dL_money_173 (by decide) ?_
          obtain rfl := Option.some.inj hf
          exact ed_rz S hr hlocks rfl hM hS dL_money_174
        · replace hf := ed_ip c7 hf
          refine lv_iload S.1 S.2.1 dL_money_164 (lv_at hl 3 rfl) ?_
          refine lv_if_ne (tgt := 173) S.1 S.2.1 dL_money_166 (by decide) (fun c8 => ?_) (fun c8 => ?_)
          · replace hf := ed_in_ c8 hf
            refine lv_iconst (v := 0) S.1 S.2.1 dL_money_173 (by decide) ?_
            obtain rfl := Option.some.inj hf
            exact ed_rz S hr hlocks rfl hM hS dL_money_174
          · replace hf := ed_ip c8 hf
            refine lv_iconst (v := 1) S.1 S.2.1 dL_money_169 (by decide) ?_
            refine lv_goto (tgt := 174) S.1 S.2.1 dL_money_170 (by decide) ?_
            obtain rfl := Option.some.inj hf
            exact ed_rz S hr hlocks rfl hM hS dL_money_174
    · replace hf := ed_in_ c5 hf
      refine lv_iload S.1 S.2.1 dL_money_136 (lv_at hl 3 rfl) ?_
      refine lv_aload_n S.1 S.2.1 dL_money_138 rfl (lv_at hl 0 rfl) ?_
      refine lv_iload S.1 S.2.1 dL_money_139 (lv_at hl 5 rfl) ?_
      refine lv_iconst (v := 1) S.1 S.2.1 dL_money_141 (by decide) ?_
      obtain ⟨r9, hq9, hf⟩ := ed_b_e hf
      refine ed_kI (ed_rV S hK hM (c_X8_story _ D cy B x6 1 μ r9 hq9) (cwV 2 S.2.2.2.2 (ed_gV ed_w3_169 ed_w3_170 ed_w3_171 ed_w1_1 ed_w3_172) rfl rfl rfl hd_X8_story ⟨Nat.le_of_ble_eq_true rfl, Nat.le_of_ble_eq_true rfl⟩) (ed_rc (q := (RX8, TX8, 6)) (r := (μ 7 14 0)) hK hM ed_v14 rfl (ed_e14 cy B 7 0 _) rfl) rfl hl.1 rfl (Nat.le_of_ble_eq_true rfl) dL_money_142 ⟨Nat.zero_le _, Nat.zero_le _⟩) hS (fun H locs hM hS => ?_)
      refine lv_isub S.1 S.2.1 dL_money_145 ?_
      refine lv_istore (lv' := [(4, .int (x4 - r9 : Int32)), (0, .ref (B + ed_oF 7 14 0)), (2, .int x2), (3, .int x3), (5, .int x5), (6, .int x6)]) S.1 S.2.1 dL_money_146 hl (by decide) rfl (fun ls hl => ?_)
      refine lv_iinc (v := x6 + 1) (lv' := [(6, .int (x6 + 1)), (4, .int (x4 - r9 : Int32)), (0, .ref (B + ed_oF 7 14 0)), (2, .int x2), (3, .int x3), (5, .int x5)]) S.1 S.2.1 dL_money_148 hl (k := 5) rfl rfl (by decide) rfl (fun ls hl => ?_)
      refine lv_goto (tgt := 126) S.1 S.2.1 dL_money_151 (by decide) ?_
      exact ih x2 x3 (x4 - r9 : Int32) x5 (x6 + 1) hf _ _ _ hM hS (lv_sub hl [2, 3, 4, 1, 5, 0] rfl)
set_option maxHeartbeats 4000000 in
set_option maxRecDepth 100000 in
theorem w_L_money_73 {p : Program} {l : Launch} {e : Env} {s : State} {m : MethodId} {args : Array Value} {below : List Frame} {meth : Method} {c : Code} {D : va_G} {cy : Nat → ClassId} {B : Nat} (S : CallFix p m c cL_money 7 s args ed_ws RL) (hr : meth.sig.returnType = (some .boolean)) (hlocks : meth.locks = false) (hK : ed_K D cy s) (μ : ed_CM) (r : Int32) :
    ∀ (n : Nat), ∀ (x2 x3 x4 x5 x6 : Int32), f_L_money_73 μ n x2 x3 x4 x5 x6 = some r → ∀ (H : Heap) (locs : List Loc) (ls : Array Slot), ed_P D cy B μ H → va_S (ed_A B) s.heap H locs → lv_has ls 7 [(0, .ref (B + ed_oF 7 14 0)), (2, .int x2), (3, .int x3), (4, .int x4), (5, .int x5), (6, .int x6)] → W p l e (headSpec wsL_money rmL_money).room s m args below meth c H locs 0 0 (MQ below (ed_qI (ed_A B) (ed_P D cy B μ) r) args s 0 0 (ed_A B)) (F0 m 73 ls []) := by
  intro n
  induction n with
  | zero => intro x2 x3 x4 x5 x6 hf; rw [f_L_money_73] at hf; cases hf
  | succ n ih =>
    intro x2 x3 x4 x5 x6 hf H locs ls hM hS hl
    rw [f_L_money_73] at hf
    refine lv_iload S.1 S.2.1 dL_money_73 (lv_at hl 5 rfl) ?_
    refine lv_aload_n S.1 S.2.1 dL_money_75 rfl (lv_at hl 0 rfl) ?_
    refine lv_iconst (v := 1) S.1 S.2.1 dL_money_76 (by decide) ?_
    obtain ⟨r2, hq2, hf⟩ := ed_b_e hf
    refine ed_kI (ed_rV S hK hM (c_X8_count _ D cy B 1 μ r2 hq2) (cwV 1 S.2.2.2.2 (ed_gV ed_w3_115 ed_w3_116 ed_w3_117 ed_w1_1 ed_w3_118) rfl rfl rfl hd_X8_count ⟨Nat.le_of_ble_eq_true rfl, Nat.le_of_ble_eq_true rfl⟩) (ed_rc (q := (RX8, TX8, 6)) (r := (μ 7 14 0)) hK hM ed_v14 rfl (ed_e14 cy B 7 0 _) rfl) rfl hl.1 rfl (Nat.le_of_ble_eq_true rfl) dL_money_77 ⟨Nat.zero_le _, Nat.zero_le _⟩) hS (fun H locs hM hS => ?_)
    refine lv_icmp_ge (tgt := 123) S.1 S.2.1 dL_money_80 (by decide) (fun c3 => ?_) (fun c3 => ?_)
    · replace hf := ed_ip c3 hf
      refine lv_iconst (v := 0) S.1 S.2.1 dL_money_123 (by decide) ?_
      refine lv_istore (lv' := [(6, .int 0), (0, .ref (B + ed_oF 7 14 0)), (2, .int x2), (3, .int x3), (4, .int x4), (5, .int x5)]) S.1 S.2.1 dL_money_124 hl (by decide) rfl (fun ls hl => ?_)
      exact w_L_money_126 S hr hlocks hK μ r ed_N x2 x3 x4 x5 0 hf _ _ _ hM hS (lv_sub hl [1, 2, 3, 4, 5, 0] rfl)
    · replace hf := ed_in_ c3 hf
      refine lv_iload_n S.1 S.2.1 dL_money_83 rfl (lv_at hl 2 rfl) ?_
      refine lv_aload_n S.1 S.2.1 dL_money_84 rfl (lv_at hl 0 rfl) ?_
      refine lv_iload S.1 S.2.1 dL_money_85 (lv_at hl 5 rfl) ?_
      refine lv_bipush (v := 6) S.1 S.2.1 dL_money_87 (by decide) ?_
      obtain ⟨r10, hq10, hf⟩ := ed_b_e hf
      refine ed_kI (ed_rV S hK hM (c_X8_client _ D cy B x6 6 μ r10 hq10) (cwV 2 S.2.2.2.2 (ed_gV ed_w3_104 ed_w3_105 ed_w3_106 ed_w1_1 ed_w3_107) rfl rfl rfl hd_X8_client ⟨Nat.le_of_ble_eq_true rfl, Nat.le_of_ble_eq_true rfl⟩) (ed_rc (q := (RX8, TX8, 6)) (r := (μ 7 14 0)) hK hM ed_v14 rfl (ed_e14 cy B 7 0 _) rfl) rfl hl.1 rfl (Nat.le_of_ble_eq_true rfl) dL_money_89 ⟨Nat.zero_le _, Nat.zero_le _⟩) hS (fun H locs hM hS => ?_)
      refine lv_iadd S.1 S.2.1 dL_money_92 ?_
      refine lv_istore_n (lv' := [(3, .int (x3 + r10 : Int32)), (0, .ref (B + ed_oF 7 14 0)), (2, .int x2), (4, .int x4), (5, .int x5), (6, .int x6)]) S.1 S.2.1 dL_money_93 rfl hl (by decide) rfl (fun ls hl => ?_)
      refine lv_iload S.1 S.2.1 dL_money_94 (lv_at hl 4 rfl) ?_
      refine lv_if_eq (tgt := 114) S.1 S.2.1 dL_money_96 (by decide) (fun c11 => ?_) (fun c11 => ?_)
      · replace hf := ed_ip c11 hf
        refine lv_iconst (v := 0) S.1 S.2.1 dL_money_114 (by decide) ?_
        refine lv_istore (lv' := [(5, .int 0), (3, .int (x3 + r10 : Int32)), (0, .ref (B + ed_oF 7 14 0)), (2, .int x2), (4, .int x4), (6, .int x6)]) S.1 S.2.1 dL_money_115 hl (by decide) rfl (fun ls hl => ?_)
        refine lv_iinc (v := x6 + 1) (lv' := [(6, .int (x6 + 1)), (5, .int 0), (3, .int (x3 + r10 : Int32)), (0, .ref (B + ed_oF 7 14 0)), (2, .int x2), (4, .int x4)]) S.1 S.2.1 dL_money_117 hl (k := 5) rfl rfl (by decide) rfl (fun ls hl => ?_)
        refine lv_goto (tgt := 73) S.1 S.2.1 dL_money_120 (by decide) ?_
        exact ih x2 (x3 + r10 : Int32) x4 0 (x6 + 1) hf _ _ _ hM hS (lv_sub hl [3, 4, 2, 5, 1, 0] rfl)
      · replace hf := ed_in_ c11 hf
        refine lv_aload_n S.1 S.2.1 dL_money_99 rfl (lv_at hl 1 rfl) ?_
        refine lv_iload S.1 S.2.1 dL_money_100 (lv_at hl 5 rfl) ?_
        refine lv_bipush (v := 10) S.1 S.2.1 dL_money_102 (by decide) ?_
        obtain ⟨r12, hq12, hf⟩ := ed_b_e hf
        refine ed_kI (ed_rV S hK hM (c_X8_client _ D cy B x6 10 μ r12 hq12) (cwV 2 S.2.2.2.2 (ed_gV ed_w3_104 ed_w3_105 ed_w3_106 ed_w1_1 ed_w3_107) rfl rfl rfl hd_X8_client ⟨Nat.le_of_ble_eq_true rfl, Nat.le_of_ble_eq_true rfl⟩) (ed_rc (q := (RX8, TX8, 6)) (r := (μ 7 14 0)) hK hM ed_v14 rfl (ed_e14 cy B 7 0 _) rfl) rfl hl.1 rfl (Nat.le_of_ble_eq_true rfl) dL_money_104 ⟨Nat.zero_le _, Nat.zero_le _⟩) hS (fun H locs hM hS => ?_)
        refine lv_if_ne (tgt := 114) S.1 S.2.1 dL_money_107 (by decide) (fun c13 => ?_) (fun c13 => ?_)
        · replace hf := ed_in_ c13 hf
          refine lv_iconst (v := 0) S.1 S.2.1 dL_money_114 (by decide) ?_
          refine lv_istore (lv' := [(5, .int 0), (3, .int (x3 + r10 : Int32)), (0, .ref (B + ed_oF 7 14 0)), (2, .int x2), (4, .int x4), (6, .int x6)]) S.1 S.2.1 dL_money_115 hl (by decide) rfl (fun ls hl => ?_)
          refine lv_iinc (v := x6 + 1) (lv' := [(6, .int (x6 + 1)), (5, .int 0), (3, .int (x3 + r10 : Int32)), (0, .ref (B + ed_oF 7 14 0)), (2, .int x2), (4, .int x4)]) S.1 S.2.1 dL_money_117 hl (k := 5) rfl rfl (by decide) rfl (fun ls hl => ?_)
          refine lv_goto (tgt := 73) S.1 S.2.1 dL_money_120 (by decide) ?_
          exact ih x2 (x3 + r10 : Int32) x4 0 (x6 + 1) hf _ _ _ hM hS (lv_sub hl [3, 4, 2, 5, 1, 0] rfl)
        · replace hf := ed_ip c13 hf
          refine lv_iconst (v := 1) S.1 S.2.1 dL_money_110 (by decide) ?_
          refine lv_goto (tgt := 115) S.1 S.2.1 dL_money_111 (by decide) ?_
          refine lv_istore (lv' := [(5, .int 1), (3, .int (x3 + r10 : Int32)), (0, .ref (B + ed_oF 7 14 0)), (2, .int x2), (4, .int x4), (6, .int x6)]) S.1 S.2.1 dL_money_115 hl (by decide) rfl (fun ls hl => ?_)
          refine lv_iinc (v := x6 + 1) (lv' := [(6, .int (x6 + 1)), (5, .int 1), (3, .int (x3 + r10 : Int32)), (0, .ref (B + ed_oF 7 14 0)), (2, .int x2), (4, .int x4)]) S.1 S.2.1 dL_money_117 hl (k := 5) rfl rfl (by decide) rfl (fun ls hl => ?_)
          refine lv_goto (tgt := 73) S.1 S.2.1 dL_money_120 (by decide) ?_
          exact ih x2 (x3 + r10 : Int32) x4 1 (x6 + 1) hf _ _ _ hM hS (lv_sub hl [3, 4, 2, 5, 1, 0] rfl)
set_option maxHeartbeats 4000000 in
set_option maxRecDepth 100000 in
theorem w_L_money_13 {p : Program} {l : Launch} {e : Env} {s : State} {m : MethodId} {args : Array Value} {below : List Frame} {meth : Method} {c : Code} {D : va_G} {cy : Nat → ClassId} {B : Nat} (S : CallFix p m c cL_money 7 s args ed_ws RL) (hr : meth.sig.returnType = (some .boolean)) (hlocks : meth.locks = false) (hK : ed_K D cy s) (μ : ed_CM) (r : Int32) :
    ∀ (n : Nat), ∀ (x2 x3 x4 x5 x6 : Int32), f_L_money_13 μ n x2 x3 x4 x5 x6 = some r → ∀ (H : Heap) (locs : List Loc) (ls : Array Slot), ed_P D cy B μ H → va_S (ed_A B) s.heap H locs → lv_has ls 7 [(0, .ref (B + ed_oF 7 14 0)), (2, .int x2), (3, .int x3), (4, .int x4), (5, .int x5), (6, .int x6)] → W p l e (headSpec wsL_money rmL_money).room s m args below meth c H locs 0 0 (MQ below (ed_qI (ed_A B) (ed_P D cy B μ) r) args s 0 0 (ed_A B)) (F0 m 13 ls []) := by
  intro n
  induction n with
  | zero => intro x2 x3 x4 x5 x6 hf; rw [f_L_money_13] at hf; cases hf
  | succ n ih =>
    intro x2 x3 x4 x5 x6 hf H locs ls hM hS hl
    rw [f_L_money_13] at hf
    refine lv_iload S.1 S.2.1 dL_money_13 (lv_at hl 5 rfl) ?_
    refine lv_bipush (v := 10) S.1 S.2.1 dL_money_15 (by decide) ?_
    refine lv_icmp_ge (tgt := 70) S.1 S.2.1 dL_money_17 (by decide) (fun c1 => ?_) (fun c1 => ?_)
    · replace hf := ed_ip c1 hf
      refine lv_iconst (v := 0) S.1 S.2.1 dL_money_70 (by decide) ?_
      refine lv_istore (lv' := [(6, .int 0), (0, .ref (B + ed_oF 7 14 0)), (2, .int x2), (3, .int x3), (4, .int x4), (5, .int x5)]) S.1 S.2.1 dL_money_71 hl (by decide) rfl (fun ls hl => ?_)
      exact w_L_money_73 S hr hlocks hK μ r ed_N x2 x3 x4 x5 0 hf _ _ _ hM hS (lv_sub hl [1, 2, 3, 4, 5, 0] rfl)
    · replace hf := ed_in_ c1 hf
      refine lv_iload_n S.1 S.2.1 dL_money_20 rfl (lv_at hl 1 rfl) ?_
      refine lv_aload_n S.1 S.2.1 dL_money_21 rfl (lv_at hl 0 rfl) ?_
      refine lv_iload S.1 S.2.1 dL_money_22 (lv_at hl 5 rfl) ?_
      refine lv_iconst (v := 0) S.1 S.2.1 dL_money_24 (by decide) ?_
      obtain ⟨r14, hq14, hf⟩ := ed_b_e hf
      refine ed_kI (ed_rV S hK hM (c_X8_person _ D cy B x6 0 μ r14 hq14) (cwV 2 S.2.2.2.2 (ed_gV ed_w3_185 ed_w3_186 ed_w3_187 ed_w1_1 ed_w3_188) rfl rfl rfl hd_X8_person ⟨Nat.le_of_ble_eq_true rfl, Nat.le_of_ble_eq_true rfl⟩) (ed_rc (q := (RX8, TX8, 6)) (r := (μ 7 14 0)) hK hM ed_v14 rfl (ed_e14 cy B 7 0 _) rfl) rfl hl.1 rfl (Nat.le_of_ble_eq_true rfl) dL_money_25 ⟨Nat.zero_le _, Nat.zero_le _⟩) hS (fun H locs hM hS => ?_)
      refine lv_iadd S.1 S.2.1 dL_money_28 ?_
      refine lv_istore_n (lv' := [(2, .int (x2 + r14 : Int32)), (0, .ref (B + ed_oF 7 14 0)), (3, .int x3), (4, .int x4), (5, .int x5), (6, .int x6)]) S.1 S.2.1 dL_money_29 rfl hl (by decide) rfl (fun ls hl => ?_)
      refine lv_iload S.1 S.2.1 dL_money_30 (lv_at hl 3 rfl) ?_
      refine lv_aload_n S.1 S.2.1 dL_money_32 rfl (lv_at hl 1 rfl) ?_
      refine lv_iload S.1 S.2.1 dL_money_33 (lv_at hl 5 rfl) ?_
      refine lv_iconst (v := 2) S.1 S.2.1 dL_money_35 (by decide) ?_
      obtain ⟨r15, hq15, hf⟩ := ed_b_e hf
      refine ed_kI (ed_rV S hK hM (c_X8_person _ D cy B x6 2 μ r15 hq15) (cwV 2 S.2.2.2.2 (ed_gV ed_w3_185 ed_w3_186 ed_w3_187 ed_w1_1 ed_w3_188) rfl rfl rfl hd_X8_person ⟨Nat.le_of_ble_eq_true rfl, Nat.le_of_ble_eq_true rfl⟩) (ed_rc (q := (RX8, TX8, 6)) (r := (μ 7 14 0)) hK hM ed_v14 rfl (ed_e14 cy B 7 0 _) rfl) rfl hl.1 rfl (Nat.le_of_ble_eq_true rfl) dL_money_36 ⟨Nat.zero_le _, Nat.zero_le _⟩) hS (fun H locs hM hS => ?_)
      refine lv_iadd S.1 S.2.1 dL_money_39 ?_
      refine lv_istore (lv' := [(4, .int (x4 + r15 : Int32)), (2, .int (x2 + r14 : Int32)), (0, .ref (B + ed_oF 7 14 0)), (3, .int x3), (5, .int x5), (6, .int x6)]) S.1 S.2.1 dL_money_40 hl (by decide) rfl (fun ls hl => ?_)
      refine lv_iload S.1 S.2.1 dL_money_42 (lv_at hl 4 rfl) ?_
      refine lv_if_eq (tgt := 61) S.1 S.2.1 dL_money_44 (by decide) (fun c16 => ?_) (fun c16 => ?_)
      · replace hf := ed_ip c16 hf
        refine lv_iconst (v := 0) S.1 S.2.1 dL_money_61 (by decide) ?_
        refine lv_istore (lv' := [(5, .int 0), (4, .int (x4 + r15 : Int32)), (2, .int (x2 + r14 : Int32)), (0, .ref (B + ed_oF 7 14 0)), (3, .int x3), (6, .int x6)]) S.1 S.2.1 dL_money_62 hl (by decide) rfl (fun ls hl => ?_)
        refine lv_iinc (v := x6 + 1) (lv' := [(6, .int (x6 + 1)), (5, .int 0), (4, .int (x4 + r15 : Int32)), (2, .int (x2 + r14 : Int32)), (0, .ref (B + ed_oF 7 14 0)), (3, .int x3)]) S.1 S.2.1 dL_money_64 hl (k := 5) rfl rfl (by decide) rfl (fun ls hl => ?_)
        refine lv_goto (tgt := 13) S.1 S.2.1 dL_money_67 (by decide) ?_
        exact ih (x2 + r14 : Int32) x3 (x4 + r15 : Int32) 0 (x6 + 1) hf _ _ _ hM hS (lv_sub hl [4, 3, 5, 2, 1, 0] rfl)
      · replace hf := ed_in_ c16 hf
        refine lv_aload_n S.1 S.2.1 dL_money_47 rfl (lv_at hl 2 rfl) ?_
        refine lv_iload S.1 S.2.1 dL_money_48 (lv_at hl 5 rfl) ?_
        refine lv_iconst (v := 1) S.1 S.2.1 dL_money_50 (by decide) ?_
        obtain ⟨r17, hq17, hf⟩ := ed_b_e hf
        refine ed_kI (ed_rV S hK hM (c_X8_person _ D cy B x6 1 μ r17 hq17) (cwV 2 S.2.2.2.2 (ed_gV ed_w3_185 ed_w3_186 ed_w3_187 ed_w1_1 ed_w3_188) rfl rfl rfl hd_X8_person ⟨Nat.le_of_ble_eq_true rfl, Nat.le_of_ble_eq_true rfl⟩) (ed_rc (q := (RX8, TX8, 6)) (r := (μ 7 14 0)) hK hM ed_v14 rfl (ed_e14 cy B 7 0 _) rfl) rfl hl.1 rfl (Nat.le_of_ble_eq_true rfl) dL_money_51 ⟨Nat.zero_le _, Nat.zero_le _⟩) hS (fun H locs hM hS => ?_)
        refine lv_if_ne (tgt := 61) S.1 S.2.1 dL_money_54 (by decide) (fun c18 => ?_) (fun c18 => ?_)
        · replace hf := ed_in_ c18 hf
          refine lv_iconst (v := 0) S.1 S.2.1 dL_money_61 (by decide) ?_
          refine lv_istore (lv' := [(5, .int 0), (4, .int (x4 + r15 : Int32)), (2, .int (x2 + r14 : Int32)), (0, .ref (B + ed_oF 7 14 0)), (3, .int x3), (6, .int x6)]) S.1 S.2.1 dL_money_62 hl (by decide) rfl (fun ls hl => ?_)
          refine lv_iinc (v := x6 + 1) (lv' := [(6, .int (x6 + 1)), (5, .int 0), (4, .int (x4 + r15 : Int32)), (2, .int (x2 + r14 : Int32)), (0, .ref (B + ed_oF 7 14 0)), (3, .int x3)]) S.1 S.2.1 dL_money_64 hl (k := 5) rfl rfl (by decide) rfl (fun ls hl => ?_)
          refine lv_goto (tgt := 13) S.1 S.2.1 dL_money_67 (by decide) ?_
          exact ih (x2 + r14 : Int32) x3 (x4 + r15 : Int32) 0 (x6 + 1) hf _ _ _ hM hS (lv_sub hl [4, 3, 5, 2, 1, 0] rfl)
        · replace hf := ed_ip c18 hf
          refine lv_iconst (v := 1) S.1 S.2.1 dL_money_57 (by decide) ?_
          refine lv_goto (tgt := 62) S.1 S.2.1 dL_money_58 (by decide) ?_
          refine lv_istore (lv' := [(5, .int 1), (4, .int (x4 + r15 : Int32)), (2, .int (x2 + r14 : Int32)), (0, .ref (B + ed_oF 7 14 0)), (3, .int x3), (6, .int x6)]) S.1 S.2.1 dL_money_62 hl (by decide) rfl (fun ls hl => ?_)
          refine lv_iinc (v := x6 + 1) (lv' := [(6, .int (x6 + 1)), (5, .int 1), (4, .int (x4 + r15 : Int32)), (2, .int (x2 + r14 : Int32)), (0, .ref (B + ed_oF 7 14 0)), (3, .int x3)]) S.1 S.2.1 dL_money_64 hl (k := 5) rfl rfl (by decide) rfl (fun ls hl => ?_)
          refine lv_goto (tgt := 13) S.1 S.2.1 dL_money_67 (by decide) ?_
          exact ih (x2 + r14 : Int32) x3 (x4 + r15 : Int32) 1 (x6 + 1) hf _ _ _ hM hS (lv_sub hl [4, 3, 5, 2, 1, 0] rfl)
set_option maxHeartbeats 4000000 in
set_option maxRecDepth 100000 in
theorem c_L_money (l : Launch) (D : va_G) (cy : Nat → ClassId) (B : Nat) (x1 : Int32) (μ : ed_CM) (r : Int32) (hf : f_L_money x1 μ = some r) :
    Met l yL_money wsL_money rmL_money (ed_pC D cy (ed_P D cy B μ) [.ref (B + ed_oF 7 14 0), .int x1]) (ed_qI (ed_A B) (ed_P D cy B μ) r) 0 0 (ed_A B) := by
  refine Met.ofW (cc := cL_money) (maxL := 7) (ret := (some .boolean)) (by decide) rfl ?_
  intro p e s m args below meth c s₁ B0 hml hv
  obtain ⟨rfl, hM, hK⟩ := hv
  have S : CallFix p m c cL_money 7 s _ ed_ws RL := ⟨B0.exec, B0.bytes, hml, findClass_of_methodNamed B0.named, fun w hw => atoms_spec (ws := wsL_money) B0.pre w (List.mem_cons_of_mem _ hw)⟩
  have hr := B0.returns
  have hlocks := B0.notSynchronized
  have hS : va_S (ed_A B) s.heap s.heap [] := va_S.rf
  have hl := lv_entry ([.ref (B + ed_oF 7 14 0), .int x1]) (n := 7) (Nat.le_of_ble_eq_true rfl)
  rw [lg_entry_eq]
  generalize (lg_sl ([.ref (B + ed_oF 7 14 0), .int x1]) ++ List.replicate (7 - (lg_sl ([.ref (B + ed_oF 7 14 0), .int x1])).length) Slot.unset).toArray = ls at hl ⊢
  have hl : lv_has ls 7 [(0, .ref (B + ed_oF 7 14 0)), (1, .int x1)] := hl
  unfold f_L_money at hf
  refine lv_iconst (v := 0) S.1 S.2.1 dL_money_0 (by decide) ?_
  refine lv_istore_n (lv' := [(2, .int 0), (0, .ref (B + ed_oF 7 14 0)), (1, .int x1)]) S.1 S.2.1 dL_money_1 rfl hl (by decide) rfl (fun ls hl => ?_)
  refine lv_iload_n S.1 S.2.1 dL_money_2 rfl (lv_at hl 2 rfl) ?_
  refine lv_istore_n (lv' := [(3, .int x1), (2, .int 0), (0, .ref (B + ed_oF 7 14 0)), (1, .int x1)]) S.1 S.2.1 dL_money_3 rfl hl (by decide) rfl (fun ls hl => ?_)
  refine lv_iconst (v := 0) S.1 S.2.1 dL_money_4 (by decide) ?_
  refine lv_istore (lv' := [(4, .int 0), (3, .int x1), (2, .int 0), (0, .ref (B + ed_oF 7 14 0)), (1, .int x1)]) S.1 S.2.1 dL_money_5 hl (by decide) rfl (fun ls hl => ?_)
  refine lv_iconst (v := 1) S.1 S.2.1 dL_money_7 (by decide) ?_
  refine lv_istore (lv' := [(5, .int 1), (4, .int 0), (3, .int x1), (2, .int 0), (0, .ref (B + ed_oF 7 14 0)), (1, .int x1)]) S.1 S.2.1 dL_money_8 hl (by decide) rfl (fun ls hl => ?_)
  refine lv_iconst (v := 0) S.1 S.2.1 dL_money_10 (by decide) ?_
  refine lv_istore (lv' := [(6, .int 0), (5, .int 1), (4, .int 0), (3, .int x1), (2, .int 0), (0, .ref (B + ed_oF 7 14 0)), (1, .int x1)]) S.1 S.2.1 dL_money_11 hl (by decide) rfl (fun ls hl => ?_)
  exact w_L_money_13 S hr hlocks hK μ r ed_N 0 x1 0 1 0 hf _ _ _ hM hS (lv_sub hl [5, 4, 3, 2, 1, 0] rfl)
set_option maxHeartbeats 4000000 in
set_option maxRecDepth 100000 in
theorem w_L_reads_199 {p : Program} {l : Launch} {e : Env} {s : State} {m : MethodId} {args : Array Value} {below : List Frame} {meth : Method} {c : Code} {D : va_G} {cy : Nat → ClassId} {B : Nat} (S : CallFix p m c cL_reads 6 s args ed_ws RL) (hr : meth.sig.returnType = (some .boolean)) (hlocks : meth.locks = false) (hK : ed_K D cy s) (r : Int32) (μ' : ed_CM) :
    ∀ (x1 x2 x3 x4 : Int32) (μ : ed_CM), f_L_reads_199  x1 x2 x3 x4 μ = some (r, μ') → ∀ (H : Heap) (locs : List Loc) (ls : Array Slot), ed_P D cy B μ H → va_S (ed_A B) s.heap H locs → lv_has ls 6 [(0, .ref (B + ed_oF 7 14 0)), (1, .int x1), (2, .int x2), (3, .int x3), (4, .int x4)] → W p l e (headSpec wsL_reads rmL_reads).room s m args below meth c H locs 0 0 (MQ below (ed_qI (ed_A B) (ed_P D cy B μ') r) args s 0 0 (ed_A B)) (F0 m 199 ls []) := by
  intro x1 x2 x3 x4 μ hf H locs ls hM hS hl
  unfold f_L_reads_199 at hf
  refine lv_aload_n S.1 S.2.1 dL_reads_199 rfl (lv_at hl 0 rfl) ?_
  refine lv_iconst (v := 2) S.1 S.2.1 dL_reads_200 (by decide) ?_
  obtain ⟨r7, hq7, hf⟩ := ed_b_e hf
  refine ed_kI (ed_rV S hK hM (c_X8_count _ D cy B 2 μ r7 hq7) (cwV 1 S.2.2.2.2 (ed_gV ed_w3_115 ed_w3_116 ed_w3_117 ed_w1_1 ed_w3_118) rfl rfl rfl hd_X8_count ⟨Nat.le_of_ble_eq_true rfl, Nat.le_of_ble_eq_true rfl⟩) (ed_rc (q := (RX8, TX8, 6)) (r := (μ 7 14 0)) hK hM ed_v14 rfl (ed_e14 cy B 7 0 _) rfl) rfl hl.1 rfl (Nat.le_of_ble_eq_true rfl) dL_reads_201 ⟨Nat.zero_le _, Nat.zero_le _⟩) hS (fun H locs hM hS => ?_)
  refine lv_istore (lv' := [(5, .int r7), (0, .ref (B + ed_oF 7 14 0)), (1, .int x1), (2, .int x2), (3, .int x3), (4, .int x4)]) S.1 S.2.1 dL_reads_204 hl (by decide) rfl (fun ls hl => ?_)
  refine lv_iload_n S.1 S.2.1 dL_reads_206 rfl (lv_at hl 3 rfl) ?_
  refine lv_if_eq (tgt := 306) S.1 S.2.1 dL_reads_207 (by decide) (fun c8 => ?_) (fun c8 => ?_)
  · replace hf := ed_ip c8 hf
    refine lv_iconst (v := 0) S.1 S.2.1 dL_reads_306 (by decide) ?_
    obtain ⟨rfl, rfl⟩ := ed_so hf
    exact ed_rz S hr hlocks rfl hM hS dL_reads_307
  · replace hf := ed_in_ c8 hf
    refine lv_iload S.1 S.2.1 dL_reads_210 (lv_at hl 0 rfl) ?_
    refine lv_bipush (v := 20) S.1 S.2.1 dL_reads_212 (by decide) ?_
    refine lv_icmp_ne (tgt := 229) S.1 S.2.1 dL_reads_214 (by decide) (fun c9 => ?_) (fun c9 => ?_)
    · replace hf := ed_in_ c9 hf
      refine lv_aload_n S.1 S.2.1 dL_reads_229 rfl (lv_at hl 1 rfl) ?_
      obtain ⟨r10, μ10, hq10, hf⟩ := ed_b2_e hf
      refine ed_kI (ed_rV S hK hM (c_X8_readStory _ D cy B μ r10 μ10 hq10) (cwV 0 S.2.2.2.2 (ed_gV ed_w2_185 ed_w2_186 ed_w2_187 ed_w1_1 ed_w2_188) rfl rfl rfl hd_X8_readStory ⟨Nat.le_of_ble_eq_true rfl, Nat.le_of_ble_eq_true rfl⟩) (ed_rc (q := (RX8, TX8, 6)) (r := (μ 7 14 0)) hK hM ed_v14 rfl (ed_e14 cy B 7 0 _) rfl) rfl hl.1 rfl (Nat.le_of_ble_eq_true rfl) dL_reads_230 ⟨Nat.zero_le _, Nat.zero_le _⟩) hS (fun H locs hM hS => ?_)
      refine lv_iload S.1 S.2.1 dL_reads_233 (lv_at hl 0 rfl) ?_
      refine lv_icmp_ne (tgt := 306) S.1 S.2.1 dL_reads_235 (by decide) (fun c11 => ?_) (fun c11 => ?_)
      · replace hf := ed_in_ c11 hf
        refine lv_iconst (v := 0) S.1 S.2.1 dL_reads_306 (by decide) ?_
        obtain ⟨rfl, rfl⟩ := ed_so hf
        exact ed_rz S hr hlocks rfl hM hS dL_reads_307
      · replace hf := ed_ip c11 hf
        refine lv_aload_n S.1 S.2.1 dL_reads_238 rfl (lv_at hl 1 rfl) ?_
        refine lv_iload S.1 S.2.1 dL_reads_239 (lv_at hl 0 rfl) ?_
        refine lv_iconst (v := 0) S.1 S.2.1 dL_reads_241 (by decide) ?_
        obtain ⟨r12, hq12, hf⟩ := ed_b_e hf
        refine ed_kI (ed_rV S hK hM (c_X8_story _ D cy B r7 0 μ10 r12 hq12) (cwV 2 S.2.2.2.2 (ed_gV ed_w3_169 ed_w3_170 ed_w3_171 ed_w1_1 ed_w3_172) rfl rfl rfl hd_X8_story ⟨Nat.le_of_ble_eq_true rfl, Nat.le_of_ble_eq_true rfl⟩) (ed_rc (q := (RX8, TX8, 6)) (r := (μ10 7 14 0)) hK hM ed_v14 rfl (ed_e14 cy B 7 0 _) rfl) rfl hl.1 rfl (Nat.le_of_ble_eq_true rfl) dL_reads_242 ⟨Nat.zero_le _, Nat.zero_le _⟩) hS (fun H locs hM hS => ?_)
        refine lv_iload_n S.1 S.2.1 dL_reads_245 rfl (lv_at hl 2 rfl) ?_
        refine lv_iconst (v := 3) S.1 S.2.1 dL_reads_246 (by decide) ?_
        refine lv_irem S.1 S.2.1 dL_reads_247 (by decide) ?_
        refine lv_icmp_ne (tgt := 306) S.1 S.2.1 dL_reads_248 (by decide) (fun c13 => ?_) (fun c13 => ?_)
        · replace hf := ed_in_ c13 hf
          refine lv_iconst (v := 0) S.1 S.2.1 dL_reads_306 (by decide) ?_
          obtain ⟨rfl, rfl⟩ := ed_so hf
          exact ed_rz S hr hlocks rfl hM hS dL_reads_307
        · replace hf := ed_ip c13 hf
          refine lv_aload_n S.1 S.2.1 dL_reads_251 rfl (lv_at hl 1 rfl) ?_
          refine lv_iload S.1 S.2.1 dL_reads_252 (lv_at hl 0 rfl) ?_
          refine lv_iconst (v := 2) S.1 S.2.1 dL_reads_254 (by decide) ?_
          obtain ⟨r14, hq14, hf⟩ := ed_b_e hf
          refine ed_kI (ed_rV S hK hM (c_X8_story _ D cy B r7 2 μ10 r14 hq14) (cwV 2 S.2.2.2.2 (ed_gV ed_w3_169 ed_w3_170 ed_w3_171 ed_w1_1 ed_w3_172) rfl rfl rfl hd_X8_story ⟨Nat.le_of_ble_eq_true rfl, Nat.le_of_ble_eq_true rfl⟩) (ed_rc (q := (RX8, TX8, 6)) (r := (μ10 7 14 0)) hK hM ed_v14 rfl (ed_e14 cy B 7 0 _) rfl) rfl hl.1 rfl (Nat.le_of_ble_eq_true rfl) dL_reads_255 ⟨Nat.zero_le _, Nat.zero_le _⟩) hS (fun H locs hM hS => ?_)
          refine lv_iload S.1 S.2.1 dL_reads_258 (lv_at hl 5 rfl) ?_
          refine lv_icmp_ne (tgt := 306) S.1 S.2.1 dL_reads_260 (by decide) (fun c15 => ?_) (fun c15 => ?_)
          · replace hf := ed_in_ c15 hf
            refine lv_iconst (v := 0) S.1 S.2.1 dL_reads_306 (by decide) ?_
            obtain ⟨rfl, rfl⟩ := ed_so hf
            exact ed_rz S hr hlocks rfl hM hS dL_reads_307
          · replace hf := ed_ip c15 hf
            refine lv_aload_n S.1 S.2.1 dL_reads_263 rfl (lv_at hl 1 rfl) ?_
            refine lv_iload S.1 S.2.1 dL_reads_264 (lv_at hl 0 rfl) ?_
            refine lv_iconst (v := 0) S.1 S.2.1 dL_reads_266 (by decide) ?_
            obtain ⟨r16, hq16, hf⟩ := ed_b_e hf
            refine ed_kI (ed_rV S hK hM (c_X8_byline _ D cy B r7 0 μ10 r16 hq16) (cwV 2 S.2.2.2.2 (ed_gV ed_w3_214 ed_w3_215 ed_w3_216 ed_w1_1 ed_w3_217) rfl rfl rfl hd_X8_byline ⟨Nat.le_of_ble_eq_true rfl, Nat.le_of_ble_eq_true rfl⟩) (ed_rc (q := (RX8, TX8, 6)) (r := (μ10 7 14 0)) hK hM ed_v14 rfl (ed_e14 cy B 7 0 _) rfl) rfl hl.1 rfl (Nat.le_of_ble_eq_true rfl) dL_reads_267 ⟨Nat.zero_le _, Nat.zero_le _⟩) hS (fun H locs hM hS => ?_)
            refine lv_iload_n S.1 S.2.1 dL_reads_270 rfl (lv_at hl 4 rfl) ?_
            refine lv_icmp_ne (tgt := 306) S.1 S.2.1 dL_reads_271 (by decide) (fun c17 => ?_) (fun c17 => ?_)
            · replace hf := ed_in_ c17 hf
              refine lv_iconst (v := 0) S.1 S.2.1 dL_reads_306 (by decide) ?_
              obtain ⟨rfl, rfl⟩ := ed_so hf
              exact ed_rz S hr hlocks rfl hM hS dL_reads_307
            · replace hf := ed_ip c17 hf
              refine lv_aload_n S.1 S.2.1 dL_reads_274 rfl (lv_at hl 1 rfl) ?_
              refine lv_iload S.1 S.2.1 dL_reads_275 (lv_at hl 0 rfl) ?_
              refine lv_iconst (v := 1) S.1 S.2.1 dL_reads_277 (by decide) ?_
              obtain ⟨r18, hq18, hf⟩ := ed_b_e hf
              refine ed_kI (ed_rV S hK hM (c_X8_story _ D cy B r7 1 μ10 r18 hq18) (cwV 2 S.2.2.2.2 (ed_gV ed_w3_169 ed_w3_170 ed_w3_171 ed_w1_1 ed_w3_172) rfl rfl rfl hd_X8_story ⟨Nat.le_of_ble_eq_true rfl, Nat.le_of_ble_eq_true rfl⟩) (ed_rc (q := (RX8, TX8, 6)) (r := (μ10 7 14 0)) hK hM ed_v14 rfl (ed_e14 cy B 7 0 _) rfl) rfl hl.1 rfl (Nat.le_of_ble_eq_true rfl) dL_reads_278 ⟨Nat.zero_le _, Nat.zero_le _⟩) hS (fun H locs hM hS => ?_)
              refine lv_iconst (v := 1) S.1 S.2.1 dL_reads_281 (by decide) ?_
              refine lv_iload_n S.1 S.2.1 dL_reads_282 rfl (lv_at hl 2 rfl) ?_
              refine lv_bipush (v := 6) S.1 S.2.1 dL_reads_283 (by decide) ?_
              refine lv_ishr S.1 S.2.1 dL_reads_285 ?_
              refine lv_iconst (v := 1) S.1 S.2.1 dL_reads_286 (by decide) ?_
              refine lv_iand S.1 S.2.1 dL_reads_287 ?_
              refine lv_iadd S.1 S.2.1 dL_reads_288 ?_
              refine lv_icmp_ne (tgt := 306) S.1 S.2.1 dL_reads_289 (by decide) (fun c19 => ?_) (fun c19 => ?_)
              · replace hf := ed_in_ c19 hf
                refine lv_iconst (v := 0) S.1 S.2.1 dL_reads_306 (by decide) ?_
                obtain ⟨rfl, rfl⟩ := ed_so hf
                exact ed_rz S hr hlocks rfl hM hS dL_reads_307
              · replace hf := ed_ip c19 hf
                refine lv_aload_n S.1 S.2.1 dL_reads_292 rfl (lv_at hl 1 rfl) ?_
                refine lv_iload S.1 S.2.1 dL_reads_293 (lv_at hl 0 rfl) ?_
                refine lv_iconst (v := 3) S.1 S.2.1 dL_reads_295 (by decide) ?_
                obtain ⟨r20, hq20, hf⟩ := ed_b_e hf
                refine ed_kI (ed_rV S hK hM (c_X8_story _ D cy B r7 3 μ10 r20 hq20) (cwV 2 S.2.2.2.2 (ed_gV ed_w3_169 ed_w3_170 ed_w3_171 ed_w1_1 ed_w3_172) rfl rfl rfl hd_X8_story ⟨Nat.le_of_ble_eq_true rfl, Nat.le_of_ble_eq_true rfl⟩) (ed_rc (q := (RX8, TX8, 6)) (r := (μ10 7 14 0)) hK hM ed_v14 rfl (ed_e14 cy B 7 0 _) rfl) rfl hl.1 rfl (Nat.le_of_ble_eq_true rfl) dL_reads_296 ⟨Nat.zero_le _, Nat.zero_le _⟩) hS (fun H locs hM hS => ?_)
                refine lv_if_ne (tgt := 306) S.1 S.2.1 dL_reads_299 (by decide) (fun c21 => ?_) (fun c21 => ?_)
                · replace hf := ed_in_ c21 hf
                  refine lv_iconst (v := 0) S.1 S.2.1 dL_reads_306 (by decide) ?_
                  obtain ⟨rfl, rfl⟩ := ed_so hf
                  exact ed_rz S hr hlocks rfl hM hS dL_reads_307
                · replace hf := ed_ip c21 hf
                  refine lv_iconst (v := 1) S.1 S.2.1 dL_reads_302 (by decide) ?_
                  refine lv_goto (tgt := 307) S.1 S.2.1 dL_reads_303 (by decide) ?_
                  obtain ⟨rfl, rfl⟩ := ed_so hf
                  exact ed_rz S hr hlocks rfl hM hS dL_reads_307
    · replace hf := ed_ip c9 hf
      refine lv_aload_n S.1 S.2.1 dL_reads_217 rfl (lv_at hl 1 rfl) ?_
      obtain ⟨r22, μ22, hq22, hf⟩ := ed_b2_e hf
      refine ed_kI (ed_rV S hK hM (c_X8_readStory _ D cy B μ r22 μ22 hq22) (cwV 0 S.2.2.2.2 (ed_gV ed_w2_185 ed_w2_186 ed_w2_187 ed_w1_1 ed_w2_188) rfl rfl rfl hd_X8_readStory ⟨Nat.le_of_ble_eq_true rfl, Nat.le_of_ble_eq_true rfl⟩) (ed_rc (q := (RX8, TX8, 6)) (r := (μ 7 14 0)) hK hM ed_v14 rfl (ed_e14 cy B 7 0 _) rfl) rfl hl.1 rfl (Nat.le_of_ble_eq_true rfl) dL_reads_218 ⟨Nat.zero_le _, Nat.zero_le _⟩) hS (fun H locs hM hS => ?_)
      refine lv_bipush (v := (-3)) S.1 S.2.1 dL_reads_221 (by decide) ?_
      refine lv_icmp_ne (tgt := 306) S.1 S.2.1 dL_reads_223 (by decide) (fun c23 => ?_) (fun c23 => ?_)
      · replace hf := ed_in_ c23 hf
        refine lv_iconst (v := 0) S.1 S.2.1 dL_reads_306 (by decide) ?_
        obtain ⟨rfl, rfl⟩ := ed_so hf
        exact ed_rz S hr hlocks rfl hM hS dL_reads_307
      · replace hf := ed_ip c23 hf
        refine lv_goto (tgt := 302) S.1 S.2.1 dL_reads_226 (by decide) ?_
        refine lv_iconst (v := 1) S.1 S.2.1 dL_reads_302 (by decide) ?_
        refine lv_goto (tgt := 307) S.1 S.2.1 dL_reads_303 (by decide) ?_
        obtain ⟨rfl, rfl⟩ := ed_so hf
        exact ed_rz S hr hlocks rfl hM hS dL_reads_307
set_option maxHeartbeats 4000000 in
set_option maxRecDepth 100000 in
theorem w_L_reads_159 {p : Program} {l : Launch} {e : Env} {s : State} {m : MethodId} {args : Array Value} {below : List Frame} {meth : Method} {c : Code} {D : va_G} {cy : Nat → ClassId} {B : Nat} (S : CallFix p m c cL_reads 6 s args ed_ws RL) (hr : meth.sig.returnType = (some .boolean)) (hlocks : meth.locks = false) (hK : ed_K D cy s) (r : Int32) (μ' : ed_CM) :
    ∀ (x1 x3 x4 : Int32) (μ : ed_CM), f_L_reads_159  x1 x3 x4 μ = some (r, μ') → ∀ (H : Heap) (locs : List Loc) (ls : Array Slot), ed_P D cy B μ H → va_S (ed_A B) s.heap H locs → lv_has ls 6 [(0, .ref (B + ed_oF 7 14 0)), (1, .int x1), (3, .int x3), (4, .int x4)] → W p l e (headSpec wsL_reads rmL_reads).room s m args below meth c H locs 0 0 (MQ below (ed_qI (ed_A B) (ed_P D cy B μ') r) args s 0 0 (ed_A B)) (F0 m 159 ls []) := by
  intro x1 x3 x4 μ hf H locs ls hM hS hl
  unfold f_L_reads_159 at hf
  refine lv_aload_n S.1 S.2.1 dL_reads_159 rfl (lv_at hl 0 rfl) ?_
  refine lv_bipush (v := 48) S.1 S.2.1 dL_reads_160 (by decide) ?_
  refine lv_iload S.1 S.2.1 dL_reads_162 (lv_at hl 3 rfl) ?_
  refine lv_bipush (v := 10) S.1 S.2.1 dL_reads_164 (by decide) ?_
  refine lv_irem S.1 S.2.1 dL_reads_166 (by decide) ?_
  refine lv_iadd S.1 S.2.1 dL_reads_167 ?_
  refine lv_i2c S.1 S.2.1 dL_reads_168 rfl ?_
  obtain ⟨r29, μ29, hq29, hf⟩ := ed_b2_e hf
  refine ed_kI (ed_rV S hK hM (c_X8_type _ D cy B ((((48 : Int32) + (x4 - x4 / 10 * 10 : Int32) : Int32).toUInt32 % 65536).toInt32) μ r29 μ29 hq29) (cwV 1 S.2.2.2.2 (ed_gV ed_w3_206 ed_w3_207 ed_w3_208 ed_w1_1 ed_w3_209) rfl rfl rfl hd_X8_type ⟨Nat.le_of_ble_eq_true rfl, Nat.le_of_ble_eq_true rfl⟩) (ed_rc (q := (RX8, TX8, 6)) (r := (μ 7 14 0)) hK hM ed_v14 rfl (ed_e14 cy B 7 0 _) rfl) rfl hl.1 rfl (Nat.le_of_ble_eq_true rfl) dL_reads_169 ⟨Nat.zero_le _, Nat.zero_le _⟩) hS (fun H locs hM hS => ?_)
  refine lv_if_le (tgt := 197) S.1 S.2.1 dL_reads_172 (by decide) (fun c30 => ?_) (fun c30 => ?_)
  · replace hf := ed_ip c30 hf
    refine lv_iconst (v := 0) S.1 S.2.1 dL_reads_197 (by decide) ?_
    refine lv_istore_n (lv' := [(2, .int 0), (0, .ref (B + ed_oF 7 14 0)), (1, .int x1), (3, .int x3), (4, .int x4)]) S.1 S.2.1 dL_reads_198 rfl hl (by decide) rfl (fun ls hl => ?_)
    exact w_L_reads_199 S hr hlocks hK r μ' x1 0 x3 x4 μ29 hf _ _ _ hM hS (lv_sub hl [1, 2, 0, 3, 4] rfl)
  · replace hf := ed_in_ c30 hf
    refine lv_aload_n S.1 S.2.1 dL_reads_175 rfl (lv_at hl 0 rfl) ?_
    refine lv_bipush (v := 32) S.1 S.2.1 dL_reads_176 (by decide) ?_
    obtain ⟨r31, μ31, hq31, hf⟩ := ed_b2_e hf
    refine ed_kI (ed_rV S hK hM (c_X8_type _ D cy B 32 μ29 r31 μ31 hq31) (cwV 1 S.2.2.2.2 (ed_gV ed_w3_206 ed_w3_207 ed_w3_208 ed_w1_1 ed_w3_209) rfl rfl rfl hd_X8_type ⟨Nat.le_of_ble_eq_true rfl, Nat.le_of_ble_eq_true rfl⟩) (ed_rc (q := (RX8, TX8, 6)) (r := (μ29 7 14 0)) hK hM ed_v14 rfl (ed_e14 cy B 7 0 _) rfl) rfl hl.1 rfl (Nat.le_of_ble_eq_true rfl) dL_reads_178 ⟨Nat.zero_le _, Nat.zero_le _⟩) hS (fun H locs hM hS => ?_)
    refine lv_if_le (tgt := 197) S.1 S.2.1 dL_reads_181 (by decide) (fun c32 => ?_) (fun c32 => ?_)
    · replace hf := ed_ip c32 hf
      refine lv_iconst (v := 0) S.1 S.2.1 dL_reads_197 (by decide) ?_
      refine lv_istore_n (lv' := [(2, .int 0), (0, .ref (B + ed_oF 7 14 0)), (1, .int x1), (3, .int x3), (4, .int x4)]) S.1 S.2.1 dL_reads_198 rfl hl (by decide) rfl (fun ls hl => ?_)
      exact w_L_reads_199 S hr hlocks hK r μ' x1 0 x3 x4 μ31 hf _ _ _ hM hS (lv_sub hl [1, 2, 0, 3, 4] rfl)
    · replace hf := ed_in_ c32 hf
      refine lv_aload_n S.1 S.2.1 dL_reads_184 rfl (lv_at hl 0 rfl) ?_
      refine lv_bipush (v := 110) S.1 S.2.1 dL_reads_185 (by decide) ?_
      obtain ⟨r33, μ33, hq33, hf⟩ := ed_b2_e hf
      refine ed_kI (ed_rV S hK hM (c_X8_type _ D cy B 110 μ31 r33 μ33 hq33) (cwV 1 S.2.2.2.2 (ed_gV ed_w3_206 ed_w3_207 ed_w3_208 ed_w1_1 ed_w3_209) rfl rfl rfl hd_X8_type ⟨Nat.le_of_ble_eq_true rfl, Nat.le_of_ble_eq_true rfl⟩) (ed_rc (q := (RX8, TX8, 6)) (r := (μ31 7 14 0)) hK hM ed_v14 rfl (ed_e14 cy B 7 0 _) rfl) rfl hl.1 rfl (Nat.le_of_ble_eq_true rfl) dL_reads_187 ⟨Nat.zero_le _, Nat.zero_le _⟩) hS (fun H locs hM hS => ?_)
      refine lv_if_le (tgt := 197) S.1 S.2.1 dL_reads_190 (by decide) (fun c34 => ?_) (fun c34 => ?_)
      · replace hf := ed_ip c34 hf
        refine lv_iconst (v := 0) S.1 S.2.1 dL_reads_197 (by decide) ?_
        refine lv_istore_n (lv' := [(2, .int 0), (0, .ref (B + ed_oF 7 14 0)), (1, .int x1), (3, .int x3), (4, .int x4)]) S.1 S.2.1 dL_reads_198 rfl hl (by decide) rfl (fun ls hl => ?_)
        exact w_L_reads_199 S hr hlocks hK r μ' x1 0 x3 x4 μ33 hf _ _ _ hM hS (lv_sub hl [1, 2, 0, 3, 4] rfl)
      · replace hf := ed_in_ c34 hf
        refine lv_iconst (v := 1) S.1 S.2.1 dL_reads_193 (by decide) ?_
        refine lv_goto (tgt := 198) S.1 S.2.1 dL_reads_194 (by decide) ?_
        refine lv_istore_n (lv' := [(2, .int 1), (0, .ref (B + ed_oF 7 14 0)), (1, .int x1), (3, .int x3), (4, .int x4)]) S.1 S.2.1 dL_reads_198 rfl hl (by decide) rfl (fun ls hl => ?_)
        exact w_L_reads_199 S hr hlocks hK r μ' x1 1 x3 x4 μ33 hf _ _ _ hM hS (lv_sub hl [1, 2, 0, 3, 4] rfl)
set_option maxHeartbeats 4000000 in
set_option maxRecDepth 100000 in
theorem w_L_reads_105 {p : Program} {l : Launch} {e : Env} {s : State} {m : MethodId} {args : Array Value} {below : List Frame} {meth : Method} {c : Code} {D : va_G} {cy : Nat → ClassId} {B : Nat} (S : CallFix p m c cL_reads 6 s args ed_ws RL) (hr : meth.sig.returnType = (some .boolean)) (hlocks : meth.locks = false) (hK : ed_K D cy s) (r : Int32) (μ' : ed_CM) :
    ∀ (x1 x2 x3 : Int32) (μ : ed_CM), f_L_reads_105  x1 x2 x3 μ = some (r, μ') → ∀ (H : Heap) (locs : List Loc) (ls : Array Slot), ed_P D cy B μ H → va_S (ed_A B) s.heap H locs → lv_has ls 6 [(0, .ref (B + ed_oF 7 14 0)), (1, .int x1), (2, .int x2), (3, .int x3)] → W p l e (headSpec wsL_reads rmL_reads).room s m args below meth c H locs 0 0 (MQ below (ed_qI (ed_A B) (ed_P D cy B μ') r) args s 0 0 (ed_A B)) (F0 m 105 ls []) := by
  intro x1 x2 x3 μ hf H locs ls hM hS hl
  unfold f_L_reads_105 at hf
  refine lv_iload_n S.1 S.2.1 dL_reads_105 rfl (lv_at hl 1 rfl) ?_
  refine lv_bipush (v := 7) S.1 S.2.1 dL_reads_106 (by decide) ?_
  refine lv_ishr S.1 S.2.1 dL_reads_108 ?_
  refine lv_bipush (v := 90) S.1 S.2.1 dL_reads_109 (by decide) ?_
  refine lv_irem S.1 S.2.1 dL_reads_111 (by decide) ?_
  obtain ⟨y5, ey5, hf⟩ := ed_t_e hf
  refine ed_nm ey5 ?_
  refine lv_istore (lv' := [(4, .int y5), (0, .ref (B + ed_oF 7 14 0)), (1, .int x1), (2, .int x2), (3, .int x3)]) S.1 S.2.1 dL_reads_112 hl (by decide) rfl (fun ls hl => ?_)
  refine lv_iload_n S.1 S.2.1 dL_reads_114 rfl (lv_at hl 3 rfl) ?_
  refine lv_if_eq (tgt := 197) S.1 S.2.1 dL_reads_115 (by decide) (fun c6 => ?_) (fun c6 => ?_)
  · replace hf := ed_ip c6 hf
    refine lv_iconst (v := 0) S.1 S.2.1 dL_reads_197 (by decide) ?_
    refine lv_istore_n (lv' := [(2, .int 0), (4, .int y5), (0, .ref (B + ed_oF 7 14 0)), (1, .int x1), (3, .int x3)]) S.1 S.2.1 dL_reads_198 rfl hl (by decide) rfl (fun ls hl => ?_)
    exact w_L_reads_199 S hr hlocks hK r μ' x1 0 x3 y5 μ hf _ _ _ hM hS (lv_sub hl [2, 3, 0, 4, 1] rfl)
  · replace hf := ed_in_ c6 hf
    refine lv_aload_n S.1 S.2.1 dL_reads_118 rfl (lv_at hl 1 rfl) ?_
    refine lv_bipush (v := 32) S.1 S.2.1 dL_reads_119 (by decide) ?_
    obtain ⟨r24, μ24, hq24, hf⟩ := ed_b2_e hf
    refine ed_kI (ed_rV S hK hM (c_X8_type _ D cy B 32 μ r24 μ24 hq24) (cwV 1 S.2.2.2.2 (ed_gV ed_w3_206 ed_w3_207 ed_w3_208 ed_w1_1 ed_w3_209) rfl rfl rfl hd_X8_type ⟨Nat.le_of_ble_eq_true rfl, Nat.le_of_ble_eq_true rfl⟩) (ed_rc (q := (RX8, TX8, 6)) (r := (μ 7 14 0)) hK hM ed_v14 rfl (ed_e14 cy B 7 0 _) rfl) rfl hl.1 rfl (Nat.le_of_ble_eq_true rfl) dL_reads_121 ⟨Nat.zero_le _, Nat.zero_le _⟩) hS (fun H locs hM hS => ?_)
    refine lv_if_le (tgt := 197) S.1 S.2.1 dL_reads_124 (by decide) (fun c25 => ?_) (fun c25 => ?_)
    · replace hf := ed_ip c25 hf
      refine lv_iconst (v := 0) S.1 S.2.1 dL_reads_197 (by decide) ?_
      refine lv_istore_n (lv' := [(2, .int 0), (4, .int y5), (0, .ref (B + ed_oF 7 14 0)), (1, .int x1), (3, .int x3)]) S.1 S.2.1 dL_reads_198 rfl hl (by decide) rfl (fun ls hl => ?_)
      exact w_L_reads_199 S hr hlocks hK r μ' x1 0 x3 y5 μ24 hf _ _ _ hM hS (lv_sub hl [2, 3, 0, 4, 1] rfl)
    · replace hf := ed_in_ c25 hf
      refine lv_aload_n S.1 S.2.1 dL_reads_127 rfl (lv_at hl 1 rfl) ?_
      refine lv_bipush (v := 64) S.1 S.2.1 dL_reads_128 (by decide) ?_
      obtain ⟨r26, μ26, hq26, hf⟩ := ed_b2_e hf
      refine ed_kI (ed_rV S hK hM (c_X8_type _ D cy B 64 μ24 r26 μ26 hq26) (cwV 1 S.2.2.2.2 (ed_gV ed_w3_206 ed_w3_207 ed_w3_208 ed_w1_1 ed_w3_209) rfl rfl rfl hd_X8_type ⟨Nat.le_of_ble_eq_true rfl, Nat.le_of_ble_eq_true rfl⟩) (ed_rc (q := (RX8, TX8, 6)) (r := (μ24 7 14 0)) hK hM ed_v14 rfl (ed_e14 cy B 7 0 _) rfl) rfl hl.1 rfl (Nat.le_of_ble_eq_true rfl) dL_reads_130 ⟨Nat.zero_le _, Nat.zero_le _⟩) hS (fun H locs hM hS => ?_)
      refine lv_if_le (tgt := 197) S.1 S.2.1 dL_reads_133 (by decide) (fun c27 => ?_) (fun c27 => ?_)
      · replace hf := ed_ip c27 hf
        refine lv_iconst (v := 0) S.1 S.2.1 dL_reads_197 (by decide) ?_
        refine lv_istore_n (lv' := [(2, .int 0), (4, .int y5), (0, .ref (B + ed_oF 7 14 0)), (1, .int x1), (3, .int x3)]) S.1 S.2.1 dL_reads_198 rfl hl (by decide) rfl (fun ls hl => ?_)
        exact w_L_reads_199 S hr hlocks hK r μ' x1 0 x3 y5 μ26 hf _ _ _ hM hS (lv_sub hl [2, 3, 0, 4, 1] rfl)
      · replace hf := ed_in_ c27 hf
        refine lv_iload S.1 S.2.1 dL_reads_136 (lv_at hl 0 rfl) ?_
        refine lv_bipush (v := 10) S.1 S.2.1 dL_reads_138 (by decide) ?_
        refine lv_icmp_lt (tgt := 159) S.1 S.2.1 dL_reads_140 (by decide) (fun c28 => ?_) (fun c28 => ?_)
        · replace hf := ed_ip c28 hf
          exact w_L_reads_159 S hr hlocks hK r μ' x1 x3 y5 μ26 hf _ _ _ hM hS (lv_sub hl [1, 2, 4, 0] rfl)
        · replace hf := ed_in_ c28 hf
          refine lv_aload_n S.1 S.2.1 dL_reads_143 rfl (lv_at hl 1 rfl) ?_
          refine lv_bipush (v := 48) S.1 S.2.1 dL_reads_144 (by decide) ?_
          refine lv_iload S.1 S.2.1 dL_reads_146 (lv_at hl 0 rfl) ?_
          refine lv_bipush (v := 10) S.1 S.2.1 dL_reads_148 (by decide) ?_
          refine lv_idiv S.1 S.2.1 dL_reads_150 (by decide) ?_
          refine lv_iadd S.1 S.2.1 dL_reads_151 ?_
          refine lv_i2c S.1 S.2.1 dL_reads_152 rfl ?_
          obtain ⟨r35, μ35, hq35, hf⟩ := ed_b2_e hf
          refine ed_kI (ed_rV S hK hM (c_X8_type _ D cy B ((((48 : Int32) + (y5 / 10 : Int32) : Int32).toUInt32 % 65536).toInt32) μ26 r35 μ35 hq35) (cwV 1 S.2.2.2.2 (ed_gV ed_w3_206 ed_w3_207 ed_w3_208 ed_w1_1 ed_w3_209) rfl rfl rfl hd_X8_type ⟨Nat.le_of_ble_eq_true rfl, Nat.le_of_ble_eq_true rfl⟩) (ed_rc (q := (RX8, TX8, 6)) (r := (μ26 7 14 0)) hK hM ed_v14 rfl (ed_e14 cy B 7 0 _) rfl) rfl hl.1 rfl (Nat.le_of_ble_eq_true rfl) dL_reads_153 ⟨Nat.zero_le _, Nat.zero_le _⟩) hS (fun H locs hM hS => ?_)
          refine lv_if_le (tgt := 197) S.1 S.2.1 dL_reads_156 (by decide) (fun c36 => ?_) (fun c36 => ?_)
          · replace hf := ed_ip c36 hf
            refine lv_iconst (v := 0) S.1 S.2.1 dL_reads_197 (by decide) ?_
            refine lv_istore_n (lv' := [(2, .int 0), (4, .int y5), (0, .ref (B + ed_oF 7 14 0)), (1, .int x1), (3, .int x3)]) S.1 S.2.1 dL_reads_198 rfl hl (by decide) rfl (fun ls hl => ?_)
            exact w_L_reads_199 S hr hlocks hK r μ' x1 0 x3 y5 μ35 hf _ _ _ hM hS (lv_sub hl [2, 3, 0, 4, 1] rfl)
          · replace hf := ed_in_ c36 hf
            exact w_L_reads_159 S hr hlocks hK r μ' x1 x3 y5 μ35 hf _ _ _ hM hS (lv_sub hl [1, 2, 4, 0] rfl)
set_option maxHeartbeats 4000000 in
set_option maxRecDepth 100000 in
theorem w_L_reads_38 {p : Program} {l : Launch} {e : Env} {s : State} {m : MethodId} {args : Array Value} {below : List Frame} {meth : Method} {c : Code} {D : va_G} {cy : Nat → ClassId} {B : Nat} (S : CallFix p m c cL_reads 6 s args ed_ws RL) (hr : meth.sig.returnType = (some .boolean)) (hlocks : meth.locks = false) (hK : ed_K D cy s) (r : Int32) (μ' : ed_CM) :
    ∀ (x1 x2 : Int32) (μ : ed_CM), f_L_reads_38  x1 x2 μ = some (r, μ') → ∀ (H : Heap) (locs : List Loc) (ls : Array Slot), ed_P D cy B μ H → va_S (ed_A B) s.heap H locs → lv_has ls 6 [(0, .ref (B + ed_oF 7 14 0)), (1, .int x1), (2, .int x2)] → W p l e (headSpec wsL_reads rmL_reads).room s m args below meth c H locs 0 0 (MQ below (ed_qI (ed_A B) (ed_P D cy B μ') r) args s 0 0 (ed_A B)) (F0 m 38 ls []) := by
  intro x1 x2 μ hf H locs ls hM hS hl
  unfold f_L_reads_38 at hf
  refine lv_iload_n S.1 S.2.1 dL_reads_38 rfl (lv_at hl 1 rfl) ?_
  refine lv_iconst (v := 2) S.1 S.2.1 dL_reads_39 (by decide) ?_
  refine lv_ishr S.1 S.2.1 dL_reads_40 ?_
  refine lv_bipush (v := 10) S.1 S.2.1 dL_reads_41 (by decide) ?_
  refine lv_irem S.1 S.2.1 dL_reads_43 (by decide) ?_
  obtain ⟨y3, ey3, hf⟩ := ed_t_e hf
  refine ed_nm ey3 ?_
  refine lv_istore_n (lv' := [(3, .int y3), (0, .ref (B + ed_oF 7 14 0)), (1, .int x1), (2, .int x2)]) S.1 S.2.1 dL_reads_44 rfl hl (by decide) rfl (fun ls hl => ?_)
  refine lv_iload_n S.1 S.2.1 dL_reads_45 rfl (lv_at hl 3 rfl) ?_
  refine lv_if_eq (tgt := 103) S.1 S.2.1 dL_reads_46 (by decide) (fun c4 => ?_) (fun c4 => ?_)
  · replace hf := ed_ip c4 hf
    refine lv_iconst (v := 0) S.1 S.2.1 dL_reads_103 (by decide) ?_
    refine lv_istore_n (lv' := [(2, .int 0), (3, .int y3), (0, .ref (B + ed_oF 7 14 0)), (1, .int x1)]) S.1 S.2.1 dL_reads_104 rfl hl (by decide) rfl (fun ls hl => ?_)
    exact w_L_reads_105 S hr hlocks hK r μ' x1 0 y3 μ hf _ _ _ hM hS (lv_sub hl [2, 3, 0, 1] rfl)
  · replace hf := ed_in_ c4 hf
    refine lv_aload_n S.1 S.2.1 dL_reads_49 rfl (lv_at hl 1 rfl) ?_
    refine lv_bipush (v := 48) S.1 S.2.1 dL_reads_50 (by decide) ?_
    refine lv_iload_n S.1 S.2.1 dL_reads_52 rfl (lv_at hl 0 rfl) ?_
    refine lv_iadd S.1 S.2.1 dL_reads_53 ?_
    refine lv_i2c S.1 S.2.1 dL_reads_54 rfl ?_
    obtain ⟨r37, μ37, hq37, hf⟩ := ed_b2_e hf
    refine ed_kI (ed_rV S hK hM (c_X8_type _ D cy B ((((48 : Int32) + y3 : Int32).toUInt32 % 65536).toInt32) μ r37 μ37 hq37) (cwV 1 S.2.2.2.2 (ed_gV ed_w3_206 ed_w3_207 ed_w3_208 ed_w1_1 ed_w3_209) rfl rfl rfl hd_X8_type ⟨Nat.le_of_ble_eq_true rfl, Nat.le_of_ble_eq_true rfl⟩) (ed_rc (q := (RX8, TX8, 6)) (r := (μ 7 14 0)) hK hM ed_v14 rfl (ed_e14 cy B 7 0 _) rfl) rfl hl.1 rfl (Nat.le_of_ble_eq_true rfl) dL_reads_55 ⟨Nat.zero_le _, Nat.zero_le _⟩) hS (fun H locs hM hS => ?_)
    refine lv_iconst (v := 3) S.1 S.2.1 dL_reads_58 (by decide) ?_
    refine lv_icmp_ne (tgt := 103) S.1 S.2.1 dL_reads_59 (by decide) (fun c38 => ?_) (fun c38 => ?_)
    · replace hf := ed_in_ c38 hf
      refine lv_iconst (v := 0) S.1 S.2.1 dL_reads_103 (by decide) ?_
      refine lv_istore_n (lv' := [(2, .int 0), (3, .int y3), (0, .ref (B + ed_oF 7 14 0)), (1, .int x1)]) S.1 S.2.1 dL_reads_104 rfl hl (by decide) rfl (fun ls hl => ?_)
      exact w_L_reads_105 S hr hlocks hK r μ' x1 0 y3 μ37 hf _ _ _ hM hS (lv_sub hl [2, 3, 0, 1] rfl)
    · replace hf := ed_ip c38 hf
      refine lv_iload_n S.1 S.2.1 dL_reads_62 rfl (lv_at hl 2 rfl) ?_
      refine lv_bipush (v := 6) S.1 S.2.1 dL_reads_63 (by decide) ?_
      refine lv_ishr S.1 S.2.1 dL_reads_65 ?_
      refine lv_iconst (v := 1) S.1 S.2.1 dL_reads_66 (by decide) ?_
      refine lv_iand S.1 S.2.1 dL_reads_67 ?_
      refine lv_if_eq (tgt := 99) S.1 S.2.1 dL_reads_68 (by decide) (fun c39 => ?_) (fun c39 => ?_)
      · replace hf := ed_ip c39 hf
        refine lv_iconst (v := 1) S.1 S.2.1 dL_reads_99 (by decide) ?_
        refine lv_goto (tgt := 104) S.1 S.2.1 dL_reads_100 (by decide) ?_
        refine lv_istore_n (lv' := [(2, .int 1), (3, .int y3), (0, .ref (B + ed_oF 7 14 0)), (1, .int x1)]) S.1 S.2.1 dL_reads_104 rfl hl (by decide) rfl (fun ls hl => ?_)
        exact w_L_reads_105 S hr hlocks hK r μ' x1 1 y3 μ37 hf _ _ _ hM hS (lv_sub hl [2, 3, 0, 1] rfl)
      · replace hf := ed_in_ c39 hf
        refine lv_aload_n S.1 S.2.1 dL_reads_71 rfl (lv_at hl 1 rfl) ?_
        refine lv_bipush (v := 44) S.1 S.2.1 dL_reads_72 (by decide) ?_
        obtain ⟨r40, μ40, hq40, hf⟩ := ed_b2_e hf
        refine ed_kI (ed_rV S hK hM (c_X8_type _ D cy B 44 μ37 r40 μ40 hq40) (cwV 1 S.2.2.2.2 (ed_gV ed_w3_206 ed_w3_207 ed_w3_208 ed_w1_1 ed_w3_209) rfl rfl rfl hd_X8_type ⟨Nat.le_of_ble_eq_true rfl, Nat.le_of_ble_eq_true rfl⟩) (ed_rc (q := (RX8, TX8, 6)) (r := (μ37 7 14 0)) hK hM ed_v14 rfl (ed_e14 cy B 7 0 _) rfl) rfl hl.1 rfl (Nat.le_of_ble_eq_true rfl) dL_reads_74 ⟨Nat.zero_le _, Nat.zero_le _⟩) hS (fun H locs hM hS => ?_)
        refine lv_iconst (v := 4) S.1 S.2.1 dL_reads_77 (by decide) ?_
        refine lv_icmp_ne (tgt := 103) S.1 S.2.1 dL_reads_78 (by decide) (fun c41 => ?_) (fun c41 => ?_)
        · replace hf := ed_in_ c41 hf
          refine lv_iconst (v := 0) S.1 S.2.1 dL_reads_103 (by decide) ?_
          refine lv_istore_n (lv' := [(2, .int 0), (3, .int y3), (0, .ref (B + ed_oF 7 14 0)), (1, .int x1)]) S.1 S.2.1 dL_reads_104 rfl hl (by decide) rfl (fun ls hl => ?_)
          exact w_L_reads_105 S hr hlocks hK r μ' x1 0 y3 μ40 hf _ _ _ hM hS (lv_sub hl [2, 3, 0, 1] rfl)
        · replace hf := ed_ip c41 hf
          refine lv_aload_n S.1 S.2.1 dL_reads_81 rfl (lv_at hl 1 rfl) ?_
          refine lv_bipush (v := 48) S.1 S.2.1 dL_reads_82 (by decide) ?_
          refine lv_iload_n S.1 S.2.1 dL_reads_84 rfl (lv_at hl 0 rfl) ?_
          refine lv_iconst (v := 3) S.1 S.2.1 dL_reads_85 (by decide) ?_
          refine lv_iadd S.1 S.2.1 dL_reads_86 ?_
          refine lv_bipush (v := 10) S.1 S.2.1 dL_reads_87 (by decide) ?_
          refine lv_irem S.1 S.2.1 dL_reads_89 (by decide) ?_
          refine lv_iadd S.1 S.2.1 dL_reads_90 ?_
          refine lv_i2c S.1 S.2.1 dL_reads_91 rfl ?_
          obtain ⟨r42, μ42, hq42, hf⟩ := ed_b2_e hf
          refine ed_kI (ed_rV S hK hM (c_X8_type _ D cy B ((((48 : Int32) + ((y3 + 3 : Int32) - (y3 + 3 : Int32) / 10 * 10 : Int32) : Int32).toUInt32 % 65536).toInt32) μ40 r42 μ42 hq42) (cwV 1 S.2.2.2.2 (ed_gV ed_w3_206 ed_w3_207 ed_w3_208 ed_w1_1 ed_w3_209) rfl rfl rfl hd_X8_type ⟨Nat.le_of_ble_eq_true rfl, Nat.le_of_ble_eq_true rfl⟩) (ed_rc (q := (RX8, TX8, 6)) (r := (μ40 7 14 0)) hK hM ed_v14 rfl (ed_e14 cy B 7 0 _) rfl) rfl hl.1 rfl (Nat.le_of_ble_eq_true rfl) dL_reads_92 ⟨Nat.zero_le _, Nat.zero_le _⟩) hS (fun H locs hM hS => ?_)
          refine lv_iconst (v := 5) S.1 S.2.1 dL_reads_95 (by decide) ?_
          refine lv_icmp_ne (tgt := 103) S.1 S.2.1 dL_reads_96 (by decide) (fun c43 => ?_) (fun c43 => ?_)
          · replace hf := ed_in_ c43 hf
            refine lv_iconst (v := 0) S.1 S.2.1 dL_reads_103 (by decide) ?_
            refine lv_istore_n (lv' := [(2, .int 0), (3, .int y3), (0, .ref (B + ed_oF 7 14 0)), (1, .int x1)]) S.1 S.2.1 dL_reads_104 rfl hl (by decide) rfl (fun ls hl => ?_)
            exact w_L_reads_105 S hr hlocks hK r μ' x1 0 y3 μ42 hf _ _ _ hM hS (lv_sub hl [2, 3, 0, 1] rfl)
          · replace hf := ed_ip c43 hf
            refine lv_iconst (v := 1) S.1 S.2.1 dL_reads_99 (by decide) ?_
            refine lv_goto (tgt := 104) S.1 S.2.1 dL_reads_100 (by decide) ?_
            refine lv_istore_n (lv' := [(2, .int 1), (3, .int y3), (0, .ref (B + ed_oF 7 14 0)), (1, .int x1)]) S.1 S.2.1 dL_reads_104 rfl hl (by decide) rfl (fun ls hl => ?_)
            exact w_L_reads_105 S hr hlocks hK r μ' x1 1 y3 μ42 hf _ _ _ hM hS (lv_sub hl [2, 3, 0, 1] rfl)
set_option maxHeartbeats 4000000 in
set_option maxRecDepth 100000 in
theorem c_L_reads (l : Launch) (D : va_G) (cy : Nat → ClassId) (B : Nat) (x1 : Int32) (μ : ed_CM) (r : Int32) (μ' : ed_CM) (hf : f_L_reads x1 μ = some (r, μ')) :
    Met l yL_reads wsL_reads rmL_reads (ed_pC D cy (ed_P D cy B μ) [.ref (B + ed_oF 7 14 0), .int x1]) (ed_qI (ed_A B) (ed_P D cy B μ') r) 0 0 (ed_A B) := by
  refine Met.ofW (cc := cL_reads) (maxL := 6) (ret := (some .boolean)) (by decide) rfl ?_
  intro p e s m args below meth c s₁ B0 hml hv
  obtain ⟨rfl, hM, hK⟩ := hv
  have S : CallFix p m c cL_reads 6 s _ ed_ws RL := ⟨B0.exec, B0.bytes, hml, findClass_of_methodNamed B0.named, fun w hw => atoms_spec (ws := wsL_reads) B0.pre w (List.mem_cons_of_mem _ hw)⟩
  have hr := B0.returns
  have hlocks := B0.notSynchronized
  have hS : va_S (ed_A B) s.heap s.heap [] := va_S.rf
  have hl := lv_entry ([.ref (B + ed_oF 7 14 0), .int x1]) (n := 6) (Nat.le_of_ble_eq_true rfl)
  rw [lg_entry_eq]
  generalize (lg_sl ([.ref (B + ed_oF 7 14 0), .int x1]) ++ List.replicate (6 - (lg_sl ([.ref (B + ed_oF 7 14 0), .int x1])).length) Slot.unset).toArray = ls at hl ⊢
  have hl : lv_has ls 6 [(0, .ref (B + ed_oF 7 14 0)), (1, .int x1)] := hl
  unfold f_L_reads at hf
  refine lv_aload_n S.1 S.2.1 dL_reads_0 rfl (lv_at hl 0 rfl) ?_
  obtain ⟨r1, μ1, hq1, hf⟩ := ed_b2_e hf
  refine ed_kI (ed_rV S hK hM (c_X8_clearText _ D cy B μ r1 μ1 hq1) (cwV 0 S.2.2.2.2 (ed_gV ed_w3_202 ed_w3_203 ed_w3_204 ed_w1_1 ed_w3_205) rfl rfl rfl hd_X8_clearText ⟨Nat.le_of_ble_eq_true rfl, Nat.le_of_ble_eq_true rfl⟩) (ed_rc (q := (RX8, TX8, 6)) (r := (μ 7 14 0)) hK hM ed_v14 rfl (ed_e14 cy B 7 0 _) rfl) rfl hl.1 rfl (Nat.le_of_ble_eq_true rfl) dL_reads_1 ⟨Nat.zero_le _, Nat.zero_le _⟩) hS (fun H locs hM hS => ?_)
  refine lv_if_lt (tgt := 36) S.1 S.2.1 dL_reads_4 (by decide) (fun c2 => ?_) (fun c2 => ?_)
  · replace hf := ed_ip c2 hf
    refine lv_iconst (v := 0) S.1 S.2.1 dL_reads_36 (by decide) ?_
    refine lv_istore_n (lv' := [(2, .int 0), (0, .ref (B + ed_oF 7 14 0)), (1, .int x1)]) S.1 S.2.1 dL_reads_37 rfl hl (by decide) rfl (fun ls hl => ?_)
    exact w_L_reads_38 S hr hlocks hK r μ' x1 0 μ1 hf _ _ _ hM hS (lv_sub hl [1, 2, 0] rfl)
  · replace hf := ed_in_ c2 hf
    refine lv_aload_n S.1 S.2.1 dL_reads_7 rfl (lv_at hl 0 rfl) ?_
    refine lv_bipush (v := 48) S.1 S.2.1 dL_reads_8 (by decide) ?_
    refine lv_iload_n S.1 S.2.1 dL_reads_10 rfl (lv_at hl 1 rfl) ?_
    refine lv_iconst (v := 3) S.1 S.2.1 dL_reads_11 (by decide) ?_
    refine lv_irem S.1 S.2.1 dL_reads_12 (by decide) ?_
    refine lv_iadd S.1 S.2.1 dL_reads_13 ?_
    refine lv_i2c S.1 S.2.1 dL_reads_14 rfl ?_
    obtain ⟨r44, μ44, hq44, hf⟩ := ed_b2_e hf
    refine ed_kI (ed_rV S hK hM (c_X8_type _ D cy B ((((48 : Int32) + (x1 - x1 / 3 * 3 : Int32) : Int32).toUInt32 % 65536).toInt32) μ1 r44 μ44 hq44) (cwV 1 S.2.2.2.2 (ed_gV ed_w3_206 ed_w3_207 ed_w3_208 ed_w1_1 ed_w3_209) rfl rfl rfl hd_X8_type ⟨Nat.le_of_ble_eq_true rfl, Nat.le_of_ble_eq_true rfl⟩) (ed_rc (q := (RX8, TX8, 6)) (r := (μ1 7 14 0)) hK hM ed_v14 rfl (ed_e14 cy B 7 0 _) rfl) rfl hl.1 rfl (Nat.le_of_ble_eq_true rfl) dL_reads_15 ⟨Nat.zero_le _, Nat.zero_le _⟩) hS (fun H locs hM hS => ?_)
    refine lv_iconst (v := 1) S.1 S.2.1 dL_reads_18 (by decide) ?_
    refine lv_icmp_ne (tgt := 36) S.1 S.2.1 dL_reads_19 (by decide) (fun c45 => ?_) (fun c45 => ?_)
    · replace hf := ed_in_ c45 hf
      refine lv_iconst (v := 0) S.1 S.2.1 dL_reads_36 (by decide) ?_
      refine lv_istore_n (lv' := [(2, .int 0), (0, .ref (B + ed_oF 7 14 0)), (1, .int x1)]) S.1 S.2.1 dL_reads_37 rfl hl (by decide) rfl (fun ls hl => ?_)
      exact w_L_reads_38 S hr hlocks hK r μ' x1 0 μ44 hf _ _ _ hM hS (lv_sub hl [1, 2, 0] rfl)
    · replace hf := ed_ip c45 hf
      refine lv_aload_n S.1 S.2.1 dL_reads_22 rfl (lv_at hl 0 rfl) ?_
      refine lv_bipush (v := 32) S.1 S.2.1 dL_reads_23 (by decide) ?_
      obtain ⟨r46, μ46, hq46, hf⟩ := ed_b2_e hf
      refine ed_kI (ed_rV S hK hM (c_X8_type _ D cy B 32 μ44 r46 μ46 hq46) (cwV 1 S.2.2.2.2 (ed_gV ed_w3_206 ed_w3_207 ed_w3_208 ed_w1_1 ed_w3_209) rfl rfl rfl hd_X8_type ⟨Nat.le_of_ble_eq_true rfl, Nat.le_of_ble_eq_true rfl⟩) (ed_rc (q := (RX8, TX8, 6)) (r := (μ44 7 14 0)) hK hM ed_v14 rfl (ed_e14 cy B 7 0 _) rfl) rfl hl.1 rfl (Nat.le_of_ble_eq_true rfl) dL_reads_25 ⟨Nat.zero_le _, Nat.zero_le _⟩) hS (fun H locs hM hS => ?_)
      refine lv_iconst (v := 2) S.1 S.2.1 dL_reads_28 (by decide) ?_
      refine lv_icmp_ne (tgt := 36) S.1 S.2.1 dL_reads_29 (by decide) (fun c47 => ?_) (fun c47 => ?_)
      · replace hf := ed_in_ c47 hf
        refine lv_iconst (v := 0) S.1 S.2.1 dL_reads_36 (by decide) ?_
        refine lv_istore_n (lv' := [(2, .int 0), (0, .ref (B + ed_oF 7 14 0)), (1, .int x1)]) S.1 S.2.1 dL_reads_37 rfl hl (by decide) rfl (fun ls hl => ?_)
        exact w_L_reads_38 S hr hlocks hK r μ' x1 0 μ46 hf _ _ _ hM hS (lv_sub hl [1, 2, 0] rfl)
      · replace hf := ed_ip c47 hf
        refine lv_iconst (v := 1) S.1 S.2.1 dL_reads_32 (by decide) ?_
        refine lv_goto (tgt := 37) S.1 S.2.1 dL_reads_33 (by decide) ?_
        refine lv_istore_n (lv' := [(2, .int 1), (0, .ref (B + ed_oF 7 14 0)), (1, .int x1)]) S.1 S.2.1 dL_reads_37 rfl hl (by decide) rfl (fun ls hl => ?_)
        exact w_L_reads_38 S hr hlocks hK r μ' x1 1 μ46 hf _ _ _ hM hS (lv_sub hl [1, 2, 0] rfl)
set_option maxHeartbeats 4000000 in
set_option maxRecDepth 100000 in
theorem w_L_passes_228 {p : Program} {l : Launch} {e : Env} {s : State} {m : MethodId} {args : Array Value} {below : List Frame} {meth : Method} {c : Code} {D : va_G} {cy : Nat → ClassId} {B : Nat} (S : CallFix p m c cL_passes 13 s args ed_ws RL) (hr : meth.sig.returnType = (some .boolean)) (hlocks : meth.locks = false) (hK : ed_K D cy s) (r : Int32) (μ' : ed_CM) :
    ∀ (x2 x5 x6 x9 : Int32) (μ : ed_CM), f_L_passes_228  x2 x5 x6 x9 μ = some (r, μ') → ∀ (H : Heap) (locs : List Loc) (ls : Array Slot), ed_P D cy B μ H → va_S (ed_A B) s.heap H locs → lv_has ls 13 [(0, .ref (B + ed_oF 7 14 0)), (2, .int x2), (5, .int x5), (6, .int x6), (9, .int x9)] → W p l e (headSpec wsL_passes rmL_passes).room s m args below meth c H locs 0 0 (MQ below (ed_qI (ed_A B) (ed_P D cy B μ') r) args s 0 0 (ed_A B)) (F0 m 228 ls []) := by
  intro x2 x5 x6 x9 μ hf H locs ls hM hS hl
  unfold f_L_passes_228 at hf
  refine lv_iload S.1 S.2.1 dL_passes_228 (lv_at hl 4 rfl) ?_
  refine lv_if_lt (tgt := 258) S.1 S.2.1 dL_passes_230 (by decide) (fun c26 => ?_) (fun c26 => ?_)
  · replace hf := ed_ip c26 hf
    refine lv_iconst (v := 1) S.1 S.2.1 dL_passes_258 (by decide) ?_
    refine lv_goto (tgt := 263) S.1 S.2.1 dL_passes_259 (by decide) ?_
    obtain ⟨rfl, rfl⟩ := ed_so hf
    exact ed_rz S hr hlocks rfl hM hS dL_passes_263
  · replace hf := ed_in_ c26 hf
    refine lv_iload S.1 S.2.1 dL_passes_233 (lv_at hl 4 rfl) ?_
    refine lv_iload_n S.1 S.2.1 dL_passes_235 rfl (lv_at hl 1 rfl) ?_
    refine lv_icmp_ne (tgt := 258) S.1 S.2.1 dL_passes_236 (by decide) (fun c27 => ?_) (fun c27 => ?_)
    · replace hf := ed_in_ c27 hf
      refine lv_iconst (v := 1) S.1 S.2.1 dL_passes_258 (by decide) ?_
      refine lv_goto (tgt := 263) S.1 S.2.1 dL_passes_259 (by decide) ?_
      obtain ⟨rfl, rfl⟩ := ed_so hf
      exact ed_rz S hr hlocks rfl hM hS dL_passes_263
    · replace hf := ed_ip c27 hf
      refine lv_aload_n S.1 S.2.1 dL_passes_239 rfl (lv_at hl 0 rfl) ?_
      refine lv_iload S.1 S.2.1 dL_passes_240 (lv_at hl 2 rfl) ?_
      refine lv_iload S.1 S.2.1 dL_passes_242 (lv_at hl 3 rfl) ?_
      refine lv_iconst (v := 3) S.1 S.2.1 dL_passes_244 (by decide) ?_
      obtain ⟨r28, hq28, hf⟩ := ed_b_e hf
      refine ed_kI (ed_rV S hK hM (c_X8_copy _ D cy B x5 x6 3 μ r28 hq28) (cwV 3 S.2.2.2.2 (ed_gV ed_w3_149 ed_w3_150 ed_w3_151 ed_w1_1 ed_w3_152) rfl rfl rfl hd_X8_copy ⟨Nat.le_of_ble_eq_true rfl, Nat.le_of_ble_eq_true rfl⟩) (ed_rc (q := (RX8, TX8, 6)) (r := (μ 7 14 0)) hK hM ed_v14 rfl (ed_e14 cy B 7 0 _) rfl) rfl hl.1 rfl (Nat.le_of_ble_eq_true rfl) dL_passes_245 ⟨Nat.zero_le _, Nat.zero_le _⟩) hS (fun H locs hM hS => ?_)
      refine lv_aload_n S.1 S.2.1 dL_passes_248 rfl (lv_at hl 0 rfl) ?_
      refine lv_iload S.1 S.2.1 dL_passes_249 (lv_at hl 2 rfl) ?_
      refine lv_iconst (v := 4) S.1 S.2.1 dL_passes_251 (by decide) ?_
      obtain ⟨r29, hq29, hf⟩ := ed_b_e hf
      refine ed_kI (ed_rV S hK hM (c_X8_story _ D cy B x5 4 μ r29 hq29) (cwV 2 S.2.2.2.2 (ed_gV ed_w3_169 ed_w3_170 ed_w3_171 ed_w1_1 ed_w3_172) rfl rfl rfl hd_X8_story ⟨Nat.le_of_ble_eq_true rfl, Nat.le_of_ble_eq_true rfl⟩) (ed_rc (q := (RX8, TX8, 6)) (r := (μ 7 14 0)) hK hM ed_v14 rfl (ed_e14 cy B 7 0 _) rfl) rfl hl.1 rfl (Nat.le_of_ble_eq_true rfl) dL_passes_252 ⟨Nat.zero_le _, Nat.zero_le _⟩) hS (fun H locs hM hS => ?_)
      refine lv_icmp_ne (tgt := 262) S.1 S.2.1 dL_passes_255 (by decide) (fun c30 => ?_) (fun c30 => ?_)
      · replace hf := ed_in_ c30 hf
        refine lv_iconst (v := 0) S.1 S.2.1 dL_passes_262 (by decide) ?_
        obtain ⟨rfl, rfl⟩ := ed_so hf
        exact ed_rz S hr hlocks rfl hM hS dL_passes_263
      · replace hf := ed_ip c30 hf
        refine lv_iconst (v := 1) S.1 S.2.1 dL_passes_258 (by decide) ?_
        refine lv_goto (tgt := 263) S.1 S.2.1 dL_passes_259 (by decide) ?_
        obtain ⟨rfl, rfl⟩ := ed_so hf
        exact ed_rz S hr hlocks rfl hM hS dL_passes_263
set_option maxHeartbeats 4000000 in
set_option maxRecDepth 100000 in
theorem w_L_passes_156 {p : Program} {l : Launch} {e : Env} {s : State} {m : MethodId} {args : Array Value} {below : List Frame} {meth : Method} {c : Code} {D : va_G} {cy : Nat → ClassId} {B : Nat} (S : CallFix p m c cL_passes 13 s args ed_ws RL) (hr : meth.sig.returnType = (some .boolean)) (hlocks : meth.locks = false) (hK : ed_K D cy s) (r : Int32) (μ' : ed_CM) :
    ∀ (n : Nat), ∀ (x2 x3 x5 x6 x7 x8 x9 x10 x11 x12 : Int32) (μ : ed_CM), f_L_passes_156  n x2 x3 x5 x6 x7 x8 x9 x10 x11 x12 μ = some (r, μ') → ∀ (H : Heap) (locs : List Loc) (ls : Array Slot), ed_P D cy B μ H → va_S (ed_A B) s.heap H locs → lv_has ls 13 [(0, .ref (B + ed_oF 7 14 0)), (2, .int x2), (3, .int x3), (5, .int x5), (6, .int x6), (7, .int x7), (8, .int x8), (9, .int x9), (10, .int x10), (11, .int x11), (12, .int x12)] → W p l e (headSpec wsL_passes rmL_passes).room s m args below meth c H locs 0 0 (MQ below (ed_qI (ed_A B) (ed_P D cy B μ') r) args s 0 0 (ed_A B)) (F0 m 156 ls []) := by
  intro n
  induction n with
  | zero => intro x2 x3 x5 x6 x7 x8 x9 x10 x11 x12 μ hf; rw [f_L_passes_156] at hf; cases hf
  | succ n ih =>
    intro x2 x3 x5 x6 x7 x8 x9 x10 x11 x12 μ hf H locs ls hM hS hl
    rw [f_L_passes_156] at hf
    refine lv_iload S.1 S.2.1 dL_passes_156 (lv_at hl 10 rfl) ?_
    refine lv_aload_n S.1 S.2.1 dL_passes_158 rfl (lv_at hl 0 rfl) ?_
    refine lv_iconst (v := 1) S.1 S.2.1 dL_passes_159 (by decide) ?_
    obtain ⟨r20, hq20, hf⟩ := ed_b_e hf
    refine ed_kI (ed_rV S hK hM (c_X8_count _ D cy B 1 μ r20 hq20) (cwV 1 S.2.2.2.2 (ed_gV ed_w3_115 ed_w3_116 ed_w3_117 ed_w1_1 ed_w3_118) rfl rfl rfl hd_X8_count ⟨Nat.le_of_ble_eq_true rfl, Nat.le_of_ble_eq_true rfl⟩) (ed_rc (q := (RX8, TX8, 6)) (r := (μ 7 14 0)) hK hM ed_v14 rfl (ed_e14 cy B 7 0 _) rfl) rfl hl.1 rfl (Nat.le_of_ble_eq_true rfl) dL_passes_160 ⟨Nat.zero_le _, Nat.zero_le _⟩) hS (fun H locs hM hS => ?_)
    refine lv_icmp_ge (tgt := 185) S.1 S.2.1 dL_passes_163 (by decide) (fun c21 => ?_) (fun c21 => ?_)
    · replace hf := ed_ip c21 hf
      refine lv_iload S.1 S.2.1 dL_passes_185 (lv_at hl 9 rfl) ?_
      refine lv_iload S.1 S.2.1 dL_passes_187 (lv_at hl 8 rfl) ?_
      refine lv_icmp_ne (tgt := 262) S.1 S.2.1 dL_passes_189 (by decide) (fun c22 => ?_) (fun c22 => ?_)
      · replace hf := ed_in_ c22 hf
        refine lv_iconst (v := 0) S.1 S.2.1 dL_passes_262 (by decide) ?_
        obtain ⟨rfl, rfl⟩ := ed_so hf
        exact ed_rz S hr hlocks rfl hM hS dL_passes_263
      · replace hf := ed_ip c22 hf
        refine lv_aload_n S.1 S.2.1 dL_passes_192 rfl (lv_at hl 0 rfl) ?_
        refine lv_iload_n S.1 S.2.1 dL_passes_193 rfl (lv_at hl 2 rfl) ?_
        refine lv_bipush (v := 8) S.1 S.2.1 dL_passes_194 (by decide) ?_
        obtain ⟨r23, hq23, hf⟩ := ed_b_e hf
        refine ed_kI (ed_rV S hK hM (c_X8_client _ D cy B x3 8 μ r23 hq23) (cwV 2 S.2.2.2.2 (ed_gV ed_w3_104 ed_w3_105 ed_w3_106 ed_w1_1 ed_w3_107) rfl rfl rfl hd_X8_client ⟨Nat.le_of_ble_eq_true rfl, Nat.le_of_ble_eq_true rfl⟩) (ed_rc (q := (RX8, TX8, 6)) (r := (μ 7 14 0)) hK hM ed_v14 rfl (ed_e14 cy B 7 0 _) rfl) rfl hl.1 rfl (Nat.le_of_ble_eq_true rfl) dL_passes_196 ⟨Nat.zero_le _, Nat.zero_le _⟩) hS (fun H locs hM hS => ?_)
        refine lv_iload S.1 S.2.1 dL_passes_199 (lv_at hl 6 rfl) ?_
        refine lv_iload S.1 S.2.1 dL_passes_201 (lv_at hl 5 rfl) ?_
        refine lv_iadd S.1 S.2.1 dL_passes_203 ?_
        refine lv_icmp_ne (tgt := 262) S.1 S.2.1 dL_passes_204 (by decide) (fun c24 => ?_) (fun c24 => ?_)
        · replace hf := ed_in_ c24 hf
          refine lv_iconst (v := 0) S.1 S.2.1 dL_passes_262 (by decide) ?_
          obtain ⟨rfl, rfl⟩ := ed_so hf
          exact ed_rz S hr hlocks rfl hM hS dL_passes_263
        · replace hf := ed_ip c24 hf
          refine lv_iload S.1 S.2.1 dL_passes_207 (lv_at hl 7 rfl) ?_
          refine lv_iload_n S.1 S.2.1 dL_passes_209 rfl (lv_at hl 1 rfl) ?_
          refine lv_icmp_lt (tgt := 228) S.1 S.2.1 dL_passes_210 (by decide) (fun c25 => ?_) (fun c25 => ?_)
          · replace hf := ed_ip c25 hf
            exact w_L_passes_228 S hr hlocks hK r μ' x2 x5 x6 x9 μ hf _ _ _ hM hS (lv_sub hl [0, 1, 3, 4, 7] rfl)
          · replace hf := ed_in_ c25 hf
            refine lv_aload_n S.1 S.2.1 dL_passes_213 rfl (lv_at hl 0 rfl) ?_
            refine lv_iload S.1 S.2.1 dL_passes_214 (lv_at hl 3 rfl) ?_
            refine lv_iload S.1 S.2.1 dL_passes_216 (lv_at hl 4 rfl) ?_
            obtain ⟨r31, μ31, hq31, hf⟩ := ed_b2_e hf
            refine ed_kI (ed_rV S hK hM (c_X8_carriedIn _ D cy B x5 x6 μ r31 μ31 hq31) (cwV 2 S.2.2.2.2 (ed_gV ed_w4_18 ed_w4_19 ed_w4_20 ed_w1_1 ed_w4_21) rfl rfl rfl hd_X8_carriedIn ⟨Nat.le_of_ble_eq_true rfl, Nat.le_of_ble_eq_true rfl⟩) (ed_rc (q := (RX8, TX8, 6)) (r := (μ 7 14 0)) hK hM ed_v14 rfl (ed_e14 cy B 7 0 _) rfl) rfl hl.1 rfl (Nat.le_of_ble_eq_true rfl) dL_passes_218 ⟨Nat.zero_le _, Nat.zero_le _⟩) hS (fun H locs hM hS => ?_)
            refine lv_iload S.1 S.2.1 dL_passes_221 (lv_at hl 7 rfl) ?_
            refine lv_iload_n S.1 S.2.1 dL_passes_223 rfl (lv_at hl 1 rfl) ?_
            refine lv_isub S.1 S.2.1 dL_passes_224 ?_
            refine lv_icmp_ne (tgt := 262) S.1 S.2.1 dL_passes_225 (by decide) (fun c32 => ?_) (fun c32 => ?_)
            · replace hf := ed_in_ c32 hf
              refine lv_iconst (v := 0) S.1 S.2.1 dL_passes_262 (by decide) ?_
              obtain ⟨rfl, rfl⟩ := ed_so hf
              exact ed_rz S hr hlocks rfl hM hS dL_passes_263
            · replace hf := ed_ip c32 hf
              exact w_L_passes_228 S hr hlocks hK r μ' x2 x5 x6 x9 μ31 hf _ _ _ hM hS (lv_sub hl [0, 1, 3, 4, 7] rfl)
    · replace hf := ed_in_ c21 hf
      refine lv_iload S.1 S.2.1 dL_passes_166 (lv_at hl 8 rfl) ?_
      refine lv_aload_n S.1 S.2.1 dL_passes_168 rfl (lv_at hl 0 rfl) ?_
      refine lv_iload S.1 S.2.1 dL_passes_169 (lv_at hl 10 rfl) ?_
      refine lv_bipush (v := 8) S.1 S.2.1 dL_passes_171 (by decide) ?_
      obtain ⟨r33, hq33, hf⟩ := ed_b_e hf
      refine ed_kI (ed_rV S hK hM (c_X8_client _ D cy B x12 8 μ r33 hq33) (cwV 2 S.2.2.2.2 (ed_gV ed_w3_104 ed_w3_105 ed_w3_106 ed_w1_1 ed_w3_107) rfl rfl rfl hd_X8_client ⟨Nat.le_of_ble_eq_true rfl, Nat.le_of_ble_eq_true rfl⟩) (ed_rc (q := (RX8, TX8, 6)) (r := (μ 7 14 0)) hK hM ed_v14 rfl (ed_e14 cy B 7 0 _) rfl) rfl hl.1 rfl (Nat.le_of_ble_eq_true rfl) dL_passes_173 ⟨Nat.zero_le _, Nat.zero_le _⟩) hS (fun H locs hM hS => ?_)
      refine lv_iadd S.1 S.2.1 dL_passes_176 ?_
      refine lv_istore (lv' := [(10, .int (x10 + r33 : Int32)), (0, .ref (B + ed_oF 7 14 0)), (2, .int x2), (3, .int x3), (5, .int x5), (6, .int x6), (7, .int x7), (8, .int x8), (9, .int x9), (11, .int x11), (12, .int x12)]) S.1 S.2.1 dL_passes_177 hl (by decide) rfl (fun ls hl => ?_)
      refine lv_iinc (v := x12 + 1) (lv' := [(12, .int (x12 + 1)), (10, .int (x10 + r33 : Int32)), (0, .ref (B + ed_oF 7 14 0)), (2, .int x2), (3, .int x3), (5, .int x5), (6, .int x6), (7, .int x7), (8, .int x8), (9, .int x9), (11, .int x11)]) S.1 S.2.1 dL_passes_179 hl (k := 10) rfl rfl (by decide) rfl (fun ls hl => ?_)
      refine lv_goto (tgt := 156) S.1 S.2.1 dL_passes_182 (by decide) ?_
      exact ih x2 x3 x5 x6 x7 x8 x9 (x10 + r33 : Int32) x11 (x12 + 1) μ hf _ _ _ hM hS (lv_sub hl [2, 3, 4, 5, 6, 7, 8, 9, 1, 10, 0] rfl)
set_option maxHeartbeats 4000000 in
set_option maxRecDepth 100000 in
theorem w_L_passes_117 {p : Program} {l : Launch} {e : Env} {s : State} {m : MethodId} {args : Array Value} {below : List Frame} {meth : Method} {c : Code} {D : va_G} {cy : Nat → ClassId} {B : Nat} (S : CallFix p m c cL_passes 13 s args ed_ws RL) (hr : meth.sig.returnType = (some .boolean)) (hlocks : meth.locks = false) (hK : ed_K D cy s) (r : Int32) (μ' : ed_CM) :
    ∀ (n : Nat), ∀ (x2 x3 x5 x6 x7 x8 x9 x10 x11 : Int32) (μ : ed_CM), f_L_passes_117  n x2 x3 x5 x6 x7 x8 x9 x10 x11 μ = some (r, μ') → ∀ (H : Heap) (locs : List Loc) (ls : Array Slot), ed_P D cy B μ H → va_S (ed_A B) s.heap H locs → lv_has ls 13 [(0, .ref (B + ed_oF 7 14 0)), (2, .int x2), (3, .int x3), (5, .int x5), (6, .int x6), (7, .int x7), (8, .int x8), (9, .int x9), (10, .int x10), (11, .int x11)] → W p l e (headSpec wsL_passes rmL_passes).room s m args below meth c H locs 0 0 (MQ below (ed_qI (ed_A B) (ed_P D cy B μ') r) args s 0 0 (ed_A B)) (F0 m 117 ls []) := by
  intro n
  induction n with
  | zero => intro x2 x3 x5 x6 x7 x8 x9 x10 x11 μ hf; rw [f_L_passes_117] at hf; cases hf
  | succ n ih =>
    intro x2 x3 x5 x6 x7 x8 x9 x10 x11 μ hf H locs ls hM hS hl
    rw [f_L_passes_117] at hf
    refine lv_iload S.1 S.2.1 dL_passes_117 (lv_at hl 9 rfl) ?_
    refine lv_aload_n S.1 S.2.1 dL_passes_119 rfl (lv_at hl 0 rfl) ?_
    refine lv_iconst (v := 1) S.1 S.2.1 dL_passes_120 (by decide) ?_
    obtain ⟨r17, hq17, hf⟩ := ed_b_e hf
    refine ed_kI (ed_rV S hK hM (c_X8_count _ D cy B 1 μ r17 hq17) (cwV 1 S.2.2.2.2 (ed_gV ed_w3_115 ed_w3_116 ed_w3_117 ed_w1_1 ed_w3_118) rfl rfl rfl hd_X8_count ⟨Nat.le_of_ble_eq_true rfl, Nat.le_of_ble_eq_true rfl⟩) (ed_rc (q := (RX8, TX8, 6)) (r := (μ 7 14 0)) hK hM ed_v14 rfl (ed_e14 cy B 7 0 _) rfl) rfl hl.1 rfl (Nat.le_of_ble_eq_true rfl) dL_passes_121 ⟨Nat.zero_le _, Nat.zero_le _⟩) hS (fun H locs hM hS => ?_)
    refine lv_icmp_ge (tgt := 146) S.1 S.2.1 dL_passes_124 (by decide) (fun c18 => ?_) (fun c18 => ?_)
    · replace hf := ed_ip c18 hf
      refine lv_aload_n S.1 S.2.1 dL_passes_146 rfl (lv_at hl 0 rfl) ?_
      refine lv_iload_n S.1 S.2.1 dL_passes_147 rfl (lv_at hl 1 rfl) ?_
      obtain ⟨r19, μ19, hq19, hf⟩ := ed_b2_e hf
      refine ed_kI (ed_rV S hK hM (c_X8_pass _ D cy B x2 μ r19 μ19 hq19) (cwV 1 S.2.2.2.2 (ed_gV ed_w2_237 ed_w2_238 ed_w2_239 ed_w1_1 ed_w3_0) rfl rfl rfl hd_X8_pass ⟨Nat.le_of_ble_eq_true rfl, Nat.le_of_ble_eq_true rfl⟩) (ed_rc (q := (RX8, TX8, 6)) (r := (μ 7 14 0)) hK hM ed_v14 rfl (ed_e14 cy B 7 0 _) rfl) rfl hl.1 rfl (Nat.le_of_ble_eq_true rfl) dL_passes_148 ⟨Nat.zero_le _, Nat.zero_le _⟩) hS (fun H locs hM hS => ?_)
      refine lv_istore (lv' := [(11, .int r19), (0, .ref (B + ed_oF 7 14 0)), (2, .int x2), (3, .int x3), (5, .int x5), (6, .int x6), (7, .int x7), (8, .int x8), (9, .int x9), (10, .int x10)]) S.1 S.2.1 dL_passes_151 hl (by decide) rfl (fun ls hl => ?_)
      refine lv_iconst (v := 0) S.1 S.2.1 dL_passes_153 (by decide) ?_
      refine lv_istore (lv' := [(12, .int 0), (11, .int r19), (0, .ref (B + ed_oF 7 14 0)), (2, .int x2), (3, .int x3), (5, .int x5), (6, .int x6), (7, .int x7), (8, .int x8), (9, .int x9), (10, .int x10)]) S.1 S.2.1 dL_passes_154 hl (by decide) rfl (fun ls hl => ?_)
      exact w_L_passes_156 S hr hlocks hK r μ' ed_N x2 x3 x5 x6 x7 x8 x9 x10 r19 0 μ19 hf _ _ _ hM hS (lv_sub hl [2, 3, 4, 5, 6, 7, 8, 9, 10, 1, 0] rfl)
    · replace hf := ed_in_ c18 hf
      refine lv_iload S.1 S.2.1 dL_passes_127 (lv_at hl 8 rfl) ?_
      refine lv_aload_n S.1 S.2.1 dL_passes_129 rfl (lv_at hl 0 rfl) ?_
      refine lv_iload S.1 S.2.1 dL_passes_130 (lv_at hl 9 rfl) ?_
      refine lv_bipush (v := 8) S.1 S.2.1 dL_passes_132 (by decide) ?_
      obtain ⟨r34, hq34, hf⟩ := ed_b_e hf
      refine ed_kI (ed_rV S hK hM (c_X8_client _ D cy B x11 8 μ r34 hq34) (cwV 2 S.2.2.2.2 (ed_gV ed_w3_104 ed_w3_105 ed_w3_106 ed_w1_1 ed_w3_107) rfl rfl rfl hd_X8_client ⟨Nat.le_of_ble_eq_true rfl, Nat.le_of_ble_eq_true rfl⟩) (ed_rc (q := (RX8, TX8, 6)) (r := (μ 7 14 0)) hK hM ed_v14 rfl (ed_e14 cy B 7 0 _) rfl) rfl hl.1 rfl (Nat.le_of_ble_eq_true rfl) dL_passes_134 ⟨Nat.zero_le _, Nat.zero_le _⟩) hS (fun H locs hM hS => ?_)
      refine lv_isub S.1 S.2.1 dL_passes_137 ?_
      refine lv_istore (lv' := [(10, .int (x10 - r34 : Int32)), (0, .ref (B + ed_oF 7 14 0)), (2, .int x2), (3, .int x3), (5, .int x5), (6, .int x6), (7, .int x7), (8, .int x8), (9, .int x9), (11, .int x11)]) S.1 S.2.1 dL_passes_138 hl (by decide) rfl (fun ls hl => ?_)
      refine lv_iinc (v := x11 + 1) (lv' := [(11, .int (x11 + 1)), (10, .int (x10 - r34 : Int32)), (0, .ref (B + ed_oF 7 14 0)), (2, .int x2), (3, .int x3), (5, .int x5), (6, .int x6), (7, .int x7), (8, .int x8), (9, .int x9)]) S.1 S.2.1 dL_passes_140 hl (k := 9) rfl rfl (by decide) rfl (fun ls hl => ?_)
      refine lv_goto (tgt := 117) S.1 S.2.1 dL_passes_143 (by decide) ?_
      exact ih x2 x3 x5 x6 x7 x8 x9 (x10 - r34 : Int32) (x11 + 1) μ hf _ _ _ hM hS (lv_sub hl [2, 3, 4, 5, 6, 7, 8, 9, 1, 0] rfl)
set_option maxHeartbeats 4000000 in
set_option maxRecDepth 100000 in
theorem w_L_passes_111 {p : Program} {l : Launch} {e : Env} {s : State} {m : MethodId} {args : Array Value} {below : List Frame} {meth : Method} {c : Code} {D : va_G} {cy : Nat → ClassId} {B : Nat} (S : CallFix p m c cL_passes 13 s args ed_ws RL) (hr : meth.sig.returnType = (some .boolean)) (hlocks : meth.locks = false) (hK : ed_K D cy s) (r : Int32) (μ' : ed_CM) :
    ∀ (x2 x3 x5 x6 x7 x8 x9 : Int32) (μ : ed_CM), f_L_passes_111  x2 x3 x5 x6 x7 x8 x9 μ = some (r, μ') → ∀ (H : Heap) (locs : List Loc) (ls : Array Slot), ed_P D cy B μ H → va_S (ed_A B) s.heap H locs → lv_has ls 13 [(0, .ref (B + ed_oF 7 14 0)), (2, .int x2), (3, .int x3), (5, .int x5), (6, .int x6), (7, .int x7), (8, .int x8), (9, .int x9)] → W p l e (headSpec wsL_passes rmL_passes).room s m args below meth c H locs 0 0 (MQ below (ed_qI (ed_A B) (ed_P D cy B μ') r) args s 0 0 (ed_A B)) (F0 m 111 ls []) := by
  intro x2 x3 x5 x6 x7 x8 x9 μ hf H locs ls hM hS hl
  unfold f_L_passes_111 at hf
  refine lv_iconst (v := 0) S.1 S.2.1 dL_passes_111 (by decide) ?_
  refine lv_istore (lv' := [(10, .int 0), (0, .ref (B + ed_oF 7 14 0)), (2, .int x2), (3, .int x3), (5, .int x5), (6, .int x6), (7, .int x7), (8, .int x8), (9, .int x9)]) S.1 S.2.1 dL_passes_112 hl (by decide) rfl (fun ls hl => ?_)
  refine lv_iconst (v := 0) S.1 S.2.1 dL_passes_114 (by decide) ?_
  refine lv_istore (lv' := [(11, .int 0), (10, .int 0), (0, .ref (B + ed_oF 7 14 0)), (2, .int x2), (3, .int x3), (5, .int x5), (6, .int x6), (7, .int x7), (8, .int x8), (9, .int x9)]) S.1 S.2.1 dL_passes_115 hl (by decide) rfl (fun ls hl => ?_)
  exact w_L_passes_117 S hr hlocks hK r μ' ed_N x2 x3 x5 x6 x7 x8 x9 0 0 μ hf _ _ _ hM hS (lv_sub hl [2, 3, 4, 5, 6, 7, 8, 9, 1, 0] rfl)
set_option maxHeartbeats 4000000 in
set_option maxRecDepth 100000 in
theorem w_L_passes_74 {p : Program} {l : Launch} {e : Env} {s : State} {m : MethodId} {args : Array Value} {below : List Frame} {meth : Method} {c : Code} {D : va_G} {cy : Nat → ClassId} {B : Nat} (S : CallFix p m c cL_passes 13 s args ed_ws RL) (hr : meth.sig.returnType = (some .boolean)) (hlocks : meth.locks = false) (hK : ed_K D cy s) (r : Int32) (μ' : ed_CM) :
    ∀ (x2 x3 x4 x5 x6 : Int32) (μ : ed_CM), f_L_passes_74  x2 x3 x4 x5 x6 μ = some (r, μ') → ∀ (H : Heap) (locs : List Loc) (ls : Array Slot), ed_P D cy B μ H → va_S (ed_A B) s.heap H locs → lv_has ls 13 [(0, .ref (B + ed_oF 7 14 0)), (2, .int x2), (3, .int x3), (4, .int x4), (5, .int x5), (6, .int x6)] → W p l e (headSpec wsL_passes rmL_passes).room s m args below meth c H locs 0 0 (MQ below (ed_qI (ed_A B) (ed_P D cy B μ') r) args s 0 0 (ed_A B)) (F0 m 74 ls []) := by
  intro x2 x3 x4 x5 x6 μ hf H locs ls hM hS hl
  unfold f_L_passes_74 at hf
  refine lv_aload_n S.1 S.2.1 dL_passes_74 rfl (lv_at hl 0 rfl) ?_
  refine lv_iload_n S.1 S.2.1 dL_passes_75 rfl (lv_at hl 2 rfl) ?_
  refine lv_iload_n S.1 S.2.1 dL_passes_76 rfl (lv_at hl 1 rfl) ?_
  obtain ⟨r13, μ13, hq13, hf⟩ := ed_b2_e hf
  refine ed_kI (ed_rV S hK hM (c_X8_wouldCome _ D cy B x3 x2 μ r13 μ13 hq13) (cwV 2 S.2.2.2.2 (ed_gV ed_w4_14 ed_w4_15 ed_w4_16 ed_w1_1 ed_w4_17) rfl rfl rfl hd_X8_wouldCome ⟨Nat.le_of_ble_eq_true rfl, Nat.le_of_ble_eq_true rfl⟩) (ed_rc (q := (RX8, TX8, 6)) (r := (μ 7 14 0)) hK hM ed_v14 rfl (ed_e14 cy B 7 0 _) rfl) rfl hl.1 rfl (Nat.le_of_ble_eq_true rfl) dL_passes_77 ⟨Nat.zero_le _, Nat.zero_le _⟩) hS (fun H locs hM hS => ?_)
  refine lv_istore (lv' := [(7, .int r13), (0, .ref (B + ed_oF 7 14 0)), (2, .int x2), (3, .int x3), (4, .int x4), (5, .int x5), (6, .int x6)]) S.1 S.2.1 dL_passes_80 hl (by decide) rfl (fun ls hl => ?_)
  refine lv_aload_n S.1 S.2.1 dL_passes_82 rfl (lv_at hl 1 rfl) ?_
  refine lv_iload_n S.1 S.2.1 dL_passes_83 rfl (lv_at hl 3 rfl) ?_
  refine lv_bipush (v := 8) S.1 S.2.1 dL_passes_84 (by decide) ?_
  obtain ⟨r14, hq14, hf⟩ := ed_b_e hf
  refine ed_kI (ed_rV S hK hM (c_X8_client _ D cy B x3 8 μ13 r14 hq14) (cwV 2 S.2.2.2.2 (ed_gV ed_w3_104 ed_w3_105 ed_w3_106 ed_w1_1 ed_w3_107) rfl rfl rfl hd_X8_client ⟨Nat.le_of_ble_eq_true rfl, Nat.le_of_ble_eq_true rfl⟩) (ed_rc (q := (RX8, TX8, 6)) (r := (μ13 7 14 0)) hK hM ed_v14 rfl (ed_e14 cy B 7 0 _) rfl) rfl hl.1 rfl (Nat.le_of_ble_eq_true rfl) dL_passes_86 ⟨Nat.zero_le _, Nat.zero_le _⟩) hS (fun H locs hM hS => ?_)
  refine lv_istore (lv' := [(8, .int r14), (7, .int r13), (0, .ref (B + ed_oF 7 14 0)), (2, .int x2), (3, .int x3), (4, .int x4), (5, .int x5), (6, .int x6)]) S.1 S.2.1 dL_passes_89 hl (by decide) rfl (fun ls hl => ?_)
  refine lv_iload S.1 S.2.1 dL_passes_91 (lv_at hl 5 rfl) ?_
  refine lv_if_ne (tgt := 101) S.1 S.2.1 dL_passes_93 (by decide) (fun c15 => ?_) (fun c15 => ?_)
  · replace hf := ed_in_ c15 hf
    refine lv_aload_n S.1 S.2.1 dL_passes_101 rfl (lv_at hl 2 rfl) ?_
    refine lv_iload S.1 S.2.1 dL_passes_102 (lv_at hl 6 rfl) ?_
    refine lv_iload S.1 S.2.1 dL_passes_104 (lv_at hl 7 rfl) ?_
    obtain ⟨r16, μ16, hq16, hf⟩ := ed_b2_e hf
    refine ed_kI (ed_rV S hK hM (c_X8_carriedIn _ D cy B x5 x6 μ13 r16 μ16 hq16) (cwV 2 S.2.2.2.2 (ed_gV ed_w4_18 ed_w4_19 ed_w4_20 ed_w1_1 ed_w4_21) rfl rfl rfl hd_X8_carriedIn ⟨Nat.le_of_ble_eq_true rfl, Nat.le_of_ble_eq_true rfl⟩) (ed_rc (q := (RX8, TX8, 6)) (r := (μ13 7 14 0)) hK hM ed_v14 rfl (ed_e14 cy B 7 0 _) rfl) rfl hl.1 rfl (Nat.le_of_ble_eq_true rfl) dL_passes_106 ⟨Nat.zero_le _, Nat.zero_le _⟩) hS (fun H locs hM hS => ?_)
    refine lv_istore (lv' := [(9, .int r16), (8, .int r14), (7, .int r13), (0, .ref (B + ed_oF 7 14 0)), (2, .int x2), (3, .int x3), (4, .int x4), (5, .int x5), (6, .int x6)]) S.1 S.2.1 dL_passes_109 hl (by decide) rfl (fun ls hl => ?_)
    exact w_L_passes_111 S hr hlocks hK r μ' x2 x3 x5 x6 r13 r14 r16 μ16 hf _ _ _ hM hS (lv_sub hl [3, 4, 5, 7, 8, 2, 1, 0] rfl)
  · replace hf := ed_ip c15 hf
    refine lv_bipush (v := (-5)) S.1 S.2.1 dL_passes_96 (by decide) ?_
    refine lv_goto (tgt := 109) S.1 S.2.1 dL_passes_98 (by decide) ?_
    refine lv_istore (lv' := [(9, .int (-5)), (8, .int r14), (7, .int r13), (0, .ref (B + ed_oF 7 14 0)), (2, .int x2), (3, .int x3), (4, .int x4), (5, .int x5), (6, .int x6)]) S.1 S.2.1 dL_passes_109 hl (by decide) rfl (fun ls hl => ?_)
    exact w_L_passes_111 S hr hlocks hK r μ' x2 x3 x5 x6 r13 r14 (-5) μ13 hf _ _ _ hM hS (lv_sub hl [3, 4, 5, 7, 8, 2, 1, 0] rfl)
set_option maxHeartbeats 4000000 in
set_option maxRecDepth 100000 in
theorem w_L_passes_49 {p : Program} {l : Launch} {e : Env} {s : State} {m : MethodId} {args : Array Value} {below : List Frame} {meth : Method} {c : Code} {D : va_G} {cy : Nat → ClassId} {B : Nat} (S : CallFix p m c cL_passes 13 s args ed_ws RL) (hr : meth.sig.returnType = (some .boolean)) (hlocks : meth.locks = false) (hK : ed_K D cy s) (r : Int32) (μ' : ed_CM) :
    ∀ (x1 x2 x3 x4 x5 : Int32) (μ : ed_CM), f_L_passes_49  x1 x2 x3 x4 x5 μ = some (r, μ') → ∀ (H : Heap) (locs : List Loc) (ls : Array Slot), ed_P D cy B μ H → va_S (ed_A B) s.heap H locs → lv_has ls 13 [(0, .ref (B + ed_oF 7 14 0)), (1, .int x1), (2, .int x2), (3, .int x3), (4, .int x4), (5, .int x5)] → W p l e (headSpec wsL_passes rmL_passes).room s m args below meth c H locs 0 0 (MQ below (ed_qI (ed_A B) (ed_P D cy B μ') r) args s 0 0 (ed_A B)) (F0 m 49 ls []) := by
  intro x1 x2 x3 x4 x5 μ hf H locs ls hM hS hl
  unfold f_L_passes_49 at hf
  refine lv_iload S.1 S.2.1 dL_passes_49 (lv_at hl 4 rfl) ?_
  refine lv_if_ne (tgt := 58) S.1 S.2.1 dL_passes_51 (by decide) (fun c9 => ?_) (fun c9 => ?_)
  · replace hf := ed_in_ c9 hf
    refine lv_aload_n S.1 S.2.1 dL_passes_58 rfl (lv_at hl 0 rfl) ?_
    refine lv_iload_n S.1 S.2.1 dL_passes_59 rfl (lv_at hl 1 rfl) ?_
    refine lv_bipush (v := 7) S.1 S.2.1 dL_passes_60 (by decide) ?_
    refine lv_ishr S.1 S.2.1 dL_passes_62 ?_
    refine lv_iload S.1 S.2.1 dL_passes_63 (lv_at hl 4 rfl) ?_
    obtain ⟨hz10, hf⟩ := ed_g_e hf
    refine lv_irem S.1 S.2.1 dL_passes_65 hz10 ?_
    obtain ⟨r11, hq11, hf⟩ := ed_b_e hf
    refine ed_kI (ed_rV S hK hM (c_X8_copyAt _ D cy B ((x1 >>> ((7 : Int32) &&& 31) : Int32) - (x1 >>> ((7 : Int32) &&& 31) : Int32) / x4 * x4 : Int32) μ r11 hq11) (cwV 1 S.2.2.2.2 (ed_gV ed_w3_144 ed_w3_145 ed_w3_146 ed_w1_1 ed_w3_147) rfl rfl rfl hd_X8_copyAt ⟨Nat.le_of_ble_eq_true rfl, Nat.le_of_ble_eq_true rfl⟩) (ed_rc (q := (RX8, TX8, 6)) (r := (μ 7 14 0)) hK hM ed_v14 rfl (ed_e14 cy B 7 0 _) rfl) rfl hl.1 rfl (Nat.le_of_ble_eq_true rfl) dL_passes_66 ⟨Nat.zero_le _, Nat.zero_le _⟩) hS (fun H locs hM hS => ?_)
    refine lv_bipush (v := 10) S.1 S.2.1 dL_passes_69 (by decide) ?_
    refine lv_irem S.1 S.2.1 dL_passes_71 (by decide) ?_
    obtain ⟨y12, ey12, hf⟩ := ed_t_e hf
    refine ed_nm ey12 ?_
    refine lv_istore (lv' := [(6, .int y12), (0, .ref (B + ed_oF 7 14 0)), (1, .int x1), (2, .int x2), (3, .int x3), (4, .int x4), (5, .int x5)]) S.1 S.2.1 dL_passes_72 hl (by decide) rfl (fun ls hl => ?_)
    exact w_L_passes_74 S hr hlocks hK r μ' x2 x3 x4 x5 y12 μ hf _ _ _ hM hS (lv_sub hl [1, 3, 4, 5, 6, 0] rfl)
  · replace hf := ed_ip c9 hf
    refine lv_iconst (v := (-1)) S.1 S.2.1 dL_passes_54 (by decide) ?_
    refine lv_goto (tgt := 72) S.1 S.2.1 dL_passes_55 (by decide) ?_
    refine lv_istore (lv' := [(6, .int (-1)), (0, .ref (B + ed_oF 7 14 0)), (1, .int x1), (2, .int x2), (3, .int x3), (4, .int x4), (5, .int x5)]) S.1 S.2.1 dL_passes_72 hl (by decide) rfl (fun ls hl => ?_)
    exact w_L_passes_74 S hr hlocks hK r μ' x2 x3 x4 x5 (-1) μ hf _ _ _ hM hS (lv_sub hl [1, 3, 4, 5, 6, 0] rfl)
set_option maxHeartbeats 4000000 in
set_option maxRecDepth 100000 in
theorem c_L_passes (l : Launch) (D : va_G) (cy : Nat → ClassId) (B : Nat) (x1 : Int32) (μ : ed_CM) (r : Int32) (μ' : ed_CM) (hf : f_L_passes x1 μ = some (r, μ')) :
    Met l yL_passes wsL_passes rmL_passes (ed_pC D cy (ed_P D cy B μ) [.ref (B + ed_oF 7 14 0), .int x1]) (ed_qI (ed_A B) (ed_P D cy B μ') r) 0 0 (ed_A B) := by
  refine Met.ofW (cc := cL_passes) (maxL := 13) (ret := (some .boolean)) (by decide) rfl ?_
  intro p e s m args below meth c s₁ B0 hml hv
  obtain ⟨rfl, hM, hK⟩ := hv
  have S : CallFix p m c cL_passes 13 s _ ed_ws RL := ⟨B0.exec, B0.bytes, hml, findClass_of_methodNamed B0.named, fun w hw => atoms_spec (ws := wsL_passes) B0.pre w (List.mem_cons_of_mem _ hw)⟩
  have hr := B0.returns
  have hlocks := B0.notSynchronized
  have hS : va_S (ed_A B) s.heap s.heap [] := va_S.rf
  have hl := lv_entry ([.ref (B + ed_oF 7 14 0), .int x1]) (n := 13) (Nat.le_of_ble_eq_true rfl)
  rw [lg_entry_eq]
  generalize (lg_sl ([.ref (B + ed_oF 7 14 0), .int x1]) ++ List.replicate (13 - (lg_sl ([.ref (B + ed_oF 7 14 0), .int x1])).length) Slot.unset).toArray = ls at hl ⊢
  have hl : lv_has ls 13 [(0, .ref (B + ed_oF 7 14 0)), (1, .int x1)] := hl
  unfold f_L_passes at hf
  refine lv_iconst (v := 1) S.1 S.2.1 dL_passes_0 (by decide) ?_
  refine lv_iload_n S.1 S.2.1 dL_passes_1 rfl (lv_at hl 1 rfl) ?_
  refine lv_bipush (v := 9) S.1 S.2.1 dL_passes_2 (by decide) ?_
  refine lv_irem S.1 S.2.1 dL_passes_4 (by decide) ?_
  refine lv_iadd S.1 S.2.1 dL_passes_5 ?_
  obtain ⟨y1, ey1, hf⟩ := ed_t_e hf
  refine ed_nm ey1 ?_
  refine lv_istore_n (lv' := [(2, .int y1), (0, .ref (B + ed_oF 7 14 0)), (1, .int x1)]) S.1 S.2.1 dL_passes_6 rfl hl (by decide) rfl (fun ls hl => ?_)
  refine lv_iload_n S.1 S.2.1 dL_passes_7 rfl (lv_at hl 2 rfl) ?_
  refine lv_iconst (v := 4) S.1 S.2.1 dL_passes_8 (by decide) ?_
  refine lv_ishr S.1 S.2.1 dL_passes_9 ?_
  refine lv_aload_n S.1 S.2.1 dL_passes_10 rfl (lv_at hl 1 rfl) ?_
  refine lv_iconst (v := 1) S.1 S.2.1 dL_passes_11 (by decide) ?_
  obtain ⟨r2, hq2, hf⟩ := ed_b_e hf
  refine ed_kI (ed_rV S hK hM (c_X8_count _ D cy B 1 μ r2 hq2) (cwV 1 S.2.2.2.2 (ed_gV ed_w3_115 ed_w3_116 ed_w3_117 ed_w1_1 ed_w3_118) rfl rfl rfl hd_X8_count ⟨Nat.le_of_ble_eq_true rfl, Nat.le_of_ble_eq_true rfl⟩) (ed_rc (q := (RX8, TX8, 6)) (r := (μ 7 14 0)) hK hM ed_v14 rfl (ed_e14 cy B 7 0 _) rfl) rfl hl.1 rfl (Nat.le_of_ble_eq_true rfl) dL_passes_12 ⟨Nat.zero_le _, Nat.zero_le _⟩) hS (fun H locs hM hS => ?_)
  obtain ⟨hz3, hf⟩ := ed_g_e hf
  refine lv_irem S.1 S.2.1 dL_passes_15 hz3 ?_
  obtain ⟨y4, ey4, hf⟩ := ed_t_e hf
  refine ed_nm ey4 ?_
  refine lv_istore_n (lv' := [(3, .int y4), (2, .int y1), (0, .ref (B + ed_oF 7 14 0)), (1, .int x1)]) S.1 S.2.1 dL_passes_16 rfl hl (by decide) rfl (fun ls hl => ?_)
  refine lv_aload_n S.1 S.2.1 dL_passes_17 rfl (lv_at hl 2 rfl) ?_
  refine lv_iconst (v := 3) S.1 S.2.1 dL_passes_18 (by decide) ?_
  obtain ⟨r5, hq5, hf⟩ := ed_b_e hf
  refine ed_kI (ed_rV S hK hM (c_X8_count _ D cy B 3 μ r5 hq5) (cwV 1 S.2.2.2.2 (ed_gV ed_w3_115 ed_w3_116 ed_w3_117 ed_w1_1 ed_w3_118) rfl rfl rfl hd_X8_count ⟨Nat.le_of_ble_eq_true rfl, Nat.le_of_ble_eq_true rfl⟩) (ed_rc (q := (RX8, TX8, 6)) (r := (μ 7 14 0)) hK hM ed_v14 rfl (ed_e14 cy B 7 0 _) rfl) rfl hl.1 rfl (Nat.le_of_ble_eq_true rfl) dL_passes_19 ⟨Nat.zero_le _, Nat.zero_le _⟩) hS (fun H locs hM hS => ?_)
  refine lv_istore (lv' := [(4, .int r5), (3, .int y4), (2, .int y1), (0, .ref (B + ed_oF 7 14 0)), (1, .int x1)]) S.1 S.2.1 dL_passes_22 hl (by decide) rfl (fun ls hl => ?_)
  refine lv_iload S.1 S.2.1 dL_passes_24 (lv_at hl 0 rfl) ?_
  refine lv_if_ne (tgt := 33) S.1 S.2.1 dL_passes_26 (by decide) (fun c6 => ?_) (fun c6 => ?_)
  · replace hf := ed_in_ c6 hf
    refine lv_aload_n S.1 S.2.1 dL_passes_33 rfl (lv_at hl 3 rfl) ?_
    refine lv_iload_n S.1 S.2.1 dL_passes_34 rfl (lv_at hl 4 rfl) ?_
    refine lv_bipush (v := 7) S.1 S.2.1 dL_passes_35 (by decide) ?_
    refine lv_ishr S.1 S.2.1 dL_passes_37 ?_
    refine lv_iload S.1 S.2.1 dL_passes_38 (lv_at hl 0 rfl) ?_
    obtain ⟨hz7, hf⟩ := ed_g_e hf
    refine lv_irem S.1 S.2.1 dL_passes_40 hz7 ?_
    obtain ⟨r8, hq8, hf⟩ := ed_b_e hf
    refine ed_kI (ed_rV S hK hM (c_X8_copyAt _ D cy B ((x1 >>> ((7 : Int32) &&& 31) : Int32) - (x1 >>> ((7 : Int32) &&& 31) : Int32) / r5 * r5 : Int32) μ r8 hq8) (cwV 1 S.2.2.2.2 (ed_gV ed_w3_144 ed_w3_145 ed_w3_146 ed_w1_1 ed_w3_147) rfl rfl rfl hd_X8_copyAt ⟨Nat.le_of_ble_eq_true rfl, Nat.le_of_ble_eq_true rfl⟩) (ed_rc (q := (RX8, TX8, 6)) (r := (μ 7 14 0)) hK hM ed_v14 rfl (ed_e14 cy B 7 0 _) rfl) rfl hl.1 rfl (Nat.le_of_ble_eq_true rfl) dL_passes_41 ⟨Nat.zero_le _, Nat.zero_le _⟩) hS (fun H locs hM hS => ?_)
    refine lv_bipush (v := 10) S.1 S.2.1 dL_passes_44 (by decide) ?_
    refine lv_idiv S.1 S.2.1 dL_passes_46 (by decide) ?_
    refine lv_istore (lv' := [(5, .int (r8 / 10 : Int32)), (4, .int r5), (3, .int y4), (2, .int y1), (0, .ref (B + ed_oF 7 14 0)), (1, .int x1)]) S.1 S.2.1 dL_passes_47 hl (by decide) rfl (fun ls hl => ?_)
    exact w_L_passes_49 S hr hlocks hK r μ' x1 y1 y4 r5 (r8 / 10 : Int32) μ hf _ _ _ hM hS (lv_sub hl [4, 5, 3, 2, 1, 0] rfl)
  · replace hf := ed_ip c6 hf
    refine lv_iconst (v := (-1)) S.1 S.2.1 dL_passes_29 (by decide) ?_
    refine lv_goto (tgt := 47) S.1 S.2.1 dL_passes_30 (by decide) ?_
    refine lv_istore (lv' := [(5, .int (-1)), (4, .int r5), (3, .int y4), (2, .int y1), (0, .ref (B + ed_oF 7 14 0)), (1, .int x1)]) S.1 S.2.1 dL_passes_47 hl (by decide) rfl (fun ls hl => ?_)
    exact w_L_passes_49 S hr hlocks hK r μ' x1 y1 y4 r5 (-1) μ hf _ _ _ hM hS (lv_sub hl [4, 5, 3, 2, 1, 0] rfl)
set_option maxHeartbeats 4000000 in
set_option maxRecDepth 100000 in
theorem w_L_acts_23 {p : Program} {l : Launch} {e : Env} {s : State} {m : MethodId} {args : Array Value} {below : List Frame} {meth : Method} {c : Code} {D : va_G} {cy : Nat → ClassId} {B : Nat} (S : CallFix p m c cL_acts 9 s args ed_ws RL) (hr : meth.sig.returnType = (some .boolean)) (hlocks : meth.locks = false) (hK : ed_K D cy s) (r : Int32) (μ' : ed_CM) :
    ∀ (x1 x2 x3 x4 : Int32) (μ : ed_CM), f_L_acts_23  x1 x2 x3 x4 μ = some (r, μ') → ∀ (H : Heap) (locs : List Loc) (ls : Array Slot), ed_P D cy B μ H → va_S (ed_A B) s.heap H locs → lv_has ls 9 [(0, .ref (B + ed_oF 7 14 0)), (1, .int x1), (2, .int x2), (3, .int x3), (4, .int x4)] → W p l e (headSpec wsL_acts rmL_acts).room s m args below meth c H locs 0 0 (MQ below (ed_qI (ed_A B) (ed_P D cy B μ') r) args s 0 0 (ed_A B)) (F0 m 23 ls []) := by
  intro x1 x2 x3 x4 μ hf H locs ls hM hS hl
  unfold f_L_acts_23 at hf
  refine lv_iload_n S.1 S.2.1 dL_acts_23 rfl (lv_at hl 2 rfl) ?_
  refine lv_aload_n S.1 S.2.1 dL_acts_24 rfl (lv_at hl 0 rfl) ?_
  refine lv_iconst (v := 1) S.1 S.2.1 dL_acts_25 (by decide) ?_
  obtain ⟨r6, hq6, hf⟩ := ed_b_e hf
  refine ed_kI (ed_rV S hK hM (c_X8_count _ D cy B 1 μ r6 hq6) (cwV 1 S.2.2.2.2 (ed_gV ed_w3_115 ed_w3_116 ed_w3_117 ed_w1_1 ed_w3_118) rfl rfl rfl hd_X8_count ⟨Nat.le_of_ble_eq_true rfl, Nat.le_of_ble_eq_true rfl⟩) (ed_rc (q := (RX8, TX8, 6)) (r := (μ 7 14 0)) hK hM ed_v14 rfl (ed_e14 cy B 7 0 _) rfl) rfl hl.1 rfl (Nat.le_of_ble_eq_true rfl) dL_acts_26 ⟨Nat.zero_le _, Nat.zero_le _⟩) hS (fun H locs hM hS => ?_)
  obtain ⟨hz7, hf⟩ := ed_g_e hf
  refine lv_irem S.1 S.2.1 dL_acts_29 hz7 ?_
  obtain ⟨y8, ey8, hf⟩ := ed_t_e hf
  refine ed_nm ey8 ?_
  refine lv_istore (lv' := [(5, .int y8), (0, .ref (B + ed_oF 7 14 0)), (1, .int x1), (2, .int x2), (3, .int x3), (4, .int x4)]) S.1 S.2.1 dL_acts_30 hl (by decide) rfl (fun ls hl => ?_)
  refine lv_iload_n S.1 S.2.1 dL_acts_32 rfl (lv_at hl 2 rfl) ?_
  refine lv_bipush (v := 7) S.1 S.2.1 dL_acts_33 (by decide) ?_
  refine lv_iand S.1 S.2.1 dL_acts_35 ?_
  by_cases c9 : (x1 &&& (7 : Int32) : Int32) = 0
  · replace hf := ed_ip c9 hf
    refine lv_tableIn (tgt := 72) S.1 S.2.1 dL_acts_36 (by rw [c9]; decide) (by rw [c9]; decide) (off := 36) (by rw [c9]; decide) (by decide) ?_
    refine lv_aload_n S.1 S.2.1 dL_acts_72 rfl (lv_at hl 1 rfl) ?_
    refine lv_iload_n S.1 S.2.1 dL_acts_73 rfl (lv_at hl 3 rfl) ?_
    obtain ⟨r14, μ14, hq14, hf⟩ := ed_b2_e hf
    refine ed_kI (ed_rS S hK hM (c_L_reads _ D cy B x2 μ r14 μ14 hq14) (va_cwS 2 S.2.2.2.2 (ed_gS ed_w3_199 ed_w3_200 ed_w1_0 ed_w3_201) rfl rfl rfl hd_L_reads.2 ⟨Nat.le_of_ble_eq_true rfl, Nat.le_of_ble_eq_true rfl⟩) rfl hl.1 rfl (Nat.le_of_ble_eq_true rfl) dL_acts_74 ⟨Nat.zero_le _, Nat.zero_le _⟩) hS (fun H locs hM hS => ?_)
    obtain ⟨hb15, hf⟩ := ed_g_e hf
    obtain ⟨rfl, rfl⟩ := ed_so hf
    exact ed_rz S hr hlocks (ed_bo_n hb15).1 hM hS dL_acts_77
  replace hf := ed_in_ c9 hf
  by_cases c10 : (x1 &&& (7 : Int32) : Int32) = 1
  · replace hf := ed_ip c10 hf
    refine lv_tableIn (tgt := 78) S.1 S.2.1 dL_acts_36 (by rw [c10]; decide) (by rw [c10]; decide) (off := 42) (by rw [c10]; decide) (by decide) ?_
    refine lv_iload_n S.1 S.2.1 dL_acts_78 rfl (lv_at hl 4 rfl) ?_
    refine lv_if_ne (tgt := 86) S.1 S.2.1 dL_acts_79 (by decide) (fun c16 => ?_) (fun c16 => ?_)
    · replace hf := ed_in_ c16 hf
      refine lv_aload_n S.1 S.2.1 dL_acts_86 rfl (lv_at hl 1 rfl) ?_
      refine lv_iload S.1 S.2.1 dL_acts_87 (lv_at hl 5 rfl) ?_
      refine lv_iconst (v := 3) S.1 S.2.1 dL_acts_89 (by decide) ?_
      obtain ⟨r17, hq17, hf⟩ := ed_b_e hf
      refine ed_kI (ed_rV S hK hM (c_X8_story _ D cy B x4 3 μ r17 hq17) (cwV 2 S.2.2.2.2 (ed_gV ed_w3_169 ed_w3_170 ed_w3_171 ed_w1_1 ed_w3_172) rfl rfl rfl hd_X8_story ⟨Nat.le_of_ble_eq_true rfl, Nat.le_of_ble_eq_true rfl⟩) (ed_rc (q := (RX8, TX8, 6)) (r := (μ 7 14 0)) hK hM ed_v14 rfl (ed_e14 cy B 7 0 _) rfl) rfl hl.1 rfl (Nat.le_of_ble_eq_true rfl) dL_acts_90 ⟨Nat.zero_le _, Nat.zero_le _⟩) hS (fun H locs hM hS => ?_)
      refine lv_istore (lv' := [(6, .int r17), (5, .int y8), (0, .ref (B + ed_oF 7 14 0)), (1, .int x1), (2, .int x2), (3, .int x3), (4, .int x4)]) S.1 S.2.1 dL_acts_93 hl (by decide) rfl (fun ls hl => ?_)
      refine lv_iload_n S.1 S.2.1 dL_acts_95 rfl (lv_at hl 5 rfl) ?_
      refine lv_if_eq (tgt := 180) S.1 S.2.1 dL_acts_96 (by decide) (fun c18 => ?_) (fun c18 => ?_)
      · replace hf := ed_ip c18 hf
        refine lv_iconst (v := 1) S.1 S.2.1 dL_acts_180 (by decide) ?_
        refine lv_goto (tgt := 185) S.1 S.2.1 dL_acts_181 (by decide) ?_
        obtain ⟨rfl, rfl⟩ := ed_so hf
        exact ed_rz S hr hlocks rfl hM hS dL_acts_185
      · replace hf := ed_in_ c18 hf
        refine lv_iload S.1 S.2.1 dL_acts_99 (lv_at hl 0 rfl) ?_
        refine lv_if_ne (tgt := 127) S.1 S.2.1 dL_acts_101 (by decide) (fun c19 => ?_) (fun c19 => ?_)
        · replace hf := ed_in_ c19 hf
          refine lv_iload S.1 S.2.1 dL_acts_127 (lv_at hl 0 rfl) ?_
          refine lv_iconst (v := 1) S.1 S.2.1 dL_acts_129 (by decide) ?_
          refine lv_icmp_ne (tgt := 163) S.1 S.2.1 dL_acts_130 (by decide) (fun c20 => ?_) (fun c20 => ?_)
          · replace hf := ed_in_ c20 hf
            refine lv_iload S.1 S.2.1 dL_acts_163 (lv_at hl 0 rfl) ?_
            refine lv_iconst (v := 1) S.1 S.2.1 dL_acts_165 (by decide) ?_
            refine lv_icmp_eq (tgt := 180) S.1 S.2.1 dL_acts_166 (by decide) (fun c21 => ?_) (fun c21 => ?_)
            · replace hf := ed_ip c21 hf
              refine lv_iconst (v := 1) S.1 S.2.1 dL_acts_180 (by decide) ?_
              refine lv_goto (tgt := 185) S.1 S.2.1 dL_acts_181 (by decide) ?_
              obtain ⟨rfl, rfl⟩ := ed_so hf
              exact ed_rz S hr hlocks rfl hM hS dL_acts_185
            · replace hf := ed_in_ c21 hf
              refine lv_aload_n S.1 S.2.1 dL_acts_169 rfl (lv_at hl 2 rfl) ?_
              refine lv_iload S.1 S.2.1 dL_acts_170 (lv_at hl 6 rfl) ?_
              obtain ⟨r22, μ22, hq22, hf⟩ := ed_b2_e hf
              refine ed_kI (ed_rV S hK hM (c_X8_release _ D cy B x4 μ r22 μ22 hq22) (cwV 1 S.2.2.2.2 (ed_gV ed_w3_219 ed_w3_220 ed_w3_221 ed_w1_1 ed_w3_222) rfl rfl rfl hd_X8_release ⟨Nat.le_of_ble_eq_true rfl, Nat.le_of_ble_eq_true rfl⟩) (ed_rc (q := (RX8, TX8, 6)) (r := (μ 7 14 0)) hK hM ed_v14 rfl (ed_e14 cy B 7 0 _) rfl) rfl hl.1 rfl (Nat.le_of_ble_eq_true rfl) dL_acts_172 ⟨Nat.zero_le _, Nat.zero_le _⟩) hS (fun H locs hM hS => ?_)
              refine lv_bipush (v := (-4)) S.1 S.2.1 dL_acts_175 (by decide) ?_
              refine lv_icmp_ne (tgt := 184) S.1 S.2.1 dL_acts_177 (by decide) (fun c23 => ?_) (fun c23 => ?_)
              · replace hf := ed_in_ c23 hf
                refine lv_iconst (v := 0) S.1 S.2.1 dL_acts_184 (by decide) ?_
                obtain ⟨rfl, rfl⟩ := ed_so hf
                exact ed_rz S hr hlocks rfl hM hS dL_acts_185
              · replace hf := ed_ip c23 hf
                refine lv_iconst (v := 1) S.1 S.2.1 dL_acts_180 (by decide) ?_
                refine lv_goto (tgt := 185) S.1 S.2.1 dL_acts_181 (by decide) ?_
                obtain ⟨rfl, rfl⟩ := ed_so hf
                exact ed_rz S hr hlocks rfl hM hS dL_acts_185
          · replace hf := ed_ip c20 hf
            refine lv_iload_n S.1 S.2.1 dL_acts_133 rfl (lv_at hl 4 rfl) ?_
            refine lv_iconst (v := 5) S.1 S.2.1 dL_acts_134 (by decide) ?_
            refine lv_ishr S.1 S.2.1 dL_acts_135 ?_
            refine lv_iconst (v := 3) S.1 S.2.1 dL_acts_136 (by decide) ?_
            refine lv_iand S.1 S.2.1 dL_acts_137 ?_
            refine lv_if_ne (tgt := 163) S.1 S.2.1 dL_acts_138 (by decide) (fun c24 => ?_) (fun c24 => ?_)
            · replace hf := ed_in_ c24 hf
              refine lv_iload S.1 S.2.1 dL_acts_163 (lv_at hl 0 rfl) ?_
              refine lv_iconst (v := 1) S.1 S.2.1 dL_acts_165 (by decide) ?_
              refine lv_icmp_eq (tgt := 180) S.1 S.2.1 dL_acts_166 (by decide) (fun c25 => ?_) (fun c25 => ?_)
              · replace hf := ed_ip c25 hf
                refine lv_iconst (v := 1) S.1 S.2.1 dL_acts_180 (by decide) ?_
                refine lv_goto (tgt := 185) S.1 S.2.1 dL_acts_181 (by decide) ?_
                obtain ⟨rfl, rfl⟩ := ed_so hf
                exact ed_rz S hr hlocks rfl hM hS dL_acts_185
              · replace hf := ed_in_ c25 hf
                refine lv_aload_n S.1 S.2.1 dL_acts_169 rfl (lv_at hl 2 rfl) ?_
                refine lv_iload S.1 S.2.1 dL_acts_170 (lv_at hl 6 rfl) ?_
                obtain ⟨r26, μ26, hq26, hf⟩ := ed_b2_e hf
                refine ed_kI (ed_rV S hK hM (c_X8_release _ D cy B x4 μ r26 μ26 hq26) (cwV 1 S.2.2.2.2 (ed_gV ed_w3_219 ed_w3_220 ed_w3_221 ed_w1_1 ed_w3_222) rfl rfl rfl hd_X8_release ⟨Nat.le_of_ble_eq_true rfl, Nat.le_of_ble_eq_true rfl⟩) (ed_rc (q := (RX8, TX8, 6)) (r := (μ 7 14 0)) hK hM ed_v14 rfl (ed_e14 cy B 7 0 _) rfl) rfl hl.1 rfl (Nat.le_of_ble_eq_true rfl) dL_acts_172 ⟨Nat.zero_le _, Nat.zero_le _⟩) hS (fun H locs hM hS => ?_)
                refine lv_bipush (v := (-4)) S.1 S.2.1 dL_acts_175 (by decide) ?_
                refine lv_icmp_ne (tgt := 184) S.1 S.2.1 dL_acts_177 (by decide) (fun c27 => ?_) (fun c27 => ?_)
                · replace hf := ed_in_ c27 hf
                  refine lv_iconst (v := 0) S.1 S.2.1 dL_acts_184 (by decide) ?_
                  obtain ⟨rfl, rfl⟩ := ed_so hf
                  exact ed_rz S hr hlocks rfl hM hS dL_acts_185
                · replace hf := ed_ip c27 hf
                  refine lv_iconst (v := 1) S.1 S.2.1 dL_acts_180 (by decide) ?_
                  refine lv_goto (tgt := 185) S.1 S.2.1 dL_acts_181 (by decide) ?_
                  obtain ⟨rfl, rfl⟩ := ed_so hf
                  exact ed_rz S hr hlocks rfl hM hS dL_acts_185
            · replace hf := ed_ip c24 hf
              refine lv_aload_n S.1 S.2.1 dL_acts_141 rfl (lv_at hl 2 rfl) ?_
              refine lv_iload S.1 S.2.1 dL_acts_142 (lv_at hl 6 rfl) ?_
              obtain ⟨r28, μ28, hq28, hf⟩ := ed_b2_e hf
              refine ed_kI (ed_rV S hK hM (c_X8_hold _ D cy B x4 μ r28 μ28 hq28) (cwV 1 S.2.2.2.2 (ed_gV ed_w3_227 ed_w3_228 ed_w3_229 ed_w1_1 ed_w3_230) rfl rfl rfl hd_X8_hold ⟨Nat.le_of_ble_eq_true rfl, Nat.le_of_ble_eq_true rfl⟩) (ed_rc (q := (RX8, TX8, 6)) (r := (μ 7 14 0)) hK hM ed_v14 rfl (ed_e14 cy B 7 0 _) rfl) rfl hl.1 rfl (Nat.le_of_ble_eq_true rfl) dL_acts_144 ⟨Nat.zero_le _, Nat.zero_le _⟩) hS (fun H locs hM hS => ?_)
              refine lv_if_lt (tgt := 184) S.1 S.2.1 dL_acts_147 (by decide) (fun c29 => ?_) (fun c29 => ?_)
              · replace hf := ed_ip c29 hf
                refine lv_iconst (v := 0) S.1 S.2.1 dL_acts_184 (by decide) ?_
                obtain ⟨rfl, rfl⟩ := ed_so hf
                exact ed_rz S hr hlocks rfl hM hS dL_acts_185
              · replace hf := ed_in_ c29 hf
                refine lv_aload_n S.1 S.2.1 dL_acts_150 rfl (lv_at hl 2 rfl) ?_
                refine lv_iload S.1 S.2.1 dL_acts_151 (lv_at hl 6 rfl) ?_
                refine lv_iconst (v := 3) S.1 S.2.1 dL_acts_153 (by decide) ?_
                obtain ⟨r30, hq30, hf⟩ := ed_b_e hf
                refine ed_kI (ed_rV S hK hM (c_X8_story _ D cy B x4 3 μ28 r30 hq30) (cwV 2 S.2.2.2.2 (ed_gV ed_w3_169 ed_w3_170 ed_w3_171 ed_w1_1 ed_w3_172) rfl rfl rfl hd_X8_story ⟨Nat.le_of_ble_eq_true rfl, Nat.le_of_ble_eq_true rfl⟩) (ed_rc (q := (RX8, TX8, 6)) (r := (μ28 7 14 0)) hK hM ed_v14 rfl (ed_e14 cy B 7 0 _) rfl) rfl hl.1 rfl (Nat.le_of_ble_eq_true rfl) dL_acts_154 ⟨Nat.zero_le _, Nat.zero_le _⟩) hS (fun H locs hM hS => ?_)
                refine lv_if_ne (tgt := 184) S.1 S.2.1 dL_acts_157 (by decide) (fun c31 => ?_) (fun c31 => ?_)
                · replace hf := ed_in_ c31 hf
                  refine lv_iconst (v := 0) S.1 S.2.1 dL_acts_184 (by decide) ?_
                  obtain ⟨rfl, rfl⟩ := ed_so hf
                  exact ed_rz S hr hlocks rfl hM hS dL_acts_185
                · replace hf := ed_ip c31 hf
                  refine lv_goto (tgt := 180) S.1 S.2.1 dL_acts_160 (by decide) ?_
                  refine lv_iconst (v := 1) S.1 S.2.1 dL_acts_180 (by decide) ?_
                  refine lv_goto (tgt := 185) S.1 S.2.1 dL_acts_181 (by decide) ?_
                  obtain ⟨rfl, rfl⟩ := ed_so hf
                  exact ed_rz S hr hlocks rfl hM hS dL_acts_185
        · replace hf := ed_ip c19 hf
          refine lv_aload_n S.1 S.2.1 dL_acts_104 rfl (lv_at hl 2 rfl) ?_
          refine lv_iload S.1 S.2.1 dL_acts_105 (lv_at hl 6 rfl) ?_
          obtain ⟨r32, μ32, hq32, hf⟩ := ed_b2_e hf
          refine ed_kI (ed_rV S hK hM (c_X8_release _ D cy B x4 μ r32 μ32 hq32) (cwV 1 S.2.2.2.2 (ed_gV ed_w3_219 ed_w3_220 ed_w3_221 ed_w1_1 ed_w3_222) rfl rfl rfl hd_X8_release ⟨Nat.le_of_ble_eq_true rfl, Nat.le_of_ble_eq_true rfl⟩) (ed_rc (q := (RX8, TX8, 6)) (r := (μ 7 14 0)) hK hM ed_v14 rfl (ed_e14 cy B 7 0 _) rfl) rfl hl.1 rfl (Nat.le_of_ble_eq_true rfl) dL_acts_107 ⟨Nat.zero_le _, Nat.zero_le _⟩) hS (fun H locs hM hS => ?_)
          refine lv_if_lt (tgt := 184) S.1 S.2.1 dL_acts_110 (by decide) (fun c33 => ?_) (fun c33 => ?_)
          · replace hf := ed_ip c33 hf
            refine lv_iconst (v := 0) S.1 S.2.1 dL_acts_184 (by decide) ?_
            obtain ⟨rfl, rfl⟩ := ed_so hf
            exact ed_rz S hr hlocks rfl hM hS dL_acts_185
          · replace hf := ed_in_ c33 hf
            refine lv_aload_n S.1 S.2.1 dL_acts_113 rfl (lv_at hl 2 rfl) ?_
            refine lv_iload S.1 S.2.1 dL_acts_114 (lv_at hl 6 rfl) ?_
            refine lv_iconst (v := 3) S.1 S.2.1 dL_acts_116 (by decide) ?_
            obtain ⟨r34, hq34, hf⟩ := ed_b_e hf
            refine ed_kI (ed_rV S hK hM (c_X8_story _ D cy B x4 3 μ32 r34 hq34) (cwV 2 S.2.2.2.2 (ed_gV ed_w3_169 ed_w3_170 ed_w3_171 ed_w1_1 ed_w3_172) rfl rfl rfl hd_X8_story ⟨Nat.le_of_ble_eq_true rfl, Nat.le_of_ble_eq_true rfl⟩) (ed_rc (q := (RX8, TX8, 6)) (r := (μ32 7 14 0)) hK hM ed_v14 rfl (ed_e14 cy B 7 0 _) rfl) rfl hl.1 rfl (Nat.le_of_ble_eq_true rfl) dL_acts_117 ⟨Nat.zero_le _, Nat.zero_le _⟩) hS (fun H locs hM hS => ?_)
            refine lv_iconst (v := 1) S.1 S.2.1 dL_acts_120 (by decide) ?_
            refine lv_icmp_ne (tgt := 184) S.1 S.2.1 dL_acts_121 (by decide) (fun c35 => ?_) (fun c35 => ?_)
            · replace hf := ed_in_ c35 hf
              refine lv_iconst (v := 0) S.1 S.2.1 dL_acts_184 (by decide) ?_
              obtain ⟨rfl, rfl⟩ := ed_so hf
              exact ed_rz S hr hlocks rfl hM hS dL_acts_185
            · replace hf := ed_ip c35 hf
              refine lv_goto (tgt := 180) S.1 S.2.1 dL_acts_124 (by decide) ?_
              refine lv_iconst (v := 1) S.1 S.2.1 dL_acts_180 (by decide) ?_
              refine lv_goto (tgt := 185) S.1 S.2.1 dL_acts_181 (by decide) ?_
              obtain ⟨rfl, rfl⟩ := ed_so hf
              exact ed_rz S hr hlocks rfl hM hS dL_acts_185
    · replace hf := ed_ip c16 hf
      refine lv_iconst (v := (-1)) S.1 S.2.1 dL_acts_82 (by decide) ?_
      refine lv_goto (tgt := 93) S.1 S.2.1 dL_acts_83 (by decide) ?_
      refine lv_istore (lv' := [(6, .int (-1)), (5, .int y8), (0, .ref (B + ed_oF 7 14 0)), (1, .int x1), (2, .int x2), (3, .int x3), (4, .int x4)]) S.1 S.2.1 dL_acts_93 hl (by decide) rfl (fun ls hl => ?_)
      refine lv_iload_n S.1 S.2.1 dL_acts_95 rfl (lv_at hl 5 rfl) ?_
      refine lv_if_eq (tgt := 180) S.1 S.2.1 dL_acts_96 (by decide) (fun c36 => ?_) (fun c36 => ?_)
      · replace hf := ed_ip c36 hf
        refine lv_iconst (v := 1) S.1 S.2.1 dL_acts_180 (by decide) ?_
        refine lv_goto (tgt := 185) S.1 S.2.1 dL_acts_181 (by decide) ?_
        obtain ⟨rfl, rfl⟩ := ed_so hf
        exact ed_rz S hr hlocks rfl hM hS dL_acts_185
      · replace hf := ed_in_ c36 hf
        refine lv_iload S.1 S.2.1 dL_acts_99 (lv_at hl 0 rfl) ?_
        refine lv_if_ne (tgt := 127) S.1 S.2.1 dL_acts_101 (by decide) (fun _ => ?_) (fun c => absurd c (by decide))
        refine lv_iload S.1 S.2.1 dL_acts_127 (lv_at hl 0 rfl) ?_
        refine lv_iconst (v := 1) S.1 S.2.1 dL_acts_129 (by decide) ?_
        refine lv_icmp_ne (tgt := 163) S.1 S.2.1 dL_acts_130 (by decide) (fun _ => ?_) (fun c => absurd c (by decide))
        refine lv_iload S.1 S.2.1 dL_acts_163 (lv_at hl 0 rfl) ?_
        refine lv_iconst (v := 1) S.1 S.2.1 dL_acts_165 (by decide) ?_
        refine lv_icmp_eq (tgt := 180) S.1 S.2.1 dL_acts_166 (by decide) (fun c => absurd c (by decide)) (fun _ => ?_)
        refine lv_aload_n S.1 S.2.1 dL_acts_169 rfl (lv_at hl 2 rfl) ?_
        refine lv_iload S.1 S.2.1 dL_acts_170 (lv_at hl 6 rfl) ?_
        obtain ⟨r37, μ37, hq37, hf⟩ := ed_b2_e hf
        refine ed_kI (ed_rV S hK hM (c_X8_release _ D cy B x4 μ r37 μ37 hq37) (cwV 1 S.2.2.2.2 (ed_gV ed_w3_219 ed_w3_220 ed_w3_221 ed_w1_1 ed_w3_222) rfl rfl rfl hd_X8_release ⟨Nat.le_of_ble_eq_true rfl, Nat.le_of_ble_eq_true rfl⟩) (ed_rc (q := (RX8, TX8, 6)) (r := (μ 7 14 0)) hK hM ed_v14 rfl (ed_e14 cy B 7 0 _) rfl) rfl hl.1 rfl (Nat.le_of_ble_eq_true rfl) dL_acts_172 ⟨Nat.zero_le _, Nat.zero_le _⟩) hS (fun H locs hM hS => ?_)
        refine lv_bipush (v := (-4)) S.1 S.2.1 dL_acts_175 (by decide) ?_
        refine lv_icmp_ne (tgt := 184) S.1 S.2.1 dL_acts_177 (by decide) (fun c38 => ?_) (fun c38 => ?_)
        · replace hf := ed_in_ c38 hf
          refine lv_iconst (v := 0) S.1 S.2.1 dL_acts_184 (by decide) ?_
          obtain ⟨rfl, rfl⟩ := ed_so hf
          exact ed_rz S hr hlocks rfl hM hS dL_acts_185
        · replace hf := ed_ip c38 hf
          refine lv_iconst (v := 1) S.1 S.2.1 dL_acts_180 (by decide) ?_
          refine lv_goto (tgt := 185) S.1 S.2.1 dL_acts_181 (by decide) ?_
          obtain ⟨rfl, rfl⟩ := ed_so hf
          exact ed_rz S hr hlocks rfl hM hS dL_acts_185
  replace hf := ed_in_ c10 hf
  by_cases c11 : (x1 &&& (7 : Int32) : Int32) = 2
  · replace hf := ed_ip c11 hf
    refine lv_tableIn (tgt := 186) S.1 S.2.1 dL_acts_36 (by rw [c11]; decide) (by rw [c11]; decide) (off := 150) (by rw [c11]; decide) (by decide) ?_
    refine lv_iload_n S.1 S.2.1 dL_acts_186 rfl (lv_at hl 4 rfl) ?_
    refine lv_if_ne (tgt := 194) S.1 S.2.1 dL_acts_187 (by decide) (fun c39 => ?_) (fun c39 => ?_)
    · replace hf := ed_in_ c39 hf
      refine lv_aload_n S.1 S.2.1 dL_acts_194 rfl (lv_at hl 1 rfl) ?_
      refine lv_iload S.1 S.2.1 dL_acts_195 (lv_at hl 5 rfl) ?_
      refine lv_iconst (v := 4) S.1 S.2.1 dL_acts_197 (by decide) ?_
      obtain ⟨r40, hq40, hf⟩ := ed_b_e hf
      refine ed_kI (ed_rV S hK hM (c_X8_story _ D cy B x4 4 μ r40 hq40) (cwV 2 S.2.2.2.2 (ed_gV ed_w3_169 ed_w3_170 ed_w3_171 ed_w1_1 ed_w3_172) rfl rfl rfl hd_X8_story ⟨Nat.le_of_ble_eq_true rfl, Nat.le_of_ble_eq_true rfl⟩) (ed_rc (q := (RX8, TX8, 6)) (r := (μ 7 14 0)) hK hM ed_v14 rfl (ed_e14 cy B 7 0 _) rfl) rfl hl.1 rfl (Nat.le_of_ble_eq_true rfl) dL_acts_198 ⟨Nat.zero_le _, Nat.zero_le _⟩) hS (fun H locs hM hS => ?_)
      refine lv_istore (lv' := [(7, .int r40), (5, .int y8), (0, .ref (B + ed_oF 7 14 0)), (1, .int x1), (2, .int x2), (3, .int x3), (4, .int x4)]) S.1 S.2.1 dL_acts_201 hl (by decide) rfl (fun ls hl => ?_)
      refine lv_iload_n S.1 S.2.1 dL_acts_203 rfl (lv_at hl 5 rfl) ?_
      refine lv_if_eq (tgt := 282) S.1 S.2.1 dL_acts_204 (by decide) (fun c41 => ?_) (fun c41 => ?_)
      · replace hf := ed_ip c41 hf
        refine lv_iconst (v := 1) S.1 S.2.1 dL_acts_282 (by decide) ?_
        refine lv_goto (tgt := 287) S.1 S.2.1 dL_acts_283 (by decide) ?_
        obtain ⟨rfl, rfl⟩ := ed_so hf
        exact ed_rz S hr hlocks rfl hM hS dL_acts_287
      · replace hf := ed_in_ c41 hf
        refine lv_aload_n S.1 S.2.1 dL_acts_207 rfl (lv_at hl 2 rfl) ?_
        refine lv_iload S.1 S.2.1 dL_acts_208 (lv_at hl 6 rfl) ?_
        refine lv_iconst (v := 3) S.1 S.2.1 dL_acts_210 (by decide) ?_
        obtain ⟨r42, hq42, hf⟩ := ed_b_e hf
        refine ed_kI (ed_rV S hK hM (c_X8_story _ D cy B x4 3 μ r42 hq42) (cwV 2 S.2.2.2.2 (ed_gV ed_w3_169 ed_w3_170 ed_w3_171 ed_w1_1 ed_w3_172) rfl rfl rfl hd_X8_story ⟨Nat.le_of_ble_eq_true rfl, Nat.le_of_ble_eq_true rfl⟩) (ed_rc (q := (RX8, TX8, 6)) (r := (μ 7 14 0)) hK hM ed_v14 rfl (ed_e14 cy B 7 0 _) rfl) rfl hl.1 rfl (Nat.le_of_ble_eq_true rfl) dL_acts_211 ⟨Nat.zero_le _, Nat.zero_le _⟩) hS (fun H locs hM hS => ?_)
        refine lv_iconst (v := 2) S.1 S.2.1 dL_acts_214 (by decide) ?_
        refine lv_icmp_eq (tgt := 232) S.1 S.2.1 dL_acts_215 (by decide) (fun c43 => ?_) (fun c43 => ?_)
        · replace hf := ed_ip c43 hf
          refine lv_iload S.1 S.2.1 dL_acts_232 (lv_at hl 0 rfl) ?_
          refine lv_bipush (v := 6) S.1 S.2.1 dL_acts_234 (by decide) ?_
          refine lv_icmp_ne (tgt := 253) S.1 S.2.1 dL_acts_236 (by decide) (fun c44 => ?_) (fun c44 => ?_)
          · replace hf := ed_in_ c44 hf
            refine lv_aload_n S.1 S.2.1 dL_acts_253 rfl (lv_at hl 2 rfl) ?_
            refine lv_iload S.1 S.2.1 dL_acts_254 (lv_at hl 6 rfl) ?_
            obtain ⟨r45, μ45, hq45, hf⟩ := ed_b2_e hf
            refine ed_kI (ed_rV S hK hM (c_X8_correct _ D cy B x4 μ r45 μ45 hq45) (cwV 1 S.2.2.2.2 (ed_gV ed_w3_234 ed_w3_235 ed_w3_236 ed_w1_1 ed_w3_237) rfl rfl rfl hd_X8_correct ⟨Nat.le_of_ble_eq_true rfl, Nat.le_of_ble_eq_true rfl⟩) (ed_rc (q := (RX8, TX8, 6)) (r := (μ 7 14 0)) hK hM ed_v14 rfl (ed_e14 cy B 7 0 _) rfl) rfl hl.1 rfl (Nat.le_of_ble_eq_true rfl) dL_acts_256 ⟨Nat.zero_le _, Nat.zero_le _⟩) hS (fun H locs hM hS => ?_)
            refine lv_iload S.1 S.2.1 dL_acts_259 (lv_at hl 0 rfl) ?_
            refine lv_iconst (v := 1) S.1 S.2.1 dL_acts_261 (by decide) ?_
            refine lv_iadd S.1 S.2.1 dL_acts_262 ?_
            refine lv_icmp_ne (tgt := 286) S.1 S.2.1 dL_acts_263 (by decide) (fun c46 => ?_) (fun c46 => ?_)
            · replace hf := ed_in_ c46 hf
              refine lv_iconst (v := 0) S.1 S.2.1 dL_acts_286 (by decide) ?_
              obtain ⟨rfl, rfl⟩ := ed_so hf
              exact ed_rz S hr hlocks rfl hM hS dL_acts_287
            · replace hf := ed_ip c46 hf
              refine lv_aload_n S.1 S.2.1 dL_acts_266 rfl (lv_at hl 2 rfl) ?_
              refine lv_iload S.1 S.2.1 dL_acts_267 (lv_at hl 6 rfl) ?_
              refine lv_iload S.1 S.2.1 dL_acts_269 (lv_at hl 0 rfl) ?_
              obtain ⟨r47, hq47, hf⟩ := ed_b_e hf
              refine ed_kI (ed_rV S hK hM (c_X8_correction _ D cy B x4 r40 μ45 r47 hq47) (cwV 2 S.2.2.2.2 (ed_gV ed_w3_177 ed_w3_178 ed_w3_179 ed_w1_1 ed_w3_180) rfl rfl rfl hd_X8_correction ⟨Nat.le_of_ble_eq_true rfl, Nat.le_of_ble_eq_true rfl⟩) (ed_rc (q := (RX8, TX8, 6)) (r := (μ45 7 14 0)) hK hM ed_v14 rfl (ed_e14 cy B 7 0 _) rfl) rfl hl.1 rfl (Nat.le_of_ble_eq_true rfl) dL_acts_271 ⟨Nat.zero_le _, Nat.zero_le _⟩) hS (fun H locs hM hS => ?_)
              refine lv_aload_n S.1 S.2.1 dL_acts_274 rfl (lv_at hl 2 rfl) ?_
              refine lv_iconst (v := 0) S.1 S.2.1 dL_acts_275 (by decide) ?_
              obtain ⟨r48, hq48, hf⟩ := ed_b_e hf
              refine ed_kI (ed_rV S hK hM (c_X8_count _ D cy B 0 μ45 r48 hq48) (cwV 1 S.2.2.2.2 (ed_gV ed_w3_115 ed_w3_116 ed_w3_117 ed_w1_1 ed_w3_118) rfl rfl rfl hd_X8_count ⟨Nat.le_of_ble_eq_true rfl, Nat.le_of_ble_eq_true rfl⟩) (ed_rc (q := (RX8, TX8, 6)) (r := (μ45 7 14 0)) hK hM ed_v14 rfl (ed_e14 cy B 7 0 _) rfl) rfl hl.1 rfl (Nat.le_of_ble_eq_true rfl) dL_acts_276 ⟨Nat.zero_le _, Nat.zero_le _⟩) hS (fun H locs hM hS => ?_)
              refine lv_icmp_ne (tgt := 286) S.1 S.2.1 dL_acts_279 (by decide) (fun c49 => ?_) (fun c49 => ?_)
              · replace hf := ed_in_ c49 hf
                refine lv_iconst (v := 0) S.1 S.2.1 dL_acts_286 (by decide) ?_
                obtain ⟨rfl, rfl⟩ := ed_so hf
                exact ed_rz S hr hlocks rfl hM hS dL_acts_287
              · replace hf := ed_ip c49 hf
                refine lv_iconst (v := 1) S.1 S.2.1 dL_acts_282 (by decide) ?_
                refine lv_goto (tgt := 287) S.1 S.2.1 dL_acts_283 (by decide) ?_
                obtain ⟨rfl, rfl⟩ := ed_so hf
                exact ed_rz S hr hlocks rfl hM hS dL_acts_287
          · replace hf := ed_ip c44 hf
            refine lv_aload_n S.1 S.2.1 dL_acts_239 rfl (lv_at hl 2 rfl) ?_
            refine lv_iload S.1 S.2.1 dL_acts_240 (lv_at hl 6 rfl) ?_
            obtain ⟨r50, μ50, hq50, hf⟩ := ed_b2_e hf
            refine ed_kI (ed_rV S hK hM (c_X8_correct _ D cy B x4 μ r50 μ50 hq50) (cwV 1 S.2.2.2.2 (ed_gV ed_w3_234 ed_w3_235 ed_w3_236 ed_w1_1 ed_w3_237) rfl rfl rfl hd_X8_correct ⟨Nat.le_of_ble_eq_true rfl, Nat.le_of_ble_eq_true rfl⟩) (ed_rc (q := (RX8, TX8, 6)) (r := (μ 7 14 0)) hK hM ed_v14 rfl (ed_e14 cy B 7 0 _) rfl) rfl hl.1 rfl (Nat.le_of_ble_eq_true rfl) dL_acts_242 ⟨Nat.zero_le _, Nat.zero_le _⟩) hS (fun H locs hM hS => ?_)
            refine lv_bipush (v := (-3)) S.1 S.2.1 dL_acts_245 (by decide) ?_
            refine lv_icmp_ne (tgt := 286) S.1 S.2.1 dL_acts_247 (by decide) (fun c51 => ?_) (fun c51 => ?_)
            · replace hf := ed_in_ c51 hf
              refine lv_iconst (v := 0) S.1 S.2.1 dL_acts_286 (by decide) ?_
              obtain ⟨rfl, rfl⟩ := ed_so hf
              exact ed_rz S hr hlocks rfl hM hS dL_acts_287
            · replace hf := ed_ip c51 hf
              refine lv_goto (tgt := 282) S.1 S.2.1 dL_acts_250 (by decide) ?_
              refine lv_iconst (v := 1) S.1 S.2.1 dL_acts_282 (by decide) ?_
              refine lv_goto (tgt := 287) S.1 S.2.1 dL_acts_283 (by decide) ?_
              obtain ⟨rfl, rfl⟩ := ed_so hf
              exact ed_rz S hr hlocks rfl hM hS dL_acts_287
        · replace hf := ed_in_ c43 hf
          refine lv_aload_n S.1 S.2.1 dL_acts_218 rfl (lv_at hl 2 rfl) ?_
          refine lv_iload S.1 S.2.1 dL_acts_219 (lv_at hl 6 rfl) ?_
          obtain ⟨r52, μ52, hq52, hf⟩ := ed_b2_e hf
          refine ed_kI (ed_rV S hK hM (c_X8_correct _ D cy B x4 μ r52 μ52 hq52) (cwV 1 S.2.2.2.2 (ed_gV ed_w3_234 ed_w3_235 ed_w3_236 ed_w1_1 ed_w3_237) rfl rfl rfl hd_X8_correct ⟨Nat.le_of_ble_eq_true rfl, Nat.le_of_ble_eq_true rfl⟩) (ed_rc (q := (RX8, TX8, 6)) (r := (μ 7 14 0)) hK hM ed_v14 rfl (ed_e14 cy B 7 0 _) rfl) rfl hl.1 rfl (Nat.le_of_ble_eq_true rfl) dL_acts_221 ⟨Nat.zero_le _, Nat.zero_le _⟩) hS (fun H locs hM hS => ?_)
          refine lv_bipush (v := (-4)) S.1 S.2.1 dL_acts_224 (by decide) ?_
          refine lv_icmp_ne (tgt := 286) S.1 S.2.1 dL_acts_226 (by decide) (fun c53 => ?_) (fun c53 => ?_)
          · replace hf := ed_in_ c53 hf
            refine lv_iconst (v := 0) S.1 S.2.1 dL_acts_286 (by decide) ?_
            obtain ⟨rfl, rfl⟩ := ed_so hf
            exact ed_rz S hr hlocks rfl hM hS dL_acts_287
          · replace hf := ed_ip c53 hf
            refine lv_goto (tgt := 282) S.1 S.2.1 dL_acts_229 (by decide) ?_
            refine lv_iconst (v := 1) S.1 S.2.1 dL_acts_282 (by decide) ?_
            refine lv_goto (tgt := 287) S.1 S.2.1 dL_acts_283 (by decide) ?_
            obtain ⟨rfl, rfl⟩ := ed_so hf
            exact ed_rz S hr hlocks rfl hM hS dL_acts_287
    · replace hf := ed_ip c39 hf
      refine lv_iconst (v := 0) S.1 S.2.1 dL_acts_190 (by decide) ?_
      refine lv_goto (tgt := 201) S.1 S.2.1 dL_acts_191 (by decide) ?_
      refine lv_istore (lv' := [(7, .int 0), (5, .int y8), (0, .ref (B + ed_oF 7 14 0)), (1, .int x1), (2, .int x2), (3, .int x3), (4, .int x4)]) S.1 S.2.1 dL_acts_201 hl (by decide) rfl (fun ls hl => ?_)
      refine lv_iload_n S.1 S.2.1 dL_acts_203 rfl (lv_at hl 5 rfl) ?_
      refine lv_if_eq (tgt := 282) S.1 S.2.1 dL_acts_204 (by decide) (fun c54 => ?_) (fun c54 => ?_)
      · replace hf := ed_ip c54 hf
        refine lv_iconst (v := 1) S.1 S.2.1 dL_acts_282 (by decide) ?_
        refine lv_goto (tgt := 287) S.1 S.2.1 dL_acts_283 (by decide) ?_
        obtain ⟨rfl, rfl⟩ := ed_so hf
        exact ed_rz S hr hlocks rfl hM hS dL_acts_287
      · replace hf := ed_in_ c54 hf
        refine lv_aload_n S.1 S.2.1 dL_acts_207 rfl (lv_at hl 2 rfl) ?_
        refine lv_iload S.1 S.2.1 dL_acts_208 (lv_at hl 6 rfl) ?_
        refine lv_iconst (v := 3) S.1 S.2.1 dL_acts_210 (by decide) ?_
        obtain ⟨r55, hq55, hf⟩ := ed_b_e hf
        refine ed_kI (ed_rV S hK hM (c_X8_story _ D cy B x4 3 μ r55 hq55) (cwV 2 S.2.2.2.2 (ed_gV ed_w3_169 ed_w3_170 ed_w3_171 ed_w1_1 ed_w3_172) rfl rfl rfl hd_X8_story ⟨Nat.le_of_ble_eq_true rfl, Nat.le_of_ble_eq_true rfl⟩) (ed_rc (q := (RX8, TX8, 6)) (r := (μ 7 14 0)) hK hM ed_v14 rfl (ed_e14 cy B 7 0 _) rfl) rfl hl.1 rfl (Nat.le_of_ble_eq_true rfl) dL_acts_211 ⟨Nat.zero_le _, Nat.zero_le _⟩) hS (fun H locs hM hS => ?_)
        refine lv_iconst (v := 2) S.1 S.2.1 dL_acts_214 (by decide) ?_
        refine lv_icmp_eq (tgt := 232) S.1 S.2.1 dL_acts_215 (by decide) (fun c56 => ?_) (fun c56 => ?_)
        · replace hf := ed_ip c56 hf
          refine lv_iload S.1 S.2.1 dL_acts_232 (lv_at hl 0 rfl) ?_
          refine lv_bipush (v := 6) S.1 S.2.1 dL_acts_234 (by decide) ?_
          refine lv_icmp_ne (tgt := 253) S.1 S.2.1 dL_acts_236 (by decide) (fun _ => ?_) (fun c => absurd c (by decide))
          refine lv_aload_n S.1 S.2.1 dL_acts_253 rfl (lv_at hl 2 rfl) ?_
          refine lv_iload S.1 S.2.1 dL_acts_254 (lv_at hl 6 rfl) ?_
          obtain ⟨r57, μ57, hq57, hf⟩ := ed_b2_e hf
          refine ed_kI (ed_rV S hK hM (c_X8_correct _ D cy B x4 μ r57 μ57 hq57) (cwV 1 S.2.2.2.2 (ed_gV ed_w3_234 ed_w3_235 ed_w3_236 ed_w1_1 ed_w3_237) rfl rfl rfl hd_X8_correct ⟨Nat.le_of_ble_eq_true rfl, Nat.le_of_ble_eq_true rfl⟩) (ed_rc (q := (RX8, TX8, 6)) (r := (μ 7 14 0)) hK hM ed_v14 rfl (ed_e14 cy B 7 0 _) rfl) rfl hl.1 rfl (Nat.le_of_ble_eq_true rfl) dL_acts_256 ⟨Nat.zero_le _, Nat.zero_le _⟩) hS (fun H locs hM hS => ?_)
          refine lv_iload S.1 S.2.1 dL_acts_259 (lv_at hl 0 rfl) ?_
          refine lv_iconst (v := 1) S.1 S.2.1 dL_acts_261 (by decide) ?_
          refine lv_iadd S.1 S.2.1 dL_acts_262 ?_
          refine lv_icmp_ne (tgt := 286) S.1 S.2.1 dL_acts_263 (by decide) (fun c58 => ?_) (fun c58 => ?_)
          · replace hf := ed_in_ c58 hf
            refine lv_iconst (v := 0) S.1 S.2.1 dL_acts_286 (by decide) ?_
            obtain ⟨rfl, rfl⟩ := ed_so hf
            exact ed_rz S hr hlocks rfl hM hS dL_acts_287
          · replace hf := ed_ip c58 hf
            refine lv_aload_n S.1 S.2.1 dL_acts_266 rfl (lv_at hl 2 rfl) ?_
            refine lv_iload S.1 S.2.1 dL_acts_267 (lv_at hl 6 rfl) ?_
            refine lv_iload S.1 S.2.1 dL_acts_269 (lv_at hl 0 rfl) ?_
            obtain ⟨r59, hq59, hf⟩ := ed_b_e hf
            refine ed_kI (ed_rV S hK hM (c_X8_correction _ D cy B x4 0 μ57 r59 hq59) (cwV 2 S.2.2.2.2 (ed_gV ed_w3_177 ed_w3_178 ed_w3_179 ed_w1_1 ed_w3_180) rfl rfl rfl hd_X8_correction ⟨Nat.le_of_ble_eq_true rfl, Nat.le_of_ble_eq_true rfl⟩) (ed_rc (q := (RX8, TX8, 6)) (r := (μ57 7 14 0)) hK hM ed_v14 rfl (ed_e14 cy B 7 0 _) rfl) rfl hl.1 rfl (Nat.le_of_ble_eq_true rfl) dL_acts_271 ⟨Nat.zero_le _, Nat.zero_le _⟩) hS (fun H locs hM hS => ?_)
            refine lv_aload_n S.1 S.2.1 dL_acts_274 rfl (lv_at hl 2 rfl) ?_
            refine lv_iconst (v := 0) S.1 S.2.1 dL_acts_275 (by decide) ?_
            obtain ⟨r60, hq60, hf⟩ := ed_b_e hf
            refine ed_kI (ed_rV S hK hM (c_X8_count _ D cy B 0 μ57 r60 hq60) (cwV 1 S.2.2.2.2 (ed_gV ed_w3_115 ed_w3_116 ed_w3_117 ed_w1_1 ed_w3_118) rfl rfl rfl hd_X8_count ⟨Nat.le_of_ble_eq_true rfl, Nat.le_of_ble_eq_true rfl⟩) (ed_rc (q := (RX8, TX8, 6)) (r := (μ57 7 14 0)) hK hM ed_v14 rfl (ed_e14 cy B 7 0 _) rfl) rfl hl.1 rfl (Nat.le_of_ble_eq_true rfl) dL_acts_276 ⟨Nat.zero_le _, Nat.zero_le _⟩) hS (fun H locs hM hS => ?_)
            refine lv_icmp_ne (tgt := 286) S.1 S.2.1 dL_acts_279 (by decide) (fun c61 => ?_) (fun c61 => ?_)
            · replace hf := ed_in_ c61 hf
              refine lv_iconst (v := 0) S.1 S.2.1 dL_acts_286 (by decide) ?_
              obtain ⟨rfl, rfl⟩ := ed_so hf
              exact ed_rz S hr hlocks rfl hM hS dL_acts_287
            · replace hf := ed_ip c61 hf
              refine lv_iconst (v := 1) S.1 S.2.1 dL_acts_282 (by decide) ?_
              refine lv_goto (tgt := 287) S.1 S.2.1 dL_acts_283 (by decide) ?_
              obtain ⟨rfl, rfl⟩ := ed_so hf
              exact ed_rz S hr hlocks rfl hM hS dL_acts_287
        · replace hf := ed_in_ c56 hf
          refine lv_aload_n S.1 S.2.1 dL_acts_218 rfl (lv_at hl 2 rfl) ?_
          refine lv_iload S.1 S.2.1 dL_acts_219 (lv_at hl 6 rfl) ?_
          obtain ⟨r62, μ62, hq62, hf⟩ := ed_b2_e hf
          refine ed_kI (ed_rV S hK hM (c_X8_correct _ D cy B x4 μ r62 μ62 hq62) (cwV 1 S.2.2.2.2 (ed_gV ed_w3_234 ed_w3_235 ed_w3_236 ed_w1_1 ed_w3_237) rfl rfl rfl hd_X8_correct ⟨Nat.le_of_ble_eq_true rfl, Nat.le_of_ble_eq_true rfl⟩) (ed_rc (q := (RX8, TX8, 6)) (r := (μ 7 14 0)) hK hM ed_v14 rfl (ed_e14 cy B 7 0 _) rfl) rfl hl.1 rfl (Nat.le_of_ble_eq_true rfl) dL_acts_221 ⟨Nat.zero_le _, Nat.zero_le _⟩) hS (fun H locs hM hS => ?_)
          refine lv_bipush (v := (-4)) S.1 S.2.1 dL_acts_224 (by decide) ?_
          refine lv_icmp_ne (tgt := 286) S.1 S.2.1 dL_acts_226 (by decide) (fun c63 => ?_) (fun c63 => ?_)
          · replace hf := ed_in_ c63 hf
            refine lv_iconst (v := 0) S.1 S.2.1 dL_acts_286 (by decide) ?_
            obtain ⟨rfl, rfl⟩ := ed_so hf
            exact ed_rz S hr hlocks rfl hM hS dL_acts_287
          · replace hf := ed_ip c63 hf
            refine lv_goto (tgt := 282) S.1 S.2.1 dL_acts_229 (by decide) ?_
            refine lv_iconst (v := 1) S.1 S.2.1 dL_acts_282 (by decide) ?_
            refine lv_goto (tgt := 287) S.1 S.2.1 dL_acts_283 (by decide) ?_
            obtain ⟨rfl, rfl⟩ := ed_so hf
            exact ed_rz S hr hlocks rfl hM hS dL_acts_287
  replace hf := ed_in_ c11 hf
  by_cases c12 : (x1 &&& (7 : Int32) : Int32) = 3
  · replace hf := ed_ip c12 hf
    refine lv_tableIn (tgt := 288) S.1 S.2.1 dL_acts_36 (by rw [c12]; decide) (by rw [c12]; decide) (off := 252) (by rw [c12]; decide) (by decide) ?_
    refine lv_aload_n S.1 S.2.1 dL_acts_288 rfl (lv_at hl 1 rfl) ?_
    refine lv_iload S.1 S.2.1 dL_acts_289 (lv_at hl 0 rfl) ?_
    refine lv_iconst (v := 5) S.1 S.2.1 dL_acts_291 (by decide) ?_
    obtain ⟨r64, hq64, hf⟩ := ed_b_e hf
    refine ed_kI (ed_rV S hK hM (c_X8_client _ D cy B y8 5 μ r64 hq64) (cwV 2 S.2.2.2.2 (ed_gV ed_w3_104 ed_w3_105 ed_w3_106 ed_w1_1 ed_w3_107) rfl rfl rfl hd_X8_client ⟨Nat.le_of_ble_eq_true rfl, Nat.le_of_ble_eq_true rfl⟩) (ed_rc (q := (RX8, TX8, 6)) (r := (μ 7 14 0)) hK hM ed_v14 rfl (ed_e14 cy B 7 0 _) rfl) rfl hl.1 rfl (Nat.le_of_ble_eq_true rfl) dL_acts_292 ⟨Nat.zero_le _, Nat.zero_le _⟩) hS (fun H locs hM hS => ?_)
    refine lv_iconst (v := 1) S.1 S.2.1 dL_acts_295 (by decide) ?_
    refine lv_icmp_ne (tgt := 303) S.1 S.2.1 dL_acts_296 (by decide) (fun c65 => ?_) (fun c65 => ?_)
    · replace hf := ed_in_ c65 hf
      refine lv_iconst (v := 0) S.1 S.2.1 dL_acts_303 (by decide) ?_
      refine lv_istore (lv' := [(8, .int 0), (5, .int y8), (0, .ref (B + ed_oF 7 14 0)), (1, .int x1), (2, .int x2), (3, .int x3), (4, .int x4)]) S.1 S.2.1 dL_acts_304 hl (by decide) rfl (fun ls hl => ?_)
      refine lv_iload_n S.1 S.2.1 dL_acts_306 rfl (lv_at hl 4 rfl) ?_
      refine lv_iconst (v := 4) S.1 S.2.1 dL_acts_307 (by decide) ?_
      refine lv_ishr S.1 S.2.1 dL_acts_308 ?_
      refine lv_iconst (v := 1) S.1 S.2.1 dL_acts_309 (by decide) ?_
      refine lv_iand S.1 S.2.1 dL_acts_310 ?_
      refine lv_iconst (v := 1) S.1 S.2.1 dL_acts_311 (by decide) ?_
      refine lv_icmp_ne (tgt := 320) S.1 S.2.1 dL_acts_312 (by decide) (fun c66 => ?_) (fun c66 => ?_)
      · replace hf := ed_in_ c66 hf
        refine lv_aload_n S.1 S.2.1 dL_acts_320 rfl (lv_at hl 2 rfl) ?_
        refine lv_iload S.1 S.2.1 dL_acts_321 (lv_at hl 1 rfl) ?_
        refine lv_iload S.1 S.2.1 dL_acts_323 (lv_at hl 0 rfl) ?_
        refine lv_if_ne (tgt := 332) S.1 S.2.1 dL_acts_325 (by decide) (fun c => absurd c (by decide)) (fun _ => ?_)
        refine lv_iconst (v := 1) S.1 S.2.1 dL_acts_328 (by decide) ?_
        refine lv_goto (tgt := 333) S.1 S.2.1 dL_acts_329 (by decide) ?_
        obtain ⟨r67, μ67, hq67, hf⟩ := ed_b2_e hf
        refine ed_kI (ed_rV S hK hM (c_X8_setUp _ D cy B y8 1 μ r67 μ67 hq67) (cwV 2 S.2.2.2.2 (ed_gV ed_w4_3 ed_w4_4 ed_w4_5 ed_w1_1 ed_w4_6) rfl rfl rfl hd_X8_setUp ⟨Nat.le_of_ble_eq_true rfl, Nat.le_of_ble_eq_true rfl⟩) (ed_rc (q := (RX8, TX8, 6)) (r := (μ 7 14 0)) hK hM ed_v14 rfl (ed_e14 cy B 7 0 _) rfl) rfl hl.1 rfl (Nat.le_of_ble_eq_true rfl) dL_acts_333 ⟨Nat.zero_le _, Nat.zero_le _⟩) hS (fun H locs hM hS => ?_)
        refine lv_if_lt (tgt := 363) S.1 S.2.1 dL_acts_336 (by decide) (fun c68 => ?_) (fun c68 => ?_)
        · replace hf := ed_ip c68 hf
          refine lv_iconst (v := 0) S.1 S.2.1 dL_acts_363 (by decide) ?_
          obtain ⟨rfl, rfl⟩ := ed_so hf
          exact ed_rz S hr hlocks rfl hM hS dL_acts_364
        · replace hf := ed_in_ c68 hf
          refine lv_aload_n S.1 S.2.1 dL_acts_339 rfl (lv_at hl 2 rfl) ?_
          refine lv_iload S.1 S.2.1 dL_acts_340 (lv_at hl 1 rfl) ?_
          refine lv_iconst (v := 5) S.1 S.2.1 dL_acts_342 (by decide) ?_
          obtain ⟨r69, hq69, hf⟩ := ed_b_e hf
          refine ed_kI (ed_rV S hK hM (c_X8_client _ D cy B y8 5 μ67 r69 hq69) (cwV 2 S.2.2.2.2 (ed_gV ed_w3_104 ed_w3_105 ed_w3_106 ed_w1_1 ed_w3_107) rfl rfl rfl hd_X8_client ⟨Nat.le_of_ble_eq_true rfl, Nat.le_of_ble_eq_true rfl⟩) (ed_rc (q := (RX8, TX8, 6)) (r := (μ67 7 14 0)) hK hM ed_v14 rfl (ed_e14 cy B 7 0 _) rfl) rfl hl.1 rfl (Nat.le_of_ble_eq_true rfl) dL_acts_343 ⟨Nat.zero_le _, Nat.zero_le _⟩) hS (fun H locs hM hS => ?_)
          refine lv_iload S.1 S.2.1 dL_acts_346 (lv_at hl 0 rfl) ?_
          refine lv_if_eq (tgt := 355) S.1 S.2.1 dL_acts_348 (by decide) (fun _ => ?_) (fun c => absurd c (by decide))
          refine lv_iconst (v := 1) S.1 S.2.1 dL_acts_355 (by decide) ?_
          refine lv_icmp_ne (tgt := 363) S.1 S.2.1 dL_acts_356 (by decide) (fun c70 => ?_) (fun c70 => ?_)
          · replace hf := ed_in_ c70 hf
            refine lv_iconst (v := 0) S.1 S.2.1 dL_acts_363 (by decide) ?_
            obtain ⟨rfl, rfl⟩ := ed_so hf
            exact ed_rz S hr hlocks rfl hM hS dL_acts_364
          · replace hf := ed_ip c70 hf
            refine lv_iconst (v := 1) S.1 S.2.1 dL_acts_359 (by decide) ?_
            refine lv_goto (tgt := 364) S.1 S.2.1 dL_acts_360 (by decide) ?_
            obtain ⟨rfl, rfl⟩ := ed_so hf
            exact ed_rz S hr hlocks rfl hM hS dL_acts_364
      · replace hf := ed_ip c66 hf
        refine lv_iload S.1 S.2.1 dL_acts_315 (lv_at hl 0 rfl) ?_
        refine lv_if_ne (tgt := 359) S.1 S.2.1 dL_acts_317 (by decide) (fun c => absurd c (by decide)) (fun _ => ?_)
        refine lv_aload_n S.1 S.2.1 dL_acts_320 rfl (lv_at hl 2 rfl) ?_
        refine lv_iload S.1 S.2.1 dL_acts_321 (lv_at hl 1 rfl) ?_
        refine lv_iload S.1 S.2.1 dL_acts_323 (lv_at hl 0 rfl) ?_
        refine lv_if_ne (tgt := 332) S.1 S.2.1 dL_acts_325 (by decide) (fun c => absurd c (by decide)) (fun _ => ?_)
        refine lv_iconst (v := 1) S.1 S.2.1 dL_acts_328 (by decide) ?_
        refine lv_goto (tgt := 333) S.1 S.2.1 dL_acts_329 (by decide) ?_
        obtain ⟨r71, μ71, hq71, hf⟩ := ed_b2_e hf
        refine ed_kI (ed_rV S hK hM (c_X8_setUp _ D cy B y8 1 μ r71 μ71 hq71) (cwV 2 S.2.2.2.2 (ed_gV ed_w4_3 ed_w4_4 ed_w4_5 ed_w1_1 ed_w4_6) rfl rfl rfl hd_X8_setUp ⟨Nat.le_of_ble_eq_true rfl, Nat.le_of_ble_eq_true rfl⟩) (ed_rc (q := (RX8, TX8, 6)) (r := (μ 7 14 0)) hK hM ed_v14 rfl (ed_e14 cy B 7 0 _) rfl) rfl hl.1 rfl (Nat.le_of_ble_eq_true rfl) dL_acts_333 ⟨Nat.zero_le _, Nat.zero_le _⟩) hS (fun H locs hM hS => ?_)
        refine lv_if_lt (tgt := 363) S.1 S.2.1 dL_acts_336 (by decide) (fun c72 => ?_) (fun c72 => ?_)
        · replace hf := ed_ip c72 hf
          refine lv_iconst (v := 0) S.1 S.2.1 dL_acts_363 (by decide) ?_
          obtain ⟨rfl, rfl⟩ := ed_so hf
          exact ed_rz S hr hlocks rfl hM hS dL_acts_364
        · replace hf := ed_in_ c72 hf
          refine lv_aload_n S.1 S.2.1 dL_acts_339 rfl (lv_at hl 2 rfl) ?_
          refine lv_iload S.1 S.2.1 dL_acts_340 (lv_at hl 1 rfl) ?_
          refine lv_iconst (v := 5) S.1 S.2.1 dL_acts_342 (by decide) ?_
          obtain ⟨r73, hq73, hf⟩ := ed_b_e hf
          refine ed_kI (ed_rV S hK hM (c_X8_client _ D cy B y8 5 μ71 r73 hq73) (cwV 2 S.2.2.2.2 (ed_gV ed_w3_104 ed_w3_105 ed_w3_106 ed_w1_1 ed_w3_107) rfl rfl rfl hd_X8_client ⟨Nat.le_of_ble_eq_true rfl, Nat.le_of_ble_eq_true rfl⟩) (ed_rc (q := (RX8, TX8, 6)) (r := (μ71 7 14 0)) hK hM ed_v14 rfl (ed_e14 cy B 7 0 _) rfl) rfl hl.1 rfl (Nat.le_of_ble_eq_true rfl) dL_acts_343 ⟨Nat.zero_le _, Nat.zero_le _⟩) hS (fun H locs hM hS => ?_)
          refine lv_iload S.1 S.2.1 dL_acts_346 (lv_at hl 0 rfl) ?_
          refine lv_if_eq (tgt := 355) S.1 S.2.1 dL_acts_348 (by decide) (fun _ => ?_) (fun c => absurd c (by decide))
          refine lv_iconst (v := 1) S.1 S.2.1 dL_acts_355 (by decide) ?_
          refine lv_icmp_ne (tgt := 363) S.1 S.2.1 dL_acts_356 (by decide) (fun c74 => ?_) (fun c74 => ?_)
          · replace hf := ed_in_ c74 hf
            refine lv_iconst (v := 0) S.1 S.2.1 dL_acts_363 (by decide) ?_
            obtain ⟨rfl, rfl⟩ := ed_so hf
            exact ed_rz S hr hlocks rfl hM hS dL_acts_364
          · replace hf := ed_ip c74 hf
            refine lv_iconst (v := 1) S.1 S.2.1 dL_acts_359 (by decide) ?_
            refine lv_goto (tgt := 364) S.1 S.2.1 dL_acts_360 (by decide) ?_
            obtain ⟨rfl, rfl⟩ := ed_so hf
            exact ed_rz S hr hlocks rfl hM hS dL_acts_364
    · replace hf := ed_ip c65 hf
      refine lv_iconst (v := 1) S.1 S.2.1 dL_acts_299 (by decide) ?_
      refine lv_goto (tgt := 304) S.1 S.2.1 dL_acts_300 (by decide) ?_
      refine lv_istore (lv' := [(8, .int 1), (5, .int y8), (0, .ref (B + ed_oF 7 14 0)), (1, .int x1), (2, .int x2), (3, .int x3), (4, .int x4)]) S.1 S.2.1 dL_acts_304 hl (by decide) rfl (fun ls hl => ?_)
      refine lv_iload_n S.1 S.2.1 dL_acts_306 rfl (lv_at hl 4 rfl) ?_
      refine lv_iconst (v := 4) S.1 S.2.1 dL_acts_307 (by decide) ?_
      refine lv_ishr S.1 S.2.1 dL_acts_308 ?_
      refine lv_iconst (v := 1) S.1 S.2.1 dL_acts_309 (by decide) ?_
      refine lv_iand S.1 S.2.1 dL_acts_310 ?_
      refine lv_iconst (v := 1) S.1 S.2.1 dL_acts_311 (by decide) ?_
      refine lv_icmp_ne (tgt := 320) S.1 S.2.1 dL_acts_312 (by decide) (fun c75 => ?_) (fun c75 => ?_)
      · replace hf := ed_in_ c75 hf
        refine lv_aload_n S.1 S.2.1 dL_acts_320 rfl (lv_at hl 2 rfl) ?_
        refine lv_iload S.1 S.2.1 dL_acts_321 (lv_at hl 1 rfl) ?_
        refine lv_iload S.1 S.2.1 dL_acts_323 (lv_at hl 0 rfl) ?_
        refine lv_if_ne (tgt := 332) S.1 S.2.1 dL_acts_325 (by decide) (fun _ => ?_) (fun c => absurd c (by decide))
        refine lv_iconst (v := 0) S.1 S.2.1 dL_acts_332 (by decide) ?_
        obtain ⟨r76, μ76, hq76, hf⟩ := ed_b2_e hf
        refine ed_kI (ed_rV S hK hM (c_X8_setUp _ D cy B y8 0 μ r76 μ76 hq76) (cwV 2 S.2.2.2.2 (ed_gV ed_w4_3 ed_w4_4 ed_w4_5 ed_w1_1 ed_w4_6) rfl rfl rfl hd_X8_setUp ⟨Nat.le_of_ble_eq_true rfl, Nat.le_of_ble_eq_true rfl⟩) (ed_rc (q := (RX8, TX8, 6)) (r := (μ 7 14 0)) hK hM ed_v14 rfl (ed_e14 cy B 7 0 _) rfl) rfl hl.1 rfl (Nat.le_of_ble_eq_true rfl) dL_acts_333 ⟨Nat.zero_le _, Nat.zero_le _⟩) hS (fun H locs hM hS => ?_)
        refine lv_if_lt (tgt := 363) S.1 S.2.1 dL_acts_336 (by decide) (fun c77 => ?_) (fun c77 => ?_)
        · replace hf := ed_ip c77 hf
          refine lv_iconst (v := 0) S.1 S.2.1 dL_acts_363 (by decide) ?_
          obtain ⟨rfl, rfl⟩ := ed_so hf
          exact ed_rz S hr hlocks rfl hM hS dL_acts_364
        · replace hf := ed_in_ c77 hf
          refine lv_aload_n S.1 S.2.1 dL_acts_339 rfl (lv_at hl 2 rfl) ?_
          refine lv_iload S.1 S.2.1 dL_acts_340 (lv_at hl 1 rfl) ?_
          refine lv_iconst (v := 5) S.1 S.2.1 dL_acts_342 (by decide) ?_
          obtain ⟨r78, hq78, hf⟩ := ed_b_e hf
          refine ed_kI (ed_rV S hK hM (c_X8_client _ D cy B y8 5 μ76 r78 hq78) (cwV 2 S.2.2.2.2 (ed_gV ed_w3_104 ed_w3_105 ed_w3_106 ed_w1_1 ed_w3_107) rfl rfl rfl hd_X8_client ⟨Nat.le_of_ble_eq_true rfl, Nat.le_of_ble_eq_true rfl⟩) (ed_rc (q := (RX8, TX8, 6)) (r := (μ76 7 14 0)) hK hM ed_v14 rfl (ed_e14 cy B 7 0 _) rfl) rfl hl.1 rfl (Nat.le_of_ble_eq_true rfl) dL_acts_343 ⟨Nat.zero_le _, Nat.zero_le _⟩) hS (fun H locs hM hS => ?_)
          refine lv_iload S.1 S.2.1 dL_acts_346 (lv_at hl 0 rfl) ?_
          refine lv_if_eq (tgt := 355) S.1 S.2.1 dL_acts_348 (by decide) (fun c => absurd c (by decide)) (fun _ => ?_)
          refine lv_iconst (v := 0) S.1 S.2.1 dL_acts_351 (by decide) ?_
          refine lv_goto (tgt := 356) S.1 S.2.1 dL_acts_352 (by decide) ?_
          refine lv_icmp_ne (tgt := 363) S.1 S.2.1 dL_acts_356 (by decide) (fun c79 => ?_) (fun c79 => ?_)
          · replace hf := ed_in_ c79 hf
            refine lv_iconst (v := 0) S.1 S.2.1 dL_acts_363 (by decide) ?_
            obtain ⟨rfl, rfl⟩ := ed_so hf
            exact ed_rz S hr hlocks rfl hM hS dL_acts_364
          · replace hf := ed_ip c79 hf
            refine lv_iconst (v := 1) S.1 S.2.1 dL_acts_359 (by decide) ?_
            refine lv_goto (tgt := 364) S.1 S.2.1 dL_acts_360 (by decide) ?_
            obtain ⟨rfl, rfl⟩ := ed_so hf
            exact ed_rz S hr hlocks rfl hM hS dL_acts_364
      · replace hf := ed_ip c75 hf
        refine lv_iload S.1 S.2.1 dL_acts_315 (lv_at hl 0 rfl) ?_
        refine lv_if_ne (tgt := 359) S.1 S.2.1 dL_acts_317 (by decide) (fun _ => ?_) (fun c => absurd c (by decide))
        refine lv_iconst (v := 1) S.1 S.2.1 dL_acts_359 (by decide) ?_
        refine lv_goto (tgt := 364) S.1 S.2.1 dL_acts_360 (by decide) ?_
        obtain ⟨rfl, rfl⟩ := ed_so hf
        exact ed_rz S hr hlocks rfl hM hS dL_acts_364
  replace hf := ed_in_ c12 hf
  by_cases c13 : (x1 &&& (7 : Int32) : Int32) = 4
  · replace hf := ed_ip c13 hf
    refine lv_tableIn (tgt := 365) S.1 S.2.1 dL_acts_36 (by rw [c13]; decide) (by rw [c13]; decide) (off := 329) (by rw [c13]; decide) (by decide) ?_
    refine lv_iload_n S.1 S.2.1 dL_acts_365 rfl (lv_at hl 4 rfl) ?_
    refine lv_if_eq (tgt := 435) S.1 S.2.1 dL_acts_366 (by decide) (fun c80 => ?_) (fun c80 => ?_)
    · replace hf := ed_ip c80 hf
      refine lv_iconst (v := 1) S.1 S.2.1 dL_acts_435 (by decide) ?_
      refine lv_goto (tgt := 440) S.1 S.2.1 dL_acts_436 (by decide) ?_
      obtain ⟨rfl, rfl⟩ := ed_so hf
      exact ed_rz S hr hlocks rfl hM hS dL_acts_440
    · replace hf := ed_in_ c80 hf
      refine lv_iload_n S.1 S.2.1 dL_acts_369 rfl (lv_at hl 3 rfl) ?_
      refine lv_iconst (v := 5) S.1 S.2.1 dL_acts_370 (by decide) ?_
      refine lv_ishr S.1 S.2.1 dL_acts_371 ?_
      refine lv_iconst (v := 3) S.1 S.2.1 dL_acts_372 (by decide) ?_
      refine lv_iand S.1 S.2.1 dL_acts_373 ?_
      refine lv_if_gt (tgt := 435) S.1 S.2.1 dL_acts_374 (by decide) (fun c81 => ?_) (fun c81 => ?_)
      · replace hf := ed_ip c81 hf
        refine lv_iconst (v := 1) S.1 S.2.1 dL_acts_435 (by decide) ?_
        refine lv_goto (tgt := 440) S.1 S.2.1 dL_acts_436 (by decide) ?_
        obtain ⟨rfl, rfl⟩ := ed_so hf
        exact ed_rz S hr hlocks rfl hM hS dL_acts_440
      · replace hf := ed_in_ c81 hf
        refine lv_aload_n S.1 S.2.1 dL_acts_377 rfl (lv_at hl 1 rfl) ?_
        refine lv_iload S.1 S.2.1 dL_acts_378 (lv_at hl 5 rfl) ?_
        refine lv_iconst (v := 3) S.1 S.2.1 dL_acts_380 (by decide) ?_
        obtain ⟨r82, hq82, hf⟩ := ed_b_e hf
        refine ed_kI (ed_rV S hK hM (c_X8_story _ D cy B x4 3 μ r82 hq82) (cwV 2 S.2.2.2.2 (ed_gV ed_w3_169 ed_w3_170 ed_w3_171 ed_w1_1 ed_w3_172) rfl rfl rfl hd_X8_story ⟨Nat.le_of_ble_eq_true rfl, Nat.le_of_ble_eq_true rfl⟩) (ed_rc (q := (RX8, TX8, 6)) (r := (μ 7 14 0)) hK hM ed_v14 rfl (ed_e14 cy B 7 0 _) rfl) rfl hl.1 rfl (Nat.le_of_ble_eq_true rfl) dL_acts_381 ⟨Nat.zero_le _, Nat.zero_le _⟩) hS (fun H locs hM hS => ?_)
        refine lv_iconst (v := 3) S.1 S.2.1 dL_acts_384 (by decide) ?_
        refine lv_icmp_ne (tgt := 402) S.1 S.2.1 dL_acts_385 (by decide) (fun c83 => ?_) (fun c83 => ?_)
        · replace hf := ed_in_ c83 hf
          refine lv_aload_n S.1 S.2.1 dL_acts_402 rfl (lv_at hl 1 rfl) ?_
          refine lv_iload S.1 S.2.1 dL_acts_403 (lv_at hl 5 rfl) ?_
          obtain ⟨r84, μ84, hq84, hf⟩ := ed_b2_e hf
          refine ed_kI (ed_rV S hK hM (c_X8_kill _ D cy B x4 μ r84 μ84 hq84) (cwV 1 S.2.2.2.2 (ed_gV ed_w4_7 ed_w4_8 ed_w4_9 ed_w1_1 ed_w4_10) rfl rfl rfl hd_X8_kill ⟨Nat.le_of_ble_eq_true rfl, Nat.le_of_ble_eq_true rfl⟩) (ed_rc (q := (RX8, TX8, 6)) (r := (μ 7 14 0)) hK hM ed_v14 rfl (ed_e14 cy B 7 0 _) rfl) rfl hl.1 rfl (Nat.le_of_ble_eq_true rfl) dL_acts_405 ⟨Nat.zero_le _, Nat.zero_le _⟩) hS (fun H locs hM hS => ?_)
          refine lv_aload_n S.1 S.2.1 dL_acts_408 rfl (lv_at hl 1 rfl) ?_
          refine lv_iload S.1 S.2.1 dL_acts_409 (lv_at hl 5 rfl) ?_
          refine lv_bipush (v := 9) S.1 S.2.1 dL_acts_411 (by decide) ?_
          obtain ⟨r85, hq85, hf⟩ := ed_b_e hf
          refine ed_kI (ed_rV S hK hM (c_X8_story _ D cy B x4 9 μ84 r85 hq85) (cwV 2 S.2.2.2.2 (ed_gV ed_w3_169 ed_w3_170 ed_w3_171 ed_w1_1 ed_w3_172) rfl rfl rfl hd_X8_story ⟨Nat.le_of_ble_eq_true rfl, Nat.le_of_ble_eq_true rfl⟩) (ed_rc (q := (RX8, TX8, 6)) (r := (μ84 7 14 0)) hK hM ed_v14 rfl (ed_e14 cy B 7 0 _) rfl) rfl hl.1 rfl (Nat.le_of_ble_eq_true rfl) dL_acts_413 ⟨Nat.zero_le _, Nat.zero_le _⟩) hS (fun H locs hM hS => ?_)
          refine lv_icmp_ne (tgt := 439) S.1 S.2.1 dL_acts_416 (by decide) (fun c86 => ?_) (fun c86 => ?_)
          · replace hf := ed_in_ c86 hf
            refine lv_iconst (v := 0) S.1 S.2.1 dL_acts_439 (by decide) ?_
            obtain ⟨rfl, rfl⟩ := ed_so hf
            exact ed_rz S hr hlocks rfl hM hS dL_acts_440
          · replace hf := ed_ip c86 hf
            refine lv_aload_n S.1 S.2.1 dL_acts_419 rfl (lv_at hl 1 rfl) ?_
            refine lv_iload S.1 S.2.1 dL_acts_420 (lv_at hl 5 rfl) ?_
            refine lv_bipush (v := 6) S.1 S.2.1 dL_acts_422 (by decide) ?_
            obtain ⟨r87, hq87, hf⟩ := ed_b_e hf
            refine ed_kI (ed_rV S hK hM (c_X8_story _ D cy B x4 6 μ84 r87 hq87) (cwV 2 S.2.2.2.2 (ed_gV ed_w3_169 ed_w3_170 ed_w3_171 ed_w1_1 ed_w3_172) rfl rfl rfl hd_X8_story ⟨Nat.le_of_ble_eq_true rfl, Nat.le_of_ble_eq_true rfl⟩) (ed_rc (q := (RX8, TX8, 6)) (r := (μ84 7 14 0)) hK hM ed_v14 rfl (ed_e14 cy B 7 0 _) rfl) rfl hl.1 rfl (Nat.le_of_ble_eq_true rfl) dL_acts_424 ⟨Nat.zero_le _, Nat.zero_le _⟩) hS (fun H locs hM hS => ?_)
            refine lv_aload_n S.1 S.2.1 dL_acts_427 rfl (lv_at hl 1 rfl) ?_
            refine lv_iconst (v := 0) S.1 S.2.1 dL_acts_428 (by decide) ?_
            obtain ⟨r88, hq88, hf⟩ := ed_b_e hf
            refine ed_kI (ed_rV S hK hM (c_X8_count _ D cy B 0 μ84 r88 hq88) (cwV 1 S.2.2.2.2 (ed_gV ed_w3_115 ed_w3_116 ed_w3_117 ed_w1_1 ed_w3_118) rfl rfl rfl hd_X8_count ⟨Nat.le_of_ble_eq_true rfl, Nat.le_of_ble_eq_true rfl⟩) (ed_rc (q := (RX8, TX8, 6)) (r := (μ84 7 14 0)) hK hM ed_v14 rfl (ed_e14 cy B 7 0 _) rfl) rfl hl.1 rfl (Nat.le_of_ble_eq_true rfl) dL_acts_429 ⟨Nat.zero_le _, Nat.zero_le _⟩) hS (fun H locs hM hS => ?_)
            refine lv_icmp_ne (tgt := 439) S.1 S.2.1 dL_acts_432 (by decide) (fun c89 => ?_) (fun c89 => ?_)
            · replace hf := ed_in_ c89 hf
              refine lv_iconst (v := 0) S.1 S.2.1 dL_acts_439 (by decide) ?_
              obtain ⟨rfl, rfl⟩ := ed_so hf
              exact ed_rz S hr hlocks rfl hM hS dL_acts_440
            · replace hf := ed_ip c89 hf
              refine lv_iconst (v := 1) S.1 S.2.1 dL_acts_435 (by decide) ?_
              refine lv_goto (tgt := 440) S.1 S.2.1 dL_acts_436 (by decide) ?_
              obtain ⟨rfl, rfl⟩ := ed_so hf
              exact ed_rz S hr hlocks rfl hM hS dL_acts_440
        · replace hf := ed_ip c83 hf
          refine lv_aload_n S.1 S.2.1 dL_acts_388 rfl (lv_at hl 1 rfl) ?_
          refine lv_iload S.1 S.2.1 dL_acts_389 (lv_at hl 5 rfl) ?_
          obtain ⟨r90, μ90, hq90, hf⟩ := ed_b2_e hf
          refine ed_kI (ed_rV S hK hM (c_X8_kill _ D cy B x4 μ r90 μ90 hq90) (cwV 1 S.2.2.2.2 (ed_gV ed_w4_7 ed_w4_8 ed_w4_9 ed_w1_1 ed_w4_10) rfl rfl rfl hd_X8_kill ⟨Nat.le_of_ble_eq_true rfl, Nat.le_of_ble_eq_true rfl⟩) (ed_rc (q := (RX8, TX8, 6)) (r := (μ 7 14 0)) hK hM ed_v14 rfl (ed_e14 cy B 7 0 _) rfl) rfl hl.1 rfl (Nat.le_of_ble_eq_true rfl) dL_acts_391 ⟨Nat.zero_le _, Nat.zero_le _⟩) hS (fun H locs hM hS => ?_)
          refine lv_bipush (v := (-5)) S.1 S.2.1 dL_acts_394 (by decide) ?_
          refine lv_icmp_ne (tgt := 439) S.1 S.2.1 dL_acts_396 (by decide) (fun c91 => ?_) (fun c91 => ?_)
          · replace hf := ed_in_ c91 hf
            refine lv_iconst (v := 0) S.1 S.2.1 dL_acts_439 (by decide) ?_
            obtain ⟨rfl, rfl⟩ := ed_so hf
            exact ed_rz S hr hlocks rfl hM hS dL_acts_440
          · replace hf := ed_ip c91 hf
            refine lv_goto (tgt := 435) S.1 S.2.1 dL_acts_399 (by decide) ?_
            refine lv_iconst (v := 1) S.1 S.2.1 dL_acts_435 (by decide) ?_
            refine lv_goto (tgt := 440) S.1 S.2.1 dL_acts_436 (by decide) ?_
            obtain ⟨rfl, rfl⟩ := ed_so hf
            exact ed_rz S hr hlocks rfl hM hS dL_acts_440
  replace hf := ed_in_ c13 hf
  have tc9 : (x1 &&& (7 : Int32) : Int32).toInt ≠ 0 := fun q => c9 (Int32.toInt_inj.mp (by rw [q]; decide))
  have tc10 : (x1 &&& (7 : Int32) : Int32).toInt ≠ 1 := fun q => c10 (Int32.toInt_inj.mp (by rw [q]; decide))
  have tc11 : (x1 &&& (7 : Int32) : Int32).toInt ≠ 2 := fun q => c11 (Int32.toInt_inj.mp (by rw [q]; decide))
  have tc12 : (x1 &&& (7 : Int32) : Int32).toInt ≠ 3 := fun q => c12 (Int32.toInt_inj.mp (by rw [q]; decide))
  have tc13 : (x1 &&& (7 : Int32) : Int32).toInt ≠ 4 := fun q => c13 (Int32.toInt_inj.mp (by rw [q]; decide))
  refine lv_tableOut (tgt := 441) S.1 S.2.1 dL_acts_36 (by omega) (by decide) ?_
  refine lv_aload_n S.1 S.2.1 dL_acts_441 rfl (lv_at hl 1 rfl) ?_
  refine lv_iload_n S.1 S.2.1 dL_acts_442 rfl (lv_at hl 3 rfl) ?_
  obtain ⟨r92, μ92, hq92, hf⟩ := ed_b2_e hf
  refine ed_kI (ed_rS S hK hM (c_L_passes _ D cy B x2 μ r92 μ92 hq92) (va_cwS 2 S.2.2.2.2 (ed_gS ed_w4_11 ed_w4_12 ed_w1_0 ed_w4_13) rfl rfl rfl hd_L_passes.2 ⟨Nat.le_of_ble_eq_true rfl, Nat.le_of_ble_eq_true rfl⟩) rfl hl.1 rfl (Nat.le_of_ble_eq_true rfl) dL_acts_443 ⟨Nat.zero_le _, Nat.zero_le _⟩) hS (fun H locs hM hS => ?_)
  obtain ⟨hb93, hf⟩ := ed_g_e hf
  obtain ⟨rfl, rfl⟩ := ed_so hf
  exact ed_rz S hr hlocks (ed_bo_n hb93).1 hM hS dL_acts_446
set_option maxHeartbeats 4000000 in
set_option maxRecDepth 100000 in
theorem c_L_acts (l : Launch) (D : va_G) (cy : Nat → ClassId) (B : Nat) (x1 : Int32) (μ : ed_CM) (r : Int32) (μ' : ed_CM) (hf : f_L_acts x1 μ = some (r, μ')) :
    Met l yL_acts wsL_acts rmL_acts (ed_pC D cy (ed_P D cy B μ) [.ref (B + ed_oF 7 14 0), .int x1]) (ed_qI (ed_A B) (ed_P D cy B μ') r) 0 0 (ed_A B) := by
  refine Met.ofW (cc := cL_acts) (maxL := 9) (ret := (some .boolean)) (by decide) rfl ?_
  intro p e s m args below meth c s₁ B0 hml hv
  obtain ⟨rfl, hM, hK⟩ := hv
  have S : CallFix p m c cL_acts 9 s _ ed_ws RL := ⟨B0.exec, B0.bytes, hml, findClass_of_methodNamed B0.named, fun w hw => atoms_spec (ws := wsL_acts) B0.pre w (List.mem_cons_of_mem _ hw)⟩
  have hr := B0.returns
  have hlocks := B0.notSynchronized
  have hS : va_S (ed_A B) s.heap s.heap [] := va_S.rf
  have hl := lv_entry ([.ref (B + ed_oF 7 14 0), .int x1]) (n := 9) (Nat.le_of_ble_eq_true rfl)
  rw [lg_entry_eq]
  generalize (lg_sl ([.ref (B + ed_oF 7 14 0), .int x1]) ++ List.replicate (9 - (lg_sl ([.ref (B + ed_oF 7 14 0), .int x1])).length) Slot.unset).toArray = ls at hl ⊢
  have hl : lv_has ls 9 [(0, .ref (B + ed_oF 7 14 0)), (1, .int x1)] := hl
  unfold f_L_acts at hf
  refine lv_iload_n S.1 S.2.1 dL_acts_0 rfl (lv_at hl 1 rfl) ?_
  refine lv_iconst (v := 3) S.1 S.2.1 dL_acts_1 (by decide) ?_
  refine lv_ishr S.1 S.2.1 dL_acts_2 ?_
  obtain ⟨y1, ey1, hf⟩ := ed_t_e hf
  refine ed_nm ey1 ?_
  refine lv_istore_n (lv' := [(2, .int y1), (0, .ref (B + ed_oF 7 14 0)), (1, .int x1)]) S.1 S.2.1 dL_acts_3 rfl hl (by decide) rfl (fun ls hl => ?_)
  refine lv_aload_n S.1 S.2.1 dL_acts_4 rfl (lv_at hl 1 rfl) ?_
  refine lv_iconst (v := 2) S.1 S.2.1 dL_acts_5 (by decide) ?_
  obtain ⟨r2, hq2, hf⟩ := ed_b_e hf
  refine ed_kI (ed_rV S hK hM (c_X8_count _ D cy B 2 μ r2 hq2) (cwV 1 S.2.2.2.2 (ed_gV ed_w3_115 ed_w3_116 ed_w3_117 ed_w1_1 ed_w3_118) rfl rfl rfl hd_X8_count ⟨Nat.le_of_ble_eq_true rfl, Nat.le_of_ble_eq_true rfl⟩) (ed_rc (q := (RX8, TX8, 6)) (r := (μ 7 14 0)) hK hM ed_v14 rfl (ed_e14 cy B 7 0 _) rfl) rfl hl.1 rfl (Nat.le_of_ble_eq_true rfl) dL_acts_6 ⟨Nat.zero_le _, Nat.zero_le _⟩) hS (fun H locs hM hS => ?_)
  refine lv_istore_n (lv' := [(3, .int r2), (2, .int y1), (0, .ref (B + ed_oF 7 14 0)), (1, .int x1)]) S.1 S.2.1 dL_acts_9 rfl hl (by decide) rfl (fun ls hl => ?_)
  refine lv_iload_n S.1 S.2.1 dL_acts_10 rfl (lv_at hl 0 rfl) ?_
  refine lv_if_ne (tgt := 18) S.1 S.2.1 dL_acts_11 (by decide) (fun c3 => ?_) (fun c3 => ?_)
  · replace hf := ed_in_ c3 hf
    refine lv_iload_n S.1 S.2.1 dL_acts_18 rfl (lv_at hl 1 rfl) ?_
    refine lv_iload_n S.1 S.2.1 dL_acts_19 rfl (lv_at hl 0 rfl) ?_
    obtain ⟨hz4, hf⟩ := ed_g_e hf
    refine lv_irem S.1 S.2.1 dL_acts_20 hz4 ?_
    obtain ⟨y5, ey5, hf⟩ := ed_t_e hf
    refine ed_nm ey5 ?_
    refine lv_istore (lv' := [(4, .int y5), (3, .int r2), (2, .int y1), (0, .ref (B + ed_oF 7 14 0)), (1, .int x1)]) S.1 S.2.1 dL_acts_21 hl (by decide) rfl (fun ls hl => ?_)
    exact w_L_acts_23 S hr hlocks hK r μ' x1 y1 r2 y5 μ hf _ _ _ hM hS (lv_sub hl [3, 4, 2, 1, 0] rfl)
  · replace hf := ed_ip c3 hf
    refine lv_iconst (v := 0) S.1 S.2.1 dL_acts_14 (by decide) ?_
    refine lv_goto (tgt := 21) S.1 S.2.1 dL_acts_15 (by decide) ?_
    refine lv_istore (lv' := [(4, .int 0), (3, .int r2), (2, .int y1), (0, .ref (B + ed_oF 7 14 0)), (1, .int x1)]) S.1 S.2.1 dL_acts_21 hl (by decide) rfl (fun ls hl => ?_)
    exact w_L_acts_23 S hr hlocks hK r μ' x1 y1 r2 0 μ hf _ _ _ hM hS (lv_sub hl [3, 4, 2, 1, 0] rfl)
