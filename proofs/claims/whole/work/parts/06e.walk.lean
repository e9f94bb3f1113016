/-! walks, laid by program (wip/whole/gen/gen.py) -/
set_option maxHeartbeats 4000000 in
set_option maxRecDepth 100000 in
theorem c_X9_in (l : Launch) (D : va_G) (cy : Nat → ClassId) (P : Heap → Prop) (A : Nat → Prop) (x0 x1 x2 : Int32) :
    Met l yX9_in wsX9_in rmX9_in (ed_pC D cy (P) [.int x0, .int x1, .int x2]) (ed_qI A (P) (f_X9_in x0 x1 x2)) 0 0 A := by
  refine Met.ofW (cc := cX9_in) (maxL := 3) (ret := (some .boolean)) (by decide) rfl ?_
  intro p e s m args below meth c s₁ B0 hml hv
  obtain ⟨rfl, hM, hK⟩ := hv
  have S : CallFix p m c cX9_in 3 s _ ed_ws RX9 := ⟨B0.exec, B0.bytes, hml, findClass_of_methodNamed B0.named, fun w hw => atoms_spec (ws := wsX9_in) B0.pre w (List.mem_cons_of_mem _ hw)⟩
  have hr := B0.returns
  have hlocks := B0.notSynchronized
  have hS : va_S A s.heap s.heap [] := va_S.rf
  have hl := lv_entry ([.int x0, .int x1, .int x2]) (n := 3) (Nat.le_of_ble_eq_true rfl)
  rw [lg_entry_eq]
  generalize (lg_sl ([.int x0, .int x1, .int x2]) ++ List.replicate (3 - (lg_sl ([.int x0, .int x1, .int x2])).length) Slot.unset).toArray = ls at hl ⊢
  have hl : lv_has ls 3 [(0, .int x0), (1, .int x1), (2, .int x2)] := hl
  generalize hf : f_X9_in x0 x1 x2 = r
  unfold f_X9_in at hf
  refine lv_iload_n S.1 S.2.1 dX9_in_0 rfl (lv_at hl 0 rfl) ?_
  refine lv_iload_n S.1 S.2.1 dX9_in_1 rfl (lv_at hl 1 rfl) ?_
  refine lv_icmp_lt (tgt := 14) S.1 S.2.1 dX9_in_2 (by decide) (fun c1 => ?_) (fun c1 => ?_)
  · replace hf := ed_ip c1 hf
    refine lv_iconst (v := 0) S.1 S.2.1 dX9_in_14 (by decide) ?_
    subst hf
    exact ed_rz S hr hlocks rfl hM hS dX9_in_15
  · replace hf := ed_in_ c1 hf
    refine lv_iload_n S.1 S.2.1 dX9_in_5 rfl (lv_at hl 0 rfl) ?_
    refine lv_iload_n S.1 S.2.1 dX9_in_6 rfl (lv_at hl 2 rfl) ?_
    refine lv_icmp_gt (tgt := 14) S.1 S.2.1 dX9_in_7 (by decide) (fun c2 => ?_) (fun c2 => ?_)
    · replace hf := ed_ip c2 hf
      refine lv_iconst (v := 0) S.1 S.2.1 dX9_in_14 (by decide) ?_
      subst hf
      exact ed_rz S hr hlocks rfl hM hS dX9_in_15
    · replace hf := ed_in_ c2 hf
      refine lv_iconst (v := 1) S.1 S.2.1 dX9_in_10 (by decide) ?_
      refine lv_goto (tgt := 15) S.1 S.2.1 dX9_in_11 (by decide) ?_
      subst hf
      exact ed_rz S hr hlocks rfl hM hS dX9_in_15
set_option maxHeartbeats 4000000 in
set_option maxRecDepth 100000 in
theorem w_X9_record_51 {p : Program} {l : Launch} {e : Env} {s : State} {m : MethodId} {args : Array Value} {below : List Frame} {meth : Method} {c : Code} {D : va_G} {cy : Nat → ClassId} {B : Nat} (S : CallFix p m c cX9_record 2 s args ed_ws RX9) (hr : meth.sig.returnType = none) (hlocks : meth.locks = false) (hK : ed_K D cy s) (ν' : em_MM) :
    ∀ (n : Nat), ∀ (x1 : Int32) (ν : em_MM), f_X9_record_51  n x1 ν = some ν' → ∀ (H : Heap) (locs : List Loc) (ls : Array Slot), em_P D cy B ν H → va_S (em_A B) s.heap H locs → lv_has ls 2 [(0, .ref (B + 0)), (1, .int x1)] → W p l e (headSpec wsX9_record rmX9_record).room s m args below meth c H locs 0 0 (MQ below (ed_qV (em_A B) (em_P D cy B ν')) args s 0 0 (em_A B)) (F0 m 51 ls []) := by
  intro n
  induction n with
  | zero => intro x1 ν hf; rw [f_X9_record_51] at hf; cases hf
  | succ n ih =>
    intro x1 ν hf H locs ls hM hS hl
    rw [f_X9_record_51] at hf
    refine lv_iload_n S.1 S.2.1 dX9_record_51 rfl (lv_at hl 1 rfl) ?_
    refine lv_sipush (v := 1683) S.1 S.2.1 dX9_record_52 (by decide) ?_
    refine lv_icmp_ge (tgt := 85) S.1 S.2.1 dX9_record_55 (by decide) (fun c2 => ?_) (fun c2 => ?_)
    · replace hf := ed_ip c2 hf
      refine lv_aload_n S.1 S.2.1 dX9_record_85 rfl (lv_at hl 0 rfl) ?_
      refine lv_dup S.1 S.2.1 dX9_record_86 rfl ?_
      refine em_get S ed_uX9 hK hM 3 (by decide) ed_w4_36 rfl rfl dX9_record_87 ?_
      refine lv_iconst (v := 1) S.1 S.2.1 dX9_record_90 (by decide) ?_
      refine lv_iadd S.1 S.2.1 dX9_record_91 ?_
      refine em_put S ed_uX9 hK hM hS 3 (by decide) ed_w4_36 rfl rfl rfl rfl (em_u3 cy B _ _) dX9_record_92 (fun H locs hM hS => ?_)
      obtain ⟨ν3, eν3, hf⟩ := ed_t_e hf
      have hM : em_P D cy B ν3 H := by rw [eν3]; exact hM
      obtain rfl := Option.some.inj hf
      exact ed_rv S hr hlocks hM hS dX9_record_95
    · replace hf := ed_in_ c2 hf
      refine lv_aload_n S.1 S.2.1 dX9_record_58 rfl (lv_at hl 0 rfl) ?_
      refine em_get S ed_uX9 hK hM 2 (by decide) ed_w4_35 rfl rfl dX9_record_59 ?_
      refine lv_sipush (v := 1683) S.1 S.2.1 dX9_record_62 (by decide) ?_
      refine lv_aload_n S.1 S.2.1 dX9_record_65 rfl (lv_at hl 0 rfl) ?_
      refine em_get S ed_uX9 hK hM 3 (by decide) ed_w4_36 rfl rfl dX9_record_66 ?_
      refine lv_imul S.1 S.2.1 dX9_record_69 ?_
      refine lv_iload_n S.1 S.2.1 dX9_record_70 rfl (lv_at hl 1 rfl) ?_
      refine lv_iadd S.1 S.2.1 dX9_record_71 ?_
      refine lv_aload_n S.1 S.2.1 dX9_record_72 rfl (lv_at hl 0 rfl) ?_
      refine em_get S ed_uX9 hK hM 0 (by decide) ed_w4_33 rfl rfl dX9_record_73 ?_
      refine lv_iload_n S.1 S.2.1 dX9_record_76 rfl (lv_at hl 1 rfl) ?_
      obtain ⟨hx4, hf⟩ := ed_g_e hf
      refine em_ild S hK hM 1 (by decide) (em_e1 cy B _) hx4 dX9_record_77 ?_
      obtain ⟨hx5, hf⟩ := ed_g_e hf
      refine em_ist S hK hM hS 3 (by decide) (em_e3 cy B) hx5 dX9_record_78 (fun H locs hM hS => ?_)
      obtain ⟨ν6, eν6, hf⟩ := ed_t_e hf
      have hM : em_P D cy B ν6 H := by rw [eν6]; exact hM
      refine lv_iinc (v := x1 + 1) (lv' := [(1, .int (x1 + 1)), (0, .ref (B + 0))]) S.1 S.2.1 dX9_record_79 hl (k := 1) rfl rfl (by decide) rfl (fun ls hl => ?_)
      refine lv_goto (tgt := 51) S.1 S.2.1 dX9_record_82 (by decide) ?_
      exact ih (x1 + 1) ν6 hf _ _ _ hM hS (lv_sub hl [1, 0] rfl)
set_option maxHeartbeats 4000000 in
set_option maxRecDepth 100000 in
theorem w_X9_record_10 {p : Program} {l : Launch} {e : Env} {s : State} {m : MethodId} {args : Array Value} {below : List Frame} {meth : Method} {c : Code} {D : va_G} {cy : Nat → ClassId} {B : Nat} (S : CallFix p m c cX9_record 2 s args ed_ws RX9) (hr : meth.sig.returnType = none) (hlocks : meth.locks = false) (hK : ed_K D cy s) (ν' : em_MM) :
    ∀ (n : Nat), ∀ (x1 : Int32) (ν : em_MM), f_X9_record_10  n x1 ν = some ν' → ∀ (H : Heap) (locs : List Loc) (ls : Array Slot), em_P D cy B ν H → va_S (em_A B) s.heap H locs → lv_has ls 2 [(0, .ref (B + 0)), (1, .int x1)] → W p l e (headSpec wsX9_record rmX9_record).room s m args below meth c H locs 0 0 (MQ below (ed_qV (em_A B) (em_P D cy B ν')) args s 0 0 (em_A B)) (F0 m 10 ls []) := by
  intro n
  induction n with
  | zero => intro x1 ν hf; rw [f_X9_record_10] at hf; cases hf
  | succ n ih =>
    intro x1 ν hf H locs ls hM hS hl
    rw [f_X9_record_10] at hf
    refine lv_iload_n S.1 S.2.1 dX9_record_10 rfl (lv_at hl 1 rfl) ?_
    refine lv_sipush (v := 5049) S.1 S.2.1 dX9_record_11 (by decide) ?_
    refine lv_icmp_ge (tgt := 39) S.1 S.2.1 dX9_record_14 (by decide) (fun c7 => ?_) (fun c7 => ?_)
    · replace hf := ed_ip c7 hf
      refine lv_aload_n S.1 S.2.1 dX9_record_39 rfl (lv_at hl 0 rfl) ?_
      refine lv_dup S.1 S.2.1 dX9_record_40 rfl ?_
      refine em_get S ed_uX9 hK hM 3 (by decide) ed_w4_36 rfl rfl dX9_record_41 ?_
      refine lv_iconst (v := 1) S.1 S.2.1 dX9_record_44 (by decide) ?_
      refine lv_isub S.1 S.2.1 dX9_record_45 ?_
      refine em_put S ed_uX9 hK hM hS 3 (by decide) ed_w4_36 rfl rfl rfl rfl (em_u3 cy B _ _) dX9_record_46 (fun H locs hM hS => ?_)
      obtain ⟨ν8, eν8, hf⟩ := ed_t_e hf
      have hM : em_P D cy B ν8 H := by rw [eν8]; exact hM
      refine lv_iconst (v := 0) S.1 S.2.1 dX9_record_49 (by decide) ?_
      refine lv_istore_n (lv' := [(1, .int 0), (0, .ref (B + 0))]) S.1 S.2.1 dX9_record_50 rfl hl (by decide) rfl (fun ls hl => ?_)
      exact w_X9_record_51 S hr hlocks hK ν' ed_N 0 ν8 hf _ _ _ hM hS (lv_sub hl [1, 0] rfl)
    · replace hf := ed_in_ c7 hf
      refine lv_aload_n S.1 S.2.1 dX9_record_17 rfl (lv_at hl 0 rfl) ?_
      refine em_get S ed_uX9 hK hM 2 (by decide) ed_w4_35 rfl rfl dX9_record_18 ?_
      refine lv_iload_n S.1 S.2.1 dX9_record_21 rfl (lv_at hl 1 rfl) ?_
      refine lv_aload_n S.1 S.2.1 dX9_record_22 rfl (lv_at hl 0 rfl) ?_
      refine em_get S ed_uX9 hK hM 2 (by decide) ed_w4_35 rfl rfl dX9_record_23 ?_
      refine lv_iload_n S.1 S.2.1 dX9_record_26 rfl (lv_at hl 1 rfl) ?_
      refine lv_sipush (v := 1683) S.1 S.2.1 dX9_record_27 (by decide) ?_
      refine lv_iadd S.1 S.2.1 dX9_record_30 ?_
      obtain ⟨hx9, hf⟩ := ed_g_e hf
      refine em_ild S hK hM 3 (by decide) (em_e3 cy B _) hx9 dX9_record_31 ?_
      obtain ⟨hx10, hf⟩ := ed_g_e hf
      refine em_ist S hK hM hS 3 (by decide) (em_e3 cy B) hx10 dX9_record_32 (fun H locs hM hS => ?_)
      obtain ⟨ν11, eν11, hf⟩ := ed_t_e hf
      have hM : em_P D cy B ν11 H := by rw [eν11]; exact hM
      refine lv_iinc (v := x1 + 1) (lv' := [(1, .int (x1 + 1)), (0, .ref (B + 0))]) S.1 S.2.1 dX9_record_33 hl (k := 1) rfl rfl (by decide) rfl (fun ls hl => ?_)
      refine lv_goto (tgt := 10) S.1 S.2.1 dX9_record_36 (by decide) ?_
      exact ih (x1 + 1) ν11 hf _ _ _ hM hS (lv_sub hl [1, 0] rfl)
set_option maxHeartbeats 4000000 in
set_option maxRecDepth 100000 in
theorem c_X9_record (l : Launch) (D : va_G) (cy : Nat → ClassId) (B : Nat) (ν : em_MM) (ν' : em_MM) (hf : f_X9_record ν = some ν') :
    Met l yX9_record wsX9_record rmX9_record (ed_pC D cy (em_P D cy B ν) [.ref (B + 0)]) (ed_qV (em_A B) (em_P D cy B ν')) 0 0 (em_A B) := by
  refine Met.ofW (cc := cX9_record) (maxL := 2) (ret := none) (by decide) rfl ?_
  intro p e s m args below meth c s₁ B0 hml hv
  obtain ⟨rfl, hM, hK⟩ := hv
  have S : CallFix p m c cX9_record 2 s _ ed_ws RX9 := ⟨B0.exec, B0.bytes, hml, findClass_of_methodNamed B0.named, fun w hw => atoms_spec (ws := wsX9_record) B0.pre w (List.mem_cons_of_mem _ hw)⟩
  have hr := B0.returns
  have hlocks := B0.notSynchronized
  have hS : va_S (em_A B) s.heap s.heap [] := va_S.rf
  have hl := lv_entry ([.ref (B + 0)]) (n := 2) (Nat.le_of_ble_eq_true rfl)
  rw [lg_entry_eq]
  generalize (lg_sl ([.ref (B + 0)]) ++ List.replicate (2 - (lg_sl ([.ref (B + 0)])).length) Slot.unset).toArray = ls at hl ⊢
  have hl : lv_has ls 2 [(0, .ref (B + 0))] := hl
  unfold f_X9_record at hf
  refine lv_aload_n S.1 S.2.1 dX9_record_0 rfl (lv_at hl 0 rfl) ?_
  refine em_get S ed_uX9 hK hM 3 (by decide) ed_w4_36 rfl rfl dX9_record_1 ?_
  refine lv_iconst (v := 4) S.1 S.2.1 dX9_record_4 (by decide) ?_
  refine lv_icmp_ne (tgt := 49) S.1 S.2.1 dX9_record_5 (by decide) (fun c1 => ?_) (fun c1 => ?_)
  · replace hf := ed_in_ c1 hf
    refine lv_iconst (v := 0) S.1 S.2.1 dX9_record_49 (by decide) ?_
    refine lv_istore_n (lv' := [(1, .int 0), (0, .ref (B + 0))]) S.1 S.2.1 dX9_record_50 rfl hl (by decide) rfl (fun ls hl => ?_)
    exact w_X9_record_51 S hr hlocks hK ν' ed_N 0 ν hf _ _ _ hM hS (lv_sub hl [1, 0] rfl)
  · replace hf := ed_ip c1 hf
    refine lv_iconst (v := 0) S.1 S.2.1 dX9_record_8 (by decide) ?_
    refine lv_istore_n (lv' := [(1, .int 0), (0, .ref (B + 0))]) S.1 S.2.1 dX9_record_9 rfl hl (by decide) rfl (fun ls hl => ?_)
    exact w_X9_record_10 S hr hlocks hK ν' ed_N 0 ν hf _ _ _ hM hS (lv_sub hl [1, 0] rfl)
set_option maxHeartbeats 4000000 in
set_option maxRecDepth 100000 in
theorem c_X9_isClient (l : Launch) (D : va_G) (cy : Nat → ClassId) (B : Nat) (x1 : Int32) (ν : em_MM) (r : Int32) (hf : f_X9_isClient x1 ν = some r) :
    Met l yX9_isClient wsX9_isClient rmX9_isClient (ed_pC D cy (em_P D cy B ν) [.ref (B + 0), .int x1]) (ed_qI (em_A B) (em_P D cy B ν) r) 0 0 (em_A B) := by
  refine Met.ofW (cc := cX9_isClient) (maxL := 2) (ret := (some .boolean)) (by decide) rfl ?_
  intro p e s m args below meth c s₁ B0 hml hv
  obtain ⟨rfl, hM, hK⟩ := hv
  have S : CallFix p m c cX9_isClient 2 s _ ed_ws RX9 := ⟨B0.exec, B0.bytes, hml, findClass_of_methodNamed B0.named, fun w hw => atoms_spec (ws := wsX9_isClient) B0.pre w (List.mem_cons_of_mem _ hw)⟩
  have hr := B0.returns
  have hlocks := B0.notSynchronized
  have hS : va_S (em_A B) s.heap s.heap [] := va_S.rf
  have hl := lv_entry ([.ref (B + 0), .int x1]) (n := 2) (Nat.le_of_ble_eq_true rfl)
  rw [lg_entry_eq]
  generalize (lg_sl ([.ref (B + 0), .int x1]) ++ List.replicate (2 - (lg_sl ([.ref (B + 0), .int x1])).length) Slot.unset).toArray = ls at hl ⊢
  have hl : lv_has ls 2 [(0, .ref (B + 0)), (1, .int x1)] := hl
  unfold f_X9_isClient at hf
  refine lv_iload_n S.1 S.2.1 dX9_isClient_0 rfl (lv_at hl 1 rfl) ?_
  refine lv_iconst (v := 0) S.1 S.2.1 dX9_isClient_1 (by decide) ?_
  refine lv_aload_n S.1 S.2.1 dX9_isClient_2 rfl (lv_at hl 0 rfl) ?_
  refine em_get S ed_uX9 hK hM 0 (by decide) ed_w4_33 rfl rfl dX9_isClient_3 ?_
  refine lv_iconst (v := 1) S.1 S.2.1 dX9_isClient_6 (by decide) ?_
  obtain ⟨hx1, hf⟩ := ed_g_e hf
  refine em_ild S hK hM 1 (by decide) (em_e1 cy B _) hx1 dX9_isClient_7 ?_
  refine lv_iconst (v := 1) S.1 S.2.1 dX9_isClient_8 (by decide) ?_
  refine lv_isub S.1 S.2.1 dX9_isClient_9 ?_
  refine ed_kI (ed_rS S hK hM (c_X9_in _ D cy (em_P D cy B ν) (em_A B) x1 0 ((ν 1 (1 : Int32).toNatClampNeg) - 1)) (va_cwS 3 S.2.2.2.2 (ed_gS ed_w4_71 ed_w4_72 ed_w1_10 ed_w4_73) rfl rfl rfl hd_X9_in.2 ⟨Nat.le_of_ble_eq_true rfl, Nat.le_of_ble_eq_true rfl⟩) rfl hl.1 rfl (Nat.le_of_ble_eq_true rfl) dX9_isClient_10 ⟨Nat.zero_le _, Nat.zero_le _⟩) hS (fun H locs hM hS => ?_)
  obtain ⟨hb3, hf⟩ := ed_g_e hf
  obtain rfl := Option.some.inj hf
  exact ed_rz S hr hlocks (ed_bo_n hb3).1 hM hS dX9_isClient_13
set_option maxHeartbeats 4000000 in
set_option maxRecDepth 100000 in
theorem c_X9_isStory (l : Launch) (D : va_G) (cy : Nat → ClassId) (B : Nat) (x1 : Int32) (ν : em_MM) (r : Int32) (hf : f_X9_isStory x1 ν = some r) :
    Met l yX9_isStory wsX9_isStory rmX9_isStory (ed_pC D cy (em_P D cy B ν) [.ref (B + 0), .int x1]) (ed_qI (em_A B) (em_P D cy B ν) r) 0 0 (em_A B) := by
  refine Met.ofW (cc := cX9_isStory) (maxL := 2) (ret := (some .boolean)) (by decide) rfl ?_
  intro p e s m args below meth c s₁ B0 hml hv
  obtain ⟨rfl, hM, hK⟩ := hv
  have S : CallFix p m c cX9_isStory 2 s _ ed_ws RX9 := ⟨B0.exec, B0.bytes, hml, findClass_of_methodNamed B0.named, fun w hw => atoms_spec (ws := wsX9_isStory) B0.pre w (List.mem_cons_of_mem _ hw)⟩
  have hr := B0.returns
  have hlocks := B0.notSynchronized
  have hS : va_S (em_A B) s.heap s.heap [] := va_S.rf
  have hl := lv_entry ([.ref (B + 0), .int x1]) (n := 2) (Nat.le_of_ble_eq_true rfl)
  rw [lg_entry_eq]
  generalize (lg_sl ([.ref (B + 0), .int x1]) ++ List.replicate (2 - (lg_sl ([.ref (B + 0), .int x1])).length) Slot.unset).toArray = ls at hl ⊢
  have hl : lv_has ls 2 [(0, .ref (B + 0)), (1, .int x1)] := hl
  unfold f_X9_isStory at hf
  refine lv_iload_n S.1 S.2.1 dX9_isStory_0 rfl (lv_at hl 1 rfl) ?_
  refine lv_iconst (v := 0) S.1 S.2.1 dX9_isStory_1 (by decide) ?_
  refine lv_aload_n S.1 S.2.1 dX9_isStory_2 rfl (lv_at hl 0 rfl) ?_
  refine em_get S ed_uX9 hK hM 0 (by decide) ed_w4_33 rfl rfl dX9_isStory_3 ?_
  refine lv_iconst (v := 2) S.1 S.2.1 dX9_isStory_6 (by decide) ?_
  obtain ⟨hx1, hf⟩ := ed_g_e hf
  refine em_ild S hK hM 1 (by decide) (em_e1 cy B _) hx1 dX9_isStory_7 ?_
  refine lv_iconst (v := 1) S.1 S.2.1 dX9_isStory_8 (by decide) ?_
  refine lv_isub S.1 S.2.1 dX9_isStory_9 ?_
  refine ed_kI (ed_rS S hK hM (c_X9_in _ D cy (em_P D cy B ν) (em_A B) x1 0 ((ν 1 (2 : Int32).toNatClampNeg) - 1)) (va_cwS 3 S.2.2.2.2 (ed_gS ed_w4_71 ed_w4_72 ed_w1_10 ed_w4_73) rfl rfl rfl hd_X9_in.2 ⟨Nat.le_of_ble_eq_true rfl, Nat.le_of_ble_eq_true rfl⟩) rfl hl.1 rfl (Nat.le_of_ble_eq_true rfl) dX9_isStory_10 ⟨Nat.zero_le _, Nat.zero_le _⟩) hS (fun H locs hM hS => ?_)
  obtain ⟨hb3, hf⟩ := ed_g_e hf
  obtain rfl := Option.some.inj hf
  exact ed_rz S hr hlocks (ed_bo_n hb3).1 hM hS dX9_isStory_13
set_option maxHeartbeats 4000000 in
set_option maxRecDepth 100000 in
theorem c_X9_clientAt (l : Launch) (D : va_G) (cy : Nat → ClassId) (P : Heap → Prop) (A : Nat → Prop) (x0 x1 : Int32) :
    Met l yX9_clientAt wsX9_clientAt rmX9_clientAt (ed_pC D cy (P) [.int x0, .int x1]) (ed_qI A (P) (f_X9_clientAt x0 x1)) 0 0 A := by
  refine Met.ofW (cc := cX9_clientAt) (maxL := 2) (ret := (some .int)) (by decide) rfl ?_
  intro p e s m args below meth c s₁ B0 hml hv
  obtain ⟨rfl, hM, hK⟩ := hv
  have S : CallFix p m c cX9_clientAt 2 s _ ed_ws RX9 := ⟨B0.exec, B0.bytes, hml, findClass_of_methodNamed B0.named, fun w hw => atoms_spec (ws := wsX9_clientAt) B0.pre w (List.mem_cons_of_mem _ hw)⟩
  have hr := B0.returns
  have hlocks := B0.notSynchronized
  have hS : va_S A s.heap s.heap [] := va_S.rf
  have hl := lv_entry ([.int x0, .int x1]) (n := 2) (Nat.le_of_ble_eq_true rfl)
  rw [lg_entry_eq]
  generalize (lg_sl ([.int x0, .int x1]) ++ List.replicate (2 - (lg_sl ([.int x0, .int x1])).length) Slot.unset).toArray = ls at hl ⊢
  have hl : lv_has ls 2 [(0, .int x0), (1, .int x1)] := hl
  generalize hf : f_X9_clientAt x0 x1 = r
  unfold f_X9_clientAt at hf
  refine lv_bipush (v := 7) S.1 S.2.1 dX9_clientAt_0 (by decide) ?_
  refine lv_bipush (v := 10) S.1 S.2.1 dX9_clientAt_2 (by decide) ?_
  refine lv_iload_n S.1 S.2.1 dX9_clientAt_4 rfl (lv_at hl 0 rfl) ?_
  refine lv_imul S.1 S.2.1 dX9_clientAt_5 ?_
  refine lv_iadd S.1 S.2.1 dX9_clientAt_6 ?_
  refine lv_iload_n S.1 S.2.1 dX9_clientAt_7 rfl (lv_at hl 1 rfl) ?_
  refine lv_iadd S.1 S.2.1 dX9_clientAt_8 ?_
  subst hf
  exact ed_ri S hr hlocks hM hS dX9_clientAt_9
set_option maxHeartbeats 4000000 in
set_option maxRecDepth 100000 in
theorem c_X9_storyAt (l : Launch) (D : va_G) (cy : Nat → ClassId) (P : Heap → Prop) (A : Nat → Prop) (x0 x1 : Int32) :
    Met l yX9_storyAt wsX9_storyAt rmX9_storyAt (ed_pC D cy (P) [.int x0, .int x1]) (ed_qI A (P) (f_X9_storyAt x0 x1)) 0 0 A := by
  refine Met.ofW (cc := cX9_storyAt) (maxL := 2) (ret := (some .int)) (by decide) rfl ?_
  intro p e s m args below meth c s₁ B0 hml hv
  obtain ⟨rfl, hM, hK⟩ := hv
  have S : CallFix p m c cX9_storyAt 2 s _ ed_ws RX9 := ⟨B0.exec, B0.bytes, hml, findClass_of_methodNamed B0.named, fun w hw => atoms_spec (ws := wsX9_storyAt) B0.pre w (List.mem_cons_of_mem _ hw)⟩
  have hr := B0.returns
  have hlocks := B0.notSynchronized
  have hS : va_S A s.heap s.heap [] := va_S.rf
  have hl := lv_entry ([.int x0, .int x1]) (n := 2) (Nat.le_of_ble_eq_true rfl)
  rw [lg_entry_eq]
  generalize (lg_sl ([.int x0, .int x1]) ++ List.replicate (2 - (lg_sl ([.int x0, .int x1])).length) Slot.unset).toArray = ls at hl ⊢
  have hl : lv_has ls 2 [(0, .int x0), (1, .int x1)] := hl
  generalize hf : f_X9_storyAt x0 x1 = r
  unfold f_X9_storyAt at hf
  refine lv_bipush (v := 107) S.1 S.2.1 dX9_storyAt_0 (by decide) ?_
  refine lv_bipush (v := 29) S.1 S.2.1 dX9_storyAt_2 (by decide) ?_
  refine lv_iload_n S.1 S.2.1 dX9_storyAt_4 rfl (lv_at hl 0 rfl) ?_
  refine lv_imul S.1 S.2.1 dX9_storyAt_5 ?_
  refine lv_iadd S.1 S.2.1 dX9_storyAt_6 ?_
  refine lv_iload_n S.1 S.2.1 dX9_storyAt_7 rfl (lv_at hl 1 rfl) ?_
  refine lv_iadd S.1 S.2.1 dX9_storyAt_8 ?_
  subst hf
  exact ed_ri S hr hlocks hM hS dX9_storyAt_9
set_option maxHeartbeats 4000000 in
set_option maxRecDepth 100000 in
theorem c_X9_atCopy (l : Launch) (D : va_G) (cy : Nat → ClassId) (P : Heap → Prop) (A : Nat → Prop) (x0 x1 : Int32) :
    Met l yX9_atCopy wsX9_atCopy rmX9_atCopy (ed_pC D cy (P) [.int x0, .int x1]) (ed_qI A (P) (f_X9_atCopy x0 x1)) 0 0 A := by
  refine Met.ofW (cc := cX9_atCopy) (maxL := 2) (ret := (some .int)) (by decide) rfl ?_
  intro p e s m args below meth c s₁ B0 hml hv
  obtain ⟨rfl, hM, hK⟩ := hv
  have S : CallFix p m c cX9_atCopy 2 s _ ed_ws RX9 := ⟨B0.exec, B0.bytes, hml, findClass_of_methodNamed B0.named, fun w hw => atoms_spec (ws := wsX9_atCopy) B0.pre w (List.mem_cons_of_mem _ hw)⟩
  have hr := B0.returns
  have hlocks := B0.notSynchronized
  have hS : va_S A s.heap s.heap [] := va_S.rf
  have hl := lv_entry ([.int x0, .int x1]) (n := 2) (Nat.le_of_ble_eq_true rfl)
  rw [lg_entry_eq]
  generalize (lg_sl ([.int x0, .int x1]) ++ List.replicate (2 - (lg_sl ([.int x0, .int x1])).length) Slot.unset).toArray = ls at hl ⊢
  have hl : lv_has ls 2 [(0, .int x0), (1, .int x1)] := hl
  generalize hf : f_X9_atCopy x0 x1 = r
  unfold f_X9_atCopy at hf
  refine lv_sipush (v := 687) S.1 S.2.1 dX9_atCopy_0 (by decide) ?_
  refine lv_bipush (v := 6) S.1 S.2.1 dX9_atCopy_3 (by decide) ?_
  refine lv_iload_n S.1 S.2.1 dX9_atCopy_5 rfl (lv_at hl 0 rfl) ?_
  refine lv_imul S.1 S.2.1 dX9_atCopy_6 ?_
  refine lv_iadd S.1 S.2.1 dX9_atCopy_7 ?_
  refine lv_iload_n S.1 S.2.1 dX9_atCopy_8 rfl (lv_at hl 1 rfl) ?_
  refine lv_iadd S.1 S.2.1 dX9_atCopy_9 ?_
  subst hf
  exact ed_ri S hr hlocks hM hS dX9_atCopy_10
set_option maxHeartbeats 4000000 in
set_option maxRecDepth 100000 in
theorem c_X9_ofClient (l : Launch) (D : va_G) (cy : Nat → ClassId) (B : Nat) (x1 x2 : Int32) (ν : em_MM) (r : Int32) (hf : f_X9_ofClient x1 x2 ν = some r) :
    Met l yX9_ofClient wsX9_ofClient rmX9_ofClient (ed_pC D cy (em_P D cy B ν) [.ref (B + 0), .int x1, .int x2]) (ed_qI (em_A B) (em_P D cy B ν) r) 0 0 (em_A B) := by
  refine Met.ofW (cc := cX9_ofClient) (maxL := 3) (ret := (some .int)) (by decide) rfl ?_
  intro p e s m args below meth c s₁ B0 hml hv
  obtain ⟨rfl, hM, hK⟩ := hv
  have S : CallFix p m c cX9_ofClient 3 s _ ed_ws RX9 := ⟨B0.exec, B0.bytes, hml, findClass_of_methodNamed B0.named, fun w hw => atoms_spec (ws := wsX9_ofClient) B0.pre w (List.mem_cons_of_mem _ hw)⟩
  have hr := B0.returns
  have hlocks := B0.notSynchronized
  have hS : va_S (em_A B) s.heap s.heap [] := va_S.rf
  have hl := lv_entry ([.ref (B + 0), .int x1, .int x2]) (n := 3) (Nat.le_of_ble_eq_true rfl)
  rw [lg_entry_eq]
  generalize (lg_sl ([.ref (B + 0), .int x1, .int x2]) ++ List.replicate (3 - (lg_sl ([.ref (B + 0), .int x1, .int x2])).length) Slot.unset).toArray = ls at hl ⊢
  have hl : lv_has ls 3 [(0, .ref (B + 0)), (1, .int x1), (2, .int x2)] := hl
  unfold f_X9_ofClient at hf
  refine lv_aload_n S.1 S.2.1 dX9_ofClient_0 rfl (lv_at hl 0 rfl) ?_
  refine em_get S ed_uX9 hK hM 0 (by decide) ed_w4_33 rfl rfl dX9_ofClient_1 ?_
  refine lv_iload_n S.1 S.2.1 dX9_ofClient_4 rfl (lv_at hl 1 rfl) ?_
  refine lv_iload_n S.1 S.2.1 dX9_ofClient_5 rfl (lv_at hl 2 rfl) ?_
  refine ed_kI (ed_rS S hK hM (c_X9_clientAt _ D cy (em_P D cy B ν) (em_A B) x1 x2) (va_cwS 2 S.2.2.2.2 (ed_gS ed_w4_79 ed_w4_80 ed_w1_10 ed_w4_81) rfl rfl rfl hd_X9_clientAt.2 ⟨Nat.le_of_ble_eq_true rfl, Nat.le_of_ble_eq_true rfl⟩) rfl hl.1 rfl (Nat.le_of_ble_eq_true rfl) dX9_ofClient_6 ⟨Nat.zero_le _, Nat.zero_le _⟩) hS (fun H locs hM hS => ?_)
  obtain ⟨hx2, hf⟩ := ed_g_e hf
  refine em_ild S hK hM 1 (by decide) (em_e1 cy B _) hx2 dX9_ofClient_9 ?_
  obtain rfl := Option.some.inj hf
  exact ed_ri S hr hlocks hM hS dX9_ofClient_10
set_option maxHeartbeats 4000000 in
set_option maxRecDepth 100000 in
theorem c_X9_ofStory (l : Launch) (D : va_G) (cy : Nat → ClassId) (B : Nat) (x1 x2 : Int32) (ν : em_MM) (r : Int32) (hf : f_X9_ofStory x1 x2 ν = some r) :
    Met l yX9_ofStory wsX9_ofStory rmX9_ofStory (ed_pC D cy (em_P D cy B ν) [.ref (B + 0), .int x1, .int x2]) (ed_qI (em_A B) (em_P D cy B ν) r) 0 0 (em_A B) := by
  refine Met.ofW (cc := cX9_ofStory) (maxL := 3) (ret := (some .int)) (by decide) rfl ?_
  intro p e s m args below meth c s₁ B0 hml hv
  obtain ⟨rfl, hM, hK⟩ := hv
  have S : CallFix p m c cX9_ofStory 3 s _ ed_ws RX9 := ⟨B0.exec, B0.bytes, hml, findClass_of_methodNamed B0.named, fun w hw => atoms_spec (ws := wsX9_ofStory) B0.pre w (List.mem_cons_of_mem _ hw)⟩
  have hr := B0.returns
  have hlocks := B0.notSynchronized
  have hS : va_S (em_A B) s.heap s.heap [] := va_S.rf
  have hl := lv_entry ([.ref (B + 0), .int x1, .int x2]) (n := 3) (Nat.le_of_ble_eq_true rfl)
  rw [lg_entry_eq]
  generalize (lg_sl ([.ref (B + 0), .int x1, .int x2]) ++ List.replicate (3 - (lg_sl ([.ref (B + 0), .int x1, .int x2])).length) Slot.unset).toArray = ls at hl ⊢
  have hl : lv_has ls 3 [(0, .ref (B + 0)), (1, .int x1), (2, .int x2)] := hl
  unfold f_X9_ofStory at hf
  refine lv_aload_n S.1 S.2.1 dX9_ofStory_0 rfl (lv_at hl 0 rfl) ?_
  refine em_get S ed_uX9 hK hM 0 (by decide) ed_w4_33 rfl rfl dX9_ofStory_1 ?_
  refine lv_iload_n S.1 S.2.1 dX9_ofStory_4 rfl (lv_at hl 1 rfl) ?_
  refine lv_iload_n S.1 S.2.1 dX9_ofStory_5 rfl (lv_at hl 2 rfl) ?_
  refine ed_kI (ed_rS S hK hM (c_X9_storyAt _ D cy (em_P D cy B ν) (em_A B) x1 x2) (va_cwS 2 S.2.2.2.2 (ed_gS ed_w4_153 ed_w4_154 ed_w1_10 ed_w4_155) rfl rfl rfl hd_X9_storyAt.2 ⟨Nat.le_of_ble_eq_true rfl, Nat.le_of_ble_eq_true rfl⟩) rfl hl.1 rfl (Nat.le_of_ble_eq_true rfl) dX9_ofStory_6 ⟨Nat.zero_le _, Nat.zero_le _⟩) hS (fun H locs hM hS => ?_)
  obtain ⟨hx2, hf⟩ := ed_g_e hf
  refine em_ild S hK hM 1 (by decide) (em_e1 cy B _) hx2 dX9_ofStory_9 ?_
  obtain rfl := Option.some.inj hf
  exact ed_ri S hr hlocks hM hS dX9_ofStory_10
set_option maxHeartbeats 4000000 in
set_option maxRecDepth 100000 in
theorem c_X9_ofCopy (l : Launch) (D : va_G) (cy : Nat → ClassId) (B : Nat) (x1 x2 : Int32) (ν : em_MM) (r : Int32) (hf : f_X9_ofCopy x1 x2 ν = some r) :
    Met l yX9_ofCopy wsX9_ofCopy rmX9_ofCopy (ed_pC D cy (em_P D cy B ν) [.ref (B + 0), .int x1, .int x2]) (ed_qI (em_A B) (em_P D cy B ν) r) 0 0 (em_A B) := by
  refine Met.ofW (cc := cX9_ofCopy) (maxL := 3) (ret := (some .int)) (by decide) rfl ?_
  intro p e s m args below meth c s₁ B0 hml hv
  obtain ⟨rfl, hM, hK⟩ := hv
  have S : CallFix p m c cX9_ofCopy 3 s _ ed_ws RX9 := ⟨B0.exec, B0.bytes, hml, findClass_of_methodNamed B0.named, fun w hw => atoms_spec (ws := wsX9_ofCopy) B0.pre w (List.mem_cons_of_mem _ hw)⟩
  have hr := B0.returns
  have hlocks := B0.notSynchronized
  have hS : va_S (em_A B) s.heap s.heap [] := va_S.rf
  have hl := lv_entry ([.ref (B + 0), .int x1, .int x2]) (n := 3) (Nat.le_of_ble_eq_true rfl)
  rw [lg_entry_eq]
  generalize (lg_sl ([.ref (B + 0), .int x1, .int x2]) ++ List.replicate (3 - (lg_sl ([.ref (B + 0), .int x1, .int x2])).length) Slot.unset).toArray = ls at hl ⊢
  have hl : lv_has ls 3 [(0, .ref (B + 0)), (1, .int x1), (2, .int x2)] := hl
  unfold f_X9_ofCopy at hf
  refine lv_aload_n S.1 S.2.1 dX9_ofCopy_0 rfl (lv_at hl 0 rfl) ?_
  refine em_get S ed_uX9 hK hM 0 (by decide) ed_w4_33 rfl rfl dX9_ofCopy_1 ?_
  refine lv_iload_n S.1 S.2.1 dX9_ofCopy_4 rfl (lv_at hl 1 rfl) ?_
  refine lv_iload_n S.1 S.2.1 dX9_ofCopy_5 rfl (lv_at hl 2 rfl) ?_
  refine ed_kI (ed_rS S hK hM (c_X9_atCopy _ D cy (em_P D cy B ν) (em_A B) x1 x2) (va_cwS 2 S.2.2.2.2 (ed_gS ed_w4_102 ed_w4_103 ed_w1_10 ed_w4_104) rfl rfl rfl hd_X9_atCopy.2 ⟨Nat.le_of_ble_eq_true rfl, Nat.le_of_ble_eq_true rfl⟩) rfl hl.1 rfl (Nat.le_of_ble_eq_true rfl) dX9_ofCopy_6 ⟨Nat.zero_le _, Nat.zero_le _⟩) hS (fun H locs hM hS => ?_)
  obtain ⟨hx2, hf⟩ := ed_g_e hf
  refine em_ild S hK hM 1 (by decide) (em_e1 cy B _) hx2 dX9_ofCopy_9 ?_
  obtain rfl := Option.some.inj hf
  exact ed_ri S hr hlocks hM hS dX9_ofCopy_10
set_option maxHeartbeats 4000000 in
set_option maxRecDepth 100000 in
theorem w_X9_log_4 {p : Program} {l : Launch} {e : Env} {s : State} {m : MethodId} {args : Array Value} {below : List Frame} {meth : Method} {c : Code} {D : va_G} {cy : Nat → ClassId} {B : Nat} (S : CallFix p m c cX9_log 5 s args ed_ws RX9) (hr : meth.sig.returnType = none) (hlocks : meth.locks = false) (hK : ed_K D cy s) (ν' : em_MM) :
    ∀ (n : Nat), ∀ (x1 x2 x3 x4 : Int32) (ν : em_MM), f_X9_log_4  n x1 x2 x3 x4 ν = some ν' → ∀ (H : Heap) (locs : List Loc) (ls : Array Slot), em_P D cy B ν H → va_S (em_A B) s.heap H locs → lv_has ls 5 [(0, .ref (B + 0)), (1, .int x1), (2, .int x2), (3, .int x3), (4, .int x4)] → W p l e (headSpec wsX9_log rmX9_log).room s m args below meth c H locs 0 0 (MQ below (ed_qV (em_A B) (em_P D cy B ν')) args s 0 0 (em_A B)) (F0 m 4 ls []) := by
  intro n
  induction n with
  | zero => intro x1 x2 x3 x4 ν hf; rw [f_X9_log_4] at hf; cases hf
  | succ n ih =>
    intro x1 x2 x3 x4 ν hf H locs ls hM hS hl
    rw [f_X9_log_4] at hf
    refine lv_iload S.1 S.2.1 dX9_log_4 (lv_at hl 4 rfl) ?_
    refine lv_iconst (v := 2) S.1 S.2.1 dX9_log_6 (by decide) ?_
    refine lv_icmp_le (tgt := 40) S.1 S.2.1 dX9_log_7 (by decide) (fun c1 => ?_) (fun c1 => ?_)
    · replace hf := ed_ip c1 hf
      refine lv_aload_n S.1 S.2.1 dX9_log_40 rfl (lv_at hl 0 rfl) ?_
      refine em_get S ed_uX9 hK hM 0 (by decide) ed_w4_33 rfl rfl dX9_log_41 ?_
      refine lv_sipush (v := 1647) S.1 S.2.1 dX9_log_44 (by decide) ?_
      refine lv_iload_n S.1 S.2.1 dX9_log_47 rfl (lv_at hl 1 rfl) ?_
      obtain ⟨hx2, hf⟩ := ed_g_e hf
      refine em_ist S hK hM hS 1 (by decide) (em_e1 cy B) hx2 dX9_log_48 (fun H locs hM hS => ?_)
      obtain ⟨ν3, eν3, hf⟩ := ed_t_e hf
      have hM : em_P D cy B ν3 H := by rw [eν3]; exact hM
      refine lv_aload_n S.1 S.2.1 dX9_log_49 rfl (lv_at hl 0 rfl) ?_
      refine em_get S ed_uX9 hK hM 0 (by decide) ed_w4_33 rfl rfl dX9_log_50 ?_
      refine lv_sipush (v := 1648) S.1 S.2.1 dX9_log_53 (by decide) ?_
      refine lv_bipush (v := 10) S.1 S.2.1 dX9_log_56 (by decide) ?_
      refine lv_iload_n S.1 S.2.1 dX9_log_58 rfl (lv_at hl 2 rfl) ?_
      refine lv_imul S.1 S.2.1 dX9_log_59 ?_
      refine lv_iload_n S.1 S.2.1 dX9_log_60 rfl (lv_at hl 3 rfl) ?_
      refine lv_if_ge (tgt := 69) S.1 S.2.1 dX9_log_61 (by decide) (fun c4 => ?_) (fun c4 => ?_)
      · replace hf := ed_ip c4 hf
        refine lv_iload_n S.1 S.2.1 dX9_log_69 rfl (lv_at hl 3 rfl) ?_
        refine lv_iadd S.1 S.2.1 dX9_log_70 ?_
        obtain ⟨hx5, hf⟩ := ed_g_e hf
        refine em_ist S hK hM hS 1 (by decide) (em_e1 cy B) hx5 dX9_log_71 (fun H locs hM hS => ?_)
        obtain ⟨ν6, eν6, hf⟩ := ed_t_e hf
        have hM : em_P D cy B ν6 H := by rw [eν6]; exact hM
        refine lv_aload_n S.1 S.2.1 dX9_log_72 rfl (lv_at hl 0 rfl) ?_
        refine em_get S ed_uX9 hK hM 0 (by decide) ed_w4_33 rfl rfl dX9_log_73 ?_
        refine lv_sipush (v := 1649) S.1 S.2.1 dX9_log_76 (by decide) ?_
        refine lv_aload_n S.1 S.2.1 dX9_log_79 rfl (lv_at hl 0 rfl) ?_
        refine em_get S ed_uX9 hK hM 0 (by decide) ed_w4_33 rfl rfl dX9_log_80 ?_
        refine lv_iconst (v := 0) S.1 S.2.1 dX9_log_83 (by decide) ?_
        obtain ⟨hx7, hf⟩ := ed_g_e hf
        refine em_ild S hK hM 1 (by decide) (em_e1 cy B _) hx7 dX9_log_84 ?_
        obtain ⟨hx8, hf⟩ := ed_g_e hf
        refine em_ist S hK hM hS 1 (by decide) (em_e1 cy B) hx8 dX9_log_85 (fun H locs hM hS => ?_)
        obtain ⟨ν9, eν9, hf⟩ := ed_t_e hf
        have hM : em_P D cy B ν9 H := by rw [eν9]; exact hM
        refine lv_aload_n S.1 S.2.1 dX9_log_86 rfl (lv_at hl 0 rfl) ?_
        refine em_get S ed_uX9 hK hM 0 (by decide) ed_w4_33 rfl rfl dX9_log_87 ?_
        refine lv_bipush (v := 6) S.1 S.2.1 dX9_log_90 (by decide) ?_
        refine lv_dup2_11 S.1 S.2.1 dX9_log_92 rfl rfl ?_
        obtain ⟨hx10, hf⟩ := ed_g_e hf
        refine em_ild S hK hM 1 (by decide) (em_e1 cy B _) hx10 dX9_log_93 ?_
        refine lv_aload_n S.1 S.2.1 dX9_log_94 rfl (lv_at hl 0 rfl) ?_
        refine em_get S ed_uX9 hK hM 0 (by decide) ed_w4_33 rfl rfl dX9_log_95 ?_
        refine lv_bipush (v := 6) S.1 S.2.1 dX9_log_98 (by decide) ?_
        obtain ⟨hx11, hf⟩ := ed_g_e hf
        refine em_ild S hK hM 1 (by decide) (em_e1 cy B _) hx11 dX9_log_100 ?_
        refine lv_bipush (v := 12) S.1 S.2.1 dX9_log_101 (by decide) ?_
        refine lv_icmp_ge (tgt := 110) S.1 S.2.1 dX9_log_103 (by decide) (fun c12 => ?_) (fun c12 => ?_)
        · replace hf := ed_ip c12 hf
          refine lv_iconst (v := 0) S.1 S.2.1 dX9_log_110 (by decide) ?_
          refine lv_iadd S.1 S.2.1 dX9_log_111 ?_
          obtain ⟨hx13, hf⟩ := ed_g_e hf
          refine em_ist S hK hM hS 1 (by decide) (em_e1 cy B) hx13 dX9_log_112 (fun H locs hM hS => ?_)
          obtain ⟨ν14, eν14, hf⟩ := ed_t_e hf
          have hM : em_P D cy B ν14 H := by rw [eν14]; exact hM
          obtain rfl := Option.some.inj hf
          exact ed_rv S hr hlocks hM hS dX9_log_113
        · replace hf := ed_in_ c12 hf
          refine lv_iconst (v := 1) S.1 S.2.1 dX9_log_106 (by decide) ?_
          refine lv_goto (tgt := 111) S.1 S.2.1 dX9_log_107 (by decide) ?_
          refine lv_iadd S.1 S.2.1 dX9_log_111 ?_
          obtain ⟨hx15, hf⟩ := ed_g_e hf
          refine em_ist S hK hM hS 1 (by decide) (em_e1 cy B) hx15 dX9_log_112 (fun H locs hM hS => ?_)
          obtain ⟨ν16, eν16, hf⟩ := ed_t_e hf
          have hM : em_P D cy B ν16 H := by rw [eν16]; exact hM
          obtain rfl := Option.some.inj hf
          exact ed_rv S hr hlocks hM hS dX9_log_113
      · replace hf := ed_in_ c4 hf
        refine lv_bipush (v := 9) S.1 S.2.1 dX9_log_64 (by decide) ?_
        refine lv_goto (tgt := 70) S.1 S.2.1 dX9_log_66 (by decide) ?_
        refine lv_iadd S.1 S.2.1 dX9_log_70 ?_
        obtain ⟨hx17, hf⟩ := ed_g_e hf
        refine em_ist S hK hM hS 1 (by decide) (em_e1 cy B) hx17 dX9_log_71 (fun H locs hM hS => ?_)
        obtain ⟨ν18, eν18, hf⟩ := ed_t_e hf
        have hM : em_P D cy B ν18 H := by rw [eν18]; exact hM
        refine lv_aload_n S.1 S.2.1 dX9_log_72 rfl (lv_at hl 0 rfl) ?_
        refine em_get S ed_uX9 hK hM 0 (by decide) ed_w4_33 rfl rfl dX9_log_73 ?_
        refine lv_sipush (v := 1649) S.1 S.2.1 dX9_log_76 (by decide) ?_
        refine lv_aload_n S.1 S.2.1 dX9_log_79 rfl (lv_at hl 0 rfl) ?_
        refine em_get S ed_uX9 hK hM 0 (by decide) ed_w4_33 rfl rfl dX9_log_80 ?_
        refine lv_iconst (v := 0) S.1 S.2.1 dX9_log_83 (by decide) ?_
        obtain ⟨hx19, hf⟩ := ed_g_e hf
        refine em_ild S hK hM 1 (by decide) (em_e1 cy B _) hx19 dX9_log_84 ?_
        obtain ⟨hx20, hf⟩ := ed_g_e hf
        refine em_ist S hK hM hS 1 (by decide) (em_e1 cy B) hx20 dX9_log_85 (fun H locs hM hS => ?_)
        obtain ⟨ν21, eν21, hf⟩ := ed_t_e hf
        have hM : em_P D cy B ν21 H := by rw [eν21]; exact hM
        refine lv_aload_n S.1 S.2.1 dX9_log_86 rfl (lv_at hl 0 rfl) ?_
        refine em_get S ed_uX9 hK hM 0 (by decide) ed_w4_33 rfl rfl dX9_log_87 ?_
        refine lv_bipush (v := 6) S.1 S.2.1 dX9_log_90 (by decide) ?_
        refine lv_dup2_11 S.1 S.2.1 dX9_log_92 rfl rfl ?_
        obtain ⟨hx22, hf⟩ := ed_g_e hf
        refine em_ild S hK hM 1 (by decide) (em_e1 cy B _) hx22 dX9_log_93 ?_
        refine lv_aload_n S.1 S.2.1 dX9_log_94 rfl (lv_at hl 0 rfl) ?_
        refine em_get S ed_uX9 hK hM 0 (by decide) ed_w4_33 rfl rfl dX9_log_95 ?_
        refine lv_bipush (v := 6) S.1 S.2.1 dX9_log_98 (by decide) ?_
        obtain ⟨hx23, hf⟩ := ed_g_e hf
        refine em_ild S hK hM 1 (by decide) (em_e1 cy B _) hx23 dX9_log_100 ?_
        refine lv_bipush (v := 12) S.1 S.2.1 dX9_log_101 (by decide) ?_
        refine lv_icmp_ge (tgt := 110) S.1 S.2.1 dX9_log_103 (by decide) (fun c24 => ?_) (fun c24 => ?_)
        · replace hf := ed_ip c24 hf
          refine lv_iconst (v := 0) S.1 S.2.1 dX9_log_110 (by decide) ?_
          refine lv_iadd S.1 S.2.1 dX9_log_111 ?_
          obtain ⟨hx25, hf⟩ := ed_g_e hf
          refine em_ist S hK hM hS 1 (by decide) (em_e1 cy B) hx25 dX9_log_112 (fun H locs hM hS => ?_)
          obtain ⟨ν26, eν26, hf⟩ := ed_t_e hf
          have hM : em_P D cy B ν26 H := by rw [eν26]; exact hM
          obtain rfl := Option.some.inj hf
          exact ed_rv S hr hlocks hM hS dX9_log_113
        · replace hf := ed_in_ c24 hf
          refine lv_iconst (v := 1) S.1 S.2.1 dX9_log_106 (by decide) ?_
          refine lv_goto (tgt := 111) S.1 S.2.1 dX9_log_107 (by decide) ?_
          refine lv_iadd S.1 S.2.1 dX9_log_111 ?_
          obtain ⟨hx27, hf⟩ := ed_g_e hf
          refine em_ist S hK hM hS 1 (by decide) (em_e1 cy B) hx27 dX9_log_112 (fun H locs hM hS => ?_)
          obtain ⟨ν28, eν28, hf⟩ := ed_t_e hf
          have hM : em_P D cy B ν28 H := by rw [eν28]; exact hM
          obtain rfl := Option.some.inj hf
          exact ed_rv S hr hlocks hM hS dX9_log_113
    · replace hf := ed_in_ c1 hf
      refine lv_aload_n S.1 S.2.1 dX9_log_10 rfl (lv_at hl 0 rfl) ?_
      refine em_get S ed_uX9 hK hM 0 (by decide) ed_w4_33 rfl rfl dX9_log_11 ?_
      refine lv_sipush (v := 1647) S.1 S.2.1 dX9_log_14 (by decide) ?_
      refine lv_iload S.1 S.2.1 dX9_log_17 (lv_at hl 4 rfl) ?_
      refine lv_iadd S.1 S.2.1 dX9_log_19 ?_
      refine lv_aload_n S.1 S.2.1 dX9_log_20 rfl (lv_at hl 0 rfl) ?_
      refine em_get S ed_uX9 hK hM 0 (by decide) ed_w4_33 rfl rfl dX9_log_21 ?_
      refine lv_sipush (v := 1647) S.1 S.2.1 dX9_log_24 (by decide) ?_
      refine lv_iload S.1 S.2.1 dX9_log_27 (lv_at hl 4 rfl) ?_
      refine lv_iadd S.1 S.2.1 dX9_log_29 ?_
      refine lv_iconst (v := 3) S.1 S.2.1 dX9_log_30 (by decide) ?_
      refine lv_isub S.1 S.2.1 dX9_log_31 ?_
      obtain ⟨hx29, hf⟩ := ed_g_e hf
      refine em_ild S hK hM 1 (by decide) (em_e1 cy B _) hx29 dX9_log_32 ?_
      obtain ⟨hx30, hf⟩ := ed_g_e hf
      refine em_ist S hK hM hS 1 (by decide) (em_e1 cy B) hx30 dX9_log_33 (fun H locs hM hS => ?_)
      obtain ⟨ν31, eν31, hf⟩ := ed_t_e hf
      have hM : em_P D cy B ν31 H := by rw [eν31]; exact hM
      refine lv_iinc (v := x4 + (-1)) (lv' := [(4, .int (x4 + (-1))), (0, .ref (B + 0)), (1, .int x1), (2, .int x2), (3, .int x3)]) S.1 S.2.1 dX9_log_34 hl (k := 4) rfl rfl (by decide) rfl (fun ls hl => ?_)
      refine lv_goto (tgt := 4) S.1 S.2.1 dX9_log_37 (by decide) ?_
      exact ih x1 x2 x3 (x4 + (-1)) ν31 hf _ _ _ hM hS (lv_sub hl [1, 2, 3, 4, 0] rfl)
set_option maxHeartbeats 4000000 in
set_option maxRecDepth 100000 in
theorem c_X9_log (l : Launch) (D : va_G) (cy : Nat → ClassId) (B : Nat) (x1 x2 x3 : Int32) (ν : em_MM) (ν' : em_MM) (hf : f_X9_log x1 x2 x3 ν = some ν') :
    Met l yX9_log wsX9_log rmX9_log (ed_pC D cy (em_P D cy B ν) [.ref (B + 0), .int x1, .int x2, .int x3]) (ed_qV (em_A B) (em_P D cy B ν')) 0 0 (em_A B) := by
  refine Met.ofW (cc := cX9_log) (maxL := 5) (ret := none) (by decide) rfl ?_
  intro p e s m args below meth c s₁ B0 hml hv
  obtain ⟨rfl, hM, hK⟩ := hv
  have S : CallFix p m c cX9_log 5 s _ ed_ws RX9 := ⟨B0.exec, B0.bytes, hml, findClass_of_methodNamed B0.named, fun w hw => atoms_spec (ws := wsX9_log) B0.pre w (List.mem_cons_of_mem _ hw)⟩
  have hr := B0.returns
  have hlocks := B0.notSynchronized
  have hS : va_S (em_A B) s.heap s.heap [] := va_S.rf
  have hl := lv_entry ([.ref (B + 0), .int x1, .int x2, .int x3]) (n := 5) (Nat.le_of_ble_eq_true rfl)
  rw [lg_entry_eq]
  generalize (lg_sl ([.ref (B + 0), .int x1, .int x2, .int x3]) ++ List.replicate (5 - (lg_sl ([.ref (B + 0), .int x1, .int x2, .int x3])).length) Slot.unset).toArray = ls at hl ⊢
  have hl : lv_has ls 5 [(0, .ref (B + 0)), (1, .int x1), (2, .int x2), (3, .int x3)] := hl
  unfold f_X9_log at hf
  refine lv_bipush (v := 35) S.1 S.2.1 dX9_log_0 (by decide) ?_
  refine lv_istore (lv' := [(4, .int 35), (0, .ref (B + 0)), (1, .int x1), (2, .int x2), (3, .int x3)]) S.1 S.2.1 dX9_log_2 hl (by decide) rfl (fun ls hl => ?_)
  exact w_X9_log_4 S hr hlocks hK ν' ed_N x1 x2 x3 35 ν hf _ _ _ hM hS (lv_sub hl [1, 2, 3, 4, 0] rfl)
set_option maxHeartbeats 4000000 in
set_option maxRecDepth 100000 in
theorem c_X9_wants (l : Launch) (D : va_G) (cy : Nat → ClassId) (B : Nat) (x1 x2 : Int32) (ν : em_MM) (r : Int32) (hf : f_X9_wants x1 x2 ν = some r) :
    Met l yX9_wants wsX9_wants rmX9_wants (ed_pC D cy (em_P D cy B ν) [.ref (B + 0), .int x1, .int x2]) (ed_qI (em_A B) (em_P D cy B ν) r) 0 0 (em_A B) := by
  refine Met.ofW (cc := cX9_wants) (maxL := 3) (ret := (some .boolean)) (by decide) rfl ?_
  intro p e s m args below meth c s₁ B0 hml hv
  obtain ⟨rfl, hM, hK⟩ := hv
  have S : CallFix p m c cX9_wants 3 s _ ed_ws RX9 := ⟨B0.exec, B0.bytes, hml, findClass_of_methodNamed B0.named, fun w hw => atoms_spec (ws := wsX9_wants) B0.pre w (List.mem_cons_of_mem _ hw)⟩
  have hr := B0.returns
  have hlocks := B0.notSynchronized
  have hS : va_S (em_A B) s.heap s.heap [] := va_S.rf
  have hl := lv_entry ([.ref (B + 0), .int x1, .int x2]) (n := 3) (Nat.le_of_ble_eq_true rfl)
  rw [lg_entry_eq]
  generalize (lg_sl ([.ref (B + 0), .int x1, .int x2]) ++ List.replicate (3 - (lg_sl ([.ref (B + 0), .int x1, .int x2])).length) Slot.unset).toArray = ls at hl ⊢
  have hl : lv_has ls 3 [(0, .ref (B + 0)), (1, .int x1), (2, .int x2)] := hl
  unfold f_X9_wants at hf
  refine lv_aload_n S.1 S.2.1 dX9_wants_0 rfl (lv_at hl 0 rfl) ?_
  refine lv_iload_n S.1 S.2.1 dX9_wants_1 rfl (lv_at hl 1 rfl) ?_
  refine lv_iconst (v := 0) S.1 S.2.1 dX9_wants_2 (by decide) ?_
  obtain ⟨r1, hq1, hf⟩ := ed_b_e hf
  refine ed_kI (ed_rV S hK hM (c_X9_ofClient _ D cy B x1 0 ν r1 hq1) (cwV 2 S.2.2.2.2 (ed_gV ed_w4_113 ed_w4_115 ed_wp_25 ed_w1_10 ed_w4_116) rfl rfl rfl hd_X9_ofClient ⟨Nat.le_of_ble_eq_true rfl, Nat.le_of_ble_eq_true rfl⟩) (em_rc hK hM) rfl hl.1 rfl (Nat.le_of_ble_eq_true rfl) dX9_wants_3 ⟨Nat.zero_le _, Nat.zero_le _⟩) hS (fun H locs hM hS => ?_)
  refine lv_aload_n S.1 S.2.1 dX9_wants_6 rfl (lv_at hl 0 rfl) ?_
  refine lv_iload_n S.1 S.2.1 dX9_wants_7 rfl (lv_at hl 2 rfl) ?_
  refine lv_iconst (v := 0) S.1 S.2.1 dX9_wants_8 (by decide) ?_
  obtain ⟨r2, hq2, hf⟩ := ed_b_e hf
  refine ed_kI (ed_rV S hK hM (c_X9_ofStory _ D cy B x2 0 ν r2 hq2) (cwV 2 S.2.2.2.2 (ed_gV ed_w4_164 ed_w4_166 ed_wp_33 ed_w1_10 ed_w4_167) rfl rfl rfl hd_X9_ofStory ⟨Nat.le_of_ble_eq_true rfl, Nat.le_of_ble_eq_true rfl⟩) (em_rc hK hM) rfl hl.1 rfl (Nat.le_of_ble_eq_true rfl) dX9_wants_9 ⟨Nat.zero_le _, Nat.zero_le _⟩) hS (fun H locs hM hS => ?_)
  refine lv_ishr S.1 S.2.1 dX9_wants_12 ?_
  refine lv_iconst (v := 1) S.1 S.2.1 dX9_wants_13 (by decide) ?_
  refine lv_iand S.1 S.2.1 dX9_wants_14 ?_
  refine lv_iconst (v := 1) S.1 S.2.1 dX9_wants_15 (by decide) ?_
  refine lv_icmp_ne (tgt := 23) S.1 S.2.1 dX9_wants_16 (by decide) (fun c3 => ?_) (fun c3 => ?_)
  · replace hf := ed_in_ c3 hf
    refine lv_iconst (v := 0) S.1 S.2.1 dX9_wants_23 (by decide) ?_
    obtain rfl := Option.some.inj hf
    exact ed_rz S hr hlocks rfl hM hS dX9_wants_24
  · replace hf := ed_ip c3 hf
    refine lv_iconst (v := 1) S.1 S.2.1 dX9_wants_19 (by decide) ?_
    refine lv_goto (tgt := 24) S.1 S.2.1 dX9_wants_20 (by decide) ?_
    obtain rfl := Option.some.inj hf
    exact ed_rz S hr hlocks rfl hM hS dX9_wants_24
set_option maxHeartbeats 4000000 in
set_option maxRecDepth 100000 in
theorem w_X9_publish_39 {p : Program} {l : Launch} {e : Env} {s : State} {m : MethodId} {args : Array Value} {below : List Frame} {meth : Method} {c : Code} {D : va_G} {cy : Nat → ClassId} {B : Nat} (S : CallFix p m c cX9_publish 4 s args ed_ws RX9) (hr : meth.sig.returnType = none) (hlocks : meth.locks = false) (hK : ed_K D cy s) (ν' : em_MM) :
    ∀ (n : Nat), ∀ (x1 x2 : Int32) (ν : em_MM), f_X9_publish_39  n x1 x2 ν = some ν' → ∀ (H : Heap) (locs : List Loc) (ls : Array Slot), em_P D cy B ν H → va_S (em_A B) s.heap H locs → lv_has ls 4 [(0, .ref (B + 0)), (1, .int x1), (2, .int x2)] → W p l e (headSpec wsX9_publish rmX9_publish).room s m args below meth c H locs 0 0 (MQ below (ed_qV (em_A B) (em_P D cy B ν')) args s 0 0 (em_A B)) (F0 m 39 ls []) := by
  intro n
  induction n with
  | zero => intro x1 x2 ν hf; rw [f_X9_publish_39] at hf; cases hf
  | succ n ih =>
    intro x1 x2 ν hf H locs ls hM hS hl
    rw [f_X9_publish_39] at hf
    refine lv_iload_n S.1 S.2.1 dX9_publish_39 rfl (lv_at hl 2 rfl) ?_
    refine lv_aload_n S.1 S.2.1 dX9_publish_40 rfl (lv_at hl 0 rfl) ?_
    refine em_get S ed_uX9 hK hM 0 (by decide) ed_w4_33 rfl rfl dX9_publish_41 ?_
    refine lv_iconst (v := 1) S.1 S.2.1 dX9_publish_44 (by decide) ?_
    obtain ⟨hx9, hf⟩ := ed_g_e hf
    refine em_ild S hK hM 1 (by decide) (em_e1 cy B _) hx9 dX9_publish_45 ?_
    refine lv_icmp_ge (tgt := 161) S.1 S.2.1 dX9_publish_46 (by decide) (fun c10 => ?_) (fun c10 => ?_)
    · replace hf := ed_ip c10 hf
      obtain rfl := Option.some.inj hf
      exact ed_rv S hr hlocks hM hS dX9_publish_161
    · replace hf := ed_in_ c10 hf
      refine lv_aload_n S.1 S.2.1 dX9_publish_49 rfl (lv_at hl 0 rfl) ?_
      refine lv_iload_n S.1 S.2.1 dX9_publish_50 rfl (lv_at hl 2 rfl) ?_
      refine lv_iload_n S.1 S.2.1 dX9_publish_51 rfl (lv_at hl 1 rfl) ?_
      obtain ⟨r11, hq11, hf⟩ := ed_b_e hf
      refine ed_kI (ed_rV S hK hM (c_X9_wants _ D cy B x2 x1 ν r11 hq11) (cwV 2 S.2.2.2.2 (ed_gV ed_w4_168 ed_w4_170 ed_wp_34 ed_w1_10 ed_w4_171) rfl rfl rfl hd_X9_wants ⟨Nat.le_of_ble_eq_true rfl, Nat.le_of_ble_eq_true rfl⟩) (em_rc hK hM) rfl hl.1 rfl (Nat.le_of_ble_eq_true rfl) dX9_publish_52 ⟨Nat.zero_le _, Nat.zero_le _⟩) hS (fun H locs hM hS => ?_)
      refine lv_if_eq (tgt := 155) S.1 S.2.1 dX9_publish_55 (by decide) (fun c12 => ?_) (fun c12 => ?_)
      · replace hf := ed_ip c12 hf
        refine lv_iinc (v := x2 + 1) (lv' := [(2, .int (x2 + 1)), (0, .ref (B + 0)), (1, .int x1)]) S.1 S.2.1 dX9_publish_155 hl (k := 2) rfl rfl (by decide) rfl (fun ls hl => ?_)
        refine lv_goto (tgt := 39) S.1 S.2.1 dX9_publish_158 (by decide) ?_
        exact ih x1 (x2 + 1) ν hf _ _ _ hM hS (lv_sub hl [1, 2, 0] rfl)
      · replace hf := ed_in_ c12 hf
        refine lv_aload_n S.1 S.2.1 dX9_publish_58 rfl (lv_at hl 0 rfl) ?_
        refine em_get S ed_uX9 hK hM 0 (by decide) ed_w4_33 rfl rfl dX9_publish_59 ?_
        refine lv_iconst (v := 3) S.1 S.2.1 dX9_publish_62 (by decide) ?_
        obtain ⟨hx13, hf⟩ := ed_g_e hf
        refine em_ild S hK hM 1 (by decide) (em_e1 cy B _) hx13 dX9_publish_63 ?_
        obtain ⟨y14, ey14, hf⟩ := ed_t_e hf
        refine ed_nm ey14 ?_
        refine lv_istore_n (lv' := [(3, .int y14), (0, .ref (B + 0)), (1, .int x1), (2, .int x2)]) S.1 S.2.1 dX9_publish_64 rfl hl (by decide) rfl (fun ls hl => ?_)
        refine lv_aload_n S.1 S.2.1 dX9_publish_65 rfl (lv_at hl 1 rfl) ?_
        refine em_get S ed_uX9 hK hM 0 (by decide) ed_w4_33 rfl rfl dX9_publish_66 ?_
        refine lv_iload_n S.1 S.2.1 dX9_publish_69 rfl (lv_at hl 0 rfl) ?_
        refine lv_iconst (v := 0) S.1 S.2.1 dX9_publish_70 (by decide) ?_
        refine ed_kI (ed_rS S hK hM (c_X9_atCopy _ D cy (em_P D cy B ν) (em_A B) y14 0) (va_cwS 2 S.2.2.2.2 (ed_gS ed_w4_102 ed_w4_103 ed_w1_10 ed_w4_104) rfl rfl rfl hd_X9_atCopy.2 ⟨Nat.le_of_ble_eq_true rfl, Nat.le_of_ble_eq_true rfl⟩) rfl hl.1 rfl (Nat.le_of_ble_eq_true rfl) dX9_publish_71 ⟨Nat.zero_le _, Nat.zero_le _⟩) hS (fun H locs hM hS => ?_)
        refine lv_iload_n S.1 S.2.1 dX9_publish_74 rfl (lv_at hl 2 rfl) ?_
        obtain ⟨hx16, hf⟩ := ed_g_e hf
        refine em_ist S hK hM hS 1 (by decide) (em_e1 cy B) hx16 dX9_publish_75 (fun H locs hM hS => ?_)
        obtain ⟨ν17, eν17, hf⟩ := ed_t_e hf
        have hM : em_P D cy B ν17 H := by rw [eν17]; exact hM
        refine lv_aload_n S.1 S.2.1 dX9_publish_76 rfl (lv_at hl 1 rfl) ?_
        refine em_get S ed_uX9 hK hM 0 (by decide) ed_w4_33 rfl rfl dX9_publish_77 ?_
        refine lv_iload_n S.1 S.2.1 dX9_publish_80 rfl (lv_at hl 0 rfl) ?_
        refine lv_iconst (v := 1) S.1 S.2.1 dX9_publish_81 (by decide) ?_
        refine ed_kI (ed_rS S hK hM (c_X9_atCopy _ D cy (em_P D cy B ν17) (em_A B) y14 1) (va_cwS 2 S.2.2.2.2 (ed_gS ed_w4_102 ed_w4_103 ed_w1_10 ed_w4_104) rfl rfl rfl hd_X9_atCopy.2 ⟨Nat.le_of_ble_eq_true rfl, Nat.le_of_ble_eq_true rfl⟩) rfl hl.1 rfl (Nat.le_of_ble_eq_true rfl) dX9_publish_82 ⟨Nat.zero_le _, Nat.zero_le _⟩) hS (fun H locs hM hS => ?_)
        refine lv_iload_n S.1 S.2.1 dX9_publish_85 rfl (lv_at hl 3 rfl) ?_
        obtain ⟨hx19, hf⟩ := ed_g_e hf
        refine em_ist S hK hM hS 1 (by decide) (em_e1 cy B) hx19 dX9_publish_86 (fun H locs hM hS => ?_)
        obtain ⟨ν20, eν20, hf⟩ := ed_t_e hf
        have hM : em_P D cy B ν20 H := by rw [eν20]; exact hM
        refine lv_aload_n S.1 S.2.1 dX9_publish_87 rfl (lv_at hl 1 rfl) ?_
        refine em_get S ed_uX9 hK hM 0 (by decide) ed_w4_33 rfl rfl dX9_publish_88 ?_
        refine lv_iload_n S.1 S.2.1 dX9_publish_91 rfl (lv_at hl 0 rfl) ?_
        refine lv_iconst (v := 2) S.1 S.2.1 dX9_publish_92 (by decide) ?_
        refine ed_kI (ed_rS S hK hM (c_X9_atCopy _ D cy (em_P D cy B ν20) (em_A B) y14 2) (va_cwS 2 S.2.2.2.2 (ed_gS ed_w4_102 ed_w4_103 ed_w1_10 ed_w4_104) rfl rfl rfl hd_X9_atCopy.2 ⟨Nat.le_of_ble_eq_true rfl, Nat.le_of_ble_eq_true rfl⟩) rfl hl.1 rfl (Nat.le_of_ble_eq_true rfl) dX9_publish_93 ⟨Nat.zero_le _, Nat.zero_le _⟩) hS (fun H locs hM hS => ?_)
        refine lv_iconst (v := 0) S.1 S.2.1 dX9_publish_96 (by decide) ?_
        obtain ⟨hx22, hf⟩ := ed_g_e hf
        refine em_ist S hK hM hS 1 (by decide) (em_e1 cy B) hx22 dX9_publish_97 (fun H locs hM hS => ?_)
        obtain ⟨ν23, eν23, hf⟩ := ed_t_e hf
        have hM : em_P D cy B ν23 H := by rw [eν23]; exact hM
        refine lv_aload_n S.1 S.2.1 dX9_publish_98 rfl (lv_at hl 1 rfl) ?_
        refine em_get S ed_uX9 hK hM 0 (by decide) ed_w4_33 rfl rfl dX9_publish_99 ?_
        refine lv_iload_n S.1 S.2.1 dX9_publish_102 rfl (lv_at hl 0 rfl) ?_
        refine lv_iconst (v := 3) S.1 S.2.1 dX9_publish_103 (by decide) ?_
        refine ed_kI (ed_rS S hK hM (c_X9_atCopy _ D cy (em_P D cy B ν23) (em_A B) y14 3) (va_cwS 2 S.2.2.2.2 (ed_gS ed_w4_102 ed_w4_103 ed_w1_10 ed_w4_104) rfl rfl rfl hd_X9_atCopy.2 ⟨Nat.le_of_ble_eq_true rfl, Nat.le_of_ble_eq_true rfl⟩) rfl hl.1 rfl (Nat.le_of_ble_eq_true rfl) dX9_publish_104 ⟨Nat.zero_le _, Nat.zero_le _⟩) hS (fun H locs hM hS => ?_)
        refine lv_aload_n S.1 S.2.1 dX9_publish_107 rfl (lv_at hl 1 rfl) ?_
        refine em_get S ed_uX9 hK hM 0 (by decide) ed_w4_33 rfl rfl dX9_publish_108 ?_
        refine lv_iconst (v := 0) S.1 S.2.1 dX9_publish_111 (by decide) ?_
        obtain ⟨hx25, hf⟩ := ed_g_e hf
        refine em_ild S hK hM 1 (by decide) (em_e1 cy B _) hx25 dX9_publish_112 ?_
        refine lv_aload_n S.1 S.2.1 dX9_publish_113 rfl (lv_at hl 1 rfl) ?_
        refine lv_iload_n S.1 S.2.1 dX9_publish_114 rfl (lv_at hl 3 rfl) ?_
        refine lv_iconst (v := 1) S.1 S.2.1 dX9_publish_115 (by decide) ?_
        obtain ⟨r26, hq26, hf⟩ := ed_b_e hf
        refine ed_kI (ed_rV S hK hM (c_X9_ofClient _ D cy B x2 1 ν23 r26 hq26) (cwV 2 S.2.2.2.2 (ed_gV ed_w4_113 ed_w4_115 ed_wp_25 ed_w1_10 ed_w4_116) rfl rfl rfl hd_X9_ofClient ⟨Nat.le_of_ble_eq_true rfl, Nat.le_of_ble_eq_true rfl⟩) (em_rc hK hM) rfl hl.1 rfl (Nat.le_of_ble_eq_true rfl) dX9_publish_116 ⟨Nat.zero_le _, Nat.zero_le _⟩) hS (fun H locs hM hS => ?_)
        refine lv_iadd S.1 S.2.1 dX9_publish_119 ?_
        obtain ⟨hx27, hf⟩ := ed_g_e hf
        refine em_ist S hK hM hS 1 (by decide) (em_e1 cy B) hx27 dX9_publish_120 (fun H locs hM hS => ?_)
        obtain ⟨ν28, eν28, hf⟩ := ed_t_e hf
        have hM : em_P D cy B ν28 H := by rw [eν28]; exact hM
        refine lv_aload_n S.1 S.2.1 dX9_publish_121 rfl (lv_at hl 1 rfl) ?_
        refine em_get S ed_uX9 hK hM 0 (by decide) ed_w4_33 rfl rfl dX9_publish_122 ?_
        refine lv_iload_n S.1 S.2.1 dX9_publish_125 rfl (lv_at hl 0 rfl) ?_
        refine lv_iconst (v := 4) S.1 S.2.1 dX9_publish_126 (by decide) ?_
        refine ed_kI (ed_rS S hK hM (c_X9_atCopy _ D cy (em_P D cy B ν28) (em_A B) y14 4) (va_cwS 2 S.2.2.2.2 (ed_gS ed_w4_102 ed_w4_103 ed_w1_10 ed_w4_104) rfl rfl rfl hd_X9_atCopy.2 ⟨Nat.le_of_ble_eq_true rfl, Nat.le_of_ble_eq_true rfl⟩) rfl hl.1 rfl (Nat.le_of_ble_eq_true rfl) dX9_publish_127 ⟨Nat.zero_le _, Nat.zero_le _⟩) hS (fun H locs hM hS => ?_)
        refine lv_bipush (v := (-5)) S.1 S.2.1 dX9_publish_130 (by decide) ?_
        obtain ⟨hx30, hf⟩ := ed_g_e hf
        refine em_ist S hK hM hS 1 (by decide) (em_e1 cy B) hx30 dX9_publish_132 (fun H locs hM hS => ?_)
        obtain ⟨ν31, eν31, hf⟩ := ed_t_e hf
        have hM : em_P D cy B ν31 H := by rw [eν31]; exact hM
        refine lv_aload_n S.1 S.2.1 dX9_publish_133 rfl (lv_at hl 1 rfl) ?_
        refine em_get S ed_uX9 hK hM 0 (by decide) ed_w4_33 rfl rfl dX9_publish_134 ?_
        refine lv_iload_n S.1 S.2.1 dX9_publish_137 rfl (lv_at hl 0 rfl) ?_
        refine lv_iconst (v := 5) S.1 S.2.1 dX9_publish_138 (by decide) ?_
        refine ed_kI (ed_rS S hK hM (c_X9_atCopy _ D cy (em_P D cy B ν31) (em_A B) y14 5) (va_cwS 2 S.2.2.2.2 (ed_gS ed_w4_102 ed_w4_103 ed_w1_10 ed_w4_104) rfl rfl rfl hd_X9_atCopy.2 ⟨Nat.le_of_ble_eq_true rfl, Nat.le_of_ble_eq_true rfl⟩) rfl hl.1 rfl (Nat.le_of_ble_eq_true rfl) dX9_publish_139 ⟨Nat.zero_le _, Nat.zero_le _⟩) hS (fun H locs hM hS => ?_)
        refine lv_bipush (v := (-5)) S.1 S.2.1 dX9_publish_142 (by decide) ?_
        obtain ⟨hx33, hf⟩ := ed_g_e hf
        refine em_ist S hK hM hS 1 (by decide) (em_e1 cy B) hx33 dX9_publish_144 (fun H locs hM hS => ?_)
        obtain ⟨ν34, eν34, hf⟩ := ed_t_e hf
        have hM : em_P D cy B ν34 H := by rw [eν34]; exact hM
        refine lv_aload_n S.1 S.2.1 dX9_publish_145 rfl (lv_at hl 1 rfl) ?_
        refine em_get S ed_uX9 hK hM 0 (by decide) ed_w4_33 rfl rfl dX9_publish_146 ?_
        refine lv_iconst (v := 3) S.1 S.2.1 dX9_publish_149 (by decide) ?_
        refine lv_dup2_11 S.1 S.2.1 dX9_publish_150 rfl rfl ?_
        obtain ⟨hx35, hf⟩ := ed_g_e hf
        refine em_ild S hK hM 1 (by decide) (em_e1 cy B _) hx35 dX9_publish_151 ?_
        refine lv_iconst (v := 1) S.1 S.2.1 dX9_publish_152 (by decide) ?_
        refine lv_iadd S.1 S.2.1 dX9_publish_153 ?_
        obtain ⟨hx36, hf⟩ := ed_g_e hf
        refine em_ist S hK hM hS 1 (by decide) (em_e1 cy B) hx36 dX9_publish_154 (fun H locs hM hS => ?_)
        obtain ⟨ν37, eν37, hf⟩ := ed_t_e hf
        have hM : em_P D cy B ν37 H := by rw [eν37]; exact hM
        refine lv_iinc (v := x2 + 1) (lv' := [(2, .int (x2 + 1)), (3, .int y14), (0, .ref (B + 0)), (1, .int x1)]) S.1 S.2.1 dX9_publish_155 hl (k := 3) rfl rfl (by decide) rfl (fun ls hl => ?_)
        refine lv_goto (tgt := 39) S.1 S.2.1 dX9_publish_158 (by decide) ?_
        exact ih x1 (x2 + 1) ν37 hf _ _ _ hM hS (lv_sub hl [2, 3, 0] rfl)
set_option maxHeartbeats 4000000 in
set_option maxRecDepth 100000 in
theorem c_X9_publish (l : Launch) (D : va_G) (cy : Nat → ClassId) (B : Nat) (x1 : Int32) (ν : em_MM) (ν' : em_MM) (hf : f_X9_publish x1 ν = some ν') :
    Met l yX9_publish wsX9_publish rmX9_publish (ed_pC D cy (em_P D cy B ν) [.ref (B + 0), .int x1]) (ed_qV (em_A B) (em_P D cy B ν')) 0 0 (em_A B) := by
  refine Met.ofW (cc := cX9_publish) (maxL := 4) (ret := none) (by decide) rfl ?_
  intro p e s m args below meth c s₁ B0 hml hv
  obtain ⟨rfl, hM, hK⟩ := hv
  have S : CallFix p m c cX9_publish 4 s _ ed_ws RX9 := ⟨B0.exec, B0.bytes, hml, findClass_of_methodNamed B0.named, fun w hw => atoms_spec (ws := wsX9_publish) B0.pre w (List.mem_cons_of_mem _ hw)⟩
  have hr := B0.returns
  have hlocks := B0.notSynchronized
  have hS : va_S (em_A B) s.heap s.heap [] := va_S.rf
  have hl := lv_entry ([.ref (B + 0), .int x1]) (n := 4) (Nat.le_of_ble_eq_true rfl)
  rw [lg_entry_eq]
  generalize (lg_sl ([.ref (B + 0), .int x1]) ++ List.replicate (4 - (lg_sl ([.ref (B + 0), .int x1])).length) Slot.unset).toArray = ls at hl ⊢
  have hl : lv_has ls 4 [(0, .ref (B + 0)), (1, .int x1)] := hl
  unfold f_X9_publish at hf
  refine lv_aload_n S.1 S.2.1 dX9_publish_0 rfl (lv_at hl 0 rfl) ?_
  refine em_get S ed_uX9 hK hM 0 (by decide) ed_w4_33 rfl rfl dX9_publish_1 ?_
  refine lv_iload_n S.1 S.2.1 dX9_publish_4 rfl (lv_at hl 1 rfl) ?_
  refine lv_bipush (v := 6) S.1 S.2.1 dX9_publish_5 (by decide) ?_
  refine ed_kI (ed_rS S hK hM (c_X9_storyAt _ D cy (em_P D cy B ν) (em_A B) x1 6) (va_cwS 2 S.2.2.2.2 (ed_gS ed_w4_153 ed_w4_154 ed_w1_10 ed_w4_155) rfl rfl rfl hd_X9_storyAt.2 ⟨Nat.le_of_ble_eq_true rfl, Nat.le_of_ble_eq_true rfl⟩) rfl hl.1 rfl (Nat.le_of_ble_eq_true rfl) dX9_publish_7 ⟨Nat.zero_le _, Nat.zero_le _⟩) hS (fun H locs hM hS => ?_)
  refine lv_iconst (v := 2) S.1 S.2.1 dX9_publish_10 (by decide) ?_
  obtain ⟨hx2, hf⟩ := ed_g_e hf
  refine em_ist S hK hM hS 1 (by decide) (em_e1 cy B) hx2 dX9_publish_11 (fun H locs hM hS => ?_)
  obtain ⟨ν3, eν3, hf⟩ := ed_t_e hf
  have hM : em_P D cy B ν3 H := by rw [eν3]; exact hM
  refine lv_aload_n S.1 S.2.1 dX9_publish_12 rfl (lv_at hl 0 rfl) ?_
  refine em_get S ed_uX9 hK hM 0 (by decide) ed_w4_33 rfl rfl dX9_publish_13 ?_
  refine lv_iload_n S.1 S.2.1 dX9_publish_16 rfl (lv_at hl 1 rfl) ?_
  refine lv_bipush (v := 8) S.1 S.2.1 dX9_publish_17 (by decide) ?_
  refine ed_kI (ed_rS S hK hM (c_X9_storyAt _ D cy (em_P D cy B ν3) (em_A B) x1 8) (va_cwS 2 S.2.2.2.2 (ed_gS ed_w4_153 ed_w4_154 ed_w1_10 ed_w4_155) rfl rfl rfl hd_X9_storyAt.2 ⟨Nat.le_of_ble_eq_true rfl, Nat.le_of_ble_eq_true rfl⟩) rfl hl.1 rfl (Nat.le_of_ble_eq_true rfl) dX9_publish_19 ⟨Nat.zero_le _, Nat.zero_le _⟩) hS (fun H locs hM hS => ?_)
  refine lv_aload_n S.1 S.2.1 dX9_publish_22 rfl (lv_at hl 0 rfl) ?_
  refine em_get S ed_uX9 hK hM 0 (by decide) ed_w4_33 rfl rfl dX9_publish_23 ?_
  refine lv_iconst (v := 0) S.1 S.2.1 dX9_publish_26 (by decide) ?_
  obtain ⟨hx5, hf⟩ := ed_g_e hf
  refine em_ild S hK hM 1 (by decide) (em_e1 cy B _) hx5 dX9_publish_27 ?_
  obtain ⟨hx6, hf⟩ := ed_g_e hf
  refine em_ist S hK hM hS 1 (by decide) (em_e1 cy B) hx6 dX9_publish_28 (fun H locs hM hS => ?_)
  obtain ⟨ν7, eν7, hf⟩ := ed_t_e hf
  have hM : em_P D cy B ν7 H := by rw [eν7]; exact hM
  refine lv_aload_n S.1 S.2.1 dX9_publish_29 rfl (lv_at hl 0 rfl) ?_
  refine lv_iconst (v := 0) S.1 S.2.1 dX9_publish_30 (by decide) ?_
  refine lv_iload_n S.1 S.2.1 dX9_publish_31 rfl (lv_at hl 1 rfl) ?_
  refine lv_bipush (v := (-5)) S.1 S.2.1 dX9_publish_32 (by decide) ?_
  obtain ⟨ν8, hq8, hf⟩ := ed_b_e hf
  refine ed_kV (ed_rV S hK hM (c_X9_log _ D cy B 0 x1 (-5) ν7 ν8 hq8) (cwV 3 S.2.2.2.2 (ed_gV ed_w4_184 ed_w4_186 ed_wp_35 ed_w1_10 ed_w4_187) rfl rfl rfl hd_X9_log ⟨Nat.le_of_ble_eq_true rfl, Nat.le_of_ble_eq_true rfl⟩) (em_rc hK hM) rfl hl.1 rfl (Nat.le_of_ble_eq_true rfl) dX9_publish_34 ⟨Nat.zero_le _, Nat.zero_le _⟩) hS (fun H locs hM hS => ?_)
  refine lv_iconst (v := 0) S.1 S.2.1 dX9_publish_37 (by decide) ?_
  refine lv_istore_n (lv' := [(2, .int 0), (0, .ref (B + 0)), (1, .int x1)]) S.1 S.2.1 dX9_publish_38 rfl hl (by decide) rfl (fun ls hl => ?_)
  exact w_X9_publish_39 S hr hlocks hK ν' ed_N x1 0 ν8 hf _ _ _ hM hS (lv_sub hl [1, 2, 0] rfl)
set_option maxHeartbeats 4000000 in
set_option maxRecDepth 100000 in
theorem c_X9_share (l : Launch) (D : va_G) (cy : Nat → ClassId) (B : Nat) (x1 x2 : Int32) (ν : em_MM) (ν' : em_MM) (hf : f_X9_share x1 x2 ν = some ν') :
    Met l yX9_share wsX9_share rmX9_share (ed_pC D cy (em_P D cy B ν) [.ref (B + 0), .int x1, .int x2]) (ed_qV (em_A B) (em_P D cy B ν')) 0 0 (em_A B) := by
  refine Met.ofW (cc := cX9_share) (maxL := 4) (ret := none) (by decide) rfl ?_
  intro p e s m args below meth c s₁ B0 hml hv
  obtain ⟨rfl, hM, hK⟩ := hv
  have S : CallFix p m c cX9_share 4 s _ ed_ws RX9 := ⟨B0.exec, B0.bytes, hml, findClass_of_methodNamed B0.named, fun w hw => atoms_spec (ws := wsX9_share) B0.pre w (List.mem_cons_of_mem _ hw)⟩
  have hr := B0.returns
  have hlocks := B0.notSynchronized
  have hS : va_S (em_A B) s.heap s.heap [] := va_S.rf
  have hl := lv_entry ([.ref (B + 0), .int x1, .int x2]) (n := 4) (Nat.le_of_ble_eq_true rfl)
  rw [lg_entry_eq]
  generalize (lg_sl ([.ref (B + 0), .int x1, .int x2]) ++ List.replicate (4 - (lg_sl ([.ref (B + 0), .int x1, .int x2])).length) Slot.unset).toArray = ls at hl ⊢
  have hl : lv_has ls 4 [(0, .ref (B + 0)), (1, .int x1), (2, .int x2)] := hl
  unfold f_X9_share at hf
  refine lv_bipush (v := 87) S.1 S.2.1 dX9_share_0 (by decide) ?_
  refine lv_iconst (v := 2) S.1 S.2.1 dX9_share_2 (by decide) ?_
  refine lv_iload_n S.1 S.2.1 dX9_share_3 rfl (lv_at hl 1 rfl) ?_
  refine lv_imul S.1 S.2.1 dX9_share_4 ?_
  refine lv_iadd S.1 S.2.1 dX9_share_5 ?_
  refine lv_istore_n (lv' := [(3, .int (87 + (2 * x1))), (0, .ref (B + 0)), (1, .int x1), (2, .int x2)]) S.1 S.2.1 dX9_share_6 rfl hl (by decide) rfl (fun ls hl => ?_)
  refine lv_iload_n S.1 S.2.1 dX9_share_7 rfl (lv_at hl 3 rfl) ?_
  refine lv_ldc (v := 2147483647) S.1 S.2.1 S.2.2.2.1 (S.2.2.2.2 _ ed_w4_216) dX9_share_8 ?_
  refine lv_aload_n S.1 S.2.1 dX9_share_10 rfl (lv_at hl 1 rfl) ?_
  refine em_get S ed_uX9 hK hM 0 (by decide) ed_w4_33 rfl rfl dX9_share_11 ?_
  refine lv_iload_n S.1 S.2.1 dX9_share_14 rfl (lv_at hl 0 rfl) ?_
  obtain ⟨hx1, hf⟩ := ed_g_e hf
  refine em_ild S hK hM 1 (by decide) (em_e1 cy B _) hx1 dX9_share_15 ?_
  refine lv_isub S.1 S.2.1 dX9_share_16 ?_
  refine lv_icmp_le (tgt := 35) S.1 S.2.1 dX9_share_17 (by decide) (fun c2 => ?_) (fun c2 => ?_)
  · replace hf := ed_ip c2 hf
    refine lv_aload_n S.1 S.2.1 dX9_share_35 rfl (lv_at hl 1 rfl) ?_
    refine em_get S ed_uX9 hK hM 0 (by decide) ed_w4_33 rfl rfl dX9_share_36 ?_
    refine lv_iload_n S.1 S.2.1 dX9_share_39 rfl (lv_at hl 0 rfl) ?_
    refine lv_dup2_11 S.1 S.2.1 dX9_share_40 rfl rfl ?_
    obtain ⟨hx3, hf⟩ := ed_g_e hf
    refine em_ild S hK hM 1 (by decide) (em_e1 cy B _) hx3 dX9_share_41 ?_
    refine lv_iload_n S.1 S.2.1 dX9_share_42 rfl (lv_at hl 3 rfl) ?_
    refine lv_iadd S.1 S.2.1 dX9_share_43 ?_
    obtain ⟨hx4, hf⟩ := ed_g_e hf
    refine em_ist S hK hM hS 1 (by decide) (em_e1 cy B) hx4 dX9_share_44 (fun H locs hM hS => ?_)
    obtain ⟨ν5, eν5, hf⟩ := ed_t_e hf
    have hM : em_P D cy B ν5 H := by rw [eν5]; exact hM
    obtain rfl := Option.some.inj hf
    exact ed_rv S hr hlocks hM hS dX9_share_45
  · replace hf := ed_in_ c2 hf
    refine lv_aload_n S.1 S.2.1 dX9_share_20 rfl (lv_at hl 1 rfl) ?_
    refine em_get S ed_uX9 hK hM 0 (by decide) ed_w4_33 rfl rfl dX9_share_21 ?_
    refine lv_iload_n S.1 S.2.1 dX9_share_24 rfl (lv_at hl 0 rfl) ?_
    refine lv_iconst (v := 1) S.1 S.2.1 dX9_share_25 (by decide) ?_
    refine lv_iadd S.1 S.2.1 dX9_share_26 ?_
    refine lv_dup2_11 S.1 S.2.1 dX9_share_27 rfl rfl ?_
    obtain ⟨hx6, hf⟩ := ed_g_e hf
    refine em_ild S hK hM 1 (by decide) (em_e1 cy B _) hx6 dX9_share_28 ?_
    refine lv_iconst (v := 1) S.1 S.2.1 dX9_share_29 (by decide) ?_
    refine lv_iadd S.1 S.2.1 dX9_share_30 ?_
    obtain ⟨hx7, hf⟩ := ed_g_e hf
    refine em_ist S hK hM hS 1 (by decide) (em_e1 cy B) hx7 dX9_share_31 (fun H locs hM hS => ?_)
    obtain ⟨ν8, eν8, hf⟩ := ed_t_e hf
    have hM : em_P D cy B ν8 H := by rw [eν8]; exact hM
    refine lv_goto (tgt := 45) S.1 S.2.1 dX9_share_32 (by decide) ?_
    obtain rfl := Option.some.inj hf
    exact ed_rv S hr hlocks hM hS dX9_share_45
set_option maxHeartbeats 4000000 in
set_option maxRecDepth 100000 in
theorem w_X9_bill_63 {p : Program} {l : Launch} {e : Env} {s : State} {m : MethodId} {args : Array Value} {below : List Frame} {meth : Method} {c : Code} {D : va_G} {cy : Nat → ClassId} {B : Nat} (S : CallFix p m c cX9_bill 6 s args ed_ws RX9) (hr : meth.sig.returnType = none) (hlocks : meth.locks = false) (hK : ed_K D cy s) (ν' : em_MM) :
    ∀ (n : Nat), ∀ (x1 x3 x4 x5 : Int32) (ν : em_MM), f_X9_bill_63  n x1 x3 x4 x5 ν = some ν' → ∀ (H : Heap) (locs : List Loc) (ls : Array Slot), em_P D cy B ν H → va_S (em_A B) s.heap H locs → lv_has ls 6 [(0, .ref (B + 0)), (1, .int x1), (3, .int x3), (4, .int x4), (5, .int x5)] → W p l e (headSpec wsX9_bill rmX9_bill).room s m args below meth c H locs 0 0 (MQ below (ed_qV (em_A B) (em_P D cy B ν')) args s 0 0 (em_A B)) (F0 m 63 ls []) := by
  intro n
  induction n with
  | zero => intro x1 x3 x4 x5 ν hf; rw [f_X9_bill_63] at hf; cases hf
  | succ n ih =>
    intro x1 x3 x4 x5 ν hf H locs ls hM hS hl
    rw [f_X9_bill_63] at hf
    refine lv_iload S.1 S.2.1 dX9_bill_63 (lv_at hl 4 rfl) ?_
    refine lv_iload S.1 S.2.1 dX9_bill_65 (lv_at hl 3 rfl) ?_
    refine lv_icmp_ge (tgt := 107) S.1 S.2.1 dX9_bill_67 (by decide) (fun c9 => ?_) (fun c9 => ?_)
    · replace hf := ed_ip c9 hf
      obtain rfl := Option.some.inj hf
      exact ed_rv S hr hlocks hM hS dX9_bill_107
    · replace hf := ed_in_ c9 hf
      refine lv_aload_n S.1 S.2.1 dX9_bill_70 rfl (lv_at hl 0 rfl) ?_
      refine lv_aload_n S.1 S.2.1 dX9_bill_71 rfl (lv_at hl 0 rfl) ?_
      refine lv_iload_n S.1 S.2.1 dX9_bill_72 rfl (lv_at hl 1 rfl) ?_
      refine lv_iconst (v := 2) S.1 S.2.1 dX9_bill_73 (by decide) ?_
      refine lv_iload S.1 S.2.1 dX9_bill_74 (lv_at hl 4 rfl) ?_
      refine lv_iadd S.1 S.2.1 dX9_bill_76 ?_
      obtain ⟨r10, hq10, hf⟩ := ed_b_e hf
      refine ed_kI (ed_rV S hK hM (c_X9_ofStory _ D cy B x1 (2 + x5) ν r10 hq10) (cwV 2 S.2.2.2.2 (ed_gV ed_w4_164 ed_w4_166 ed_wp_33 ed_w1_10 ed_w4_167) rfl rfl rfl hd_X9_ofStory ⟨Nat.le_of_ble_eq_true rfl, Nat.le_of_ble_eq_true rfl⟩) (em_rc hK hM) rfl hl.1 rfl (Nat.le_of_ble_eq_true rfl) dX9_bill_77 ⟨Nat.zero_le _, Nat.zero_le _⟩) hS (fun H locs hM hS => ?_)
      refine lv_iload_n S.1 S.2.1 dX9_bill_80 rfl (lv_at hl 2 rfl) ?_
      refine lv_iload S.1 S.2.1 dX9_bill_81 (lv_at hl 3 rfl) ?_
      obtain ⟨hz11, hf⟩ := ed_g_e hf
      refine lv_idiv S.1 S.2.1 dX9_bill_83 hz11 ?_
      refine lv_iload S.1 S.2.1 dX9_bill_84 (lv_at hl 4 rfl) ?_
      refine lv_if_ne (tgt := 96) S.1 S.2.1 dX9_bill_86 (by decide) (fun c12 => ?_) (fun c12 => ?_)
      · replace hf := ed_in_ c12 hf
        refine lv_iconst (v := 0) S.1 S.2.1 dX9_bill_96 (by decide) ?_
        refine lv_iadd S.1 S.2.1 dX9_bill_97 ?_
        obtain ⟨ν13, hq13, hf⟩ := ed_b_e hf
        refine ed_kV (ed_rV S hK hM (c_X9_share _ D cy B r10 ((x3 / x4) + 0) ν ν13 hq13) (cwV 2 S.2.2.2.2 (ed_gV ed_w4_217 ed_w4_219 ed_wp_41 ed_w1_10 ed_w4_220) rfl rfl rfl hd_X9_share ⟨Nat.le_of_ble_eq_true rfl, Nat.le_of_ble_eq_true rfl⟩) (em_rc hK hM) rfl hl.1 rfl (Nat.le_of_ble_eq_true rfl) dX9_bill_98 ⟨Nat.zero_le _, Nat.zero_le _⟩) hS (fun H locs hM hS => ?_)
        refine lv_iinc (v := x5 + 1) (lv' := [(5, .int (x5 + 1)), (0, .ref (B + 0)), (1, .int x1), (3, .int x3), (4, .int x4)]) S.1 S.2.1 dX9_bill_101 hl (k := 4) rfl rfl (by decide) rfl (fun ls hl => ?_)
        refine lv_goto (tgt := 63) S.1 S.2.1 dX9_bill_104 (by decide) ?_
        exact ih x1 x3 x4 (x5 + 1) ν13 hf _ _ _ hM hS (lv_sub hl [1, 2, 3, 4, 0] rfl)
      · replace hf := ed_ip c12 hf
        refine lv_iload_n S.1 S.2.1 dX9_bill_89 rfl (lv_at hl 2 rfl) ?_
        refine lv_iload S.1 S.2.1 dX9_bill_90 (lv_at hl 3 rfl) ?_
        obtain ⟨hz14, hf⟩ := ed_g_e hf
        refine lv_irem S.1 S.2.1 dX9_bill_92 hz14 ?_
        refine lv_goto (tgt := 97) S.1 S.2.1 dX9_bill_93 (by decide) ?_
        refine lv_iadd S.1 S.2.1 dX9_bill_97 ?_
        obtain ⟨ν15, hq15, hf⟩ := ed_b_e hf
        refine ed_kV (ed_rV S hK hM (c_X9_share _ D cy B r10 ((x3 / x4) + (x3 - x3 / x4 * x4)) ν ν15 hq15) (cwV 2 S.2.2.2.2 (ed_gV ed_w4_217 ed_w4_219 ed_wp_41 ed_w1_10 ed_w4_220) rfl rfl rfl hd_X9_share ⟨Nat.le_of_ble_eq_true rfl, Nat.le_of_ble_eq_true rfl⟩) (em_rc hK hM) rfl hl.1 rfl (Nat.le_of_ble_eq_true rfl) dX9_bill_98 ⟨Nat.zero_le _, Nat.zero_le _⟩) hS (fun H locs hM hS => ?_)
        refine lv_iinc (v := x5 + 1) (lv' := [(5, .int (x5 + 1)), (0, .ref (B + 0)), (1, .int x1), (3, .int x3), (4, .int x4)]) S.1 S.2.1 dX9_bill_101 hl (k := 4) rfl rfl (by decide) rfl (fun ls hl => ?_)
        refine lv_goto (tgt := 63) S.1 S.2.1 dX9_bill_104 (by decide) ?_
        exact ih x1 x3 x4 (x5 + 1) ν15 hf _ _ _ hM hS (lv_sub hl [1, 2, 3, 4, 0] rfl)
set_option maxHeartbeats 4000000 in
set_option maxRecDepth 100000 in
theorem c_X9_bill (l : Launch) (D : va_G) (cy : Nat → ClassId) (B : Nat) (x1 x2 : Int32) (ν : em_MM) (ν' : em_MM) (hf : f_X9_bill x1 x2 ν = some ν') :
    Met l yX9_bill wsX9_bill rmX9_bill (ed_pC D cy (em_P D cy B ν) [.ref (B + 0), .int x1, .int x2]) (ed_qV (em_A B) (em_P D cy B ν')) 0 0 (em_A B) := by
  refine Met.ofW (cc := cX9_bill) (maxL := 6) (ret := none) (by decide) rfl ?_
  intro p e s m args below meth c s₁ B0 hml hv
  obtain ⟨rfl, hM, hK⟩ := hv
  have S : CallFix p m c cX9_bill 6 s _ ed_ws RX9 := ⟨B0.exec, B0.bytes, hml, findClass_of_methodNamed B0.named, fun w hw => atoms_spec (ws := wsX9_bill) B0.pre w (List.mem_cons_of_mem _ hw)⟩
  have hr := B0.returns
  have hlocks := B0.notSynchronized
  have hS : va_S (em_A B) s.heap s.heap [] := va_S.rf
  have hl := lv_entry ([.ref (B + 0), .int x1, .int x2]) (n := 6) (Nat.le_of_ble_eq_true rfl)
  rw [lg_entry_eq]
  generalize (lg_sl ([.ref (B + 0), .int x1, .int x2]) ++ List.replicate (6 - (lg_sl ([.ref (B + 0), .int x1, .int x2])).length) Slot.unset).toArray = ls at hl ⊢
  have hl : lv_has ls 6 [(0, .ref (B + 0)), (1, .int x1), (2, .int x2)] := hl
  unfold f_X9_bill at hf
  refine lv_aload_n S.1 S.2.1 dX9_bill_0 rfl (lv_at hl 0 rfl) ?_
  refine lv_iload_n S.1 S.2.1 dX9_bill_1 rfl (lv_at hl 2 rfl) ?_
  refine lv_iconst (v := 4) S.1 S.2.1 dX9_bill_2 (by decide) ?_
  obtain ⟨r1, hq1, hf⟩ := ed_b_e hf
  refine ed_kI (ed_rV S hK hM (c_X9_ofClient _ D cy B x2 4 ν r1 hq1) (cwV 2 S.2.2.2.2 (ed_gV ed_w4_113 ed_w4_115 ed_wp_25 ed_w1_10 ed_w4_116) rfl rfl rfl hd_X9_ofClient ⟨Nat.le_of_ble_eq_true rfl, Nat.le_of_ble_eq_true rfl⟩) (em_rc hK hM) rfl hl.1 rfl (Nat.le_of_ble_eq_true rfl) dX9_bill_3 ⟨Nat.zero_le _, Nat.zero_le _⟩) hS (fun H locs hM hS => ?_)
  refine lv_istore_n (lv' := [(3, .int r1), (0, .ref (B + 0)), (1, .int x1), (2, .int x2)]) S.1 S.2.1 dX9_bill_6 rfl hl (by decide) rfl (fun ls hl => ?_)
  refine lv_iload_n S.1 S.2.1 dX9_bill_7 rfl (lv_at hl 0 rfl) ?_
  refine lv_ldc (v := 2147483647) S.1 S.2.1 S.2.2.2.1 (S.2.2.2.2 _ ed_w4_216) dX9_bill_8 ?_
  refine lv_aload_n S.1 S.2.1 dX9_bill_10 rfl (lv_at hl 1 rfl) ?_
  refine lv_iload_n S.1 S.2.1 dX9_bill_11 rfl (lv_at hl 3 rfl) ?_
  refine lv_bipush (v := 6) S.1 S.2.1 dX9_bill_12 (by decide) ?_
  obtain ⟨r2, hq2, hf⟩ := ed_b_e hf
  refine ed_kI (ed_rV S hK hM (c_X9_ofClient _ D cy B x2 6 ν r2 hq2) (cwV 2 S.2.2.2.2 (ed_gV ed_w4_113 ed_w4_115 ed_wp_25 ed_w1_10 ed_w4_116) rfl rfl rfl hd_X9_ofClient ⟨Nat.le_of_ble_eq_true rfl, Nat.le_of_ble_eq_true rfl⟩) (em_rc hK hM) rfl hl.1 rfl (Nat.le_of_ble_eq_true rfl) dX9_bill_14 ⟨Nat.zero_le _, Nat.zero_le _⟩) hS (fun H locs hM hS => ?_)
  refine lv_isub S.1 S.2.1 dX9_bill_17 ?_
  refine lv_icmp_le (tgt := 37) S.1 S.2.1 dX9_bill_18 (by decide) (fun c3 => ?_) (fun c3 => ?_)
  · replace hf := ed_ip c3 hf
    refine lv_aload_n S.1 S.2.1 dX9_bill_37 rfl (lv_at hl 1 rfl) ?_
    refine em_get S ed_uX9 hK hM 0 (by decide) ed_w4_33 rfl rfl dX9_bill_38 ?_
    refine lv_iload_n S.1 S.2.1 dX9_bill_41 rfl (lv_at hl 3 rfl) ?_
    refine lv_bipush (v := 6) S.1 S.2.1 dX9_bill_42 (by decide) ?_
    refine ed_kI (ed_rS S hK hM (c_X9_clientAt _ D cy (em_P D cy B ν) (em_A B) x2 6) (va_cwS 2 S.2.2.2.2 (ed_gS ed_w4_79 ed_w4_80 ed_w1_10 ed_w4_81) rfl rfl rfl hd_X9_clientAt.2 ⟨Nat.le_of_ble_eq_true rfl, Nat.le_of_ble_eq_true rfl⟩) rfl hl.1 rfl (Nat.le_of_ble_eq_true rfl) dX9_bill_44 ⟨Nat.zero_le _, Nat.zero_le _⟩) hS (fun H locs hM hS => ?_)
    refine lv_dup2_11 S.1 S.2.1 dX9_bill_47 rfl rfl ?_
    obtain ⟨hx5, hf⟩ := ed_g_e hf
    refine em_ild S hK hM 1 (by decide) (em_e1 cy B _) hx5 dX9_bill_48 ?_
    refine lv_iload_n S.1 S.2.1 dX9_bill_49 rfl (lv_at hl 0 rfl) ?_
    refine lv_iadd S.1 S.2.1 dX9_bill_50 ?_
    obtain ⟨hx6, hf⟩ := ed_g_e hf
    refine em_ist S hK hM hS 1 (by decide) (em_e1 cy B) hx6 dX9_bill_51 (fun H locs hM hS => ?_)
    obtain ⟨ν7, eν7, hf⟩ := ed_t_e hf
    have hM : em_P D cy B ν7 H := by rw [eν7]; exact hM
    refine lv_aload_n S.1 S.2.1 dX9_bill_52 rfl (lv_at hl 1 rfl) ?_
    refine lv_iload_n S.1 S.2.1 dX9_bill_53 rfl (lv_at hl 2 rfl) ?_
    refine lv_iconst (v := 1) S.1 S.2.1 dX9_bill_54 (by decide) ?_
    obtain ⟨r8, hq8, hf⟩ := ed_b_e hf
    refine ed_kI (ed_rV S hK hM (c_X9_ofStory _ D cy B x1 1 ν7 r8 hq8) (cwV 2 S.2.2.2.2 (ed_gV ed_w4_164 ed_w4_166 ed_wp_33 ed_w1_10 ed_w4_167) rfl rfl rfl hd_X9_ofStory ⟨Nat.le_of_ble_eq_true rfl, Nat.le_of_ble_eq_true rfl⟩) (em_rc hK hM) rfl hl.1 rfl (Nat.le_of_ble_eq_true rfl) dX9_bill_55 ⟨Nat.zero_le _, Nat.zero_le _⟩) hS (fun H locs hM hS => ?_)
    refine lv_istore (lv' := [(4, .int r8), (3, .int r1), (0, .ref (B + 0)), (1, .int x1), (2, .int x2)]) S.1 S.2.1 dX9_bill_58 hl (by decide) rfl (fun ls hl => ?_)
    refine lv_iconst (v := 0) S.1 S.2.1 dX9_bill_60 (by decide) ?_
    refine lv_istore (lv' := [(5, .int 0), (4, .int r8), (3, .int r1), (0, .ref (B + 0)), (1, .int x1), (2, .int x2)]) S.1 S.2.1 dX9_bill_61 hl (by decide) rfl (fun ls hl => ?_)
    exact w_X9_bill_63 S hr hlocks hK ν' ed_N x1 r1 r8 0 ν7 hf _ _ _ hM hS (lv_sub hl [3, 4, 2, 1, 0] rfl)
  · replace hf := ed_in_ c3 hf
    refine lv_aload_n S.1 S.2.1 dX9_bill_21 rfl (lv_at hl 1 rfl) ?_
    refine em_get S ed_uX9 hK hM 0 (by decide) ed_w4_33 rfl rfl dX9_bill_22 ?_
    refine lv_iload_n S.1 S.2.1 dX9_bill_25 rfl (lv_at hl 3 rfl) ?_
    refine lv_bipush (v := 9) S.1 S.2.1 dX9_bill_26 (by decide) ?_
    refine ed_kI (ed_rS S hK hM (c_X9_clientAt _ D cy (em_P D cy B ν) (em_A B) x2 9) (va_cwS 2 S.2.2.2.2 (ed_gS ed_w4_79 ed_w4_80 ed_w1_10 ed_w4_81) rfl rfl rfl hd_X9_clientAt.2 ⟨Nat.le_of_ble_eq_true rfl, Nat.le_of_ble_eq_true rfl⟩) rfl hl.1 rfl (Nat.le_of_ble_eq_true rfl) dX9_bill_28 ⟨Nat.zero_le _, Nat.zero_le _⟩) hS (fun H locs hM hS => ?_)
    refine lv_dup2_11 S.1 S.2.1 dX9_bill_31 rfl rfl ?_
    obtain ⟨hx17, hf⟩ := ed_g_e hf
    refine em_ild S hK hM 1 (by decide) (em_e1 cy B _) hx17 dX9_bill_32 ?_
    refine lv_iconst (v := 1) S.1 S.2.1 dX9_bill_33 (by decide) ?_
    refine lv_iadd S.1 S.2.1 dX9_bill_34 ?_
    obtain ⟨hx18, hf⟩ := ed_g_e hf
    refine em_ist S hK hM hS 1 (by decide) (em_e1 cy B) hx18 dX9_bill_35 (fun H locs hM hS => ?_)
    obtain ⟨ν19, eν19, hf⟩ := ed_t_e hf
    have hM : em_P D cy B ν19 H := by rw [eν19]; exact hM
    obtain rfl := Option.some.inj hf
    exact ed_rv S hr hlocks hM hS dX9_bill_36
set_option maxHeartbeats 4000000 in
set_option maxRecDepth 100000 in
theorem c_X9_useEnds (l : Launch) (D : va_G) (cy : Nat → ClassId) (B : Nat) (x1 : Int32) (ν : em_MM) (r : Int32) (hf : f_X9_useEnds x1 ν = some r) :
    Met l yX9_useEnds wsX9_useEnds rmX9_useEnds (ed_pC D cy (em_P D cy B ν) [.ref (B + 0), .int x1]) (ed_qI (em_A B) (em_P D cy B ν) r) 0 0 (em_A B) := by
  refine Met.ofW (cc := cX9_useEnds) (maxL := 2) (ret := (some .int)) (by decide) rfl ?_
  intro p e s m args below meth c s₁ B0 hml hv
  obtain ⟨rfl, hM, hK⟩ := hv
  have S : CallFix p m c cX9_useEnds 2 s _ ed_ws RX9 := ⟨B0.exec, B0.bytes, hml, findClass_of_methodNamed B0.named, fun w hw => atoms_spec (ws := wsX9_useEnds) B0.pre w (List.mem_cons_of_mem _ hw)⟩
  have hr := B0.returns
  have hlocks := B0.notSynchronized
  have hS : va_S (em_A B) s.heap s.heap [] := va_S.rf
  have hl := lv_entry ([.ref (B + 0), .int x1]) (n := 2) (Nat.le_of_ble_eq_true rfl)
  rw [lg_entry_eq]
  generalize (lg_sl ([.ref (B + 0), .int x1]) ++ List.replicate (2 - (lg_sl ([.ref (B + 0), .int x1])).length) Slot.unset).toArray = ls at hl ⊢
  have hl : lv_has ls 2 [(0, .ref (B + 0)), (1, .int x1)] := hl
  unfold f_X9_useEnds at hf
  refine lv_aload_n S.1 S.2.1 dX9_useEnds_0 rfl (lv_at hl 0 rfl) ?_
  refine lv_iload_n S.1 S.2.1 dX9_useEnds_1 rfl (lv_at hl 1 rfl) ?_
  refine lv_iconst (v := 4) S.1 S.2.1 dX9_useEnds_2 (by decide) ?_
  obtain ⟨r1, hq1, hf⟩ := ed_b_e hf
  refine ed_kI (ed_rV S hK hM (c_X9_ofCopy _ D cy B x1 4 ν r1 hq1) (cwV 2 S.2.2.2.2 (ed_gV ed_w4_98 ed_w4_100 ed_wp_24 ed_w1_10 ed_w4_101) rfl rfl rfl hd_X9_ofCopy ⟨Nat.le_of_ble_eq_true rfl, Nat.le_of_ble_eq_true rfl⟩) (em_rc hK hM) rfl hl.1 rfl (Nat.le_of_ble_eq_true rfl) dX9_useEnds_3 ⟨Nat.zero_le _, Nat.zero_le _⟩) hS (fun H locs hM hS => ?_)
  refine lv_aload_n S.1 S.2.1 dX9_useEnds_6 rfl (lv_at hl 0 rfl) ?_
  refine em_get S ed_uX9 hK hM 0 (by decide) ed_w4_33 rfl rfl dX9_useEnds_7 ?_
  refine lv_iconst (v := 4) S.1 S.2.1 dX9_useEnds_10 (by decide) ?_
  obtain ⟨hx2, hf⟩ := ed_g_e hf
  refine em_ild S hK hM 1 (by decide) (em_e1 cy B _) hx2 dX9_useEnds_11 ?_
  refine lv_bipush (v := 24) S.1 S.2.1 dX9_useEnds_12 (by decide) ?_
  refine lv_imul S.1 S.2.1 dX9_useEnds_14 ?_
  refine lv_iadd S.1 S.2.1 dX9_useEnds_15 ?_
  obtain rfl := Option.some.inj hf
  exact ed_ri S hr hlocks hM hS dX9_useEnds_16
set_option maxHeartbeats 4000000 in
set_option maxRecDepth 100000 in
theorem c_X9_killDue (l : Launch) (D : va_G) (cy : Nat → ClassId) (B : Nat) (x1 : Int32) (ν : em_MM) (r : Int32) (hf : f_X9_killDue x1 ν = some r) :
    Met l yX9_killDue wsX9_killDue rmX9_killDue (ed_pC D cy (em_P D cy B ν) [.ref (B + 0), .int x1]) (ed_qI (em_A B) (em_P D cy B ν) r) 0 0 (em_A B) := by
  refine Met.ofW (cc := cX9_killDue) (maxL := 2) (ret := (some .int)) (by decide) rfl ?_
  intro p e s m args below meth c s₁ B0 hml hv
  obtain ⟨rfl, hM, hK⟩ := hv
  have S : CallFix p m c cX9_killDue 2 s _ ed_ws RX9 := ⟨B0.exec, B0.bytes, hml, findClass_of_methodNamed B0.named, fun w hw => atoms_spec (ws := wsX9_killDue) B0.pre w (List.mem_cons_of_mem _ hw)⟩
  have hr := B0.returns
  have hlocks := B0.notSynchronized
  have hS : va_S (em_A B) s.heap s.heap [] := va_S.rf
  have hl := lv_entry ([.ref (B + 0), .int x1]) (n := 2) (Nat.le_of_ble_eq_true rfl)
  rw [lg_entry_eq]
  generalize (lg_sl ([.ref (B + 0), .int x1]) ++ List.replicate (2 - (lg_sl ([.ref (B + 0), .int x1])).length) Slot.unset).toArray = ls at hl ⊢
  have hl : lv_has ls 2 [(0, .ref (B + 0)), (1, .int x1)] := hl
  unfold f_X9_killDue at hf
  refine lv_aload_n S.1 S.2.1 dX9_killDue_0 rfl (lv_at hl 0 rfl) ?_
  refine lv_aload_n S.1 S.2.1 dX9_killDue_1 rfl (lv_at hl 0 rfl) ?_
  refine lv_iload_n S.1 S.2.1 dX9_killDue_2 rfl (lv_at hl 1 rfl) ?_
  refine lv_iconst (v := 0) S.1 S.2.1 dX9_killDue_3 (by decide) ?_
  obtain ⟨r1, hq1, hf⟩ := ed_b_e hf
  refine ed_kI (ed_rV S hK hM (c_X9_ofCopy _ D cy B x1 0 ν r1 hq1) (cwV 2 S.2.2.2.2 (ed_gV ed_w4_98 ed_w4_100 ed_wp_24 ed_w1_10 ed_w4_101) rfl rfl rfl hd_X9_ofCopy ⟨Nat.le_of_ble_eq_true rfl, Nat.le_of_ble_eq_true rfl⟩) (em_rc hK hM) rfl hl.1 rfl (Nat.le_of_ble_eq_true rfl) dX9_killDue_4 ⟨Nat.zero_le _, Nat.zero_le _⟩) hS (fun H locs hM hS => ?_)
  refine lv_bipush (v := 9) S.1 S.2.1 dX9_killDue_7 (by decide) ?_
  obtain ⟨r2, hq2, hf⟩ := ed_b_e hf
  refine ed_kI (ed_rV S hK hM (c_X9_ofStory _ D cy B r1 9 ν r2 hq2) (cwV 2 S.2.2.2.2 (ed_gV ed_w4_164 ed_w4_166 ed_wp_33 ed_w1_10 ed_w4_167) rfl rfl rfl hd_X9_ofStory ⟨Nat.le_of_ble_eq_true rfl, Nat.le_of_ble_eq_true rfl⟩) (em_rc hK hM) rfl hl.1 rfl (Nat.le_of_ble_eq_true rfl) dX9_killDue_9 ⟨Nat.zero_le _, Nat.zero_le _⟩) hS (fun H locs hM hS => ?_)
  refine lv_aload_n S.1 S.2.1 dX9_killDue_12 rfl (lv_at hl 0 rfl) ?_
  refine lv_aload_n S.1 S.2.1 dX9_killDue_13 rfl (lv_at hl 0 rfl) ?_
  refine lv_iload_n S.1 S.2.1 dX9_killDue_14 rfl (lv_at hl 1 rfl) ?_
  refine lv_iconst (v := 1) S.1 S.2.1 dX9_killDue_15 (by decide) ?_
  obtain ⟨r3, hq3, hf⟩ := ed_b_e hf
  refine ed_kI (ed_rV S hK hM (c_X9_ofCopy _ D cy B x1 1 ν r3 hq3) (cwV 2 S.2.2.2.2 (ed_gV ed_w4_98 ed_w4_100 ed_wp_24 ed_w1_10 ed_w4_101) rfl rfl rfl hd_X9_ofCopy ⟨Nat.le_of_ble_eq_true rfl, Nat.le_of_ble_eq_true rfl⟩) (em_rc hK hM) rfl hl.1 rfl (Nat.le_of_ble_eq_true rfl) dX9_killDue_16 ⟨Nat.zero_le _, Nat.zero_le _⟩) hS (fun H locs hM hS => ?_)
  refine lv_iconst (v := 2) S.1 S.2.1 dX9_killDue_19 (by decide) ?_
  obtain ⟨r4, hq4, hf⟩ := ed_b_e hf
  refine ed_kI (ed_rV S hK hM (c_X9_ofClient _ D cy B r3 2 ν r4 hq4) (cwV 2 S.2.2.2.2 (ed_gV ed_w4_113 ed_w4_115 ed_wp_25 ed_w1_10 ed_w4_116) rfl rfl rfl hd_X9_ofClient ⟨Nat.le_of_ble_eq_true rfl, Nat.le_of_ble_eq_true rfl⟩) (em_rc hK hM) rfl hl.1 rfl (Nat.le_of_ble_eq_true rfl) dX9_killDue_20 ⟨Nat.zero_le _, Nat.zero_le _⟩) hS (fun H locs hM hS => ?_)
  refine lv_iconst (v := 2) S.1 S.2.1 dX9_killDue_23 (by decide) ?_
  refine lv_idiv S.1 S.2.1 dX9_killDue_24 (by decide) ?_
  refine lv_iadd S.1 S.2.1 dX9_killDue_25 ?_
  obtain rfl := Option.some.inj hf
  exact ed_ri S hr hlocks hM hS dX9_killDue_26
set_option maxHeartbeats 4000000 in
set_option maxRecDepth 100000 in
theorem c_X9_correctionDue (l : Launch) (D : va_G) (cy : Nat → ClassId) (B : Nat) (x1 x2 : Int32) (ν : em_MM) (r : Int32) (hf : f_X9_correctionDue x1 x2 ν = some r) :
    Met l yX9_correctionDue wsX9_correctionDue rmX9_correctionDue (ed_pC D cy (em_P D cy B ν) [.ref (B + 0), .int x1, .int x2]) (ed_qI (em_A B) (em_P D cy B ν) r) 0 0 (em_A B) := by
  refine Met.ofW (cc := cX9_correctionDue) (maxL := 3) (ret := (some .int)) (by decide) rfl ?_
  intro p e s m args below meth c s₁ B0 hml hv
  obtain ⟨rfl, hM, hK⟩ := hv
  have S : CallFix p m c cX9_correctionDue 3 s _ ed_ws RX9 := ⟨B0.exec, B0.bytes, hml, findClass_of_methodNamed B0.named, fun w hw => atoms_spec (ws := wsX9_correctionDue) B0.pre w (List.mem_cons_of_mem _ hw)⟩
  have hr := B0.returns
  have hlocks := B0.notSynchronized
  have hS : va_S (em_A B) s.heap s.heap [] := va_S.rf
  have hl := lv_entry ([.ref (B + 0), .int x1, .int x2]) (n := 3) (Nat.le_of_ble_eq_true rfl)
  rw [lg_entry_eq]
  generalize (lg_sl ([.ref (B + 0), .int x1, .int x2]) ++ List.replicate (3 - (lg_sl ([.ref (B + 0), .int x1, .int x2])).length) Slot.unset).toArray = ls at hl ⊢
  have hl : lv_has ls 3 [(0, .ref (B + 0)), (1, .int x1), (2, .int x2)] := hl
  unfold f_X9_correctionDue at hf
  refine lv_aload_n S.1 S.2.1 dX9_correctionDue_0 rfl (lv_at hl 0 rfl) ?_
  refine lv_aload_n S.1 S.2.1 dX9_correctionDue_1 rfl (lv_at hl 0 rfl) ?_
  refine lv_iload_n S.1 S.2.1 dX9_correctionDue_2 rfl (lv_at hl 1 rfl) ?_
  refine lv_iconst (v := 0) S.1 S.2.1 dX9_correctionDue_3 (by decide) ?_
  obtain ⟨r1, hq1, hf⟩ := ed_b_e hf
  refine ed_kI (ed_rV S hK hM (c_X9_ofCopy _ D cy B x1 0 ν r1 hq1) (cwV 2 S.2.2.2.2 (ed_gV ed_w4_98 ed_w4_100 ed_wp_24 ed_w1_10 ed_w4_101) rfl rfl rfl hd_X9_ofCopy ⟨Nat.le_of_ble_eq_true rfl, Nat.le_of_ble_eq_true rfl⟩) (em_rc hK hM) rfl hl.1 rfl (Nat.le_of_ble_eq_true rfl) dX9_correctionDue_4 ⟨Nat.zero_le _, Nat.zero_le _⟩) hS (fun H locs hM hS => ?_)
  refine lv_bipush (v := 10) S.1 S.2.1 dX9_correctionDue_7 (by decide) ?_
  refine lv_iload_n S.1 S.2.1 dX9_correctionDue_9 rfl (lv_at hl 2 rfl) ?_
  refine lv_iadd S.1 S.2.1 dX9_correctionDue_10 ?_
  obtain ⟨r2, hq2, hf⟩ := ed_b_e hf
  refine ed_kI (ed_rV S hK hM (c_X9_ofStory _ D cy B r1 (10 + x2) ν r2 hq2) (cwV 2 S.2.2.2.2 (ed_gV ed_w4_164 ed_w4_166 ed_wp_33 ed_w1_10 ed_w4_167) rfl rfl rfl hd_X9_ofStory ⟨Nat.le_of_ble_eq_true rfl, Nat.le_of_ble_eq_true rfl⟩) (em_rc hK hM) rfl hl.1 rfl (Nat.le_of_ble_eq_true rfl) dX9_correctionDue_11 ⟨Nat.zero_le _, Nat.zero_le _⟩) hS (fun H locs hM hS => ?_)
  refine lv_aload_n S.1 S.2.1 dX9_correctionDue_14 rfl (lv_at hl 0 rfl) ?_
  refine lv_aload_n S.1 S.2.1 dX9_correctionDue_15 rfl (lv_at hl 0 rfl) ?_
  refine lv_iload_n S.1 S.2.1 dX9_correctionDue_16 rfl (lv_at hl 1 rfl) ?_
  refine lv_iconst (v := 1) S.1 S.2.1 dX9_correctionDue_17 (by decide) ?_
  obtain ⟨r3, hq3, hf⟩ := ed_b_e hf
  refine ed_kI (ed_rV S hK hM (c_X9_ofCopy _ D cy B x1 1 ν r3 hq3) (cwV 2 S.2.2.2.2 (ed_gV ed_w4_98 ed_w4_100 ed_wp_24 ed_w1_10 ed_w4_101) rfl rfl rfl hd_X9_ofCopy ⟨Nat.le_of_ble_eq_true rfl, Nat.le_of_ble_eq_true rfl⟩) (em_rc hK hM) rfl hl.1 rfl (Nat.le_of_ble_eq_true rfl) dX9_correctionDue_18 ⟨Nat.zero_le _, Nat.zero_le _⟩) hS (fun H locs hM hS => ?_)
  refine lv_iconst (v := 2) S.1 S.2.1 dX9_correctionDue_21 (by decide) ?_
  obtain ⟨r4, hq4, hf⟩ := ed_b_e hf
  refine ed_kI (ed_rV S hK hM (c_X9_ofClient _ D cy B r3 2 ν r4 hq4) (cwV 2 S.2.2.2.2 (ed_gV ed_w4_113 ed_w4_115 ed_wp_25 ed_w1_10 ed_w4_116) rfl rfl rfl hd_X9_ofClient ⟨Nat.le_of_ble_eq_true rfl, Nat.le_of_ble_eq_true rfl⟩) (em_rc hK hM) rfl hl.1 rfl (Nat.le_of_ble_eq_true rfl) dX9_correctionDue_22 ⟨Nat.zero_le _, Nat.zero_le _⟩) hS (fun H locs hM hS => ?_)
  refine lv_iadd S.1 S.2.1 dX9_correctionDue_25 ?_
  obtain rfl := Option.some.inj hf
  exact ed_ri S hr hlocks hM hS dX9_correctionDue_26
set_option maxHeartbeats 4000000 in
set_option maxRecDepth 100000 in
theorem w_X9_goOn_304 {p : Program} {l : Launch} {e : Env} {s : State} {m : MethodId} {args : Array Value} {below : List Frame} {meth : Method} {c : Code} {D : va_G} {cy : Nat → ClassId} {B : Nat} (S : CallFix p m c cX9_goOn 6 s args ed_ws RX9) (hr : meth.sig.returnType = (some .int)) (hlocks : meth.locks = false) (hK : ed_K D cy s) (r : Int32) (ν' : em_MM) :
    ∀ (n : Nat), ∀ (x1 x2 x3 x5 : Int32) (ν : em_MM), f_X9_goOn_304  n x1 x2 x3 x5 ν = some (r, ν') → ∀ (H : Heap) (locs : List Loc) (ls : Array Slot), em_P D cy B ν H → va_S (em_A B) s.heap H locs → lv_has ls 6 [(0, .ref (B + 0)), (1, .int x1), (2, .int x2), (3, .int x3), (5, .int x5)] → W p l e (headSpec wsX9_goOn rmX9_goOn).room s m args below meth c H locs 0 0 (MQ below (ed_qI (em_A B) (em_P D cy B ν') r) args s 0 0 (em_A B)) (F0 m 304 ls []) := by
  intro n
  induction n with
  | zero => intro x1 x2 x3 x5 ν hf; rw [f_X9_goOn_304] at hf; cases hf
  | succ n ih =>
    intro x1 x2 x3 x5 ν hf H locs ls hM hS hl
    rw [f_X9_goOn_304] at hf
    refine lv_aload_n S.1 S.2.1 dX9_goOn_304 rfl (lv_at hl 0 rfl) ?_
    refine lv_iload_n S.1 S.2.1 dX9_goOn_305 rfl (lv_at hl 1 rfl) ?_
    refine lv_iconst (v := 5) S.1 S.2.1 dX9_goOn_306 (by decide) ?_
    obtain ⟨r16, hq16, hf⟩ := ed_b_e hf
    refine ed_kI (ed_rV S hK hM (c_X9_ofCopy _ D cy B x1 5 ν r16 hq16) (cwV 2 S.2.2.2.2 (ed_gV ed_w4_98 ed_w4_100 ed_wp_24 ed_w1_10 ed_w4_101) rfl rfl rfl hd_X9_ofCopy ⟨Nat.le_of_ble_eq_true rfl, Nat.le_of_ble_eq_true rfl⟩) (em_rc hK hM) rfl hl.1 rfl (Nat.le_of_ble_eq_true rfl) dX9_goOn_307 ⟨Nat.zero_le _, Nat.zero_le _⟩) hS (fun H locs hM hS => ?_)
    refine lv_aload_n S.1 S.2.1 dX9_goOn_310 rfl (lv_at hl 0 rfl) ?_
    refine lv_iload_n S.1 S.2.1 dX9_goOn_311 rfl (lv_at hl 2 rfl) ?_
    refine lv_bipush (v := 7) S.1 S.2.1 dX9_goOn_312 (by decide) ?_
    obtain ⟨r17, hq17, hf⟩ := ed_b_e hf
    refine ed_kI (ed_rV S hK hM (c_X9_ofStory _ D cy B x2 7 ν r17 hq17) (cwV 2 S.2.2.2.2 (ed_gV ed_w4_164 ed_w4_166 ed_wp_33 ed_w1_10 ed_w4_167) rfl rfl rfl hd_X9_ofStory ⟨Nat.le_of_ble_eq_true rfl, Nat.le_of_ble_eq_true rfl⟩) (em_rc hK hM) rfl hl.1 rfl (Nat.le_of_ble_eq_true rfl) dX9_goOn_314 ⟨Nat.zero_le _, Nat.zero_le _⟩) hS (fun H locs hM hS => ?_)
    refine lv_icmp_ge (tgt := 374) S.1 S.2.1 dX9_goOn_317 (by decide) (fun c18 => ?_) (fun c18 => ?_)
    · replace hf := ed_ip c18 hf
      refine lv_iload S.1 S.2.1 dX9_goOn_374 (lv_at hl 4 rfl) ?_
      obtain ⟨rfl, rfl⟩ := ed_so hf
      exact ed_ri S hr hlocks hM hS dX9_goOn_376
    · replace hf := ed_in_ c18 hf
      refine lv_aload_n S.1 S.2.1 dX9_goOn_320 rfl (lv_at hl 0 rfl) ?_
      refine em_get S ed_uX9 hK hM 0 (by decide) ed_w4_33 rfl rfl dX9_goOn_321 ?_
      refine lv_iconst (v := 0) S.1 S.2.1 dX9_goOn_324 (by decide) ?_
      obtain ⟨hx19, hf⟩ := ed_g_e hf
      refine em_ild S hK hM 1 (by decide) (em_e1 cy B _) hx19 dX9_goOn_325 ?_
      refine lv_aload_n S.1 S.2.1 dX9_goOn_326 rfl (lv_at hl 0 rfl) ?_
      refine lv_iload_n S.1 S.2.1 dX9_goOn_327 rfl (lv_at hl 1 rfl) ?_
      refine lv_aload_n S.1 S.2.1 dX9_goOn_328 rfl (lv_at hl 0 rfl) ?_
      refine lv_iload_n S.1 S.2.1 dX9_goOn_329 rfl (lv_at hl 1 rfl) ?_
      refine lv_iconst (v := 5) S.1 S.2.1 dX9_goOn_330 (by decide) ?_
      obtain ⟨r20, hq20, hf⟩ := ed_b_e hf
      refine ed_kI (ed_rV S hK hM (c_X9_ofCopy _ D cy B x1 5 ν r20 hq20) (cwV 2 S.2.2.2.2 (ed_gV ed_w4_98 ed_w4_100 ed_wp_24 ed_w1_10 ed_w4_101) rfl rfl rfl hd_X9_ofCopy ⟨Nat.le_of_ble_eq_true rfl, Nat.le_of_ble_eq_true rfl⟩) (em_rc hK hM) rfl hl.1 rfl (Nat.le_of_ble_eq_true rfl) dX9_goOn_331 ⟨Nat.zero_le _, Nat.zero_le _⟩) hS (fun H locs hM hS => ?_)
      obtain ⟨r21, hq21, hf⟩ := ed_b_e hf
      refine ed_kI (ed_rV S hK hM (c_X9_correctionDue _ D cy B x1 r20 ν r21 hq21) (cwV 2 S.2.2.2.2 (ed_gV ed_w4_229 ed_w4_231 ed_wp_44 ed_w1_10 ed_w4_232) rfl rfl rfl hd_X9_correctionDue ⟨Nat.le_of_ble_eq_true rfl, Nat.le_of_ble_eq_true rfl⟩) (em_rc hK hM) rfl hl.1 rfl (Nat.le_of_ble_eq_true rfl) dX9_goOn_334 ⟨Nat.zero_le _, Nat.zero_le _⟩) hS (fun H locs hM hS => ?_)
      refine lv_icmp_lt (tgt := 374) S.1 S.2.1 dX9_goOn_337 (by decide) (fun c22 => ?_) (fun c22 => ?_)
      · replace hf := ed_ip c22 hf
        refine lv_iload S.1 S.2.1 dX9_goOn_374 (lv_at hl 4 rfl) ?_
        obtain ⟨rfl, rfl⟩ := ed_so hf
        exact ed_ri S hr hlocks hM hS dX9_goOn_376
      · replace hf := ed_in_ c22 hf
        refine lv_aload_n S.1 S.2.1 dX9_goOn_340 rfl (lv_at hl 0 rfl) ?_
        refine em_get S ed_uX9 hK hM 0 (by decide) ed_w4_33 rfl rfl dX9_goOn_341 ?_
        refine lv_iload_n S.1 S.2.1 dX9_goOn_344 rfl (lv_at hl 1 rfl) ?_
        refine lv_iconst (v := 5) S.1 S.2.1 dX9_goOn_345 (by decide) ?_
        refine ed_kI (ed_rS S hK hM (c_X9_atCopy _ D cy (em_P D cy B ν) (em_A B) x1 5) (va_cwS 2 S.2.2.2.2 (ed_gS ed_w4_102 ed_w4_103 ed_w1_10 ed_w4_104) rfl rfl rfl hd_X9_atCopy.2 ⟨Nat.le_of_ble_eq_true rfl, Nat.le_of_ble_eq_true rfl⟩) rfl hl.1 rfl (Nat.le_of_ble_eq_true rfl) dX9_goOn_346 ⟨Nat.zero_le _, Nat.zero_le _⟩) hS (fun H locs hM hS => ?_)
        refine lv_dup2_11 S.1 S.2.1 dX9_goOn_349 rfl rfl ?_
        obtain ⟨hx24, hf⟩ := ed_g_e hf
        refine em_ild S hK hM 1 (by decide) (em_e1 cy B _) hx24 dX9_goOn_350 ?_
        refine lv_iconst (v := 1) S.1 S.2.1 dX9_goOn_351 (by decide) ?_
        refine lv_iadd S.1 S.2.1 dX9_goOn_352 ?_
        obtain ⟨hx25, hf⟩ := ed_g_e hf
        refine em_ist S hK hM hS 1 (by decide) (em_e1 cy B) hx25 dX9_goOn_353 (fun H locs hM hS => ?_)
        obtain ⟨ν26, eν26, hf⟩ := ed_t_e hf
        have hM : em_P D cy B ν26 H := by rw [eν26]; exact hM
        refine lv_aload_n S.1 S.2.1 dX9_goOn_354 rfl (lv_at hl 0 rfl) ?_
        refine em_get S ed_uX9 hK hM 0 (by decide) ed_w4_33 rfl rfl dX9_goOn_355 ?_
        refine lv_iconst (v := 5) S.1 S.2.1 dX9_goOn_358 (by decide) ?_
        refine lv_dup2_11 S.1 S.2.1 dX9_goOn_359 rfl rfl ?_
        obtain ⟨hx27, hf⟩ := ed_g_e hf
        refine em_ild S hK hM 1 (by decide) (em_e1 cy B _) hx27 dX9_goOn_360 ?_
        refine lv_iconst (v := 1) S.1 S.2.1 dX9_goOn_361 (by decide) ?_
        refine lv_iadd S.1 S.2.1 dX9_goOn_362 ?_
        obtain ⟨hx28, hf⟩ := ed_g_e hf
        refine em_ist S hK hM hS 1 (by decide) (em_e1 cy B) hx28 dX9_goOn_363 (fun H locs hM hS => ?_)
        obtain ⟨ν29, eν29, hf⟩ := ed_t_e hf
        have hM : em_P D cy B ν29 H := by rw [eν29]; exact hM
        refine lv_aload_n S.1 S.2.1 dX9_goOn_364 rfl (lv_at hl 0 rfl) ?_
        refine lv_iconst (v := 2) S.1 S.2.1 dX9_goOn_365 (by decide) ?_
        refine lv_iload_n S.1 S.2.1 dX9_goOn_366 rfl (lv_at hl 2 rfl) ?_
        refine lv_iload_n S.1 S.2.1 dX9_goOn_367 rfl (lv_at hl 3 rfl) ?_
        obtain ⟨ν30, hq30, hf⟩ := ed_b_e hf
        refine ed_kV (ed_rV S hK hM (c_X9_log _ D cy B 2 x2 x3 ν29 ν30 hq30) (cwV 3 S.2.2.2.2 (ed_gV ed_w4_184 ed_w4_186 ed_wp_35 ed_w1_10 ed_w4_187) rfl rfl rfl hd_X9_log ⟨Nat.le_of_ble_eq_true rfl, Nat.le_of_ble_eq_true rfl⟩) (em_rc hK hM) rfl hl.1 rfl (Nat.le_of_ble_eq_true rfl) dX9_goOn_368 ⟨Nat.zero_le _, Nat.zero_le _⟩) hS (fun H locs hM hS => ?_)
        refine lv_goto (tgt := 304) S.1 S.2.1 dX9_goOn_371 (by decide) ?_
        exact ih x1 x2 x3 x5 ν30 hf _ _ _ hM hS (lv_sub hl [0, 1, 2, 3, 4] rfl)
set_option maxHeartbeats 4000000 in
set_option maxRecDepth 100000 in
theorem w_X9_goOn_242 {p : Program} {l : Launch} {e : Env} {s : State} {m : MethodId} {args : Array Value} {below : List Frame} {meth : Method} {c : Code} {D : va_G} {cy : Nat → ClassId} {B : Nat} (S : CallFix p m c cX9_goOn 6 s args ed_ws RX9) (hr : meth.sig.returnType = (some .int)) (hlocks : meth.locks = false) (hK : ed_K D cy s) (r : Int32) (ν' : em_MM) :
    ∀ (x1 x2 x3 x4 x5 : Int32) (ν : em_MM), f_X9_goOn_242  x1 x2 x3 x4 x5 ν = some (r, ν') → ∀ (H : Heap) (locs : List Loc) (ls : Array Slot), em_P D cy B ν H → va_S (em_A B) s.heap H locs → lv_has ls 6 [(0, .ref (B + 0)), (1, .int x1), (2, .int x2), (3, .int x3), (4, .int x4), (5, .int x5)] → W p l e (headSpec wsX9_goOn rmX9_goOn).room s m args below meth c H locs 0 0 (MQ below (ed_qI (em_A B) (em_P D cy B ν') r) args s 0 0 (em_A B)) (F0 m 242 ls []) := by
  intro x1 x2 x3 x4 x5 ν hf H locs ls hM hS hl
  unfold f_X9_goOn_242 at hf
  refine lv_aload_n S.1 S.2.1 dX9_goOn_242 rfl (lv_at hl 0 rfl) ?_
  refine lv_iload_n S.1 S.2.1 dX9_goOn_243 rfl (lv_at hl 1 rfl) ?_
  refine lv_iconst (v := 2) S.1 S.2.1 dX9_goOn_244 (by decide) ?_
  obtain ⟨r11, hq11, hf⟩ := ed_b_e hf
  refine ed_kI (ed_rV S hK hM (c_X9_ofCopy _ D cy B x1 2 ν r11 hq11) (cwV 2 S.2.2.2.2 (ed_gV ed_w4_98 ed_w4_100 ed_wp_24 ed_w1_10 ed_w4_101) rfl rfl rfl hd_X9_ofCopy ⟨Nat.le_of_ble_eq_true rfl, Nat.le_of_ble_eq_true rfl⟩) (em_rc hK hM) rfl hl.1 rfl (Nat.le_of_ble_eq_true rfl) dX9_goOn_245 ⟨Nat.zero_le _, Nat.zero_le _⟩) hS (fun H locs hM hS => ?_)
  refine lv_iconst (v := 1) S.1 S.2.1 dX9_goOn_248 (by decide) ?_
  refine lv_icmp_ne (tgt := 261) S.1 S.2.1 dX9_goOn_249 (by decide) (fun c12 => ?_) (fun c12 => ?_)
  · replace hf := ed_in_ c12 hf
    refine lv_iload S.1 S.2.1 dX9_goOn_261 (lv_at hl 5 rfl) ?_
    obtain ⟨rfl, rfl⟩ := ed_so hf
    exact ed_ri S hr hlocks hM hS dX9_goOn_263
  · replace hf := ed_ip c12 hf
    refine lv_aload_n S.1 S.2.1 dX9_goOn_252 rfl (lv_at hl 0 rfl) ?_
    refine lv_iload_n S.1 S.2.1 dX9_goOn_253 rfl (lv_at hl 3 rfl) ?_
    refine lv_iconst (v := 5) S.1 S.2.1 dX9_goOn_254 (by decide) ?_
    obtain ⟨r13, hq13, hf⟩ := ed_b_e hf
    refine ed_kI (ed_rV S hK hM (c_X9_ofClient _ D cy B x3 5 ν r13 hq13) (cwV 2 S.2.2.2.2 (ed_gV ed_w4_113 ed_w4_115 ed_wp_25 ed_w1_10 ed_w4_116) rfl rfl rfl hd_X9_ofClient ⟨Nat.le_of_ble_eq_true rfl, Nat.le_of_ble_eq_true rfl⟩) (em_rc hK hM) rfl hl.1 rfl (Nat.le_of_ble_eq_true rfl) dX9_goOn_255 ⟨Nat.zero_le _, Nat.zero_le _⟩) hS (fun H locs hM hS => ?_)
    refine lv_if_ne (tgt := 264) S.1 S.2.1 dX9_goOn_258 (by decide) (fun c14 => ?_) (fun c14 => ?_)
    · replace hf := ed_in_ c14 hf
      refine lv_iload S.1 S.2.1 dX9_goOn_264 (lv_at hl 4 rfl) ?_
      refine lv_if_eq (tgt := 304) S.1 S.2.1 dX9_goOn_266 (by decide) (fun c15 => ?_) (fun c15 => ?_)
      · replace hf := ed_ip c15 hf
        exact w_X9_goOn_304 S hr hlocks hK r ν' ed_N x1 x2 x3 x5 ν hf _ _ _ hM hS (lv_sub hl [0, 1, 2, 3, 5] rfl)
      · replace hf := ed_in_ c15 hf
        refine lv_aload_n S.1 S.2.1 dX9_goOn_269 rfl (lv_at hl 0 rfl) ?_
        refine em_get S ed_uX9 hK hM 0 (by decide) ed_w4_33 rfl rfl dX9_goOn_270 ?_
        refine lv_iconst (v := 0) S.1 S.2.1 dX9_goOn_273 (by decide) ?_
        obtain ⟨hx31, hf⟩ := ed_g_e hf
        refine em_ild S hK hM 1 (by decide) (em_e1 cy B _) hx31 dX9_goOn_274 ?_
        refine lv_aload_n S.1 S.2.1 dX9_goOn_275 rfl (lv_at hl 0 rfl) ?_
        refine lv_iload_n S.1 S.2.1 dX9_goOn_276 rfl (lv_at hl 1 rfl) ?_
        obtain ⟨r32, hq32, hf⟩ := ed_b_e hf
        refine ed_kI (ed_rV S hK hM (c_X9_killDue _ D cy B x1 ν r32 hq32) (cwV 1 S.2.2.2.2 (ed_gV ed_w4_225 ed_w4_227 ed_wp_43 ed_w1_10 ed_w4_228) rfl rfl rfl hd_X9_killDue ⟨Nat.le_of_ble_eq_true rfl, Nat.le_of_ble_eq_true rfl⟩) (em_rc hK hM) rfl hl.1 rfl (Nat.le_of_ble_eq_true rfl) dX9_goOn_277 ⟨Nat.zero_le _, Nat.zero_le _⟩) hS (fun H locs hM hS => ?_)
        refine lv_icmp_lt (tgt := 304) S.1 S.2.1 dX9_goOn_280 (by decide) (fun c33 => ?_) (fun c33 => ?_)
        · replace hf := ed_ip c33 hf
          exact w_X9_goOn_304 S hr hlocks hK r ν' ed_N x1 x2 x3 x5 ν hf _ _ _ hM hS (lv_sub hl [0, 1, 2, 3, 5] rfl)
        · replace hf := ed_in_ c33 hf
          refine lv_aload_n S.1 S.2.1 dX9_goOn_283 rfl (lv_at hl 0 rfl) ?_
          refine em_get S ed_uX9 hK hM 0 (by decide) ed_w4_33 rfl rfl dX9_goOn_284 ?_
          refine lv_iload_n S.1 S.2.1 dX9_goOn_287 rfl (lv_at hl 1 rfl) ?_
          refine lv_iconst (v := 2) S.1 S.2.1 dX9_goOn_288 (by decide) ?_
          refine ed_kI (ed_rS S hK hM (c_X9_atCopy _ D cy (em_P D cy B ν) (em_A B) x1 2) (va_cwS 2 S.2.2.2.2 (ed_gS ed_w4_102 ed_w4_103 ed_w1_10 ed_w4_104) rfl rfl rfl hd_X9_atCopy.2 ⟨Nat.le_of_ble_eq_true rfl, Nat.le_of_ble_eq_true rfl⟩) rfl hl.1 rfl (Nat.le_of_ble_eq_true rfl) dX9_goOn_289 ⟨Nat.zero_le _, Nat.zero_le _⟩) hS (fun H locs hM hS => ?_)
          refine lv_iconst (v := 2) S.1 S.2.1 dX9_goOn_292 (by decide) ?_
          obtain ⟨hx35, hf⟩ := ed_g_e hf
          refine em_ist S hK hM hS 1 (by decide) (em_e1 cy B) hx35 dX9_goOn_293 (fun H locs hM hS => ?_)
          obtain ⟨ν36, eν36, hf⟩ := ed_t_e hf
          have hM : em_P D cy B ν36 H := by rw [eν36]; exact hM
          refine lv_aload_n S.1 S.2.1 dX9_goOn_294 rfl (lv_at hl 0 rfl) ?_
          refine lv_iconst (v := 3) S.1 S.2.1 dX9_goOn_295 (by decide) ?_
          refine lv_iload_n S.1 S.2.1 dX9_goOn_296 rfl (lv_at hl 2 rfl) ?_
          refine lv_iload_n S.1 S.2.1 dX9_goOn_297 rfl (lv_at hl 3 rfl) ?_
          obtain ⟨ν37, hq37, hf⟩ := ed_b_e hf
          refine ed_kV (ed_rV S hK hM (c_X9_log _ D cy B 3 x2 x3 ν36 ν37 hq37) (cwV 3 S.2.2.2.2 (ed_gV ed_w4_184 ed_w4_186 ed_wp_35 ed_w1_10 ed_w4_187) rfl rfl rfl hd_X9_log ⟨Nat.le_of_ble_eq_true rfl, Nat.le_of_ble_eq_true rfl⟩) (em_rc hK hM) rfl hl.1 rfl (Nat.le_of_ble_eq_true rfl) dX9_goOn_298 ⟨Nat.zero_le _, Nat.zero_le _⟩) hS (fun H locs hM hS => ?_)
          refine lv_iload S.1 S.2.1 dX9_goOn_301 (lv_at hl 5 rfl) ?_
          obtain ⟨rfl, rfl⟩ := ed_so hf
          exact ed_ri S hr hlocks hM hS dX9_goOn_303
    · replace hf := ed_ip c14 hf
      refine lv_iload S.1 S.2.1 dX9_goOn_261 (lv_at hl 5 rfl) ?_
      obtain ⟨rfl, rfl⟩ := ed_so hf
      exact ed_ri S hr hlocks hM hS dX9_goOn_263
set_option maxHeartbeats 4000000 in
set_option maxRecDepth 100000 in
theorem w_X9_goOn_200 {p : Program} {l : Launch} {e : Env} {s : State} {m : MethodId} {args : Array Value} {below : List Frame} {meth : Method} {c : Code} {D : va_G} {cy : Nat → ClassId} {B : Nat} (S : CallFix p m c cX9_goOn 6 s args ed_ws RX9) (hr : meth.sig.returnType = (some .int)) (hlocks : meth.locks = false) (hK : ed_K D cy s) (r : Int32) (ν' : em_MM) :
    ∀ (x1 x2 x3 x4 x5 : Int32) (ν : em_MM), f_X9_goOn_200  x1 x2 x3 x4 x5 ν = some (r, ν') → ∀ (H : Heap) (locs : List Loc) (ls : Array Slot), em_P D cy B ν H → va_S (em_A B) s.heap H locs → lv_has ls 6 [(0, .ref (B + 0)), (1, .int x1), (2, .int x2), (3, .int x3), (4, .int x4), (5, .int x5)] → W p l e (headSpec wsX9_goOn rmX9_goOn).room s m args below meth c H locs 0 0 (MQ below (ed_qI (em_A B) (em_P D cy B ν') r) args s 0 0 (em_A B)) (F0 m 200 ls []) := by
  intro x1 x2 x3 x4 x5 ν hf H locs ls hM hS hl
  unfold f_X9_goOn_200 at hf
  refine lv_aload_n S.1 S.2.1 dX9_goOn_200 rfl (lv_at hl 0 rfl) ?_
  refine lv_iload_n S.1 S.2.1 dX9_goOn_201 rfl (lv_at hl 1 rfl) ?_
  refine lv_iconst (v := 2) S.1 S.2.1 dX9_goOn_202 (by decide) ?_
  obtain ⟨r9, hq9, hf⟩ := ed_b_e hf
  refine ed_kI (ed_rV S hK hM (c_X9_ofCopy _ D cy B x1 2 ν r9 hq9) (cwV 2 S.2.2.2.2 (ed_gV ed_w4_98 ed_w4_100 ed_wp_24 ed_w1_10 ed_w4_101) rfl rfl rfl hd_X9_ofCopy ⟨Nat.le_of_ble_eq_true rfl, Nat.le_of_ble_eq_true rfl⟩) (em_rc hK hM) rfl hl.1 rfl (Nat.le_of_ble_eq_true rfl) dX9_goOn_203 ⟨Nat.zero_le _, Nat.zero_le _⟩) hS (fun H locs hM hS => ?_)
  refine lv_iconst (v := 1) S.1 S.2.1 dX9_goOn_206 (by decide) ?_
  refine lv_icmp_ne (tgt := 242) S.1 S.2.1 dX9_goOn_207 (by decide) (fun c10 => ?_) (fun c10 => ?_)
  · replace hf := ed_in_ c10 hf
    exact w_X9_goOn_242 S hr hlocks hK r ν' x1 x2 x3 x4 x5 ν hf _ _ _ hM hS (lv_sub hl [0, 1, 2, 3, 4, 5] rfl)
  · replace hf := ed_ip c10 hf
    refine lv_aload_n S.1 S.2.1 dX9_goOn_210 rfl (lv_at hl 0 rfl) ?_
    refine em_get S ed_uX9 hK hM 0 (by decide) ed_w4_33 rfl rfl dX9_goOn_211 ?_
    refine lv_iconst (v := 0) S.1 S.2.1 dX9_goOn_214 (by decide) ?_
    obtain ⟨hx38, hf⟩ := ed_g_e hf
    refine em_ild S hK hM 1 (by decide) (em_e1 cy B _) hx38 dX9_goOn_215 ?_
    refine lv_aload_n S.1 S.2.1 dX9_goOn_216 rfl (lv_at hl 0 rfl) ?_
    refine lv_iload_n S.1 S.2.1 dX9_goOn_217 rfl (lv_at hl 1 rfl) ?_
    obtain ⟨r39, hq39, hf⟩ := ed_b_e hf
    refine ed_kI (ed_rV S hK hM (c_X9_useEnds _ D cy B x1 ν r39 hq39) (cwV 1 S.2.2.2.2 (ed_gV ed_w4_221 ed_w4_223 ed_wp_42 ed_w1_10 ed_w4_224) rfl rfl rfl hd_X9_useEnds ⟨Nat.le_of_ble_eq_true rfl, Nat.le_of_ble_eq_true rfl⟩) (em_rc hK hM) rfl hl.1 rfl (Nat.le_of_ble_eq_true rfl) dX9_goOn_218 ⟨Nat.zero_le _, Nat.zero_le _⟩) hS (fun H locs hM hS => ?_)
    refine lv_icmp_lt (tgt := 242) S.1 S.2.1 dX9_goOn_221 (by decide) (fun c40 => ?_) (fun c40 => ?_)
    · replace hf := ed_ip c40 hf
      exact w_X9_goOn_242 S hr hlocks hK r ν' x1 x2 x3 x4 x5 ν hf _ _ _ hM hS (lv_sub hl [0, 1, 2, 3, 4, 5] rfl)
    · replace hf := ed_in_ c40 hf
      refine lv_aload_n S.1 S.2.1 dX9_goOn_224 rfl (lv_at hl 0 rfl) ?_
      refine em_get S ed_uX9 hK hM 0 (by decide) ed_w4_33 rfl rfl dX9_goOn_225 ?_
      refine lv_iload_n S.1 S.2.1 dX9_goOn_228 rfl (lv_at hl 1 rfl) ?_
      refine lv_iconst (v := 2) S.1 S.2.1 dX9_goOn_229 (by decide) ?_
      refine ed_kI (ed_rS S hK hM (c_X9_atCopy _ D cy (em_P D cy B ν) (em_A B) x1 2) (va_cwS 2 S.2.2.2.2 (ed_gS ed_w4_102 ed_w4_103 ed_w1_10 ed_w4_104) rfl rfl rfl hd_X9_atCopy.2 ⟨Nat.le_of_ble_eq_true rfl, Nat.le_of_ble_eq_true rfl⟩) rfl hl.1 rfl (Nat.le_of_ble_eq_true rfl) dX9_goOn_230 ⟨Nat.zero_le _, Nat.zero_le _⟩) hS (fun H locs hM hS => ?_)
      refine lv_iconst (v := 3) S.1 S.2.1 dX9_goOn_233 (by decide) ?_
      obtain ⟨hx42, hf⟩ := ed_g_e hf
      refine em_ist S hK hM hS 1 (by decide) (em_e1 cy B) hx42 dX9_goOn_234 (fun H locs hM hS => ?_)
      obtain ⟨ν43, eν43, hf⟩ := ed_t_e hf
      have hM : em_P D cy B ν43 H := by rw [eν43]; exact hM
      refine lv_aload_n S.1 S.2.1 dX9_goOn_235 rfl (lv_at hl 0 rfl) ?_
      refine lv_iconst (v := 4) S.1 S.2.1 dX9_goOn_236 (by decide) ?_
      refine lv_iload_n S.1 S.2.1 dX9_goOn_237 rfl (lv_at hl 2 rfl) ?_
      refine lv_iload_n S.1 S.2.1 dX9_goOn_238 rfl (lv_at hl 3 rfl) ?_
      obtain ⟨ν44, hq44, hf⟩ := ed_b_e hf
      refine ed_kV (ed_rV S hK hM (c_X9_log _ D cy B 4 x2 x3 ν43 ν44 hq44) (cwV 3 S.2.2.2.2 (ed_gV ed_w4_184 ed_w4_186 ed_wp_35 ed_w1_10 ed_w4_187) rfl rfl rfl hd_X9_log ⟨Nat.le_of_ble_eq_true rfl, Nat.le_of_ble_eq_true rfl⟩) (em_rc hK hM) rfl hl.1 rfl (Nat.le_of_ble_eq_true rfl) dX9_goOn_239 ⟨Nat.zero_le _, Nat.zero_le _⟩) hS (fun H locs hM hS => ?_)
      exact w_X9_goOn_242 S hr hlocks hK r ν' x1 x2 x3 x4 x5 ν44 hf _ _ _ hM hS (lv_sub hl [0, 1, 2, 3, 4, 5] rfl)
set_option maxHeartbeats 4000000 in
set_option maxRecDepth 100000 in
theorem w_X9_goOn_60 {p : Program} {l : Launch} {e : Env} {s : State} {m : MethodId} {args : Array Value} {below : List Frame} {meth : Method} {c : Code} {D : va_G} {cy : Nat → ClassId} {B : Nat} (S : CallFix p m c cX9_goOn 6 s args ed_ws RX9) (hr : meth.sig.returnType = (some .int)) (hlocks : meth.locks = false) (hK : ed_K D cy s) (r : Int32) (ν' : em_MM) :
    ∀ (x1 x2 x3 x4 x5 : Int32) (ν : em_MM), f_X9_goOn_60  x1 x2 x3 x4 x5 ν = some (r, ν') → ∀ (H : Heap) (locs : List Loc) (ls : Array Slot), em_P D cy B ν H → va_S (em_A B) s.heap H locs → lv_has ls 6 [(0, .ref (B + 0)), (1, .int x1), (2, .int x2), (3, .int x3), (4, .int x4), (5, .int x5)] → W p l e (headSpec wsX9_goOn rmX9_goOn).room s m args below meth c H locs 0 0 (MQ below (ed_qI (em_A B) (em_P D cy B ν') r) args s 0 0 (em_A B)) (F0 m 60 ls []) := by
  intro x1 x2 x3 x4 x5 ν hf H locs ls hM hS hl
  unfold f_X9_goOn_60 at hf
  refine lv_aload_n S.1 S.2.1 dX9_goOn_60 rfl (lv_at hl 0 rfl) ?_
  refine lv_iload_n S.1 S.2.1 dX9_goOn_61 rfl (lv_at hl 1 rfl) ?_
  refine lv_iconst (v := 2) S.1 S.2.1 dX9_goOn_62 (by decide) ?_
  obtain ⟨r7, hq7, hf⟩ := ed_b_e hf
  refine ed_kI (ed_rV S hK hM (c_X9_ofCopy _ D cy B x1 2 ν r7 hq7) (cwV 2 S.2.2.2.2 (ed_gV ed_w4_98 ed_w4_100 ed_wp_24 ed_w1_10 ed_w4_101) rfl rfl rfl hd_X9_ofCopy ⟨Nat.le_of_ble_eq_true rfl, Nat.le_of_ble_eq_true rfl⟩) (em_rc hK hM) rfl hl.1 rfl (Nat.le_of_ble_eq_true rfl) dX9_goOn_63 ⟨Nat.zero_le _, Nat.zero_le _⟩) hS (fun H locs hM hS => ?_)
  refine lv_if_ne (tgt := 200) S.1 S.2.1 dX9_goOn_66 (by decide) (fun c8 => ?_) (fun c8 => ?_)
  · replace hf := ed_in_ c8 hf
    exact w_X9_goOn_200 S hr hlocks hK r ν' x1 x2 x3 x4 x5 ν hf _ _ _ hM hS (lv_sub hl [0, 1, 2, 3, 4, 5] rfl)
  · replace hf := ed_ip c8 hf
    refine lv_aload_n S.1 S.2.1 dX9_goOn_69 rfl (lv_at hl 0 rfl) ?_
    refine em_get S ed_uX9 hK hM 0 (by decide) ed_w4_33 rfl rfl dX9_goOn_70 ?_
    refine lv_iconst (v := 0) S.1 S.2.1 dX9_goOn_73 (by decide) ?_
    obtain ⟨hx45, hf⟩ := ed_g_e hf
    refine em_ild S hK hM 1 (by decide) (em_e1 cy B _) hx45 dX9_goOn_74 ?_
    refine lv_aload_n S.1 S.2.1 dX9_goOn_75 rfl (lv_at hl 0 rfl) ?_
    refine lv_iload_n S.1 S.2.1 dX9_goOn_76 rfl (lv_at hl 1 rfl) ?_
    refine lv_iconst (v := 3) S.1 S.2.1 dX9_goOn_77 (by decide) ?_
    obtain ⟨r46, hq46, hf⟩ := ed_b_e hf
    refine ed_kI (ed_rV S hK hM (c_X9_ofCopy _ D cy B x1 3 ν r46 hq46) (cwV 2 S.2.2.2.2 (ed_gV ed_w4_98 ed_w4_100 ed_wp_24 ed_w1_10 ed_w4_101) rfl rfl rfl hd_X9_ofCopy ⟨Nat.le_of_ble_eq_true rfl, Nat.le_of_ble_eq_true rfl⟩) (em_rc hK hM) rfl hl.1 rfl (Nat.le_of_ble_eq_true rfl) dX9_goOn_78 ⟨Nat.zero_le _, Nat.zero_le _⟩) hS (fun H locs hM hS => ?_)
    refine lv_icmp_lt (tgt := 200) S.1 S.2.1 dX9_goOn_81 (by decide) (fun c47 => ?_) (fun c47 => ?_)
    · replace hf := ed_ip c47 hf
      exact w_X9_goOn_200 S hr hlocks hK r ν' x1 x2 x3 x4 x5 ν hf _ _ _ hM hS (lv_sub hl [0, 1, 2, 3, 4, 5] rfl)
    · replace hf := ed_in_ c47 hf
      refine lv_aload_n S.1 S.2.1 dX9_goOn_84 rfl (lv_at hl 0 rfl) ?_
      refine lv_iload_n S.1 S.2.1 dX9_goOn_85 rfl (lv_at hl 3 rfl) ?_
      refine lv_iconst (v := 5) S.1 S.2.1 dX9_goOn_86 (by decide) ?_
      obtain ⟨r48, hq48, hf⟩ := ed_b_e hf
      refine ed_kI (ed_rV S hK hM (c_X9_ofClient _ D cy B x3 5 ν r48 hq48) (cwV 2 S.2.2.2.2 (ed_gV ed_w4_113 ed_w4_115 ed_wp_25 ed_w1_10 ed_w4_116) rfl rfl rfl hd_X9_ofClient ⟨Nat.le_of_ble_eq_true rfl, Nat.le_of_ble_eq_true rfl⟩) (em_rc hK hM) rfl hl.1 rfl (Nat.le_of_ble_eq_true rfl) dX9_goOn_87 ⟨Nat.zero_le _, Nat.zero_le _⟩) hS (fun H locs hM hS => ?_)
      refine lv_iconst (v := 1) S.1 S.2.1 dX9_goOn_90 (by decide) ?_
      refine lv_icmp_ne (tgt := 200) S.1 S.2.1 dX9_goOn_91 (by decide) (fun c49 => ?_) (fun c49 => ?_)
      · replace hf := ed_in_ c49 hf
        exact w_X9_goOn_200 S hr hlocks hK r ν' x1 x2 x3 x4 x5 ν hf _ _ _ hM hS (lv_sub hl [0, 1, 2, 3, 4, 5] rfl)
      · replace hf := ed_ip c49 hf
        refine lv_aload_n S.1 S.2.1 dX9_goOn_94 rfl (lv_at hl 0 rfl) ?_
        refine lv_iload_n S.1 S.2.1 dX9_goOn_95 rfl (lv_at hl 3 rfl) ?_
        refine lv_bipush (v := 7) S.1 S.2.1 dX9_goOn_96 (by decide) ?_
        obtain ⟨r50, hq50, hf⟩ := ed_b_e hf
        refine ed_kI (ed_rV S hK hM (c_X9_ofClient _ D cy B x3 7 ν r50 hq50) (cwV 2 S.2.2.2.2 (ed_gV ed_w4_113 ed_w4_115 ed_wp_25 ed_w1_10 ed_w4_116) rfl rfl rfl hd_X9_ofClient ⟨Nat.le_of_ble_eq_true rfl, Nat.le_of_ble_eq_true rfl⟩) (em_rc hK hM) rfl hl.1 rfl (Nat.le_of_ble_eq_true rfl) dX9_goOn_98 ⟨Nat.zero_le _, Nat.zero_le _⟩) hS (fun H locs hM hS => ?_)
        refine lv_aload_n S.1 S.2.1 dX9_goOn_101 rfl (lv_at hl 0 rfl) ?_
        refine lv_iload_n S.1 S.2.1 dX9_goOn_102 rfl (lv_at hl 3 rfl) ?_
        refine lv_iconst (v := 3) S.1 S.2.1 dX9_goOn_103 (by decide) ?_
        obtain ⟨r51, hq51, hf⟩ := ed_b_e hf
        refine ed_kI (ed_rV S hK hM (c_X9_ofClient _ D cy B x3 3 ν r51 hq51) (cwV 2 S.2.2.2.2 (ed_gV ed_w4_113 ed_w4_115 ed_wp_25 ed_w1_10 ed_w4_116) rfl rfl rfl hd_X9_ofClient ⟨Nat.le_of_ble_eq_true rfl, Nat.le_of_ble_eq_true rfl⟩) (em_rc hK hM) rfl hl.1 rfl (Nat.le_of_ble_eq_true rfl) dX9_goOn_104 ⟨Nat.zero_le _, Nat.zero_le _⟩) hS (fun H locs hM hS => ?_)
        refine lv_icmp_ge (tgt := 200) S.1 S.2.1 dX9_goOn_107 (by decide) (fun c52 => ?_) (fun c52 => ?_)
        · replace hf := ed_ip c52 hf
          exact w_X9_goOn_200 S hr hlocks hK r ν' x1 x2 x3 x4 x5 ν hf _ _ _ hM hS (lv_sub hl [0, 1, 2, 3, 4, 5] rfl)
        · replace hf := ed_in_ c52 hf
          refine lv_aload_n S.1 S.2.1 dX9_goOn_110 rfl (lv_at hl 0 rfl) ?_
          refine em_get S ed_uX9 hK hM 0 (by decide) ed_w4_33 rfl rfl dX9_goOn_111 ?_
          refine lv_iload_n S.1 S.2.1 dX9_goOn_114 rfl (lv_at hl 1 rfl) ?_
          refine lv_iconst (v := 2) S.1 S.2.1 dX9_goOn_115 (by decide) ?_
          refine ed_kI (ed_rS S hK hM (c_X9_atCopy _ D cy (em_P D cy B ν) (em_A B) x1 2) (va_cwS 2 S.2.2.2.2 (ed_gS ed_w4_102 ed_w4_103 ed_w1_10 ed_w4_104) rfl rfl rfl hd_X9_atCopy.2 ⟨Nat.le_of_ble_eq_true rfl, Nat.le_of_ble_eq_true rfl⟩) rfl hl.1 rfl (Nat.le_of_ble_eq_true rfl) dX9_goOn_116 ⟨Nat.zero_le _, Nat.zero_le _⟩) hS (fun H locs hM hS => ?_)
          refine lv_iconst (v := 1) S.1 S.2.1 dX9_goOn_119 (by decide) ?_
          obtain ⟨hx54, hf⟩ := ed_g_e hf
          refine em_ist S hK hM hS 1 (by decide) (em_e1 cy B) hx54 dX9_goOn_120 (fun H locs hM hS => ?_)
          obtain ⟨ν55, eν55, hf⟩ := ed_t_e hf
          have hM : em_P D cy B ν55 H := by rw [eν55]; exact hM
          refine lv_aload_n S.1 S.2.1 dX9_goOn_121 rfl (lv_at hl 0 rfl) ?_
          refine em_get S ed_uX9 hK hM 0 (by decide) ed_w4_33 rfl rfl dX9_goOn_122 ?_
          refine lv_iload_n S.1 S.2.1 dX9_goOn_125 rfl (lv_at hl 1 rfl) ?_
          refine lv_iconst (v := 4) S.1 S.2.1 dX9_goOn_126 (by decide) ?_
          refine ed_kI (ed_rS S hK hM (c_X9_atCopy _ D cy (em_P D cy B ν55) (em_A B) x1 4) (va_cwS 2 S.2.2.2.2 (ed_gS ed_w4_102 ed_w4_103 ed_w1_10 ed_w4_104) rfl rfl rfl hd_X9_atCopy.2 ⟨Nat.le_of_ble_eq_true rfl, Nat.le_of_ble_eq_true rfl⟩) rfl hl.1 rfl (Nat.le_of_ble_eq_true rfl) dX9_goOn_127 ⟨Nat.zero_le _, Nat.zero_le _⟩) hS (fun H locs hM hS => ?_)
          refine lv_aload_n S.1 S.2.1 dX9_goOn_130 rfl (lv_at hl 0 rfl) ?_
          refine em_get S ed_uX9 hK hM 0 (by decide) ed_w4_33 rfl rfl dX9_goOn_131 ?_
          refine lv_iconst (v := 0) S.1 S.2.1 dX9_goOn_134 (by decide) ?_
          obtain ⟨hx57, hf⟩ := ed_g_e hf
          refine em_ild S hK hM 1 (by decide) (em_e1 cy B _) hx57 dX9_goOn_135 ?_
          obtain ⟨hx58, hf⟩ := ed_g_e hf
          refine em_ist S hK hM hS 1 (by decide) (em_e1 cy B) hx58 dX9_goOn_136 (fun H locs hM hS => ?_)
          obtain ⟨ν59, eν59, hf⟩ := ed_t_e hf
          have hM : em_P D cy B ν59 H := by rw [eν59]; exact hM
          refine lv_aload_n S.1 S.2.1 dX9_goOn_137 rfl (lv_at hl 0 rfl) ?_
          refine em_get S ed_uX9 hK hM 0 (by decide) ed_w4_33 rfl rfl dX9_goOn_138 ?_
          refine lv_iload_n S.1 S.2.1 dX9_goOn_141 rfl (lv_at hl 1 rfl) ?_
          refine lv_iconst (v := 5) S.1 S.2.1 dX9_goOn_142 (by decide) ?_
          refine ed_kI (ed_rS S hK hM (c_X9_atCopy _ D cy (em_P D cy B ν59) (em_A B) x1 5) (va_cwS 2 S.2.2.2.2 (ed_gS ed_w4_102 ed_w4_103 ed_w1_10 ed_w4_104) rfl rfl rfl hd_X9_atCopy.2 ⟨Nat.le_of_ble_eq_true rfl, Nat.le_of_ble_eq_true rfl⟩) rfl hl.1 rfl (Nat.le_of_ble_eq_true rfl) dX9_goOn_143 ⟨Nat.zero_le _, Nat.zero_le _⟩) hS (fun H locs hM hS => ?_)
          refine lv_aload_n S.1 S.2.1 dX9_goOn_146 rfl (lv_at hl 0 rfl) ?_
          refine lv_iload_n S.1 S.2.1 dX9_goOn_147 rfl (lv_at hl 2 rfl) ?_
          refine lv_bipush (v := 7) S.1 S.2.1 dX9_goOn_148 (by decide) ?_
          obtain ⟨r61, hq61, hf⟩ := ed_b_e hf
          refine ed_kI (ed_rV S hK hM (c_X9_ofStory _ D cy B x2 7 ν59 r61 hq61) (cwV 2 S.2.2.2.2 (ed_gV ed_w4_164 ed_w4_166 ed_wp_33 ed_w1_10 ed_w4_167) rfl rfl rfl hd_X9_ofStory ⟨Nat.le_of_ble_eq_true rfl, Nat.le_of_ble_eq_true rfl⟩) (em_rc hK hM) rfl hl.1 rfl (Nat.le_of_ble_eq_true rfl) dX9_goOn_150 ⟨Nat.zero_le _, Nat.zero_le _⟩) hS (fun H locs hM hS => ?_)
          obtain ⟨hx62, hf⟩ := ed_g_e hf
          refine em_ist S hK hM hS 1 (by decide) (em_e1 cy B) hx62 dX9_goOn_153 (fun H locs hM hS => ?_)
          obtain ⟨ν63, eν63, hf⟩ := ed_t_e hf
          have hM : em_P D cy B ν63 H := by rw [eν63]; exact hM
          refine lv_aload_n S.1 S.2.1 dX9_goOn_154 rfl (lv_at hl 0 rfl) ?_
          refine em_get S ed_uX9 hK hM 0 (by decide) ed_w4_33 rfl rfl dX9_goOn_155 ?_
          refine lv_iload_n S.1 S.2.1 dX9_goOn_158 rfl (lv_at hl 3 rfl) ?_
          refine lv_bipush (v := 7) S.1 S.2.1 dX9_goOn_159 (by decide) ?_
          refine ed_kI (ed_rS S hK hM (c_X9_clientAt _ D cy (em_P D cy B ν63) (em_A B) x3 7) (va_cwS 2 S.2.2.2.2 (ed_gS ed_w4_79 ed_w4_80 ed_w1_10 ed_w4_81) rfl rfl rfl hd_X9_clientAt.2 ⟨Nat.le_of_ble_eq_true rfl, Nat.le_of_ble_eq_true rfl⟩) rfl hl.1 rfl (Nat.le_of_ble_eq_true rfl) dX9_goOn_161 ⟨Nat.zero_le _, Nat.zero_le _⟩) hS (fun H locs hM hS => ?_)
          refine lv_dup2_11 S.1 S.2.1 dX9_goOn_164 rfl rfl ?_
          obtain ⟨hx65, hf⟩ := ed_g_e hf
          refine em_ild S hK hM 1 (by decide) (em_e1 cy B _) hx65 dX9_goOn_165 ?_
          refine lv_iconst (v := 1) S.1 S.2.1 dX9_goOn_166 (by decide) ?_
          refine lv_iadd S.1 S.2.1 dX9_goOn_167 ?_
          obtain ⟨hx66, hf⟩ := ed_g_e hf
          refine em_ist S hK hM hS 1 (by decide) (em_e1 cy B) hx66 dX9_goOn_168 (fun H locs hM hS => ?_)
          obtain ⟨ν67, eν67, hf⟩ := ed_t_e hf
          have hM : em_P D cy B ν67 H := by rw [eν67]; exact hM
          refine lv_aload_n S.1 S.2.1 dX9_goOn_169 rfl (lv_at hl 0 rfl) ?_
          refine em_get S ed_uX9 hK hM 0 (by decide) ed_w4_33 rfl rfl dX9_goOn_170 ?_
          refine lv_iload_n S.1 S.2.1 dX9_goOn_173 rfl (lv_at hl 3 rfl) ?_
          refine lv_bipush (v := 8) S.1 S.2.1 dX9_goOn_174 (by decide) ?_
          refine ed_kI (ed_rS S hK hM (c_X9_clientAt _ D cy (em_P D cy B ν67) (em_A B) x3 8) (va_cwS 2 S.2.2.2.2 (ed_gS ed_w4_79 ed_w4_80 ed_w1_10 ed_w4_81) rfl rfl rfl hd_X9_clientAt.2 ⟨Nat.le_of_ble_eq_true rfl, Nat.le_of_ble_eq_true rfl⟩) rfl hl.1 rfl (Nat.le_of_ble_eq_true rfl) dX9_goOn_176 ⟨Nat.zero_le _, Nat.zero_le _⟩) hS (fun H locs hM hS => ?_)
          refine lv_dup2_11 S.1 S.2.1 dX9_goOn_179 rfl rfl ?_
          obtain ⟨hx69, hf⟩ := ed_g_e hf
          refine em_ild S hK hM 1 (by decide) (em_e1 cy B _) hx69 dX9_goOn_180 ?_
          refine lv_iconst (v := 1) S.1 S.2.1 dX9_goOn_181 (by decide) ?_
          refine lv_iadd S.1 S.2.1 dX9_goOn_182 ?_
          obtain ⟨hx70, hf⟩ := ed_g_e hf
          refine em_ist S hK hM hS 1 (by decide) (em_e1 cy B) hx70 dX9_goOn_183 (fun H locs hM hS => ?_)
          obtain ⟨ν71, eν71, hf⟩ := ed_t_e hf
          have hM : em_P D cy B ν71 H := by rw [eν71]; exact hM
          refine lv_aload_n S.1 S.2.1 dX9_goOn_184 rfl (lv_at hl 0 rfl) ?_
          refine lv_iload_n S.1 S.2.1 dX9_goOn_185 rfl (lv_at hl 2 rfl) ?_
          refine lv_iload_n S.1 S.2.1 dX9_goOn_186 rfl (lv_at hl 3 rfl) ?_
          obtain ⟨ν72, hq72, hf⟩ := ed_b_e hf
          refine ed_kV (ed_rV S hK hM (c_X9_bill _ D cy B x2 x3 ν71 ν72 hq72) (cwV 2 S.2.2.2.2 (ed_gV ed_w4_212 ed_w4_214 ed_wp_40 ed_w1_10 ed_w4_215) rfl rfl rfl hd_X9_bill ⟨Nat.le_of_ble_eq_true rfl, Nat.le_of_ble_eq_true rfl⟩) (em_rc hK hM) rfl hl.1 rfl (Nat.le_of_ble_eq_true rfl) dX9_goOn_187 ⟨Nat.zero_le _, Nat.zero_le _⟩) hS (fun H locs hM hS => ?_)
          refine lv_aload_n S.1 S.2.1 dX9_goOn_190 rfl (lv_at hl 0 rfl) ?_
          refine lv_iconst (v := 1) S.1 S.2.1 dX9_goOn_191 (by decide) ?_
          refine lv_iload_n S.1 S.2.1 dX9_goOn_192 rfl (lv_at hl 2 rfl) ?_
          refine lv_iload_n S.1 S.2.1 dX9_goOn_193 rfl (lv_at hl 3 rfl) ?_
          obtain ⟨ν73, hq73, hf⟩ := ed_b_e hf
          refine ed_kV (ed_rV S hK hM (c_X9_log _ D cy B 1 x2 x3 ν72 ν73 hq73) (cwV 3 S.2.2.2.2 (ed_gV ed_w4_184 ed_w4_186 ed_wp_35 ed_w1_10 ed_w4_187) rfl rfl rfl hd_X9_log ⟨Nat.le_of_ble_eq_true rfl, Nat.le_of_ble_eq_true rfl⟩) (em_rc hK hM) rfl hl.1 rfl (Nat.le_of_ble_eq_true rfl) dX9_goOn_194 ⟨Nat.zero_le _, Nat.zero_le _⟩) hS (fun H locs hM hS => ?_)
          refine lv_iconst (v := 1) S.1 S.2.1 dX9_goOn_197 (by decide) ?_
          refine lv_istore (lv' := [(5, .int 1), (0, .ref (B + 0)), (1, .int x1), (2, .int x2), (3, .int x3), (4, .int x4)]) S.1 S.2.1 dX9_goOn_198 hl (by decide) rfl (fun ls hl => ?_)
          exact w_X9_goOn_200 S hr hlocks hK r ν' x1 x2 x3 x4 1 ν73 hf _ _ _ hM hS (lv_sub hl [1, 2, 3, 4, 5, 0] rfl)
set_option maxHeartbeats 4000000 in
set_option maxRecDepth 100000 in
theorem w_X9_goOn_32 {p : Program} {l : Launch} {e : Env} {s : State} {m : MethodId} {args : Array Value} {below : List Frame} {meth : Method} {c : Code} {D : va_G} {cy : Nat → ClassId} {B : Nat} (S : CallFix p m c cX9_goOn 6 s args ed_ws RX9) (hr : meth.sig.returnType = (some .int)) (hlocks : meth.locks = false) (hK : ed_K D cy s) (r : Int32) (ν' : em_MM) :
    ∀ (x1 x2 x3 x4 : Int32) (ν : em_MM), f_X9_goOn_32  x1 x2 x3 x4 ν = some (r, ν') → ∀ (H : Heap) (locs : List Loc) (ls : Array Slot), em_P D cy B ν H → va_S (em_A B) s.heap H locs → lv_has ls 6 [(0, .ref (B + 0)), (1, .int x1), (2, .int x2), (3, .int x3), (4, .int x4)] → W p l e (headSpec wsX9_goOn rmX9_goOn).room s m args below meth c H locs 0 0 (MQ below (ed_qI (em_A B) (em_P D cy B ν') r) args s 0 0 (em_A B)) (F0 m 32 ls []) := by
  intro x1 x2 x3 x4 ν hf H locs ls hM hS hl
  unfold f_X9_goOn_32 at hf
  refine lv_iconst (v := 0) S.1 S.2.1 dX9_goOn_32 (by decide) ?_
  refine lv_istore (lv' := [(5, .int 0), (0, .ref (B + 0)), (1, .int x1), (2, .int x2), (3, .int x3), (4, .int x4)]) S.1 S.2.1 dX9_goOn_33 hl (by decide) rfl (fun ls hl => ?_)
  refine lv_aload_n S.1 S.2.1 dX9_goOn_35 rfl (lv_at hl 1 rfl) ?_
  refine lv_iload_n S.1 S.2.1 dX9_goOn_36 rfl (lv_at hl 2 rfl) ?_
  refine lv_iconst (v := 2) S.1 S.2.1 dX9_goOn_37 (by decide) ?_
  obtain ⟨r5, hq5, hf⟩ := ed_b_e hf
  refine ed_kI (ed_rV S hK hM (c_X9_ofCopy _ D cy B x1 2 ν r5 hq5) (cwV 2 S.2.2.2.2 (ed_gV ed_w4_98 ed_w4_100 ed_wp_24 ed_w1_10 ed_w4_101) rfl rfl rfl hd_X9_ofCopy ⟨Nat.le_of_ble_eq_true rfl, Nat.le_of_ble_eq_true rfl⟩) (em_rc hK hM) rfl hl.1 rfl (Nat.le_of_ble_eq_true rfl) dX9_goOn_38 ⟨Nat.zero_le _, Nat.zero_le _⟩) hS (fun H locs hM hS => ?_)
  refine lv_if_ne (tgt := 60) S.1 S.2.1 dX9_goOn_41 (by decide) (fun c6 => ?_) (fun c6 => ?_)
  · replace hf := ed_in_ c6 hf
    exact w_X9_goOn_60 S hr hlocks hK r ν' x1 x2 x3 x4 0 ν hf _ _ _ hM hS (lv_sub hl [1, 2, 3, 4, 5, 0] rfl)
  · replace hf := ed_ip c6 hf
    refine lv_iload S.1 S.2.1 dX9_goOn_44 (lv_at hl 5 rfl) ?_
    refine lv_if_eq (tgt := 60) S.1 S.2.1 dX9_goOn_46 (by decide) (fun c74 => ?_) (fun c74 => ?_)
    · replace hf := ed_ip c74 hf
      exact w_X9_goOn_60 S hr hlocks hK r ν' x1 x2 x3 x4 0 ν hf _ _ _ hM hS (lv_sub hl [1, 2, 3, 4, 5, 0] rfl)
    · replace hf := ed_in_ c74 hf
      refine lv_aload_n S.1 S.2.1 dX9_goOn_49 rfl (lv_at hl 1 rfl) ?_
      refine em_get S ed_uX9 hK hM 0 (by decide) ed_w4_33 rfl rfl dX9_goOn_50 ?_
      refine lv_iload_n S.1 S.2.1 dX9_goOn_53 rfl (lv_at hl 2 rfl) ?_
      refine lv_iconst (v := 2) S.1 S.2.1 dX9_goOn_54 (by decide) ?_
      refine ed_kI (ed_rS S hK hM (c_X9_atCopy _ D cy (em_P D cy B ν) (em_A B) x1 2) (va_cwS 2 S.2.2.2.2 (ed_gS ed_w4_102 ed_w4_103 ed_w1_10 ed_w4_104) rfl rfl rfl hd_X9_atCopy.2 ⟨Nat.le_of_ble_eq_true rfl, Nat.le_of_ble_eq_true rfl⟩) rfl hl.1 rfl (Nat.le_of_ble_eq_true rfl) dX9_goOn_55 ⟨Nat.zero_le _, Nat.zero_le _⟩) hS (fun H locs hM hS => ?_)
      refine lv_iconst (v := 4) S.1 S.2.1 dX9_goOn_58 (by decide) ?_
      obtain ⟨hx76, hf⟩ := ed_g_e hf
      refine em_ist S hK hM hS 1 (by decide) (em_e1 cy B) hx76 dX9_goOn_59 (fun H locs hM hS => ?_)
      obtain ⟨ν77, eν77, hf⟩ := ed_t_e hf
      have hM : em_P D cy B ν77 H := by rw [eν77]; exact hM
      exact w_X9_goOn_60 S hr hlocks hK r ν' x1 x2 x3 x4 0 ν77 hf _ _ _ hM hS (lv_sub hl [1, 2, 3, 4, 5, 0] rfl)
set_option maxHeartbeats 4000000 in
set_option maxRecDepth 100000 in
theorem c_X9_goOn (l : Launch) (D : va_G) (cy : Nat → ClassId) (B : Nat) (x1 : Int32) (ν : em_MM) (r : Int32) (ν' : em_MM) (hf : f_X9_goOn x1 ν = some (r, ν')) :
    Met l yX9_goOn wsX9_goOn rmX9_goOn (ed_pC D cy (em_P D cy B ν) [.ref (B + 0), .int x1]) (ed_qI (em_A B) (em_P D cy B ν') r) 0 0 (em_A B) := by
  refine Met.ofW (cc := cX9_goOn) (maxL := 6) (ret := (some .int)) (by decide) rfl ?_
  intro p e s m args below meth c s₁ B0 hml hv
  obtain ⟨rfl, hM, hK⟩ := hv
  have S : CallFix p m c cX9_goOn 6 s _ ed_ws RX9 := ⟨B0.exec, B0.bytes, hml, findClass_of_methodNamed B0.named, fun w hw => atoms_spec (ws := wsX9_goOn) B0.pre w (List.mem_cons_of_mem _ hw)⟩
  have hr := B0.returns
  have hlocks := B0.notSynchronized
  have hS : va_S (em_A B) s.heap s.heap [] := va_S.rf
  have hl := lv_entry ([.ref (B + 0), .int x1]) (n := 6) (Nat.le_of_ble_eq_true rfl)
  rw [lg_entry_eq]
  generalize (lg_sl ([.ref (B + 0), .int x1]) ++ List.replicate (6 - (lg_sl ([.ref (B + 0), .int x1])).length) Slot.unset).toArray = ls at hl ⊢
  have hl : lv_has ls 6 [(0, .ref (B + 0)), (1, .int x1)] := hl
  unfold f_X9_goOn at hf
  refine lv_aload_n S.1 S.2.1 dX9_goOn_0 rfl (lv_at hl 0 rfl) ?_
  refine lv_iload_n S.1 S.2.1 dX9_goOn_1 rfl (lv_at hl 1 rfl) ?_
  refine lv_iconst (v := 0) S.1 S.2.1 dX9_goOn_2 (by decide) ?_
  obtain ⟨r1, hq1, hf⟩ := ed_b_e hf
  refine ed_kI (ed_rV S hK hM (c_X9_ofCopy _ D cy B x1 0 ν r1 hq1) (cwV 2 S.2.2.2.2 (ed_gV ed_w4_98 ed_w4_100 ed_wp_24 ed_w1_10 ed_w4_101) rfl rfl rfl hd_X9_ofCopy ⟨Nat.le_of_ble_eq_true rfl, Nat.le_of_ble_eq_true rfl⟩) (em_rc hK hM) rfl hl.1 rfl (Nat.le_of_ble_eq_true rfl) dX9_goOn_3 ⟨Nat.zero_le _, Nat.zero_le _⟩) hS (fun H locs hM hS => ?_)
  refine lv_istore_n (lv' := [(2, .int r1), (0, .ref (B + 0)), (1, .int x1)]) S.1 S.2.1 dX9_goOn_6 rfl hl (by decide) rfl (fun ls hl => ?_)
  refine lv_aload_n S.1 S.2.1 dX9_goOn_7 rfl (lv_at hl 1 rfl) ?_
  refine lv_iload_n S.1 S.2.1 dX9_goOn_8 rfl (lv_at hl 2 rfl) ?_
  refine lv_iconst (v := 1) S.1 S.2.1 dX9_goOn_9 (by decide) ?_
  obtain ⟨r2, hq2, hf⟩ := ed_b_e hf
  refine ed_kI (ed_rV S hK hM (c_X9_ofCopy _ D cy B x1 1 ν r2 hq2) (cwV 2 S.2.2.2.2 (ed_gV ed_w4_98 ed_w4_100 ed_wp_24 ed_w1_10 ed_w4_101) rfl rfl rfl hd_X9_ofCopy ⟨Nat.le_of_ble_eq_true rfl, Nat.le_of_ble_eq_true rfl⟩) (em_rc hK hM) rfl hl.1 rfl (Nat.le_of_ble_eq_true rfl) dX9_goOn_10 ⟨Nat.zero_le _, Nat.zero_le _⟩) hS (fun H locs hM hS => ?_)
  refine lv_istore_n (lv' := [(3, .int r2), (2, .int r1), (0, .ref (B + 0)), (1, .int x1)]) S.1 S.2.1 dX9_goOn_13 rfl hl (by decide) rfl (fun ls hl => ?_)
  refine lv_aload_n S.1 S.2.1 dX9_goOn_14 rfl (lv_at hl 2 rfl) ?_
  refine lv_iload_n S.1 S.2.1 dX9_goOn_15 rfl (lv_at hl 1 rfl) ?_
  refine lv_bipush (v := 6) S.1 S.2.1 dX9_goOn_16 (by decide) ?_
  obtain ⟨r3, hq3, hf⟩ := ed_b_e hf
  refine ed_kI (ed_rV S hK hM (c_X9_ofStory _ D cy B r1 6 ν r3 hq3) (cwV 2 S.2.2.2.2 (ed_gV ed_w4_164 ed_w4_166 ed_wp_33 ed_w1_10 ed_w4_167) rfl rfl rfl hd_X9_ofStory ⟨Nat.le_of_ble_eq_true rfl, Nat.le_of_ble_eq_true rfl⟩) (em_rc hK hM) rfl hl.1 rfl (Nat.le_of_ble_eq_true rfl) dX9_goOn_18 ⟨Nat.zero_le _, Nat.zero_le _⟩) hS (fun H locs hM hS => ?_)
  refine lv_iconst (v := 3) S.1 S.2.1 dX9_goOn_21 (by decide) ?_
  refine lv_icmp_ne (tgt := 29) S.1 S.2.1 dX9_goOn_22 (by decide) (fun c4 => ?_) (fun c4 => ?_)
  · replace hf := ed_in_ c4 hf
    refine lv_iconst (v := 0) S.1 S.2.1 dX9_goOn_29 (by decide) ?_
    refine lv_istore (lv' := [(4, .int 0), (3, .int r2), (2, .int r1), (0, .ref (B + 0)), (1, .int x1)]) S.1 S.2.1 dX9_goOn_30 hl (by decide) rfl (fun ls hl => ?_)
    exact w_X9_goOn_32 S hr hlocks hK r ν' x1 r1 r2 0 ν hf _ _ _ hM hS (lv_sub hl [3, 4, 2, 1, 0] rfl)
  · replace hf := ed_ip c4 hf
    refine lv_iconst (v := 1) S.1 S.2.1 dX9_goOn_25 (by decide) ?_
    refine lv_goto (tgt := 30) S.1 S.2.1 dX9_goOn_26 (by decide) ?_
    refine lv_istore (lv' := [(4, .int 1), (3, .int r2), (2, .int r1), (0, .ref (B + 0)), (1, .int x1)]) S.1 S.2.1 dX9_goOn_30 hl (by decide) rfl (fun ls hl => ?_)
    exact w_X9_goOn_32 S hr hlocks hK r ν' x1 r1 r2 1 ν hf _ _ _ hM hS (lv_sub hl [3, 4, 2, 1, 0] rfl)
set_option maxHeartbeats 4000000 in
set_option maxRecDepth 100000 in
theorem w_X9_oneHour_105 {p : Program} {l : Launch} {e : Env} {s : State} {m : MethodId} {args : Array Value} {below : List Frame} {meth : Method} {c : Code} {D : va_G} {cy : Nat → ClassId} {B : Nat} (S : CallFix p m c cX9_oneHour 3 s args ed_ws RX9) (hr : meth.sig.returnType = (some .int)) (hlocks : meth.locks = false) (hK : ed_K D cy s) (r : Int32) (ν' : em_MM) :
    ∀ (n : Nat), ∀ (x1 x2 : Int32) (ν : em_MM), f_X9_oneHour_105  n x1 x2 ν = some (r, ν') → ∀ (H : Heap) (locs : List Loc) (ls : Array Slot), em_P D cy B ν H → va_S (em_A B) s.heap H locs → lv_has ls 3 [(0, .ref (B + 0)), (1, .int x1), (2, .int x2)] → W p l e (headSpec wsX9_oneHour rmX9_oneHour).room s m args below meth c H locs 0 0 (MQ below (ed_qI (em_A B) (em_P D cy B ν') r) args s 0 0 (em_A B)) (F0 m 105 ls []) := by
  intro n
  induction n with
  | zero => intro x1 x2 ν hf; rw [f_X9_oneHour_105] at hf; cases hf
  | succ n ih =>
    intro x1 x2 ν hf H locs ls hM hS hl
    rw [f_X9_oneHour_105] at hf
    refine lv_iload_n S.1 S.2.1 dX9_oneHour_105 rfl (lv_at hl 2 rfl) ?_
    refine lv_aload_n S.1 S.2.1 dX9_oneHour_106 rfl (lv_at hl 0 rfl) ?_
    refine em_get S ed_uX9 hK hM 0 (by decide) ed_w4_33 rfl rfl dX9_oneHour_107 ?_
    refine lv_iconst (v := 3) S.1 S.2.1 dX9_oneHour_110 (by decide) ?_
    obtain ⟨hx8, hf⟩ := ed_g_e hf
    refine em_ild S hK hM 1 (by decide) (em_e1 cy B _) hx8 dX9_oneHour_111 ?_
    refine lv_icmp_ge (tgt := 129) S.1 S.2.1 dX9_oneHour_112 (by decide) (fun c9 => ?_) (fun c9 => ?_)
    · replace hf := ed_ip c9 hf
      refine lv_iload_n S.1 S.2.1 dX9_oneHour_129 rfl (lv_at hl 1 rfl) ?_
      obtain ⟨rfl, rfl⟩ := ed_so hf
      exact ed_ri S hr hlocks hM hS dX9_oneHour_130
    · replace hf := ed_in_ c9 hf
      refine lv_iload_n S.1 S.2.1 dX9_oneHour_115 rfl (lv_at hl 1 rfl) ?_
      refine lv_aload_n S.1 S.2.1 dX9_oneHour_116 rfl (lv_at hl 0 rfl) ?_
      refine lv_iload_n S.1 S.2.1 dX9_oneHour_117 rfl (lv_at hl 2 rfl) ?_
      obtain ⟨r10, ν10, hq10, hf⟩ := ed_b2_e hf
      refine ed_kI (ed_rV S hK hM (c_X9_goOn _ D cy B x2 ν r10 ν10 hq10) (cwV 1 S.2.2.2.2 (ed_gV ed_w4_208 ed_w4_210 ed_wp_39 ed_w1_10 ed_w4_211) rfl rfl rfl hd_X9_goOn ⟨Nat.le_of_ble_eq_true rfl, Nat.le_of_ble_eq_true rfl⟩) (em_rc hK hM) rfl hl.1 rfl (Nat.le_of_ble_eq_true rfl) dX9_oneHour_118 ⟨Nat.zero_le _, Nat.zero_le _⟩) hS (fun H locs hM hS => ?_)
      refine lv_iadd S.1 S.2.1 dX9_oneHour_121 ?_
      refine lv_istore_n (lv' := [(1, .int (x1 + r10)), (0, .ref (B + 0)), (2, .int x2)]) S.1 S.2.1 dX9_oneHour_122 rfl hl (by decide) rfl (fun ls hl => ?_)
      refine lv_iinc (v := x2 + 1) (lv' := [(2, .int (x2 + 1)), (1, .int (x1 + r10)), (0, .ref (B + 0))]) S.1 S.2.1 dX9_oneHour_123 hl (k := 2) rfl rfl (by decide) rfl (fun ls hl => ?_)
      refine lv_goto (tgt := 105) S.1 S.2.1 dX9_oneHour_126 (by decide) ?_
      exact ih (x1 + r10) (x2 + 1) ν10 hf _ _ _ hM hS (lv_sub hl [2, 1, 0] rfl)
set_option maxHeartbeats 4000000 in
set_option maxRecDepth 100000 in
theorem w_X9_oneHour_54 {p : Program} {l : Launch} {e : Env} {s : State} {m : MethodId} {args : Array Value} {below : List Frame} {meth : Method} {c : Code} {D : va_G} {cy : Nat → ClassId} {B : Nat} (S : CallFix p m c cX9_oneHour 3 s args ed_ws RX9) (hr : meth.sig.returnType = (some .int)) (hlocks : meth.locks = false) (hK : ed_K D cy s) (r : Int32) (ν' : em_MM) :
    ∀ (n : Nat), ∀ (x1 : Int32) (ν : em_MM), f_X9_oneHour_54  n x1 ν = some (r, ν') → ∀ (H : Heap) (locs : List Loc) (ls : Array Slot), em_P D cy B ν H → va_S (em_A B) s.heap H locs → lv_has ls 3 [(0, .ref (B + 0)), (1, .int x1)] → W p l e (headSpec wsX9_oneHour rmX9_oneHour).room s m args below meth c H locs 0 0 (MQ below (ed_qI (em_A B) (em_P D cy B ν') r) args s 0 0 (em_A B)) (F0 m 54 ls []) := by
  intro n
  induction n with
  | zero => intro x1 ν hf; rw [f_X9_oneHour_54] at hf; cases hf
  | succ n ih =>
    intro x1 ν hf H locs ls hM hS hl
    rw [f_X9_oneHour_54] at hf
    refine lv_iload_n S.1 S.2.1 dX9_oneHour_54 rfl (lv_at hl 1 rfl) ?_
    refine lv_aload_n S.1 S.2.1 dX9_oneHour_55 rfl (lv_at hl 0 rfl) ?_
    refine em_get S ed_uX9 hK hM 0 (by decide) ed_w4_33 rfl rfl dX9_oneHour_56 ?_
    refine lv_iconst (v := 2) S.1 S.2.1 dX9_oneHour_59 (by decide) ?_
    obtain ⟨hx6, hf⟩ := ed_g_e hf
    refine em_ild S hK hM 1 (by decide) (em_e1 cy B _) hx6 dX9_oneHour_60 ?_
    refine lv_icmp_ge (tgt := 101) S.1 S.2.1 dX9_oneHour_61 (by decide) (fun c7 => ?_) (fun c7 => ?_)
    · replace hf := ed_ip c7 hf
      refine lv_iconst (v := 0) S.1 S.2.1 dX9_oneHour_101 (by decide) ?_
      refine lv_istore_n (lv' := [(1, .int 0), (0, .ref (B + 0))]) S.1 S.2.1 dX9_oneHour_102 rfl hl (by decide) rfl (fun ls hl => ?_)
      refine lv_iconst (v := 0) S.1 S.2.1 dX9_oneHour_103 (by decide) ?_
      refine lv_istore_n (lv' := [(2, .int 0), (1, .int 0), (0, .ref (B + 0))]) S.1 S.2.1 dX9_oneHour_104 rfl hl (by decide) rfl (fun ls hl => ?_)
      exact w_X9_oneHour_105 S hr hlocks hK r ν' ed_N 0 0 ν hf _ _ _ hM hS (lv_sub hl [2, 1, 0] rfl)
    · replace hf := ed_in_ c7 hf
      refine lv_aload_n S.1 S.2.1 dX9_oneHour_64 rfl (lv_at hl 0 rfl) ?_
      refine lv_iload_n S.1 S.2.1 dX9_oneHour_65 rfl (lv_at hl 1 rfl) ?_
      refine lv_bipush (v := 6) S.1 S.2.1 dX9_oneHour_66 (by decide) ?_
      obtain ⟨r11, hq11, hf⟩ := ed_b_e hf
      refine ed_kI (ed_rV S hK hM (c_X9_ofStory _ D cy B x1 6 ν r11 hq11) (cwV 2 S.2.2.2.2 (ed_gV ed_w4_164 ed_w4_166 ed_wp_33 ed_w1_10 ed_w4_167) rfl rfl rfl hd_X9_ofStory ⟨Nat.le_of_ble_eq_true rfl, Nat.le_of_ble_eq_true rfl⟩) (em_rc hK hM) rfl hl.1 rfl (Nat.le_of_ble_eq_true rfl) dX9_oneHour_68 ⟨Nat.zero_le _, Nat.zero_le _⟩) hS (fun H locs hM hS => ?_)
      refine lv_iconst (v := 1) S.1 S.2.1 dX9_oneHour_71 (by decide) ?_
      refine lv_icmp_ne (tgt := 95) S.1 S.2.1 dX9_oneHour_72 (by decide) (fun c12 => ?_) (fun c12 => ?_)
      · replace hf := ed_in_ c12 hf
        refine lv_iinc (v := x1 + 1) (lv' := [(1, .int (x1 + 1)), (0, .ref (B + 0))]) S.1 S.2.1 dX9_oneHour_95 hl (k := 1) rfl rfl (by decide) rfl (fun ls hl => ?_)
        refine lv_goto (tgt := 54) S.1 S.2.1 dX9_oneHour_98 (by decide) ?_
        exact ih (x1 + 1) ν hf _ _ _ hM hS (lv_sub hl [1, 0] rfl)
      · replace hf := ed_ip c12 hf
        refine lv_aload_n S.1 S.2.1 dX9_oneHour_75 rfl (lv_at hl 0 rfl) ?_
        refine lv_iload_n S.1 S.2.1 dX9_oneHour_76 rfl (lv_at hl 1 rfl) ?_
        refine lv_iconst (v := 5) S.1 S.2.1 dX9_oneHour_77 (by decide) ?_
        obtain ⟨r13, hq13, hf⟩ := ed_b_e hf
        refine ed_kI (ed_rV S hK hM (c_X9_ofStory _ D cy B x1 5 ν r13 hq13) (cwV 2 S.2.2.2.2 (ed_gV ed_w4_164 ed_w4_166 ed_wp_33 ed_w1_10 ed_w4_167) rfl rfl rfl hd_X9_ofStory ⟨Nat.le_of_ble_eq_true rfl, Nat.le_of_ble_eq_true rfl⟩) (em_rc hK hM) rfl hl.1 rfl (Nat.le_of_ble_eq_true rfl) dX9_oneHour_78 ⟨Nat.zero_le _, Nat.zero_le _⟩) hS (fun H locs hM hS => ?_)
        refine lv_aload_n S.1 S.2.1 dX9_oneHour_81 rfl (lv_at hl 0 rfl) ?_
        refine em_get S ed_uX9 hK hM 0 (by decide) ed_w4_33 rfl rfl dX9_oneHour_82 ?_
        refine lv_iconst (v := 0) S.1 S.2.1 dX9_oneHour_85 (by decide) ?_
        obtain ⟨hx14, hf⟩ := ed_g_e hf
        refine em_ild S hK hM 1 (by decide) (em_e1 cy B _) hx14 dX9_oneHour_86 ?_
        refine lv_icmp_gt (tgt := 95) S.1 S.2.1 dX9_oneHour_87 (by decide) (fun c15 => ?_) (fun c15 => ?_)
        · replace hf := ed_ip c15 hf
          refine lv_iinc (v := x1 + 1) (lv' := [(1, .int (x1 + 1)), (0, .ref (B + 0))]) S.1 S.2.1 dX9_oneHour_95 hl (k := 1) rfl rfl (by decide) rfl (fun ls hl => ?_)
          refine lv_goto (tgt := 54) S.1 S.2.1 dX9_oneHour_98 (by decide) ?_
          exact ih (x1 + 1) ν hf _ _ _ hM hS (lv_sub hl [1, 0] rfl)
        · replace hf := ed_in_ c15 hf
          refine lv_aload_n S.1 S.2.1 dX9_oneHour_90 rfl (lv_at hl 0 rfl) ?_
          refine lv_iload_n S.1 S.2.1 dX9_oneHour_91 rfl (lv_at hl 1 rfl) ?_
          obtain ⟨ν16, hq16, hf⟩ := ed_b_e hf
          refine ed_kV (ed_rV S hK hM (c_X9_publish _ D cy B x1 ν ν16 hq16) (cwV 1 S.2.2.2.2 (ed_gV ed_w4_204 ed_w4_206 ed_wp_38 ed_w1_10 ed_w4_207) rfl rfl rfl hd_X9_publish ⟨Nat.le_of_ble_eq_true rfl, Nat.le_of_ble_eq_true rfl⟩) (em_rc hK hM) rfl hl.1 rfl (Nat.le_of_ble_eq_true rfl) dX9_oneHour_92 ⟨Nat.zero_le _, Nat.zero_le _⟩) hS (fun H locs hM hS => ?_)
          refine lv_iinc (v := x1 + 1) (lv' := [(1, .int (x1 + 1)), (0, .ref (B + 0))]) S.1 S.2.1 dX9_oneHour_95 hl (k := 1) rfl rfl (by decide) rfl (fun ls hl => ?_)
          refine lv_goto (tgt := 54) S.1 S.2.1 dX9_oneHour_98 (by decide) ?_
          exact ih (x1 + 1) ν16 hf _ _ _ hM hS (lv_sub hl [1, 0] rfl)
set_option maxHeartbeats 4000000 in
set_option maxRecDepth 100000 in
theorem w_X9_oneHour_12 {p : Program} {l : Launch} {e : Env} {s : State} {m : MethodId} {args : Array Value} {below : List Frame} {meth : Method} {c : Code} {D : va_G} {cy : Nat → ClassId} {B : Nat} (S : CallFix p m c cX9_oneHour 3 s args ed_ws RX9) (hr : meth.sig.returnType = (some .int)) (hlocks : meth.locks = false) (hK : ed_K D cy s) (r : Int32) (ν' : em_MM) :
    ∀ (n : Nat), ∀ (x1 : Int32) (ν : em_MM), f_X9_oneHour_12  n x1 ν = some (r, ν') → ∀ (H : Heap) (locs : List Loc) (ls : Array Slot), em_P D cy B ν H → va_S (em_A B) s.heap H locs → lv_has ls 3 [(0, .ref (B + 0)), (1, .int x1)] → W p l e (headSpec wsX9_oneHour rmX9_oneHour).room s m args below meth c H locs 0 0 (MQ below (ed_qI (em_A B) (em_P D cy B ν') r) args s 0 0 (em_A B)) (F0 m 12 ls []) := by
  intro n
  induction n with
  | zero => intro x1 ν hf; rw [f_X9_oneHour_12] at hf; cases hf
  | succ n ih =>
    intro x1 ν hf H locs ls hM hS hl
    rw [f_X9_oneHour_12] at hf
    refine lv_iload_n S.1 S.2.1 dX9_oneHour_12 rfl (lv_at hl 1 rfl) ?_
    refine lv_aload_n S.1 S.2.1 dX9_oneHour_13 rfl (lv_at hl 0 rfl) ?_
    refine em_get S ed_uX9 hK hM 0 (by decide) ed_w4_33 rfl rfl dX9_oneHour_14 ?_
    refine lv_iconst (v := 1) S.1 S.2.1 dX9_oneHour_17 (by decide) ?_
    obtain ⟨hx4, hf⟩ := ed_g_e hf
    refine em_ild S hK hM 1 (by decide) (em_e1 cy B _) hx4 dX9_oneHour_18 ?_
    refine lv_icmp_ge (tgt := 52) S.1 S.2.1 dX9_oneHour_19 (by decide) (fun c5 => ?_) (fun c5 => ?_)
    · replace hf := ed_ip c5 hf
      refine lv_iconst (v := 0) S.1 S.2.1 dX9_oneHour_52 (by decide) ?_
      refine lv_istore_n (lv' := [(1, .int 0), (0, .ref (B + 0))]) S.1 S.2.1 dX9_oneHour_53 rfl hl (by decide) rfl (fun ls hl => ?_)
      exact w_X9_oneHour_54 S hr hlocks hK r ν' ed_N 0 ν hf _ _ _ hM hS (lv_sub hl [1, 0] rfl)
    · replace hf := ed_in_ c5 hf
      refine lv_aload_n S.1 S.2.1 dX9_oneHour_22 rfl (lv_at hl 0 rfl) ?_
      refine em_get S ed_uX9 hK hM 0 (by decide) ed_w4_33 rfl rfl dX9_oneHour_23 ?_
      refine lv_iconst (v := 0) S.1 S.2.1 dX9_oneHour_26 (by decide) ?_
      obtain ⟨hx17, hf⟩ := ed_g_e hf
      refine em_ild S hK hM 1 (by decide) (em_e1 cy B _) hx17 dX9_oneHour_27 ?_
      refine lv_bipush (v := 24) S.1 S.2.1 dX9_oneHour_28 (by decide) ?_
      refine lv_irem S.1 S.2.1 dX9_oneHour_30 (by decide) ?_
      refine lv_if_ne (tgt := 52) S.1 S.2.1 dX9_oneHour_31 (by decide) (fun c18 => ?_) (fun c18 => ?_)
      · replace hf := ed_in_ c18 hf
        refine lv_iconst (v := 0) S.1 S.2.1 dX9_oneHour_52 (by decide) ?_
        refine lv_istore_n (lv' := [(1, .int 0), (0, .ref (B + 0))]) S.1 S.2.1 dX9_oneHour_53 rfl hl (by decide) rfl (fun ls hl => ?_)
        exact w_X9_oneHour_54 S hr hlocks hK r ν' ed_N 0 ν hf _ _ _ hM hS (lv_sub hl [1, 0] rfl)
      · replace hf := ed_ip c18 hf
        refine lv_aload_n S.1 S.2.1 dX9_oneHour_34 rfl (lv_at hl 0 rfl) ?_
        refine em_get S ed_uX9 hK hM 0 (by decide) ed_w4_33 rfl rfl dX9_oneHour_35 ?_
        refine lv_iload_n S.1 S.2.1 dX9_oneHour_38 rfl (lv_at hl 1 rfl) ?_
        refine lv_bipush (v := 7) S.1 S.2.1 dX9_oneHour_39 (by decide) ?_
        refine ed_kI (ed_rS S hK hM (c_X9_clientAt _ D cy (em_P D cy B ν) (em_A B) x1 7) (va_cwS 2 S.2.2.2.2 (ed_gS ed_w4_79 ed_w4_80 ed_w1_10 ed_w4_81) rfl rfl rfl hd_X9_clientAt.2 ⟨Nat.le_of_ble_eq_true rfl, Nat.le_of_ble_eq_true rfl⟩) rfl hl.1 rfl (Nat.le_of_ble_eq_true rfl) dX9_oneHour_41 ⟨Nat.zero_le _, Nat.zero_le _⟩) hS (fun H locs hM hS => ?_)
        refine lv_iconst (v := 0) S.1 S.2.1 dX9_oneHour_44 (by decide) ?_
        obtain ⟨hx20, hf⟩ := ed_g_e hf
        refine em_ist S hK hM hS 1 (by decide) (em_e1 cy B) hx20 dX9_oneHour_45 (fun H locs hM hS => ?_)
        obtain ⟨ν21, eν21, hf⟩ := ed_t_e hf
        have hM : em_P D cy B ν21 H := by rw [eν21]; exact hM
        refine lv_iinc (v := x1 + 1) (lv' := [(1, .int (x1 + 1)), (0, .ref (B + 0))]) S.1 S.2.1 dX9_oneHour_46 hl (k := 1) rfl rfl (by decide) rfl (fun ls hl => ?_)
        refine lv_goto (tgt := 12) S.1 S.2.1 dX9_oneHour_49 (by decide) ?_
        exact ih (x1 + 1) ν21 hf _ _ _ hM hS (lv_sub hl [1, 0] rfl)
set_option maxHeartbeats 4000000 in
set_option maxRecDepth 100000 in
theorem c_X9_oneHour (l : Launch) (D : va_G) (cy : Nat → ClassId) (B : Nat) (ν : em_MM) (r : Int32) (ν' : em_MM) (hf : f_X9_oneHour ν = some (r, ν')) :
    Met l yX9_oneHour wsX9_oneHour rmX9_oneHour (ed_pC D cy (em_P D cy B ν) [.ref (B + 0)]) (ed_qI (em_A B) (em_P D cy B ν') r) 0 0 (em_A B) := by
  refine Met.ofW (cc := cX9_oneHour) (maxL := 3) (ret := (some .int)) (by decide) rfl ?_
  intro p e s m args below meth c s₁ B0 hml hv
  obtain ⟨rfl, hM, hK⟩ := hv
  have S : CallFix p m c cX9_oneHour 3 s _ ed_ws RX9 := ⟨B0.exec, B0.bytes, hml, findClass_of_methodNamed B0.named, fun w hw => atoms_spec (ws := wsX9_oneHour) B0.pre w (List.mem_cons_of_mem _ hw)⟩
  have hr := B0.returns
  have hlocks := B0.notSynchronized
  have hS : va_S (em_A B) s.heap s.heap [] := va_S.rf
  have hl := lv_entry ([.ref (B + 0)]) (n := 3) (Nat.le_of_ble_eq_true rfl)
  rw [lg_entry_eq]
  generalize (lg_sl ([.ref (B + 0)]) ++ List.replicate (3 - (lg_sl ([.ref (B + 0)])).length) Slot.unset).toArray = ls at hl ⊢
  have hl : lv_has ls 3 [(0, .ref (B + 0))] := hl
  unfold f_X9_oneHour at hf
  refine lv_aload_n S.1 S.2.1 dX9_oneHour_0 rfl (lv_at hl 0 rfl) ?_
  refine em_get S ed_uX9 hK hM 0 (by decide) ed_w4_33 rfl rfl dX9_oneHour_1 ?_
  refine lv_iconst (v := 0) S.1 S.2.1 dX9_oneHour_4 (by decide) ?_
  refine lv_dup2_11 S.1 S.2.1 dX9_oneHour_5 rfl rfl ?_
  obtain ⟨hx1, hf⟩ := ed_g_e hf
  refine em_ild S hK hM 1 (by decide) (em_e1 cy B _) hx1 dX9_oneHour_6 ?_
  refine lv_iconst (v := 1) S.1 S.2.1 dX9_oneHour_7 (by decide) ?_
  refine lv_iadd S.1 S.2.1 dX9_oneHour_8 ?_
  obtain ⟨hx2, hf⟩ := ed_g_e hf
  refine em_ist S hK hM hS 1 (by decide) (em_e1 cy B) hx2 dX9_oneHour_9 (fun H locs hM hS => ?_)
  obtain ⟨ν3, eν3, hf⟩ := ed_t_e hf
  have hM : em_P D cy B ν3 H := by rw [eν3]; exact hM
  refine lv_iconst (v := 0) S.1 S.2.1 dX9_oneHour_10 (by decide) ?_
  refine lv_istore_n (lv' := [(1, .int 0), (0, .ref (B + 0))]) S.1 S.2.1 dX9_oneHour_11 rfl hl (by decide) rfl (fun ls hl => ?_)
  exact w_X9_oneHour_12 S hr hlocks hK r ν' ed_N 0 ν3 hf _ _ _ hM hS (lv_sub hl [1, 0] rfl)
set_option maxHeartbeats 4000000 in
set_option maxRecDepth 100000 in
theorem c_X9_addClient (l : Launch) (D : va_G) (cy : Nat → ClassId) (B : Nat) (x1 x2 x3 x4 x5 : Int32) (ν : em_MM) (r : Int32) (ν' : em_MM) (hf : f_X9_addClient x1 x2 x3 x4 x5 ν = some (r, ν')) :
    Met l yX9_addClient wsX9_addClient rmX9_addClient (ed_pC D cy (em_P D cy B ν) [.ref (B + 0), .int x1, .int x2, .int x3, .int x4, .int x5]) (ed_qI (em_A B) (em_P D cy B ν') r) 0 0 (em_A B) := by
  refine Met.ofW (cc := cX9_addClient) (maxL := 7) (ret := (some .int)) (by decide) rfl ?_
  intro p e s m args below meth c s₁ B0 hml hv
  obtain ⟨rfl, hM, hK⟩ := hv
  have S : CallFix p m c cX9_addClient 7 s _ ed_ws RX9 := ⟨B0.exec, B0.bytes, hml, findClass_of_methodNamed B0.named, fun w hw => atoms_spec (ws := wsX9_addClient) B0.pre w (List.mem_cons_of_mem _ hw)⟩
  have hr := B0.returns
  have hlocks := B0.notSynchronized
  have hS : va_S (em_A B) s.heap s.heap [] := va_S.rf
  have hl := lv_entry ([.ref (B + 0), .int x1, .int x2, .int x3, .int x4, .int x5]) (n := 7) (Nat.le_of_ble_eq_true rfl)
  rw [lg_entry_eq]
  generalize (lg_sl ([.ref (B + 0), .int x1, .int x2, .int x3, .int x4, .int x5]) ++ List.replicate (7 - (lg_sl ([.ref (B + 0), .int x1, .int x2, .int x3, .int x4, .int x5])).length) Slot.unset).toArray = ls at hl ⊢
  have hl : lv_has ls 7 [(0, .ref (B + 0)), (1, .int x1), (2, .int x2), (3, .int x3), (4, .int x4), (5, .int x5)] := hl
  unfold f_X9_addClient at hf
  refine lv_iload_n S.1 S.2.1 dX9_addClient_0 rfl (lv_at hl 1 rfl) ?_
  refine lv_iconst (v := 1) S.1 S.2.1 dX9_addClient_1 (by decide) ?_
  refine lv_sipush (v := 255) S.1 S.2.1 dX9_addClient_2 (by decide) ?_
  refine ed_kI (ed_rS S hK hM (c_X9_in _ D cy (em_P D cy B ν) (em_A B) x1 1 255) (va_cwS 3 S.2.2.2.2 (ed_gS ed_w4_71 ed_w4_72 ed_w1_10 ed_w4_73) rfl rfl rfl hd_X9_in.2 ⟨Nat.le_of_ble_eq_true rfl, Nat.le_of_ble_eq_true rfl⟩) rfl hl.1 rfl (Nat.le_of_ble_eq_true rfl) dX9_addClient_5 ⟨Nat.zero_le _, Nat.zero_le _⟩) hS (fun H locs hM hS => ?_)
  refine lv_if_eq (tgt := 53) S.1 S.2.1 dX9_addClient_8 (by decide) (fun c2 => ?_) (fun c2 => ?_)
  · replace hf := ed_ip c2 hf
    refine lv_bipush (v := (-2)) S.1 S.2.1 dX9_addClient_53 (by decide) ?_
    obtain ⟨rfl, rfl⟩ := ed_so hf
    exact ed_ri S hr hlocks hM hS dX9_addClient_55
  · replace hf := ed_in_ c2 hf
    refine lv_iload_n S.1 S.2.1 dX9_addClient_11 rfl (lv_at hl 2 rfl) ?_
    refine lv_iconst (v := 0) S.1 S.2.1 dX9_addClient_12 (by decide) ?_
    refine lv_bipush (v := 48) S.1 S.2.1 dX9_addClient_13 (by decide) ?_
    refine ed_kI (ed_rS S hK hM (c_X9_in _ D cy (em_P D cy B ν) (em_A B) x2 0 48) (va_cwS 3 S.2.2.2.2 (ed_gS ed_w4_71 ed_w4_72 ed_w1_10 ed_w4_73) rfl rfl rfl hd_X9_in.2 ⟨Nat.le_of_ble_eq_true rfl, Nat.le_of_ble_eq_true rfl⟩) rfl hl.1 rfl (Nat.le_of_ble_eq_true rfl) dX9_addClient_15 ⟨Nat.zero_le _, Nat.zero_le _⟩) hS (fun H locs hM hS => ?_)
    refine lv_if_eq (tgt := 53) S.1 S.2.1 dX9_addClient_18 (by decide) (fun c4 => ?_) (fun c4 => ?_)
    · replace hf := ed_ip c4 hf
      refine lv_bipush (v := (-2)) S.1 S.2.1 dX9_addClient_53 (by decide) ?_
      obtain ⟨rfl, rfl⟩ := ed_so hf
      exact ed_ri S hr hlocks hM hS dX9_addClient_55
    · replace hf := ed_in_ c4 hf
      refine lv_iload_n S.1 S.2.1 dX9_addClient_21 rfl (lv_at hl 3 rfl) ?_
      refine lv_iconst (v := 0) S.1 S.2.1 dX9_addClient_22 (by decide) ?_
      refine lv_bipush (v := 24) S.1 S.2.1 dX9_addClient_23 (by decide) ?_
      refine ed_kI (ed_rS S hK hM (c_X9_in _ D cy (em_P D cy B ν) (em_A B) x3 0 24) (va_cwS 3 S.2.2.2.2 (ed_gS ed_w4_71 ed_w4_72 ed_w1_10 ed_w4_73) rfl rfl rfl hd_X9_in.2 ⟨Nat.le_of_ble_eq_true rfl, Nat.le_of_ble_eq_true rfl⟩) rfl hl.1 rfl (Nat.le_of_ble_eq_true rfl) dX9_addClient_25 ⟨Nat.zero_le _, Nat.zero_le _⟩) hS (fun H locs hM hS => ?_)
      refine lv_if_eq (tgt := 53) S.1 S.2.1 dX9_addClient_28 (by decide) (fun c6 => ?_) (fun c6 => ?_)
      · replace hf := ed_ip c6 hf
        refine lv_bipush (v := (-2)) S.1 S.2.1 dX9_addClient_53 (by decide) ?_
        obtain ⟨rfl, rfl⟩ := ed_so hf
        exact ed_ri S hr hlocks hM hS dX9_addClient_55
      · replace hf := ed_in_ c6 hf
        refine lv_iload S.1 S.2.1 dX9_addClient_31 (lv_at hl 4 rfl) ?_
        refine lv_iconst (v := 1) S.1 S.2.1 dX9_addClient_33 (by decide) ?_
        refine lv_bipush (v := 9) S.1 S.2.1 dX9_addClient_34 (by decide) ?_
        refine ed_kI (ed_rS S hK hM (c_X9_in _ D cy (em_P D cy B ν) (em_A B) x4 1 9) (va_cwS 3 S.2.2.2.2 (ed_gS ed_w4_71 ed_w4_72 ed_w1_10 ed_w4_73) rfl rfl rfl hd_X9_in.2 ⟨Nat.le_of_ble_eq_true rfl, Nat.le_of_ble_eq_true rfl⟩) rfl hl.1 rfl (Nat.le_of_ble_eq_true rfl) dX9_addClient_36 ⟨Nat.zero_le _, Nat.zero_le _⟩) hS (fun H locs hM hS => ?_)
        refine lv_if_eq (tgt := 53) S.1 S.2.1 dX9_addClient_39 (by decide) (fun c8 => ?_) (fun c8 => ?_)
        · replace hf := ed_ip c8 hf
          refine lv_bipush (v := (-2)) S.1 S.2.1 dX9_addClient_53 (by decide) ?_
          obtain ⟨rfl, rfl⟩ := ed_so hf
          exact ed_ri S hr hlocks hM hS dX9_addClient_55
        · replace hf := ed_in_ c8 hf
          refine lv_iload S.1 S.2.1 dX9_addClient_42 (lv_at hl 5 rfl) ?_
          refine lv_iconst (v := 0) S.1 S.2.1 dX9_addClient_44 (by decide) ?_
          refine lv_ldc (v := 2000000000) S.1 S.2.1 S.2.2.2.1 (S.2.2.2.2 _ ed_w4_74) dX9_addClient_45 ?_
          refine ed_kI (ed_rS S hK hM (c_X9_in _ D cy (em_P D cy B ν) (em_A B) x5 0 2000000000) (va_cwS 3 S.2.2.2.2 (ed_gS ed_w4_71 ed_w4_72 ed_w1_10 ed_w4_73) rfl rfl rfl hd_X9_in.2 ⟨Nat.le_of_ble_eq_true rfl, Nat.le_of_ble_eq_true rfl⟩) rfl hl.1 rfl (Nat.le_of_ble_eq_true rfl) dX9_addClient_47 ⟨Nat.zero_le _, Nat.zero_le _⟩) hS (fun H locs hM hS => ?_)
          refine lv_if_ne (tgt := 56) S.1 S.2.1 dX9_addClient_50 (by decide) (fun c10 => ?_) (fun c10 => ?_)
          · replace hf := ed_in_ c10 hf
            refine lv_aload_n S.1 S.2.1 dX9_addClient_56 rfl (lv_at hl 0 rfl) ?_
            refine em_get S ed_uX9 hK hM 0 (by decide) ed_w4_33 rfl rfl dX9_addClient_57 ?_
            refine lv_iconst (v := 1) S.1 S.2.1 dX9_addClient_60 (by decide) ?_
            obtain ⟨hx11, hf⟩ := ed_g_e hf
            refine em_ild S hK hM 1 (by decide) (em_e1 cy B _) hx11 dX9_addClient_61 ?_
            refine lv_bipush (v := 8) S.1 S.2.1 dX9_addClient_62 (by decide) ?_
            refine lv_icmp_ne (tgt := 70) S.1 S.2.1 dX9_addClient_64 (by decide) (fun c12 => ?_) (fun c12 => ?_)
            · replace hf := ed_in_ c12 hf
              refine lv_aload_n S.1 S.2.1 dX9_addClient_70 rfl (lv_at hl 0 rfl) ?_
              obtain ⟨ν13, hq13, hf⟩ := ed_b_e hf
              refine ed_kV (ed_rV S hK hM (c_X9_record _ D cy B ν ν13 hq13) (cwV 0 S.2.2.2.2 (ed_gV ed_w4_75 ed_w4_77 ed_wp_21 ed_w1_10 ed_w4_78) rfl rfl rfl hd_X9_record ⟨Nat.le_of_ble_eq_true rfl, Nat.le_of_ble_eq_true rfl⟩) (em_rc hK hM) rfl hl.1 rfl (Nat.le_of_ble_eq_true rfl) dX9_addClient_71 ⟨Nat.zero_le _, Nat.zero_le _⟩) hS (fun H locs hM hS => ?_)
              refine lv_aload_n S.1 S.2.1 dX9_addClient_74 rfl (lv_at hl 0 rfl) ?_
              refine em_get S ed_uX9 hK hM 0 (by decide) ed_w4_33 rfl rfl dX9_addClient_75 ?_
              refine lv_iconst (v := 1) S.1 S.2.1 dX9_addClient_78 (by decide) ?_
              obtain ⟨hx14, hf⟩ := ed_g_e hf
              refine em_ild S hK hM 1 (by decide) (em_e1 cy B _) hx14 dX9_addClient_79 ?_
              obtain ⟨y15, ey15, hf⟩ := ed_t_e hf
              refine ed_nm ey15 ?_
              refine lv_istore (lv' := [(6, .int y15), (0, .ref (B + 0)), (1, .int x1), (2, .int x2), (3, .int x3), (4, .int x4), (5, .int x5)]) S.1 S.2.1 dX9_addClient_80 hl (by decide) rfl (fun ls hl => ?_)
              refine lv_aload_n S.1 S.2.1 dX9_addClient_82 rfl (lv_at hl 1 rfl) ?_
              refine em_get S ed_uX9 hK hM 0 (by decide) ed_w4_33 rfl rfl dX9_addClient_83 ?_
              refine lv_iload S.1 S.2.1 dX9_addClient_86 (lv_at hl 0 rfl) ?_
              refine lv_iconst (v := 0) S.1 S.2.1 dX9_addClient_88 (by decide) ?_
              refine ed_kI (ed_rS S hK hM (c_X9_clientAt _ D cy (em_P D cy B ν13) (em_A B) y15 0) (va_cwS 2 S.2.2.2.2 (ed_gS ed_w4_79 ed_w4_80 ed_w1_10 ed_w4_81) rfl rfl rfl hd_X9_clientAt.2 ⟨Nat.le_of_ble_eq_true rfl, Nat.le_of_ble_eq_true rfl⟩) rfl hl.1 rfl (Nat.le_of_ble_eq_true rfl) dX9_addClient_89 ⟨Nat.zero_le _, Nat.zero_le _⟩) hS (fun H locs hM hS => ?_)
              refine lv_iload_n S.1 S.2.1 dX9_addClient_92 rfl (lv_at hl 2 rfl) ?_
              obtain ⟨hx17, hf⟩ := ed_g_e hf
              refine em_ist S hK hM hS 1 (by decide) (em_e1 cy B) hx17 dX9_addClient_93 (fun H locs hM hS => ?_)
              obtain ⟨ν18, eν18, hf⟩ := ed_t_e hf
              have hM : em_P D cy B ν18 H := by rw [eν18]; exact hM
              refine lv_aload_n S.1 S.2.1 dX9_addClient_94 rfl (lv_at hl 1 rfl) ?_
              refine em_get S ed_uX9 hK hM 0 (by decide) ed_w4_33 rfl rfl dX9_addClient_95 ?_
              refine lv_iload S.1 S.2.1 dX9_addClient_98 (lv_at hl 0 rfl) ?_
              refine lv_iconst (v := 1) S.1 S.2.1 dX9_addClient_100 (by decide) ?_
              refine ed_kI (ed_rS S hK hM (c_X9_clientAt _ D cy (em_P D cy B ν18) (em_A B) y15 1) (va_cwS 2 S.2.2.2.2 (ed_gS ed_w4_79 ed_w4_80 ed_w1_10 ed_w4_81) rfl rfl rfl hd_X9_clientAt.2 ⟨Nat.le_of_ble_eq_true rfl, Nat.le_of_ble_eq_true rfl⟩) rfl hl.1 rfl (Nat.le_of_ble_eq_true rfl) dX9_addClient_101 ⟨Nat.zero_le _, Nat.zero_le _⟩) hS (fun H locs hM hS => ?_)
              refine lv_iload_n S.1 S.2.1 dX9_addClient_104 rfl (lv_at hl 3 rfl) ?_
              obtain ⟨hx20, hf⟩ := ed_g_e hf
              refine em_ist S hK hM hS 1 (by decide) (em_e1 cy B) hx20 dX9_addClient_105 (fun H locs hM hS => ?_)
              obtain ⟨ν21, eν21, hf⟩ := ed_t_e hf
              have hM : em_P D cy B ν21 H := by rw [eν21]; exact hM
              refine lv_aload_n S.1 S.2.1 dX9_addClient_106 rfl (lv_at hl 1 rfl) ?_
              refine em_get S ed_uX9 hK hM 0 (by decide) ed_w4_33 rfl rfl dX9_addClient_107 ?_
              refine lv_iload S.1 S.2.1 dX9_addClient_110 (lv_at hl 0 rfl) ?_
              refine lv_iconst (v := 2) S.1 S.2.1 dX9_addClient_112 (by decide) ?_
              refine ed_kI (ed_rS S hK hM (c_X9_clientAt _ D cy (em_P D cy B ν21) (em_A B) y15 2) (va_cwS 2 S.2.2.2.2 (ed_gS ed_w4_79 ed_w4_80 ed_w1_10 ed_w4_81) rfl rfl rfl hd_X9_clientAt.2 ⟨Nat.le_of_ble_eq_true rfl, Nat.le_of_ble_eq_true rfl⟩) rfl hl.1 rfl (Nat.le_of_ble_eq_true rfl) dX9_addClient_113 ⟨Nat.zero_le _, Nat.zero_le _⟩) hS (fun H locs hM hS => ?_)
              refine lv_iload_n S.1 S.2.1 dX9_addClient_116 rfl (lv_at hl 4 rfl) ?_
              obtain ⟨hx23, hf⟩ := ed_g_e hf
              refine em_ist S hK hM hS 1 (by decide) (em_e1 cy B) hx23 dX9_addClient_117 (fun H locs hM hS => ?_)
              obtain ⟨ν24, eν24, hf⟩ := ed_t_e hf
              have hM : em_P D cy B ν24 H := by rw [eν24]; exact hM
              refine lv_aload_n S.1 S.2.1 dX9_addClient_118 rfl (lv_at hl 1 rfl) ?_
              refine em_get S ed_uX9 hK hM 0 (by decide) ed_w4_33 rfl rfl dX9_addClient_119 ?_
              refine lv_iload S.1 S.2.1 dX9_addClient_122 (lv_at hl 0 rfl) ?_
              refine lv_iconst (v := 3) S.1 S.2.1 dX9_addClient_124 (by decide) ?_
              refine ed_kI (ed_rS S hK hM (c_X9_clientAt _ D cy (em_P D cy B ν24) (em_A B) y15 3) (va_cwS 2 S.2.2.2.2 (ed_gS ed_w4_79 ed_w4_80 ed_w1_10 ed_w4_81) rfl rfl rfl hd_X9_clientAt.2 ⟨Nat.le_of_ble_eq_true rfl, Nat.le_of_ble_eq_true rfl⟩) rfl hl.1 rfl (Nat.le_of_ble_eq_true rfl) dX9_addClient_125 ⟨Nat.zero_le _, Nat.zero_le _⟩) hS (fun H locs hM hS => ?_)
              refine lv_iload S.1 S.2.1 dX9_addClient_128 (lv_at hl 5 rfl) ?_
              obtain ⟨hx26, hf⟩ := ed_g_e hf
              refine em_ist S hK hM hS 1 (by decide) (em_e1 cy B) hx26 dX9_addClient_130 (fun H locs hM hS => ?_)
              obtain ⟨ν27, eν27, hf⟩ := ed_t_e hf
              have hM : em_P D cy B ν27 H := by rw [eν27]; exact hM
              refine lv_aload_n S.1 S.2.1 dX9_addClient_131 rfl (lv_at hl 1 rfl) ?_
              refine em_get S ed_uX9 hK hM 0 (by decide) ed_w4_33 rfl rfl dX9_addClient_132 ?_
              refine lv_iload S.1 S.2.1 dX9_addClient_135 (lv_at hl 0 rfl) ?_
              refine lv_iconst (v := 4) S.1 S.2.1 dX9_addClient_137 (by decide) ?_
              refine ed_kI (ed_rS S hK hM (c_X9_clientAt _ D cy (em_P D cy B ν27) (em_A B) y15 4) (va_cwS 2 S.2.2.2.2 (ed_gS ed_w4_79 ed_w4_80 ed_w1_10 ed_w4_81) rfl rfl rfl hd_X9_clientAt.2 ⟨Nat.le_of_ble_eq_true rfl, Nat.le_of_ble_eq_true rfl⟩) rfl hl.1 rfl (Nat.le_of_ble_eq_true rfl) dX9_addClient_138 ⟨Nat.zero_le _, Nat.zero_le _⟩) hS (fun H locs hM hS => ?_)
              refine lv_iload S.1 S.2.1 dX9_addClient_141 (lv_at hl 6 rfl) ?_
              obtain ⟨hx29, hf⟩ := ed_g_e hf
              refine em_ist S hK hM hS 1 (by decide) (em_e1 cy B) hx29 dX9_addClient_143 (fun H locs hM hS => ?_)
              obtain ⟨ν30, eν30, hf⟩ := ed_t_e hf
              have hM : em_P D cy B ν30 H := by rw [eν30]; exact hM
              refine lv_aload_n S.1 S.2.1 dX9_addClient_144 rfl (lv_at hl 1 rfl) ?_
              refine em_get S ed_uX9 hK hM 0 (by decide) ed_w4_33 rfl rfl dX9_addClient_145 ?_
              refine lv_iload S.1 S.2.1 dX9_addClient_148 (lv_at hl 0 rfl) ?_
              refine lv_iconst (v := 5) S.1 S.2.1 dX9_addClient_150 (by decide) ?_
              refine ed_kI (ed_rS S hK hM (c_X9_clientAt _ D cy (em_P D cy B ν30) (em_A B) y15 5) (va_cwS 2 S.2.2.2.2 (ed_gS ed_w4_79 ed_w4_80 ed_w1_10 ed_w4_81) rfl rfl rfl hd_X9_clientAt.2 ⟨Nat.le_of_ble_eq_true rfl, Nat.le_of_ble_eq_true rfl⟩) rfl hl.1 rfl (Nat.le_of_ble_eq_true rfl) dX9_addClient_151 ⟨Nat.zero_le _, Nat.zero_le _⟩) hS (fun H locs hM hS => ?_)
              refine lv_iconst (v := 1) S.1 S.2.1 dX9_addClient_154 (by decide) ?_
              obtain ⟨hx32, hf⟩ := ed_g_e hf
              refine em_ist S hK hM hS 1 (by decide) (em_e1 cy B) hx32 dX9_addClient_155 (fun H locs hM hS => ?_)
              obtain ⟨ν33, eν33, hf⟩ := ed_t_e hf
              have hM : em_P D cy B ν33 H := by rw [eν33]; exact hM
              refine lv_aload_n S.1 S.2.1 dX9_addClient_156 rfl (lv_at hl 1 rfl) ?_
              refine em_get S ed_uX9 hK hM 0 (by decide) ed_w4_33 rfl rfl dX9_addClient_157 ?_
              refine lv_iconst (v := 1) S.1 S.2.1 dX9_addClient_160 (by decide) ?_
              refine lv_dup2_11 S.1 S.2.1 dX9_addClient_161 rfl rfl ?_
              obtain ⟨hx34, hf⟩ := ed_g_e hf
              refine em_ild S hK hM 1 (by decide) (em_e1 cy B _) hx34 dX9_addClient_162 ?_
              refine lv_iconst (v := 1) S.1 S.2.1 dX9_addClient_163 (by decide) ?_
              refine lv_iadd S.1 S.2.1 dX9_addClient_164 ?_
              obtain ⟨hx35, hf⟩ := ed_g_e hf
              refine em_ist S hK hM hS 1 (by decide) (em_e1 cy B) hx35 dX9_addClient_165 (fun H locs hM hS => ?_)
              obtain ⟨ν36, eν36, hf⟩ := ed_t_e hf
              have hM : em_P D cy B ν36 H := by rw [eν36]; exact hM
              refine lv_iload S.1 S.2.1 dX9_addClient_166 (lv_at hl 0 rfl) ?_
              obtain ⟨rfl, rfl⟩ := ed_so hf
              exact ed_ri S hr hlocks hM hS dX9_addClient_168
            · replace hf := ed_ip c12 hf
              refine lv_bipush (v := (-3)) S.1 S.2.1 dX9_addClient_67 (by decide) ?_
              obtain ⟨rfl, rfl⟩ := ed_so hf
              exact ed_ri S hr hlocks hM hS dX9_addClient_69
          · replace hf := ed_ip c10 hf
            refine lv_bipush (v := (-2)) S.1 S.2.1 dX9_addClient_53 (by decide) ?_
            obtain ⟨rfl, rfl⟩ := ed_so hf
            exact ed_ri S hr hlocks hM hS dX9_addClient_55
set_option maxHeartbeats 4000000 in
set_option maxRecDepth 100000 in
theorem c_X9_becomes (l : Launch) (D : va_G) (cy : Nat → ClassId) (B : Nat) (x1 x2 : Int32) (ν : em_MM) (r : Int32) (ν' : em_MM) (hf : f_X9_becomes x1 x2 ν = some (r, ν')) :
    Met l yX9_becomes wsX9_becomes rmX9_becomes (ed_pC D cy (em_P D cy B ν) [.ref (B + 0), .int x1, .int x2]) (ed_qI (em_A B) (em_P D cy B ν') r) 0 0 (em_A B) := by
  refine Met.ofW (cc := cX9_becomes) (maxL := 4) (ret := (some .int)) (by decide) rfl ?_
  intro p e s m args below meth c s₁ B0 hml hv
  obtain ⟨rfl, hM, hK⟩ := hv
  have S : CallFix p m c cX9_becomes 4 s _ ed_ws RX9 := ⟨B0.exec, B0.bytes, hml, findClass_of_methodNamed B0.named, fun w hw => atoms_spec (ws := wsX9_becomes) B0.pre w (List.mem_cons_of_mem _ hw)⟩
  have hr := B0.returns
  have hlocks := B0.notSynchronized
  have hS : va_S (em_A B) s.heap s.heap [] := va_S.rf
  have hl := lv_entry ([.ref (B + 0), .int x1, .int x2]) (n := 4) (Nat.le_of_ble_eq_true rfl)
  rw [lg_entry_eq]
  generalize (lg_sl ([.ref (B + 0), .int x1, .int x2]) ++ List.replicate (4 - (lg_sl ([.ref (B + 0), .int x1, .int x2])).length) Slot.unset).toArray = ls at hl ⊢
  have hl : lv_has ls 4 [(0, .ref (B + 0)), (1, .int x1), (2, .int x2)] := hl
  unfold f_X9_becomes at hf
  refine lv_aload_n S.1 S.2.1 dX9_becomes_0 rfl (lv_at hl 0 rfl) ?_
  refine em_get S ed_uX9 hK hM 0 (by decide) ed_w4_33 rfl rfl dX9_becomes_1 ?_
  refine lv_iload_n S.1 S.2.1 dX9_becomes_4 rfl (lv_at hl 1 rfl) ?_
  obtain ⟨hx1, hf⟩ := ed_g_e hf
  refine em_ild S hK hM 1 (by decide) (em_e1 cy B _) hx1 dX9_becomes_5 ?_
  refine lv_iload_n S.1 S.2.1 dX9_becomes_6 rfl (lv_at hl 2 rfl) ?_
  refine lv_icmp_ne (tgt := 13) S.1 S.2.1 dX9_becomes_7 (by decide) (fun c2 => ?_) (fun c2 => ?_)
  · replace hf := ed_in_ c2 hf
    refine lv_aload_n S.1 S.2.1 dX9_becomes_13 rfl (lv_at hl 0 rfl) ?_
    obtain ⟨ν3, hq3, hf⟩ := ed_b_e hf
    refine ed_kV (ed_rV S hK hM (c_X9_record _ D cy B ν ν3 hq3) (cwV 0 S.2.2.2.2 (ed_gV ed_w4_75 ed_w4_77 ed_wp_21 ed_w1_10 ed_w4_78) rfl rfl rfl hd_X9_record ⟨Nat.le_of_ble_eq_true rfl, Nat.le_of_ble_eq_true rfl⟩) (em_rc hK hM) rfl hl.1 rfl (Nat.le_of_ble_eq_true rfl) dX9_becomes_14 ⟨Nat.zero_le _, Nat.zero_le _⟩) hS (fun H locs hM hS => ?_)
    refine lv_aload_n S.1 S.2.1 dX9_becomes_17 rfl (lv_at hl 0 rfl) ?_
    refine em_get S ed_uX9 hK hM 0 (by decide) ed_w4_33 rfl rfl dX9_becomes_18 ?_
    refine lv_iload_n S.1 S.2.1 dX9_becomes_21 rfl (lv_at hl 1 rfl) ?_
    obtain ⟨hx4, hf⟩ := ed_g_e hf
    refine em_ild S hK hM 1 (by decide) (em_e1 cy B _) hx4 dX9_becomes_22 ?_
    refine lv_istore_n (lv' := [(3, .int (ν3 1 x1.toNatClampNeg)), (0, .ref (B + 0)), (1, .int x1), (2, .int x2)]) S.1 S.2.1 dX9_becomes_23 rfl hl (by decide) rfl (fun ls hl => ?_)
    refine lv_aload_n S.1 S.2.1 dX9_becomes_24 rfl (lv_at hl 1 rfl) ?_
    refine em_get S ed_uX9 hK hM 0 (by decide) ed_w4_33 rfl rfl dX9_becomes_25 ?_
    refine lv_iload_n S.1 S.2.1 dX9_becomes_28 rfl (lv_at hl 2 rfl) ?_
    refine lv_iload_n S.1 S.2.1 dX9_becomes_29 rfl (lv_at hl 3 rfl) ?_
    obtain ⟨hx5, hf⟩ := ed_g_e hf
    refine em_ist S hK hM hS 1 (by decide) (em_e1 cy B) hx5 dX9_becomes_30 (fun H locs hM hS => ?_)
    obtain ⟨ν6, eν6, hf⟩ := ed_t_e hf
    have hM : em_P D cy B ν6 H := by rw [eν6]; exact hM
    refine lv_iload_n S.1 S.2.1 dX9_becomes_31 rfl (lv_at hl 0 rfl) ?_
    obtain ⟨rfl, rfl⟩ := ed_so hf
    exact ed_ri S hr hlocks hM hS dX9_becomes_32
  · replace hf := ed_ip c2 hf
    refine lv_bipush (v := (-5)) S.1 S.2.1 dX9_becomes_10 (by decide) ?_
    obtain ⟨rfl, rfl⟩ := ed_so hf
    exact ed_ri S hr hlocks hM hS dX9_becomes_12
set_option maxHeartbeats 4000000 in
set_option maxRecDepth 100000 in
theorem c_X9_setTopics (l : Launch) (D : va_G) (cy : Nat → ClassId) (B : Nat) (x1 x2 : Int32) (ν : em_MM) (r : Int32) (ν' : em_MM) (hf : f_X9_setTopics x1 x2 ν = some (r, ν')) :
    Met l yX9_setTopics wsX9_setTopics rmX9_setTopics (ed_pC D cy (em_P D cy B ν) [.ref (B + 0), .int x1, .int x2]) (ed_qI (em_A B) (em_P D cy B ν') r) 0 0 (em_A B) := by
  refine Met.ofW (cc := cX9_setTopics) (maxL := 3) (ret := (some .int)) (by decide) rfl ?_
  intro p e s m args below meth c s₁ B0 hml hv
  obtain ⟨rfl, hM, hK⟩ := hv
  have S : CallFix p m c cX9_setTopics 3 s _ ed_ws RX9 := ⟨B0.exec, B0.bytes, hml, findClass_of_methodNamed B0.named, fun w hw => atoms_spec (ws := wsX9_setTopics) B0.pre w (List.mem_cons_of_mem _ hw)⟩
  have hr := B0.returns
  have hlocks := B0.notSynchronized
  have hS : va_S (em_A B) s.heap s.heap [] := va_S.rf
  have hl := lv_entry ([.ref (B + 0), .int x1, .int x2]) (n := 3) (Nat.le_of_ble_eq_true rfl)
  rw [lg_entry_eq]
  generalize (lg_sl ([.ref (B + 0), .int x1, .int x2]) ++ List.replicate (3 - (lg_sl ([.ref (B + 0), .int x1, .int x2])).length) Slot.unset).toArray = ls at hl ⊢
  have hl : lv_has ls 3 [(0, .ref (B + 0)), (1, .int x1), (2, .int x2)] := hl
  unfold f_X9_setTopics at hf
  refine lv_aload_n S.1 S.2.1 dX9_setTopics_0 rfl (lv_at hl 0 rfl) ?_
  refine lv_iload_n S.1 S.2.1 dX9_setTopics_1 rfl (lv_at hl 1 rfl) ?_
  obtain ⟨r1, hq1, hf⟩ := ed_b_e hf
  refine ed_kI (ed_rV S hK hM (c_X9_isClient _ D cy B x1 ν r1 hq1) (cwV 1 S.2.2.2.2 (ed_gV ed_w4_86 ed_w4_88 ed_wp_22 ed_w1_10 ed_w4_89) rfl rfl rfl hd_X9_isClient ⟨Nat.le_of_ble_eq_true rfl, Nat.le_of_ble_eq_true rfl⟩) (em_rc hK hM) rfl hl.1 rfl (Nat.le_of_ble_eq_true rfl) dX9_setTopics_2 ⟨Nat.zero_le _, Nat.zero_le _⟩) hS (fun H locs hM hS => ?_)
  refine lv_if_ne (tgt := 10) S.1 S.2.1 dX9_setTopics_5 (by decide) (fun c2 => ?_) (fun c2 => ?_)
  · replace hf := ed_in_ c2 hf
    refine lv_iload_n S.1 S.2.1 dX9_setTopics_10 rfl (lv_at hl 2 rfl) ?_
    refine lv_iconst (v := 1) S.1 S.2.1 dX9_setTopics_11 (by decide) ?_
    refine lv_sipush (v := 255) S.1 S.2.1 dX9_setTopics_12 (by decide) ?_
    refine ed_kI (ed_rS S hK hM (c_X9_in _ D cy (em_P D cy B ν) (em_A B) x2 1 255) (va_cwS 3 S.2.2.2.2 (ed_gS ed_w4_71 ed_w4_72 ed_w1_10 ed_w4_73) rfl rfl rfl hd_X9_in.2 ⟨Nat.le_of_ble_eq_true rfl, Nat.le_of_ble_eq_true rfl⟩) rfl hl.1 rfl (Nat.le_of_ble_eq_true rfl) dX9_setTopics_15 ⟨Nat.zero_le _, Nat.zero_le _⟩) hS (fun H locs hM hS => ?_)
    refine lv_if_eq (tgt := 34) S.1 S.2.1 dX9_setTopics_18 (by decide) (fun c4 => ?_) (fun c4 => ?_)
    · replace hf := ed_ip c4 hf
      refine lv_bipush (v := (-2)) S.1 S.2.1 dX9_setTopics_34 (by decide) ?_
      obtain ⟨rfl, rfl⟩ := ed_so hf
      exact ed_ri S hr hlocks hM hS dX9_setTopics_36
    · replace hf := ed_in_ c4 hf
      refine lv_aload_n S.1 S.2.1 dX9_setTopics_21 rfl (lv_at hl 0 rfl) ?_
      refine lv_iload_n S.1 S.2.1 dX9_setTopics_22 rfl (lv_at hl 1 rfl) ?_
      refine lv_iconst (v := 0) S.1 S.2.1 dX9_setTopics_23 (by decide) ?_
      refine ed_kI (ed_rS S hK hM (c_X9_clientAt _ D cy (em_P D cy B ν) (em_A B) x1 0) (va_cwS 2 S.2.2.2.2 (ed_gS ed_w4_79 ed_w4_80 ed_w1_10 ed_w4_81) rfl rfl rfl hd_X9_clientAt.2 ⟨Nat.le_of_ble_eq_true rfl, Nat.le_of_ble_eq_true rfl⟩) rfl hl.1 rfl (Nat.le_of_ble_eq_true rfl) dX9_setTopics_24 ⟨Nat.zero_le _, Nat.zero_le _⟩) hS (fun H locs hM hS => ?_)
      refine lv_iload_n S.1 S.2.1 dX9_setTopics_27 rfl (lv_at hl 2 rfl) ?_
      obtain ⟨r6, ν6, hq6, hf⟩ := ed_b2_e hf
      refine ed_kI (ed_rV S hK hM (c_X9_becomes _ D cy B (f_X9_clientAt x1 0) x2 ν r6 ν6 hq6) (cwV 2 S.2.2.2.2 (ed_gV ed_w4_90 ed_w4_92 ed_wp_23 ed_w1_10 ed_w4_93) rfl rfl rfl hd_X9_becomes ⟨Nat.le_of_ble_eq_true rfl, Nat.le_of_ble_eq_true rfl⟩) (em_rc hK hM) rfl hl.1 rfl (Nat.le_of_ble_eq_true rfl) dX9_setTopics_28 ⟨Nat.zero_le _, Nat.zero_le _⟩) hS (fun H locs hM hS => ?_)
      refine lv_goto (tgt := 36) S.1 S.2.1 dX9_setTopics_31 (by decide) ?_
      obtain ⟨rfl, rfl⟩ := ed_so hf
      exact ed_ri S hr hlocks hM hS dX9_setTopics_36
  · replace hf := ed_ip c2 hf
    refine lv_iconst (v := (-1)) S.1 S.2.1 dX9_setTopics_8 (by decide) ?_
    obtain ⟨rfl, rfl⟩ := ed_so hf
    exact ed_ri S hr hlocks hM hS dX9_setTopics_9
set_option maxHeartbeats 4000000 in
set_option maxRecDepth 100000 in
theorem w_X9_setUp_39 {p : Program} {l : Launch} {e : Env} {s : State} {m : MethodId} {args : Array Value} {below : List Frame} {meth : Method} {c : Code} {D : va_G} {cy : Nat → ClassId} {B : Nat} (S : CallFix p m c cX9_setUp 5 s args ed_ws RX9) (hr : meth.sig.returnType = (some .int)) (hlocks : meth.locks = false) (hK : ed_K D cy s) (r : Int32) (ν' : em_MM) :
    ∀ (n : Nat), ∀ (x1 x3 x4 : Int32) (ν : em_MM), f_X9_setUp_39  n x1 x3 x4 ν = some (r, ν') → ∀ (H : Heap) (locs : List Loc) (ls : Array Slot), em_P D cy B ν H → va_S (em_A B) s.heap H locs → lv_has ls 5 [(0, .ref (B + 0)), (1, .int x1), (3, .int x3), (4, .int x4)] → W p l e (headSpec wsX9_setUp rmX9_setUp).room s m args below meth c H locs 0 0 (MQ below (ed_qI (em_A B) (em_P D cy B ν') r) args s 0 0 (em_A B)) (F0 m 39 ls []) := by
  intro n
  induction n with
  | zero => intro x1 x3 x4 ν hf; rw [f_X9_setUp_39] at hf; cases hf
  | succ n ih =>
    intro x1 x3 x4 ν hf H locs ls hM hS hl
    rw [f_X9_setUp_39] at hf
    refine lv_iload S.1 S.2.1 dX9_setUp_39 (lv_at hl 3 rfl) ?_
    refine lv_aload_n S.1 S.2.1 dX9_setUp_41 rfl (lv_at hl 0 rfl) ?_
    refine em_get S ed_uX9 hK hM 0 (by decide) ed_w4_33 rfl rfl dX9_setUp_42 ?_
    refine lv_iconst (v := 3) S.1 S.2.1 dX9_setUp_45 (by decide) ?_
    obtain ⟨hx7, hf⟩ := ed_g_e hf
    refine em_ild S hK hM 1 (by decide) (em_e1 cy B _) hx7 dX9_setUp_46 ?_
    refine lv_icmp_ge (tgt := 86) S.1 S.2.1 dX9_setUp_47 (by decide) (fun c8 => ?_) (fun c8 => ?_)
    · replace hf := ed_ip c8 hf
      refine lv_iload_n S.1 S.2.1 dX9_setUp_86 rfl (lv_at hl 2 rfl) ?_
      obtain ⟨rfl, rfl⟩ := ed_so hf
      exact ed_ri S hr hlocks hM hS dX9_setUp_87
    · replace hf := ed_in_ c8 hf
      refine lv_iload_n S.1 S.2.1 dX9_setUp_50 rfl (lv_at hl 2 rfl) ?_
      refine lv_aload_n S.1 S.2.1 dX9_setUp_51 rfl (lv_at hl 0 rfl) ?_
      refine lv_iload S.1 S.2.1 dX9_setUp_52 (lv_at hl 3 rfl) ?_
      refine lv_iconst (v := 1) S.1 S.2.1 dX9_setUp_54 (by decide) ?_
      obtain ⟨r9, hq9, hf⟩ := ed_b_e hf
      refine ed_kI (ed_rV S hK hM (c_X9_ofCopy _ D cy B x4 1 ν r9 hq9) (cwV 2 S.2.2.2.2 (ed_gV ed_w4_98 ed_w4_100 ed_wp_24 ed_w1_10 ed_w4_101) rfl rfl rfl hd_X9_ofCopy ⟨Nat.le_of_ble_eq_true rfl, Nat.le_of_ble_eq_true rfl⟩) (em_rc hK hM) rfl hl.1 rfl (Nat.le_of_ble_eq_true rfl) dX9_setUp_55 ⟨Nat.zero_le _, Nat.zero_le _⟩) hS (fun H locs hM hS => ?_)
      refine lv_iload_n S.1 S.2.1 dX9_setUp_58 rfl (lv_at hl 1 rfl) ?_
      refine lv_icmp_ne (tgt := 77) S.1 S.2.1 dX9_setUp_59 (by decide) (fun c10 => ?_) (fun c10 => ?_)
      · replace hf := ed_in_ c10 hf
        refine lv_iconst (v := 0) S.1 S.2.1 dX9_setUp_77 (by decide) ?_
        refine lv_iadd S.1 S.2.1 dX9_setUp_78 ?_
        refine lv_istore_n (lv' := [(3, .int (x3 + 0)), (0, .ref (B + 0)), (1, .int x1), (4, .int x4)]) S.1 S.2.1 dX9_setUp_79 rfl hl (by decide) rfl (fun ls hl => ?_)
        refine lv_iinc (v := x4 + 1) (lv' := [(4, .int (x4 + 1)), (3, .int (x3 + 0)), (0, .ref (B + 0)), (1, .int x1)]) S.1 S.2.1 dX9_setUp_80 hl (k := 3) rfl rfl (by decide) rfl (fun ls hl => ?_)
        refine lv_goto (tgt := 39) S.1 S.2.1 dX9_setUp_83 (by decide) ?_
        exact ih x1 (x3 + 0) (x4 + 1) ν hf _ _ _ hM hS (lv_sub hl [2, 3, 1, 0] rfl)
      · replace hf := ed_ip c10 hf
        refine lv_aload_n S.1 S.2.1 dX9_setUp_62 rfl (lv_at hl 0 rfl) ?_
        refine lv_iload S.1 S.2.1 dX9_setUp_63 (lv_at hl 3 rfl) ?_
        refine lv_iconst (v := 2) S.1 S.2.1 dX9_setUp_65 (by decide) ?_
        obtain ⟨r11, hq11, hf⟩ := ed_b_e hf
        refine ed_kI (ed_rV S hK hM (c_X9_ofCopy _ D cy B x4 2 ν r11 hq11) (cwV 2 S.2.2.2.2 (ed_gV ed_w4_98 ed_w4_100 ed_wp_24 ed_w1_10 ed_w4_101) rfl rfl rfl hd_X9_ofCopy ⟨Nat.le_of_ble_eq_true rfl, Nat.le_of_ble_eq_true rfl⟩) (em_rc hK hM) rfl hl.1 rfl (Nat.le_of_ble_eq_true rfl) dX9_setUp_66 ⟨Nat.zero_le _, Nat.zero_le _⟩) hS (fun H locs hM hS => ?_)
        refine lv_iconst (v := 1) S.1 S.2.1 dX9_setUp_69 (by decide) ?_
        refine lv_icmp_gt (tgt := 77) S.1 S.2.1 dX9_setUp_70 (by decide) (fun c12 => ?_) (fun c12 => ?_)
        · replace hf := ed_ip c12 hf
          refine lv_iconst (v := 0) S.1 S.2.1 dX9_setUp_77 (by decide) ?_
          refine lv_iadd S.1 S.2.1 dX9_setUp_78 ?_
          refine lv_istore_n (lv' := [(3, .int (x3 + 0)), (0, .ref (B + 0)), (1, .int x1), (4, .int x4)]) S.1 S.2.1 dX9_setUp_79 rfl hl (by decide) rfl (fun ls hl => ?_)
          refine lv_iinc (v := x4 + 1) (lv' := [(4, .int (x4 + 1)), (3, .int (x3 + 0)), (0, .ref (B + 0)), (1, .int x1)]) S.1 S.2.1 dX9_setUp_80 hl (k := 3) rfl rfl (by decide) rfl (fun ls hl => ?_)
          refine lv_goto (tgt := 39) S.1 S.2.1 dX9_setUp_83 (by decide) ?_
          exact ih x1 (x3 + 0) (x4 + 1) ν hf _ _ _ hM hS (lv_sub hl [2, 3, 1, 0] rfl)
        · replace hf := ed_in_ c12 hf
          refine lv_iconst (v := 1) S.1 S.2.1 dX9_setUp_73 (by decide) ?_
          refine lv_goto (tgt := 78) S.1 S.2.1 dX9_setUp_74 (by decide) ?_
          refine lv_iadd S.1 S.2.1 dX9_setUp_78 ?_
          refine lv_istore_n (lv' := [(3, .int (x3 + 1)), (0, .ref (B + 0)), (1, .int x1), (4, .int x4)]) S.1 S.2.1 dX9_setUp_79 rfl hl (by decide) rfl (fun ls hl => ?_)
          refine lv_iinc (v := x4 + 1) (lv' := [(4, .int (x4 + 1)), (3, .int (x3 + 1)), (0, .ref (B + 0)), (1, .int x1)]) S.1 S.2.1 dX9_setUp_80 hl (k := 3) rfl rfl (by decide) rfl (fun ls hl => ?_)
          refine lv_goto (tgt := 39) S.1 S.2.1 dX9_setUp_83 (by decide) ?_
          exact ih x1 (x3 + 1) (x4 + 1) ν hf _ _ _ hM hS (lv_sub hl [2, 3, 1, 0] rfl)
set_option maxHeartbeats 4000000 in
set_option maxRecDepth 100000 in
theorem c_X9_setUp (l : Launch) (D : va_G) (cy : Nat → ClassId) (B : Nat) (x1 x2 : Int32) (ν : em_MM) (r : Int32) (ν' : em_MM) (hf : f_X9_setUp x1 x2 ν = some (r, ν')) :
    Met l yX9_setUp wsX9_setUp rmX9_setUp (ed_pC D cy (em_P D cy B ν) [.ref (B + 0), .int x1, .int x2]) (ed_qI (em_A B) (em_P D cy B ν') r) 0 0 (em_A B) := by
  refine Met.ofW (cc := cX9_setUp) (maxL := 5) (ret := (some .int)) (by decide) rfl ?_
  intro p e s m args below meth c s₁ B0 hml hv
  obtain ⟨rfl, hM, hK⟩ := hv
  have S : CallFix p m c cX9_setUp 5 s _ ed_ws RX9 := ⟨B0.exec, B0.bytes, hml, findClass_of_methodNamed B0.named, fun w hw => atoms_spec (ws := wsX9_setUp) B0.pre w (List.mem_cons_of_mem _ hw)⟩
  have hr := B0.returns
  have hlocks := B0.notSynchronized
  have hS : va_S (em_A B) s.heap s.heap [] := va_S.rf
  have hl := lv_entry ([.ref (B + 0), .int x1, .int x2]) (n := 5) (Nat.le_of_ble_eq_true rfl)
  rw [lg_entry_eq]
  generalize (lg_sl ([.ref (B + 0), .int x1, .int x2]) ++ List.replicate (5 - (lg_sl ([.ref (B + 0), .int x1, .int x2])).length) Slot.unset).toArray = ls at hl ⊢
  have hl : lv_has ls 5 [(0, .ref (B + 0)), (1, .int x1), (2, .int x2)] := hl
  unfold f_X9_setUp at hf
  refine lv_aload_n S.1 S.2.1 dX9_setUp_0 rfl (lv_at hl 0 rfl) ?_
  refine lv_iload_n S.1 S.2.1 dX9_setUp_1 rfl (lv_at hl 1 rfl) ?_
  obtain ⟨r1, hq1, hf⟩ := ed_b_e hf
  refine ed_kI (ed_rV S hK hM (c_X9_isClient _ D cy B x1 ν r1 hq1) (cwV 1 S.2.2.2.2 (ed_gV ed_w4_86 ed_w4_88 ed_wp_22 ed_w1_10 ed_w4_89) rfl rfl rfl hd_X9_isClient ⟨Nat.le_of_ble_eq_true rfl, Nat.le_of_ble_eq_true rfl⟩) (em_rc hK hM) rfl hl.1 rfl (Nat.le_of_ble_eq_true rfl) dX9_setUp_2 ⟨Nat.zero_le _, Nat.zero_le _⟩) hS (fun H locs hM hS => ?_)
  refine lv_if_ne (tgt := 10) S.1 S.2.1 dX9_setUp_5 (by decide) (fun c2 => ?_) (fun c2 => ?_)
  · replace hf := ed_in_ c2 hf
    refine lv_aload_n S.1 S.2.1 dX9_setUp_10 rfl (lv_at hl 0 rfl) ?_
    refine lv_iload_n S.1 S.2.1 dX9_setUp_11 rfl (lv_at hl 1 rfl) ?_
    refine lv_iconst (v := 5) S.1 S.2.1 dX9_setUp_12 (by decide) ?_
    refine ed_kI (ed_rS S hK hM (c_X9_clientAt _ D cy (em_P D cy B ν) (em_A B) x1 5) (va_cwS 2 S.2.2.2.2 (ed_gS ed_w4_79 ed_w4_80 ed_w1_10 ed_w4_81) rfl rfl rfl hd_X9_clientAt.2 ⟨Nat.le_of_ble_eq_true rfl, Nat.le_of_ble_eq_true rfl⟩) rfl hl.1 rfl (Nat.le_of_ble_eq_true rfl) dX9_setUp_13 ⟨Nat.zero_le _, Nat.zero_le _⟩) hS (fun H locs hM hS => ?_)
    refine lv_iload_n S.1 S.2.1 dX9_setUp_16 rfl (lv_at hl 2 rfl) ?_
    refine lv_if_eq (tgt := 24) S.1 S.2.1 dX9_setUp_17 (by decide) (fun c4 => ?_) (fun c4 => ?_)
    · replace hf := ed_ip c4 hf
      refine lv_iconst (v := 0) S.1 S.2.1 dX9_setUp_24 (by decide) ?_
      obtain ⟨r5, ν5, hq5, hf⟩ := ed_b2_e hf
      refine ed_kI (ed_rV S hK hM (c_X9_becomes _ D cy B (f_X9_clientAt x1 5) 0 ν r5 ν5 hq5) (cwV 2 S.2.2.2.2 (ed_gV ed_w4_90 ed_w4_92 ed_wp_23 ed_w1_10 ed_w4_93) rfl rfl rfl hd_X9_becomes ⟨Nat.le_of_ble_eq_true rfl, Nat.le_of_ble_eq_true rfl⟩) (em_rc hK hM) rfl hl.1 rfl (Nat.le_of_ble_eq_true rfl) dX9_setUp_25 ⟨Nat.zero_le _, Nat.zero_le _⟩) hS (fun H locs hM hS => ?_)
      refine lv_if_ge (tgt := 34) S.1 S.2.1 dX9_setUp_28 (by decide) (fun c6 => ?_) (fun c6 => ?_)
      · replace hf := ed_ip c6 hf
        refine lv_iconst (v := 0) S.1 S.2.1 dX9_setUp_34 (by decide) ?_
        refine lv_istore_n (lv' := [(3, .int 0), (0, .ref (B + 0)), (1, .int x1), (2, .int x2)]) S.1 S.2.1 dX9_setUp_35 rfl hl (by decide) rfl (fun ls hl => ?_)
        refine lv_iconst (v := 0) S.1 S.2.1 dX9_setUp_36 (by decide) ?_
        refine lv_istore (lv' := [(4, .int 0), (3, .int 0), (0, .ref (B + 0)), (1, .int x1), (2, .int x2)]) S.1 S.2.1 dX9_setUp_37 hl (by decide) rfl (fun ls hl => ?_)
        exact w_X9_setUp_39 S hr hlocks hK r ν' ed_N x1 0 0 ν5 hf _ _ _ hM hS (lv_sub hl [2, 3, 1, 0] rfl)
      · replace hf := ed_in_ c6 hf
        refine lv_bipush (v := (-5)) S.1 S.2.1 dX9_setUp_31 (by decide) ?_
        obtain ⟨rfl, rfl⟩ := ed_so hf
        exact ed_ri S hr hlocks hM hS dX9_setUp_33
    · replace hf := ed_in_ c4 hf
      refine lv_iconst (v := 1) S.1 S.2.1 dX9_setUp_20 (by decide) ?_
      refine lv_goto (tgt := 25) S.1 S.2.1 dX9_setUp_21 (by decide) ?_
      obtain ⟨r13, ν13, hq13, hf⟩ := ed_b2_e hf
      refine ed_kI (ed_rV S hK hM (c_X9_becomes _ D cy B (f_X9_clientAt x1 5) 1 ν r13 ν13 hq13) (cwV 2 S.2.2.2.2 (ed_gV ed_w4_90 ed_w4_92 ed_wp_23 ed_w1_10 ed_w4_93) rfl rfl rfl hd_X9_becomes ⟨Nat.le_of_ble_eq_true rfl, Nat.le_of_ble_eq_true rfl⟩) (em_rc hK hM) rfl hl.1 rfl (Nat.le_of_ble_eq_true rfl) dX9_setUp_25 ⟨Nat.zero_le _, Nat.zero_le _⟩) hS (fun H locs hM hS => ?_)
      refine lv_if_ge (tgt := 34) S.1 S.2.1 dX9_setUp_28 (by decide) (fun c14 => ?_) (fun c14 => ?_)
      · replace hf := ed_ip c14 hf
        refine lv_iconst (v := 0) S.1 S.2.1 dX9_setUp_34 (by decide) ?_
        refine lv_istore_n (lv' := [(3, .int 0), (0, .ref (B + 0)), (1, .int x1), (2, .int x2)]) S.1 S.2.1 dX9_setUp_35 rfl hl (by decide) rfl (fun ls hl => ?_)
        refine lv_iconst (v := 0) S.1 S.2.1 dX9_setUp_36 (by decide) ?_
        refine lv_istore (lv' := [(4, .int 0), (3, .int 0), (0, .ref (B + 0)), (1, .int x1), (2, .int x2)]) S.1 S.2.1 dX9_setUp_37 hl (by decide) rfl (fun ls hl => ?_)
        exact w_X9_setUp_39 S hr hlocks hK r ν' ed_N x1 0 0 ν13 hf _ _ _ hM hS (lv_sub hl [2, 3, 1, 0] rfl)
      · replace hf := ed_in_ c14 hf
        refine lv_bipush (v := (-5)) S.1 S.2.1 dX9_setUp_31 (by decide) ?_
        obtain ⟨rfl, rfl⟩ := ed_so hf
        exact ed_ri S hr hlocks hM hS dX9_setUp_33
  · replace hf := ed_ip c2 hf
    refine lv_iconst (v := (-1)) S.1 S.2.1 dX9_setUp_8 (by decide) ?_
    obtain ⟨rfl, rfl⟩ := ed_so hf
    exact ed_ri S hr hlocks hM hS dX9_setUp_9
set_option maxHeartbeats 4000000 in
set_option maxRecDepth 100000 in
theorem c_X9_setUse (l : Launch) (D : va_G) (cy : Nat → ClassId) (B : Nat) (x1 : Int32) (ν : em_MM) (r : Int32) (ν' : em_MM) (hf : f_X9_setUse x1 ν = some (r, ν')) :
    Met l yX9_setUse wsX9_setUse rmX9_setUse (ed_pC D cy (em_P D cy B ν) [.ref (B + 0), .int x1]) (ed_qI (em_A B) (em_P D cy B ν') r) 0 0 (em_A B) := by
  refine Met.ofW (cc := cX9_setUse) (maxL := 2) (ret := (some .int)) (by decide) rfl ?_
  intro p e s m args below meth c s₁ B0 hml hv
  obtain ⟨rfl, hM, hK⟩ := hv
  have S : CallFix p m c cX9_setUse 2 s _ ed_ws RX9 := ⟨B0.exec, B0.bytes, hml, findClass_of_methodNamed B0.named, fun w hw => atoms_spec (ws := wsX9_setUse) B0.pre w (List.mem_cons_of_mem _ hw)⟩
  have hr := B0.returns
  have hlocks := B0.notSynchronized
  have hS : va_S (em_A B) s.heap s.heap [] := va_S.rf
  have hl := lv_entry ([.ref (B + 0), .int x1]) (n := 2) (Nat.le_of_ble_eq_true rfl)
  rw [lg_entry_eq]
  generalize (lg_sl ([.ref (B + 0), .int x1]) ++ List.replicate (2 - (lg_sl ([.ref (B + 0), .int x1])).length) Slot.unset).toArray = ls at hl ⊢
  have hl : lv_has ls 2 [(0, .ref (B + 0)), (1, .int x1)] := hl
  unfold f_X9_setUse at hf
  refine lv_iload_n S.1 S.2.1 dX9_setUse_0 rfl (lv_at hl 1 rfl) ?_
  refine lv_iconst (v := 1) S.1 S.2.1 dX9_setUse_1 (by decide) ?_
  refine lv_bipush (v := 9) S.1 S.2.1 dX9_setUse_2 (by decide) ?_
  refine ed_kI (ed_rS S hK hM (c_X9_in _ D cy (em_P D cy B ν) (em_A B) x1 1 9) (va_cwS 3 S.2.2.2.2 (ed_gS ed_w4_71 ed_w4_72 ed_w1_10 ed_w4_73) rfl rfl rfl hd_X9_in.2 ⟨Nat.le_of_ble_eq_true rfl, Nat.le_of_ble_eq_true rfl⟩) rfl hl.1 rfl (Nat.le_of_ble_eq_true rfl) dX9_setUse_4 ⟨Nat.zero_le _, Nat.zero_le _⟩) hS (fun H locs hM hS => ?_)
  refine lv_if_eq (tgt := 19) S.1 S.2.1 dX9_setUse_7 (by decide) (fun c2 => ?_) (fun c2 => ?_)
  · replace hf := ed_ip c2 hf
    refine lv_bipush (v := (-2)) S.1 S.2.1 dX9_setUse_19 (by decide) ?_
    obtain ⟨rfl, rfl⟩ := ed_so hf
    exact ed_ri S hr hlocks hM hS dX9_setUse_21
  · replace hf := ed_in_ c2 hf
    refine lv_aload_n S.1 S.2.1 dX9_setUse_10 rfl (lv_at hl 0 rfl) ?_
    refine lv_iconst (v := 4) S.1 S.2.1 dX9_setUse_11 (by decide) ?_
    refine lv_iload_n S.1 S.2.1 dX9_setUse_12 rfl (lv_at hl 1 rfl) ?_
    obtain ⟨r3, ν3, hq3, hf⟩ := ed_b2_e hf
    refine ed_kI (ed_rV S hK hM (c_X9_becomes _ D cy B 4 x1 ν r3 ν3 hq3) (cwV 2 S.2.2.2.2 (ed_gV ed_w4_90 ed_w4_92 ed_wp_23 ed_w1_10 ed_w4_93) rfl rfl rfl hd_X9_becomes ⟨Nat.le_of_ble_eq_true rfl, Nat.le_of_ble_eq_true rfl⟩) (em_rc hK hM) rfl hl.1 rfl (Nat.le_of_ble_eq_true rfl) dX9_setUse_13 ⟨Nat.zero_le _, Nat.zero_le _⟩) hS (fun H locs hM hS => ?_)
    refine lv_goto (tgt := 21) S.1 S.2.1 dX9_setUse_16 (by decide) ?_
    obtain ⟨rfl, rfl⟩ := ed_so hf
    exact ed_ri S hr hlocks hM hS dX9_setUse_21
set_option maxHeartbeats 4000000 in
set_option maxRecDepth 100000 in
theorem c_X9_pay (l : Launch) (D : va_G) (cy : Nat → ClassId) (B : Nat) (x1 x2 : Int32) (ν : em_MM) (r : Int32) (ν' : em_MM) (hf : f_X9_pay x1 x2 ν = some (r, ν')) :
    Met l yX9_pay wsX9_pay rmX9_pay (ed_pC D cy (em_P D cy B ν) [.ref (B + 0), .int x1, .int x2]) (ed_qI (em_A B) (em_P D cy B ν') r) 0 0 (em_A B) := by
  refine Met.ofW (cc := cX9_pay) (maxL := 3) (ret := (some .int)) (by decide) rfl ?_
  intro p e s m args below meth c s₁ B0 hml hv
  obtain ⟨rfl, hM, hK⟩ := hv
  have S : CallFix p m c cX9_pay 3 s _ ed_ws RX9 := ⟨B0.exec, B0.bytes, hml, findClass_of_methodNamed B0.named, fun w hw => atoms_spec (ws := wsX9_pay) B0.pre w (List.mem_cons_of_mem _ hw)⟩
  have hr := B0.returns
  have hlocks := B0.notSynchronized
  have hS : va_S (em_A B) s.heap s.heap [] := va_S.rf
  have hl := lv_entry ([.ref (B + 0), .int x1, .int x2]) (n := 3) (Nat.le_of_ble_eq_true rfl)
  rw [lg_entry_eq]
  generalize (lg_sl ([.ref (B + 0), .int x1, .int x2]) ++ List.replicate (3 - (lg_sl ([.ref (B + 0), .int x1, .int x2])).length) Slot.unset).toArray = ls at hl ⊢
  have hl : lv_has ls 3 [(0, .ref (B + 0)), (1, .int x1), (2, .int x2)] := hl
  unfold f_X9_pay at hf
  refine lv_aload_n S.1 S.2.1 dX9_pay_0 rfl (lv_at hl 0 rfl) ?_
  refine lv_iload_n S.1 S.2.1 dX9_pay_1 rfl (lv_at hl 1 rfl) ?_
  obtain ⟨r1, hq1, hf⟩ := ed_b_e hf
  refine ed_kI (ed_rV S hK hM (c_X9_isClient _ D cy B x1 ν r1 hq1) (cwV 1 S.2.2.2.2 (ed_gV ed_w4_86 ed_w4_88 ed_wp_22 ed_w1_10 ed_w4_89) rfl rfl rfl hd_X9_isClient ⟨Nat.le_of_ble_eq_true rfl, Nat.le_of_ble_eq_true rfl⟩) (em_rc hK hM) rfl hl.1 rfl (Nat.le_of_ble_eq_true rfl) dX9_pay_2 ⟨Nat.zero_le _, Nat.zero_le _⟩) hS (fun H locs hM hS => ?_)
  refine lv_if_ne (tgt := 10) S.1 S.2.1 dX9_pay_5 (by decide) (fun c2 => ?_) (fun c2 => ?_)
  · replace hf := ed_in_ c2 hf
    refine lv_iload_n S.1 S.2.1 dX9_pay_10 rfl (lv_at hl 2 rfl) ?_
    refine lv_iconst (v := 1) S.1 S.2.1 dX9_pay_11 (by decide) ?_
    refine lv_ldc (v := 2000000000) S.1 S.2.1 S.2.2.2.1 (S.2.2.2.2 _ ed_w4_74) dX9_pay_12 ?_
    refine ed_kI (ed_rS S hK hM (c_X9_in _ D cy (em_P D cy B ν) (em_A B) x2 1 2000000000) (va_cwS 3 S.2.2.2.2 (ed_gS ed_w4_71 ed_w4_72 ed_w1_10 ed_w4_73) rfl rfl rfl hd_X9_in.2 ⟨Nat.le_of_ble_eq_true rfl, Nat.le_of_ble_eq_true rfl⟩) rfl hl.1 rfl (Nat.le_of_ble_eq_true rfl) dX9_pay_14 ⟨Nat.zero_le _, Nat.zero_le _⟩) hS (fun H locs hM hS => ?_)
    refine lv_if_ne (tgt := 23) S.1 S.2.1 dX9_pay_17 (by decide) (fun c4 => ?_) (fun c4 => ?_)
    · replace hf := ed_in_ c4 hf
      refine lv_aload_n S.1 S.2.1 dX9_pay_23 rfl (lv_at hl 0 rfl) ?_
      refine lv_iload_n S.1 S.2.1 dX9_pay_24 rfl (lv_at hl 1 rfl) ?_
      refine lv_bipush (v := 6) S.1 S.2.1 dX9_pay_25 (by decide) ?_
      obtain ⟨r5, hq5, hf⟩ := ed_b_e hf
      refine ed_kI (ed_rV S hK hM (c_X9_ofClient _ D cy B x1 6 ν r5 hq5) (cwV 2 S.2.2.2.2 (ed_gV ed_w4_113 ed_w4_115 ed_wp_25 ed_w1_10 ed_w4_116) rfl rfl rfl hd_X9_ofClient ⟨Nat.le_of_ble_eq_true rfl, Nat.le_of_ble_eq_true rfl⟩) (em_rc hK hM) rfl hl.1 rfl (Nat.le_of_ble_eq_true rfl) dX9_pay_27 ⟨Nat.zero_le _, Nat.zero_le _⟩) hS (fun H locs hM hS => ?_)
      refine lv_iload_n S.1 S.2.1 dX9_pay_30 rfl (lv_at hl 2 rfl) ?_
      refine lv_icmp_ge (tgt := 37) S.1 S.2.1 dX9_pay_31 (by decide) (fun c6 => ?_) (fun c6 => ?_)
      · replace hf := ed_ip c6 hf
        refine lv_aload_n S.1 S.2.1 dX9_pay_37 rfl (lv_at hl 0 rfl) ?_
        obtain ⟨ν7, hq7, hf⟩ := ed_b_e hf
        refine ed_kV (ed_rV S hK hM (c_X9_record _ D cy B ν ν7 hq7) (cwV 0 S.2.2.2.2 (ed_gV ed_w4_75 ed_w4_77 ed_wp_21 ed_w1_10 ed_w4_78) rfl rfl rfl hd_X9_record ⟨Nat.le_of_ble_eq_true rfl, Nat.le_of_ble_eq_true rfl⟩) (em_rc hK hM) rfl hl.1 rfl (Nat.le_of_ble_eq_true rfl) dX9_pay_38 ⟨Nat.zero_le _, Nat.zero_le _⟩) hS (fun H locs hM hS => ?_)
        refine lv_aload_n S.1 S.2.1 dX9_pay_41 rfl (lv_at hl 0 rfl) ?_
        refine em_get S ed_uX9 hK hM 0 (by decide) ed_w4_33 rfl rfl dX9_pay_42 ?_
        refine lv_iload_n S.1 S.2.1 dX9_pay_45 rfl (lv_at hl 1 rfl) ?_
        refine lv_bipush (v := 6) S.1 S.2.1 dX9_pay_46 (by decide) ?_
        refine ed_kI (ed_rS S hK hM (c_X9_clientAt _ D cy (em_P D cy B ν7) (em_A B) x1 6) (va_cwS 2 S.2.2.2.2 (ed_gS ed_w4_79 ed_w4_80 ed_w1_10 ed_w4_81) rfl rfl rfl hd_X9_clientAt.2 ⟨Nat.le_of_ble_eq_true rfl, Nat.le_of_ble_eq_true rfl⟩) rfl hl.1 rfl (Nat.le_of_ble_eq_true rfl) dX9_pay_48 ⟨Nat.zero_le _, Nat.zero_le _⟩) hS (fun H locs hM hS => ?_)
        refine lv_dup2_11 S.1 S.2.1 dX9_pay_51 rfl rfl ?_
        obtain ⟨hx9, hf⟩ := ed_g_e hf
        refine em_ild S hK hM 1 (by decide) (em_e1 cy B _) hx9 dX9_pay_52 ?_
        refine lv_iload_n S.1 S.2.1 dX9_pay_53 rfl (lv_at hl 2 rfl) ?_
        refine lv_isub S.1 S.2.1 dX9_pay_54 ?_
        obtain ⟨hx10, hf⟩ := ed_g_e hf
        refine em_ist S hK hM hS 1 (by decide) (em_e1 cy B) hx10 dX9_pay_55 (fun H locs hM hS => ?_)
        obtain ⟨ν11, eν11, hf⟩ := ed_t_e hf
        have hM : em_P D cy B ν11 H := by rw [eν11]; exact hM
        refine lv_aload_n S.1 S.2.1 dX9_pay_56 rfl (lv_at hl 0 rfl) ?_
        refine lv_iload_n S.1 S.2.1 dX9_pay_57 rfl (lv_at hl 1 rfl) ?_
        refine lv_bipush (v := 6) S.1 S.2.1 dX9_pay_58 (by decide) ?_
        obtain ⟨r12, hq12, hf⟩ := ed_b_e hf
        refine ed_kI (ed_rV S hK hM (c_X9_ofClient _ D cy B x1 6 ν11 r12 hq12) (cwV 2 S.2.2.2.2 (ed_gV ed_w4_113 ed_w4_115 ed_wp_25 ed_w1_10 ed_w4_116) rfl rfl rfl hd_X9_ofClient ⟨Nat.le_of_ble_eq_true rfl, Nat.le_of_ble_eq_true rfl⟩) (em_rc hK hM) rfl hl.1 rfl (Nat.le_of_ble_eq_true rfl) dX9_pay_60 ⟨Nat.zero_le _, Nat.zero_le _⟩) hS (fun H locs hM hS => ?_)
        obtain ⟨rfl, rfl⟩ := ed_so hf
        exact ed_ri S hr hlocks hM hS dX9_pay_63
      · replace hf := ed_in_ c6 hf
        refine lv_bipush (v := (-4)) S.1 S.2.1 dX9_pay_34 (by decide) ?_
        obtain ⟨rfl, rfl⟩ := ed_so hf
        exact ed_ri S hr hlocks hM hS dX9_pay_36
    · replace hf := ed_ip c4 hf
      refine lv_bipush (v := (-2)) S.1 S.2.1 dX9_pay_20 (by decide) ?_
      obtain ⟨rfl, rfl⟩ := ed_so hf
      exact ed_ri S hr hlocks hM hS dX9_pay_22
  · replace hf := ed_ip c2 hf
    refine lv_iconst (v := (-1)) S.1 S.2.1 dX9_pay_8 (by decide) ?_
    obtain ⟨rfl, rfl⟩ := ed_so hf
    exact ed_ri S hr hlocks hM hS dX9_pay_9
set_option maxHeartbeats 4000000 in
set_option maxRecDepth 100000 in
theorem c_X9_type (l : Launch) (D : va_G) (cy : Nat → ClassId) (B : Nat) (x1 : Int32) (ν : em_MM) (r : Int32) (ν' : em_MM) (hf : f_X9_type x1 ν = some (r, ν')) :
    Met l yX9_type wsX9_type rmX9_type (ed_pC D cy (em_P D cy B ν) [.ref (B + 0), .int x1]) (ed_qI (em_A B) (em_P D cy B ν') r) 0 0 (em_A B) := by
  refine Met.ofW (cc := cX9_type) (maxL := 2) (ret := (some .int)) (by decide) rfl ?_
  intro p e s m args below meth c s₁ B0 hml hv
  obtain ⟨rfl, hM, hK⟩ := hv
  have S : CallFix p m c cX9_type 2 s _ ed_ws RX9 := ⟨B0.exec, B0.bytes, hml, findClass_of_methodNamed B0.named, fun w hw => atoms_spec (ws := wsX9_type) B0.pre w (List.mem_cons_of_mem _ hw)⟩
  have hr := B0.returns
  have hlocks := B0.notSynchronized
  have hS : va_S (em_A B) s.heap s.heap [] := va_S.rf
  have hl := lv_entry ([.ref (B + 0), .int x1]) (n := 2) (Nat.le_of_ble_eq_true rfl)
  rw [lg_entry_eq]
  generalize (lg_sl ([.ref (B + 0), .int x1]) ++ List.replicate (2 - (lg_sl ([.ref (B + 0), .int x1])).length) Slot.unset).toArray = ls at hl ⊢
  have hl : lv_has ls 2 [(0, .ref (B + 0)), (1, .int x1)] := hl
  unfold f_X9_type at hf
  refine lv_aload_n S.1 S.2.1 dX9_type_0 rfl (lv_at hl 0 rfl) ?_
  refine em_get S ed_uX9 hK hM 7 (by decide) ed_w4_40 rfl rfl dX9_type_1 ?_
  refine lv_bipush (v := 40) S.1 S.2.1 dX9_type_4 (by decide) ?_
  refine lv_icmp_ne (tgt := 12) S.1 S.2.1 dX9_type_6 (by decide) (fun c1 => ?_) (fun c1 => ?_)
  · replace hf := ed_in_ c1 hf
    refine lv_aload_n S.1 S.2.1 dX9_type_12 rfl (lv_at hl 0 rfl) ?_
    refine em_get S ed_uX9 hK hM 6 (by decide) ed_w4_39 rfl rfl dX9_type_13 ?_
    refine lv_aload_n S.1 S.2.1 dX9_type_16 rfl (lv_at hl 0 rfl) ?_
    refine em_get S ed_uX9 hK hM 7 (by decide) ed_w4_40 rfl rfl dX9_type_17 ?_
    refine lv_iload_n S.1 S.2.1 dX9_type_20 rfl (lv_at hl 1 rfl) ?_
    obtain ⟨hx2, hf⟩ := ed_g_e hf
    refine em_ist S hK hM hS 5 (by decide) (em_e5 cy B) hx2 dX9_type_21 (fun H locs hM hS => ?_)
    obtain ⟨ν3, eν3, hf⟩ := ed_t_e hf
    have hM : em_P D cy B ν3 H := by rw [eν3]; exact hM
    refine lv_aload_n S.1 S.2.1 dX9_type_22 rfl (lv_at hl 0 rfl) ?_
    refine lv_dup S.1 S.2.1 dX9_type_23 rfl ?_
    refine em_get S ed_uX9 hK hM 7 (by decide) ed_w4_40 rfl rfl dX9_type_24 ?_
    refine lv_iconst (v := 1) S.1 S.2.1 dX9_type_27 (by decide) ?_
    refine lv_iadd S.1 S.2.1 dX9_type_28 ?_
    refine em_put S ed_uX9 hK hM hS 7 (by decide) ed_w4_40 rfl rfl rfl rfl (em_u7 cy B _ _) dX9_type_29 (fun H locs hM hS => ?_)
    obtain ⟨ν4, eν4, hf⟩ := ed_t_e hf
    have hM : em_P D cy B ν4 H := by rw [eν4]; exact hM
    refine lv_aload_n S.1 S.2.1 dX9_type_32 rfl (lv_at hl 0 rfl) ?_
    refine em_get S ed_uX9 hK hM 7 (by decide) ed_w4_40 rfl rfl dX9_type_33 ?_
    obtain ⟨rfl, rfl⟩ := ed_so hf
    exact ed_ri S hr hlocks hM hS dX9_type_36
  · replace hf := ed_ip c1 hf
    refine lv_bipush (v := (-3)) S.1 S.2.1 dX9_type_9 (by decide) ?_
    obtain ⟨rfl, rfl⟩ := ed_so hf
    exact ed_ri S hr hlocks hM hS dX9_type_11
set_option maxHeartbeats 4000000 in
set_option maxRecDepth 100000 in
theorem c_X9_clearText (l : Launch) (D : va_G) (cy : Nat → ClassId) (B : Nat) (ν : em_MM) (r : Int32) (ν' : em_MM) (hf : f_X9_clearText ν = some (r, ν')) :
    Met l yX9_clearText wsX9_clearText rmX9_clearText (ed_pC D cy (em_P D cy B ν) [.ref (B + 0)]) (ed_qI (em_A B) (em_P D cy B ν') r) 0 0 (em_A B) := by
  refine Met.ofW (cc := cX9_clearText) (maxL := 2) (ret := (some .int)) (by decide) rfl ?_
  intro p e s m args below meth c s₁ B0 hml hv
  obtain ⟨rfl, hM, hK⟩ := hv
  have S : CallFix p m c cX9_clearText 2 s _ ed_ws RX9 := ⟨B0.exec, B0.bytes, hml, findClass_of_methodNamed B0.named, fun w hw => atoms_spec (ws := wsX9_clearText) B0.pre w (List.mem_cons_of_mem _ hw)⟩
  have hr := B0.returns
  have hlocks := B0.notSynchronized
  have hS : va_S (em_A B) s.heap s.heap [] := va_S.rf
  have hl := lv_entry ([.ref (B + 0)]) (n := 2) (Nat.le_of_ble_eq_true rfl)
  rw [lg_entry_eq]
  generalize (lg_sl ([.ref (B + 0)]) ++ List.replicate (2 - (lg_sl ([.ref (B + 0)])).length) Slot.unset).toArray = ls at hl ⊢
  have hl : lv_has ls 2 [(0, .ref (B + 0))] := hl
  unfold f_X9_clearText at hf
  refine lv_aload_n S.1 S.2.1 dX9_clearText_0 rfl (lv_at hl 0 rfl) ?_
  refine em_get S ed_uX9 hK hM 7 (by decide) ed_w4_40 rfl rfl dX9_clearText_1 ?_
  refine lv_istore_n (lv' := [(1, .int (ν 0 7)), (0, .ref (B + 0))]) S.1 S.2.1 dX9_clearText_4 rfl hl (by decide) rfl (fun ls hl => ?_)
  refine lv_aload_n S.1 S.2.1 dX9_clearText_5 rfl (lv_at hl 1 rfl) ?_
  refine lv_iconst (v := 0) S.1 S.2.1 dX9_clearText_6 (by decide) ?_
  refine em_put S ed_uX9 hK hM hS 7 (by decide) ed_w4_40 rfl rfl rfl rfl (em_u7 cy B _ _) dX9_clearText_7 (fun H locs hM hS => ?_)
  obtain ⟨ν1, eν1, hf⟩ := ed_t_e hf
  have hM : em_P D cy B ν1 H := by rw [eν1]; exact hM
  refine lv_iload_n S.1 S.2.1 dX9_clearText_10 rfl (lv_at hl 0 rfl) ?_
  obtain ⟨rfl, rfl⟩ := ed_so hf
  exact ed_ri S hr hlocks hM hS dX9_clearText_11
set_option maxHeartbeats 4000000 in
set_option maxRecDepth 100000 in
theorem c_X9_sign (l : Launch) (D : va_G) (cy : Nat → ClassId) (B : Nat) (x1 : Int32) (ν : em_MM) (r : Int32) (ν' : em_MM) (hf : f_X9_sign x1 ν = some (r, ν')) :
    Met l yX9_sign wsX9_sign rmX9_sign (ed_pC D cy (em_P D cy B ν) [.ref (B + 0), .int x1]) (ed_qI (em_A B) (em_P D cy B ν') r) 0 0 (em_A B) := by
  refine Met.ofW (cc := cX9_sign) (maxL := 3) (ret := (some .boolean)) (by decide) rfl ?_
  intro p e s m args below meth c s₁ B0 hml hv
  obtain ⟨rfl, hM, hK⟩ := hv
  have S : CallFix p m c cX9_sign 3 s _ ed_ws RX9 := ⟨B0.exec, B0.bytes, hml, findClass_of_methodNamed B0.named, fun w hw => atoms_spec (ws := wsX9_sign) B0.pre w (List.mem_cons_of_mem _ hw)⟩
  have hr := B0.returns
  have hlocks := B0.notSynchronized
  have hS : va_S (em_A B) s.heap s.heap [] := va_S.rf
  have hl := lv_entry ([.ref (B + 0), .int x1]) (n := 3) (Nat.le_of_ble_eq_true rfl)
  rw [lg_entry_eq]
  generalize (lg_sl ([.ref (B + 0), .int x1]) ++ List.replicate (3 - (lg_sl ([.ref (B + 0), .int x1])).length) Slot.unset).toArray = ls at hl ⊢
  have hl : lv_has ls 3 [(0, .ref (B + 0)), (1, .int x1)] := hl
  unfold f_X9_sign at hf
  refine lv_aload_n S.1 S.2.1 dX9_sign_0 rfl (lv_at hl 0 rfl) ?_
  refine em_get S ed_uX9 hK hM 8 (by decide) ed_w4_41 rfl rfl dX9_sign_1 ?_
  refine lv_aload_n S.1 S.2.1 dX9_sign_4 rfl (lv_at hl 0 rfl) ?_
  refine em_get S ed_uX9 hK hM 7 (by decide) ed_w4_40 rfl rfl dX9_sign_5 ?_
  refine lv_icmp_ge (tgt := 28) S.1 S.2.1 dX9_sign_8 (by decide) (fun c1 => ?_) (fun c1 => ?_)
  · replace hf := ed_ip c1 hf
    refine lv_iconst (v := 0) S.1 S.2.1 dX9_sign_28 (by decide) ?_
    refine lv_istore_n (lv' := [(2, .int 0), (0, .ref (B + 0)), (1, .int x1)]) S.1 S.2.1 dX9_sign_29 rfl hl (by decide) rfl (fun ls hl => ?_)
    refine lv_aload_n S.1 S.2.1 dX9_sign_30 rfl (lv_at hl 1 rfl) ?_
    refine lv_dup S.1 S.2.1 dX9_sign_31 rfl ?_
    refine em_get S ed_uX9 hK hM 8 (by decide) ed_w4_41 rfl rfl dX9_sign_32 ?_
    refine lv_iload_n S.1 S.2.1 dX9_sign_35 rfl (lv_at hl 0 rfl) ?_
    refine lv_if_eq (tgt := 43) S.1 S.2.1 dX9_sign_36 (by decide) (fun _ => ?_) (fun c => absurd c (by decide))
    refine lv_iconst (v := 0) S.1 S.2.1 dX9_sign_43 (by decide) ?_
    refine lv_iadd S.1 S.2.1 dX9_sign_44 ?_
    refine em_put S ed_uX9 hK hM hS 8 (by decide) ed_w4_41 rfl rfl rfl rfl (em_u8 cy B _ _) dX9_sign_45 (fun H locs hM hS => ?_)
    obtain ⟨ν2, eν2, hf⟩ := ed_t_e hf
    have hM : em_P D cy B ν2 H := by rw [eν2]; exact hM
    refine lv_iload_n S.1 S.2.1 dX9_sign_48 rfl (lv_at hl 0 rfl) ?_
    obtain ⟨rfl, rfl⟩ := ed_so hf
    exact ed_rz S hr hlocks rfl hM hS dX9_sign_49
  · replace hf := ed_in_ c1 hf
    refine lv_aload_n S.1 S.2.1 dX9_sign_11 rfl (lv_at hl 0 rfl) ?_
    refine em_get S ed_uX9 hK hM 6 (by decide) ed_w4_39 rfl rfl dX9_sign_12 ?_
    refine lv_aload_n S.1 S.2.1 dX9_sign_15 rfl (lv_at hl 0 rfl) ?_
    refine em_get S ed_uX9 hK hM 8 (by decide) ed_w4_41 rfl rfl dX9_sign_16 ?_
    obtain ⟨hx3, hf⟩ := ed_g_e hf
    refine em_ild S hK hM 5 (by decide) (em_e5 cy B _) hx3 dX9_sign_19 ?_
    refine lv_iload_n S.1 S.2.1 dX9_sign_20 rfl (lv_at hl 1 rfl) ?_
    refine lv_icmp_ne (tgt := 28) S.1 S.2.1 dX9_sign_21 (by decide) (fun c4 => ?_) (fun c4 => ?_)
    · replace hf := ed_in_ c4 hf
      refine lv_iconst (v := 0) S.1 S.2.1 dX9_sign_28 (by decide) ?_
      refine lv_istore_n (lv' := [(2, .int 0), (0, .ref (B + 0)), (1, .int x1)]) S.1 S.2.1 dX9_sign_29 rfl hl (by decide) rfl (fun ls hl => ?_)
      refine lv_aload_n S.1 S.2.1 dX9_sign_30 rfl (lv_at hl 1 rfl) ?_
      refine lv_dup S.1 S.2.1 dX9_sign_31 rfl ?_
      refine em_get S ed_uX9 hK hM 8 (by decide) ed_w4_41 rfl rfl dX9_sign_32 ?_
      refine lv_iload_n S.1 S.2.1 dX9_sign_35 rfl (lv_at hl 0 rfl) ?_
      refine lv_if_eq (tgt := 43) S.1 S.2.1 dX9_sign_36 (by decide) (fun _ => ?_) (fun c => absurd c (by decide))
      refine lv_iconst (v := 0) S.1 S.2.1 dX9_sign_43 (by decide) ?_
      refine lv_iadd S.1 S.2.1 dX9_sign_44 ?_
      refine em_put S ed_uX9 hK hM hS 8 (by decide) ed_w4_41 rfl rfl rfl rfl (em_u8 cy B _ _) dX9_sign_45 (fun H locs hM hS => ?_)
      obtain ⟨ν5, eν5, hf⟩ := ed_t_e hf
      have hM : em_P D cy B ν5 H := by rw [eν5]; exact hM
      refine lv_iload_n S.1 S.2.1 dX9_sign_48 rfl (lv_at hl 0 rfl) ?_
      obtain ⟨rfl, rfl⟩ := ed_so hf
      exact ed_rz S hr hlocks rfl hM hS dX9_sign_49
    · replace hf := ed_ip c4 hf
      refine lv_iconst (v := 1) S.1 S.2.1 dX9_sign_24 (by decide) ?_
      refine lv_goto (tgt := 29) S.1 S.2.1 dX9_sign_25 (by decide) ?_
      refine lv_istore_n (lv' := [(2, .int 1), (0, .ref (B + 0)), (1, .int x1)]) S.1 S.2.1 dX9_sign_29 rfl hl (by decide) rfl (fun ls hl => ?_)
      refine lv_aload_n S.1 S.2.1 dX9_sign_30 rfl (lv_at hl 1 rfl) ?_
      refine lv_dup S.1 S.2.1 dX9_sign_31 rfl ?_
      refine em_get S ed_uX9 hK hM 8 (by decide) ed_w4_41 rfl rfl dX9_sign_32 ?_
      refine lv_iload_n S.1 S.2.1 dX9_sign_35 rfl (lv_at hl 0 rfl) ?_
      refine lv_if_eq (tgt := 43) S.1 S.2.1 dX9_sign_36 (by decide) (fun c => absurd c (by decide)) (fun _ => ?_)
      refine lv_iconst (v := 1) S.1 S.2.1 dX9_sign_39 (by decide) ?_
      refine lv_goto (tgt := 44) S.1 S.2.1 dX9_sign_40 (by decide) ?_
      refine lv_iadd S.1 S.2.1 dX9_sign_44 ?_
      refine em_put S ed_uX9 hK hM hS 8 (by decide) ed_w4_41 rfl rfl rfl rfl (em_u8 cy B _ _) dX9_sign_45 (fun H locs hM hS => ?_)
      obtain ⟨ν6, eν6, hf⟩ := ed_t_e hf
      have hM : em_P D cy B ν6 H := by rw [eν6]; exact hM
      refine lv_iload_n S.1 S.2.1 dX9_sign_48 rfl (lv_at hl 0 rfl) ?_
      obtain ⟨rfl, rfl⟩ := ed_so hf
      exact ed_rz S hr hlocks rfl hM hS dX9_sign_49
set_option maxHeartbeats 4000000 in
set_option maxRecDepth 100000 in
theorem c_X9_digitTo (l : Launch) (D : va_G) (cy : Nat → ClassId) (B : Nat) (x1 : Int32) (ν : em_MM) (r : Int32) (ν' : em_MM) (hf : f_X9_digitTo x1 ν = some (r, ν')) :
    Met l yX9_digitTo wsX9_digitTo rmX9_digitTo (ed_pC D cy (em_P D cy B ν) [.ref (B + 0), .int x1]) (ed_qI (em_A B) (em_P D cy B ν') r) 0 0 (em_A B) := by
  refine Met.ofW (cc := cX9_digitTo) (maxL := 3) (ret := (some .boolean)) (by decide) rfl ?_
  intro p e s m args below meth c s₁ B0 hml hv
  obtain ⟨rfl, hM, hK⟩ := hv
  have S : CallFix p m c cX9_digitTo 3 s _ ed_ws RX9 := ⟨B0.exec, B0.bytes, hml, findClass_of_methodNamed B0.named, fun w hw => atoms_spec (ws := wsX9_digitTo) B0.pre w (List.mem_cons_of_mem _ hw)⟩
  have hr := B0.returns
  have hlocks := B0.notSynchronized
  have hS : va_S (em_A B) s.heap s.heap [] := va_S.rf
  have hl := lv_entry ([.ref (B + 0), .int x1]) (n := 3) (Nat.le_of_ble_eq_true rfl)
  rw [lg_entry_eq]
  generalize (lg_sl ([.ref (B + 0), .int x1]) ++ List.replicate (3 - (lg_sl ([.ref (B + 0), .int x1])).length) Slot.unset).toArray = ls at hl ⊢
  have hl : lv_has ls 3 [(0, .ref (B + 0)), (1, .int x1)] := hl
  unfold f_X9_digitTo at hf
  refine lv_aload_n S.1 S.2.1 dX9_digitTo_0 rfl (lv_at hl 0 rfl) ?_
  refine lv_aload_n S.1 S.2.1 dX9_digitTo_1 rfl (lv_at hl 0 rfl) ?_
  refine em_get S ed_uX9 hK hM 8 (by decide) ed_w4_41 rfl rfl dX9_digitTo_2 ?_
  refine lv_aload_n S.1 S.2.1 dX9_digitTo_5 rfl (lv_at hl 0 rfl) ?_
  refine em_get S ed_uX9 hK hM 7 (by decide) ed_w4_40 rfl rfl dX9_digitTo_6 ?_
  refine lv_icmp_ge (tgt := 27) S.1 S.2.1 dX9_digitTo_9 (by decide) (fun c1 => ?_) (fun c1 => ?_)
  · replace hf := ed_ip c1 hf
    refine lv_iconst (v := (-1)) S.1 S.2.1 dX9_digitTo_27 (by decide) ?_
    refine em_put S ed_uX9 hK hM hS 10 (by decide) ed_w4_43 rfl rfl rfl rfl (em_u10 cy B _ _) dX9_digitTo_28 (fun H locs hM hS => ?_)
    obtain ⟨ν2, eν2, hf⟩ := ed_t_e hf
    have hM : em_P D cy B ν2 H := by rw [eν2]; exact hM
    refine lv_aload_n S.1 S.2.1 dX9_digitTo_31 rfl (lv_at hl 0 rfl) ?_
    refine em_get S ed_uX9 hK hM 10 (by decide) ed_w4_43 rfl rfl dX9_digitTo_32 ?_
    refine lv_iconst (v := 0) S.1 S.2.1 dX9_digitTo_35 (by decide) ?_
    refine lv_iload_n S.1 S.2.1 dX9_digitTo_36 rfl (lv_at hl 1 rfl) ?_
    refine ed_kI (ed_rS S hK hM (c_X9_in _ D cy (em_P D cy B ν2) (em_A B) (ν2 0 10) 0 x1) (va_cwS 3 S.2.2.2.2 (ed_gS ed_w4_71 ed_w4_72 ed_w1_10 ed_w4_73) rfl rfl rfl hd_X9_in.2 ⟨Nat.le_of_ble_eq_true rfl, Nat.le_of_ble_eq_true rfl⟩) rfl hl.1 rfl (Nat.le_of_ble_eq_true rfl) dX9_digitTo_37 ⟨Nat.zero_le _, Nat.zero_le _⟩) hS (fun H locs hM hS => ?_)
    refine lv_istore_n (lv' := [(2, .int (f_X9_in (ν2 0 10) 0 x1)), (0, .ref (B + 0)), (1, .int x1)]) S.1 S.2.1 dX9_digitTo_40 rfl hl (by decide) rfl (fun ls hl => ?_)
    refine lv_aload_n S.1 S.2.1 dX9_digitTo_41 rfl (lv_at hl 1 rfl) ?_
    refine lv_dup S.1 S.2.1 dX9_digitTo_42 rfl ?_
    refine em_get S ed_uX9 hK hM 8 (by decide) ed_w4_41 rfl rfl dX9_digitTo_43 ?_
    refine lv_iload_n S.1 S.2.1 dX9_digitTo_46 rfl (lv_at hl 0 rfl) ?_
    refine lv_if_eq (tgt := 54) S.1 S.2.1 dX9_digitTo_47 (by decide) (fun c4 => ?_) (fun c4 => ?_)
    · replace hf := ed_ip c4 hf
      refine lv_iconst (v := 0) S.1 S.2.1 dX9_digitTo_54 (by decide) ?_
      refine lv_iadd S.1 S.2.1 dX9_digitTo_55 ?_
      refine em_put S ed_uX9 hK hM hS 8 (by decide) ed_w4_41 rfl rfl rfl rfl (em_u8 cy B _ _) dX9_digitTo_56 (fun H locs hM hS => ?_)
      obtain ⟨ν5, eν5, hf⟩ := ed_t_e hf
      have hM : em_P D cy B ν5 H := by rw [eν5]; exact hM
      refine lv_iload_n S.1 S.2.1 dX9_digitTo_59 rfl (lv_at hl 0 rfl) ?_
      obtain ⟨hb6, hf⟩ := ed_g_e hf
      obtain ⟨rfl, rfl⟩ := ed_so hf
      exact ed_rz S hr hlocks (ed_bo_n hb6).1 hM hS dX9_digitTo_60
    · replace hf := ed_in_ c4 hf
      refine lv_iconst (v := 1) S.1 S.2.1 dX9_digitTo_50 (by decide) ?_
      refine lv_goto (tgt := 55) S.1 S.2.1 dX9_digitTo_51 (by decide) ?_
      refine lv_iadd S.1 S.2.1 dX9_digitTo_55 ?_
      refine em_put S ed_uX9 hK hM hS 8 (by decide) ed_w4_41 rfl rfl rfl rfl (em_u8 cy B _ _) dX9_digitTo_56 (fun H locs hM hS => ?_)
      obtain ⟨ν7, eν7, hf⟩ := ed_t_e hf
      have hM : em_P D cy B ν7 H := by rw [eν7]; exact hM
      refine lv_iload_n S.1 S.2.1 dX9_digitTo_59 rfl (lv_at hl 0 rfl) ?_
      obtain ⟨hb8, hf⟩ := ed_g_e hf
      obtain ⟨rfl, rfl⟩ := ed_so hf
      exact ed_rz S hr hlocks (ed_bo_n hb8).1 hM hS dX9_digitTo_60
  · replace hf := ed_in_ c1 hf
    refine lv_aload_n S.1 S.2.1 dX9_digitTo_12 rfl (lv_at hl 0 rfl) ?_
    refine em_get S ed_uX9 hK hM 6 (by decide) ed_w4_39 rfl rfl dX9_digitTo_13 ?_
    refine lv_aload_n S.1 S.2.1 dX9_digitTo_16 rfl (lv_at hl 0 rfl) ?_
    refine em_get S ed_uX9 hK hM 8 (by decide) ed_w4_41 rfl rfl dX9_digitTo_17 ?_
    obtain ⟨hx9, hf⟩ := ed_g_e hf
    refine em_ild S hK hM 5 (by decide) (em_e5 cy B _) hx9 dX9_digitTo_20 ?_
    refine lv_bipush (v := 48) S.1 S.2.1 dX9_digitTo_21 (by decide) ?_
    refine lv_isub S.1 S.2.1 dX9_digitTo_23 ?_
    refine lv_goto (tgt := 28) S.1 S.2.1 dX9_digitTo_24 (by decide) ?_
    refine em_put S ed_uX9 hK hM hS 10 (by decide) ed_w4_43 rfl rfl rfl rfl (em_u10 cy B _ _) dX9_digitTo_28 (fun H locs hM hS => ?_)
    obtain ⟨ν10, eν10, hf⟩ := ed_t_e hf
    have hM : em_P D cy B ν10 H := by rw [eν10]; exact hM
    refine lv_aload_n S.1 S.2.1 dX9_digitTo_31 rfl (lv_at hl 0 rfl) ?_
    refine em_get S ed_uX9 hK hM 10 (by decide) ed_w4_43 rfl rfl dX9_digitTo_32 ?_
    refine lv_iconst (v := 0) S.1 S.2.1 dX9_digitTo_35 (by decide) ?_
    refine lv_iload_n S.1 S.2.1 dX9_digitTo_36 rfl (lv_at hl 1 rfl) ?_
    refine ed_kI (ed_rS S hK hM (c_X9_in _ D cy (em_P D cy B ν10) (em_A B) (ν10 0 10) 0 x1) (va_cwS 3 S.2.2.2.2 (ed_gS ed_w4_71 ed_w4_72 ed_w1_10 ed_w4_73) rfl rfl rfl hd_X9_in.2 ⟨Nat.le_of_ble_eq_true rfl, Nat.le_of_ble_eq_true rfl⟩) rfl hl.1 rfl (Nat.le_of_ble_eq_true rfl) dX9_digitTo_37 ⟨Nat.zero_le _, Nat.zero_le _⟩) hS (fun H locs hM hS => ?_)
    obtain ⟨y12, ey12, hf⟩ := ed_t_e hf
    refine ed_nm ey12 ?_
    refine lv_istore_n (lv' := [(2, .int y12), (0, .ref (B + 0)), (1, .int x1)]) S.1 S.2.1 dX9_digitTo_40 rfl hl (by decide) rfl (fun ls hl => ?_)
    refine lv_aload_n S.1 S.2.1 dX9_digitTo_41 rfl (lv_at hl 1 rfl) ?_
    refine lv_dup S.1 S.2.1 dX9_digitTo_42 rfl ?_
    refine em_get S ed_uX9 hK hM 8 (by decide) ed_w4_41 rfl rfl dX9_digitTo_43 ?_
    refine lv_iload_n S.1 S.2.1 dX9_digitTo_46 rfl (lv_at hl 0 rfl) ?_
    refine lv_if_eq (tgt := 54) S.1 S.2.1 dX9_digitTo_47 (by decide) (fun c13 => ?_) (fun c13 => ?_)
    · replace hf := ed_ip c13 hf
      refine lv_iconst (v := 0) S.1 S.2.1 dX9_digitTo_54 (by decide) ?_
      refine lv_iadd S.1 S.2.1 dX9_digitTo_55 ?_
      refine em_put S ed_uX9 hK hM hS 8 (by decide) ed_w4_41 rfl rfl rfl rfl (em_u8 cy B _ _) dX9_digitTo_56 (fun H locs hM hS => ?_)
      obtain ⟨ν14, eν14, hf⟩ := ed_t_e hf
      have hM : em_P D cy B ν14 H := by rw [eν14]; exact hM
      refine lv_iload_n S.1 S.2.1 dX9_digitTo_59 rfl (lv_at hl 0 rfl) ?_
      obtain ⟨hb15, hf⟩ := ed_g_e hf
      obtain ⟨rfl, rfl⟩ := ed_so hf
      exact ed_rz S hr hlocks (ed_bo_n hb15).1 hM hS dX9_digitTo_60
    · replace hf := ed_in_ c13 hf
      refine lv_iconst (v := 1) S.1 S.2.1 dX9_digitTo_50 (by decide) ?_
      refine lv_goto (tgt := 55) S.1 S.2.1 dX9_digitTo_51 (by decide) ?_
      refine lv_iadd S.1 S.2.1 dX9_digitTo_55 ?_
      refine em_put S ed_uX9 hK hM hS 8 (by decide) ed_w4_41 rfl rfl rfl rfl (em_u8 cy B _ _) dX9_digitTo_56 (fun H locs hM hS => ?_)
      obtain ⟨ν16, eν16, hf⟩ := ed_t_e hf
      have hM : em_P D cy B ν16 H := by rw [eν16]; exact hM
      refine lv_iload_n S.1 S.2.1 dX9_digitTo_59 rfl (lv_at hl 0 rfl) ?_
      obtain ⟨hb17, hf⟩ := ed_g_e hf
      obtain ⟨rfl, rfl⟩ := ed_so hf
      exact ed_rz S hr hlocks (ed_bo_n hb17).1 hM hS dX9_digitTo_60
set_option maxHeartbeats 4000000 in
set_option maxRecDepth 100000 in
theorem w_X9_readPersons_28 {p : Program} {l : Launch} {e : Env} {s : State} {m : MethodId} {args : Array Value} {below : List Frame} {meth : Method} {c : Code} {D : va_G} {cy : Nat → ClassId} {B : Nat} (S : CallFix p m c cX9_readPersons 5 s args ed_ws RX9) (hr : meth.sig.returnType = (some .boolean)) (hlocks : meth.locks = false) (hK : ed_K D cy s) (r : Int32) (ν' : em_MM) (k9 : Int32 → em_MM → Option (Int32 × em_MM)) (hk9 : ∀ (x1 : Int32) (ν : em_MM), k9 x1 ν = some (r, ν') → ∀ (H : Heap) (locs : List Loc) (ls : Array Slot), em_P D cy B ν H → va_S (em_A B) s.heap H locs → lv_has ls 5 [(0, .ref (B + 0)), (1, .int x1)] → W p l e (headSpec wsX9_readPersons rmX9_readPersons).room s m args below meth c H locs 0 0 (MQ below (ed_qI (em_A B) (em_P D cy B ν') r) args s 0 0 (em_A B)) (F0 m 9 ls [])) :
    ∀ (n : Nat), ∀ (x2 x3 x4 : Int32) (ν : em_MM), f_X9_readPersons_28 k9 n x2 x3 x4 ν = some (r, ν') → ∀ (H : Heap) (locs : List Loc) (ls : Array Slot), em_P D cy B ν H → va_S (em_A B) s.heap H locs → lv_has ls 5 [(0, .ref (B + 0)), (2, .int x2), (3, .int x3), (4, .int x4)] → W p l e (headSpec wsX9_readPersons rmX9_readPersons).room s m args below meth c H locs 0 0 (MQ below (ed_qI (em_A B) (em_P D cy B ν') r) args s 0 0 (em_A B)) (F0 m 28 ls []) := by
  intro n
  induction n with
  | zero => intro x2 x3 x4 ν hf; rw [f_X9_readPersons_28] at hf; cases hf
  | succ n ih =>
    intro x2 x3 x4 ν hf H locs ls hM hS hl
    rw [f_X9_readPersons_28] at hf
    refine lv_iload S.1 S.2.1 dX9_readPersons_28 (lv_at hl 3 rfl) ?_
    refine lv_aload_n S.1 S.2.1 dX9_readPersons_30 rfl (lv_at hl 0 rfl) ?_
    refine em_get S ed_uX9 hK hM 9 (by decide) ed_w4_42 rfl rfl dX9_readPersons_31 ?_
    refine lv_iconst (v := 1) S.1 S.2.1 dX9_readPersons_34 (by decide) ?_
    obtain ⟨hx5, hf⟩ := ed_g_e hf
    refine em_ild S hK hM 6 (by decide) (em_e6 cy B _) hx5 dX9_readPersons_35 ?_
    refine lv_icmp_ge (tgt := 71) S.1 S.2.1 dX9_readPersons_36 (by decide) (fun c6 => ?_) (fun c6 => ?_)
    · replace hf := ed_ip c6 hf
      refine lv_iload_n S.1 S.2.1 dX9_readPersons_71 rfl (lv_at hl 2 rfl) ?_
      refine lv_if_ne (tgt := 82) S.1 S.2.1 dX9_readPersons_72 (by decide) (fun c7 => ?_) (fun c7 => ?_)
      · replace hf := ed_in_ c7 hf
        refine lv_aload_n S.1 S.2.1 dX9_readPersons_82 rfl (lv_at hl 0 rfl) ?_
        refine em_get S ed_uX9 hK hM 9 (by decide) ed_w4_42 rfl rfl dX9_readPersons_83 ?_
        refine lv_iconst (v := 2) S.1 S.2.1 dX9_readPersons_86 (by decide) ?_
        refine lv_aload_n S.1 S.2.1 dX9_readPersons_87 rfl (lv_at hl 0 rfl) ?_
        refine em_get S ed_uX9 hK hM 9 (by decide) ed_w4_42 rfl rfl dX9_readPersons_88 ?_
        refine lv_iconst (v := 1) S.1 S.2.1 dX9_readPersons_91 (by decide) ?_
        obtain ⟨hx8, hf⟩ := ed_g_e hf
        refine em_ild S hK hM 6 (by decide) (em_e6 cy B _) hx8 dX9_readPersons_92 ?_
        refine lv_iadd S.1 S.2.1 dX9_readPersons_93 ?_
        refine lv_aload_n S.1 S.2.1 dX9_readPersons_94 rfl (lv_at hl 0 rfl) ?_
        refine em_get S ed_uX9 hK hM 10 (by decide) ed_w4_43 rfl rfl dX9_readPersons_95 ?_
        obtain ⟨hx9, hf⟩ := ed_g_e hf
        refine em_ist S hK hM hS 6 (by decide) (em_e6 cy B) hx9 dX9_readPersons_98 (fun H locs hM hS => ?_)
        obtain ⟨ν10, eν10, hf⟩ := ed_t_e hf
        have hM : em_P D cy B ν10 H := by rw [eν10]; exact hM
        refine lv_aload_n S.1 S.2.1 dX9_readPersons_99 rfl (lv_at hl 0 rfl) ?_
        refine em_get S ed_uX9 hK hM 9 (by decide) ed_w4_42 rfl rfl dX9_readPersons_100 ?_
        refine lv_iconst (v := 1) S.1 S.2.1 dX9_readPersons_103 (by decide) ?_
        refine lv_dup2_11 S.1 S.2.1 dX9_readPersons_104 rfl rfl ?_
        obtain ⟨hx11, hf⟩ := ed_g_e hf
        refine em_ild S hK hM 6 (by decide) (em_e6 cy B _) hx11 dX9_readPersons_105 ?_
        refine lv_iconst (v := 1) S.1 S.2.1 dX9_readPersons_106 (by decide) ?_
        refine lv_iadd S.1 S.2.1 dX9_readPersons_107 ?_
        obtain ⟨hx12, hf⟩ := ed_g_e hf
        refine em_ist S hK hM hS 6 (by decide) (em_e6 cy B) hx12 dX9_readPersons_108 (fun H locs hM hS => ?_)
        obtain ⟨ν13, eν13, hf⟩ := ed_t_e hf
        have hM : em_P D cy B ν13 H := by rw [eν13]; exact hM
        refine lv_aload_n S.1 S.2.1 dX9_readPersons_109 rfl (lv_at hl 0 rfl) ?_
        refine em_get S ed_uX9 hK hM 9 (by decide) ed_w4_42 rfl rfl dX9_readPersons_110 ?_
        refine lv_iconst (v := 1) S.1 S.2.1 dX9_readPersons_113 (by decide) ?_
        obtain ⟨hx14, hf⟩ := ed_g_e hf
        refine em_ild S hK hM 6 (by decide) (em_e6 cy B _) hx14 dX9_readPersons_114 ?_
        refine lv_iconst (v := 3) S.1 S.2.1 dX9_readPersons_115 (by decide) ?_
        refine lv_icmp_ge (tgt := 132) S.1 S.2.1 dX9_readPersons_116 (by decide) (fun c15 => ?_) (fun c15 => ?_)
        · replace hf := ed_ip c15 hf
          refine lv_iconst (v := 0) S.1 S.2.1 dX9_readPersons_132 (by decide) ?_
          refine lv_istore_n (lv' := [(1, .int 0), (0, .ref (B + 0)), (2, .int x2), (3, .int x3), (4, .int x4)]) S.1 S.2.1 dX9_readPersons_133 rfl hl (by decide) rfl (fun ls hl => ?_)
          refine lv_goto (tgt := 9) S.1 S.2.1 dX9_readPersons_134 (by decide) ?_
          exact hk9 0 ν13 hf _ _ _ hM hS (lv_sub hl [1, 0] rfl)
        · replace hf := ed_in_ c15 hf
          refine lv_aload_n S.1 S.2.1 dX9_readPersons_119 rfl (lv_at hl 0 rfl) ?_
          refine lv_bipush (v := 44) S.1 S.2.1 dX9_readPersons_120 (by decide) ?_
          obtain ⟨r16, ν16, hq16, hf⟩ := ed_b2_e hf
          refine ed_kI (ed_rV S hK hM (c_X9_sign _ D cy B 44 ν13 r16 ν16 hq16) (cwV 1 S.2.2.2.2 (ed_gV ed_w4_137 ed_w4_139 ed_wp_28 ed_w1_10 ed_w4_140) rfl rfl rfl hd_X9_sign ⟨Nat.le_of_ble_eq_true rfl, Nat.le_of_ble_eq_true rfl⟩) (em_rc hK hM) rfl hl.1 rfl (Nat.le_of_ble_eq_true rfl) dX9_readPersons_122 ⟨Nat.zero_le _, Nat.zero_le _⟩) hS (fun H locs hM hS => ?_)
          refine lv_if_eq (tgt := 132) S.1 S.2.1 dX9_readPersons_125 (by decide) (fun c17 => ?_) (fun c17 => ?_)
          · replace hf := ed_ip c17 hf
            refine lv_iconst (v := 0) S.1 S.2.1 dX9_readPersons_132 (by decide) ?_
            refine lv_istore_n (lv' := [(1, .int 0), (0, .ref (B + 0)), (2, .int x2), (3, .int x3), (4, .int x4)]) S.1 S.2.1 dX9_readPersons_133 rfl hl (by decide) rfl (fun ls hl => ?_)
            refine lv_goto (tgt := 9) S.1 S.2.1 dX9_readPersons_134 (by decide) ?_
            exact hk9 0 ν16 hf _ _ _ hM hS (lv_sub hl [1, 0] rfl)
          · replace hf := ed_in_ c17 hf
            refine lv_iconst (v := 1) S.1 S.2.1 dX9_readPersons_128 (by decide) ?_
            refine lv_goto (tgt := 133) S.1 S.2.1 dX9_readPersons_129 (by decide) ?_
            refine lv_istore_n (lv' := [(1, .int 1), (0, .ref (B + 0)), (2, .int x2), (3, .int x3), (4, .int x4)]) S.1 S.2.1 dX9_readPersons_133 rfl hl (by decide) rfl (fun ls hl => ?_)
            refine lv_goto (tgt := 9) S.1 S.2.1 dX9_readPersons_134 (by decide) ?_
            exact hk9 1 ν16 hf _ _ _ hM hS (lv_sub hl [1, 0] rfl)
      · replace hf := ed_ip c7 hf
        refine lv_aload_n S.1 S.2.1 dX9_readPersons_75 rfl (lv_at hl 0 rfl) ?_
        refine lv_iload_n S.1 S.2.1 dX9_readPersons_76 rfl (lv_at hl 1 rfl) ?_
        refine em_put S ed_uX9 hK hM hS 8 (by decide) ed_w4_41 rfl rfl rfl rfl (em_u8 cy B _ _) dX9_readPersons_77 (fun H locs hM hS => ?_)
        obtain ⟨ν18, eν18, hf⟩ := ed_t_e hf
        have hM : em_P D cy B ν18 H := by rw [eν18]; exact hM
        refine lv_iconst (v := 0) S.1 S.2.1 dX9_readPersons_80 (by decide) ?_
        obtain ⟨rfl, rfl⟩ := ed_so hf
        exact ed_rz S hr hlocks rfl hM hS dX9_readPersons_81
    · replace hf := ed_in_ c6 hf
      refine lv_iload_n S.1 S.2.1 dX9_readPersons_39 rfl (lv_at hl 2 rfl) ?_
      refine lv_if_eq (tgt := 63) S.1 S.2.1 dX9_readPersons_40 (by decide) (fun c19 => ?_) (fun c19 => ?_)
      · replace hf := ed_ip c19 hf
        refine lv_iconst (v := 0) S.1 S.2.1 dX9_readPersons_63 (by decide) ?_
        refine lv_istore_n (lv' := [(3, .int 0), (0, .ref (B + 0)), (2, .int x2), (4, .int x4)]) S.1 S.2.1 dX9_readPersons_64 rfl hl (by decide) rfl (fun ls hl => ?_)
        refine lv_iinc (v := x4 + 1) (lv' := [(4, .int (x4 + 1)), (3, .int 0), (0, .ref (B + 0)), (2, .int x2)]) S.1 S.2.1 dX9_readPersons_65 hl (k := 3) rfl rfl (by decide) rfl (fun ls hl => ?_)
        refine lv_goto (tgt := 28) S.1 S.2.1 dX9_readPersons_68 (by decide) ?_
        exact ih x2 0 (x4 + 1) ν hf _ _ _ hM hS (lv_sub hl [2, 3, 1, 0] rfl)
      · replace hf := ed_in_ c19 hf
        refine lv_aload_n S.1 S.2.1 dX9_readPersons_43 rfl (lv_at hl 0 rfl) ?_
        refine em_get S ed_uX9 hK hM 9 (by decide) ed_w4_42 rfl rfl dX9_readPersons_44 ?_
        refine lv_iconst (v := 2) S.1 S.2.1 dX9_readPersons_47 (by decide) ?_
        refine lv_iload S.1 S.2.1 dX9_readPersons_48 (lv_at hl 3 rfl) ?_
        refine lv_iadd S.1 S.2.1 dX9_readPersons_50 ?_
        obtain ⟨hx20, hf⟩ := ed_g_e hf
        refine em_ild S hK hM 6 (by decide) (em_e6 cy B _) hx20 dX9_readPersons_51 ?_
        refine lv_aload_n S.1 S.2.1 dX9_readPersons_52 rfl (lv_at hl 0 rfl) ?_
        refine em_get S ed_uX9 hK hM 10 (by decide) ed_w4_43 rfl rfl dX9_readPersons_53 ?_
        refine lv_icmp_eq (tgt := 63) S.1 S.2.1 dX9_readPersons_56 (by decide) (fun c21 => ?_) (fun c21 => ?_)
        · replace hf := ed_ip c21 hf
          refine lv_iconst (v := 0) S.1 S.2.1 dX9_readPersons_63 (by decide) ?_
          refine lv_istore_n (lv' := [(3, .int 0), (0, .ref (B + 0)), (2, .int x2), (4, .int x4)]) S.1 S.2.1 dX9_readPersons_64 rfl hl (by decide) rfl (fun ls hl => ?_)
          refine lv_iinc (v := x4 + 1) (lv' := [(4, .int (x4 + 1)), (3, .int 0), (0, .ref (B + 0)), (2, .int x2)]) S.1 S.2.1 dX9_readPersons_65 hl (k := 3) rfl rfl (by decide) rfl (fun ls hl => ?_)
          refine lv_goto (tgt := 28) S.1 S.2.1 dX9_readPersons_68 (by decide) ?_
          exact ih x2 0 (x4 + 1) ν hf _ _ _ hM hS (lv_sub hl [2, 3, 1, 0] rfl)
        · replace hf := ed_in_ c21 hf
          refine lv_iconst (v := 1) S.1 S.2.1 dX9_readPersons_59 (by decide) ?_
          refine lv_goto (tgt := 64) S.1 S.2.1 dX9_readPersons_60 (by decide) ?_
          refine lv_istore_n (lv' := [(3, .int 1), (0, .ref (B + 0)), (2, .int x2), (4, .int x4)]) S.1 S.2.1 dX9_readPersons_64 rfl hl (by decide) rfl (fun ls hl => ?_)
          refine lv_iinc (v := x4 + 1) (lv' := [(4, .int (x4 + 1)), (3, .int 1), (0, .ref (B + 0)), (2, .int x2)]) S.1 S.2.1 dX9_readPersons_65 hl (k := 3) rfl rfl (by decide) rfl (fun ls hl => ?_)
          refine lv_goto (tgt := 28) S.1 S.2.1 dX9_readPersons_68 (by decide) ?_
          exact ih x2 1 (x4 + 1) ν hf _ _ _ hM hS (lv_sub hl [2, 3, 1, 0] rfl)
set_option maxHeartbeats 4000000 in
set_option maxRecDepth 100000 in
theorem w_X9_readPersons_9 {p : Program} {l : Launch} {e : Env} {s : State} {m : MethodId} {args : Array Value} {below : List Frame} {meth : Method} {c : Code} {D : va_G} {cy : Nat → ClassId} {B : Nat} (S : CallFix p m c cX9_readPersons 5 s args ed_ws RX9) (hr : meth.sig.returnType = (some .boolean)) (hlocks : meth.locks = false) (hK : ed_K D cy s) (r : Int32) (ν' : em_MM) :
    ∀ (n : Nat), ∀ (x1 : Int32) (ν : em_MM), f_X9_readPersons_9  n x1 ν = some (r, ν') → ∀ (H : Heap) (locs : List Loc) (ls : Array Slot), em_P D cy B ν H → va_S (em_A B) s.heap H locs → lv_has ls 5 [(0, .ref (B + 0)), (1, .int x1)] → W p l e (headSpec wsX9_readPersons rmX9_readPersons).room s m args below meth c H locs 0 0 (MQ below (ed_qI (em_A B) (em_P D cy B ν') r) args s 0 0 (em_A B)) (F0 m 9 ls []) := by
  intro n
  induction n with
  | zero => intro x1 ν hf; rw [f_X9_readPersons_9] at hf; cases hf
  | succ n ih =>
    intro x1 ν hf H locs ls hM hS hl
    rw [f_X9_readPersons_9] at hf
    refine lv_iload_n S.1 S.2.1 dX9_readPersons_9 rfl (lv_at hl 1 rfl) ?_
    refine lv_if_eq (tgt := 137) S.1 S.2.1 dX9_readPersons_10 (by decide) (fun c3 => ?_) (fun c3 => ?_)
    · replace hf := ed_ip c3 hf
      refine lv_iconst (v := 1) S.1 S.2.1 dX9_readPersons_137 (by decide) ?_
      obtain ⟨rfl, rfl⟩ := ed_so hf
      exact ed_rz S hr hlocks rfl hM hS dX9_readPersons_138
    · replace hf := ed_in_ c3 hf
      refine lv_aload_n S.1 S.2.1 dX9_readPersons_13 rfl (lv_at hl 0 rfl) ?_
      refine em_get S ed_uX9 hK hM 8 (by decide) ed_w4_41 rfl rfl dX9_readPersons_14 ?_
      refine lv_istore_n (lv' := [(2, .int (ν 0 8)), (0, .ref (B + 0)), (1, .int x1)]) S.1 S.2.1 dX9_readPersons_17 rfl hl (by decide) rfl (fun ls hl => ?_)
      refine lv_aload_n S.1 S.2.1 dX9_readPersons_18 rfl (lv_at hl 1 rfl) ?_
      refine lv_bipush (v := 9) S.1 S.2.1 dX9_readPersons_19 (by decide) ?_
      obtain ⟨r4, ν4, hq4, hf⟩ := ed_b2_e hf
      refine ed_kI (ed_rV S hK hM (c_X9_digitTo _ D cy B 9 ν r4 ν4 hq4) (cwV 1 S.2.2.2.2 (ed_gV ed_w4_133 ed_w4_135 ed_wp_27 ed_w1_10 ed_w4_136) rfl rfl rfl hd_X9_digitTo ⟨Nat.le_of_ble_eq_true rfl, Nat.le_of_ble_eq_true rfl⟩) (em_rc hK hM) rfl hl.1 rfl (Nat.le_of_ble_eq_true rfl) dX9_readPersons_21 ⟨Nat.zero_le _, Nat.zero_le _⟩) hS (fun H locs hM hS => ?_)
      refine lv_istore_n (lv' := [(3, .int r4), (2, .int (ν 0 8)), (0, .ref (B + 0)), (1, .int x1)]) S.1 S.2.1 dX9_readPersons_24 rfl hl (by decide) rfl (fun ls hl => ?_)
      refine lv_iconst (v := 0) S.1 S.2.1 dX9_readPersons_25 (by decide) ?_
      refine lv_istore (lv' := [(4, .int 0), (3, .int r4), (2, .int (ν 0 8)), (0, .ref (B + 0)), (1, .int x1)]) S.1 S.2.1 dX9_readPersons_26 hl (by decide) rfl (fun ls hl => ?_)
      exact w_X9_readPersons_28 S hr hlocks hK r ν' (fun a0 a1 => f_X9_readPersons_9 n a0 a1) ih ed_N (ν 0 8) r4 0 ν4 hf _ _ _ hM hS (lv_sub hl [3, 2, 1, 0] rfl)
set_option maxHeartbeats 4000000 in
set_option maxRecDepth 100000 in
theorem c_X9_readPersons (l : Launch) (D : va_G) (cy : Nat → ClassId) (B : Nat) (ν : em_MM) (r : Int32) (ν' : em_MM) (hf : f_X9_readPersons ν = some (r, ν')) :
    Met l yX9_readPersons wsX9_readPersons rmX9_readPersons (ed_pC D cy (em_P D cy B ν) [.ref (B + 0)]) (ed_qI (em_A B) (em_P D cy B ν') r) 0 0 (em_A B) := by
  refine Met.ofW (cc := cX9_readPersons) (maxL := 5) (ret := (some .boolean)) (by decide) rfl ?_
  intro p e s m args below meth c s₁ B0 hml hv
  obtain ⟨rfl, hM, hK⟩ := hv
  have S : CallFix p m c cX9_readPersons 5 s _ ed_ws RX9 := ⟨B0.exec, B0.bytes, hml, findClass_of_methodNamed B0.named, fun w hw => atoms_spec (ws := wsX9_readPersons) B0.pre w (List.mem_cons_of_mem _ hw)⟩
  have hr := B0.returns
  have hlocks := B0.notSynchronized
  have hS : va_S (em_A B) s.heap s.heap [] := va_S.rf
  have hl := lv_entry ([.ref (B + 0)]) (n := 5) (Nat.le_of_ble_eq_true rfl)
  rw [lg_entry_eq]
  generalize (lg_sl ([.ref (B + 0)]) ++ List.replicate (5 - (lg_sl ([.ref (B + 0)])).length) Slot.unset).toArray = ls at hl ⊢
  have hl : lv_has ls 5 [(0, .ref (B + 0))] := hl
  unfold f_X9_readPersons at hf
  refine lv_aload_n S.1 S.2.1 dX9_readPersons_0 rfl (lv_at hl 0 rfl) ?_
  refine em_get S ed_uX9 hK hM 9 (by decide) ed_w4_42 rfl rfl dX9_readPersons_1 ?_
  refine lv_iconst (v := 1) S.1 S.2.1 dX9_readPersons_4 (by decide) ?_
  refine lv_iconst (v := 0) S.1 S.2.1 dX9_readPersons_5 (by decide) ?_
  obtain ⟨hx1, hf⟩ := ed_g_e hf
  refine em_ist S hK hM hS 6 (by decide) (em_e6 cy B) hx1 dX9_readPersons_6 (fun H locs hM hS => ?_)
  obtain ⟨ν2, eν2, hf⟩ := ed_t_e hf
  have hM : em_P D cy B ν2 H := by rw [eν2]; exact hM
  refine lv_iconst (v := 1) S.1 S.2.1 dX9_readPersons_7 (by decide) ?_
  refine lv_istore_n (lv' := [(1, .int 1), (0, .ref (B + 0))]) S.1 S.2.1 dX9_readPersons_8 rfl hl (by decide) rfl (fun ls hl => ?_)
  exact w_X9_readPersons_9 S hr hlocks hK r ν' ed_N 1 ν2 hf _ _ _ hM hS (lv_sub hl [1, 0] rfl)
set_option maxHeartbeats 4000000 in
set_option maxRecDepth 100000 in
theorem w_X9_readHour_7 {p : Program} {l : Launch} {e : Env} {s : State} {m : MethodId} {args : Array Value} {below : List Frame} {meth : Method} {c : Code} {D : va_G} {cy : Nat → ClassId} {B : Nat} (S : CallFix p m c cX9_readHour 3 s args ed_ws RX9) (hr : meth.sig.returnType = (some .boolean)) (hlocks : meth.locks = false) (hK : ed_K D cy s) (r : Int32) (ν' : em_MM) :
    ∀ (n : Nat), ∀ (x1 x2 : Int32) (ν : em_MM), f_X9_readHour_7  n x1 x2 ν = some (r, ν') → ∀ (H : Heap) (locs : List Loc) (ls : Array Slot), em_P D cy B ν H → va_S (em_A B) s.heap H locs → lv_has ls 3 [(0, .ref (B + 0)), (1, .int x1), (2, .int x2)] → W p l e (headSpec wsX9_readHour rmX9_readHour).room s m args below meth c H locs 0 0 (MQ below (ed_qI (em_A B) (em_P D cy B ν') r) args s 0 0 (em_A B)) (F0 m 7 ls []) := by
  intro n
  induction n with
  | zero => intro x1 x2 ν hf; rw [f_X9_readHour_7] at hf; cases hf
  | succ n ih =>
    intro x1 x2 ν hf H locs ls hM hS hl
    rw [f_X9_readHour_7] at hf
    refine lv_aload_n S.1 S.2.1 dX9_readHour_7 rfl (lv_at hl 0 rfl) ?_
    refine em_get S ed_uX9 hK hM 8 (by decide) ed_w4_41 rfl rfl dX9_readHour_8 ?_
    refine lv_iload_n S.1 S.2.1 dX9_readHour_11 rfl (lv_at hl 2 rfl) ?_
    refine lv_iconst (v := 3) S.1 S.2.1 dX9_readHour_12 (by decide) ?_
    refine lv_iadd S.1 S.2.1 dX9_readHour_13 ?_
    refine lv_icmp_ge (tgt := 58) S.1 S.2.1 dX9_readHour_14 (by decide) (fun c1 => ?_) (fun c1 => ?_)
    · replace hf := ed_ip c1 hf
      refine lv_aload_n S.1 S.2.1 dX9_readHour_58 rfl (lv_at hl 0 rfl) ?_
      refine em_get S ed_uX9 hK hM 9 (by decide) ed_w4_42 rfl rfl dX9_readHour_59 ?_
      refine lv_iconst (v := 5) S.1 S.2.1 dX9_readHour_62 (by decide) ?_
      refine lv_iload_n S.1 S.2.1 dX9_readHour_63 rfl (lv_at hl 1 rfl) ?_
      obtain ⟨hx2, hf⟩ := ed_g_e hf
      refine em_ist S hK hM hS 6 (by decide) (em_e6 cy B) hx2 dX9_readHour_64 (fun H locs hM hS => ?_)
      obtain ⟨ν3, eν3, hf⟩ := ed_t_e hf
      have hM : em_P D cy B ν3 H := by rw [eν3]; exact hM
      refine lv_aload_n S.1 S.2.1 dX9_readHour_65 rfl (lv_at hl 0 rfl) ?_
      refine em_get S ed_uX9 hK hM 8 (by decide) ed_w4_41 rfl rfl dX9_readHour_66 ?_
      refine lv_iload_n S.1 S.2.1 dX9_readHour_69 rfl (lv_at hl 2 rfl) ?_
      refine lv_icmp_le (tgt := 77) S.1 S.2.1 dX9_readHour_70 (by decide) (fun c4 => ?_) (fun c4 => ?_)
      · replace hf := ed_ip c4 hf
        refine lv_iconst (v := 0) S.1 S.2.1 dX9_readHour_77 (by decide) ?_
        obtain ⟨rfl, rfl⟩ := ed_so hf
        exact ed_rz S hr hlocks rfl hM hS dX9_readHour_78
      · replace hf := ed_in_ c4 hf
        refine lv_iconst (v := 1) S.1 S.2.1 dX9_readHour_73 (by decide) ?_
        refine lv_goto (tgt := 78) S.1 S.2.1 dX9_readHour_74 (by decide) ?_
        obtain ⟨rfl, rfl⟩ := ed_so hf
        exact ed_rz S hr hlocks rfl hM hS dX9_readHour_78
    · replace hf := ed_in_ c1 hf
      refine lv_aload_n S.1 S.2.1 dX9_readHour_17 rfl (lv_at hl 0 rfl) ?_
      refine em_get S ed_uX9 hK hM 8 (by decide) ed_w4_41 rfl rfl dX9_readHour_18 ?_
      refine lv_iload_n S.1 S.2.1 dX9_readHour_21 rfl (lv_at hl 2 rfl) ?_
      refine lv_icmp_eq (tgt := 36) S.1 S.2.1 dX9_readHour_22 (by decide) (fun c5 => ?_) (fun c5 => ?_)
      · replace hf := ed_ip c5 hf
        refine lv_aload_n S.1 S.2.1 dX9_readHour_36 rfl (lv_at hl 0 rfl) ?_
        refine lv_bipush (v := 9) S.1 S.2.1 dX9_readHour_37 (by decide) ?_
        obtain ⟨r6, ν6, hq6, hf⟩ := ed_b2_e hf
        refine ed_kI (ed_rV S hK hM (c_X9_digitTo _ D cy B 9 ν r6 ν6 hq6) (cwV 1 S.2.2.2.2 (ed_gV ed_w4_133 ed_w4_135 ed_wp_27 ed_w1_10 ed_w4_136) rfl rfl rfl hd_X9_digitTo ⟨Nat.le_of_ble_eq_true rfl, Nat.le_of_ble_eq_true rfl⟩) (em_rc hK hM) rfl hl.1 rfl (Nat.le_of_ble_eq_true rfl) dX9_readHour_39 ⟨Nat.zero_le _, Nat.zero_le _⟩) hS (fun H locs hM hS => ?_)
        refine lv_if_eq (tgt := 58) S.1 S.2.1 dX9_readHour_42 (by decide) (fun c7 => ?_) (fun c7 => ?_)
        · replace hf := ed_ip c7 hf
          refine lv_aload_n S.1 S.2.1 dX9_readHour_58 rfl (lv_at hl 0 rfl) ?_
          refine em_get S ed_uX9 hK hM 9 (by decide) ed_w4_42 rfl rfl dX9_readHour_59 ?_
          refine lv_iconst (v := 5) S.1 S.2.1 dX9_readHour_62 (by decide) ?_
          refine lv_iload_n S.1 S.2.1 dX9_readHour_63 rfl (lv_at hl 1 rfl) ?_
          obtain ⟨hx8, hf⟩ := ed_g_e hf
          refine em_ist S hK hM hS 6 (by decide) (em_e6 cy B) hx8 dX9_readHour_64 (fun H locs hM hS => ?_)
          obtain ⟨ν9, eν9, hf⟩ := ed_t_e hf
          have hM : em_P D cy B ν9 H := by rw [eν9]; exact hM
          refine lv_aload_n S.1 S.2.1 dX9_readHour_65 rfl (lv_at hl 0 rfl) ?_
          refine em_get S ed_uX9 hK hM 8 (by decide) ed_w4_41 rfl rfl dX9_readHour_66 ?_
          refine lv_iload_n S.1 S.2.1 dX9_readHour_69 rfl (lv_at hl 2 rfl) ?_
          refine lv_icmp_le (tgt := 77) S.1 S.2.1 dX9_readHour_70 (by decide) (fun c10 => ?_) (fun c10 => ?_)
          · replace hf := ed_ip c10 hf
            refine lv_iconst (v := 0) S.1 S.2.1 dX9_readHour_77 (by decide) ?_
            obtain ⟨rfl, rfl⟩ := ed_so hf
            exact ed_rz S hr hlocks rfl hM hS dX9_readHour_78
          · replace hf := ed_in_ c10 hf
            refine lv_iconst (v := 1) S.1 S.2.1 dX9_readHour_73 (by decide) ?_
            refine lv_goto (tgt := 78) S.1 S.2.1 dX9_readHour_74 (by decide) ?_
            obtain ⟨rfl, rfl⟩ := ed_so hf
            exact ed_rz S hr hlocks rfl hM hS dX9_readHour_78
        · replace hf := ed_in_ c7 hf
          refine lv_bipush (v := 10) S.1 S.2.1 dX9_readHour_45 (by decide) ?_
          refine lv_iload_n S.1 S.2.1 dX9_readHour_47 rfl (lv_at hl 1 rfl) ?_
          refine lv_imul S.1 S.2.1 dX9_readHour_48 ?_
          refine lv_aload_n S.1 S.2.1 dX9_readHour_49 rfl (lv_at hl 0 rfl) ?_
          refine em_get S ed_uX9 hK hM 10 (by decide) ed_w4_43 rfl rfl dX9_readHour_50 ?_
          refine lv_iadd S.1 S.2.1 dX9_readHour_53 ?_
          refine lv_istore_n (lv' := [(1, .int ((10 * x1) + (ν6 0 10))), (0, .ref (B + 0)), (2, .int x2)]) S.1 S.2.1 dX9_readHour_54 rfl hl (by decide) rfl (fun ls hl => ?_)
          refine lv_goto (tgt := 7) S.1 S.2.1 dX9_readHour_55 (by decide) ?_
          exact ih ((10 * x1) + (ν6 0 10)) x2 ν6 hf _ _ _ hM hS (lv_sub hl [1, 0, 2] rfl)
      · replace hf := ed_in_ c5 hf
        refine lv_aload_n S.1 S.2.1 dX9_readHour_25 rfl (lv_at hl 0 rfl) ?_
        refine em_get S ed_uX9 hK hM 6 (by decide) ed_w4_39 rfl rfl dX9_readHour_26 ?_
        refine lv_iload_n S.1 S.2.1 dX9_readHour_29 rfl (lv_at hl 2 rfl) ?_
        obtain ⟨hx11, hf⟩ := ed_g_e hf
        refine em_ild S hK hM 5 (by decide) (em_e5 cy B _) hx11 dX9_readHour_30 ?_
        refine lv_bipush (v := 48) S.1 S.2.1 dX9_readHour_31 (by decide) ?_
        refine lv_icmp_eq (tgt := 58) S.1 S.2.1 dX9_readHour_33 (by decide) (fun c12 => ?_) (fun c12 => ?_)
        · replace hf := ed_ip c12 hf
          refine lv_aload_n S.1 S.2.1 dX9_readHour_58 rfl (lv_at hl 0 rfl) ?_
          refine em_get S ed_uX9 hK hM 9 (by decide) ed_w4_42 rfl rfl dX9_readHour_59 ?_
          refine lv_iconst (v := 5) S.1 S.2.1 dX9_readHour_62 (by decide) ?_
          refine lv_iload_n S.1 S.2.1 dX9_readHour_63 rfl (lv_at hl 1 rfl) ?_
          obtain ⟨hx13, hf⟩ := ed_g_e hf
          refine em_ist S hK hM hS 6 (by decide) (em_e6 cy B) hx13 dX9_readHour_64 (fun H locs hM hS => ?_)
          obtain ⟨ν14, eν14, hf⟩ := ed_t_e hf
          have hM : em_P D cy B ν14 H := by rw [eν14]; exact hM
          refine lv_aload_n S.1 S.2.1 dX9_readHour_65 rfl (lv_at hl 0 rfl) ?_
          refine em_get S ed_uX9 hK hM 8 (by decide) ed_w4_41 rfl rfl dX9_readHour_66 ?_
          refine lv_iload_n S.1 S.2.1 dX9_readHour_69 rfl (lv_at hl 2 rfl) ?_
          refine lv_icmp_le (tgt := 77) S.1 S.2.1 dX9_readHour_70 (by decide) (fun c15 => ?_) (fun c15 => ?_)
          · replace hf := ed_ip c15 hf
            refine lv_iconst (v := 0) S.1 S.2.1 dX9_readHour_77 (by decide) ?_
            obtain ⟨rfl, rfl⟩ := ed_so hf
            exact ed_rz S hr hlocks rfl hM hS dX9_readHour_78
          · replace hf := ed_in_ c15 hf
            refine lv_iconst (v := 1) S.1 S.2.1 dX9_readHour_73 (by decide) ?_
            refine lv_goto (tgt := 78) S.1 S.2.1 dX9_readHour_74 (by decide) ?_
            obtain ⟨rfl, rfl⟩ := ed_so hf
            exact ed_rz S hr hlocks rfl hM hS dX9_readHour_78
        · replace hf := ed_in_ c12 hf
          refine lv_aload_n S.1 S.2.1 dX9_readHour_36 rfl (lv_at hl 0 rfl) ?_
          refine lv_bipush (v := 9) S.1 S.2.1 dX9_readHour_37 (by decide) ?_
          obtain ⟨r16, ν16, hq16, hf⟩ := ed_b2_e hf
          refine ed_kI (ed_rV S hK hM (c_X9_digitTo _ D cy B 9 ν r16 ν16 hq16) (cwV 1 S.2.2.2.2 (ed_gV ed_w4_133 ed_w4_135 ed_wp_27 ed_w1_10 ed_w4_136) rfl rfl rfl hd_X9_digitTo ⟨Nat.le_of_ble_eq_true rfl, Nat.le_of_ble_eq_true rfl⟩) (em_rc hK hM) rfl hl.1 rfl (Nat.le_of_ble_eq_true rfl) dX9_readHour_39 ⟨Nat.zero_le _, Nat.zero_le _⟩) hS (fun H locs hM hS => ?_)
          refine lv_if_eq (tgt := 58) S.1 S.2.1 dX9_readHour_42 (by decide) (fun c17 => ?_) (fun c17 => ?_)
          · replace hf := ed_ip c17 hf
            refine lv_aload_n S.1 S.2.1 dX9_readHour_58 rfl (lv_at hl 0 rfl) ?_
            refine em_get S ed_uX9 hK hM 9 (by decide) ed_w4_42 rfl rfl dX9_readHour_59 ?_
            refine lv_iconst (v := 5) S.1 S.2.1 dX9_readHour_62 (by decide) ?_
            refine lv_iload_n S.1 S.2.1 dX9_readHour_63 rfl (lv_at hl 1 rfl) ?_
            obtain ⟨hx18, hf⟩ := ed_g_e hf
            refine em_ist S hK hM hS 6 (by decide) (em_e6 cy B) hx18 dX9_readHour_64 (fun H locs hM hS => ?_)
            obtain ⟨ν19, eν19, hf⟩ := ed_t_e hf
            have hM : em_P D cy B ν19 H := by rw [eν19]; exact hM
            refine lv_aload_n S.1 S.2.1 dX9_readHour_65 rfl (lv_at hl 0 rfl) ?_
            refine em_get S ed_uX9 hK hM 8 (by decide) ed_w4_41 rfl rfl dX9_readHour_66 ?_
            refine lv_iload_n S.1 S.2.1 dX9_readHour_69 rfl (lv_at hl 2 rfl) ?_
            refine lv_icmp_le (tgt := 77) S.1 S.2.1 dX9_readHour_70 (by decide) (fun c20 => ?_) (fun c20 => ?_)
            · replace hf := ed_ip c20 hf
              refine lv_iconst (v := 0) S.1 S.2.1 dX9_readHour_77 (by decide) ?_
              obtain ⟨rfl, rfl⟩ := ed_so hf
              exact ed_rz S hr hlocks rfl hM hS dX9_readHour_78
            · replace hf := ed_in_ c20 hf
              refine lv_iconst (v := 1) S.1 S.2.1 dX9_readHour_73 (by decide) ?_
              refine lv_goto (tgt := 78) S.1 S.2.1 dX9_readHour_74 (by decide) ?_
              obtain ⟨rfl, rfl⟩ := ed_so hf
              exact ed_rz S hr hlocks rfl hM hS dX9_readHour_78
          · replace hf := ed_in_ c17 hf
            refine lv_bipush (v := 10) S.1 S.2.1 dX9_readHour_45 (by decide) ?_
            refine lv_iload_n S.1 S.2.1 dX9_readHour_47 rfl (lv_at hl 1 rfl) ?_
            refine lv_imul S.1 S.2.1 dX9_readHour_48 ?_
            refine lv_aload_n S.1 S.2.1 dX9_readHour_49 rfl (lv_at hl 0 rfl) ?_
            refine em_get S ed_uX9 hK hM 10 (by decide) ed_w4_43 rfl rfl dX9_readHour_50 ?_
            refine lv_iadd S.1 S.2.1 dX9_readHour_53 ?_
            refine lv_istore_n (lv' := [(1, .int ((10 * x1) + (ν16 0 10))), (0, .ref (B + 0)), (2, .int x2)]) S.1 S.2.1 dX9_readHour_54 rfl hl (by decide) rfl (fun ls hl => ?_)
            refine lv_goto (tgt := 7) S.1 S.2.1 dX9_readHour_55 (by decide) ?_
            exact ih ((10 * x1) + (ν16 0 10)) x2 ν16 hf _ _ _ hM hS (lv_sub hl [1, 0, 2] rfl)
set_option maxHeartbeats 4000000 in
set_option maxRecDepth 100000 in
theorem c_X9_readHour (l : Launch) (D : va_G) (cy : Nat → ClassId) (B : Nat) (ν : em_MM) (r : Int32) (ν' : em_MM) (hf : f_X9_readHour ν = some (r, ν')) :
    Met l yX9_readHour wsX9_readHour rmX9_readHour (ed_pC D cy (em_P D cy B ν) [.ref (B + 0)]) (ed_qI (em_A B) (em_P D cy B ν') r) 0 0 (em_A B) := by
  refine Met.ofW (cc := cX9_readHour) (maxL := 3) (ret := (some .boolean)) (by decide) rfl ?_
  intro p e s m args below meth c s₁ B0 hml hv
  obtain ⟨rfl, hM, hK⟩ := hv
  have S : CallFix p m c cX9_readHour 3 s _ ed_ws RX9 := ⟨B0.exec, B0.bytes, hml, findClass_of_methodNamed B0.named, fun w hw => atoms_spec (ws := wsX9_readHour) B0.pre w (List.mem_cons_of_mem _ hw)⟩
  have hr := B0.returns
  have hlocks := B0.notSynchronized
  have hS : va_S (em_A B) s.heap s.heap [] := va_S.rf
  have hl := lv_entry ([.ref (B + 0)]) (n := 3) (Nat.le_of_ble_eq_true rfl)
  rw [lg_entry_eq]
  generalize (lg_sl ([.ref (B + 0)]) ++ List.replicate (3 - (lg_sl ([.ref (B + 0)])).length) Slot.unset).toArray = ls at hl ⊢
  have hl : lv_has ls 3 [(0, .ref (B + 0))] := hl
  unfold f_X9_readHour at hf
  refine lv_iconst (v := 0) S.1 S.2.1 dX9_readHour_0 (by decide) ?_
  refine lv_istore_n (lv' := [(1, .int 0), (0, .ref (B + 0))]) S.1 S.2.1 dX9_readHour_1 rfl hl (by decide) rfl (fun ls hl => ?_)
  refine lv_aload_n S.1 S.2.1 dX9_readHour_2 rfl (lv_at hl 1 rfl) ?_
  refine em_get S ed_uX9 hK hM 8 (by decide) ed_w4_41 rfl rfl dX9_readHour_3 ?_
  refine lv_istore_n (lv' := [(2, .int (ν 0 8)), (1, .int 0), (0, .ref (B + 0))]) S.1 S.2.1 dX9_readHour_6 rfl hl (by decide) rfl (fun ls hl => ?_)
  exact w_X9_readHour_7 S hr hlocks hK r ν' ed_N 0 (ν 0 8) ν hf _ _ _ hM hS (lv_sub hl [2, 1, 0] rfl)
set_option maxHeartbeats 4000000 in
set_option maxRecDepth 100000 in
theorem w_X9_readSlug_2 {p : Program} {l : Launch} {e : Env} {s : State} {m : MethodId} {args : Array Value} {below : List Frame} {meth : Method} {c : Code} {D : va_G} {cy : Nat → ClassId} {B : Nat} (S : CallFix p m c cX9_readSlug 2 s args ed_ws RX9) (hr : meth.sig.returnType = (some .boolean)) (hlocks : meth.locks = false) (hK : ed_K D cy s) (r : Int32) (ν' : em_MM) :
    ∀ (n : Nat), ∀ (x1 : Int32) (ν : em_MM), f_X9_readSlug_2  n x1 ν = some (r, ν') → ∀ (H : Heap) (locs : List Loc) (ls : Array Slot), em_P D cy B ν H → va_S (em_A B) s.heap H locs → lv_has ls 2 [(0, .ref (B + 0)), (1, .int x1)] → W p l e (headSpec wsX9_readSlug rmX9_readSlug).room s m args below meth c H locs 0 0 (MQ below (ed_qI (em_A B) (em_P D cy B ν') r) args s 0 0 (em_A B)) (F0 m 2 ls []) := by
  intro n
  induction n with
  | zero => intro x1 ν hf; rw [f_X9_readSlug_2] at hf; cases hf
  | succ n ih =>
    intro x1 ν hf H locs ls hM hS hl
    rw [f_X9_readSlug_2] at hf
    refine lv_iload_n S.1 S.2.1 dX9_readSlug_2 rfl (lv_at hl 1 rfl) ?_
    refine lv_bipush (v := 12) S.1 S.2.1 dX9_readSlug_3 (by decide) ?_
    refine lv_icmp_ge (tgt := 72) S.1 S.2.1 dX9_readSlug_5 (by decide) (fun c1 => ?_) (fun c1 => ?_)
    · replace hf := ed_ip c1 hf
      refine lv_aload_n S.1 S.2.1 dX9_readSlug_72 rfl (lv_at hl 0 rfl) ?_
      refine em_get S ed_uX9 hK hM 9 (by decide) ed_w4_42 rfl rfl dX9_readSlug_73 ?_
      refine lv_bipush (v := 16) S.1 S.2.1 dX9_readSlug_76 (by decide) ?_
      refine lv_iload_n S.1 S.2.1 dX9_readSlug_78 rfl (lv_at hl 1 rfl) ?_
      obtain ⟨hx2, hf⟩ := ed_g_e hf
      refine em_ist S hK hM hS 6 (by decide) (em_e6 cy B) hx2 dX9_readSlug_79 (fun H locs hM hS => ?_)
      obtain ⟨ν3, eν3, hf⟩ := ed_t_e hf
      have hM : em_P D cy B ν3 H := by rw [eν3]; exact hM
      refine lv_iload_n S.1 S.2.1 dX9_readSlug_80 rfl (lv_at hl 1 rfl) ?_
      refine lv_if_le (tgt := 88) S.1 S.2.1 dX9_readSlug_81 (by decide) (fun c4 => ?_) (fun c4 => ?_)
      · replace hf := ed_ip c4 hf
        refine lv_iconst (v := 0) S.1 S.2.1 dX9_readSlug_88 (by decide) ?_
        obtain ⟨rfl, rfl⟩ := ed_so hf
        exact ed_rz S hr hlocks rfl hM hS dX9_readSlug_89
      · replace hf := ed_in_ c4 hf
        refine lv_iconst (v := 1) S.1 S.2.1 dX9_readSlug_84 (by decide) ?_
        refine lv_goto (tgt := 89) S.1 S.2.1 dX9_readSlug_85 (by decide) ?_
        obtain ⟨rfl, rfl⟩ := ed_so hf
        exact ed_rz S hr hlocks rfl hM hS dX9_readSlug_89
    · replace hf := ed_in_ c1 hf
      refine lv_aload_n S.1 S.2.1 dX9_readSlug_8 rfl (lv_at hl 0 rfl) ?_
      refine em_get S ed_uX9 hK hM 8 (by decide) ed_w4_41 rfl rfl dX9_readSlug_9 ?_
      refine lv_aload_n S.1 S.2.1 dX9_readSlug_12 rfl (lv_at hl 0 rfl) ?_
      refine em_get S ed_uX9 hK hM 7 (by decide) ed_w4_40 rfl rfl dX9_readSlug_13 ?_
      refine lv_icmp_ge (tgt := 72) S.1 S.2.1 dX9_readSlug_16 (by decide) (fun c5 => ?_) (fun c5 => ?_)
      · replace hf := ed_ip c5 hf
        refine lv_aload_n S.1 S.2.1 dX9_readSlug_72 rfl (lv_at hl 0 rfl) ?_
        refine em_get S ed_uX9 hK hM 9 (by decide) ed_w4_42 rfl rfl dX9_readSlug_73 ?_
        refine lv_bipush (v := 16) S.1 S.2.1 dX9_readSlug_76 (by decide) ?_
        refine lv_iload_n S.1 S.2.1 dX9_readSlug_78 rfl (lv_at hl 1 rfl) ?_
        obtain ⟨hx6, hf⟩ := ed_g_e hf
        refine em_ist S hK hM hS 6 (by decide) (em_e6 cy B) hx6 dX9_readSlug_79 (fun H locs hM hS => ?_)
        obtain ⟨ν7, eν7, hf⟩ := ed_t_e hf
        have hM : em_P D cy B ν7 H := by rw [eν7]; exact hM
        refine lv_iload_n S.1 S.2.1 dX9_readSlug_80 rfl (lv_at hl 1 rfl) ?_
        refine lv_if_le (tgt := 88) S.1 S.2.1 dX9_readSlug_81 (by decide) (fun c8 => ?_) (fun c8 => ?_)
        · replace hf := ed_ip c8 hf
          refine lv_iconst (v := 0) S.1 S.2.1 dX9_readSlug_88 (by decide) ?_
          obtain ⟨rfl, rfl⟩ := ed_so hf
          exact ed_rz S hr hlocks rfl hM hS dX9_readSlug_89
        · replace hf := ed_in_ c8 hf
          refine lv_iconst (v := 1) S.1 S.2.1 dX9_readSlug_84 (by decide) ?_
          refine lv_goto (tgt := 89) S.1 S.2.1 dX9_readSlug_85 (by decide) ?_
          obtain ⟨rfl, rfl⟩ := ed_so hf
          exact ed_rz S hr hlocks rfl hM hS dX9_readSlug_89
      · replace hf := ed_in_ c5 hf
        refine lv_aload_n S.1 S.2.1 dX9_readSlug_19 rfl (lv_at hl 0 rfl) ?_
        refine em_get S ed_uX9 hK hM 6 (by decide) ed_w4_39 rfl rfl dX9_readSlug_20 ?_
        refine lv_aload_n S.1 S.2.1 dX9_readSlug_23 rfl (lv_at hl 0 rfl) ?_
        refine em_get S ed_uX9 hK hM 8 (by decide) ed_w4_41 rfl rfl dX9_readSlug_24 ?_
        obtain ⟨hx9, hf⟩ := ed_g_e hf
        refine em_ild S hK hM 5 (by decide) (em_e5 cy B _) hx9 dX9_readSlug_27 ?_
        refine lv_bipush (v := 97) S.1 S.2.1 dX9_readSlug_28 (by decide) ?_
        refine lv_bipush (v := 122) S.1 S.2.1 dX9_readSlug_30 (by decide) ?_
        refine ed_kI (ed_rS S hK hM (c_X9_in _ D cy (em_P D cy B ν) (em_A B) (ν 5 (ν 0 8).toNatClampNeg) 97 122) (va_cwS 3 S.2.2.2.2 (ed_gS ed_w4_71 ed_w4_72 ed_w1_10 ed_w4_73) rfl rfl rfl hd_X9_in.2 ⟨Nat.le_of_ble_eq_true rfl, Nat.le_of_ble_eq_true rfl⟩) rfl hl.1 rfl (Nat.le_of_ble_eq_true rfl) dX9_readSlug_32 ⟨Nat.zero_le _, Nat.zero_le _⟩) hS (fun H locs hM hS => ?_)
        refine lv_if_eq (tgt := 72) S.1 S.2.1 dX9_readSlug_35 (by decide) (fun c11 => ?_) (fun c11 => ?_)
        · replace hf := ed_ip c11 hf
          refine lv_aload_n S.1 S.2.1 dX9_readSlug_72 rfl (lv_at hl 0 rfl) ?_
          refine em_get S ed_uX9 hK hM 9 (by decide) ed_w4_42 rfl rfl dX9_readSlug_73 ?_
          refine lv_bipush (v := 16) S.1 S.2.1 dX9_readSlug_76 (by decide) ?_
          refine lv_iload_n S.1 S.2.1 dX9_readSlug_78 rfl (lv_at hl 1 rfl) ?_
          obtain ⟨hx12, hf⟩ := ed_g_e hf
          refine em_ist S hK hM hS 6 (by decide) (em_e6 cy B) hx12 dX9_readSlug_79 (fun H locs hM hS => ?_)
          obtain ⟨ν13, eν13, hf⟩ := ed_t_e hf
          have hM : em_P D cy B ν13 H := by rw [eν13]; exact hM
          refine lv_iload_n S.1 S.2.1 dX9_readSlug_80 rfl (lv_at hl 1 rfl) ?_
          refine lv_if_le (tgt := 88) S.1 S.2.1 dX9_readSlug_81 (by decide) (fun c14 => ?_) (fun c14 => ?_)
          · replace hf := ed_ip c14 hf
            refine lv_iconst (v := 0) S.1 S.2.1 dX9_readSlug_88 (by decide) ?_
            obtain ⟨rfl, rfl⟩ := ed_so hf
            exact ed_rz S hr hlocks rfl hM hS dX9_readSlug_89
          · replace hf := ed_in_ c14 hf
            refine lv_iconst (v := 1) S.1 S.2.1 dX9_readSlug_84 (by decide) ?_
            refine lv_goto (tgt := 89) S.1 S.2.1 dX9_readSlug_85 (by decide) ?_
            obtain ⟨rfl, rfl⟩ := ed_so hf
            exact ed_rz S hr hlocks rfl hM hS dX9_readSlug_89
        · replace hf := ed_in_ c11 hf
          refine lv_aload_n S.1 S.2.1 dX9_readSlug_38 rfl (lv_at hl 0 rfl) ?_
          refine em_get S ed_uX9 hK hM 9 (by decide) ed_w4_42 rfl rfl dX9_readSlug_39 ?_
          refine lv_bipush (v := 17) S.1 S.2.1 dX9_readSlug_42 (by decide) ?_
          refine lv_iload_n S.1 S.2.1 dX9_readSlug_44 rfl (lv_at hl 1 rfl) ?_
          refine lv_iadd S.1 S.2.1 dX9_readSlug_45 ?_
          refine lv_aload_n S.1 S.2.1 dX9_readSlug_46 rfl (lv_at hl 0 rfl) ?_
          refine em_get S ed_uX9 hK hM 6 (by decide) ed_w4_39 rfl rfl dX9_readSlug_47 ?_
          refine lv_aload_n S.1 S.2.1 dX9_readSlug_50 rfl (lv_at hl 0 rfl) ?_
          refine em_get S ed_uX9 hK hM 8 (by decide) ed_w4_41 rfl rfl dX9_readSlug_51 ?_
          obtain ⟨hx15, hf⟩ := ed_g_e hf
          refine em_ild S hK hM 5 (by decide) (em_e5 cy B _) hx15 dX9_readSlug_54 ?_
          obtain ⟨hx16, hf⟩ := ed_g_e hf
          refine em_ist S hK hM hS 6 (by decide) (em_e6 cy B) hx16 dX9_readSlug_55 (fun H locs hM hS => ?_)
          obtain ⟨ν17, eν17, hf⟩ := ed_t_e hf
          have hM : em_P D cy B ν17 H := by rw [eν17]; exact hM
          refine lv_iinc (v := x1 + 1) (lv' := [(1, .int (x1 + 1)), (0, .ref (B + 0))]) S.1 S.2.1 dX9_readSlug_56 hl (k := 1) rfl rfl (by decide) rfl (fun ls hl => ?_)
          refine lv_aload_n S.1 S.2.1 dX9_readSlug_59 rfl (lv_at hl 1 rfl) ?_
          refine lv_dup S.1 S.2.1 dX9_readSlug_60 rfl ?_
          refine em_get S ed_uX9 hK hM 8 (by decide) ed_w4_41 rfl rfl dX9_readSlug_61 ?_
          refine lv_iconst (v := 1) S.1 S.2.1 dX9_readSlug_64 (by decide) ?_
          refine lv_iadd S.1 S.2.1 dX9_readSlug_65 ?_
          refine em_put S ed_uX9 hK hM hS 8 (by decide) ed_w4_41 rfl rfl rfl rfl (em_u8 cy B _ _) dX9_readSlug_66 (fun H locs hM hS => ?_)
          obtain ⟨ν18, eν18, hf⟩ := ed_t_e hf
          have hM : em_P D cy B ν18 H := by rw [eν18]; exact hM
          refine lv_goto (tgt := 2) S.1 S.2.1 dX9_readSlug_69 (by decide) ?_
          exact ih (x1 + 1) ν18 hf _ _ _ hM hS (lv_sub hl [1, 0] rfl)
set_option maxHeartbeats 4000000 in
set_option maxRecDepth 100000 in
theorem c_X9_readSlug (l : Launch) (D : va_G) (cy : Nat → ClassId) (B : Nat) (ν : em_MM) (r : Int32) (ν' : em_MM) (hf : f_X9_readSlug ν = some (r, ν')) :
    Met l yX9_readSlug wsX9_readSlug rmX9_readSlug (ed_pC D cy (em_P D cy B ν) [.ref (B + 0)]) (ed_qI (em_A B) (em_P D cy B ν') r) 0 0 (em_A B) := by
  refine Met.ofW (cc := cX9_readSlug) (maxL := 2) (ret := (some .boolean)) (by decide) rfl ?_
  intro p e s m args below meth c s₁ B0 hml hv
  obtain ⟨rfl, hM, hK⟩ := hv
  have S : CallFix p m c cX9_readSlug 2 s _ ed_ws RX9 := ⟨B0.exec, B0.bytes, hml, findClass_of_methodNamed B0.named, fun w hw => atoms_spec (ws := wsX9_readSlug) B0.pre w (List.mem_cons_of_mem _ hw)⟩
  have hr := B0.returns
  have hlocks := B0.notSynchronized
  have hS : va_S (em_A B) s.heap s.heap [] := va_S.rf
  have hl := lv_entry ([.ref (B + 0)]) (n := 2) (Nat.le_of_ble_eq_true rfl)
  rw [lg_entry_eq]
  generalize (lg_sl ([.ref (B + 0)]) ++ List.replicate (2 - (lg_sl ([.ref (B + 0)])).length) Slot.unset).toArray = ls at hl ⊢
  have hl : lv_has ls 2 [(0, .ref (B + 0))] := hl
  unfold f_X9_readSlug at hf
  refine lv_iconst (v := 0) S.1 S.2.1 dX9_readSlug_0 (by decide) ?_
  refine lv_istore_n (lv' := [(1, .int 0), (0, .ref (B + 0))]) S.1 S.2.1 dX9_readSlug_1 rfl hl (by decide) rfl (fun ls hl => ?_)
  exact w_X9_readSlug_2 S hr hlocks hK r ν' ed_N 0 ν hf _ _ _ hM hS (lv_sub hl [1, 0] rfl)
set_option maxHeartbeats 4000000 in
set_option maxRecDepth 100000 in
theorem w_X9_readText_7 {p : Program} {l : Launch} {e : Env} {s : State} {m : MethodId} {args : Array Value} {below : List Frame} {meth : Method} {c : Code} {D : va_G} {cy : Nat → ClassId} {B : Nat} (S : CallFix p m c cX9_readText 2 s args ed_ws RX9) (hr : meth.sig.returnType = (some .boolean)) (hlocks : meth.locks = false) (hK : ed_K D cy s) (r : Int32) (ν' : em_MM) :
    ∀ (n : Nat), ∀ (x1 : Int32) (ν : em_MM), f_X9_readText_7  n x1 ν = some (r, ν') → ∀ (H : Heap) (locs : List Loc) (ls : Array Slot), em_P D cy B ν H → va_S (em_A B) s.heap H locs → lv_has ls 2 [(0, .ref (B + 0)), (1, .int x1)] → W p l e (headSpec wsX9_readText rmX9_readText).room s m args below meth c H locs 0 0 (MQ below (ed_qI (em_A B) (em_P D cy B ν') r) args s 0 0 (em_A B)) (F0 m 7 ls []) := by
  intro n
  induction n with
  | zero => intro x1 ν hf; rw [f_X9_readText_7] at hf; cases hf
  | succ n ih =>
    intro x1 ν hf H locs ls hM hS hl
    rw [f_X9_readText_7] at hf
    refine lv_iload_n S.1 S.2.1 dX9_readText_7 rfl (lv_at hl 1 rfl) ?_
    refine lv_bipush (v := 29) S.1 S.2.1 dX9_readText_8 (by decide) ?_
    refine lv_icmp_ge (tgt := 26) S.1 S.2.1 dX9_readText_10 (by decide) (fun c2 => ?_) (fun c2 => ?_)
    · replace hf := ed_ip c2 hf
      refine lv_aload_n S.1 S.2.1 dX9_readText_26 rfl (lv_at hl 0 rfl) ?_
      refine lv_bipush (v := 7) S.1 S.2.1 dX9_readText_27 (by decide) ?_
      obtain ⟨r3, ν3, hq3, hf⟩ := ed_b2_e hf
      refine ed_kI (ed_rV S hK hM (c_X9_digitTo _ D cy B 7 ν r3 ν3 hq3) (cwV 1 S.2.2.2.2 (ed_gV ed_w4_133 ed_w4_135 ed_wp_27 ed_w1_10 ed_w4_136) rfl rfl rfl hd_X9_digitTo ⟨Nat.le_of_ble_eq_true rfl, Nat.le_of_ble_eq_true rfl⟩) (em_rc hK hM) rfl hl.1 rfl (Nat.le_of_ble_eq_true rfl) dX9_readText_29 ⟨Nat.zero_le _, Nat.zero_le _⟩) hS (fun H locs hM hS => ?_)
      refine lv_istore_n (lv' := [(1, .int r3), (0, .ref (B + 0))]) S.1 S.2.1 dX9_readText_32 rfl hl (by decide) rfl (fun ls hl => ?_)
      refine lv_aload_n S.1 S.2.1 dX9_readText_33 rfl (lv_at hl 1 rfl) ?_
      refine em_get S ed_uX9 hK hM 9 (by decide) ed_w4_42 rfl rfl dX9_readText_34 ?_
      refine lv_iconst (v := 0) S.1 S.2.1 dX9_readText_37 (by decide) ?_
      refine lv_aload_n S.1 S.2.1 dX9_readText_38 rfl (lv_at hl 1 rfl) ?_
      refine em_get S ed_uX9 hK hM 10 (by decide) ed_w4_43 rfl rfl dX9_readText_39 ?_
      obtain ⟨hx4, hf⟩ := ed_g_e hf
      refine em_ist S hK hM hS 6 (by decide) (em_e6 cy B) hx4 dX9_readText_42 (fun H locs hM hS => ?_)
      obtain ⟨ν5, eν5, hf⟩ := ed_t_e hf
      have hM : em_P D cy B ν5 H := by rw [eν5]; exact hM
      refine lv_iload_n S.1 S.2.1 dX9_readText_43 rfl (lv_at hl 0 rfl) ?_
      refine lv_if_eq (tgt := 119) S.1 S.2.1 dX9_readText_44 (by decide) (fun c6 => ?_) (fun c6 => ?_)
      · replace hf := ed_ip c6 hf
        refine lv_iconst (v := 0) S.1 S.2.1 dX9_readText_119 (by decide) ?_
        obtain ⟨rfl, rfl⟩ := ed_so hf
        exact ed_rz S hr hlocks rfl hM hS dX9_readText_120
      · replace hf := ed_in_ c6 hf
        refine lv_aload_n S.1 S.2.1 dX9_readText_47 rfl (lv_at hl 1 rfl) ?_
        refine lv_bipush (v := 32) S.1 S.2.1 dX9_readText_48 (by decide) ?_
        obtain ⟨r7, ν7, hq7, hf⟩ := ed_b2_e hf
        refine ed_kI (ed_rV S hK hM (c_X9_sign _ D cy B 32 ν5 r7 ν7 hq7) (cwV 1 S.2.2.2.2 (ed_gV ed_w4_137 ed_w4_139 ed_wp_28 ed_w1_10 ed_w4_140) rfl rfl rfl hd_X9_sign ⟨Nat.le_of_ble_eq_true rfl, Nat.le_of_ble_eq_true rfl⟩) (em_rc hK hM) rfl hl.1 rfl (Nat.le_of_ble_eq_true rfl) dX9_readText_50 ⟨Nat.zero_le _, Nat.zero_le _⟩) hS (fun H locs hM hS => ?_)
        refine lv_if_eq (tgt := 119) S.1 S.2.1 dX9_readText_53 (by decide) (fun c8 => ?_) (fun c8 => ?_)
        · replace hf := ed_ip c8 hf
          refine lv_iconst (v := 0) S.1 S.2.1 dX9_readText_119 (by decide) ?_
          obtain ⟨rfl, rfl⟩ := ed_so hf
          exact ed_rz S hr hlocks rfl hM hS dX9_readText_120
        · replace hf := ed_in_ c8 hf
          refine lv_aload_n S.1 S.2.1 dX9_readText_56 rfl (lv_at hl 1 rfl) ?_
          obtain ⟨r9, ν9, hq9, hf⟩ := ed_b2_e hf
          refine ed_kI (ed_rV S hK hM (c_X9_readPersons _ D cy B ν7 r9 ν9 hq9) (cwV 0 S.2.2.2.2 (ed_gV ed_w4_141 ed_w4_143 ed_wp_29 ed_w1_10 ed_w4_144) rfl rfl rfl hd_X9_readPersons ⟨Nat.le_of_ble_eq_true rfl, Nat.le_of_ble_eq_true rfl⟩) (em_rc hK hM) rfl hl.1 rfl (Nat.le_of_ble_eq_true rfl) dX9_readText_57 ⟨Nat.zero_le _, Nat.zero_le _⟩) hS (fun H locs hM hS => ?_)
          refine lv_if_eq (tgt := 119) S.1 S.2.1 dX9_readText_60 (by decide) (fun c10 => ?_) (fun c10 => ?_)
          · replace hf := ed_ip c10 hf
            refine lv_iconst (v := 0) S.1 S.2.1 dX9_readText_119 (by decide) ?_
            obtain ⟨rfl, rfl⟩ := ed_so hf
            exact ed_rz S hr hlocks rfl hM hS dX9_readText_120
          · replace hf := ed_in_ c10 hf
            refine lv_aload_n S.1 S.2.1 dX9_readText_63 rfl (lv_at hl 1 rfl) ?_
            refine lv_bipush (v := 32) S.1 S.2.1 dX9_readText_64 (by decide) ?_
            obtain ⟨r11, ν11, hq11, hf⟩ := ed_b2_e hf
            refine ed_kI (ed_rV S hK hM (c_X9_sign _ D cy B 32 ν9 r11 ν11 hq11) (cwV 1 S.2.2.2.2 (ed_gV ed_w4_137 ed_w4_139 ed_wp_28 ed_w1_10 ed_w4_140) rfl rfl rfl hd_X9_sign ⟨Nat.le_of_ble_eq_true rfl, Nat.le_of_ble_eq_true rfl⟩) (em_rc hK hM) rfl hl.1 rfl (Nat.le_of_ble_eq_true rfl) dX9_readText_66 ⟨Nat.zero_le _, Nat.zero_le _⟩) hS (fun H locs hM hS => ?_)
            refine lv_if_eq (tgt := 119) S.1 S.2.1 dX9_readText_69 (by decide) (fun c12 => ?_) (fun c12 => ?_)
            · replace hf := ed_ip c12 hf
              refine lv_iconst (v := 0) S.1 S.2.1 dX9_readText_119 (by decide) ?_
              obtain ⟨rfl, rfl⟩ := ed_so hf
              exact ed_rz S hr hlocks rfl hM hS dX9_readText_120
            · replace hf := ed_in_ c12 hf
              refine lv_aload_n S.1 S.2.1 dX9_readText_72 rfl (lv_at hl 1 rfl) ?_
              refine lv_bipush (v := 64) S.1 S.2.1 dX9_readText_73 (by decide) ?_
              obtain ⟨r13, ν13, hq13, hf⟩ := ed_b2_e hf
              refine ed_kI (ed_rV S hK hM (c_X9_sign _ D cy B 64 ν11 r13 ν13 hq13) (cwV 1 S.2.2.2.2 (ed_gV ed_w4_137 ed_w4_139 ed_wp_28 ed_w1_10 ed_w4_140) rfl rfl rfl hd_X9_sign ⟨Nat.le_of_ble_eq_true rfl, Nat.le_of_ble_eq_true rfl⟩) (em_rc hK hM) rfl hl.1 rfl (Nat.le_of_ble_eq_true rfl) dX9_readText_75 ⟨Nat.zero_le _, Nat.zero_le _⟩) hS (fun H locs hM hS => ?_)
              refine lv_if_eq (tgt := 119) S.1 S.2.1 dX9_readText_78 (by decide) (fun c14 => ?_) (fun c14 => ?_)
              · replace hf := ed_ip c14 hf
                refine lv_iconst (v := 0) S.1 S.2.1 dX9_readText_119 (by decide) ?_
                obtain ⟨rfl, rfl⟩ := ed_so hf
                exact ed_rz S hr hlocks rfl hM hS dX9_readText_120
              · replace hf := ed_in_ c14 hf
                refine lv_aload_n S.1 S.2.1 dX9_readText_81 rfl (lv_at hl 1 rfl) ?_
                obtain ⟨r15, ν15, hq15, hf⟩ := ed_b2_e hf
                refine ed_kI (ed_rV S hK hM (c_X9_readHour _ D cy B ν13 r15 ν15 hq15) (cwV 0 S.2.2.2.2 (ed_gV ed_w4_145 ed_w4_147 ed_wp_30 ed_w1_10 ed_w4_148) rfl rfl rfl hd_X9_readHour ⟨Nat.le_of_ble_eq_true rfl, Nat.le_of_ble_eq_true rfl⟩) (em_rc hK hM) rfl hl.1 rfl (Nat.le_of_ble_eq_true rfl) dX9_readText_82 ⟨Nat.zero_le _, Nat.zero_le _⟩) hS (fun H locs hM hS => ?_)
                refine lv_if_eq (tgt := 119) S.1 S.2.1 dX9_readText_85 (by decide) (fun c16 => ?_) (fun c16 => ?_)
                · replace hf := ed_ip c16 hf
                  refine lv_iconst (v := 0) S.1 S.2.1 dX9_readText_119 (by decide) ?_
                  obtain ⟨rfl, rfl⟩ := ed_so hf
                  exact ed_rz S hr hlocks rfl hM hS dX9_readText_120
                · replace hf := ed_in_ c16 hf
                  refine lv_aload_n S.1 S.2.1 dX9_readText_88 rfl (lv_at hl 1 rfl) ?_
                  refine lv_bipush (v := 32) S.1 S.2.1 dX9_readText_89 (by decide) ?_
                  obtain ⟨r17, ν17, hq17, hf⟩ := ed_b2_e hf
                  refine ed_kI (ed_rV S hK hM (c_X9_sign _ D cy B 32 ν15 r17 ν17 hq17) (cwV 1 S.2.2.2.2 (ed_gV ed_w4_137 ed_w4_139 ed_wp_28 ed_w1_10 ed_w4_140) rfl rfl rfl hd_X9_sign ⟨Nat.le_of_ble_eq_true rfl, Nat.le_of_ble_eq_true rfl⟩) (em_rc hK hM) rfl hl.1 rfl (Nat.le_of_ble_eq_true rfl) dX9_readText_91 ⟨Nat.zero_le _, Nat.zero_le _⟩) hS (fun H locs hM hS => ?_)
                  refine lv_if_eq (tgt := 119) S.1 S.2.1 dX9_readText_94 (by decide) (fun c18 => ?_) (fun c18 => ?_)
                  · replace hf := ed_ip c18 hf
                    refine lv_iconst (v := 0) S.1 S.2.1 dX9_readText_119 (by decide) ?_
                    obtain ⟨rfl, rfl⟩ := ed_so hf
                    exact ed_rz S hr hlocks rfl hM hS dX9_readText_120
                  · replace hf := ed_in_ c18 hf
                    refine lv_aload_n S.1 S.2.1 dX9_readText_97 rfl (lv_at hl 1 rfl) ?_
                    obtain ⟨r19, ν19, hq19, hf⟩ := ed_b2_e hf
                    refine ed_kI (ed_rV S hK hM (c_X9_readSlug _ D cy B ν17 r19 ν19 hq19) (cwV 0 S.2.2.2.2 (ed_gV ed_w4_149 ed_w4_151 ed_wp_31 ed_w1_10 ed_w4_152) rfl rfl rfl hd_X9_readSlug ⟨Nat.le_of_ble_eq_true rfl, Nat.le_of_ble_eq_true rfl⟩) (em_rc hK hM) rfl hl.1 rfl (Nat.le_of_ble_eq_true rfl) dX9_readText_98 ⟨Nat.zero_le _, Nat.zero_le _⟩) hS (fun H locs hM hS => ?_)
                    refine lv_if_eq (tgt := 119) S.1 S.2.1 dX9_readText_101 (by decide) (fun c20 => ?_) (fun c20 => ?_)
                    · replace hf := ed_ip c20 hf
                      refine lv_iconst (v := 0) S.1 S.2.1 dX9_readText_119 (by decide) ?_
                      obtain ⟨rfl, rfl⟩ := ed_so hf
                      exact ed_rz S hr hlocks rfl hM hS dX9_readText_120
                    · replace hf := ed_in_ c20 hf
                      refine lv_aload_n S.1 S.2.1 dX9_readText_104 rfl (lv_at hl 1 rfl) ?_
                      refine em_get S ed_uX9 hK hM 8 (by decide) ed_w4_41 rfl rfl dX9_readText_105 ?_
                      refine lv_aload_n S.1 S.2.1 dX9_readText_108 rfl (lv_at hl 1 rfl) ?_
                      refine em_get S ed_uX9 hK hM 7 (by decide) ed_w4_40 rfl rfl dX9_readText_109 ?_
                      refine lv_icmp_ne (tgt := 119) S.1 S.2.1 dX9_readText_112 (by decide) (fun c21 => ?_) (fun c21 => ?_)
                      · replace hf := ed_in_ c21 hf
                        refine lv_iconst (v := 0) S.1 S.2.1 dX9_readText_119 (by decide) ?_
                        obtain ⟨rfl, rfl⟩ := ed_so hf
                        exact ed_rz S hr hlocks rfl hM hS dX9_readText_120
                      · replace hf := ed_ip c21 hf
                        refine lv_iconst (v := 1) S.1 S.2.1 dX9_readText_115 (by decide) ?_
                        refine lv_goto (tgt := 120) S.1 S.2.1 dX9_readText_116 (by decide) ?_
                        obtain ⟨rfl, rfl⟩ := ed_so hf
                        exact ed_rz S hr hlocks rfl hM hS dX9_readText_120
    · replace hf := ed_in_ c2 hf
      refine lv_aload_n S.1 S.2.1 dX9_readText_13 rfl (lv_at hl 0 rfl) ?_
      refine em_get S ed_uX9 hK hM 9 (by decide) ed_w4_42 rfl rfl dX9_readText_14 ?_
      refine lv_iload_n S.1 S.2.1 dX9_readText_17 rfl (lv_at hl 1 rfl) ?_
      refine lv_iconst (v := 0) S.1 S.2.1 dX9_readText_18 (by decide) ?_
      obtain ⟨hx22, hf⟩ := ed_g_e hf
      refine em_ist S hK hM hS 6 (by decide) (em_e6 cy B) hx22 dX9_readText_19 (fun H locs hM hS => ?_)
      obtain ⟨ν23, eν23, hf⟩ := ed_t_e hf
      have hM : em_P D cy B ν23 H := by rw [eν23]; exact hM
      refine lv_iinc (v := x1 + 1) (lv' := [(1, .int (x1 + 1)), (0, .ref (B + 0))]) S.1 S.2.1 dX9_readText_20 hl (k := 1) rfl rfl (by decide) rfl (fun ls hl => ?_)
      refine lv_goto (tgt := 7) S.1 S.2.1 dX9_readText_23 (by decide) ?_
      exact ih (x1 + 1) ν23 hf _ _ _ hM hS (lv_sub hl [1, 0] rfl)
set_option maxHeartbeats 4000000 in
set_option maxRecDepth 100000 in
theorem c_X9_readText (l : Launch) (D : va_G) (cy : Nat → ClassId) (B : Nat) (ν : em_MM) (r : Int32) (ν' : em_MM) (hf : f_X9_readText ν = some (r, ν')) :
    Met l yX9_readText wsX9_readText rmX9_readText (ed_pC D cy (em_P D cy B ν) [.ref (B + 0)]) (ed_qI (em_A B) (em_P D cy B ν') r) 0 0 (em_A B) := by
  refine Met.ofW (cc := cX9_readText) (maxL := 2) (ret := (some .boolean)) (by decide) rfl ?_
  intro p e s m args below meth c s₁ B0 hml hv
  obtain ⟨rfl, hM, hK⟩ := hv
  have S : CallFix p m c cX9_readText 2 s _ ed_ws RX9 := ⟨B0.exec, B0.bytes, hml, findClass_of_methodNamed B0.named, fun w hw => atoms_spec (ws := wsX9_readText) B0.pre w (List.mem_cons_of_mem _ hw)⟩
  have hr := B0.returns
  have hlocks := B0.notSynchronized
  have hS : va_S (em_A B) s.heap s.heap [] := va_S.rf
  have hl := lv_entry ([.ref (B + 0)]) (n := 2) (Nat.le_of_ble_eq_true rfl)
  rw [lg_entry_eq]
  generalize (lg_sl ([.ref (B + 0)]) ++ List.replicate (2 - (lg_sl ([.ref (B + 0)])).length) Slot.unset).toArray = ls at hl ⊢
  have hl : lv_has ls 2 [(0, .ref (B + 0))] := hl
  unfold f_X9_readText at hf
  refine lv_aload_n S.1 S.2.1 dX9_readText_0 rfl (lv_at hl 0 rfl) ?_
  refine lv_iconst (v := 0) S.1 S.2.1 dX9_readText_1 (by decide) ?_
  refine em_put S ed_uX9 hK hM hS 8 (by decide) ed_w4_41 rfl rfl rfl rfl (em_u8 cy B _ _) dX9_readText_2 (fun H locs hM hS => ?_)
  obtain ⟨ν1, eν1, hf⟩ := ed_t_e hf
  have hM : em_P D cy B ν1 H := by rw [eν1]; exact hM
  refine lv_iconst (v := 0) S.1 S.2.1 dX9_readText_5 (by decide) ?_
  refine lv_istore_n (lv' := [(1, .int 0), (0, .ref (B + 0))]) S.1 S.2.1 dX9_readText_6 rfl hl (by decide) rfl (fun ls hl => ?_)
  exact w_X9_readText_7 S hr hlocks hK r ν' ed_N 0 ν1 hf _ _ _ hM hS (lv_sub hl [1, 0] rfl)
set_option maxHeartbeats 4000000 in
set_option maxRecDepth 100000 in
theorem w_X9_readStory_42 {p : Program} {l : Launch} {e : Env} {s : State} {m : MethodId} {args : Array Value} {below : List Frame} {meth : Method} {c : Code} {D : va_G} {cy : Nat → ClassId} {B : Nat} (S : CallFix p m c cX9_readStory 3 s args ed_ws RX9) (hr : meth.sig.returnType = (some .int)) (hlocks : meth.locks = false) (hK : ed_K D cy s) (r : Int32) (ν' : em_MM) :
    ∀ (n : Nat), ∀ (x1 x2 : Int32) (ν : em_MM), f_X9_readStory_42  n x1 x2 ν = some (r, ν') → ∀ (H : Heap) (locs : List Loc) (ls : Array Slot), em_P D cy B ν H → va_S (em_A B) s.heap H locs → lv_has ls 3 [(0, .ref (B + 0)), (1, .int x1), (2, .int x2)] → W p l e (headSpec wsX9_readStory rmX9_readStory).room s m args below meth c H locs 0 0 (MQ below (ed_qI (em_A B) (em_P D cy B ν') r) args s 0 0 (em_A B)) (F0 m 42 ls []) := by
  intro n
  induction n with
  | zero => intro x1 x2 ν hf; rw [f_X9_readStory_42] at hf; cases hf
  | succ n ih =>
    intro x1 x2 ν hf H locs ls hM hS hl
    rw [f_X9_readStory_42] at hf
    refine lv_iload_n S.1 S.2.1 dX9_readStory_42 rfl (lv_at hl 2 rfl) ?_
    refine lv_bipush (v := 29) S.1 S.2.1 dX9_readStory_43 (by decide) ?_
    refine lv_icmp_ge (tgt := 70) S.1 S.2.1 dX9_readStory_45 (by decide) (fun c8 => ?_) (fun c8 => ?_)
    · replace hf := ed_ip c8 hf
      refine lv_aload_n S.1 S.2.1 dX9_readStory_70 rfl (lv_at hl 0 rfl) ?_
      refine em_get S ed_uX9 hK hM 0 (by decide) ed_w4_33 rfl rfl dX9_readStory_71 ?_
      refine lv_iload_n S.1 S.2.1 dX9_readStory_74 rfl (lv_at hl 1 rfl) ?_
      refine lv_bipush (v := 6) S.1 S.2.1 dX9_readStory_75 (by decide) ?_
      refine ed_kI (ed_rS S hK hM (c_X9_storyAt _ D cy (em_P D cy B ν) (em_A B) x1 6) (va_cwS 2 S.2.2.2.2 (ed_gS ed_w4_153 ed_w4_154 ed_w1_10 ed_w4_155) rfl rfl rfl hd_X9_storyAt.2 ⟨Nat.le_of_ble_eq_true rfl, Nat.le_of_ble_eq_true rfl⟩) rfl hl.1 rfl (Nat.le_of_ble_eq_true rfl) dX9_readStory_77 ⟨Nat.zero_le _, Nat.zero_le _⟩) hS (fun H locs hM hS => ?_)
      refine lv_iconst (v := 0) S.1 S.2.1 dX9_readStory_80 (by decide) ?_
      obtain ⟨hx10, hf⟩ := ed_g_e hf
      refine em_ist S hK hM hS 1 (by decide) (em_e1 cy B) hx10 dX9_readStory_81 (fun H locs hM hS => ?_)
      obtain ⟨ν11, eν11, hf⟩ := ed_t_e hf
      have hM : em_P D cy B ν11 H := by rw [eν11]; exact hM
      refine lv_aload_n S.1 S.2.1 dX9_readStory_82 rfl (lv_at hl 0 rfl) ?_
      refine em_get S ed_uX9 hK hM 0 (by decide) ed_w4_33 rfl rfl dX9_readStory_83 ?_
      refine lv_iload_n S.1 S.2.1 dX9_readStory_86 rfl (lv_at hl 1 rfl) ?_
      refine lv_bipush (v := 8) S.1 S.2.1 dX9_readStory_87 (by decide) ?_
      refine ed_kI (ed_rS S hK hM (c_X9_storyAt _ D cy (em_P D cy B ν11) (em_A B) x1 8) (va_cwS 2 S.2.2.2.2 (ed_gS ed_w4_153 ed_w4_154 ed_w1_10 ed_w4_155) rfl rfl rfl hd_X9_storyAt.2 ⟨Nat.le_of_ble_eq_true rfl, Nat.le_of_ble_eq_true rfl⟩) rfl hl.1 rfl (Nat.le_of_ble_eq_true rfl) dX9_readStory_89 ⟨Nat.zero_le _, Nat.zero_le _⟩) hS (fun H locs hM hS => ?_)
      refine lv_bipush (v := (-5)) S.1 S.2.1 dX9_readStory_92 (by decide) ?_
      obtain ⟨hx13, hf⟩ := ed_g_e hf
      refine em_ist S hK hM hS 1 (by decide) (em_e1 cy B) hx13 dX9_readStory_94 (fun H locs hM hS => ?_)
      obtain ⟨ν14, eν14, hf⟩ := ed_t_e hf
      have hM : em_P D cy B ν14 H := by rw [eν14]; exact hM
      refine lv_aload_n S.1 S.2.1 dX9_readStory_95 rfl (lv_at hl 0 rfl) ?_
      refine em_get S ed_uX9 hK hM 0 (by decide) ed_w4_33 rfl rfl dX9_readStory_96 ?_
      refine lv_iload_n S.1 S.2.1 dX9_readStory_99 rfl (lv_at hl 1 rfl) ?_
      refine lv_bipush (v := 9) S.1 S.2.1 dX9_readStory_100 (by decide) ?_
      refine ed_kI (ed_rS S hK hM (c_X9_storyAt _ D cy (em_P D cy B ν14) (em_A B) x1 9) (va_cwS 2 S.2.2.2.2 (ed_gS ed_w4_153 ed_w4_154 ed_w1_10 ed_w4_155) rfl rfl rfl hd_X9_storyAt.2 ⟨Nat.le_of_ble_eq_true rfl, Nat.le_of_ble_eq_true rfl⟩) rfl hl.1 rfl (Nat.le_of_ble_eq_true rfl) dX9_readStory_102 ⟨Nat.zero_le _, Nat.zero_le _⟩) hS (fun H locs hM hS => ?_)
      refine lv_bipush (v := (-5)) S.1 S.2.1 dX9_readStory_105 (by decide) ?_
      obtain ⟨hx16, hf⟩ := ed_g_e hf
      refine em_ist S hK hM hS 1 (by decide) (em_e1 cy B) hx16 dX9_readStory_107 (fun H locs hM hS => ?_)
      obtain ⟨ν17, eν17, hf⟩ := ed_t_e hf
      have hM : em_P D cy B ν17 H := by rw [eν17]; exact hM
      refine lv_aload_n S.1 S.2.1 dX9_readStory_108 rfl (lv_at hl 0 rfl) ?_
      refine em_get S ed_uX9 hK hM 0 (by decide) ed_w4_33 rfl rfl dX9_readStory_109 ?_
      refine lv_iconst (v := 2) S.1 S.2.1 dX9_readStory_112 (by decide) ?_
      refine lv_dup2_11 S.1 S.2.1 dX9_readStory_113 rfl rfl ?_
      obtain ⟨hx18, hf⟩ := ed_g_e hf
      refine em_ild S hK hM 1 (by decide) (em_e1 cy B _) hx18 dX9_readStory_114 ?_
      refine lv_iconst (v := 1) S.1 S.2.1 dX9_readStory_115 (by decide) ?_
      refine lv_iadd S.1 S.2.1 dX9_readStory_116 ?_
      obtain ⟨hx19, hf⟩ := ed_g_e hf
      refine em_ist S hK hM hS 1 (by decide) (em_e1 cy B) hx19 dX9_readStory_117 (fun H locs hM hS => ?_)
      obtain ⟨ν20, eν20, hf⟩ := ed_t_e hf
      have hM : em_P D cy B ν20 H := by rw [eν20]; exact hM
      refine lv_iload_n S.1 S.2.1 dX9_readStory_118 rfl (lv_at hl 1 rfl) ?_
      obtain ⟨rfl, rfl⟩ := ed_so hf
      exact ed_ri S hr hlocks hM hS dX9_readStory_119
    · replace hf := ed_in_ c8 hf
      refine lv_aload_n S.1 S.2.1 dX9_readStory_48 rfl (lv_at hl 0 rfl) ?_
      refine em_get S ed_uX9 hK hM 0 (by decide) ed_w4_33 rfl rfl dX9_readStory_49 ?_
      refine lv_iload_n S.1 S.2.1 dX9_readStory_52 rfl (lv_at hl 1 rfl) ?_
      refine lv_iload_n S.1 S.2.1 dX9_readStory_53 rfl (lv_at hl 2 rfl) ?_
      refine ed_kI (ed_rS S hK hM (c_X9_storyAt _ D cy (em_P D cy B ν) (em_A B) x1 x2) (va_cwS 2 S.2.2.2.2 (ed_gS ed_w4_153 ed_w4_154 ed_w1_10 ed_w4_155) rfl rfl rfl hd_X9_storyAt.2 ⟨Nat.le_of_ble_eq_true rfl, Nat.le_of_ble_eq_true rfl⟩) rfl hl.1 rfl (Nat.le_of_ble_eq_true rfl) dX9_readStory_54 ⟨Nat.zero_le _, Nat.zero_le _⟩) hS (fun H locs hM hS => ?_)
      refine lv_aload_n S.1 S.2.1 dX9_readStory_57 rfl (lv_at hl 0 rfl) ?_
      refine em_get S ed_uX9 hK hM 9 (by decide) ed_w4_42 rfl rfl dX9_readStory_58 ?_
      refine lv_iload_n S.1 S.2.1 dX9_readStory_61 rfl (lv_at hl 2 rfl) ?_
      obtain ⟨hx22, hf⟩ := ed_g_e hf
      refine em_ild S hK hM 6 (by decide) (em_e6 cy B _) hx22 dX9_readStory_62 ?_
      obtain ⟨hx23, hf⟩ := ed_g_e hf
      refine em_ist S hK hM hS 1 (by decide) (em_e1 cy B) hx23 dX9_readStory_63 (fun H locs hM hS => ?_)
      obtain ⟨ν24, eν24, hf⟩ := ed_t_e hf
      have hM : em_P D cy B ν24 H := by rw [eν24]; exact hM
      refine lv_iinc (v := x2 + 1) (lv' := [(2, .int (x2 + 1)), (0, .ref (B + 0)), (1, .int x1)]) S.1 S.2.1 dX9_readStory_64 hl (k := 2) rfl rfl (by decide) rfl (fun ls hl => ?_)
      refine lv_goto (tgt := 42) S.1 S.2.1 dX9_readStory_67 (by decide) ?_
      exact ih x1 (x2 + 1) ν24 hf _ _ _ hM hS (lv_sub hl [1, 2, 0] rfl)
set_option maxHeartbeats 4000000 in
set_option maxRecDepth 100000 in
theorem c_X9_readStory (l : Launch) (D : va_G) (cy : Nat → ClassId) (B : Nat) (ν : em_MM) (r : Int32) (ν' : em_MM) (hf : f_X9_readStory ν = some (r, ν')) :
    Met l yX9_readStory wsX9_readStory rmX9_readStory (ed_pC D cy (em_P D cy B ν) [.ref (B + 0)]) (ed_qI (em_A B) (em_P D cy B ν') r) 0 0 (em_A B) := by
  refine Met.ofW (cc := cX9_readStory) (maxL := 3) (ret := (some .int)) (by decide) rfl ?_
  intro p e s m args below meth c s₁ B0 hml hv
  obtain ⟨rfl, hM, hK⟩ := hv
  have S : CallFix p m c cX9_readStory 3 s _ ed_ws RX9 := ⟨B0.exec, B0.bytes, hml, findClass_of_methodNamed B0.named, fun w hw => atoms_spec (ws := wsX9_readStory) B0.pre w (List.mem_cons_of_mem _ hw)⟩
  have hr := B0.returns
  have hlocks := B0.notSynchronized
  have hS : va_S (em_A B) s.heap s.heap [] := va_S.rf
  have hl := lv_entry ([.ref (B + 0)]) (n := 3) (Nat.le_of_ble_eq_true rfl)
  rw [lg_entry_eq]
  generalize (lg_sl ([.ref (B + 0)]) ++ List.replicate (3 - (lg_sl ([.ref (B + 0)])).length) Slot.unset).toArray = ls at hl ⊢
  have hl : lv_has ls 3 [(0, .ref (B + 0))] := hl
  unfold f_X9_readStory at hf
  refine lv_aload_n S.1 S.2.1 dX9_readStory_0 rfl (lv_at hl 0 rfl) ?_
  obtain ⟨r1, ν1, hq1, hf⟩ := ed_b2_e hf
  refine ed_kI (ed_rV S hK hM (c_X9_readText _ D cy B ν r1 ν1 hq1) (cwV 0 S.2.2.2.2 (ed_gV ed_w4_129 ed_w4_131 ed_wp_26 ed_w1_10 ed_w4_132) rfl rfl rfl hd_X9_readText ⟨Nat.le_of_ble_eq_true rfl, Nat.le_of_ble_eq_true rfl⟩) (em_rc hK hM) rfl hl.1 rfl (Nat.le_of_ble_eq_true rfl) dX9_readStory_1 ⟨Nat.zero_le _, Nat.zero_le _⟩) hS (fun H locs hM hS => ?_)
  refine lv_if_ne (tgt := 15) S.1 S.2.1 dX9_readStory_4 (by decide) (fun c2 => ?_) (fun c2 => ?_)
  · replace hf := ed_in_ c2 hf
    refine lv_aload_n S.1 S.2.1 dX9_readStory_15 rfl (lv_at hl 0 rfl) ?_
    refine em_get S ed_uX9 hK hM 0 (by decide) ed_w4_33 rfl rfl dX9_readStory_16 ?_
    refine lv_iconst (v := 2) S.1 S.2.1 dX9_readStory_19 (by decide) ?_
    obtain ⟨hx3, hf⟩ := ed_g_e hf
    refine em_ild S hK hM 1 (by decide) (em_e1 cy B _) hx3 dX9_readStory_20 ?_
    refine lv_bipush (v := 20) S.1 S.2.1 dX9_readStory_21 (by decide) ?_
    refine lv_icmp_ne (tgt := 29) S.1 S.2.1 dX9_readStory_23 (by decide) (fun c4 => ?_) (fun c4 => ?_)
    · replace hf := ed_in_ c4 hf
      refine lv_aload_n S.1 S.2.1 dX9_readStory_29 rfl (lv_at hl 0 rfl) ?_
      obtain ⟨ν5, hq5, hf⟩ := ed_b_e hf
      refine ed_kV (ed_rV S hK hM (c_X9_record _ D cy B ν1 ν5 hq5) (cwV 0 S.2.2.2.2 (ed_gV ed_w4_75 ed_w4_77 ed_wp_21 ed_w1_10 ed_w4_78) rfl rfl rfl hd_X9_record ⟨Nat.le_of_ble_eq_true rfl, Nat.le_of_ble_eq_true rfl⟩) (em_rc hK hM) rfl hl.1 rfl (Nat.le_of_ble_eq_true rfl) dX9_readStory_30 ⟨Nat.zero_le _, Nat.zero_le _⟩) hS (fun H locs hM hS => ?_)
      refine lv_aload_n S.1 S.2.1 dX9_readStory_33 rfl (lv_at hl 0 rfl) ?_
      refine em_get S ed_uX9 hK hM 0 (by decide) ed_w4_33 rfl rfl dX9_readStory_34 ?_
      refine lv_iconst (v := 2) S.1 S.2.1 dX9_readStory_37 (by decide) ?_
      obtain ⟨hx6, hf⟩ := ed_g_e hf
      refine em_ild S hK hM 1 (by decide) (em_e1 cy B _) hx6 dX9_readStory_38 ?_
      obtain ⟨y7, ey7, hf⟩ := ed_t_e hf
      refine ed_nm ey7 ?_
      refine lv_istore_n (lv' := [(1, .int y7), (0, .ref (B + 0))]) S.1 S.2.1 dX9_readStory_39 rfl hl (by decide) rfl (fun ls hl => ?_)
      refine lv_iconst (v := 0) S.1 S.2.1 dX9_readStory_40 (by decide) ?_
      refine lv_istore_n (lv' := [(2, .int 0), (1, .int y7), (0, .ref (B + 0))]) S.1 S.2.1 dX9_readStory_41 rfl hl (by decide) rfl (fun ls hl => ?_)
      exact w_X9_readStory_42 S hr hlocks hK r ν' ed_N y7 0 ν5 hf _ _ _ hM hS (lv_sub hl [2, 1, 0] rfl)
    · replace hf := ed_ip c4 hf
      refine lv_bipush (v := (-3)) S.1 S.2.1 dX9_readStory_26 (by decide) ?_
      obtain ⟨rfl, rfl⟩ := ed_so hf
      exact ed_ri S hr hlocks hM hS dX9_readStory_28
  · replace hf := ed_ip c2 hf
    refine lv_bipush (v := (-100)) S.1 S.2.1 dX9_readStory_7 (by decide) ?_
    refine lv_aload_n S.1 S.2.1 dX9_readStory_9 rfl (lv_at hl 0 rfl) ?_
    refine em_get S ed_uX9 hK hM 8 (by decide) ed_w4_41 rfl rfl dX9_readStory_10 ?_
    refine lv_isub S.1 S.2.1 dX9_readStory_13 ?_
    obtain ⟨rfl, rfl⟩ := ed_so hf
    exact ed_ri S hr hlocks hM hS dX9_readStory_14
set_option maxHeartbeats 4000000 in
set_option maxRecDepth 100000 in
theorem w_X9_release_43 {p : Program} {l : Launch} {e : Env} {s : State} {m : MethodId} {args : Array Value} {below : List Frame} {meth : Method} {c : Code} {D : va_G} {cy : Nat → ClassId} {B : Nat} (S : CallFix p m c cX9_release 4 s args ed_ws RX9) (hr : meth.sig.returnType = (some .int)) (hlocks : meth.locks = false) (hK : ed_K D cy s) (r : Int32) (ν' : em_MM) :
    ∀ (n : Nat), ∀ (x1 x2 x3 : Int32) (ν : em_MM), f_X9_release_43  n x1 x2 x3 ν = some (r, ν') → ∀ (H : Heap) (locs : List Loc) (ls : Array Slot), em_P D cy B ν H → va_S (em_A B) s.heap H locs → lv_has ls 4 [(0, .ref (B + 0)), (1, .int x1), (2, .int x2), (3, .int x3)] → W p l e (headSpec wsX9_release rmX9_release).room s m args below meth c H locs 0 0 (MQ below (ed_qI (em_A B) (em_P D cy B ν') r) args s 0 0 (em_A B)) (F0 m 43 ls []) := by
  intro n
  induction n with
  | zero => intro x1 x2 x3 ν hf; rw [f_X9_release_43] at hf; cases hf
  | succ n ih =>
    intro x1 x2 x3 ν hf H locs ls hM hS hl
    rw [f_X9_release_43] at hf
    refine lv_iload_n S.1 S.2.1 dX9_release_43 rfl (lv_at hl 3 rfl) ?_
    refine lv_aload_n S.1 S.2.1 dX9_release_44 rfl (lv_at hl 0 rfl) ?_
    refine em_get S ed_uX9 hK hM 0 (by decide) ed_w4_33 rfl rfl dX9_release_45 ?_
    refine lv_iconst (v := 1) S.1 S.2.1 dX9_release_48 (by decide) ?_
    obtain ⟨hx9, hf⟩ := ed_g_e hf
    refine em_ild S hK hM 1 (by decide) (em_e1 cy B _) hx9 dX9_release_49 ?_
    refine lv_icmp_ge (tgt := 76) S.1 S.2.1 dX9_release_50 (by decide) (fun c10 => ?_) (fun c10 => ?_)
    · replace hf := ed_ip c10 hf
      refine lv_iload_n S.1 S.2.1 dX9_release_76 rfl (lv_at hl 2 rfl) ?_
      obtain ⟨rfl, rfl⟩ := ed_so hf
      exact ed_ri S hr hlocks hM hS dX9_release_77
    · replace hf := ed_in_ c10 hf
      refine lv_iload_n S.1 S.2.1 dX9_release_53 rfl (lv_at hl 2 rfl) ?_
      refine lv_aload_n S.1 S.2.1 dX9_release_54 rfl (lv_at hl 0 rfl) ?_
      refine lv_iload_n S.1 S.2.1 dX9_release_55 rfl (lv_at hl 3 rfl) ?_
      refine lv_iload_n S.1 S.2.1 dX9_release_56 rfl (lv_at hl 1 rfl) ?_
      obtain ⟨r11, hq11, hf⟩ := ed_b_e hf
      refine ed_kI (ed_rV S hK hM (c_X9_wants _ D cy B x3 x1 ν r11 hq11) (cwV 2 S.2.2.2.2 (ed_gV ed_w4_168 ed_w4_170 ed_wp_34 ed_w1_10 ed_w4_171) rfl rfl rfl hd_X9_wants ⟨Nat.le_of_ble_eq_true rfl, Nat.le_of_ble_eq_true rfl⟩) (em_rc hK hM) rfl hl.1 rfl (Nat.le_of_ble_eq_true rfl) dX9_release_57 ⟨Nat.zero_le _, Nat.zero_le _⟩) hS (fun H locs hM hS => ?_)
      refine lv_if_eq (tgt := 67) S.1 S.2.1 dX9_release_60 (by decide) (fun c12 => ?_) (fun c12 => ?_)
      · replace hf := ed_ip c12 hf
        refine lv_iconst (v := 0) S.1 S.2.1 dX9_release_67 (by decide) ?_
        refine lv_iadd S.1 S.2.1 dX9_release_68 ?_
        refine lv_istore_n (lv' := [(2, .int (x2 + 0)), (0, .ref (B + 0)), (1, .int x1), (3, .int x3)]) S.1 S.2.1 dX9_release_69 rfl hl (by decide) rfl (fun ls hl => ?_)
        refine lv_iinc (v := x3 + 1) (lv' := [(3, .int (x3 + 1)), (2, .int (x2 + 0)), (0, .ref (B + 0)), (1, .int x1)]) S.1 S.2.1 dX9_release_70 hl (k := 3) rfl rfl (by decide) rfl (fun ls hl => ?_)
        refine lv_goto (tgt := 43) S.1 S.2.1 dX9_release_73 (by decide) ?_
        exact ih x1 (x2 + 0) (x3 + 1) ν hf _ _ _ hM hS (lv_sub hl [2, 3, 1, 0] rfl)
      · replace hf := ed_in_ c12 hf
        refine lv_iconst (v := 1) S.1 S.2.1 dX9_release_63 (by decide) ?_
        refine lv_goto (tgt := 68) S.1 S.2.1 dX9_release_64 (by decide) ?_
        refine lv_iadd S.1 S.2.1 dX9_release_68 ?_
        refine lv_istore_n (lv' := [(2, .int (x2 + 1)), (0, .ref (B + 0)), (1, .int x1), (3, .int x3)]) S.1 S.2.1 dX9_release_69 rfl hl (by decide) rfl (fun ls hl => ?_)
        refine lv_iinc (v := x3 + 1) (lv' := [(3, .int (x3 + 1)), (2, .int (x2 + 1)), (0, .ref (B + 0)), (1, .int x1)]) S.1 S.2.1 dX9_release_70 hl (k := 3) rfl rfl (by decide) rfl (fun ls hl => ?_)
        refine lv_goto (tgt := 43) S.1 S.2.1 dX9_release_73 (by decide) ?_
        exact ih x1 (x2 + 1) (x3 + 1) ν hf _ _ _ hM hS (lv_sub hl [2, 3, 1, 0] rfl)
set_option maxHeartbeats 4000000 in
set_option maxRecDepth 100000 in
theorem c_X9_release (l : Launch) (D : va_G) (cy : Nat → ClassId) (B : Nat) (x1 : Int32) (ν : em_MM) (r : Int32) (ν' : em_MM) (hf : f_X9_release x1 ν = some (r, ν')) :
    Met l yX9_release wsX9_release rmX9_release (ed_pC D cy (em_P D cy B ν) [.ref (B + 0), .int x1]) (ed_qI (em_A B) (em_P D cy B ν') r) 0 0 (em_A B) := by
  refine Met.ofW (cc := cX9_release) (maxL := 4) (ret := (some .int)) (by decide) rfl ?_
  intro p e s m args below meth c s₁ B0 hml hv
  obtain ⟨rfl, hM, hK⟩ := hv
  have S : CallFix p m c cX9_release 4 s _ ed_ws RX9 := ⟨B0.exec, B0.bytes, hml, findClass_of_methodNamed B0.named, fun w hw => atoms_spec (ws := wsX9_release) B0.pre w (List.mem_cons_of_mem _ hw)⟩
  have hr := B0.returns
  have hlocks := B0.notSynchronized
  have hS : va_S (em_A B) s.heap s.heap [] := va_S.rf
  have hl := lv_entry ([.ref (B + 0), .int x1]) (n := 4) (Nat.le_of_ble_eq_true rfl)
  rw [lg_entry_eq]
  generalize (lg_sl ([.ref (B + 0), .int x1]) ++ List.replicate (4 - (lg_sl ([.ref (B + 0), .int x1])).length) Slot.unset).toArray = ls at hl ⊢
  have hl : lv_has ls 4 [(0, .ref (B + 0)), (1, .int x1)] := hl
  unfold f_X9_release at hf
  refine lv_aload_n S.1 S.2.1 dX9_release_0 rfl (lv_at hl 0 rfl) ?_
  refine lv_iload_n S.1 S.2.1 dX9_release_1 rfl (lv_at hl 1 rfl) ?_
  obtain ⟨r1, hq1, hf⟩ := ed_b_e hf
  refine ed_kI (ed_rV S hK hM (c_X9_isStory _ D cy B x1 ν r1 hq1) (cwV 1 S.2.2.2.2 (ed_gV ed_w4_160 ed_w4_162 ed_wp_32 ed_w1_10 ed_w4_163) rfl rfl rfl hd_X9_isStory ⟨Nat.le_of_ble_eq_true rfl, Nat.le_of_ble_eq_true rfl⟩) (em_rc hK hM) rfl hl.1 rfl (Nat.le_of_ble_eq_true rfl) dX9_release_2 ⟨Nat.zero_le _, Nat.zero_le _⟩) hS (fun H locs hM hS => ?_)
  refine lv_if_ne (tgt := 10) S.1 S.2.1 dX9_release_5 (by decide) (fun c2 => ?_) (fun c2 => ?_)
  · replace hf := ed_in_ c2 hf
    refine lv_aload_n S.1 S.2.1 dX9_release_10 rfl (lv_at hl 0 rfl) ?_
    refine lv_iload_n S.1 S.2.1 dX9_release_11 rfl (lv_at hl 1 rfl) ?_
    refine lv_bipush (v := 6) S.1 S.2.1 dX9_release_12 (by decide) ?_
    obtain ⟨r3, hq3, hf⟩ := ed_b_e hf
    refine ed_kI (ed_rV S hK hM (c_X9_ofStory _ D cy B x1 6 ν r3 hq3) (cwV 2 S.2.2.2.2 (ed_gV ed_w4_164 ed_w4_166 ed_wp_33 ed_w1_10 ed_w4_167) rfl rfl rfl hd_X9_ofStory ⟨Nat.le_of_ble_eq_true rfl, Nat.le_of_ble_eq_true rfl⟩) (em_rc hK hM) rfl hl.1 rfl (Nat.le_of_ble_eq_true rfl) dX9_release_14 ⟨Nat.zero_le _, Nat.zero_le _⟩) hS (fun H locs hM hS => ?_)
    refine lv_if_eq (tgt := 23) S.1 S.2.1 dX9_release_17 (by decide) (fun c4 => ?_) (fun c4 => ?_)
    · replace hf := ed_ip c4 hf
      refine lv_aload_n S.1 S.2.1 dX9_release_23 rfl (lv_at hl 0 rfl) ?_
      obtain ⟨ν5, hq5, hf⟩ := ed_b_e hf
      refine ed_kV (ed_rV S hK hM (c_X9_record _ D cy B ν ν5 hq5) (cwV 0 S.2.2.2.2 (ed_gV ed_w4_75 ed_w4_77 ed_wp_21 ed_w1_10 ed_w4_78) rfl rfl rfl hd_X9_record ⟨Nat.le_of_ble_eq_true rfl, Nat.le_of_ble_eq_true rfl⟩) (em_rc hK hM) rfl hl.1 rfl (Nat.le_of_ble_eq_true rfl) dX9_release_24 ⟨Nat.zero_le _, Nat.zero_le _⟩) hS (fun H locs hM hS => ?_)
      refine lv_aload_n S.1 S.2.1 dX9_release_27 rfl (lv_at hl 0 rfl) ?_
      refine em_get S ed_uX9 hK hM 0 (by decide) ed_w4_33 rfl rfl dX9_release_28 ?_
      refine lv_iload_n S.1 S.2.1 dX9_release_31 rfl (lv_at hl 1 rfl) ?_
      refine lv_bipush (v := 6) S.1 S.2.1 dX9_release_32 (by decide) ?_
      refine ed_kI (ed_rS S hK hM (c_X9_storyAt _ D cy (em_P D cy B ν5) (em_A B) x1 6) (va_cwS 2 S.2.2.2.2 (ed_gS ed_w4_153 ed_w4_154 ed_w1_10 ed_w4_155) rfl rfl rfl hd_X9_storyAt.2 ⟨Nat.le_of_ble_eq_true rfl, Nat.le_of_ble_eq_true rfl⟩) rfl hl.1 rfl (Nat.le_of_ble_eq_true rfl) dX9_release_34 ⟨Nat.zero_le _, Nat.zero_le _⟩) hS (fun H locs hM hS => ?_)
      refine lv_iconst (v := 1) S.1 S.2.1 dX9_release_37 (by decide) ?_
      obtain ⟨hx7, hf⟩ := ed_g_e hf
      refine em_ist S hK hM hS 1 (by decide) (em_e1 cy B) hx7 dX9_release_38 (fun H locs hM hS => ?_)
      obtain ⟨ν8, eν8, hf⟩ := ed_t_e hf
      have hM : em_P D cy B ν8 H := by rw [eν8]; exact hM
      refine lv_iconst (v := 0) S.1 S.2.1 dX9_release_39 (by decide) ?_
      refine lv_istore_n (lv' := [(2, .int 0), (0, .ref (B + 0)), (1, .int x1)]) S.1 S.2.1 dX9_release_40 rfl hl (by decide) rfl (fun ls hl => ?_)
      refine lv_iconst (v := 0) S.1 S.2.1 dX9_release_41 (by decide) ?_
      refine lv_istore_n (lv' := [(3, .int 0), (2, .int 0), (0, .ref (B + 0)), (1, .int x1)]) S.1 S.2.1 dX9_release_42 rfl hl (by decide) rfl (fun ls hl => ?_)
      exact w_X9_release_43 S hr hlocks hK r ν' ed_N x1 0 0 ν8 hf _ _ _ hM hS (lv_sub hl [2, 3, 1, 0] rfl)
    · replace hf := ed_in_ c4 hf
      refine lv_bipush (v := (-4)) S.1 S.2.1 dX9_release_20 (by decide) ?_
      obtain ⟨rfl, rfl⟩ := ed_so hf
      exact ed_ri S hr hlocks hM hS dX9_release_22
  · replace hf := ed_ip c2 hf
    refine lv_iconst (v := (-1)) S.1 S.2.1 dX9_release_8 (by decide) ?_
    obtain ⟨rfl, rfl⟩ := ed_so hf
    exact ed_ri S hr hlocks hM hS dX9_release_9
set_option maxHeartbeats 4000000 in
set_option maxRecDepth 100000 in
theorem c_X9_hold (l : Launch) (D : va_G) (cy : Nat → ClassId) (B : Nat) (x1 : Int32) (ν : em_MM) (r : Int32) (ν' : em_MM) (hf : f_X9_hold x1 ν = some (r, ν')) :
    Met l yX9_hold wsX9_hold rmX9_hold (ed_pC D cy (em_P D cy B ν) [.ref (B + 0), .int x1]) (ed_qI (em_A B) (em_P D cy B ν') r) 0 0 (em_A B) := by
  refine Met.ofW (cc := cX9_hold) (maxL := 3) (ret := (some .int)) (by decide) rfl ?_
  intro p e s m args below meth c s₁ B0 hml hv
  obtain ⟨rfl, hM, hK⟩ := hv
  have S : CallFix p m c cX9_hold 3 s _ ed_ws RX9 := ⟨B0.exec, B0.bytes, hml, findClass_of_methodNamed B0.named, fun w hw => atoms_spec (ws := wsX9_hold) B0.pre w (List.mem_cons_of_mem _ hw)⟩
  have hr := B0.returns
  have hlocks := B0.notSynchronized
  have hS : va_S (em_A B) s.heap s.heap [] := va_S.rf
  have hl := lv_entry ([.ref (B + 0), .int x1]) (n := 3) (Nat.le_of_ble_eq_true rfl)
  rw [lg_entry_eq]
  generalize (lg_sl ([.ref (B + 0), .int x1]) ++ List.replicate (3 - (lg_sl ([.ref (B + 0), .int x1])).length) Slot.unset).toArray = ls at hl ⊢
  have hl : lv_has ls 3 [(0, .ref (B + 0)), (1, .int x1)] := hl
  unfold f_X9_hold at hf
  refine lv_aload_n S.1 S.2.1 dX9_hold_0 rfl (lv_at hl 0 rfl) ?_
  refine lv_iload_n S.1 S.2.1 dX9_hold_1 rfl (lv_at hl 1 rfl) ?_
  obtain ⟨r1, hq1, hf⟩ := ed_b_e hf
  refine ed_kI (ed_rV S hK hM (c_X9_isStory _ D cy B x1 ν r1 hq1) (cwV 1 S.2.2.2.2 (ed_gV ed_w4_160 ed_w4_162 ed_wp_32 ed_w1_10 ed_w4_163) rfl rfl rfl hd_X9_isStory ⟨Nat.le_of_ble_eq_true rfl, Nat.le_of_ble_eq_true rfl⟩) (em_rc hK hM) rfl hl.1 rfl (Nat.le_of_ble_eq_true rfl) dX9_hold_2 ⟨Nat.zero_le _, Nat.zero_le _⟩) hS (fun H locs hM hS => ?_)
  refine lv_if_ne (tgt := 10) S.1 S.2.1 dX9_hold_5 (by decide) (fun c2 => ?_) (fun c2 => ?_)
  · replace hf := ed_in_ c2 hf
    refine lv_aload_n S.1 S.2.1 dX9_hold_10 rfl (lv_at hl 0 rfl) ?_
    refine lv_iload_n S.1 S.2.1 dX9_hold_11 rfl (lv_at hl 1 rfl) ?_
    refine lv_bipush (v := 6) S.1 S.2.1 dX9_hold_12 (by decide) ?_
    obtain ⟨r3, hq3, hf⟩ := ed_b_e hf
    refine ed_kI (ed_rV S hK hM (c_X9_ofStory _ D cy B x1 6 ν r3 hq3) (cwV 2 S.2.2.2.2 (ed_gV ed_w4_164 ed_w4_166 ed_wp_33 ed_w1_10 ed_w4_167) rfl rfl rfl hd_X9_ofStory ⟨Nat.le_of_ble_eq_true rfl, Nat.le_of_ble_eq_true rfl⟩) (em_rc hK hM) rfl hl.1 rfl (Nat.le_of_ble_eq_true rfl) dX9_hold_14 ⟨Nat.zero_le _, Nat.zero_le _⟩) hS (fun H locs hM hS => ?_)
    refine lv_iconst (v := 1) S.1 S.2.1 dX9_hold_17 (by decide) ?_
    refine lv_icmp_eq (tgt := 24) S.1 S.2.1 dX9_hold_18 (by decide) (fun c4 => ?_) (fun c4 => ?_)
    · replace hf := ed_ip c4 hf
      refine lv_aload_n S.1 S.2.1 dX9_hold_24 rfl (lv_at hl 0 rfl) ?_
      obtain ⟨ν5, hq5, hf⟩ := ed_b_e hf
      refine ed_kV (ed_rV S hK hM (c_X9_record _ D cy B ν ν5 hq5) (cwV 0 S.2.2.2.2 (ed_gV ed_w4_75 ed_w4_77 ed_wp_21 ed_w1_10 ed_w4_78) rfl rfl rfl hd_X9_record ⟨Nat.le_of_ble_eq_true rfl, Nat.le_of_ble_eq_true rfl⟩) (em_rc hK hM) rfl hl.1 rfl (Nat.le_of_ble_eq_true rfl) dX9_hold_25 ⟨Nat.zero_le _, Nat.zero_le _⟩) hS (fun H locs hM hS => ?_)
      refine lv_aload_n S.1 S.2.1 dX9_hold_28 rfl (lv_at hl 0 rfl) ?_
      refine em_get S ed_uX9 hK hM 0 (by decide) ed_w4_33 rfl rfl dX9_hold_29 ?_
      refine lv_iload_n S.1 S.2.1 dX9_hold_32 rfl (lv_at hl 1 rfl) ?_
      refine lv_bipush (v := 6) S.1 S.2.1 dX9_hold_33 (by decide) ?_
      refine ed_kI (ed_rS S hK hM (c_X9_storyAt _ D cy (em_P D cy B ν5) (em_A B) x1 6) (va_cwS 2 S.2.2.2.2 (ed_gS ed_w4_153 ed_w4_154 ed_w1_10 ed_w4_155) rfl rfl rfl hd_X9_storyAt.2 ⟨Nat.le_of_ble_eq_true rfl, Nat.le_of_ble_eq_true rfl⟩) rfl hl.1 rfl (Nat.le_of_ble_eq_true rfl) dX9_hold_35 ⟨Nat.zero_le _, Nat.zero_le _⟩) hS (fun H locs hM hS => ?_)
      refine lv_iconst (v := 0) S.1 S.2.1 dX9_hold_38 (by decide) ?_
      obtain ⟨hx7, hf⟩ := ed_g_e hf
      refine em_ist S hK hM hS 1 (by decide) (em_e1 cy B) hx7 dX9_hold_39 (fun H locs hM hS => ?_)
      obtain ⟨ν8, eν8, hf⟩ := ed_t_e hf
      have hM : em_P D cy B ν8 H := by rw [eν8]; exact hM
      refine lv_aload_n S.1 S.2.1 dX9_hold_40 rfl (lv_at hl 0 rfl) ?_
      refine lv_iload_n S.1 S.2.1 dX9_hold_41 rfl (lv_at hl 1 rfl) ?_
      refine lv_iconst (v := 5) S.1 S.2.1 dX9_hold_42 (by decide) ?_
      obtain ⟨r9, hq9, hf⟩ := ed_b_e hf
      refine ed_kI (ed_rV S hK hM (c_X9_ofStory _ D cy B x1 5 ν8 r9 hq9) (cwV 2 S.2.2.2.2 (ed_gV ed_w4_164 ed_w4_166 ed_wp_33 ed_w1_10 ed_w4_167) rfl rfl rfl hd_X9_ofStory ⟨Nat.le_of_ble_eq_true rfl, Nat.le_of_ble_eq_true rfl⟩) (em_rc hK hM) rfl hl.1 rfl (Nat.le_of_ble_eq_true rfl) dX9_hold_43 ⟨Nat.zero_le _, Nat.zero_le _⟩) hS (fun H locs hM hS => ?_)
      refine lv_aload_n S.1 S.2.1 dX9_hold_46 rfl (lv_at hl 0 rfl) ?_
      refine em_get S ed_uX9 hK hM 0 (by decide) ed_w4_33 rfl rfl dX9_hold_47 ?_
      refine lv_iconst (v := 0) S.1 S.2.1 dX9_hold_50 (by decide) ?_
      obtain ⟨hx10, hf⟩ := ed_g_e hf
      refine em_ild S hK hM 1 (by decide) (em_e1 cy B _) hx10 dX9_hold_51 ?_
      refine lv_isub S.1 S.2.1 dX9_hold_52 ?_
      obtain ⟨y11, ey11, hf⟩ := ed_t_e hf
      refine ed_nm ey11 ?_
      refine lv_istore_n (lv' := [(2, .int y11), (0, .ref (B + 0)), (1, .int x1)]) S.1 S.2.1 dX9_hold_53 rfl hl (by decide) rfl (fun ls hl => ?_)
      refine lv_iload_n S.1 S.2.1 dX9_hold_54 rfl (lv_at hl 0 rfl) ?_
      refine lv_if_le (tgt := 62) S.1 S.2.1 dX9_hold_55 (by decide) (fun c12 => ?_) (fun c12 => ?_)
      · replace hf := ed_ip c12 hf
        refine lv_iconst (v := 0) S.1 S.2.1 dX9_hold_62 (by decide) ?_
        obtain ⟨rfl, rfl⟩ := ed_so hf
        exact ed_ri S hr hlocks hM hS dX9_hold_63
      · replace hf := ed_in_ c12 hf
        refine lv_iload_n S.1 S.2.1 dX9_hold_58 rfl (lv_at hl 0 rfl) ?_
        refine lv_goto (tgt := 63) S.1 S.2.1 dX9_hold_59 (by decide) ?_
        obtain ⟨rfl, rfl⟩ := ed_so hf
        exact ed_ri S hr hlocks hM hS dX9_hold_63
    · replace hf := ed_in_ c4 hf
      refine lv_bipush (v := (-4)) S.1 S.2.1 dX9_hold_21 (by decide) ?_
      obtain ⟨rfl, rfl⟩ := ed_so hf
      exact ed_ri S hr hlocks hM hS dX9_hold_23
  · replace hf := ed_ip c2 hf
    refine lv_iconst (v := (-1)) S.1 S.2.1 dX9_hold_8 (by decide) ?_
    obtain ⟨rfl, rfl⟩ := ed_so hf
    exact ed_ri S hr hlocks hM hS dX9_hold_9
set_option maxHeartbeats 4000000 in
set_option maxRecDepth 100000 in
theorem c_X9_setEmbargo (l : Launch) (D : va_G) (cy : Nat → ClassId) (B : Nat) (x1 x2 : Int32) (ν : em_MM) (r : Int32) (ν' : em_MM) (hf : f_X9_setEmbargo x1 x2 ν = some (r, ν')) :
    Met l yX9_setEmbargo wsX9_setEmbargo rmX9_setEmbargo (ed_pC D cy (em_P D cy B ν) [.ref (B + 0), .int x1, .int x2]) (ed_qI (em_A B) (em_P D cy B ν') r) 0 0 (em_A B) := by
  refine Met.ofW (cc := cX9_setEmbargo) (maxL := 3) (ret := (some .int)) (by decide) rfl ?_
  intro p e s m args below meth c s₁ B0 hml hv
  obtain ⟨rfl, hM, hK⟩ := hv
  have S : CallFix p m c cX9_setEmbargo 3 s _ ed_ws RX9 := ⟨B0.exec, B0.bytes, hml, findClass_of_methodNamed B0.named, fun w hw => atoms_spec (ws := wsX9_setEmbargo) B0.pre w (List.mem_cons_of_mem _ hw)⟩
  have hr := B0.returns
  have hlocks := B0.notSynchronized
  have hS : va_S (em_A B) s.heap s.heap [] := va_S.rf
  have hl := lv_entry ([.ref (B + 0), .int x1, .int x2]) (n := 3) (Nat.le_of_ble_eq_true rfl)
  rw [lg_entry_eq]
  generalize (lg_sl ([.ref (B + 0), .int x1, .int x2]) ++ List.replicate (3 - (lg_sl ([.ref (B + 0), .int x1, .int x2])).length) Slot.unset).toArray = ls at hl ⊢
  have hl : lv_has ls 3 [(0, .ref (B + 0)), (1, .int x1), (2, .int x2)] := hl
  unfold f_X9_setEmbargo at hf
  refine lv_aload_n S.1 S.2.1 dX9_setEmbargo_0 rfl (lv_at hl 0 rfl) ?_
  refine lv_iload_n S.1 S.2.1 dX9_setEmbargo_1 rfl (lv_at hl 1 rfl) ?_
  obtain ⟨r1, hq1, hf⟩ := ed_b_e hf
  refine ed_kI (ed_rV S hK hM (c_X9_isStory _ D cy B x1 ν r1 hq1) (cwV 1 S.2.2.2.2 (ed_gV ed_w4_160 ed_w4_162 ed_wp_32 ed_w1_10 ed_w4_163) rfl rfl rfl hd_X9_isStory ⟨Nat.le_of_ble_eq_true rfl, Nat.le_of_ble_eq_true rfl⟩) (em_rc hK hM) rfl hl.1 rfl (Nat.le_of_ble_eq_true rfl) dX9_setEmbargo_2 ⟨Nat.zero_le _, Nat.zero_le _⟩) hS (fun H locs hM hS => ?_)
  refine lv_if_ne (tgt := 10) S.1 S.2.1 dX9_setEmbargo_5 (by decide) (fun c2 => ?_) (fun c2 => ?_)
  · replace hf := ed_in_ c2 hf
    refine lv_iload_n S.1 S.2.1 dX9_setEmbargo_10 rfl (lv_at hl 2 rfl) ?_
    refine lv_iconst (v := 0) S.1 S.2.1 dX9_setEmbargo_11 (by decide) ?_
    refine lv_sipush (v := 999) S.1 S.2.1 dX9_setEmbargo_12 (by decide) ?_
    refine ed_kI (ed_rS S hK hM (c_X9_in _ D cy (em_P D cy B ν) (em_A B) x2 0 999) (va_cwS 3 S.2.2.2.2 (ed_gS ed_w4_71 ed_w4_72 ed_w1_10 ed_w4_73) rfl rfl rfl hd_X9_in.2 ⟨Nat.le_of_ble_eq_true rfl, Nat.le_of_ble_eq_true rfl⟩) rfl hl.1 rfl (Nat.le_of_ble_eq_true rfl) dX9_setEmbargo_15 ⟨Nat.zero_le _, Nat.zero_le _⟩) hS (fun H locs hM hS => ?_)
    refine lv_if_ne (tgt := 24) S.1 S.2.1 dX9_setEmbargo_18 (by decide) (fun c4 => ?_) (fun c4 => ?_)
    · replace hf := ed_in_ c4 hf
      refine lv_aload_n S.1 S.2.1 dX9_setEmbargo_24 rfl (lv_at hl 0 rfl) ?_
      refine lv_iload_n S.1 S.2.1 dX9_setEmbargo_25 rfl (lv_at hl 1 rfl) ?_
      refine lv_bipush (v := 6) S.1 S.2.1 dX9_setEmbargo_26 (by decide) ?_
      obtain ⟨r5, hq5, hf⟩ := ed_b_e hf
      refine ed_kI (ed_rV S hK hM (c_X9_ofStory _ D cy B x1 6 ν r5 hq5) (cwV 2 S.2.2.2.2 (ed_gV ed_w4_164 ed_w4_166 ed_wp_33 ed_w1_10 ed_w4_167) rfl rfl rfl hd_X9_ofStory ⟨Nat.le_of_ble_eq_true rfl, Nat.le_of_ble_eq_true rfl⟩) (em_rc hK hM) rfl hl.1 rfl (Nat.le_of_ble_eq_true rfl) dX9_setEmbargo_28 ⟨Nat.zero_le _, Nat.zero_le _⟩) hS (fun H locs hM hS => ?_)
      refine lv_iconst (v := 1) S.1 S.2.1 dX9_setEmbargo_31 (by decide) ?_
      refine lv_icmp_le (tgt := 40) S.1 S.2.1 dX9_setEmbargo_32 (by decide) (fun c6 => ?_) (fun c6 => ?_)
      · replace hf := ed_ip c6 hf
        refine lv_aload_n S.1 S.2.1 dX9_setEmbargo_40 rfl (lv_at hl 0 rfl) ?_
        refine lv_iload_n S.1 S.2.1 dX9_setEmbargo_41 rfl (lv_at hl 1 rfl) ?_
        refine lv_iconst (v := 5) S.1 S.2.1 dX9_setEmbargo_42 (by decide) ?_
        refine ed_kI (ed_rS S hK hM (c_X9_storyAt _ D cy (em_P D cy B ν) (em_A B) x1 5) (va_cwS 2 S.2.2.2.2 (ed_gS ed_w4_153 ed_w4_154 ed_w1_10 ed_w4_155) rfl rfl rfl hd_X9_storyAt.2 ⟨Nat.le_of_ble_eq_true rfl, Nat.le_of_ble_eq_true rfl⟩) rfl hl.1 rfl (Nat.le_of_ble_eq_true rfl) dX9_setEmbargo_43 ⟨Nat.zero_le _, Nat.zero_le _⟩) hS (fun H locs hM hS => ?_)
        refine lv_iload_n S.1 S.2.1 dX9_setEmbargo_46 rfl (lv_at hl 2 rfl) ?_
        obtain ⟨r8, ν8, hq8, hf⟩ := ed_b2_e hf
        refine ed_kI (ed_rV S hK hM (c_X9_becomes _ D cy B (f_X9_storyAt x1 5) x2 ν r8 ν8 hq8) (cwV 2 S.2.2.2.2 (ed_gV ed_w4_90 ed_w4_92 ed_wp_23 ed_w1_10 ed_w4_93) rfl rfl rfl hd_X9_becomes ⟨Nat.le_of_ble_eq_true rfl, Nat.le_of_ble_eq_true rfl⟩) (em_rc hK hM) rfl hl.1 rfl (Nat.le_of_ble_eq_true rfl) dX9_setEmbargo_47 ⟨Nat.zero_le _, Nat.zero_le _⟩) hS (fun H locs hM hS => ?_)
        obtain ⟨rfl, rfl⟩ := ed_so hf
        exact ed_ri S hr hlocks hM hS dX9_setEmbargo_50
      · replace hf := ed_in_ c6 hf
        refine lv_bipush (v := (-4)) S.1 S.2.1 dX9_setEmbargo_35 (by decide) ?_
        refine lv_goto (tgt := 50) S.1 S.2.1 dX9_setEmbargo_37 (by decide) ?_
        obtain ⟨rfl, rfl⟩ := ed_so hf
        exact ed_ri S hr hlocks hM hS dX9_setEmbargo_50
    · replace hf := ed_ip c4 hf
      refine lv_bipush (v := (-2)) S.1 S.2.1 dX9_setEmbargo_21 (by decide) ?_
      obtain ⟨rfl, rfl⟩ := ed_so hf
      exact ed_ri S hr hlocks hM hS dX9_setEmbargo_23
  · replace hf := ed_ip c2 hf
    refine lv_iconst (v := (-1)) S.1 S.2.1 dX9_setEmbargo_8 (by decide) ?_
    obtain ⟨rfl, rfl⟩ := ed_so hf
    exact ed_ri S hr hlocks hM hS dX9_setEmbargo_9
set_option maxHeartbeats 4000000 in
set_option maxRecDepth 100000 in
theorem c_X9_correct (l : Launch) (D : va_G) (cy : Nat → ClassId) (B : Nat) (x1 : Int32) (ν : em_MM) (r : Int32) (ν' : em_MM) (hf : f_X9_correct x1 ν = some (r, ν')) :
    Met l yX9_correct wsX9_correct rmX9_correct (ed_pC D cy (em_P D cy B ν) [.ref (B + 0), .int x1]) (ed_qI (em_A B) (em_P D cy B ν') r) 0 0 (em_A B) := by
  refine Met.ofW (cc := cX9_correct) (maxL := 2) (ret := (some .int)) (by decide) rfl ?_
  intro p e s m args below meth c s₁ B0 hml hv
  obtain ⟨rfl, hM, hK⟩ := hv
  have S : CallFix p m c cX9_correct 2 s _ ed_ws RX9 := ⟨B0.exec, B0.bytes, hml, findClass_of_methodNamed B0.named, fun w hw => atoms_spec (ws := wsX9_correct) B0.pre w (List.mem_cons_of_mem _ hw)⟩
  have hr := B0.returns
  have hlocks := B0.notSynchronized
  have hS : va_S (em_A B) s.heap s.heap [] := va_S.rf
  have hl := lv_entry ([.ref (B + 0), .int x1]) (n := 2) (Nat.le_of_ble_eq_true rfl)
  rw [lg_entry_eq]
  generalize (lg_sl ([.ref (B + 0), .int x1]) ++ List.replicate (2 - (lg_sl ([.ref (B + 0), .int x1])).length) Slot.unset).toArray = ls at hl ⊢
  have hl : lv_has ls 2 [(0, .ref (B + 0)), (1, .int x1)] := hl
  unfold f_X9_correct at hf
  refine lv_aload_n S.1 S.2.1 dX9_correct_0 rfl (lv_at hl 0 rfl) ?_
  refine lv_iload_n S.1 S.2.1 dX9_correct_1 rfl (lv_at hl 1 rfl) ?_
  obtain ⟨r1, hq1, hf⟩ := ed_b_e hf
  refine ed_kI (ed_rV S hK hM (c_X9_isStory _ D cy B x1 ν r1 hq1) (cwV 1 S.2.2.2.2 (ed_gV ed_w4_160 ed_w4_162 ed_wp_32 ed_w1_10 ed_w4_163) rfl rfl rfl hd_X9_isStory ⟨Nat.le_of_ble_eq_true rfl, Nat.le_of_ble_eq_true rfl⟩) (em_rc hK hM) rfl hl.1 rfl (Nat.le_of_ble_eq_true rfl) dX9_correct_2 ⟨Nat.zero_le _, Nat.zero_le _⟩) hS (fun H locs hM hS => ?_)
  refine lv_if_ne (tgt := 10) S.1 S.2.1 dX9_correct_5 (by decide) (fun c2 => ?_) (fun c2 => ?_)
  · replace hf := ed_in_ c2 hf
    refine lv_aload_n S.1 S.2.1 dX9_correct_10 rfl (lv_at hl 0 rfl) ?_
    refine lv_iload_n S.1 S.2.1 dX9_correct_11 rfl (lv_at hl 1 rfl) ?_
    refine lv_bipush (v := 6) S.1 S.2.1 dX9_correct_12 (by decide) ?_
    obtain ⟨r3, hq3, hf⟩ := ed_b_e hf
    refine ed_kI (ed_rV S hK hM (c_X9_ofStory _ D cy B x1 6 ν r3 hq3) (cwV 2 S.2.2.2.2 (ed_gV ed_w4_164 ed_w4_166 ed_wp_33 ed_w1_10 ed_w4_167) rfl rfl rfl hd_X9_ofStory ⟨Nat.le_of_ble_eq_true rfl, Nat.le_of_ble_eq_true rfl⟩) (em_rc hK hM) rfl hl.1 rfl (Nat.le_of_ble_eq_true rfl) dX9_correct_14 ⟨Nat.zero_le _, Nat.zero_le _⟩) hS (fun H locs hM hS => ?_)
    refine lv_iconst (v := 2) S.1 S.2.1 dX9_correct_17 (by decide) ?_
    refine lv_icmp_eq (tgt := 24) S.1 S.2.1 dX9_correct_18 (by decide) (fun c4 => ?_) (fun c4 => ?_)
    · replace hf := ed_ip c4 hf
      refine lv_aload_n S.1 S.2.1 dX9_correct_24 rfl (lv_at hl 0 rfl) ?_
      refine lv_iload_n S.1 S.2.1 dX9_correct_25 rfl (lv_at hl 1 rfl) ?_
      refine lv_bipush (v := 7) S.1 S.2.1 dX9_correct_26 (by decide) ?_
      obtain ⟨r5, hq5, hf⟩ := ed_b_e hf
      refine ed_kI (ed_rV S hK hM (c_X9_ofStory _ D cy B x1 7 ν r5 hq5) (cwV 2 S.2.2.2.2 (ed_gV ed_w4_164 ed_w4_166 ed_wp_33 ed_w1_10 ed_w4_167) rfl rfl rfl hd_X9_ofStory ⟨Nat.le_of_ble_eq_true rfl, Nat.le_of_ble_eq_true rfl⟩) (em_rc hK hM) rfl hl.1 rfl (Nat.le_of_ble_eq_true rfl) dX9_correct_28 ⟨Nat.zero_le _, Nat.zero_le _⟩) hS (fun H locs hM hS => ?_)
      refine lv_bipush (v := 6) S.1 S.2.1 dX9_correct_31 (by decide) ?_
      refine lv_icmp_ne (tgt := 39) S.1 S.2.1 dX9_correct_33 (by decide) (fun c6 => ?_) (fun c6 => ?_)
      · replace hf := ed_in_ c6 hf
        refine lv_aload_n S.1 S.2.1 dX9_correct_39 rfl (lv_at hl 0 rfl) ?_
        obtain ⟨ν7, hq7, hf⟩ := ed_b_e hf
        refine ed_kV (ed_rV S hK hM (c_X9_record _ D cy B ν ν7 hq7) (cwV 0 S.2.2.2.2 (ed_gV ed_w4_75 ed_w4_77 ed_wp_21 ed_w1_10 ed_w4_78) rfl rfl rfl hd_X9_record ⟨Nat.le_of_ble_eq_true rfl, Nat.le_of_ble_eq_true rfl⟩) (em_rc hK hM) rfl hl.1 rfl (Nat.le_of_ble_eq_true rfl) dX9_correct_40 ⟨Nat.zero_le _, Nat.zero_le _⟩) hS (fun H locs hM hS => ?_)
        refine lv_aload_n S.1 S.2.1 dX9_correct_43 rfl (lv_at hl 0 rfl) ?_
        refine em_get S ed_uX9 hK hM 0 (by decide) ed_w4_33 rfl rfl dX9_correct_44 ?_
        refine lv_iload_n S.1 S.2.1 dX9_correct_47 rfl (lv_at hl 1 rfl) ?_
        refine lv_bipush (v := 10) S.1 S.2.1 dX9_correct_48 (by decide) ?_
        refine lv_aload_n S.1 S.2.1 dX9_correct_50 rfl (lv_at hl 0 rfl) ?_
        refine lv_iload_n S.1 S.2.1 dX9_correct_51 rfl (lv_at hl 1 rfl) ?_
        refine lv_bipush (v := 7) S.1 S.2.1 dX9_correct_52 (by decide) ?_
        obtain ⟨r8, hq8, hf⟩ := ed_b_e hf
        refine ed_kI (ed_rV S hK hM (c_X9_ofStory _ D cy B x1 7 ν7 r8 hq8) (cwV 2 S.2.2.2.2 (ed_gV ed_w4_164 ed_w4_166 ed_wp_33 ed_w1_10 ed_w4_167) rfl rfl rfl hd_X9_ofStory ⟨Nat.le_of_ble_eq_true rfl, Nat.le_of_ble_eq_true rfl⟩) (em_rc hK hM) rfl hl.1 rfl (Nat.le_of_ble_eq_true rfl) dX9_correct_54 ⟨Nat.zero_le _, Nat.zero_le _⟩) hS (fun H locs hM hS => ?_)
        refine lv_iadd S.1 S.2.1 dX9_correct_57 ?_
        refine ed_kI (ed_rS S hK hM (c_X9_storyAt _ D cy (em_P D cy B ν7) (em_A B) x1 (10 + r8)) (va_cwS 2 S.2.2.2.2 (ed_gS ed_w4_153 ed_w4_154 ed_w1_10 ed_w4_155) rfl rfl rfl hd_X9_storyAt.2 ⟨Nat.le_of_ble_eq_true rfl, Nat.le_of_ble_eq_true rfl⟩) rfl hl.1 rfl (Nat.le_of_ble_eq_true rfl) dX9_correct_58 ⟨Nat.zero_le _, Nat.zero_le _⟩) hS (fun H locs hM hS => ?_)
        refine lv_aload_n S.1 S.2.1 dX9_correct_61 rfl (lv_at hl 0 rfl) ?_
        refine em_get S ed_uX9 hK hM 0 (by decide) ed_w4_33 rfl rfl dX9_correct_62 ?_
        refine lv_iconst (v := 0) S.1 S.2.1 dX9_correct_65 (by decide) ?_
        obtain ⟨hx10, hf⟩ := ed_g_e hf
        refine em_ild S hK hM 1 (by decide) (em_e1 cy B _) hx10 dX9_correct_66 ?_
        obtain ⟨hx11, hf⟩ := ed_g_e hf
        refine em_ist S hK hM hS 1 (by decide) (em_e1 cy B) hx11 dX9_correct_67 (fun H locs hM hS => ?_)
        obtain ⟨ν12, eν12, hf⟩ := ed_t_e hf
        have hM : em_P D cy B ν12 H := by rw [eν12]; exact hM
        refine lv_aload_n S.1 S.2.1 dX9_correct_68 rfl (lv_at hl 0 rfl) ?_
        refine em_get S ed_uX9 hK hM 0 (by decide) ed_w4_33 rfl rfl dX9_correct_69 ?_
        refine lv_iload_n S.1 S.2.1 dX9_correct_72 rfl (lv_at hl 1 rfl) ?_
        refine lv_bipush (v := 7) S.1 S.2.1 dX9_correct_73 (by decide) ?_
        refine ed_kI (ed_rS S hK hM (c_X9_storyAt _ D cy (em_P D cy B ν12) (em_A B) x1 7) (va_cwS 2 S.2.2.2.2 (ed_gS ed_w4_153 ed_w4_154 ed_w1_10 ed_w4_155) rfl rfl rfl hd_X9_storyAt.2 ⟨Nat.le_of_ble_eq_true rfl, Nat.le_of_ble_eq_true rfl⟩) rfl hl.1 rfl (Nat.le_of_ble_eq_true rfl) dX9_correct_75 ⟨Nat.zero_le _, Nat.zero_le _⟩) hS (fun H locs hM hS => ?_)
        refine lv_dup2_11 S.1 S.2.1 dX9_correct_78 rfl rfl ?_
        obtain ⟨hx14, hf⟩ := ed_g_e hf
        refine em_ild S hK hM 1 (by decide) (em_e1 cy B _) hx14 dX9_correct_79 ?_
        refine lv_iconst (v := 1) S.1 S.2.1 dX9_correct_80 (by decide) ?_
        refine lv_iadd S.1 S.2.1 dX9_correct_81 ?_
        obtain ⟨hx15, hf⟩ := ed_g_e hf
        refine em_ist S hK hM hS 1 (by decide) (em_e1 cy B) hx15 dX9_correct_82 (fun H locs hM hS => ?_)
        obtain ⟨ν16, eν16, hf⟩ := ed_t_e hf
        have hM : em_P D cy B ν16 H := by rw [eν16]; exact hM
        refine lv_aload_n S.1 S.2.1 dX9_correct_83 rfl (lv_at hl 0 rfl) ?_
        refine lv_iconst (v := 5) S.1 S.2.1 dX9_correct_84 (by decide) ?_
        refine lv_iload_n S.1 S.2.1 dX9_correct_85 rfl (lv_at hl 1 rfl) ?_
        refine lv_bipush (v := (-5)) S.1 S.2.1 dX9_correct_86 (by decide) ?_
        obtain ⟨ν17, hq17, hf⟩ := ed_b_e hf
        refine ed_kV (ed_rV S hK hM (c_X9_log _ D cy B 5 x1 (-5) ν16 ν17 hq17) (cwV 3 S.2.2.2.2 (ed_gV ed_w4_184 ed_w4_186 ed_wp_35 ed_w1_10 ed_w4_187) rfl rfl rfl hd_X9_log ⟨Nat.le_of_ble_eq_true rfl, Nat.le_of_ble_eq_true rfl⟩) (em_rc hK hM) rfl hl.1 rfl (Nat.le_of_ble_eq_true rfl) dX9_correct_88 ⟨Nat.zero_le _, Nat.zero_le _⟩) hS (fun H locs hM hS => ?_)
        refine lv_aload_n S.1 S.2.1 dX9_correct_91 rfl (lv_at hl 0 rfl) ?_
        refine lv_iload_n S.1 S.2.1 dX9_correct_92 rfl (lv_at hl 1 rfl) ?_
        refine lv_bipush (v := 7) S.1 S.2.1 dX9_correct_93 (by decide) ?_
        obtain ⟨r18, hq18, hf⟩ := ed_b_e hf
        refine ed_kI (ed_rV S hK hM (c_X9_ofStory _ D cy B x1 7 ν17 r18 hq18) (cwV 2 S.2.2.2.2 (ed_gV ed_w4_164 ed_w4_166 ed_wp_33 ed_w1_10 ed_w4_167) rfl rfl rfl hd_X9_ofStory ⟨Nat.le_of_ble_eq_true rfl, Nat.le_of_ble_eq_true rfl⟩) (em_rc hK hM) rfl hl.1 rfl (Nat.le_of_ble_eq_true rfl) dX9_correct_95 ⟨Nat.zero_le _, Nat.zero_le _⟩) hS (fun H locs hM hS => ?_)
        obtain ⟨rfl, rfl⟩ := ed_so hf
        exact ed_ri S hr hlocks hM hS dX9_correct_98
      · replace hf := ed_ip c6 hf
        refine lv_bipush (v := (-3)) S.1 S.2.1 dX9_correct_36 (by decide) ?_
        obtain ⟨rfl, rfl⟩ := ed_so hf
        exact ed_ri S hr hlocks hM hS dX9_correct_38
    · replace hf := ed_in_ c4 hf
      refine lv_bipush (v := (-4)) S.1 S.2.1 dX9_correct_21 (by decide) ?_
      obtain ⟨rfl, rfl⟩ := ed_so hf
      exact ed_ri S hr hlocks hM hS dX9_correct_23
  · replace hf := ed_ip c2 hf
    refine lv_iconst (v := (-1)) S.1 S.2.1 dX9_correct_8 (by decide) ?_
    obtain ⟨rfl, rfl⟩ := ed_so hf
    exact ed_ri S hr hlocks hM hS dX9_correct_9
set_option maxHeartbeats 4000000 in
set_option maxRecDepth 100000 in
theorem w_X9_inUse_5 {p : Program} {l : Launch} {e : Env} {s : State} {m : MethodId} {args : Array Value} {below : List Frame} {meth : Method} {c : Code} {D : va_G} {cy : Nat → ClassId} {B : Nat} (S : CallFix p m c cX9_inUse 5 s args ed_ws RX9) (hr : meth.sig.returnType = (some .int)) (hlocks : meth.locks = false) (hK : ed_K D cy s) (ν : em_MM) (r : Int32) :
    ∀ (n : Nat), ∀ (x1 x2 x3 x4 : Int32), f_X9_inUse_5 ν n x1 x2 x3 x4 = some r → ∀ (H : Heap) (locs : List Loc) (ls : Array Slot), em_P D cy B ν H → va_S (em_A B) s.heap H locs → lv_has ls 5 [(0, .ref (B + 0)), (1, .int x1), (2, .int x2), (3, .int x3), (4, .int x4)] → W p l e (headSpec wsX9_inUse rmX9_inUse).room s m args below meth c H locs 0 0 (MQ below (ed_qI (em_A B) (em_P D cy B ν) r) args s 0 0 (em_A B)) (F0 m 5 ls []) := by
  intro n
  induction n with
  | zero => intro x1 x2 x3 x4 hf; rw [f_X9_inUse_5] at hf; cases hf
  | succ n ih =>
    intro x1 x2 x3 x4 hf H locs ls hM hS hl
    rw [f_X9_inUse_5] at hf
    refine lv_iload S.1 S.2.1 dX9_inUse_5 (lv_at hl 4 rfl) ?_
    refine lv_aload_n S.1 S.2.1 dX9_inUse_7 rfl (lv_at hl 0 rfl) ?_
    refine em_get S ed_uX9 hK hM 0 (by decide) ed_w4_33 rfl rfl dX9_inUse_8 ?_
    refine lv_iconst (v := 3) S.1 S.2.1 dX9_inUse_11 (by decide) ?_
    obtain ⟨hx1, hf⟩ := ed_g_e hf
    refine em_ild S hK hM 1 (by decide) (em_e1 cy B _) hx1 dX9_inUse_12 ?_
    refine lv_icmp_ge (tgt := 73) S.1 S.2.1 dX9_inUse_13 (by decide) (fun c2 => ?_) (fun c2 => ?_)
    · replace hf := ed_ip c2 hf
      refine lv_iload_n S.1 S.2.1 dX9_inUse_73 rfl (lv_at hl 3 rfl) ?_
      obtain rfl := Option.some.inj hf
      exact ed_ri S hr hlocks hM hS dX9_inUse_74
    · replace hf := ed_in_ c2 hf
      refine lv_iload_n S.1 S.2.1 dX9_inUse_16 rfl (lv_at hl 3 rfl) ?_
      refine lv_aload_n S.1 S.2.1 dX9_inUse_17 rfl (lv_at hl 0 rfl) ?_
      refine lv_iload S.1 S.2.1 dX9_inUse_18 (lv_at hl 4 rfl) ?_
      refine lv_iconst (v := 0) S.1 S.2.1 dX9_inUse_20 (by decide) ?_
      obtain ⟨r3, hq3, hf⟩ := ed_b_e hf
      refine ed_kI (ed_rV S hK hM (c_X9_ofCopy _ D cy B x4 0 ν r3 hq3) (cwV 2 S.2.2.2.2 (ed_gV ed_w4_98 ed_w4_100 ed_wp_24 ed_w1_10 ed_w4_101) rfl rfl rfl hd_X9_ofCopy ⟨Nat.le_of_ble_eq_true rfl, Nat.le_of_ble_eq_true rfl⟩) (em_rc hK hM) rfl hl.1 rfl (Nat.le_of_ble_eq_true rfl) dX9_inUse_21 ⟨Nat.zero_le _, Nat.zero_le _⟩) hS (fun H locs hM hS => ?_)
      refine lv_iload_n S.1 S.2.1 dX9_inUse_24 rfl (lv_at hl 1 rfl) ?_
      refine lv_icmp_ne (tgt := 64) S.1 S.2.1 dX9_inUse_25 (by decide) (fun c4 => ?_) (fun c4 => ?_)
      · replace hf := ed_in_ c4 hf
        refine lv_iconst (v := 0) S.1 S.2.1 dX9_inUse_64 (by decide) ?_
        refine lv_iadd S.1 S.2.1 dX9_inUse_65 ?_
        refine lv_istore_n (lv' := [(3, .int (x3 + 0)), (0, .ref (B + 0)), (1, .int x1), (2, .int x2), (4, .int x4)]) S.1 S.2.1 dX9_inUse_66 rfl hl (by decide) rfl (fun ls hl => ?_)
        refine lv_iinc (v := x4 + 1) (lv' := [(4, .int (x4 + 1)), (3, .int (x3 + 0)), (0, .ref (B + 0)), (1, .int x1), (2, .int x2)]) S.1 S.2.1 dX9_inUse_67 hl (k := 4) rfl rfl (by decide) rfl (fun ls hl => ?_)
        refine lv_goto (tgt := 5) S.1 S.2.1 dX9_inUse_70 (by decide) ?_
        exact ih x1 x2 (x3 + 0) (x4 + 1) hf _ _ _ hM hS (lv_sub hl [2, 3, 4, 1, 0] rfl)
      · replace hf := ed_ip c4 hf
        refine lv_aload_n S.1 S.2.1 dX9_inUse_28 rfl (lv_at hl 0 rfl) ?_
        refine lv_iload S.1 S.2.1 dX9_inUse_29 (lv_at hl 4 rfl) ?_
        refine lv_iconst (v := 2) S.1 S.2.1 dX9_inUse_31 (by decide) ?_
        obtain ⟨r5, hq5, hf⟩ := ed_b_e hf
        refine ed_kI (ed_rV S hK hM (c_X9_ofCopy _ D cy B x4 2 ν r5 hq5) (cwV 2 S.2.2.2.2 (ed_gV ed_w4_98 ed_w4_100 ed_wp_24 ed_w1_10 ed_w4_101) rfl rfl rfl hd_X9_ofCopy ⟨Nat.le_of_ble_eq_true rfl, Nat.le_of_ble_eq_true rfl⟩) (em_rc hK hM) rfl hl.1 rfl (Nat.le_of_ble_eq_true rfl) dX9_inUse_32 ⟨Nat.zero_le _, Nat.zero_le _⟩) hS (fun H locs hM hS => ?_)
        refine lv_iconst (v := 1) S.1 S.2.1 dX9_inUse_35 (by decide) ?_
        refine lv_icmp_ne (tgt := 64) S.1 S.2.1 dX9_inUse_36 (by decide) (fun c6 => ?_) (fun c6 => ?_)
        · replace hf := ed_in_ c6 hf
          refine lv_iconst (v := 0) S.1 S.2.1 dX9_inUse_64 (by decide) ?_
          refine lv_iadd S.1 S.2.1 dX9_inUse_65 ?_
          refine lv_istore_n (lv' := [(3, .int (x3 + 0)), (0, .ref (B + 0)), (1, .int x1), (2, .int x2), (4, .int x4)]) S.1 S.2.1 dX9_inUse_66 rfl hl (by decide) rfl (fun ls hl => ?_)
          refine lv_iinc (v := x4 + 1) (lv' := [(4, .int (x4 + 1)), (3, .int (x3 + 0)), (0, .ref (B + 0)), (1, .int x1), (2, .int x2)]) S.1 S.2.1 dX9_inUse_67 hl (k := 4) rfl rfl (by decide) rfl (fun ls hl => ?_)
          refine lv_goto (tgt := 5) S.1 S.2.1 dX9_inUse_70 (by decide) ?_
          exact ih x1 x2 (x3 + 0) (x4 + 1) hf _ _ _ hM hS (lv_sub hl [2, 3, 4, 1, 0] rfl)
        · replace hf := ed_ip c6 hf
          refine lv_iload_n S.1 S.2.1 dX9_inUse_39 rfl (lv_at hl 2 rfl) ?_
          refine lv_if_eq (tgt := 60) S.1 S.2.1 dX9_inUse_40 (by decide) (fun c7 => ?_) (fun c7 => ?_)
          · replace hf := ed_ip c7 hf
            refine lv_iconst (v := 1) S.1 S.2.1 dX9_inUse_60 (by decide) ?_
            refine lv_goto (tgt := 65) S.1 S.2.1 dX9_inUse_61 (by decide) ?_
            refine lv_iadd S.1 S.2.1 dX9_inUse_65 ?_
            refine lv_istore_n (lv' := [(3, .int (x3 + 1)), (0, .ref (B + 0)), (1, .int x1), (2, .int x2), (4, .int x4)]) S.1 S.2.1 dX9_inUse_66 rfl hl (by decide) rfl (fun ls hl => ?_)
            refine lv_iinc (v := x4 + 1) (lv' := [(4, .int (x4 + 1)), (3, .int (x3 + 1)), (0, .ref (B + 0)), (1, .int x1), (2, .int x2)]) S.1 S.2.1 dX9_inUse_67 hl (k := 4) rfl rfl (by decide) rfl (fun ls hl => ?_)
            refine lv_goto (tgt := 5) S.1 S.2.1 dX9_inUse_70 (by decide) ?_
            exact ih x1 x2 (x3 + 1) (x4 + 1) hf _ _ _ hM hS (lv_sub hl [2, 3, 4, 1, 0] rfl)
          · replace hf := ed_in_ c7 hf
            refine lv_aload_n S.1 S.2.1 dX9_inUse_43 rfl (lv_at hl 0 rfl) ?_
            refine lv_iload S.1 S.2.1 dX9_inUse_44 (lv_at hl 4 rfl) ?_
            refine lv_iconst (v := 5) S.1 S.2.1 dX9_inUse_46 (by decide) ?_
            obtain ⟨r8, hq8, hf⟩ := ed_b_e hf
            refine ed_kI (ed_rV S hK hM (c_X9_ofCopy _ D cy B x4 5 ν r8 hq8) (cwV 2 S.2.2.2.2 (ed_gV ed_w4_98 ed_w4_100 ed_wp_24 ed_w1_10 ed_w4_101) rfl rfl rfl hd_X9_ofCopy ⟨Nat.le_of_ble_eq_true rfl, Nat.le_of_ble_eq_true rfl⟩) (em_rc hK hM) rfl hl.1 rfl (Nat.le_of_ble_eq_true rfl) dX9_inUse_47 ⟨Nat.zero_le _, Nat.zero_le _⟩) hS (fun H locs hM hS => ?_)
            refine lv_aload_n S.1 S.2.1 dX9_inUse_50 rfl (lv_at hl 0 rfl) ?_
            refine lv_iload_n S.1 S.2.1 dX9_inUse_51 rfl (lv_at hl 1 rfl) ?_
            refine lv_bipush (v := 7) S.1 S.2.1 dX9_inUse_52 (by decide) ?_
            obtain ⟨r9, hq9, hf⟩ := ed_b_e hf
            refine ed_kI (ed_rV S hK hM (c_X9_ofStory _ D cy B x1 7 ν r9 hq9) (cwV 2 S.2.2.2.2 (ed_gV ed_w4_164 ed_w4_166 ed_wp_33 ed_w1_10 ed_w4_167) rfl rfl rfl hd_X9_ofStory ⟨Nat.le_of_ble_eq_true rfl, Nat.le_of_ble_eq_true rfl⟩) (em_rc hK hM) rfl hl.1 rfl (Nat.le_of_ble_eq_true rfl) dX9_inUse_54 ⟨Nat.zero_le _, Nat.zero_le _⟩) hS (fun H locs hM hS => ?_)
            refine lv_icmp_ne (tgt := 64) S.1 S.2.1 dX9_inUse_57 (by decide) (fun c10 => ?_) (fun c10 => ?_)
            · replace hf := ed_in_ c10 hf
              refine lv_iconst (v := 0) S.1 S.2.1 dX9_inUse_64 (by decide) ?_
              refine lv_iadd S.1 S.2.1 dX9_inUse_65 ?_
              refine lv_istore_n (lv' := [(3, .int (x3 + 0)), (0, .ref (B + 0)), (1, .int x1), (2, .int x2), (4, .int x4)]) S.1 S.2.1 dX9_inUse_66 rfl hl (by decide) rfl (fun ls hl => ?_)
              refine lv_iinc (v := x4 + 1) (lv' := [(4, .int (x4 + 1)), (3, .int (x3 + 0)), (0, .ref (B + 0)), (1, .int x1), (2, .int x2)]) S.1 S.2.1 dX9_inUse_67 hl (k := 4) rfl rfl (by decide) rfl (fun ls hl => ?_)
              refine lv_goto (tgt := 5) S.1 S.2.1 dX9_inUse_70 (by decide) ?_
              exact ih x1 x2 (x3 + 0) (x4 + 1) hf _ _ _ hM hS (lv_sub hl [2, 3, 4, 1, 0] rfl)
            · replace hf := ed_ip c10 hf
              refine lv_iconst (v := 1) S.1 S.2.1 dX9_inUse_60 (by decide) ?_
              refine lv_goto (tgt := 65) S.1 S.2.1 dX9_inUse_61 (by decide) ?_
              refine lv_iadd S.1 S.2.1 dX9_inUse_65 ?_
              refine lv_istore_n (lv' := [(3, .int (x3 + 1)), (0, .ref (B + 0)), (1, .int x1), (2, .int x2), (4, .int x4)]) S.1 S.2.1 dX9_inUse_66 rfl hl (by decide) rfl (fun ls hl => ?_)
              refine lv_iinc (v := x4 + 1) (lv' := [(4, .int (x4 + 1)), (3, .int (x3 + 1)), (0, .ref (B + 0)), (1, .int x1), (2, .int x2)]) S.1 S.2.1 dX9_inUse_67 hl (k := 4) rfl rfl (by decide) rfl (fun ls hl => ?_)
              refine lv_goto (tgt := 5) S.1 S.2.1 dX9_inUse_70 (by decide) ?_
              exact ih x1 x2 (x3 + 1) (x4 + 1) hf _ _ _ hM hS (lv_sub hl [2, 3, 4, 1, 0] rfl)
set_option maxHeartbeats 4000000 in
set_option maxRecDepth 100000 in
theorem c_X9_inUse (l : Launch) (D : va_G) (cy : Nat → ClassId) (B : Nat) (x1 x2 : Int32) (ν : em_MM) (r : Int32) (hf : f_X9_inUse x1 x2 ν = some r) :
    Met l yX9_inUse wsX9_inUse rmX9_inUse (ed_pC D cy (em_P D cy B ν) [.ref (B + 0), .int x1, .int x2]) (ed_qI (em_A B) (em_P D cy B ν) r) 0 0 (em_A B) := by
  refine Met.ofW (cc := cX9_inUse) (maxL := 5) (ret := (some .int)) (by decide) rfl ?_
  intro p e s m args below meth c s₁ B0 hml hv
  obtain ⟨rfl, hM, hK⟩ := hv
  have S : CallFix p m c cX9_inUse 5 s _ ed_ws RX9 := ⟨B0.exec, B0.bytes, hml, findClass_of_methodNamed B0.named, fun w hw => atoms_spec (ws := wsX9_inUse) B0.pre w (List.mem_cons_of_mem _ hw)⟩
  have hr := B0.returns
  have hlocks := B0.notSynchronized
  have hS : va_S (em_A B) s.heap s.heap [] := va_S.rf
  have hl := lv_entry ([.ref (B + 0), .int x1, .int x2]) (n := 5) (Nat.le_of_ble_eq_true rfl)
  rw [lg_entry_eq]
  generalize (lg_sl ([.ref (B + 0), .int x1, .int x2]) ++ List.replicate (5 - (lg_sl ([.ref (B + 0), .int x1, .int x2])).length) Slot.unset).toArray = ls at hl ⊢
  have hl : lv_has ls 5 [(0, .ref (B + 0)), (1, .int x1), (2, .int x2)] := hl
  unfold f_X9_inUse at hf
  refine lv_iconst (v := 0) S.1 S.2.1 dX9_inUse_0 (by decide) ?_
  refine lv_istore_n (lv' := [(3, .int 0), (0, .ref (B + 0)), (1, .int x1), (2, .int x2)]) S.1 S.2.1 dX9_inUse_1 rfl hl (by decide) rfl (fun ls hl => ?_)
  refine lv_iconst (v := 0) S.1 S.2.1 dX9_inUse_2 (by decide) ?_
  refine lv_istore (lv' := [(4, .int 0), (3, .int 0), (0, .ref (B + 0)), (1, .int x1), (2, .int x2)]) S.1 S.2.1 dX9_inUse_3 hl (by decide) rfl (fun ls hl => ?_)
  exact w_X9_inUse_5 S hr hlocks hK ν r ed_N x1 x2 0 0 hf _ _ _ hM hS (lv_sub hl [2, 3, 4, 1, 0] rfl)
set_option maxHeartbeats 4000000 in
set_option maxRecDepth 100000 in
theorem c_X9_kill (l : Launch) (D : va_G) (cy : Nat → ClassId) (B : Nat) (x1 : Int32) (ν : em_MM) (r : Int32) (ν' : em_MM) (hf : f_X9_kill x1 ν = some (r, ν')) :
    Met l yX9_kill wsX9_kill rmX9_kill (ed_pC D cy (em_P D cy B ν) [.ref (B + 0), .int x1]) (ed_qI (em_A B) (em_P D cy B ν') r) 0 0 (em_A B) := by
  refine Met.ofW (cc := cX9_kill) (maxL := 2) (ret := (some .int)) (by decide) rfl ?_
  intro p e s m args below meth c s₁ B0 hml hv
  obtain ⟨rfl, hM, hK⟩ := hv
  have S : CallFix p m c cX9_kill 2 s _ ed_ws RX9 := ⟨B0.exec, B0.bytes, hml, findClass_of_methodNamed B0.named, fun w hw => atoms_spec (ws := wsX9_kill) B0.pre w (List.mem_cons_of_mem _ hw)⟩
  have hr := B0.returns
  have hlocks := B0.notSynchronized
  have hS : va_S (em_A B) s.heap s.heap [] := va_S.rf
  have hl := lv_entry ([.ref (B + 0), .int x1]) (n := 2) (Nat.le_of_ble_eq_true rfl)
  rw [lg_entry_eq]
  generalize (lg_sl ([.ref (B + 0), .int x1]) ++ List.replicate (2 - (lg_sl ([.ref (B + 0), .int x1])).length) Slot.unset).toArray = ls at hl ⊢
  have hl : lv_has ls 2 [(0, .ref (B + 0)), (1, .int x1)] := hl
  unfold f_X9_kill at hf
  refine lv_aload_n S.1 S.2.1 dX9_kill_0 rfl (lv_at hl 0 rfl) ?_
  refine lv_iload_n S.1 S.2.1 dX9_kill_1 rfl (lv_at hl 1 rfl) ?_
  obtain ⟨r1, hq1, hf⟩ := ed_b_e hf
  refine ed_kI (ed_rV S hK hM (c_X9_isStory _ D cy B x1 ν r1 hq1) (cwV 1 S.2.2.2.2 (ed_gV ed_w4_160 ed_w4_162 ed_wp_32 ed_w1_10 ed_w4_163) rfl rfl rfl hd_X9_isStory ⟨Nat.le_of_ble_eq_true rfl, Nat.le_of_ble_eq_true rfl⟩) (em_rc hK hM) rfl hl.1 rfl (Nat.le_of_ble_eq_true rfl) dX9_kill_2 ⟨Nat.zero_le _, Nat.zero_le _⟩) hS (fun H locs hM hS => ?_)
  refine lv_if_ne (tgt := 10) S.1 S.2.1 dX9_kill_5 (by decide) (fun c2 => ?_) (fun c2 => ?_)
  · replace hf := ed_in_ c2 hf
    refine lv_aload_n S.1 S.2.1 dX9_kill_10 rfl (lv_at hl 0 rfl) ?_
    refine lv_iload_n S.1 S.2.1 dX9_kill_11 rfl (lv_at hl 1 rfl) ?_
    refine lv_bipush (v := 6) S.1 S.2.1 dX9_kill_12 (by decide) ?_
    obtain ⟨r3, hq3, hf⟩ := ed_b_e hf
    refine ed_kI (ed_rV S hK hM (c_X9_ofStory _ D cy B x1 6 ν r3 hq3) (cwV 2 S.2.2.2.2 (ed_gV ed_w4_164 ed_w4_166 ed_wp_33 ed_w1_10 ed_w4_167) rfl rfl rfl hd_X9_ofStory ⟨Nat.le_of_ble_eq_true rfl, Nat.le_of_ble_eq_true rfl⟩) (em_rc hK hM) rfl hl.1 rfl (Nat.le_of_ble_eq_true rfl) dX9_kill_14 ⟨Nat.zero_le _, Nat.zero_le _⟩) hS (fun H locs hM hS => ?_)
    refine lv_iconst (v := 3) S.1 S.2.1 dX9_kill_17 (by decide) ?_
    refine lv_icmp_ne (tgt := 24) S.1 S.2.1 dX9_kill_18 (by decide) (fun c4 => ?_) (fun c4 => ?_)
    · replace hf := ed_in_ c4 hf
      refine lv_aload_n S.1 S.2.1 dX9_kill_24 rfl (lv_at hl 0 rfl) ?_
      obtain ⟨ν5, hq5, hf⟩ := ed_b_e hf
      refine ed_kV (ed_rV S hK hM (c_X9_record _ D cy B ν ν5 hq5) (cwV 0 S.2.2.2.2 (ed_gV ed_w4_75 ed_w4_77 ed_wp_21 ed_w1_10 ed_w4_78) rfl rfl rfl hd_X9_record ⟨Nat.le_of_ble_eq_true rfl, Nat.le_of_ble_eq_true rfl⟩) (em_rc hK hM) rfl hl.1 rfl (Nat.le_of_ble_eq_true rfl) dX9_kill_25 ⟨Nat.zero_le _, Nat.zero_le _⟩) hS (fun H locs hM hS => ?_)
      refine lv_aload_n S.1 S.2.1 dX9_kill_28 rfl (lv_at hl 0 rfl) ?_
      refine em_get S ed_uX9 hK hM 0 (by decide) ed_w4_33 rfl rfl dX9_kill_29 ?_
      refine lv_iload_n S.1 S.2.1 dX9_kill_32 rfl (lv_at hl 1 rfl) ?_
      refine lv_bipush (v := 6) S.1 S.2.1 dX9_kill_33 (by decide) ?_
      refine ed_kI (ed_rS S hK hM (c_X9_storyAt _ D cy (em_P D cy B ν5) (em_A B) x1 6) (va_cwS 2 S.2.2.2.2 (ed_gS ed_w4_153 ed_w4_154 ed_w1_10 ed_w4_155) rfl rfl rfl hd_X9_storyAt.2 ⟨Nat.le_of_ble_eq_true rfl, Nat.le_of_ble_eq_true rfl⟩) rfl hl.1 rfl (Nat.le_of_ble_eq_true rfl) dX9_kill_35 ⟨Nat.zero_le _, Nat.zero_le _⟩) hS (fun H locs hM hS => ?_)
      refine lv_iconst (v := 3) S.1 S.2.1 dX9_kill_38 (by decide) ?_
      obtain ⟨hx7, hf⟩ := ed_g_e hf
      refine em_ist S hK hM hS 1 (by decide) (em_e1 cy B) hx7 dX9_kill_39 (fun H locs hM hS => ?_)
      obtain ⟨ν8, eν8, hf⟩ := ed_t_e hf
      have hM : em_P D cy B ν8 H := by rw [eν8]; exact hM
      refine lv_aload_n S.1 S.2.1 dX9_kill_40 rfl (lv_at hl 0 rfl) ?_
      refine em_get S ed_uX9 hK hM 0 (by decide) ed_w4_33 rfl rfl dX9_kill_41 ?_
      refine lv_iload_n S.1 S.2.1 dX9_kill_44 rfl (lv_at hl 1 rfl) ?_
      refine lv_bipush (v := 9) S.1 S.2.1 dX9_kill_45 (by decide) ?_
      refine ed_kI (ed_rS S hK hM (c_X9_storyAt _ D cy (em_P D cy B ν8) (em_A B) x1 9) (va_cwS 2 S.2.2.2.2 (ed_gS ed_w4_153 ed_w4_154 ed_w1_10 ed_w4_155) rfl rfl rfl hd_X9_storyAt.2 ⟨Nat.le_of_ble_eq_true rfl, Nat.le_of_ble_eq_true rfl⟩) rfl hl.1 rfl (Nat.le_of_ble_eq_true rfl) dX9_kill_47 ⟨Nat.zero_le _, Nat.zero_le _⟩) hS (fun H locs hM hS => ?_)
      refine lv_aload_n S.1 S.2.1 dX9_kill_50 rfl (lv_at hl 0 rfl) ?_
      refine em_get S ed_uX9 hK hM 0 (by decide) ed_w4_33 rfl rfl dX9_kill_51 ?_
      refine lv_iconst (v := 0) S.1 S.2.1 dX9_kill_54 (by decide) ?_
      obtain ⟨hx10, hf⟩ := ed_g_e hf
      refine em_ild S hK hM 1 (by decide) (em_e1 cy B _) hx10 dX9_kill_55 ?_
      obtain ⟨hx11, hf⟩ := ed_g_e hf
      refine em_ist S hK hM hS 1 (by decide) (em_e1 cy B) hx11 dX9_kill_56 (fun H locs hM hS => ?_)
      obtain ⟨ν12, eν12, hf⟩ := ed_t_e hf
      have hM : em_P D cy B ν12 H := by rw [eν12]; exact hM
      refine lv_aload_n S.1 S.2.1 dX9_kill_57 rfl (lv_at hl 0 rfl) ?_
      refine lv_bipush (v := 6) S.1 S.2.1 dX9_kill_58 (by decide) ?_
      refine lv_iload_n S.1 S.2.1 dX9_kill_60 rfl (lv_at hl 1 rfl) ?_
      refine lv_bipush (v := (-5)) S.1 S.2.1 dX9_kill_61 (by decide) ?_
      obtain ⟨ν13, hq13, hf⟩ := ed_b_e hf
      refine ed_kV (ed_rV S hK hM (c_X9_log _ D cy B 6 x1 (-5) ν12 ν13 hq13) (cwV 3 S.2.2.2.2 (ed_gV ed_w4_184 ed_w4_186 ed_wp_35 ed_w1_10 ed_w4_187) rfl rfl rfl hd_X9_log ⟨Nat.le_of_ble_eq_true rfl, Nat.le_of_ble_eq_true rfl⟩) (em_rc hK hM) rfl hl.1 rfl (Nat.le_of_ble_eq_true rfl) dX9_kill_63 ⟨Nat.zero_le _, Nat.zero_le _⟩) hS (fun H locs hM hS => ?_)
      refine lv_aload_n S.1 S.2.1 dX9_kill_66 rfl (lv_at hl 0 rfl) ?_
      refine lv_iload_n S.1 S.2.1 dX9_kill_67 rfl (lv_at hl 1 rfl) ?_
      refine lv_iconst (v := 0) S.1 S.2.1 dX9_kill_68 (by decide) ?_
      obtain ⟨r14, hq14, hf⟩ := ed_b_e hf
      refine ed_kI (ed_rV S hK hM (c_X9_inUse _ D cy B x1 0 ν13 r14 hq14) (cwV 2 S.2.2.2.2 (ed_gV ed_w4_192 ed_w4_194 ed_wp_36 ed_w1_10 ed_w4_195) rfl rfl rfl hd_X9_inUse ⟨Nat.le_of_ble_eq_true rfl, Nat.le_of_ble_eq_true rfl⟩) (em_rc hK hM) rfl hl.1 rfl (Nat.le_of_ble_eq_true rfl) dX9_kill_69 ⟨Nat.zero_le _, Nat.zero_le _⟩) hS (fun H locs hM hS => ?_)
      obtain ⟨rfl, rfl⟩ := ed_so hf
      exact ed_ri S hr hlocks hM hS dX9_kill_72
    · replace hf := ed_ip c4 hf
      refine lv_bipush (v := (-5)) S.1 S.2.1 dX9_kill_21 (by decide) ?_
      obtain ⟨rfl, rfl⟩ := ed_so hf
      exact ed_ri S hr hlocks hM hS dX9_kill_23
  · replace hf := ed_ip c2 hf
    refine lv_iconst (v := (-1)) S.1 S.2.1 dX9_kill_8 (by decide) ?_
    obtain ⟨rfl, rfl⟩ := ed_so hf
    exact ed_ri S hr hlocks hM hS dX9_kill_9
set_option maxHeartbeats 4000000 in
set_option maxRecDepth 100000 in
theorem w_X9_pass_38 {p : Program} {l : Launch} {e : Env} {s : State} {m : MethodId} {args : Array Value} {below : List Frame} {meth : Method} {c : Code} {D : va_G} {cy : Nat → ClassId} {B : Nat} (S : CallFix p m c cX9_pass 4 s args ed_ws RX9) (hr : meth.sig.returnType = (some .int)) (hlocks : meth.locks = false) (hK : ed_K D cy s) (r : Int32) (ν' : em_MM) :
    ∀ (n : Nat), ∀ (x1 x2 x3 : Int32) (ν : em_MM), f_X9_pass_38  n x1 x2 x3 ν = some (r, ν') → ∀ (H : Heap) (locs : List Loc) (ls : Array Slot), em_P D cy B ν H → va_S (em_A B) s.heap H locs → lv_has ls 4 [(0, .ref (B + 0)), (1, .int x1), (2, .int x2), (3, .int x3)] → W p l e (headSpec wsX9_pass rmX9_pass).room s m args below meth c H locs 0 0 (MQ below (ed_qI (em_A B) (em_P D cy B ν') r) args s 0 0 (em_A B)) (F0 m 38 ls []) := by
  intro n
  induction n with
  | zero => intro x1 x2 x3 ν hf; rw [f_X9_pass_38] at hf; cases hf
  | succ n ih =>
    intro x1 x2 x3 ν hf H locs ls hM hS hl
    rw [f_X9_pass_38] at hf
    refine lv_iload_n S.1 S.2.1 dX9_pass_38 rfl (lv_at hl 3 rfl) ?_
    refine lv_iload_n S.1 S.2.1 dX9_pass_39 rfl (lv_at hl 1 rfl) ?_
    refine lv_icmp_ge (tgt := 56) S.1 S.2.1 dX9_pass_40 (by decide) (fun c6 => ?_) (fun c6 => ?_)
    · replace hf := ed_ip c6 hf
      refine lv_iload_n S.1 S.2.1 dX9_pass_56 rfl (lv_at hl 2 rfl) ?_
      obtain ⟨rfl, rfl⟩ := ed_so hf
      exact ed_ri S hr hlocks hM hS dX9_pass_57
    · replace hf := ed_in_ c6 hf
      refine lv_iload_n S.1 S.2.1 dX9_pass_43 rfl (lv_at hl 2 rfl) ?_
      refine lv_aload_n S.1 S.2.1 dX9_pass_44 rfl (lv_at hl 0 rfl) ?_
      obtain ⟨r7, ν7, hq7, hf⟩ := ed_b2_e hf
      refine ed_kI (ed_rV S hK hM (c_X9_oneHour _ D cy B ν r7 ν7 hq7) (cwV 0 S.2.2.2.2 (ed_gV ed_w4_200 ed_w4_202 ed_wp_37 ed_w1_10 ed_w4_203) rfl rfl rfl hd_X9_oneHour ⟨Nat.le_of_ble_eq_true rfl, Nat.le_of_ble_eq_true rfl⟩) (em_rc hK hM) rfl hl.1 rfl (Nat.le_of_ble_eq_true rfl) dX9_pass_45 ⟨Nat.zero_le _, Nat.zero_le _⟩) hS (fun H locs hM hS => ?_)
      refine lv_iadd S.1 S.2.1 dX9_pass_48 ?_
      refine lv_istore_n (lv' := [(2, .int (x2 + r7)), (0, .ref (B + 0)), (1, .int x1), (3, .int x3)]) S.1 S.2.1 dX9_pass_49 rfl hl (by decide) rfl (fun ls hl => ?_)
      refine lv_iinc (v := x3 + 1) (lv' := [(3, .int (x3 + 1)), (2, .int (x2 + r7)), (0, .ref (B + 0)), (1, .int x1)]) S.1 S.2.1 dX9_pass_50 hl (k := 3) rfl rfl (by decide) rfl (fun ls hl => ?_)
      refine lv_goto (tgt := 38) S.1 S.2.1 dX9_pass_53 (by decide) ?_
      exact ih x1 (x2 + r7) (x3 + 1) ν7 hf _ _ _ hM hS (lv_sub hl [2, 3, 1, 0] rfl)
set_option maxHeartbeats 4000000 in
set_option maxRecDepth 100000 in
theorem c_X9_pass (l : Launch) (D : va_G) (cy : Nat → ClassId) (B : Nat) (x1 : Int32) (ν : em_MM) (r : Int32) (ν' : em_MM) (hf : f_X9_pass x1 ν = some (r, ν')) :
    Met l yX9_pass wsX9_pass rmX9_pass (ed_pC D cy (em_P D cy B ν) [.ref (B + 0), .int x1]) (ed_qI (em_A B) (em_P D cy B ν') r) 0 0 (em_A B) := by
  refine Met.ofW (cc := cX9_pass) (maxL := 4) (ret := (some .int)) (by decide) rfl ?_
  intro p e s m args below meth c s₁ B0 hml hv
  obtain ⟨rfl, hM, hK⟩ := hv
  have S : CallFix p m c cX9_pass 4 s _ ed_ws RX9 := ⟨B0.exec, B0.bytes, hml, findClass_of_methodNamed B0.named, fun w hw => atoms_spec (ws := wsX9_pass) B0.pre w (List.mem_cons_of_mem _ hw)⟩
  have hr := B0.returns
  have hlocks := B0.notSynchronized
  have hS : va_S (em_A B) s.heap s.heap [] := va_S.rf
  have hl := lv_entry ([.ref (B + 0), .int x1]) (n := 4) (Nat.le_of_ble_eq_true rfl)
  rw [lg_entry_eq]
  generalize (lg_sl ([.ref (B + 0), .int x1]) ++ List.replicate (4 - (lg_sl ([.ref (B + 0), .int x1])).length) Slot.unset).toArray = ls at hl ⊢
  have hl : lv_has ls 4 [(0, .ref (B + 0)), (1, .int x1)] := hl
  unfold f_X9_pass at hf
  refine lv_iload_n S.1 S.2.1 dX9_pass_0 rfl (lv_at hl 1 rfl) ?_
  refine lv_iconst (v := 1) S.1 S.2.1 dX9_pass_1 (by decide) ?_
  refine lv_bipush (v := 100) S.1 S.2.1 dX9_pass_2 (by decide) ?_
  refine ed_kI (ed_rS S hK hM (c_X9_in _ D cy (em_P D cy B ν) (em_A B) x1 1 100) (va_cwS 3 S.2.2.2.2 (ed_gS ed_w4_71 ed_w4_72 ed_w1_10 ed_w4_73) rfl rfl rfl hd_X9_in.2 ⟨Nat.le_of_ble_eq_true rfl, Nat.le_of_ble_eq_true rfl⟩) rfl hl.1 rfl (Nat.le_of_ble_eq_true rfl) dX9_pass_4 ⟨Nat.zero_le _, Nat.zero_le _⟩) hS (fun H locs hM hS => ?_)
  refine lv_if_ne (tgt := 13) S.1 S.2.1 dX9_pass_7 (by decide) (fun c2 => ?_) (fun c2 => ?_)
  · replace hf := ed_in_ c2 hf
    refine lv_aload_n S.1 S.2.1 dX9_pass_13 rfl (lv_at hl 0 rfl) ?_
    refine em_get S ed_uX9 hK hM 0 (by decide) ed_w4_33 rfl rfl dX9_pass_14 ?_
    refine lv_iconst (v := 0) S.1 S.2.1 dX9_pass_17 (by decide) ?_
    obtain ⟨hx3, hf⟩ := ed_g_e hf
    refine em_ild S hK hM 1 (by decide) (em_e1 cy B _) hx3 dX9_pass_18 ?_
    refine lv_iload_n S.1 S.2.1 dX9_pass_19 rfl (lv_at hl 1 rfl) ?_
    refine lv_iadd S.1 S.2.1 dX9_pass_20 ?_
    refine lv_sipush (v := 9999) S.1 S.2.1 dX9_pass_21 (by decide) ?_
    refine lv_icmp_le (tgt := 30) S.1 S.2.1 dX9_pass_24 (by decide) (fun c4 => ?_) (fun c4 => ?_)
    · replace hf := ed_ip c4 hf
      refine lv_aload_n S.1 S.2.1 dX9_pass_30 rfl (lv_at hl 0 rfl) ?_
      obtain ⟨ν5, hq5, hf⟩ := ed_b_e hf
      refine ed_kV (ed_rV S hK hM (c_X9_record _ D cy B ν ν5 hq5) (cwV 0 S.2.2.2.2 (ed_gV ed_w4_75 ed_w4_77 ed_wp_21 ed_w1_10 ed_w4_78) rfl rfl rfl hd_X9_record ⟨Nat.le_of_ble_eq_true rfl, Nat.le_of_ble_eq_true rfl⟩) (em_rc hK hM) rfl hl.1 rfl (Nat.le_of_ble_eq_true rfl) dX9_pass_31 ⟨Nat.zero_le _, Nat.zero_le _⟩) hS (fun H locs hM hS => ?_)
      refine lv_iconst (v := 0) S.1 S.2.1 dX9_pass_34 (by decide) ?_
      refine lv_istore_n (lv' := [(2, .int 0), (0, .ref (B + 0)), (1, .int x1)]) S.1 S.2.1 dX9_pass_35 rfl hl (by decide) rfl (fun ls hl => ?_)
      refine lv_iconst (v := 0) S.1 S.2.1 dX9_pass_36 (by decide) ?_
      refine lv_istore_n (lv' := [(3, .int 0), (2, .int 0), (0, .ref (B + 0)), (1, .int x1)]) S.1 S.2.1 dX9_pass_37 rfl hl (by decide) rfl (fun ls hl => ?_)
      exact w_X9_pass_38 S hr hlocks hK r ν' ed_N x1 0 0 ν5 hf _ _ _ hM hS (lv_sub hl [2, 3, 1, 0] rfl)
    · replace hf := ed_in_ c4 hf
      refine lv_bipush (v := (-4)) S.1 S.2.1 dX9_pass_27 (by decide) ?_
      obtain ⟨rfl, rfl⟩ := ed_so hf
      exact ed_ri S hr hlocks hM hS dX9_pass_29
  · replace hf := ed_ip c2 hf
    refine lv_bipush (v := (-2)) S.1 S.2.1 dX9_pass_10 (by decide) ?_
    obtain ⟨rfl, rfl⟩ := ed_so hf
    exact ed_ri S hr hlocks hM hS dX9_pass_12
set_option maxHeartbeats 4000000 in
set_option maxRecDepth 100000 in
theorem w_X9_undo_22 {p : Program} {l : Launch} {e : Env} {s : State} {m : MethodId} {args : Array Value} {below : List Frame} {meth : Method} {c : Code} {D : va_G} {cy : Nat → ClassId} {B : Nat} (S : CallFix p m c cX9_undo 2 s args ed_ws RX9) (hr : meth.sig.returnType = (some .int)) (hlocks : meth.locks = false) (hK : ed_K D cy s) (r : Int32) (ν' : em_MM) :
    ∀ (n : Nat), ∀ (x1 : Int32) (ν : em_MM), f_X9_undo_22  n x1 ν = some (r, ν') → ∀ (H : Heap) (locs : List Loc) (ls : Array Slot), em_P D cy B ν H → va_S (em_A B) s.heap H locs → lv_has ls 2 [(0, .ref (B + 0)), (1, .int x1)] → W p l e (headSpec wsX9_undo rmX9_undo).room s m args below meth c H locs 0 0 (MQ below (ed_qI (em_A B) (em_P D cy B ν') r) args s 0 0 (em_A B)) (F0 m 22 ls []) := by
  intro n
  induction n with
  | zero => intro x1 ν hf; rw [f_X9_undo_22] at hf; cases hf
  | succ n ih =>
    intro x1 ν hf H locs ls hM hS hl
    rw [f_X9_undo_22] at hf
    refine lv_iload_n S.1 S.2.1 dX9_undo_22 rfl (lv_at hl 1 rfl) ?_
    refine lv_sipush (v := 1683) S.1 S.2.1 dX9_undo_23 (by decide) ?_
    refine lv_icmp_ge (tgt := 56) S.1 S.2.1 dX9_undo_26 (by decide) (fun c3 => ?_) (fun c3 => ?_)
    · replace hf := ed_ip c3 hf
      refine lv_aload_n S.1 S.2.1 dX9_undo_56 rfl (lv_at hl 0 rfl) ?_
      refine em_get S ed_uX9 hK hM 3 (by decide) ed_w4_36 rfl rfl dX9_undo_57 ?_
      obtain ⟨rfl, rfl⟩ := ed_so hf
      exact ed_ri S hr hlocks hM hS dX9_undo_60
    · replace hf := ed_in_ c3 hf
      refine lv_aload_n S.1 S.2.1 dX9_undo_29 rfl (lv_at hl 0 rfl) ?_
      refine em_get S ed_uX9 hK hM 0 (by decide) ed_w4_33 rfl rfl dX9_undo_30 ?_
      refine lv_iload_n S.1 S.2.1 dX9_undo_33 rfl (lv_at hl 1 rfl) ?_
      refine lv_aload_n S.1 S.2.1 dX9_undo_34 rfl (lv_at hl 0 rfl) ?_
      refine em_get S ed_uX9 hK hM 2 (by decide) ed_w4_35 rfl rfl dX9_undo_35 ?_
      refine lv_sipush (v := 1683) S.1 S.2.1 dX9_undo_38 (by decide) ?_
      refine lv_aload_n S.1 S.2.1 dX9_undo_41 rfl (lv_at hl 0 rfl) ?_
      refine em_get S ed_uX9 hK hM 3 (by decide) ed_w4_36 rfl rfl dX9_undo_42 ?_
      refine lv_imul S.1 S.2.1 dX9_undo_45 ?_
      refine lv_iload_n S.1 S.2.1 dX9_undo_46 rfl (lv_at hl 1 rfl) ?_
      refine lv_iadd S.1 S.2.1 dX9_undo_47 ?_
      obtain ⟨hx4, hf⟩ := ed_g_e hf
      refine em_ild S hK hM 3 (by decide) (em_e3 cy B _) hx4 dX9_undo_48 ?_
      obtain ⟨hx5, hf⟩ := ed_g_e hf
      refine em_ist S hK hM hS 1 (by decide) (em_e1 cy B) hx5 dX9_undo_49 (fun H locs hM hS => ?_)
      obtain ⟨ν6, eν6, hf⟩ := ed_t_e hf
      have hM : em_P D cy B ν6 H := by rw [eν6]; exact hM
      refine lv_iinc (v := x1 + 1) (lv' := [(1, .int (x1 + 1)), (0, .ref (B + 0))]) S.1 S.2.1 dX9_undo_50 hl (k := 1) rfl rfl (by decide) rfl (fun ls hl => ?_)
      refine lv_goto (tgt := 22) S.1 S.2.1 dX9_undo_53 (by decide) ?_
      exact ih (x1 + 1) ν6 hf _ _ _ hM hS (lv_sub hl [1, 0] rfl)
set_option maxHeartbeats 4000000 in
set_option maxRecDepth 100000 in
theorem c_X9_undo (l : Launch) (D : va_G) (cy : Nat → ClassId) (B : Nat) (ν : em_MM) (r : Int32) (ν' : em_MM) (hf : f_X9_undo ν = some (r, ν')) :
    Met l yX9_undo wsX9_undo rmX9_undo (ed_pC D cy (em_P D cy B ν) [.ref (B + 0)]) (ed_qI (em_A B) (em_P D cy B ν') r) 0 0 (em_A B) := by
  refine Met.ofW (cc := cX9_undo) (maxL := 2) (ret := (some .int)) (by decide) rfl ?_
  intro p e s m args below meth c s₁ B0 hml hv
  obtain ⟨rfl, hM, hK⟩ := hv
  have S : CallFix p m c cX9_undo 2 s _ ed_ws RX9 := ⟨B0.exec, B0.bytes, hml, findClass_of_methodNamed B0.named, fun w hw => atoms_spec (ws := wsX9_undo) B0.pre w (List.mem_cons_of_mem _ hw)⟩
  have hr := B0.returns
  have hlocks := B0.notSynchronized
  have hS : va_S (em_A B) s.heap s.heap [] := va_S.rf
  have hl := lv_entry ([.ref (B + 0)]) (n := 2) (Nat.le_of_ble_eq_true rfl)
  rw [lg_entry_eq]
  generalize (lg_sl ([.ref (B + 0)]) ++ List.replicate (2 - (lg_sl ([.ref (B + 0)])).length) Slot.unset).toArray = ls at hl ⊢
  have hl : lv_has ls 2 [(0, .ref (B + 0))] := hl
  unfold f_X9_undo at hf
  refine lv_aload_n S.1 S.2.1 dX9_undo_0 rfl (lv_at hl 0 rfl) ?_
  refine em_get S ed_uX9 hK hM 3 (by decide) ed_w4_36 rfl rfl dX9_undo_1 ?_
  refine lv_if_ne (tgt := 10) S.1 S.2.1 dX9_undo_4 (by decide) (fun c1 => ?_) (fun c1 => ?_)
  · replace hf := ed_in_ c1 hf
    refine lv_aload_n S.1 S.2.1 dX9_undo_10 rfl (lv_at hl 0 rfl) ?_
    refine lv_dup S.1 S.2.1 dX9_undo_11 rfl ?_
    refine em_get S ed_uX9 hK hM 3 (by decide) ed_w4_36 rfl rfl dX9_undo_12 ?_
    refine lv_iconst (v := 1) S.1 S.2.1 dX9_undo_15 (by decide) ?_
    refine lv_isub S.1 S.2.1 dX9_undo_16 ?_
    refine em_put S ed_uX9 hK hM hS 3 (by decide) ed_w4_36 rfl rfl rfl rfl (em_u3 cy B _ _) dX9_undo_17 (fun H locs hM hS => ?_)
    obtain ⟨ν2, eν2, hf⟩ := ed_t_e hf
    have hM : em_P D cy B ν2 H := by rw [eν2]; exact hM
    refine lv_iconst (v := 0) S.1 S.2.1 dX9_undo_20 (by decide) ?_
    refine lv_istore_n (lv' := [(1, .int 0), (0, .ref (B + 0))]) S.1 S.2.1 dX9_undo_21 rfl hl (by decide) rfl (fun ls hl => ?_)
    exact w_X9_undo_22 S hr hlocks hK r ν' ed_N 0 ν2 hf _ _ _ hM hS (lv_sub hl [1, 0] rfl)
  · replace hf := ed_ip c1 hf
    refine lv_bipush (v := (-5)) S.1 S.2.1 dX9_undo_7 (by decide) ?_
    obtain ⟨rfl, rfl⟩ := ed_so hf
    exact ed_ri S hr hlocks hM hS dX9_undo_9
set_option maxHeartbeats 4000000 in
set_option maxRecDepth 100000 in
theorem w_X9_keep_2 {p : Program} {l : Launch} {e : Env} {s : State} {m : MethodId} {args : Array Value} {below : List Frame} {meth : Method} {c : Code} {D : va_G} {cy : Nat → ClassId} {B : Nat} (S : CallFix p m c cX9_keep 2 s args ed_ws RX9) (hr : meth.sig.returnType = (some .int)) (hlocks : meth.locks = false) (hK : ed_K D cy s) (r : Int32) (ν' : em_MM) :
    ∀ (n : Nat), ∀ (x1 : Int32) (ν : em_MM), f_X9_keep_2  n x1 ν = some (r, ν') → ∀ (H : Heap) (locs : List Loc) (ls : Array Slot), em_P D cy B ν H → va_S (em_A B) s.heap H locs → lv_has ls 2 [(0, .ref (B + 0)), (1, .int x1)] → W p l e (headSpec wsX9_keep rmX9_keep).room s m args below meth c H locs 0 0 (MQ below (ed_qI (em_A B) (em_P D cy B ν') r) args s 0 0 (em_A B)) (F0 m 2 ls []) := by
  intro n
  induction n with
  | zero => intro x1 ν hf; rw [f_X9_keep_2] at hf; cases hf
  | succ n ih =>
    intro x1 ν hf H locs ls hM hS hl
    rw [f_X9_keep_2] at hf
    refine lv_iload_n S.1 S.2.1 dX9_keep_2 rfl (lv_at hl 1 rfl) ?_
    refine lv_sipush (v := 1683) S.1 S.2.1 dX9_keep_3 (by decide) ?_
    refine lv_icmp_ge (tgt := 27) S.1 S.2.1 dX9_keep_6 (by decide) (fun c1 => ?_) (fun c1 => ?_)
    · replace hf := ed_ip c1 hf
      refine lv_aload_n S.1 S.2.1 dX9_keep_27 rfl (lv_at hl 0 rfl) ?_
      refine lv_iconst (v := 1) S.1 S.2.1 dX9_keep_28 (by decide) ?_
      refine em_put S ed_uX9 hK hM hS 5 (by decide) ed_w4_38 rfl rfl (ed_bo_n (Or.inr rfl)).1 (ed_bo_n (Or.inr rfl)).2 (em_u5 cy B _ _) dX9_keep_29 (fun H locs hM hS => ?_)
      obtain ⟨ν2, eν2, hf⟩ := ed_t_e hf
      have hM : em_P D cy B ν2 H := by rw [eν2]; exact hM
      refine lv_aload_n S.1 S.2.1 dX9_keep_32 rfl (lv_at hl 0 rfl) ?_
      refine em_get S ed_uX9 hK hM 0 (by decide) ed_w4_33 rfl rfl dX9_keep_33 ?_
      refine lv_iconst (v := 0) S.1 S.2.1 dX9_keep_36 (by decide) ?_
      obtain ⟨hx3, hf⟩ := ed_g_e hf
      refine em_ild S hK hM 1 (by decide) (em_e1 cy B _) hx3 dX9_keep_37 ?_
      obtain ⟨rfl, rfl⟩ := ed_so hf
      exact ed_ri S hr hlocks hM hS dX9_keep_38
    · replace hf := ed_in_ c1 hf
      refine lv_aload_n S.1 S.2.1 dX9_keep_9 rfl (lv_at hl 0 rfl) ?_
      refine em_get S ed_uX9 hK hM 4 (by decide) ed_w4_37 rfl rfl dX9_keep_10 ?_
      refine lv_iload_n S.1 S.2.1 dX9_keep_13 rfl (lv_at hl 1 rfl) ?_
      refine lv_aload_n S.1 S.2.1 dX9_keep_14 rfl (lv_at hl 0 rfl) ?_
      refine em_get S ed_uX9 hK hM 0 (by decide) ed_w4_33 rfl rfl dX9_keep_15 ?_
      refine lv_iload_n S.1 S.2.1 dX9_keep_18 rfl (lv_at hl 1 rfl) ?_
      obtain ⟨hx4, hf⟩ := ed_g_e hf
      refine em_ild S hK hM 1 (by decide) (em_e1 cy B _) hx4 dX9_keep_19 ?_
      obtain ⟨hx5, hf⟩ := ed_g_e hf
      refine em_ist S hK hM hS 4 (by decide) (em_e4 cy B) hx5 dX9_keep_20 (fun H locs hM hS => ?_)
      obtain ⟨ν6, eν6, hf⟩ := ed_t_e hf
      have hM : em_P D cy B ν6 H := by rw [eν6]; exact hM
      refine lv_iinc (v := x1 + 1) (lv' := [(1, .int (x1 + 1)), (0, .ref (B + 0))]) S.1 S.2.1 dX9_keep_21 hl (k := 1) rfl rfl (by decide) rfl (fun ls hl => ?_)
      refine lv_goto (tgt := 2) S.1 S.2.1 dX9_keep_24 (by decide) ?_
      exact ih (x1 + 1) ν6 hf _ _ _ hM hS (lv_sub hl [1, 0] rfl)
set_option maxHeartbeats 4000000 in
set_option maxRecDepth 100000 in
theorem c_X9_keep (l : Launch) (D : va_G) (cy : Nat → ClassId) (B : Nat) (ν : em_MM) (r : Int32) (ν' : em_MM) (hf : f_X9_keep ν = some (r, ν')) :
    Met l yX9_keep wsX9_keep rmX9_keep (ed_pC D cy (em_P D cy B ν) [.ref (B + 0)]) (ed_qI (em_A B) (em_P D cy B ν') r) 0 0 (em_A B) := by
  refine Met.ofW (cc := cX9_keep) (maxL := 2) (ret := (some .int)) (by decide) rfl ?_
  intro p e s m args below meth c s₁ B0 hml hv
  obtain ⟨rfl, hM, hK⟩ := hv
  have S : CallFix p m c cX9_keep 2 s _ ed_ws RX9 := ⟨B0.exec, B0.bytes, hml, findClass_of_methodNamed B0.named, fun w hw => atoms_spec (ws := wsX9_keep) B0.pre w (List.mem_cons_of_mem _ hw)⟩
  have hr := B0.returns
  have hlocks := B0.notSynchronized
  have hS : va_S (em_A B) s.heap s.heap [] := va_S.rf
  have hl := lv_entry ([.ref (B + 0)]) (n := 2) (Nat.le_of_ble_eq_true rfl)
  rw [lg_entry_eq]
  generalize (lg_sl ([.ref (B + 0)]) ++ List.replicate (2 - (lg_sl ([.ref (B + 0)])).length) Slot.unset).toArray = ls at hl ⊢
  have hl : lv_has ls 2 [(0, .ref (B + 0))] := hl
  unfold f_X9_keep at hf
  refine lv_iconst (v := 0) S.1 S.2.1 dX9_keep_0 (by decide) ?_
  refine lv_istore_n (lv' := [(1, .int 0), (0, .ref (B + 0))]) S.1 S.2.1 dX9_keep_1 rfl hl (by decide) rfl (fun ls hl => ?_)
  exact w_X9_keep_2 S hr hlocks hK r ν' ed_N 0 ν hf _ _ _ hM hS (lv_sub hl [1, 0] rfl)
set_option maxHeartbeats 4000000 in
set_option maxRecDepth 100000 in
theorem w_X9_restore_16 {p : Program} {l : Launch} {e : Env} {s : State} {m : MethodId} {args : Array Value} {below : List Frame} {meth : Method} {c : Code} {D : va_G} {cy : Nat → ClassId} {B : Nat} (S : CallFix p m c cX9_restore 2 s args ed_ws RX9) (hr : meth.sig.returnType = (some .int)) (hlocks : meth.locks = false) (hK : ed_K D cy s) (r : Int32) (ν' : em_MM) :
    ∀ (n : Nat), ∀ (x1 : Int32) (ν : em_MM), f_X9_restore_16  n x1 ν = some (r, ν') → ∀ (H : Heap) (locs : List Loc) (ls : Array Slot), em_P D cy B ν H → va_S (em_A B) s.heap H locs → lv_has ls 2 [(0, .ref (B + 0)), (1, .int x1)] → W p l e (headSpec wsX9_restore rmX9_restore).room s m args below meth c H locs 0 0 (MQ below (ed_qI (em_A B) (em_P D cy B ν') r) args s 0 0 (em_A B)) (F0 m 16 ls []) := by
  intro n
  induction n with
  | zero => intro x1 ν hf; rw [f_X9_restore_16] at hf; cases hf
  | succ n ih =>
    intro x1 ν hf H locs ls hM hS hl
    rw [f_X9_restore_16] at hf
    refine lv_iload_n S.1 S.2.1 dX9_restore_16 rfl (lv_at hl 1 rfl) ?_
    refine lv_sipush (v := 1683) S.1 S.2.1 dX9_restore_17 (by decide) ?_
    refine lv_icmp_ge (tgt := 41) S.1 S.2.1 dX9_restore_20 (by decide) (fun c3 => ?_) (fun c3 => ?_)
    · replace hf := ed_ip c3 hf
      refine lv_aload_n S.1 S.2.1 dX9_restore_41 rfl (lv_at hl 0 rfl) ?_
      refine em_get S ed_uX9 hK hM 0 (by decide) ed_w4_33 rfl rfl dX9_restore_42 ?_
      refine lv_iconst (v := 0) S.1 S.2.1 dX9_restore_45 (by decide) ?_
      obtain ⟨hx4, hf⟩ := ed_g_e hf
      refine em_ild S hK hM 1 (by decide) (em_e1 cy B _) hx4 dX9_restore_46 ?_
      obtain ⟨rfl, rfl⟩ := ed_so hf
      exact ed_ri S hr hlocks hM hS dX9_restore_47
    · replace hf := ed_in_ c3 hf
      refine lv_aload_n S.1 S.2.1 dX9_restore_23 rfl (lv_at hl 0 rfl) ?_
      refine em_get S ed_uX9 hK hM 0 (by decide) ed_w4_33 rfl rfl dX9_restore_24 ?_
      refine lv_iload_n S.1 S.2.1 dX9_restore_27 rfl (lv_at hl 1 rfl) ?_
      refine lv_aload_n S.1 S.2.1 dX9_restore_28 rfl (lv_at hl 0 rfl) ?_
      refine em_get S ed_uX9 hK hM 4 (by decide) ed_w4_37 rfl rfl dX9_restore_29 ?_
      refine lv_iload_n S.1 S.2.1 dX9_restore_32 rfl (lv_at hl 1 rfl) ?_
      obtain ⟨hx5, hf⟩ := ed_g_e hf
      refine em_ild S hK hM 4 (by decide) (em_e4 cy B _) hx5 dX9_restore_33 ?_
      obtain ⟨hx6, hf⟩ := ed_g_e hf
      refine em_ist S hK hM hS 1 (by decide) (em_e1 cy B) hx6 dX9_restore_34 (fun H locs hM hS => ?_)
      obtain ⟨ν7, eν7, hf⟩ := ed_t_e hf
      have hM : em_P D cy B ν7 H := by rw [eν7]; exact hM
      refine lv_iinc (v := x1 + 1) (lv' := [(1, .int (x1 + 1)), (0, .ref (B + 0))]) S.1 S.2.1 dX9_restore_35 hl (k := 1) rfl rfl (by decide) rfl (fun ls hl => ?_)
      refine lv_goto (tgt := 16) S.1 S.2.1 dX9_restore_38 (by decide) ?_
      exact ih (x1 + 1) ν7 hf _ _ _ hM hS (lv_sub hl [1, 0] rfl)
set_option maxHeartbeats 4000000 in
set_option maxRecDepth 100000 in
theorem c_X9_restore (l : Launch) (D : va_G) (cy : Nat → ClassId) (B : Nat) (ν : em_MM) (r : Int32) (ν' : em_MM) (hf : f_X9_restore ν = some (r, ν')) :
    Met l yX9_restore wsX9_restore rmX9_restore (ed_pC D cy (em_P D cy B ν) [.ref (B + 0)]) (ed_qI (em_A B) (em_P D cy B ν') r) 0 0 (em_A B) := by
  refine Met.ofW (cc := cX9_restore) (maxL := 2) (ret := (some .int)) (by decide) rfl ?_
  intro p e s m args below meth c s₁ B0 hml hv
  obtain ⟨rfl, hM, hK⟩ := hv
  have S : CallFix p m c cX9_restore 2 s _ ed_ws RX9 := ⟨B0.exec, B0.bytes, hml, findClass_of_methodNamed B0.named, fun w hw => atoms_spec (ws := wsX9_restore) B0.pre w (List.mem_cons_of_mem _ hw)⟩
  have hr := B0.returns
  have hlocks := B0.notSynchronized
  have hS : va_S (em_A B) s.heap s.heap [] := va_S.rf
  have hl := lv_entry ([.ref (B + 0)]) (n := 2) (Nat.le_of_ble_eq_true rfl)
  rw [lg_entry_eq]
  generalize (lg_sl ([.ref (B + 0)]) ++ List.replicate (2 - (lg_sl ([.ref (B + 0)])).length) Slot.unset).toArray = ls at hl ⊢
  have hl : lv_has ls 2 [(0, .ref (B + 0))] := hl
  unfold f_X9_restore at hf
  refine lv_aload_n S.1 S.2.1 dX9_restore_0 rfl (lv_at hl 0 rfl) ?_
  refine em_get S ed_uX9 hK hM 5 (by decide) ed_w4_38 rfl rfl dX9_restore_1 ?_
  refine lv_if_ne (tgt := 10) S.1 S.2.1 dX9_restore_4 (by decide) (fun c1 => ?_) (fun c1 => ?_)
  · replace hf := ed_in_ c1 hf
    refine lv_aload_n S.1 S.2.1 dX9_restore_10 rfl (lv_at hl 0 rfl) ?_
    obtain ⟨ν2, hq2, hf⟩ := ed_b_e hf
    refine ed_kV (ed_rV S hK hM (c_X9_record _ D cy B ν ν2 hq2) (cwV 0 S.2.2.2.2 (ed_gV ed_w4_75 ed_w4_77 ed_wp_21 ed_w1_10 ed_w4_78) rfl rfl rfl hd_X9_record ⟨Nat.le_of_ble_eq_true rfl, Nat.le_of_ble_eq_true rfl⟩) (em_rc hK hM) rfl hl.1 rfl (Nat.le_of_ble_eq_true rfl) dX9_restore_11 ⟨Nat.zero_le _, Nat.zero_le _⟩) hS (fun H locs hM hS => ?_)
    refine lv_iconst (v := 0) S.1 S.2.1 dX9_restore_14 (by decide) ?_
    refine lv_istore_n (lv' := [(1, .int 0), (0, .ref (B + 0))]) S.1 S.2.1 dX9_restore_15 rfl hl (by decide) rfl (fun ls hl => ?_)
    exact w_X9_restore_16 S hr hlocks hK r ν' ed_N 0 ν2 hf _ _ _ hM hS (lv_sub hl [1, 0] rfl)
  · replace hf := ed_ip c1 hf
    refine lv_bipush (v := (-5)) S.1 S.2.1 dX9_restore_7 (by decide) ?_
    obtain ⟨rfl, rfl⟩ := ed_so hf
    exact ed_ri S hr hlocks hM hS dX9_restore_9
set_option maxHeartbeats 4000000 in
set_option maxRecDepth 100000 in
theorem w_X9_story_15 {p : Program} {l : Launch} {e : Env} {s : State} {m : MethodId} {args : Array Value} {below : List Frame} {meth : Method} {c : Code} {D : va_G} {cy : Nat → ClassId} {B : Nat} (S : CallFix p m c cX9_story 5 s args ed_ws RX9) (hr : meth.sig.returnType = (some .int)) (hlocks : meth.locks = false) (hK : ed_K D cy s) (ν : em_MM) (r : Int32) :
    ∀ (n : Nat), ∀ (x1 x2 x3 x4 : Int32), f_X9_story_15 ν n x1 x2 x3 x4 = some r → ∀ (H : Heap) (locs : List Loc) (ls : Array Slot), em_P D cy B ν H → va_S (em_A B) s.heap H locs → lv_has ls 5 [(0, .ref (B + 0)), (1, .int x1), (2, .int x2), (3, .int x3), (4, .int x4)] → W p l e (headSpec wsX9_story rmX9_story).room s m args below meth c H locs 0 0 (MQ below (ed_qI (em_A B) (em_P D cy B ν) r) args s 0 0 (em_A B)) (F0 m 15 ls []) := by
  intro n
  induction n with
  | zero => intro x1 x2 x3 x4 hf; rw [f_X9_story_15] at hf; cases hf
  | succ n ih =>
    intro x1 x2 x3 x4 hf H locs ls hM hS hl
    rw [f_X9_story_15] at hf
    refine lv_iload S.1 S.2.1 dX9_story_15 (lv_at hl 4 rfl) ?_
    refine lv_aload_n S.1 S.2.1 dX9_story_17 rfl (lv_at hl 0 rfl) ?_
    refine em_get S ed_uX9 hK hM 0 (by decide) ed_w4_33 rfl rfl dX9_story_18 ?_
    refine lv_iconst (v := 3) S.1 S.2.1 dX9_story_21 (by decide) ?_
    obtain ⟨hx3, hf⟩ := ed_g_e hf
    refine em_ild S hK hM 1 (by decide) (em_e1 cy B _) hx3 dX9_story_22 ?_
    refine lv_icmp_ge (tgt := 51) S.1 S.2.1 dX9_story_23 (by decide) (fun c4 => ?_) (fun c4 => ?_)
    · replace hf := ed_ip c4 hf
      refine lv_iload_n S.1 S.2.1 dX9_story_51 rfl (lv_at hl 2 rfl) ?_
      by_cases c5 : x2 = 0
      · replace hf := ed_ip c5 hf
        refine lv_tableIn (tgt := 112) S.1 S.2.1 dX9_story_52 (by rw [c5]; decide) (by rw [c5]; decide) (off := 60) (by rw [c5]; decide) (by decide) ?_
        refine lv_aload_n S.1 S.2.1 dX9_story_112 rfl (lv_at hl 0 rfl) ?_
        refine lv_iload_n S.1 S.2.1 dX9_story_113 rfl (lv_at hl 1 rfl) ?_
        refine lv_iconst (v := 0) S.1 S.2.1 dX9_story_114 (by decide) ?_
        obtain ⟨r16, hq16, hf⟩ := ed_b_e hf
        refine ed_kI (ed_rV S hK hM (c_X9_ofStory _ D cy B x1 0 ν r16 hq16) (cwV 2 S.2.2.2.2 (ed_gV ed_w4_164 ed_w4_166 ed_wp_33 ed_w1_10 ed_w4_167) rfl rfl rfl hd_X9_ofStory ⟨Nat.le_of_ble_eq_true rfl, Nat.le_of_ble_eq_true rfl⟩) (em_rc hK hM) rfl hl.1 rfl (Nat.le_of_ble_eq_true rfl) dX9_story_115 ⟨Nat.zero_le _, Nat.zero_le _⟩) hS (fun H locs hM hS => ?_)
        obtain rfl := Option.some.inj hf
        exact ed_ri S hr hlocks hM hS dX9_story_118
      replace hf := ed_in_ c5 hf
      by_cases c6 : x2 = 1
      · replace hf := ed_ip c6 hf
        refine lv_tableIn (tgt := 119) S.1 S.2.1 dX9_story_52 (by rw [c6]; decide) (by rw [c6]; decide) (off := 67) (by rw [c6]; decide) (by decide) ?_
        refine lv_aload_n S.1 S.2.1 dX9_story_119 rfl (lv_at hl 0 rfl) ?_
        refine lv_iload_n S.1 S.2.1 dX9_story_120 rfl (lv_at hl 1 rfl) ?_
        refine lv_iconst (v := 1) S.1 S.2.1 dX9_story_121 (by decide) ?_
        obtain ⟨r17, hq17, hf⟩ := ed_b_e hf
        refine ed_kI (ed_rV S hK hM (c_X9_ofStory _ D cy B x1 1 ν r17 hq17) (cwV 2 S.2.2.2.2 (ed_gV ed_w4_164 ed_w4_166 ed_wp_33 ed_w1_10 ed_w4_167) rfl rfl rfl hd_X9_ofStory ⟨Nat.le_of_ble_eq_true rfl, Nat.le_of_ble_eq_true rfl⟩) (em_rc hK hM) rfl hl.1 rfl (Nat.le_of_ble_eq_true rfl) dX9_story_122 ⟨Nat.zero_le _, Nat.zero_le _⟩) hS (fun H locs hM hS => ?_)
        obtain rfl := Option.some.inj hf
        exact ed_ri S hr hlocks hM hS dX9_story_125
      replace hf := ed_in_ c6 hf
      by_cases c7 : x2 = 2
      · replace hf := ed_ip c7 hf
        refine lv_tableIn (tgt := 126) S.1 S.2.1 dX9_story_52 (by rw [c7]; decide) (by rw [c7]; decide) (off := 74) (by rw [c7]; decide) (by decide) ?_
        refine lv_aload_n S.1 S.2.1 dX9_story_126 rfl (lv_at hl 0 rfl) ?_
        refine lv_iload_n S.1 S.2.1 dX9_story_127 rfl (lv_at hl 1 rfl) ?_
        refine lv_iconst (v := 5) S.1 S.2.1 dX9_story_128 (by decide) ?_
        obtain ⟨r18, hq18, hf⟩ := ed_b_e hf
        refine ed_kI (ed_rV S hK hM (c_X9_ofStory _ D cy B x1 5 ν r18 hq18) (cwV 2 S.2.2.2.2 (ed_gV ed_w4_164 ed_w4_166 ed_wp_33 ed_w1_10 ed_w4_167) rfl rfl rfl hd_X9_ofStory ⟨Nat.le_of_ble_eq_true rfl, Nat.le_of_ble_eq_true rfl⟩) (em_rc hK hM) rfl hl.1 rfl (Nat.le_of_ble_eq_true rfl) dX9_story_129 ⟨Nat.zero_le _, Nat.zero_le _⟩) hS (fun H locs hM hS => ?_)
        obtain rfl := Option.some.inj hf
        exact ed_ri S hr hlocks hM hS dX9_story_132
      replace hf := ed_in_ c7 hf
      by_cases c8 : x2 = 3
      · replace hf := ed_ip c8 hf
        refine lv_tableIn (tgt := 133) S.1 S.2.1 dX9_story_52 (by rw [c8]; decide) (by rw [c8]; decide) (off := 81) (by rw [c8]; decide) (by decide) ?_
        refine lv_aload_n S.1 S.2.1 dX9_story_133 rfl (lv_at hl 0 rfl) ?_
        refine lv_iload_n S.1 S.2.1 dX9_story_134 rfl (lv_at hl 1 rfl) ?_
        refine lv_bipush (v := 6) S.1 S.2.1 dX9_story_135 (by decide) ?_
        obtain ⟨r19, hq19, hf⟩ := ed_b_e hf
        refine ed_kI (ed_rV S hK hM (c_X9_ofStory _ D cy B x1 6 ν r19 hq19) (cwV 2 S.2.2.2.2 (ed_gV ed_w4_164 ed_w4_166 ed_wp_33 ed_w1_10 ed_w4_167) rfl rfl rfl hd_X9_ofStory ⟨Nat.le_of_ble_eq_true rfl, Nat.le_of_ble_eq_true rfl⟩) (em_rc hK hM) rfl hl.1 rfl (Nat.le_of_ble_eq_true rfl) dX9_story_137 ⟨Nat.zero_le _, Nat.zero_le _⟩) hS (fun H locs hM hS => ?_)
        obtain rfl := Option.some.inj hf
        exact ed_ri S hr hlocks hM hS dX9_story_140
      replace hf := ed_in_ c8 hf
      by_cases c9 : x2 = 4
      · replace hf := ed_ip c9 hf
        refine lv_tableIn (tgt := 141) S.1 S.2.1 dX9_story_52 (by rw [c9]; decide) (by rw [c9]; decide) (off := 89) (by rw [c9]; decide) (by decide) ?_
        refine lv_aload_n S.1 S.2.1 dX9_story_141 rfl (lv_at hl 0 rfl) ?_
        refine lv_iload_n S.1 S.2.1 dX9_story_142 rfl (lv_at hl 1 rfl) ?_
        refine lv_bipush (v := 7) S.1 S.2.1 dX9_story_143 (by decide) ?_
        obtain ⟨r20, hq20, hf⟩ := ed_b_e hf
        refine ed_kI (ed_rV S hK hM (c_X9_ofStory _ D cy B x1 7 ν r20 hq20) (cwV 2 S.2.2.2.2 (ed_gV ed_w4_164 ed_w4_166 ed_wp_33 ed_w1_10 ed_w4_167) rfl rfl rfl hd_X9_ofStory ⟨Nat.le_of_ble_eq_true rfl, Nat.le_of_ble_eq_true rfl⟩) (em_rc hK hM) rfl hl.1 rfl (Nat.le_of_ble_eq_true rfl) dX9_story_145 ⟨Nat.zero_le _, Nat.zero_le _⟩) hS (fun H locs hM hS => ?_)
        obtain rfl := Option.some.inj hf
        exact ed_ri S hr hlocks hM hS dX9_story_148
      replace hf := ed_in_ c9 hf
      by_cases c10 : x2 = 5
      · replace hf := ed_ip c10 hf
        refine lv_tableIn (tgt := 149) S.1 S.2.1 dX9_story_52 (by rw [c10]; decide) (by rw [c10]; decide) (off := 97) (by rw [c10]; decide) (by decide) ?_
        refine lv_aload_n S.1 S.2.1 dX9_story_149 rfl (lv_at hl 0 rfl) ?_
        refine lv_iload_n S.1 S.2.1 dX9_story_150 rfl (lv_at hl 1 rfl) ?_
        refine lv_bipush (v := 8) S.1 S.2.1 dX9_story_151 (by decide) ?_
        obtain ⟨r21, hq21, hf⟩ := ed_b_e hf
        refine ed_kI (ed_rV S hK hM (c_X9_ofStory _ D cy B x1 8 ν r21 hq21) (cwV 2 S.2.2.2.2 (ed_gV ed_w4_164 ed_w4_166 ed_wp_33 ed_w1_10 ed_w4_167) rfl rfl rfl hd_X9_ofStory ⟨Nat.le_of_ble_eq_true rfl, Nat.le_of_ble_eq_true rfl⟩) (em_rc hK hM) rfl hl.1 rfl (Nat.le_of_ble_eq_true rfl) dX9_story_153 ⟨Nat.zero_le _, Nat.zero_le _⟩) hS (fun H locs hM hS => ?_)
        obtain rfl := Option.some.inj hf
        exact ed_ri S hr hlocks hM hS dX9_story_156
      replace hf := ed_in_ c10 hf
      by_cases c11 : x2 = 6
      · replace hf := ed_ip c11 hf
        refine lv_tableIn (tgt := 157) S.1 S.2.1 dX9_story_52 (by rw [c11]; decide) (by rw [c11]; decide) (off := 105) (by rw [c11]; decide) (by decide) ?_
        refine lv_aload_n S.1 S.2.1 dX9_story_157 rfl (lv_at hl 0 rfl) ?_
        refine lv_iload_n S.1 S.2.1 dX9_story_158 rfl (lv_at hl 1 rfl) ?_
        refine lv_bipush (v := 9) S.1 S.2.1 dX9_story_159 (by decide) ?_
        obtain ⟨r22, hq22, hf⟩ := ed_b_e hf
        refine ed_kI (ed_rV S hK hM (c_X9_ofStory _ D cy B x1 9 ν r22 hq22) (cwV 2 S.2.2.2.2 (ed_gV ed_w4_164 ed_w4_166 ed_wp_33 ed_w1_10 ed_w4_167) rfl rfl rfl hd_X9_ofStory ⟨Nat.le_of_ble_eq_true rfl, Nat.le_of_ble_eq_true rfl⟩) (em_rc hK hM) rfl hl.1 rfl (Nat.le_of_ble_eq_true rfl) dX9_story_161 ⟨Nat.zero_le _, Nat.zero_le _⟩) hS (fun H locs hM hS => ?_)
        obtain rfl := Option.some.inj hf
        exact ed_ri S hr hlocks hM hS dX9_story_164
      replace hf := ed_in_ c11 hf
      by_cases c12 : x2 = 7
      · replace hf := ed_ip c12 hf
        refine lv_tableIn (tgt := 165) S.1 S.2.1 dX9_story_52 (by rw [c12]; decide) (by rw [c12]; decide) (off := 113) (by rw [c12]; decide) (by decide) ?_
        refine lv_aload_n S.1 S.2.1 dX9_story_165 rfl (lv_at hl 0 rfl) ?_
        refine lv_iload_n S.1 S.2.1 dX9_story_166 rfl (lv_at hl 1 rfl) ?_
        refine lv_bipush (v := 16) S.1 S.2.1 dX9_story_167 (by decide) ?_
        obtain ⟨r23, hq23, hf⟩ := ed_b_e hf
        refine ed_kI (ed_rV S hK hM (c_X9_ofStory _ D cy B x1 16 ν r23 hq23) (cwV 2 S.2.2.2.2 (ed_gV ed_w4_164 ed_w4_166 ed_wp_33 ed_w1_10 ed_w4_167) rfl rfl rfl hd_X9_ofStory ⟨Nat.le_of_ble_eq_true rfl, Nat.le_of_ble_eq_true rfl⟩) (em_rc hK hM) rfl hl.1 rfl (Nat.le_of_ble_eq_true rfl) dX9_story_169 ⟨Nat.zero_le _, Nat.zero_le _⟩) hS (fun H locs hM hS => ?_)
        obtain rfl := Option.some.inj hf
        exact ed_ri S hr hlocks hM hS dX9_story_172
      replace hf := ed_in_ c12 hf
      by_cases c13 : x2 = 8
      · replace hf := ed_ip c13 hf
        refine lv_tableIn (tgt := 173) S.1 S.2.1 dX9_story_52 (by rw [c13]; decide) (by rw [c13]; decide) (off := 121) (by rw [c13]; decide) (by decide) ?_
        refine lv_iload_n S.1 S.2.1 dX9_story_173 rfl (lv_at hl 3 rfl) ?_
        obtain rfl := Option.some.inj hf
        exact ed_ri S hr hlocks hM hS dX9_story_174
      replace hf := ed_in_ c13 hf
      by_cases c14 : x2 = 9
      · replace hf := ed_ip c14 hf
        refine lv_tableIn (tgt := 175) S.1 S.2.1 dX9_story_52 (by rw [c14]; decide) (by rw [c14]; decide) (off := 123) (by rw [c14]; decide) (by decide) ?_
        refine lv_aload_n S.1 S.2.1 dX9_story_175 rfl (lv_at hl 0 rfl) ?_
        refine lv_iload_n S.1 S.2.1 dX9_story_176 rfl (lv_at hl 1 rfl) ?_
        refine lv_iconst (v := 0) S.1 S.2.1 dX9_story_177 (by decide) ?_
        obtain ⟨r24, hq24, hf⟩ := ed_b_e hf
        refine ed_kI (ed_rV S hK hM (c_X9_inUse _ D cy B x1 0 ν r24 hq24) (cwV 2 S.2.2.2.2 (ed_gV ed_w4_192 ed_w4_194 ed_wp_36 ed_w1_10 ed_w4_195) rfl rfl rfl hd_X9_inUse ⟨Nat.le_of_ble_eq_true rfl, Nat.le_of_ble_eq_true rfl⟩) (em_rc hK hM) rfl hl.1 rfl (Nat.le_of_ble_eq_true rfl) dX9_story_178 ⟨Nat.zero_le _, Nat.zero_le _⟩) hS (fun H locs hM hS => ?_)
        obtain rfl := Option.some.inj hf
        exact ed_ri S hr hlocks hM hS dX9_story_181
      replace hf := ed_in_ c14 hf
      by_cases c15 : x2 = 10
      · replace hf := ed_ip c15 hf
        refine lv_tableIn (tgt := 182) S.1 S.2.1 dX9_story_52 (by rw [c15]; decide) (by rw [c15]; decide) (off := 130) (by rw [c15]; decide) (by decide) ?_
        refine lv_aload_n S.1 S.2.1 dX9_story_182 rfl (lv_at hl 0 rfl) ?_
        refine lv_iload_n S.1 S.2.1 dX9_story_183 rfl (lv_at hl 1 rfl) ?_
        refine lv_iconst (v := 1) S.1 S.2.1 dX9_story_184 (by decide) ?_
        obtain ⟨r25, hq25, hf⟩ := ed_b_e hf
        refine ed_kI (ed_rV S hK hM (c_X9_inUse _ D cy B x1 1 ν r25 hq25) (cwV 2 S.2.2.2.2 (ed_gV ed_w4_192 ed_w4_194 ed_wp_36 ed_w1_10 ed_w4_195) rfl rfl rfl hd_X9_inUse ⟨Nat.le_of_ble_eq_true rfl, Nat.le_of_ble_eq_true rfl⟩) (em_rc hK hM) rfl hl.1 rfl (Nat.le_of_ble_eq_true rfl) dX9_story_185 ⟨Nat.zero_le _, Nat.zero_le _⟩) hS (fun H locs hM hS => ?_)
        obtain rfl := Option.some.inj hf
        exact ed_ri S hr hlocks hM hS dX9_story_188
      replace hf := ed_in_ c15 hf
      have tc5 : x2.toInt ≠ 0 := fun q => c5 (Int32.toInt_inj.mp (by rw [q]; decide))
      have tc6 : x2.toInt ≠ 1 := fun q => c6 (Int32.toInt_inj.mp (by rw [q]; decide))
      have tc7 : x2.toInt ≠ 2 := fun q => c7 (Int32.toInt_inj.mp (by rw [q]; decide))
      have tc8 : x2.toInt ≠ 3 := fun q => c8 (Int32.toInt_inj.mp (by rw [q]; decide))
      have tc9 : x2.toInt ≠ 4 := fun q => c9 (Int32.toInt_inj.mp (by rw [q]; decide))
      have tc10 : x2.toInt ≠ 5 := fun q => c10 (Int32.toInt_inj.mp (by rw [q]; decide))
      have tc11 : x2.toInt ≠ 6 := fun q => c11 (Int32.toInt_inj.mp (by rw [q]; decide))
      have tc12 : x2.toInt ≠ 7 := fun q => c12 (Int32.toInt_inj.mp (by rw [q]; decide))
      have tc13 : x2.toInt ≠ 8 := fun q => c13 (Int32.toInt_inj.mp (by rw [q]; decide))
      have tc14 : x2.toInt ≠ 9 := fun q => c14 (Int32.toInt_inj.mp (by rw [q]; decide))
      have tc15 : x2.toInt ≠ 10 := fun q => c15 (Int32.toInt_inj.mp (by rw [q]; decide))
      refine lv_tableOut (tgt := 189) S.1 S.2.1 dX9_story_52 (by omega) (by decide) ?_
      refine lv_bipush (v := (-2)) S.1 S.2.1 dX9_story_189 (by decide) ?_
      obtain rfl := Option.some.inj hf
      exact ed_ri S hr hlocks hM hS dX9_story_191
    · replace hf := ed_in_ c4 hf
      refine lv_iload_n S.1 S.2.1 dX9_story_26 rfl (lv_at hl 3 rfl) ?_
      refine lv_aload_n S.1 S.2.1 dX9_story_27 rfl (lv_at hl 0 rfl) ?_
      refine lv_iload S.1 S.2.1 dX9_story_28 (lv_at hl 4 rfl) ?_
      refine lv_iconst (v := 0) S.1 S.2.1 dX9_story_30 (by decide) ?_
      obtain ⟨r26, hq26, hf⟩ := ed_b_e hf
      refine ed_kI (ed_rV S hK hM (c_X9_ofCopy _ D cy B x4 0 ν r26 hq26) (cwV 2 S.2.2.2.2 (ed_gV ed_w4_98 ed_w4_100 ed_wp_24 ed_w1_10 ed_w4_101) rfl rfl rfl hd_X9_ofCopy ⟨Nat.le_of_ble_eq_true rfl, Nat.le_of_ble_eq_true rfl⟩) (em_rc hK hM) rfl hl.1 rfl (Nat.le_of_ble_eq_true rfl) dX9_story_31 ⟨Nat.zero_le _, Nat.zero_le _⟩) hS (fun H locs hM hS => ?_)
      refine lv_iload_n S.1 S.2.1 dX9_story_34 rfl (lv_at hl 1 rfl) ?_
      refine lv_icmp_ne (tgt := 42) S.1 S.2.1 dX9_story_35 (by decide) (fun c27 => ?_) (fun c27 => ?_)
      · replace hf := ed_in_ c27 hf
        refine lv_iconst (v := 0) S.1 S.2.1 dX9_story_42 (by decide) ?_
        refine lv_iadd S.1 S.2.1 dX9_story_43 ?_
        refine lv_istore_n (lv' := [(3, .int (x3 + 0)), (0, .ref (B + 0)), (1, .int x1), (2, .int x2), (4, .int x4)]) S.1 S.2.1 dX9_story_44 rfl hl (by decide) rfl (fun ls hl => ?_)
        refine lv_iinc (v := x4 + 1) (lv' := [(4, .int (x4 + 1)), (3, .int (x3 + 0)), (0, .ref (B + 0)), (1, .int x1), (2, .int x2)]) S.1 S.2.1 dX9_story_45 hl (k := 4) rfl rfl (by decide) rfl (fun ls hl => ?_)
        refine lv_goto (tgt := 15) S.1 S.2.1 dX9_story_48 (by decide) ?_
        exact ih x1 x2 (x3 + 0) (x4 + 1) hf _ _ _ hM hS (lv_sub hl [2, 3, 4, 1, 0] rfl)
      · replace hf := ed_ip c27 hf
        refine lv_iconst (v := 1) S.1 S.2.1 dX9_story_38 (by decide) ?_
        refine lv_goto (tgt := 43) S.1 S.2.1 dX9_story_39 (by decide) ?_
        refine lv_iadd S.1 S.2.1 dX9_story_43 ?_
        refine lv_istore_n (lv' := [(3, .int (x3 + 1)), (0, .ref (B + 0)), (1, .int x1), (2, .int x2), (4, .int x4)]) S.1 S.2.1 dX9_story_44 rfl hl (by decide) rfl (fun ls hl => ?_)
        refine lv_iinc (v := x4 + 1) (lv' := [(4, .int (x4 + 1)), (3, .int (x3 + 1)), (0, .ref (B + 0)), (1, .int x1), (2, .int x2)]) S.1 S.2.1 dX9_story_45 hl (k := 4) rfl rfl (by decide) rfl (fun ls hl => ?_)
        refine lv_goto (tgt := 15) S.1 S.2.1 dX9_story_48 (by decide) ?_
        exact ih x1 x2 (x3 + 1) (x4 + 1) hf _ _ _ hM hS (lv_sub hl [2, 3, 4, 1, 0] rfl)
set_option maxHeartbeats 4000000 in
set_option maxRecDepth 100000 in
theorem c_X9_story (l : Launch) (D : va_G) (cy : Nat → ClassId) (B : Nat) (x1 x2 : Int32) (ν : em_MM) (r : Int32) (hf : f_X9_story x1 x2 ν = some r) :
    Met l yX9_story wsX9_story rmX9_story (ed_pC D cy (em_P D cy B ν) [.ref (B + 0), .int x1, .int x2]) (ed_qI (em_A B) (em_P D cy B ν) r) 0 0 (em_A B) := by
  refine Met.ofW (cc := cX9_story) (maxL := 5) (ret := (some .int)) (by decide) rfl ?_
  intro p e s m args below meth c s₁ B0 hml hv
  obtain ⟨rfl, hM, hK⟩ := hv
  have S : CallFix p m c cX9_story 5 s _ ed_ws RX9 := ⟨B0.exec, B0.bytes, hml, findClass_of_methodNamed B0.named, fun w hw => atoms_spec (ws := wsX9_story) B0.pre w (List.mem_cons_of_mem _ hw)⟩
  have hr := B0.returns
  have hlocks := B0.notSynchronized
  have hS : va_S (em_A B) s.heap s.heap [] := va_S.rf
  have hl := lv_entry ([.ref (B + 0), .int x1, .int x2]) (n := 5) (Nat.le_of_ble_eq_true rfl)
  rw [lg_entry_eq]
  generalize (lg_sl ([.ref (B + 0), .int x1, .int x2]) ++ List.replicate (5 - (lg_sl ([.ref (B + 0), .int x1, .int x2])).length) Slot.unset).toArray = ls at hl ⊢
  have hl : lv_has ls 5 [(0, .ref (B + 0)), (1, .int x1), (2, .int x2)] := hl
  unfold f_X9_story at hf
  refine lv_aload_n S.1 S.2.1 dX9_story_0 rfl (lv_at hl 0 rfl) ?_
  refine lv_iload_n S.1 S.2.1 dX9_story_1 rfl (lv_at hl 1 rfl) ?_
  obtain ⟨r1, hq1, hf⟩ := ed_b_e hf
  refine ed_kI (ed_rV S hK hM (c_X9_isStory _ D cy B x1 ν r1 hq1) (cwV 1 S.2.2.2.2 (ed_gV ed_w4_160 ed_w4_162 ed_wp_32 ed_w1_10 ed_w4_163) rfl rfl rfl hd_X9_isStory ⟨Nat.le_of_ble_eq_true rfl, Nat.le_of_ble_eq_true rfl⟩) (em_rc hK hM) rfl hl.1 rfl (Nat.le_of_ble_eq_true rfl) dX9_story_2 ⟨Nat.zero_le _, Nat.zero_le _⟩) hS (fun H locs hM hS => ?_)
  refine lv_if_ne (tgt := 10) S.1 S.2.1 dX9_story_5 (by decide) (fun c2 => ?_) (fun c2 => ?_)
  · replace hf := ed_in_ c2 hf
    refine lv_iconst (v := 0) S.1 S.2.1 dX9_story_10 (by decide) ?_
    refine lv_istore_n (lv' := [(3, .int 0), (0, .ref (B + 0)), (1, .int x1), (2, .int x2)]) S.1 S.2.1 dX9_story_11 rfl hl (by decide) rfl (fun ls hl => ?_)
    refine lv_iconst (v := 0) S.1 S.2.1 dX9_story_12 (by decide) ?_
    refine lv_istore (lv' := [(4, .int 0), (3, .int 0), (0, .ref (B + 0)), (1, .int x1), (2, .int x2)]) S.1 S.2.1 dX9_story_13 hl (by decide) rfl (fun ls hl => ?_)
    exact w_X9_story_15 S hr hlocks hK ν r ed_N x1 x2 0 0 hf _ _ _ hM hS (lv_sub hl [2, 3, 4, 1, 0] rfl)
  · replace hf := ed_ip c2 hf
    refine lv_iconst (v := (-1)) S.1 S.2.1 dX9_story_8 (by decide) ?_
    obtain rfl := Option.some.inj hf
    exact ed_ri S hr hlocks hM hS dX9_story_9
set_option maxHeartbeats 4000000 in
set_option maxRecDepth 100000 in
theorem c_X9_rowOf (l : Launch) (D : va_G) (cy : Nat → ClassId) (B : Nat) (x1 x2 x3 x4 : Int32) (ν : em_MM) (r : Int32) (hf : f_X9_rowOf x1 x2 x3 x4 ν = some r) :
    Met l yX9_rowOf wsX9_rowOf rmX9_rowOf (ed_pC D cy (em_P D cy B ν) [.ref (B + 0), .int x1, .int x2, .int x3, .int x4]) (ed_qI (em_A B) (em_P D cy B ν) r) 0 0 (em_A B) := by
  refine Met.ofW (cc := cX9_rowOf) (maxL := 5) (ret := (some .int)) (by decide) rfl ?_
  intro p e s m args below meth c s₁ B0 hml hv
  obtain ⟨rfl, hM, hK⟩ := hv
  have S : CallFix p m c cX9_rowOf 5 s _ ed_ws RX9 := ⟨B0.exec, B0.bytes, hml, findClass_of_methodNamed B0.named, fun w hw => atoms_spec (ws := wsX9_rowOf) B0.pre w (List.mem_cons_of_mem _ hw)⟩
  have hr := B0.returns
  have hlocks := B0.notSynchronized
  have hS : va_S (em_A B) s.heap s.heap [] := va_S.rf
  have hl := lv_entry ([.ref (B + 0), .int x1, .int x2, .int x3, .int x4]) (n := 5) (Nat.le_of_ble_eq_true rfl)
  rw [lg_entry_eq]
  generalize (lg_sl ([.ref (B + 0), .int x1, .int x2, .int x3, .int x4]) ++ List.replicate (5 - (lg_sl ([.ref (B + 0), .int x1, .int x2, .int x3, .int x4])).length) Slot.unset).toArray = ls at hl ⊢
  have hl : lv_has ls 5 [(0, .ref (B + 0)), (1, .int x1), (2, .int x2), (3, .int x3), (4, .int x4)] := hl
  unfold f_X9_rowOf at hf
  refine lv_aload_n S.1 S.2.1 dX9_rowOf_0 rfl (lv_at hl 0 rfl) ?_
  refine lv_iload_n S.1 S.2.1 dX9_rowOf_1 rfl (lv_at hl 1 rfl) ?_
  obtain ⟨r1, hq1, hf⟩ := ed_b_e hf
  refine ed_kI (ed_rV S hK hM (c_X9_isStory _ D cy B x1 ν r1 hq1) (cwV 1 S.2.2.2.2 (ed_gV ed_w4_160 ed_w4_162 ed_wp_32 ed_w1_10 ed_w4_163) rfl rfl rfl hd_X9_isStory ⟨Nat.le_of_ble_eq_true rfl, Nat.le_of_ble_eq_true rfl⟩) (em_rc hK hM) rfl hl.1 rfl (Nat.le_of_ble_eq_true rfl) dX9_rowOf_2 ⟨Nat.zero_le _, Nat.zero_le _⟩) hS (fun H locs hM hS => ?_)
  refine lv_if_ne (tgt := 10) S.1 S.2.1 dX9_rowOf_5 (by decide) (fun c2 => ?_) (fun c2 => ?_)
  · replace hf := ed_in_ c2 hf
    refine lv_iload_n S.1 S.2.1 dX9_rowOf_10 rfl (lv_at hl 2 rfl) ?_
    refine lv_if_ge (tgt := 17) S.1 S.2.1 dX9_rowOf_11 (by decide) (fun c3 => ?_) (fun c3 => ?_)
    · replace hf := ed_ip c3 hf
      refine lv_iload_n S.1 S.2.1 dX9_rowOf_17 rfl (lv_at hl 2 rfl) ?_
      refine lv_aload_n S.1 S.2.1 dX9_rowOf_18 rfl (lv_at hl 0 rfl) ?_
      refine lv_iload_n S.1 S.2.1 dX9_rowOf_19 rfl (lv_at hl 1 rfl) ?_
      refine lv_iload_n S.1 S.2.1 dX9_rowOf_20 rfl (lv_at hl 3 rfl) ?_
      obtain ⟨r4, hq4, hf⟩ := ed_b_e hf
      refine ed_kI (ed_rV S hK hM (c_X9_ofStory _ D cy B x1 x3 ν r4 hq4) (cwV 2 S.2.2.2.2 (ed_gV ed_w4_164 ed_w4_166 ed_wp_33 ed_w1_10 ed_w4_167) rfl rfl rfl hd_X9_ofStory ⟨Nat.le_of_ble_eq_true rfl, Nat.le_of_ble_eq_true rfl⟩) (em_rc hK hM) rfl hl.1 rfl (Nat.le_of_ble_eq_true rfl) dX9_rowOf_21 ⟨Nat.zero_le _, Nat.zero_le _⟩) hS (fun H locs hM hS => ?_)
      refine lv_icmp_ge (tgt := 39) S.1 S.2.1 dX9_rowOf_24 (by decide) (fun c5 => ?_) (fun c5 => ?_)
      · replace hf := ed_ip c5 hf
        refine lv_bipush (v := (-5)) S.1 S.2.1 dX9_rowOf_39 (by decide) ?_
        obtain rfl := Option.some.inj hf
        exact ed_ri S hr hlocks hM hS dX9_rowOf_41
      · replace hf := ed_in_ c5 hf
        refine lv_aload_n S.1 S.2.1 dX9_rowOf_27 rfl (lv_at hl 0 rfl) ?_
        refine lv_iload_n S.1 S.2.1 dX9_rowOf_28 rfl (lv_at hl 1 rfl) ?_
        refine lv_iload S.1 S.2.1 dX9_rowOf_29 (lv_at hl 4 rfl) ?_
        refine lv_iload_n S.1 S.2.1 dX9_rowOf_31 rfl (lv_at hl 2 rfl) ?_
        refine lv_iadd S.1 S.2.1 dX9_rowOf_32 ?_
        obtain ⟨r6, hq6, hf⟩ := ed_b_e hf
        refine ed_kI (ed_rV S hK hM (c_X9_ofStory _ D cy B x1 (x4 + x2) ν r6 hq6) (cwV 2 S.2.2.2.2 (ed_gV ed_w4_164 ed_w4_166 ed_wp_33 ed_w1_10 ed_w4_167) rfl rfl rfl hd_X9_ofStory ⟨Nat.le_of_ble_eq_true rfl, Nat.le_of_ble_eq_true rfl⟩) (em_rc hK hM) rfl hl.1 rfl (Nat.le_of_ble_eq_true rfl) dX9_rowOf_33 ⟨Nat.zero_le _, Nat.zero_le _⟩) hS (fun H locs hM hS => ?_)
        refine lv_goto (tgt := 41) S.1 S.2.1 dX9_rowOf_36 (by decide) ?_
        obtain rfl := Option.some.inj hf
        exact ed_ri S hr hlocks hM hS dX9_rowOf_41
    · replace hf := ed_in_ c3 hf
      refine lv_bipush (v := (-2)) S.1 S.2.1 dX9_rowOf_14 (by decide) ?_
      obtain rfl := Option.some.inj hf
      exact ed_ri S hr hlocks hM hS dX9_rowOf_16
  · replace hf := ed_ip c2 hf
    refine lv_iconst (v := (-1)) S.1 S.2.1 dX9_rowOf_8 (by decide) ?_
    obtain rfl := Option.some.inj hf
    exact ed_ri S hr hlocks hM hS dX9_rowOf_9
set_option maxHeartbeats 4000000 in
set_option maxRecDepth 100000 in
theorem c_X9_byline (l : Launch) (D : va_G) (cy : Nat → ClassId) (B : Nat) (x1 x2 : Int32) (ν : em_MM) (r : Int32) (hf : f_X9_byline x1 x2 ν = some r) :
    Met l yX9_byline wsX9_byline rmX9_byline (ed_pC D cy (em_P D cy B ν) [.ref (B + 0), .int x1, .int x2]) (ed_qI (em_A B) (em_P D cy B ν) r) 0 0 (em_A B) := by
  refine Met.ofW (cc := cX9_byline) (maxL := 3) (ret := (some .int)) (by decide) rfl ?_
  intro p e s m args below meth c s₁ B0 hml hv
  obtain ⟨rfl, hM, hK⟩ := hv
  have S : CallFix p m c cX9_byline 3 s _ ed_ws RX9 := ⟨B0.exec, B0.bytes, hml, findClass_of_methodNamed B0.named, fun w hw => atoms_spec (ws := wsX9_byline) B0.pre w (List.mem_cons_of_mem _ hw)⟩
  have hr := B0.returns
  have hlocks := B0.notSynchronized
  have hS : va_S (em_A B) s.heap s.heap [] := va_S.rf
  have hl := lv_entry ([.ref (B + 0), .int x1, .int x2]) (n := 3) (Nat.le_of_ble_eq_true rfl)
  rw [lg_entry_eq]
  generalize (lg_sl ([.ref (B + 0), .int x1, .int x2]) ++ List.replicate (3 - (lg_sl ([.ref (B + 0), .int x1, .int x2])).length) Slot.unset).toArray = ls at hl ⊢
  have hl : lv_has ls 3 [(0, .ref (B + 0)), (1, .int x1), (2, .int x2)] := hl
  unfold f_X9_byline at hf
  refine lv_aload_n S.1 S.2.1 dX9_byline_0 rfl (lv_at hl 0 rfl) ?_
  refine lv_iload_n S.1 S.2.1 dX9_byline_1 rfl (lv_at hl 1 rfl) ?_
  refine lv_iload_n S.1 S.2.1 dX9_byline_2 rfl (lv_at hl 2 rfl) ?_
  refine lv_iconst (v := 1) S.1 S.2.1 dX9_byline_3 (by decide) ?_
  refine lv_iconst (v := 2) S.1 S.2.1 dX9_byline_4 (by decide) ?_
  obtain ⟨r1, hq1, hf⟩ := ed_b_e hf
  refine ed_kI (ed_rV S hK hM (c_X9_rowOf _ D cy B x1 x2 1 2 ν r1 hq1) (cwV 4 S.2.2.2.2 (ed_gV ed_w5_13 ed_w5_15 ed_wp_45 ed_w1_10 ed_w5_16) rfl rfl rfl hd_X9_rowOf ⟨Nat.le_of_ble_eq_true rfl, Nat.le_of_ble_eq_true rfl⟩) (em_rc hK hM) rfl hl.1 rfl (Nat.le_of_ble_eq_true rfl) dX9_byline_5 ⟨Nat.zero_le _, Nat.zero_le _⟩) hS (fun H locs hM hS => ?_)
  obtain rfl := Option.some.inj hf
  exact ed_ri S hr hlocks hM hS dX9_byline_8
set_option maxHeartbeats 4000000 in
set_option maxRecDepth 100000 in
theorem c_X9_slugChar (l : Launch) (D : va_G) (cy : Nat → ClassId) (B : Nat) (x1 x2 : Int32) (ν : em_MM) (r : Int32) (hf : f_X9_slugChar x1 x2 ν = some r) :
    Met l yX9_slugChar wsX9_slugChar rmX9_slugChar (ed_pC D cy (em_P D cy B ν) [.ref (B + 0), .int x1, .int x2]) (ed_qI (em_A B) (em_P D cy B ν) r) 0 0 (em_A B) := by
  refine Met.ofW (cc := cX9_slugChar) (maxL := 3) (ret := (some .int)) (by decide) rfl ?_
  intro p e s m args below meth c s₁ B0 hml hv
  obtain ⟨rfl, hM, hK⟩ := hv
  have S : CallFix p m c cX9_slugChar 3 s _ ed_ws RX9 := ⟨B0.exec, B0.bytes, hml, findClass_of_methodNamed B0.named, fun w hw => atoms_spec (ws := wsX9_slugChar) B0.pre w (List.mem_cons_of_mem _ hw)⟩
  have hr := B0.returns
  have hlocks := B0.notSynchronized
  have hS : va_S (em_A B) s.heap s.heap [] := va_S.rf
  have hl := lv_entry ([.ref (B + 0), .int x1, .int x2]) (n := 3) (Nat.le_of_ble_eq_true rfl)
  rw [lg_entry_eq]
  generalize (lg_sl ([.ref (B + 0), .int x1, .int x2]) ++ List.replicate (3 - (lg_sl ([.ref (B + 0), .int x1, .int x2])).length) Slot.unset).toArray = ls at hl ⊢
  have hl : lv_has ls 3 [(0, .ref (B + 0)), (1, .int x1), (2, .int x2)] := hl
  unfold f_X9_slugChar at hf
  refine lv_aload_n S.1 S.2.1 dX9_slugChar_0 rfl (lv_at hl 0 rfl) ?_
  refine lv_iload_n S.1 S.2.1 dX9_slugChar_1 rfl (lv_at hl 1 rfl) ?_
  refine lv_iload_n S.1 S.2.1 dX9_slugChar_2 rfl (lv_at hl 2 rfl) ?_
  refine lv_bipush (v := 16) S.1 S.2.1 dX9_slugChar_3 (by decide) ?_
  refine lv_bipush (v := 17) S.1 S.2.1 dX9_slugChar_5 (by decide) ?_
  obtain ⟨r1, hq1, hf⟩ := ed_b_e hf
  refine ed_kI (ed_rV S hK hM (c_X9_rowOf _ D cy B x1 x2 16 17 ν r1 hq1) (cwV 4 S.2.2.2.2 (ed_gV ed_w5_13 ed_w5_15 ed_wp_45 ed_w1_10 ed_w5_16) rfl rfl rfl hd_X9_rowOf ⟨Nat.le_of_ble_eq_true rfl, Nat.le_of_ble_eq_true rfl⟩) (em_rc hK hM) rfl hl.1 rfl (Nat.le_of_ble_eq_true rfl) dX9_slugChar_7 ⟨Nat.zero_le _, Nat.zero_le _⟩) hS (fun H locs hM hS => ?_)
  obtain rfl := Option.some.inj hf
  exact ed_ri S hr hlocks hM hS dX9_slugChar_10
set_option maxHeartbeats 4000000 in
set_option maxRecDepth 100000 in
theorem c_X9_correction (l : Launch) (D : va_G) (cy : Nat → ClassId) (B : Nat) (x1 x2 : Int32) (ν : em_MM) (r : Int32) (hf : f_X9_correction x1 x2 ν = some r) :
    Met l yX9_correction wsX9_correction rmX9_correction (ed_pC D cy (em_P D cy B ν) [.ref (B + 0), .int x1, .int x2]) (ed_qI (em_A B) (em_P D cy B ν) r) 0 0 (em_A B) := by
  refine Met.ofW (cc := cX9_correction) (maxL := 3) (ret := (some .int)) (by decide) rfl ?_
  intro p e s m args below meth c s₁ B0 hml hv
  obtain ⟨rfl, hM, hK⟩ := hv
  have S : CallFix p m c cX9_correction 3 s _ ed_ws RX9 := ⟨B0.exec, B0.bytes, hml, findClass_of_methodNamed B0.named, fun w hw => atoms_spec (ws := wsX9_correction) B0.pre w (List.mem_cons_of_mem _ hw)⟩
  have hr := B0.returns
  have hlocks := B0.notSynchronized
  have hS : va_S (em_A B) s.heap s.heap [] := va_S.rf
  have hl := lv_entry ([.ref (B + 0), .int x1, .int x2]) (n := 3) (Nat.le_of_ble_eq_true rfl)
  rw [lg_entry_eq]
  generalize (lg_sl ([.ref (B + 0), .int x1, .int x2]) ++ List.replicate (3 - (lg_sl ([.ref (B + 0), .int x1, .int x2])).length) Slot.unset).toArray = ls at hl ⊢
  have hl : lv_has ls 3 [(0, .ref (B + 0)), (1, .int x1), (2, .int x2)] := hl
  unfold f_X9_correction at hf
  refine lv_aload_n S.1 S.2.1 dX9_correction_0 rfl (lv_at hl 0 rfl) ?_
  refine lv_iload_n S.1 S.2.1 dX9_correction_1 rfl (lv_at hl 1 rfl) ?_
  refine lv_iload_n S.1 S.2.1 dX9_correction_2 rfl (lv_at hl 2 rfl) ?_
  refine lv_bipush (v := 7) S.1 S.2.1 dX9_correction_3 (by decide) ?_
  refine lv_bipush (v := 10) S.1 S.2.1 dX9_correction_5 (by decide) ?_
  obtain ⟨r1, hq1, hf⟩ := ed_b_e hf
  refine ed_kI (ed_rV S hK hM (c_X9_rowOf _ D cy B x1 x2 7 10 ν r1 hq1) (cwV 4 S.2.2.2.2 (ed_gV ed_w5_13 ed_w5_15 ed_wp_45 ed_w1_10 ed_w5_16) rfl rfl rfl hd_X9_rowOf ⟨Nat.le_of_ble_eq_true rfl, Nat.le_of_ble_eq_true rfl⟩) (em_rc hK hM) rfl hl.1 rfl (Nat.le_of_ble_eq_true rfl) dX9_correction_7 ⟨Nat.zero_le _, Nat.zero_le _⟩) hS (fun H locs hM hS => ?_)
  obtain rfl := Option.some.inj hf
  exact ed_ri S hr hlocks hM hS dX9_correction_10
set_option maxHeartbeats 4000000 in
set_option maxRecDepth 100000 in
theorem w_X9_inUseFor_4 {p : Program} {l : Launch} {e : Env} {s : State} {m : MethodId} {args : Array Value} {below : List Frame} {meth : Method} {c : Code} {D : va_G} {cy : Nat → ClassId} {B : Nat} (S : CallFix p m c cX9_inUseFor 4 s args ed_ws RX9) (hr : meth.sig.returnType = (some .int)) (hlocks : meth.locks = false) (hK : ed_K D cy s) (ν : em_MM) (r : Int32) :
    ∀ (n : Nat), ∀ (x1 x2 x3 : Int32), f_X9_inUseFor_4 ν n x1 x2 x3 = some r → ∀ (H : Heap) (locs : List Loc) (ls : Array Slot), em_P D cy B ν H → va_S (em_A B) s.heap H locs → lv_has ls 4 [(0, .ref (B + 0)), (1, .int x1), (2, .int x2), (3, .int x3)] → W p l e (headSpec wsX9_inUseFor rmX9_inUseFor).room s m args below meth c H locs 0 0 (MQ below (ed_qI (em_A B) (em_P D cy B ν) r) args s 0 0 (em_A B)) (F0 m 4 ls []) := by
  intro n
  induction n with
  | zero => intro x1 x2 x3 hf; rw [f_X9_inUseFor_4] at hf; cases hf
  | succ n ih =>
    intro x1 x2 x3 hf H locs ls hM hS hl
    rw [f_X9_inUseFor_4] at hf
    refine lv_iload_n S.1 S.2.1 dX9_inUseFor_4 rfl (lv_at hl 3 rfl) ?_
    refine lv_aload_n S.1 S.2.1 dX9_inUseFor_5 rfl (lv_at hl 0 rfl) ?_
    refine em_get S ed_uX9 hK hM 0 (by decide) ed_w4_33 rfl rfl dX9_inUseFor_6 ?_
    refine lv_iconst (v := 3) S.1 S.2.1 dX9_inUseFor_9 (by decide) ?_
    obtain ⟨hx1, hf⟩ := ed_g_e hf
    refine em_ild S hK hM 1 (by decide) (em_e1 cy B _) hx1 dX9_inUseFor_10 ?_
    refine lv_icmp_ge (tgt := 48) S.1 S.2.1 dX9_inUseFor_11 (by decide) (fun c2 => ?_) (fun c2 => ?_)
    · replace hf := ed_ip c2 hf
      refine lv_iload_n S.1 S.2.1 dX9_inUseFor_48 rfl (lv_at hl 2 rfl) ?_
      obtain rfl := Option.some.inj hf
      exact ed_ri S hr hlocks hM hS dX9_inUseFor_49
    · replace hf := ed_in_ c2 hf
      refine lv_iload_n S.1 S.2.1 dX9_inUseFor_14 rfl (lv_at hl 2 rfl) ?_
      refine lv_aload_n S.1 S.2.1 dX9_inUseFor_15 rfl (lv_at hl 0 rfl) ?_
      refine lv_iload_n S.1 S.2.1 dX9_inUseFor_16 rfl (lv_at hl 3 rfl) ?_
      refine lv_iconst (v := 1) S.1 S.2.1 dX9_inUseFor_17 (by decide) ?_
      obtain ⟨r3, hq3, hf⟩ := ed_b_e hf
      refine ed_kI (ed_rV S hK hM (c_X9_ofCopy _ D cy B x3 1 ν r3 hq3) (cwV 2 S.2.2.2.2 (ed_gV ed_w4_98 ed_w4_100 ed_wp_24 ed_w1_10 ed_w4_101) rfl rfl rfl hd_X9_ofCopy ⟨Nat.le_of_ble_eq_true rfl, Nat.le_of_ble_eq_true rfl⟩) (em_rc hK hM) rfl hl.1 rfl (Nat.le_of_ble_eq_true rfl) dX9_inUseFor_18 ⟨Nat.zero_le _, Nat.zero_le _⟩) hS (fun H locs hM hS => ?_)
      refine lv_iload_n S.1 S.2.1 dX9_inUseFor_21 rfl (lv_at hl 1 rfl) ?_
      refine lv_icmp_ne (tgt := 39) S.1 S.2.1 dX9_inUseFor_22 (by decide) (fun c4 => ?_) (fun c4 => ?_)
      · replace hf := ed_in_ c4 hf
        refine lv_iconst (v := 0) S.1 S.2.1 dX9_inUseFor_39 (by decide) ?_
        refine lv_iadd S.1 S.2.1 dX9_inUseFor_40 ?_
        refine lv_istore_n (lv' := [(2, .int (x2 + 0)), (0, .ref (B + 0)), (1, .int x1), (3, .int x3)]) S.1 S.2.1 dX9_inUseFor_41 rfl hl (by decide) rfl (fun ls hl => ?_)
        refine lv_iinc (v := x3 + 1) (lv' := [(3, .int (x3 + 1)), (2, .int (x2 + 0)), (0, .ref (B + 0)), (1, .int x1)]) S.1 S.2.1 dX9_inUseFor_42 hl (k := 3) rfl rfl (by decide) rfl (fun ls hl => ?_)
        refine lv_goto (tgt := 4) S.1 S.2.1 dX9_inUseFor_45 (by decide) ?_
        exact ih x1 (x2 + 0) (x3 + 1) hf _ _ _ hM hS (lv_sub hl [2, 3, 1, 0] rfl)
      · replace hf := ed_ip c4 hf
        refine lv_aload_n S.1 S.2.1 dX9_inUseFor_25 rfl (lv_at hl 0 rfl) ?_
        refine lv_iload_n S.1 S.2.1 dX9_inUseFor_26 rfl (lv_at hl 3 rfl) ?_
        refine lv_iconst (v := 2) S.1 S.2.1 dX9_inUseFor_27 (by decide) ?_
        obtain ⟨r5, hq5, hf⟩ := ed_b_e hf
        refine ed_kI (ed_rV S hK hM (c_X9_ofCopy _ D cy B x3 2 ν r5 hq5) (cwV 2 S.2.2.2.2 (ed_gV ed_w4_98 ed_w4_100 ed_wp_24 ed_w1_10 ed_w4_101) rfl rfl rfl hd_X9_ofCopy ⟨Nat.le_of_ble_eq_true rfl, Nat.le_of_ble_eq_true rfl⟩) (em_rc hK hM) rfl hl.1 rfl (Nat.le_of_ble_eq_true rfl) dX9_inUseFor_28 ⟨Nat.zero_le _, Nat.zero_le _⟩) hS (fun H locs hM hS => ?_)
        refine lv_iconst (v := 1) S.1 S.2.1 dX9_inUseFor_31 (by decide) ?_
        refine lv_icmp_ne (tgt := 39) S.1 S.2.1 dX9_inUseFor_32 (by decide) (fun c6 => ?_) (fun c6 => ?_)
        · replace hf := ed_in_ c6 hf
          refine lv_iconst (v := 0) S.1 S.2.1 dX9_inUseFor_39 (by decide) ?_
          refine lv_iadd S.1 S.2.1 dX9_inUseFor_40 ?_
          refine lv_istore_n (lv' := [(2, .int (x2 + 0)), (0, .ref (B + 0)), (1, .int x1), (3, .int x3)]) S.1 S.2.1 dX9_inUseFor_41 rfl hl (by decide) rfl (fun ls hl => ?_)
          refine lv_iinc (v := x3 + 1) (lv' := [(3, .int (x3 + 1)), (2, .int (x2 + 0)), (0, .ref (B + 0)), (1, .int x1)]) S.1 S.2.1 dX9_inUseFor_42 hl (k := 3) rfl rfl (by decide) rfl (fun ls hl => ?_)
          refine lv_goto (tgt := 4) S.1 S.2.1 dX9_inUseFor_45 (by decide) ?_
          exact ih x1 (x2 + 0) (x3 + 1) hf _ _ _ hM hS (lv_sub hl [2, 3, 1, 0] rfl)
        · replace hf := ed_ip c6 hf
          refine lv_iconst (v := 1) S.1 S.2.1 dX9_inUseFor_35 (by decide) ?_
          refine lv_goto (tgt := 40) S.1 S.2.1 dX9_inUseFor_36 (by decide) ?_
          refine lv_iadd S.1 S.2.1 dX9_inUseFor_40 ?_
          refine lv_istore_n (lv' := [(2, .int (x2 + 1)), (0, .ref (B + 0)), (1, .int x1), (3, .int x3)]) S.1 S.2.1 dX9_inUseFor_41 rfl hl (by decide) rfl (fun ls hl => ?_)
          refine lv_iinc (v := x3 + 1) (lv' := [(3, .int (x3 + 1)), (2, .int (x2 + 1)), (0, .ref (B + 0)), (1, .int x1)]) S.1 S.2.1 dX9_inUseFor_42 hl (k := 3) rfl rfl (by decide) rfl (fun ls hl => ?_)
          refine lv_goto (tgt := 4) S.1 S.2.1 dX9_inUseFor_45 (by decide) ?_
          exact ih x1 (x2 + 1) (x3 + 1) hf _ _ _ hM hS (lv_sub hl [2, 3, 1, 0] rfl)
set_option maxHeartbeats 4000000 in
set_option maxRecDepth 100000 in
theorem c_X9_inUseFor (l : Launch) (D : va_G) (cy : Nat → ClassId) (B : Nat) (x1 : Int32) (ν : em_MM) (r : Int32) (hf : f_X9_inUseFor x1 ν = some r) :
    Met l yX9_inUseFor wsX9_inUseFor rmX9_inUseFor (ed_pC D cy (em_P D cy B ν) [.ref (B + 0), .int x1]) (ed_qI (em_A B) (em_P D cy B ν) r) 0 0 (em_A B) := by
  refine Met.ofW (cc := cX9_inUseFor) (maxL := 4) (ret := (some .int)) (by decide) rfl ?_
  intro p e s m args below meth c s₁ B0 hml hv
  obtain ⟨rfl, hM, hK⟩ := hv
  have S : CallFix p m c cX9_inUseFor 4 s _ ed_ws RX9 := ⟨B0.exec, B0.bytes, hml, findClass_of_methodNamed B0.named, fun w hw => atoms_spec (ws := wsX9_inUseFor) B0.pre w (List.mem_cons_of_mem _ hw)⟩
  have hr := B0.returns
  have hlocks := B0.notSynchronized
  have hS : va_S (em_A B) s.heap s.heap [] := va_S.rf
  have hl := lv_entry ([.ref (B + 0), .int x1]) (n := 4) (Nat.le_of_ble_eq_true rfl)
  rw [lg_entry_eq]
  generalize (lg_sl ([.ref (B + 0), .int x1]) ++ List.replicate (4 - (lg_sl ([.ref (B + 0), .int x1])).length) Slot.unset).toArray = ls at hl ⊢
  have hl : lv_has ls 4 [(0, .ref (B + 0)), (1, .int x1)] := hl
  unfold f_X9_inUseFor at hf
  refine lv_iconst (v := 0) S.1 S.2.1 dX9_inUseFor_0 (by decide) ?_
  refine lv_istore_n (lv' := [(2, .int 0), (0, .ref (B + 0)), (1, .int x1)]) S.1 S.2.1 dX9_inUseFor_1 rfl hl (by decide) rfl (fun ls hl => ?_)
  refine lv_iconst (v := 0) S.1 S.2.1 dX9_inUseFor_2 (by decide) ?_
  refine lv_istore_n (lv' := [(3, .int 0), (2, .int 0), (0, .ref (B + 0)), (1, .int x1)]) S.1 S.2.1 dX9_inUseFor_3 rfl hl (by decide) rfl (fun ls hl => ?_)
  exact w_X9_inUseFor_4 S hr hlocks hK ν r ed_N x1 0 0 hf _ _ _ hM hS (lv_sub hl [2, 3, 1, 0] rfl)
set_option maxHeartbeats 4000000 in
set_option maxRecDepth 100000 in
theorem c_X9_client (l : Launch) (D : va_G) (cy : Nat → ClassId) (B : Nat) (x1 x2 : Int32) (ν : em_MM) (r : Int32) (hf : f_X9_client x1 x2 ν = some r) :
    Met l yX9_client wsX9_client rmX9_client (ed_pC D cy (em_P D cy B ν) [.ref (B + 0), .int x1, .int x2]) (ed_qI (em_A B) (em_P D cy B ν) r) 0 0 (em_A B) := by
  refine Met.ofW (cc := cX9_client) (maxL := 3) (ret := (some .int)) (by decide) rfl ?_
  intro p e s m args below meth c s₁ B0 hml hv
  obtain ⟨rfl, hM, hK⟩ := hv
  have S : CallFix p m c cX9_client 3 s _ ed_ws RX9 := ⟨B0.exec, B0.bytes, hml, findClass_of_methodNamed B0.named, fun w hw => atoms_spec (ws := wsX9_client) B0.pre w (List.mem_cons_of_mem _ hw)⟩
  have hr := B0.returns
  have hlocks := B0.notSynchronized
  have hS : va_S (em_A B) s.heap s.heap [] := va_S.rf
  have hl := lv_entry ([.ref (B + 0), .int x1, .int x2]) (n := 3) (Nat.le_of_ble_eq_true rfl)
  rw [lg_entry_eq]
  generalize (lg_sl ([.ref (B + 0), .int x1, .int x2]) ++ List.replicate (3 - (lg_sl ([.ref (B + 0), .int x1, .int x2])).length) Slot.unset).toArray = ls at hl ⊢
  have hl : lv_has ls 3 [(0, .ref (B + 0)), (1, .int x1), (2, .int x2)] := hl
  unfold f_X9_client at hf
  refine lv_aload_n S.1 S.2.1 dX9_client_0 rfl (lv_at hl 0 rfl) ?_
  refine lv_iload_n S.1 S.2.1 dX9_client_1 rfl (lv_at hl 1 rfl) ?_
  obtain ⟨r1, hq1, hf⟩ := ed_b_e hf
  refine ed_kI (ed_rV S hK hM (c_X9_isClient _ D cy B x1 ν r1 hq1) (cwV 1 S.2.2.2.2 (ed_gV ed_w4_86 ed_w4_88 ed_wp_22 ed_w1_10 ed_w4_89) rfl rfl rfl hd_X9_isClient ⟨Nat.le_of_ble_eq_true rfl, Nat.le_of_ble_eq_true rfl⟩) (em_rc hK hM) rfl hl.1 rfl (Nat.le_of_ble_eq_true rfl) dX9_client_2 ⟨Nat.zero_le _, Nat.zero_le _⟩) hS (fun H locs hM hS => ?_)
  refine lv_if_ne (tgt := 10) S.1 S.2.1 dX9_client_5 (by decide) (fun c2 => ?_) (fun c2 => ?_)
  · replace hf := ed_in_ c2 hf
    refine lv_iload_n S.1 S.2.1 dX9_client_10 rfl (lv_at hl 2 rfl) ?_
    refine lv_iconst (v := 0) S.1 S.2.1 dX9_client_11 (by decide) ?_
    refine lv_bipush (v := 10) S.1 S.2.1 dX9_client_12 (by decide) ?_
    refine ed_kI (ed_rS S hK hM (c_X9_in _ D cy (em_P D cy B ν) (em_A B) x2 0 10) (va_cwS 3 S.2.2.2.2 (ed_gS ed_w4_71 ed_w4_72 ed_w1_10 ed_w4_73) rfl rfl rfl hd_X9_in.2 ⟨Nat.le_of_ble_eq_true rfl, Nat.le_of_ble_eq_true rfl⟩) rfl hl.1 rfl (Nat.le_of_ble_eq_true rfl) dX9_client_14 ⟨Nat.zero_le _, Nat.zero_le _⟩) hS (fun H locs hM hS => ?_)
    refine lv_if_ne (tgt := 23) S.1 S.2.1 dX9_client_17 (by decide) (fun c4 => ?_) (fun c4 => ?_)
    · replace hf := ed_in_ c4 hf
      refine lv_iload_n S.1 S.2.1 dX9_client_23 rfl (lv_at hl 2 rfl) ?_
      refine lv_bipush (v := 9) S.1 S.2.1 dX9_client_24 (by decide) ?_
      refine lv_icmp_ge (tgt := 38) S.1 S.2.1 dX9_client_26 (by decide) (fun c5 => ?_) (fun c5 => ?_)
      · replace hf := ed_ip c5 hf
        refine lv_iload_n S.1 S.2.1 dX9_client_38 rfl (lv_at hl 2 rfl) ?_
        refine lv_bipush (v := 9) S.1 S.2.1 dX9_client_39 (by decide) ?_
        refine lv_icmp_ne (tgt := 52) S.1 S.2.1 dX9_client_41 (by decide) (fun c6 => ?_) (fun c6 => ?_)
        · replace hf := ed_in_ c6 hf
          refine lv_aload_n S.1 S.2.1 dX9_client_52 rfl (lv_at hl 0 rfl) ?_
          refine lv_iload_n S.1 S.2.1 dX9_client_53 rfl (lv_at hl 1 rfl) ?_
          refine lv_bipush (v := 9) S.1 S.2.1 dX9_client_54 (by decide) ?_
          obtain ⟨r7, hq7, hf⟩ := ed_b_e hf
          refine ed_kI (ed_rV S hK hM (c_X9_ofClient _ D cy B x1 9 ν r7 hq7) (cwV 2 S.2.2.2.2 (ed_gV ed_w4_113 ed_w4_115 ed_wp_25 ed_w1_10 ed_w4_116) rfl rfl rfl hd_X9_ofClient ⟨Nat.le_of_ble_eq_true rfl, Nat.le_of_ble_eq_true rfl⟩) (em_rc hK hM) rfl hl.1 rfl (Nat.le_of_ble_eq_true rfl) dX9_client_56 ⟨Nat.zero_le _, Nat.zero_le _⟩) hS (fun H locs hM hS => ?_)
          obtain rfl := Option.some.inj hf
          exact ed_ri S hr hlocks hM hS dX9_client_59
        · replace hf := ed_ip c6 hf
          refine lv_aload_n S.1 S.2.1 dX9_client_44 rfl (lv_at hl 0 rfl) ?_
          refine lv_iload_n S.1 S.2.1 dX9_client_45 rfl (lv_at hl 1 rfl) ?_
          obtain ⟨r8, hq8, hf⟩ := ed_b_e hf
          refine ed_kI (ed_rV S hK hM (c_X9_inUseFor _ D cy B x1 ν r8 hq8) (cwV 1 S.2.2.2.2 (ed_gV ed_w5_29 ed_w5_31 ed_wp_46 ed_w1_10 ed_w5_32) rfl rfl rfl hd_X9_inUseFor ⟨Nat.le_of_ble_eq_true rfl, Nat.le_of_ble_eq_true rfl⟩) (em_rc hK hM) rfl hl.1 rfl (Nat.le_of_ble_eq_true rfl) dX9_client_46 ⟨Nat.zero_le _, Nat.zero_le _⟩) hS (fun H locs hM hS => ?_)
          refine lv_goto (tgt := 59) S.1 S.2.1 dX9_client_49 (by decide) ?_
          obtain rfl := Option.some.inj hf
          exact ed_ri S hr hlocks hM hS dX9_client_59
      · replace hf := ed_in_ c5 hf
        refine lv_aload_n S.1 S.2.1 dX9_client_29 rfl (lv_at hl 0 rfl) ?_
        refine lv_iload_n S.1 S.2.1 dX9_client_30 rfl (lv_at hl 1 rfl) ?_
        refine lv_iload_n S.1 S.2.1 dX9_client_31 rfl (lv_at hl 2 rfl) ?_
        obtain ⟨r9, hq9, hf⟩ := ed_b_e hf
        refine ed_kI (ed_rV S hK hM (c_X9_ofClient _ D cy B x1 x2 ν r9 hq9) (cwV 2 S.2.2.2.2 (ed_gV ed_w4_113 ed_w4_115 ed_wp_25 ed_w1_10 ed_w4_116) rfl rfl rfl hd_X9_ofClient ⟨Nat.le_of_ble_eq_true rfl, Nat.le_of_ble_eq_true rfl⟩) (em_rc hK hM) rfl hl.1 rfl (Nat.le_of_ble_eq_true rfl) dX9_client_32 ⟨Nat.zero_le _, Nat.zero_le _⟩) hS (fun H locs hM hS => ?_)
        refine lv_goto (tgt := 59) S.1 S.2.1 dX9_client_35 (by decide) ?_
        obtain rfl := Option.some.inj hf
        exact ed_ri S hr hlocks hM hS dX9_client_59
    · replace hf := ed_ip c4 hf
      refine lv_bipush (v := (-2)) S.1 S.2.1 dX9_client_20 (by decide) ?_
      obtain rfl := Option.some.inj hf
      exact ed_ri S hr hlocks hM hS dX9_client_22
  · replace hf := ed_ip c2 hf
    refine lv_iconst (v := (-1)) S.1 S.2.1 dX9_client_8 (by decide) ?_
    obtain rfl := Option.some.inj hf
    exact ed_ri S hr hlocks hM hS dX9_client_9
set_option maxHeartbeats 4000000 in
set_option maxRecDepth 100000 in
theorem w_X9_wrote_5 {p : Program} {l : Launch} {e : Env} {s : State} {m : MethodId} {args : Array Value} {below : List Frame} {meth : Method} {c : Code} {D : va_G} {cy : Nat → ClassId} {B : Nat} (S : CallFix p m c cX9_wrote 5 s args ed_ws RX9) (hr : meth.sig.returnType = (some .boolean)) (hlocks : meth.locks = false) (hK : ed_K D cy s) (ν : em_MM) (r : Int32) :
    ∀ (n : Nat), ∀ (x1 x2 x3 x4 : Int32), f_X9_wrote_5 ν n x1 x2 x3 x4 = some r → ∀ (H : Heap) (locs : List Loc) (ls : Array Slot), em_P D cy B ν H → va_S (em_A B) s.heap H locs → lv_has ls 5 [(0, .ref (B + 0)), (1, .int x1), (2, .int x2), (3, .int x3), (4, .int x4)] → W p l e (headSpec wsX9_wrote rmX9_wrote).room s m args below meth c H locs 0 0 (MQ below (ed_qI (em_A B) (em_P D cy B ν) r) args s 0 0 (em_A B)) (F0 m 5 ls []) := by
  intro n
  induction n with
  | zero => intro x1 x2 x3 x4 hf; rw [f_X9_wrote_5] at hf; cases hf
  | succ n ih =>
    intro x1 x2 x3 x4 hf H locs ls hM hS hl
    rw [f_X9_wrote_5] at hf
    refine lv_iload S.1 S.2.1 dX9_wrote_5 (lv_at hl 4 rfl) ?_
    refine lv_aload_n S.1 S.2.1 dX9_wrote_7 rfl (lv_at hl 0 rfl) ?_
    refine lv_iload_n S.1 S.2.1 dX9_wrote_8 rfl (lv_at hl 2 rfl) ?_
    refine lv_iconst (v := 1) S.1 S.2.1 dX9_wrote_9 (by decide) ?_
    obtain ⟨r1, hq1, hf⟩ := ed_b_e hf
    refine ed_kI (ed_rV S hK hM (c_X9_ofStory _ D cy B x2 1 ν r1 hq1) (cwV 2 S.2.2.2.2 (ed_gV ed_w4_164 ed_w4_166 ed_wp_33 ed_w1_10 ed_w4_167) rfl rfl rfl hd_X9_ofStory ⟨Nat.le_of_ble_eq_true rfl, Nat.le_of_ble_eq_true rfl⟩) (em_rc hK hM) rfl hl.1 rfl (Nat.le_of_ble_eq_true rfl) dX9_wrote_10 ⟨Nat.zero_le _, Nat.zero_le _⟩) hS (fun H locs hM hS => ?_)
    refine lv_icmp_ge (tgt := 45) S.1 S.2.1 dX9_wrote_13 (by decide) (fun c2 => ?_) (fun c2 => ?_)
    · replace hf := ed_ip c2 hf
      refine lv_iload_n S.1 S.2.1 dX9_wrote_45 rfl (lv_at hl 3 rfl) ?_
      obtain ⟨hb3, hf⟩ := ed_g_e hf
      obtain rfl := Option.some.inj hf
      exact ed_rz S hr hlocks (ed_bo_n hb3).1 hM hS dX9_wrote_46
    · replace hf := ed_in_ c2 hf
      refine lv_iload_n S.1 S.2.1 dX9_wrote_16 rfl (lv_at hl 3 rfl) ?_
      refine lv_if_ne (tgt := 33) S.1 S.2.1 dX9_wrote_17 (by decide) (fun c4 => ?_) (fun c4 => ?_)
      · replace hf := ed_in_ c4 hf
        refine lv_iconst (v := 1) S.1 S.2.1 dX9_wrote_33 (by decide) ?_
        refine lv_goto (tgt := 38) S.1 S.2.1 dX9_wrote_34 (by decide) ?_
        refine lv_istore_n (lv' := [(3, .int 1), (0, .ref (B + 0)), (1, .int x1), (2, .int x2), (4, .int x4)]) S.1 S.2.1 dX9_wrote_38 rfl hl (by decide) rfl (fun ls hl => ?_)
        refine lv_iinc (v := x4 + 1) (lv' := [(4, .int (x4 + 1)), (3, .int 1), (0, .ref (B + 0)), (1, .int x1), (2, .int x2)]) S.1 S.2.1 dX9_wrote_39 hl (k := 4) rfl rfl (by decide) rfl (fun ls hl => ?_)
        refine lv_goto (tgt := 5) S.1 S.2.1 dX9_wrote_42 (by decide) ?_
        exact ih x1 x2 1 (x4 + 1) hf _ _ _ hM hS (lv_sub hl [2, 3, 4, 1, 0] rfl)
      · replace hf := ed_ip c4 hf
        refine lv_aload_n S.1 S.2.1 dX9_wrote_20 rfl (lv_at hl 0 rfl) ?_
        refine lv_iload_n S.1 S.2.1 dX9_wrote_21 rfl (lv_at hl 2 rfl) ?_
        refine lv_iconst (v := 2) S.1 S.2.1 dX9_wrote_22 (by decide) ?_
        refine lv_iload S.1 S.2.1 dX9_wrote_23 (lv_at hl 4 rfl) ?_
        refine lv_iadd S.1 S.2.1 dX9_wrote_25 ?_
        obtain ⟨r5, hq5, hf⟩ := ed_b_e hf
        refine ed_kI (ed_rV S hK hM (c_X9_ofStory _ D cy B x2 (2 + x4) ν r5 hq5) (cwV 2 S.2.2.2.2 (ed_gV ed_w4_164 ed_w4_166 ed_wp_33 ed_w1_10 ed_w4_167) rfl rfl rfl hd_X9_ofStory ⟨Nat.le_of_ble_eq_true rfl, Nat.le_of_ble_eq_true rfl⟩) (em_rc hK hM) rfl hl.1 rfl (Nat.le_of_ble_eq_true rfl) dX9_wrote_26 ⟨Nat.zero_le _, Nat.zero_le _⟩) hS (fun H locs hM hS => ?_)
        refine lv_iload_n S.1 S.2.1 dX9_wrote_29 rfl (lv_at hl 1 rfl) ?_
        refine lv_icmp_ne (tgt := 37) S.1 S.2.1 dX9_wrote_30 (by decide) (fun c6 => ?_) (fun c6 => ?_)
        · replace hf := ed_in_ c6 hf
          refine lv_iconst (v := 0) S.1 S.2.1 dX9_wrote_37 (by decide) ?_
          refine lv_istore_n (lv' := [(3, .int 0), (0, .ref (B + 0)), (1, .int x1), (2, .int x2), (4, .int x4)]) S.1 S.2.1 dX9_wrote_38 rfl hl (by decide) rfl (fun ls hl => ?_)
          refine lv_iinc (v := x4 + 1) (lv' := [(4, .int (x4 + 1)), (3, .int 0), (0, .ref (B + 0)), (1, .int x1), (2, .int x2)]) S.1 S.2.1 dX9_wrote_39 hl (k := 4) rfl rfl (by decide) rfl (fun ls hl => ?_)
          refine lv_goto (tgt := 5) S.1 S.2.1 dX9_wrote_42 (by decide) ?_
          exact ih x1 x2 0 (x4 + 1) hf _ _ _ hM hS (lv_sub hl [2, 3, 4, 1, 0] rfl)
        · replace hf := ed_ip c6 hf
          refine lv_iconst (v := 1) S.1 S.2.1 dX9_wrote_33 (by decide) ?_
          refine lv_goto (tgt := 38) S.1 S.2.1 dX9_wrote_34 (by decide) ?_
          refine lv_istore_n (lv' := [(3, .int 1), (0, .ref (B + 0)), (1, .int x1), (2, .int x2), (4, .int x4)]) S.1 S.2.1 dX9_wrote_38 rfl hl (by decide) rfl (fun ls hl => ?_)
          refine lv_iinc (v := x4 + 1) (lv' := [(4, .int (x4 + 1)), (3, .int 1), (0, .ref (B + 0)), (1, .int x1), (2, .int x2)]) S.1 S.2.1 dX9_wrote_39 hl (k := 4) rfl rfl (by decide) rfl (fun ls hl => ?_)
          refine lv_goto (tgt := 5) S.1 S.2.1 dX9_wrote_42 (by decide) ?_
          exact ih x1 x2 1 (x4 + 1) hf _ _ _ hM hS (lv_sub hl [2, 3, 4, 1, 0] rfl)
set_option maxHeartbeats 4000000 in
set_option maxRecDepth 100000 in
theorem c_X9_wrote (l : Launch) (D : va_G) (cy : Nat → ClassId) (B : Nat) (x1 x2 : Int32) (ν : em_MM) (r : Int32) (hf : f_X9_wrote x1 x2 ν = some r) :
    Met l yX9_wrote wsX9_wrote rmX9_wrote (ed_pC D cy (em_P D cy B ν) [.ref (B + 0), .int x1, .int x2]) (ed_qI (em_A B) (em_P D cy B ν) r) 0 0 (em_A B) := by
  refine Met.ofW (cc := cX9_wrote) (maxL := 5) (ret := (some .boolean)) (by decide) rfl ?_
  intro p e s m args below meth c s₁ B0 hml hv
  obtain ⟨rfl, hM, hK⟩ := hv
  have S : CallFix p m c cX9_wrote 5 s _ ed_ws RX9 := ⟨B0.exec, B0.bytes, hml, findClass_of_methodNamed B0.named, fun w hw => atoms_spec (ws := wsX9_wrote) B0.pre w (List.mem_cons_of_mem _ hw)⟩
  have hr := B0.returns
  have hlocks := B0.notSynchronized
  have hS : va_S (em_A B) s.heap s.heap [] := va_S.rf
  have hl := lv_entry ([.ref (B + 0), .int x1, .int x2]) (n := 5) (Nat.le_of_ble_eq_true rfl)
  rw [lg_entry_eq]
  generalize (lg_sl ([.ref (B + 0), .int x1, .int x2]) ++ List.replicate (5 - (lg_sl ([.ref (B + 0), .int x1, .int x2])).length) Slot.unset).toArray = ls at hl ⊢
  have hl : lv_has ls 5 [(0, .ref (B + 0)), (1, .int x1), (2, .int x2)] := hl
  unfold f_X9_wrote at hf
  refine lv_iconst (v := 0) S.1 S.2.1 dX9_wrote_0 (by decide) ?_
  refine lv_istore_n (lv' := [(3, .int 0), (0, .ref (B + 0)), (1, .int x1), (2, .int x2)]) S.1 S.2.1 dX9_wrote_1 rfl hl (by decide) rfl (fun ls hl => ?_)
  refine lv_iconst (v := 0) S.1 S.2.1 dX9_wrote_2 (by decide) ?_
  refine lv_istore (lv' := [(4, .int 0), (3, .int 0), (0, .ref (B + 0)), (1, .int x1), (2, .int x2)]) S.1 S.2.1 dX9_wrote_3 hl (by decide) rfl (fun ls hl => ?_)
  exact w_X9_wrote_5 S hr hlocks hK ν r ed_N x1 x2 0 0 hf _ _ _ hM hS (lv_sub hl [2, 3, 4, 1, 0] rfl)
set_option maxHeartbeats 4000000 in
set_option maxRecDepth 100000 in
theorem w_X9_person_32 {p : Program} {l : Launch} {e : Env} {s : State} {m : MethodId} {args : Array Value} {below : List Frame} {meth : Method} {c : Code} {D : va_G} {cy : Nat → ClassId} {B : Nat} (S : CallFix p m c cX9_person 6 s args ed_ws RX9) (hr : meth.sig.returnType = (some .int)) (hlocks : meth.locks = false) (hK : ed_K D cy s) (ν : em_MM) (r : Int32) :
    ∀ (n : Nat), ∀ (x1 x2 x3 x4 x5 : Int32), f_X9_person_32 ν n x1 x2 x3 x4 x5 = some r → ∀ (H : Heap) (locs : List Loc) (ls : Array Slot), em_P D cy B ν H → va_S (em_A B) s.heap H locs → lv_has ls 6 [(0, .ref (B + 0)), (1, .int x1), (2, .int x2), (3, .int x3), (4, .int x4), (5, .int x5)] → W p l e (headSpec wsX9_person rmX9_person).room s m args below meth c H locs 0 0 (MQ below (ed_qI (em_A B) (em_P D cy B ν) r) args s 0 0 (em_A B)) (F0 m 32 ls []) := by
  intro n
  induction n with
  | zero => intro x1 x2 x3 x4 x5 hf; rw [f_X9_person_32] at hf; cases hf
  | succ n ih =>
    intro x1 x2 x3 x4 x5 hf H locs ls hM hS hl
    rw [f_X9_person_32] at hf
    refine lv_iload S.1 S.2.1 dX9_person_32 (lv_at hl 5 rfl) ?_
    refine lv_aload_n S.1 S.2.1 dX9_person_34 rfl (lv_at hl 0 rfl) ?_
    refine em_get S ed_uX9 hK hM 0 (by decide) ed_w4_33 rfl rfl dX9_person_35 ?_
    refine lv_iconst (v := 2) S.1 S.2.1 dX9_person_38 (by decide) ?_
    obtain ⟨hx5, hf⟩ := ed_g_e hf
    refine em_ild S hK hM 1 (by decide) (em_e1 cy B _) hx5 dX9_person_39 ?_
    refine lv_icmp_ge (tgt := 93) S.1 S.2.1 dX9_person_40 (by decide) (fun c6 => ?_) (fun c6 => ?_)
    · replace hf := ed_ip c6 hf
      refine lv_iload_n S.1 S.2.1 dX9_person_93 rfl (lv_at hl 2 rfl) ?_
      refine lv_iconst (v := 2) S.1 S.2.1 dX9_person_94 (by decide) ?_
      refine lv_icmp_ge (tgt := 114) S.1 S.2.1 dX9_person_95 (by decide) (fun c7 => ?_) (fun c7 => ?_)
      · replace hf := ed_ip c7 hf
        refine lv_iload_n S.1 S.2.1 dX9_person_114 rfl (lv_at hl 2 rfl) ?_
        refine lv_iconst (v := 2) S.1 S.2.1 dX9_person_115 (by decide) ?_
        refine lv_icmp_ne (tgt := 123) S.1 S.2.1 dX9_person_116 (by decide) (fun c8 => ?_) (fun c8 => ?_)
        · replace hf := ed_in_ c8 hf
          refine lv_iload S.1 S.2.1 dX9_person_123 (lv_at hl 4 rfl) ?_
          obtain rfl := Option.some.inj hf
          exact ed_ri S hr hlocks hM hS dX9_person_125
        · replace hf := ed_ip c8 hf
          refine lv_iload_n S.1 S.2.1 dX9_person_119 rfl (lv_at hl 3 rfl) ?_
          refine lv_goto (tgt := 125) S.1 S.2.1 dX9_person_120 (by decide) ?_
          obtain rfl := Option.some.inj hf
          exact ed_ri S hr hlocks hM hS dX9_person_125
      · replace hf := ed_in_ c7 hf
        refine lv_aload_n S.1 S.2.1 dX9_person_98 rfl (lv_at hl 0 rfl) ?_
        refine em_get S ed_uX9 hK hM 0 (by decide) ed_w4_33 rfl rfl dX9_person_99 ?_
        refine lv_bipush (v := 87) S.1 S.2.1 dX9_person_102 (by decide) ?_
        refine lv_iconst (v := 2) S.1 S.2.1 dX9_person_104 (by decide) ?_
        refine lv_iload_n S.1 S.2.1 dX9_person_105 rfl (lv_at hl 1 rfl) ?_
        refine lv_imul S.1 S.2.1 dX9_person_106 ?_
        refine lv_iadd S.1 S.2.1 dX9_person_107 ?_
        refine lv_iload_n S.1 S.2.1 dX9_person_108 rfl (lv_at hl 2 rfl) ?_
        refine lv_iadd S.1 S.2.1 dX9_person_109 ?_
        obtain ⟨hx9, hf⟩ := ed_g_e hf
        refine em_ild S hK hM 1 (by decide) (em_e1 cy B _) hx9 dX9_person_110 ?_
        refine lv_goto (tgt := 125) S.1 S.2.1 dX9_person_111 (by decide) ?_
        obtain rfl := Option.some.inj hf
        exact ed_ri S hr hlocks hM hS dX9_person_125
    · replace hf := ed_in_ c6 hf
      refine lv_iload_n S.1 S.2.1 dX9_person_43 rfl (lv_at hl 3 rfl) ?_
      refine lv_aload_n S.1 S.2.1 dX9_person_44 rfl (lv_at hl 0 rfl) ?_
      refine lv_iload_n S.1 S.2.1 dX9_person_45 rfl (lv_at hl 1 rfl) ?_
      refine lv_iload S.1 S.2.1 dX9_person_46 (lv_at hl 5 rfl) ?_
      obtain ⟨r10, hq10, hf⟩ := ed_b_e hf
      refine ed_kI (ed_rV S hK hM (c_X9_wrote _ D cy B x1 x5 ν r10 hq10) (cwV 2 S.2.2.2.2 (ed_gV ed_w5_37 ed_w5_39 ed_wp_47 ed_w1_10 ed_w5_40) rfl rfl rfl hd_X9_wrote ⟨Nat.le_of_ble_eq_true rfl, Nat.le_of_ble_eq_true rfl⟩) (em_rc hK hM) rfl hl.1 rfl (Nat.le_of_ble_eq_true rfl) dX9_person_48 ⟨Nat.zero_le _, Nat.zero_le _⟩) hS (fun H locs hM hS => ?_)
      refine lv_if_eq (tgt := 58) S.1 S.2.1 dX9_person_51 (by decide) (fun c11 => ?_) (fun c11 => ?_)
      · replace hf := ed_ip c11 hf
        refine lv_iconst (v := 0) S.1 S.2.1 dX9_person_58 (by decide) ?_
        refine lv_iadd S.1 S.2.1 dX9_person_59 ?_
        refine lv_istore_n (lv' := [(3, .int (x3 + 0)), (0, .ref (B + 0)), (1, .int x1), (2, .int x2), (4, .int x4), (5, .int x5)]) S.1 S.2.1 dX9_person_60 rfl hl (by decide) rfl (fun ls hl => ?_)
        refine lv_iload S.1 S.2.1 dX9_person_61 (lv_at hl 4 rfl) ?_
        refine lv_aload_n S.1 S.2.1 dX9_person_63 rfl (lv_at hl 1 rfl) ?_
        refine lv_iload_n S.1 S.2.1 dX9_person_64 rfl (lv_at hl 2 rfl) ?_
        refine lv_iload S.1 S.2.1 dX9_person_65 (lv_at hl 5 rfl) ?_
        obtain ⟨r12, hq12, hf⟩ := ed_b_e hf
        refine ed_kI (ed_rV S hK hM (c_X9_wrote _ D cy B x1 x5 ν r12 hq12) (cwV 2 S.2.2.2.2 (ed_gV ed_w5_37 ed_w5_39 ed_wp_47 ed_w1_10 ed_w5_40) rfl rfl rfl hd_X9_wrote ⟨Nat.le_of_ble_eq_true rfl, Nat.le_of_ble_eq_true rfl⟩) (em_rc hK hM) rfl hl.1 rfl (Nat.le_of_ble_eq_true rfl) dX9_person_67 ⟨Nat.zero_le _, Nat.zero_le _⟩) hS (fun H locs hM hS => ?_)
        refine lv_if_eq (tgt := 83) S.1 S.2.1 dX9_person_70 (by decide) (fun c13 => ?_) (fun c13 => ?_)
        · replace hf := ed_ip c13 hf
          refine lv_iconst (v := 0) S.1 S.2.1 dX9_person_83 (by decide) ?_
          refine lv_iadd S.1 S.2.1 dX9_person_84 ?_
          refine lv_istore (lv' := [(4, .int (x4 + 0)), (3, .int (x3 + 0)), (0, .ref (B + 0)), (1, .int x1), (2, .int x2), (5, .int x5)]) S.1 S.2.1 dX9_person_85 hl (by decide) rfl (fun ls hl => ?_)
          refine lv_iinc (v := x5 + 1) (lv' := [(5, .int (x5 + 1)), (4, .int (x4 + 0)), (3, .int (x3 + 0)), (0, .ref (B + 0)), (1, .int x1), (2, .int x2)]) S.1 S.2.1 dX9_person_87 hl (k := 5) rfl rfl (by decide) rfl (fun ls hl => ?_)
          refine lv_goto (tgt := 32) S.1 S.2.1 dX9_person_90 (by decide) ?_
          exact ih x1 x2 (x3 + 0) (x4 + 0) (x5 + 1) hf _ _ _ hM hS (lv_sub hl [3, 4, 5, 2, 1, 0] rfl)
        · replace hf := ed_in_ c13 hf
          refine lv_aload_n S.1 S.2.1 dX9_person_73 rfl (lv_at hl 1 rfl) ?_
          refine lv_iload S.1 S.2.1 dX9_person_74 (lv_at hl 5 rfl) ?_
          refine lv_iconst (v := 0) S.1 S.2.1 dX9_person_76 (by decide) ?_
          obtain ⟨r14, hq14, hf⟩ := ed_b_e hf
          refine ed_kI (ed_rV S hK hM (c_X9_inUse _ D cy B x5 0 ν r14 hq14) (cwV 2 S.2.2.2.2 (ed_gV ed_w4_192 ed_w4_194 ed_wp_36 ed_w1_10 ed_w4_195) rfl rfl rfl hd_X9_inUse ⟨Nat.le_of_ble_eq_true rfl, Nat.le_of_ble_eq_true rfl⟩) (em_rc hK hM) rfl hl.1 rfl (Nat.le_of_ble_eq_true rfl) dX9_person_77 ⟨Nat.zero_le _, Nat.zero_le _⟩) hS (fun H locs hM hS => ?_)
          refine lv_goto (tgt := 84) S.1 S.2.1 dX9_person_80 (by decide) ?_
          refine lv_iadd S.1 S.2.1 dX9_person_84 ?_
          refine lv_istore (lv' := [(4, .int (x4 + r14)), (3, .int (x3 + 0)), (0, .ref (B + 0)), (1, .int x1), (2, .int x2), (5, .int x5)]) S.1 S.2.1 dX9_person_85 hl (by decide) rfl (fun ls hl => ?_)
          refine lv_iinc (v := x5 + 1) (lv' := [(5, .int (x5 + 1)), (4, .int (x4 + r14)), (3, .int (x3 + 0)), (0, .ref (B + 0)), (1, .int x1), (2, .int x2)]) S.1 S.2.1 dX9_person_87 hl (k := 5) rfl rfl (by decide) rfl (fun ls hl => ?_)
          refine lv_goto (tgt := 32) S.1 S.2.1 dX9_person_90 (by decide) ?_
          exact ih x1 x2 (x3 + 0) (x4 + r14) (x5 + 1) hf _ _ _ hM hS (lv_sub hl [3, 4, 5, 2, 1, 0] rfl)
      · replace hf := ed_in_ c11 hf
        refine lv_iconst (v := 1) S.1 S.2.1 dX9_person_54 (by decide) ?_
        refine lv_goto (tgt := 59) S.1 S.2.1 dX9_person_55 (by decide) ?_
        refine lv_iadd S.1 S.2.1 dX9_person_59 ?_
        refine lv_istore_n (lv' := [(3, .int (x3 + 1)), (0, .ref (B + 0)), (1, .int x1), (2, .int x2), (4, .int x4), (5, .int x5)]) S.1 S.2.1 dX9_person_60 rfl hl (by decide) rfl (fun ls hl => ?_)
        refine lv_iload S.1 S.2.1 dX9_person_61 (lv_at hl 4 rfl) ?_
        refine lv_aload_n S.1 S.2.1 dX9_person_63 rfl (lv_at hl 1 rfl) ?_
        refine lv_iload_n S.1 S.2.1 dX9_person_64 rfl (lv_at hl 2 rfl) ?_
        refine lv_iload S.1 S.2.1 dX9_person_65 (lv_at hl 5 rfl) ?_
        obtain ⟨r15, hq15, hf⟩ := ed_b_e hf
        refine ed_kI (ed_rV S hK hM (c_X9_wrote _ D cy B x1 x5 ν r15 hq15) (cwV 2 S.2.2.2.2 (ed_gV ed_w5_37 ed_w5_39 ed_wp_47 ed_w1_10 ed_w5_40) rfl rfl rfl hd_X9_wrote ⟨Nat.le_of_ble_eq_true rfl, Nat.le_of_ble_eq_true rfl⟩) (em_rc hK hM) rfl hl.1 rfl (Nat.le_of_ble_eq_true rfl) dX9_person_67 ⟨Nat.zero_le _, Nat.zero_le _⟩) hS (fun H locs hM hS => ?_)
        refine lv_if_eq (tgt := 83) S.1 S.2.1 dX9_person_70 (by decide) (fun c16 => ?_) (fun c16 => ?_)
        · replace hf := ed_ip c16 hf
          refine lv_iconst (v := 0) S.1 S.2.1 dX9_person_83 (by decide) ?_
          refine lv_iadd S.1 S.2.1 dX9_person_84 ?_
          refine lv_istore (lv' := [(4, .int (x4 + 0)), (3, .int (x3 + 1)), (0, .ref (B + 0)), (1, .int x1), (2, .int x2), (5, .int x5)]) S.1 S.2.1 dX9_person_85 hl (by decide) rfl (fun ls hl => ?_)
          refine lv_iinc (v := x5 + 1) (lv' := [(5, .int (x5 + 1)), (4, .int (x4 + 0)), (3, .int (x3 + 1)), (0, .ref (B + 0)), (1, .int x1), (2, .int x2)]) S.1 S.2.1 dX9_person_87 hl (k := 5) rfl rfl (by decide) rfl (fun ls hl => ?_)
          refine lv_goto (tgt := 32) S.1 S.2.1 dX9_person_90 (by decide) ?_
          exact ih x1 x2 (x3 + 1) (x4 + 0) (x5 + 1) hf _ _ _ hM hS (lv_sub hl [3, 4, 5, 2, 1, 0] rfl)
        · replace hf := ed_in_ c16 hf
          refine lv_aload_n S.1 S.2.1 dX9_person_73 rfl (lv_at hl 1 rfl) ?_
          refine lv_iload S.1 S.2.1 dX9_person_74 (lv_at hl 5 rfl) ?_
          refine lv_iconst (v := 0) S.1 S.2.1 dX9_person_76 (by decide) ?_
          obtain ⟨r17, hq17, hf⟩ := ed_b_e hf
          refine ed_kI (ed_rV S hK hM (c_X9_inUse _ D cy B x5 0 ν r17 hq17) (cwV 2 S.2.2.2.2 (ed_gV ed_w4_192 ed_w4_194 ed_wp_36 ed_w1_10 ed_w4_195) rfl rfl rfl hd_X9_inUse ⟨Nat.le_of_ble_eq_true rfl, Nat.le_of_ble_eq_true rfl⟩) (em_rc hK hM) rfl hl.1 rfl (Nat.le_of_ble_eq_true rfl) dX9_person_77 ⟨Nat.zero_le _, Nat.zero_le _⟩) hS (fun H locs hM hS => ?_)
          refine lv_goto (tgt := 84) S.1 S.2.1 dX9_person_80 (by decide) ?_
          refine lv_iadd S.1 S.2.1 dX9_person_84 ?_
          refine lv_istore (lv' := [(4, .int (x4 + r17)), (3, .int (x3 + 1)), (0, .ref (B + 0)), (1, .int x1), (2, .int x2), (5, .int x5)]) S.1 S.2.1 dX9_person_85 hl (by decide) rfl (fun ls hl => ?_)
          refine lv_iinc (v := x5 + 1) (lv' := [(5, .int (x5 + 1)), (4, .int (x4 + r17)), (3, .int (x3 + 1)), (0, .ref (B + 0)), (1, .int x1), (2, .int x2)]) S.1 S.2.1 dX9_person_87 hl (k := 5) rfl rfl (by decide) rfl (fun ls hl => ?_)
          refine lv_goto (tgt := 32) S.1 S.2.1 dX9_person_90 (by decide) ?_
          exact ih x1 x2 (x3 + 1) (x4 + r17) (x5 + 1) hf _ _ _ hM hS (lv_sub hl [3, 4, 5, 2, 1, 0] rfl)
set_option maxHeartbeats 4000000 in
set_option maxRecDepth 100000 in
theorem c_X9_person (l : Launch) (D : va_G) (cy : Nat → ClassId) (B : Nat) (x1 x2 : Int32) (ν : em_MM) (r : Int32) (hf : f_X9_person x1 x2 ν = some r) :
    Met l yX9_person wsX9_person rmX9_person (ed_pC D cy (em_P D cy B ν) [.ref (B + 0), .int x1, .int x2]) (ed_qI (em_A B) (em_P D cy B ν) r) 0 0 (em_A B) := by
  refine Met.ofW (cc := cX9_person) (maxL := 6) (ret := (some .int)) (by decide) rfl ?_
  intro p e s m args below meth c s₁ B0 hml hv
  obtain ⟨rfl, hM, hK⟩ := hv
  have S : CallFix p m c cX9_person 6 s _ ed_ws RX9 := ⟨B0.exec, B0.bytes, hml, findClass_of_methodNamed B0.named, fun w hw => atoms_spec (ws := wsX9_person) B0.pre w (List.mem_cons_of_mem _ hw)⟩
  have hr := B0.returns
  have hlocks := B0.notSynchronized
  have hS : va_S (em_A B) s.heap s.heap [] := va_S.rf
  have hl := lv_entry ([.ref (B + 0), .int x1, .int x2]) (n := 6) (Nat.le_of_ble_eq_true rfl)
  rw [lg_entry_eq]
  generalize (lg_sl ([.ref (B + 0), .int x1, .int x2]) ++ List.replicate (6 - (lg_sl ([.ref (B + 0), .int x1, .int x2])).length) Slot.unset).toArray = ls at hl ⊢
  have hl : lv_has ls 6 [(0, .ref (B + 0)), (1, .int x1), (2, .int x2)] := hl
  unfold f_X9_person at hf
  refine lv_iload_n S.1 S.2.1 dX9_person_0 rfl (lv_at hl 1 rfl) ?_
  refine lv_iconst (v := 0) S.1 S.2.1 dX9_person_1 (by decide) ?_
  refine lv_bipush (v := 9) S.1 S.2.1 dX9_person_2 (by decide) ?_
  refine ed_kI (ed_rS S hK hM (c_X9_in _ D cy (em_P D cy B ν) (em_A B) x1 0 9) (va_cwS 3 S.2.2.2.2 (ed_gS ed_w4_71 ed_w4_72 ed_w1_10 ed_w4_73) rfl rfl rfl hd_X9_in.2 ⟨Nat.le_of_ble_eq_true rfl, Nat.le_of_ble_eq_true rfl⟩) rfl hl.1 rfl (Nat.le_of_ble_eq_true rfl) dX9_person_4 ⟨Nat.zero_le _, Nat.zero_le _⟩) hS (fun H locs hM hS => ?_)
  refine lv_if_ne (tgt := 12) S.1 S.2.1 dX9_person_7 (by decide) (fun c2 => ?_) (fun c2 => ?_)
  · replace hf := ed_in_ c2 hf
    refine lv_iload_n S.1 S.2.1 dX9_person_12 rfl (lv_at hl 2 rfl) ?_
    refine lv_iconst (v := 0) S.1 S.2.1 dX9_person_13 (by decide) ?_
    refine lv_iconst (v := 3) S.1 S.2.1 dX9_person_14 (by decide) ?_
    refine ed_kI (ed_rS S hK hM (c_X9_in _ D cy (em_P D cy B ν) (em_A B) x2 0 3) (va_cwS 3 S.2.2.2.2 (ed_gS ed_w4_71 ed_w4_72 ed_w1_10 ed_w4_73) rfl rfl rfl hd_X9_in.2 ⟨Nat.le_of_ble_eq_true rfl, Nat.le_of_ble_eq_true rfl⟩) rfl hl.1 rfl (Nat.le_of_ble_eq_true rfl) dX9_person_15 ⟨Nat.zero_le _, Nat.zero_le _⟩) hS (fun H locs hM hS => ?_)
    refine lv_if_ne (tgt := 24) S.1 S.2.1 dX9_person_18 (by decide) (fun c4 => ?_) (fun c4 => ?_)
    · replace hf := ed_in_ c4 hf
      refine lv_iconst (v := 0) S.1 S.2.1 dX9_person_24 (by decide) ?_
      refine lv_istore_n (lv' := [(3, .int 0), (0, .ref (B + 0)), (1, .int x1), (2, .int x2)]) S.1 S.2.1 dX9_person_25 rfl hl (by decide) rfl (fun ls hl => ?_)
      refine lv_iconst (v := 0) S.1 S.2.1 dX9_person_26 (by decide) ?_
      refine lv_istore (lv' := [(4, .int 0), (3, .int 0), (0, .ref (B + 0)), (1, .int x1), (2, .int x2)]) S.1 S.2.1 dX9_person_27 hl (by decide) rfl (fun ls hl => ?_)
      refine lv_iconst (v := 0) S.1 S.2.1 dX9_person_29 (by decide) ?_
      refine lv_istore (lv' := [(5, .int 0), (4, .int 0), (3, .int 0), (0, .ref (B + 0)), (1, .int x1), (2, .int x2)]) S.1 S.2.1 dX9_person_30 hl (by decide) rfl (fun ls hl => ?_)
      exact w_X9_person_32 S hr hlocks hK ν r ed_N x1 x2 0 0 0 hf _ _ _ hM hS (lv_sub hl [3, 4, 5, 2, 1, 0] rfl)
    · replace hf := ed_ip c4 hf
      refine lv_bipush (v := (-2)) S.1 S.2.1 dX9_person_21 (by decide) ?_
      obtain rfl := Option.some.inj hf
      exact ed_ri S hr hlocks hM hS dX9_person_23
  · replace hf := ed_ip c2 hf
    refine lv_iconst (v := (-1)) S.1 S.2.1 dX9_person_10 (by decide) ?_
    obtain rfl := Option.some.inj hf
    exact ed_ri S hr hlocks hM hS dX9_person_11
set_option maxHeartbeats 4000000 in
set_option maxRecDepth 100000 in
theorem w_X9_copyOf_5 {p : Program} {l : Launch} {e : Env} {s : State} {m : MethodId} {args : Array Value} {below : List Frame} {meth : Method} {c : Code} {D : va_G} {cy : Nat → ClassId} {B : Nat} (S : CallFix p m c cX9_copyOf 5 s args ed_ws RX9) (hr : meth.sig.returnType = (some .int)) (hlocks : meth.locks = false) (hK : ed_K D cy s) (ν : em_MM) (r : Int32) :
    ∀ (n : Nat), ∀ (x1 x2 x3 x4 : Int32), f_X9_copyOf_5 ν n x1 x2 x3 x4 = some r → ∀ (H : Heap) (locs : List Loc) (ls : Array Slot), em_P D cy B ν H → va_S (em_A B) s.heap H locs → lv_has ls 5 [(0, .ref (B + 0)), (1, .int x1), (2, .int x2), (3, .int x3), (4, .int x4)] → W p l e (headSpec wsX9_copyOf rmX9_copyOf).room s m args below meth c H locs 0 0 (MQ below (ed_qI (em_A B) (em_P D cy B ν) r) args s 0 0 (em_A B)) (F0 m 5 ls []) := by
  intro n
  induction n with
  | zero => intro x1 x2 x3 x4 hf; rw [f_X9_copyOf_5] at hf; cases hf
  | succ n ih =>
    intro x1 x2 x3 x4 hf H locs ls hM hS hl
    rw [f_X9_copyOf_5] at hf
    refine lv_iload S.1 S.2.1 dX9_copyOf_5 (lv_at hl 4 rfl) ?_
    refine lv_aload_n S.1 S.2.1 dX9_copyOf_7 rfl (lv_at hl 0 rfl) ?_
    refine em_get S ed_uX9 hK hM 0 (by decide) ed_w4_33 rfl rfl dX9_copyOf_8 ?_
    refine lv_iconst (v := 3) S.1 S.2.1 dX9_copyOf_11 (by decide) ?_
    obtain ⟨hx1, hf⟩ := ed_g_e hf
    refine em_ild S hK hM 1 (by decide) (em_e1 cy B _) hx1 dX9_copyOf_12 ?_
    refine lv_icmp_ge (tgt := 51) S.1 S.2.1 dX9_copyOf_13 (by decide) (fun c2 => ?_) (fun c2 => ?_)
    · replace hf := ed_ip c2 hf
      refine lv_iload_n S.1 S.2.1 dX9_copyOf_51 rfl (lv_at hl 3 rfl) ?_
      obtain rfl := Option.some.inj hf
      exact ed_ri S hr hlocks hM hS dX9_copyOf_52
    · replace hf := ed_in_ c2 hf
      refine lv_aload_n S.1 S.2.1 dX9_copyOf_16 rfl (lv_at hl 0 rfl) ?_
      refine lv_iload S.1 S.2.1 dX9_copyOf_17 (lv_at hl 4 rfl) ?_
      refine lv_iconst (v := 0) S.1 S.2.1 dX9_copyOf_19 (by decide) ?_
      obtain ⟨r3, hq3, hf⟩ := ed_b_e hf
      refine ed_kI (ed_rV S hK hM (c_X9_ofCopy _ D cy B x4 0 ν r3 hq3) (cwV 2 S.2.2.2.2 (ed_gV ed_w4_98 ed_w4_100 ed_wp_24 ed_w1_10 ed_w4_101) rfl rfl rfl hd_X9_ofCopy ⟨Nat.le_of_ble_eq_true rfl, Nat.le_of_ble_eq_true rfl⟩) (em_rc hK hM) rfl hl.1 rfl (Nat.le_of_ble_eq_true rfl) dX9_copyOf_20 ⟨Nat.zero_le _, Nat.zero_le _⟩) hS (fun H locs hM hS => ?_)
      refine lv_iload_n S.1 S.2.1 dX9_copyOf_23 rfl (lv_at hl 1 rfl) ?_
      refine lv_icmp_ne (tgt := 43) S.1 S.2.1 dX9_copyOf_24 (by decide) (fun c4 => ?_) (fun c4 => ?_)
      · replace hf := ed_in_ c4 hf
        refine lv_iload_n S.1 S.2.1 dX9_copyOf_43 rfl (lv_at hl 3 rfl) ?_
        refine lv_istore_n (lv' := [(3, .int x3), (0, .ref (B + 0)), (1, .int x1), (2, .int x2), (4, .int x4)]) S.1 S.2.1 dX9_copyOf_44 rfl hl (by decide) rfl (fun ls hl => ?_)
        refine lv_iinc (v := x4 + 1) (lv' := [(4, .int (x4 + 1)), (3, .int x3), (0, .ref (B + 0)), (1, .int x1), (2, .int x2)]) S.1 S.2.1 dX9_copyOf_45 hl (k := 4) rfl rfl (by decide) rfl (fun ls hl => ?_)
        refine lv_goto (tgt := 5) S.1 S.2.1 dX9_copyOf_48 (by decide) ?_
        exact ih x1 x2 x3 (x4 + 1) hf _ _ _ hM hS (lv_sub hl [2, 3, 4, 1, 0] rfl)
      · replace hf := ed_ip c4 hf
        refine lv_aload_n S.1 S.2.1 dX9_copyOf_27 rfl (lv_at hl 0 rfl) ?_
        refine lv_iload S.1 S.2.1 dX9_copyOf_28 (lv_at hl 4 rfl) ?_
        refine lv_iconst (v := 1) S.1 S.2.1 dX9_copyOf_30 (by decide) ?_
        obtain ⟨r5, hq5, hf⟩ := ed_b_e hf
        refine ed_kI (ed_rV S hK hM (c_X9_ofCopy _ D cy B x4 1 ν r5 hq5) (cwV 2 S.2.2.2.2 (ed_gV ed_w4_98 ed_w4_100 ed_wp_24 ed_w1_10 ed_w4_101) rfl rfl rfl hd_X9_ofCopy ⟨Nat.le_of_ble_eq_true rfl, Nat.le_of_ble_eq_true rfl⟩) (em_rc hK hM) rfl hl.1 rfl (Nat.le_of_ble_eq_true rfl) dX9_copyOf_31 ⟨Nat.zero_le _, Nat.zero_le _⟩) hS (fun H locs hM hS => ?_)
        refine lv_iload_n S.1 S.2.1 dX9_copyOf_34 rfl (lv_at hl 2 rfl) ?_
        refine lv_icmp_ne (tgt := 43) S.1 S.2.1 dX9_copyOf_35 (by decide) (fun c6 => ?_) (fun c6 => ?_)
        · replace hf := ed_in_ c6 hf
          refine lv_iload_n S.1 S.2.1 dX9_copyOf_43 rfl (lv_at hl 3 rfl) ?_
          refine lv_istore_n (lv' := [(3, .int x3), (0, .ref (B + 0)), (1, .int x1), (2, .int x2), (4, .int x4)]) S.1 S.2.1 dX9_copyOf_44 rfl hl (by decide) rfl (fun ls hl => ?_)
          refine lv_iinc (v := x4 + 1) (lv' := [(4, .int (x4 + 1)), (3, .int x3), (0, .ref (B + 0)), (1, .int x1), (2, .int x2)]) S.1 S.2.1 dX9_copyOf_45 hl (k := 4) rfl rfl (by decide) rfl (fun ls hl => ?_)
          refine lv_goto (tgt := 5) S.1 S.2.1 dX9_copyOf_48 (by decide) ?_
          exact ih x1 x2 x3 (x4 + 1) hf _ _ _ hM hS (lv_sub hl [2, 3, 4, 1, 0] rfl)
        · replace hf := ed_ip c6 hf
          refine lv_iload S.1 S.2.1 dX9_copyOf_38 (lv_at hl 4 rfl) ?_
          refine lv_goto (tgt := 44) S.1 S.2.1 dX9_copyOf_40 (by decide) ?_
          refine lv_istore_n (lv' := [(3, .int x4), (0, .ref (B + 0)), (1, .int x1), (2, .int x2), (4, .int x4)]) S.1 S.2.1 dX9_copyOf_44 rfl hl (by decide) rfl (fun ls hl => ?_)
          refine lv_iinc (v := x4 + 1) (lv' := [(4, .int (x4 + 1)), (3, .int x4), (0, .ref (B + 0)), (1, .int x1), (2, .int x2)]) S.1 S.2.1 dX9_copyOf_45 hl (k := 4) rfl rfl (by decide) rfl (fun ls hl => ?_)
          refine lv_goto (tgt := 5) S.1 S.2.1 dX9_copyOf_48 (by decide) ?_
          exact ih x1 x2 x4 (x4 + 1) hf _ _ _ hM hS (lv_sub hl [2, 3, 4, 1, 0] rfl)
set_option maxHeartbeats 4000000 in
set_option maxRecDepth 100000 in
theorem c_X9_copyOf (l : Launch) (D : va_G) (cy : Nat → ClassId) (B : Nat) (x1 x2 : Int32) (ν : em_MM) (r : Int32) (hf : f_X9_copyOf x1 x2 ν = some r) :
    Met l yX9_copyOf wsX9_copyOf rmX9_copyOf (ed_pC D cy (em_P D cy B ν) [.ref (B + 0), .int x1, .int x2]) (ed_qI (em_A B) (em_P D cy B ν) r) 0 0 (em_A B) := by
  refine Met.ofW (cc := cX9_copyOf) (maxL := 5) (ret := (some .int)) (by decide) rfl ?_
  intro p e s m args below meth c s₁ B0 hml hv
  obtain ⟨rfl, hM, hK⟩ := hv
  have S : CallFix p m c cX9_copyOf 5 s _ ed_ws RX9 := ⟨B0.exec, B0.bytes, hml, findClass_of_methodNamed B0.named, fun w hw => atoms_spec (ws := wsX9_copyOf) B0.pre w (List.mem_cons_of_mem _ hw)⟩
  have hr := B0.returns
  have hlocks := B0.notSynchronized
  have hS : va_S (em_A B) s.heap s.heap [] := va_S.rf
  have hl := lv_entry ([.ref (B + 0), .int x1, .int x2]) (n := 5) (Nat.le_of_ble_eq_true rfl)
  rw [lg_entry_eq]
  generalize (lg_sl ([.ref (B + 0), .int x1, .int x2]) ++ List.replicate (5 - (lg_sl ([.ref (B + 0), .int x1, .int x2])).length) Slot.unset).toArray = ls at hl ⊢
  have hl : lv_has ls 5 [(0, .ref (B + 0)), (1, .int x1), (2, .int x2)] := hl
  unfold f_X9_copyOf at hf
  refine lv_iconst (v := (-1)) S.1 S.2.1 dX9_copyOf_0 (by decide) ?_
  refine lv_istore_n (lv' := [(3, .int (-1)), (0, .ref (B + 0)), (1, .int x1), (2, .int x2)]) S.1 S.2.1 dX9_copyOf_1 rfl hl (by decide) rfl (fun ls hl => ?_)
  refine lv_iconst (v := 0) S.1 S.2.1 dX9_copyOf_2 (by decide) ?_
  refine lv_istore (lv' := [(4, .int 0), (3, .int (-1)), (0, .ref (B + 0)), (1, .int x1), (2, .int x2)]) S.1 S.2.1 dX9_copyOf_3 hl (by decide) rfl (fun ls hl => ?_)
  exact w_X9_copyOf_5 S hr hlocks hK ν r ed_N x1 x2 (-1) 0 hf _ _ _ hM hS (lv_sub hl [2, 3, 4, 1, 0] rfl)
set_option maxHeartbeats 4000000 in
set_option maxRecDepth 100000 in
theorem w_X9_dueNow_9 {p : Program} {l : Launch} {e : Env} {s : State} {m : MethodId} {args : Array Value} {below : List Frame} {meth : Method} {c : Code} {D : va_G} {cy : Nat → ClassId} {B : Nat} (S : CallFix p m c cX9_dueNow 4 s args ed_ws RX9) (hr : meth.sig.returnType = (some .int)) (hlocks : meth.locks = false) (hK : ed_K D cy s) (ν : em_MM) (r : Int32) :
    ∀ (n : Nat), ∀ (x1 x2 x3 : Int32), f_X9_dueNow_9 ν n x1 x2 x3 = some r → ∀ (H : Heap) (locs : List Loc) (ls : Array Slot), em_P D cy B ν H → va_S (em_A B) s.heap H locs → lv_has ls 4 [(0, .ref (B + 0)), (1, .int x1), (2, .int x2), (3, .int x3)] → W p l e (headSpec wsX9_dueNow rmX9_dueNow).room s m args below meth c H locs 0 0 (MQ below (ed_qI (em_A B) (em_P D cy B ν) r) args s 0 0 (em_A B)) (F0 m 9 ls []) := by
  intro n
  induction n with
  | zero => intro x1 x2 x3 hf; rw [f_X9_dueNow_9] at hf; cases hf
  | succ n ih =>
    intro x1 x2 x3 hf H locs ls hM hS hl
    rw [f_X9_dueNow_9] at hf
    refine lv_aload_n S.1 S.2.1 dX9_dueNow_9 rfl (lv_at hl 0 rfl) ?_
    refine lv_iload_n S.1 S.2.1 dX9_dueNow_10 rfl (lv_at hl 1 rfl) ?_
    refine lv_iconst (v := 2) S.1 S.2.1 dX9_dueNow_11 (by decide) ?_
    obtain ⟨r2, hq2, hf⟩ := ed_b_e hf
    refine ed_kI (ed_rV S hK hM (c_X9_ofCopy _ D cy B x1 2 ν r2 hq2) (cwV 2 S.2.2.2.2 (ed_gV ed_w4_98 ed_w4_100 ed_wp_24 ed_w1_10 ed_w4_101) rfl rfl rfl hd_X9_ofCopy ⟨Nat.le_of_ble_eq_true rfl, Nat.le_of_ble_eq_true rfl⟩) (em_rc hK hM) rfl hl.1 rfl (Nat.le_of_ble_eq_true rfl) dX9_dueNow_12 ⟨Nat.zero_le _, Nat.zero_le _⟩) hS (fun H locs hM hS => ?_)
    refine lv_iconst (v := 1) S.1 S.2.1 dX9_dueNow_15 (by decide) ?_
    refine lv_icmp_ne (tgt := 64) S.1 S.2.1 dX9_dueNow_16 (by decide) (fun c3 => ?_) (fun c3 => ?_)
    · replace hf := ed_in_ c3 hf
      refine lv_iload_n S.1 S.2.1 dX9_dueNow_64 rfl (lv_at hl 2 rfl) ?_
      obtain rfl := Option.some.inj hf
      exact ed_ri S hr hlocks hM hS dX9_dueNow_65
    · replace hf := ed_ip c3 hf
      refine lv_iload_n S.1 S.2.1 dX9_dueNow_19 rfl (lv_at hl 3 rfl) ?_
      refine lv_aload_n S.1 S.2.1 dX9_dueNow_20 rfl (lv_at hl 0 rfl) ?_
      refine lv_aload_n S.1 S.2.1 dX9_dueNow_21 rfl (lv_at hl 0 rfl) ?_
      refine lv_iload_n S.1 S.2.1 dX9_dueNow_22 rfl (lv_at hl 1 rfl) ?_
      refine lv_iconst (v := 0) S.1 S.2.1 dX9_dueNow_23 (by decide) ?_
      obtain ⟨r4, hq4, hf⟩ := ed_b_e hf
      refine ed_kI (ed_rV S hK hM (c_X9_ofCopy _ D cy B x1 0 ν r4 hq4) (cwV 2 S.2.2.2.2 (ed_gV ed_w4_98 ed_w4_100 ed_wp_24 ed_w1_10 ed_w4_101) rfl rfl rfl hd_X9_ofCopy ⟨Nat.le_of_ble_eq_true rfl, Nat.le_of_ble_eq_true rfl⟩) (em_rc hK hM) rfl hl.1 rfl (Nat.le_of_ble_eq_true rfl) dX9_dueNow_24 ⟨Nat.zero_le _, Nat.zero_le _⟩) hS (fun H locs hM hS => ?_)
      refine lv_bipush (v := 7) S.1 S.2.1 dX9_dueNow_27 (by decide) ?_
      obtain ⟨r5, hq5, hf⟩ := ed_b_e hf
      refine ed_kI (ed_rV S hK hM (c_X9_ofStory _ D cy B r4 7 ν r5 hq5) (cwV 2 S.2.2.2.2 (ed_gV ed_w4_164 ed_w4_166 ed_wp_33 ed_w1_10 ed_w4_167) rfl rfl rfl hd_X9_ofStory ⟨Nat.le_of_ble_eq_true rfl, Nat.le_of_ble_eq_true rfl⟩) (em_rc hK hM) rfl hl.1 rfl (Nat.le_of_ble_eq_true rfl) dX9_dueNow_29 ⟨Nat.zero_le _, Nat.zero_le _⟩) hS (fun H locs hM hS => ?_)
      refine lv_icmp_ge (tgt := 64) S.1 S.2.1 dX9_dueNow_32 (by decide) (fun c6 => ?_) (fun c6 => ?_)
      · replace hf := ed_ip c6 hf
        refine lv_iload_n S.1 S.2.1 dX9_dueNow_64 rfl (lv_at hl 2 rfl) ?_
        obtain rfl := Option.some.inj hf
        exact ed_ri S hr hlocks hM hS dX9_dueNow_65
      · replace hf := ed_in_ c6 hf
        refine lv_iload_n S.1 S.2.1 dX9_dueNow_35 rfl (lv_at hl 2 rfl) ?_
        refine lv_aload_n S.1 S.2.1 dX9_dueNow_36 rfl (lv_at hl 0 rfl) ?_
        refine em_get S ed_uX9 hK hM 0 (by decide) ed_w4_33 rfl rfl dX9_dueNow_37 ?_
        refine lv_iconst (v := 0) S.1 S.2.1 dX9_dueNow_40 (by decide) ?_
        obtain ⟨hx7, hf⟩ := ed_g_e hf
        refine em_ild S hK hM 1 (by decide) (em_e1 cy B _) hx7 dX9_dueNow_41 ?_
        refine lv_aload_n S.1 S.2.1 dX9_dueNow_42 rfl (lv_at hl 0 rfl) ?_
        refine lv_iload_n S.1 S.2.1 dX9_dueNow_43 rfl (lv_at hl 1 rfl) ?_
        refine lv_iload_n S.1 S.2.1 dX9_dueNow_44 rfl (lv_at hl 3 rfl) ?_
        obtain ⟨r8, hq8, hf⟩ := ed_b_e hf
        refine ed_kI (ed_rV S hK hM (c_X9_correctionDue _ D cy B x1 x3 ν r8 hq8) (cwV 2 S.2.2.2.2 (ed_gV ed_w4_229 ed_w4_231 ed_wp_44 ed_w1_10 ed_w4_232) rfl rfl rfl hd_X9_correctionDue ⟨Nat.le_of_ble_eq_true rfl, Nat.le_of_ble_eq_true rfl⟩) (em_rc hK hM) rfl hl.1 rfl (Nat.le_of_ble_eq_true rfl) dX9_dueNow_45 ⟨Nat.zero_le _, Nat.zero_le _⟩) hS (fun H locs hM hS => ?_)
        refine lv_icmp_lt (tgt := 55) S.1 S.2.1 dX9_dueNow_48 (by decide) (fun c9 => ?_) (fun c9 => ?_)
        · replace hf := ed_ip c9 hf
          refine lv_iconst (v := 0) S.1 S.2.1 dX9_dueNow_55 (by decide) ?_
          refine lv_iadd S.1 S.2.1 dX9_dueNow_56 ?_
          refine lv_istore_n (lv' := [(2, .int (x2 + 0)), (0, .ref (B + 0)), (1, .int x1), (3, .int x3)]) S.1 S.2.1 dX9_dueNow_57 rfl hl (by decide) rfl (fun ls hl => ?_)
          refine lv_iinc (v := x3 + 1) (lv' := [(3, .int (x3 + 1)), (2, .int (x2 + 0)), (0, .ref (B + 0)), (1, .int x1)]) S.1 S.2.1 dX9_dueNow_58 hl (k := 3) rfl rfl (by decide) rfl (fun ls hl => ?_)
          refine lv_goto (tgt := 9) S.1 S.2.1 dX9_dueNow_61 (by decide) ?_
          exact ih x1 (x2 + 0) (x3 + 1) hf _ _ _ hM hS (lv_sub hl [2, 3, 1, 0] rfl)
        · replace hf := ed_in_ c9 hf
          refine lv_iconst (v := 1) S.1 S.2.1 dX9_dueNow_51 (by decide) ?_
          refine lv_goto (tgt := 56) S.1 S.2.1 dX9_dueNow_52 (by decide) ?_
          refine lv_iadd S.1 S.2.1 dX9_dueNow_56 ?_
          refine lv_istore_n (lv' := [(2, .int (x2 + 1)), (0, .ref (B + 0)), (1, .int x1), (3, .int x3)]) S.1 S.2.1 dX9_dueNow_57 rfl hl (by decide) rfl (fun ls hl => ?_)
          refine lv_iinc (v := x3 + 1) (lv' := [(3, .int (x3 + 1)), (2, .int (x2 + 1)), (0, .ref (B + 0)), (1, .int x1)]) S.1 S.2.1 dX9_dueNow_58 hl (k := 3) rfl rfl (by decide) rfl (fun ls hl => ?_)
          refine lv_goto (tgt := 9) S.1 S.2.1 dX9_dueNow_61 (by decide) ?_
          exact ih x1 (x2 + 1) (x3 + 1) hf _ _ _ hM hS (lv_sub hl [2, 3, 1, 0] rfl)
set_option maxHeartbeats 4000000 in
set_option maxRecDepth 100000 in
theorem c_X9_dueNow (l : Launch) (D : va_G) (cy : Nat → ClassId) (B : Nat) (x1 : Int32) (ν : em_MM) (r : Int32) (hf : f_X9_dueNow x1 ν = some r) :
    Met l yX9_dueNow wsX9_dueNow rmX9_dueNow (ed_pC D cy (em_P D cy B ν) [.ref (B + 0), .int x1]) (ed_qI (em_A B) (em_P D cy B ν) r) 0 0 (em_A B) := by
  refine Met.ofW (cc := cX9_dueNow) (maxL := 4) (ret := (some .int)) (by decide) rfl ?_
  intro p e s m args below meth c s₁ B0 hml hv
  obtain ⟨rfl, hM, hK⟩ := hv
  have S : CallFix p m c cX9_dueNow 4 s _ ed_ws RX9 := ⟨B0.exec, B0.bytes, hml, findClass_of_methodNamed B0.named, fun w hw => atoms_spec (ws := wsX9_dueNow) B0.pre w (List.mem_cons_of_mem _ hw)⟩
  have hr := B0.returns
  have hlocks := B0.notSynchronized
  have hS : va_S (em_A B) s.heap s.heap [] := va_S.rf
  have hl := lv_entry ([.ref (B + 0), .int x1]) (n := 4) (Nat.le_of_ble_eq_true rfl)
  rw [lg_entry_eq]
  generalize (lg_sl ([.ref (B + 0), .int x1]) ++ List.replicate (4 - (lg_sl ([.ref (B + 0), .int x1])).length) Slot.unset).toArray = ls at hl ⊢
  have hl : lv_has ls 4 [(0, .ref (B + 0)), (1, .int x1)] := hl
  unfold f_X9_dueNow at hf
  refine lv_iconst (v := 0) S.1 S.2.1 dX9_dueNow_0 (by decide) ?_
  refine lv_istore_n (lv' := [(2, .int 0), (0, .ref (B + 0)), (1, .int x1)]) S.1 S.2.1 dX9_dueNow_1 rfl hl (by decide) rfl (fun ls hl => ?_)
  refine lv_aload_n S.1 S.2.1 dX9_dueNow_2 rfl (lv_at hl 1 rfl) ?_
  refine lv_iload_n S.1 S.2.1 dX9_dueNow_3 rfl (lv_at hl 2 rfl) ?_
  refine lv_iconst (v := 5) S.1 S.2.1 dX9_dueNow_4 (by decide) ?_
  obtain ⟨r1, hq1, hf⟩ := ed_b_e hf
  refine ed_kI (ed_rV S hK hM (c_X9_ofCopy _ D cy B x1 5 ν r1 hq1) (cwV 2 S.2.2.2.2 (ed_gV ed_w4_98 ed_w4_100 ed_wp_24 ed_w1_10 ed_w4_101) rfl rfl rfl hd_X9_ofCopy ⟨Nat.le_of_ble_eq_true rfl, Nat.le_of_ble_eq_true rfl⟩) (em_rc hK hM) rfl hl.1 rfl (Nat.le_of_ble_eq_true rfl) dX9_dueNow_5 ⟨Nat.zero_le _, Nat.zero_le _⟩) hS (fun H locs hM hS => ?_)
  refine lv_istore_n (lv' := [(3, .int r1), (2, .int 0), (0, .ref (B + 0)), (1, .int x1)]) S.1 S.2.1 dX9_dueNow_8 rfl hl (by decide) rfl (fun ls hl => ?_)
  exact w_X9_dueNow_9 S hr hlocks hK ν r ed_N x1 0 r1 hf _ _ _ hM hS (lv_sub hl [2, 3, 1, 0] rfl)
set_option maxHeartbeats 4000000 in
set_option maxRecDepth 100000 in
theorem c_X9_copy (l : Launch) (D : va_G) (cy : Nat → ClassId) (B : Nat) (x1 x2 x3 : Int32) (ν : em_MM) (r : Int32) (hf : f_X9_copy x1 x2 x3 ν = some r) :
    Met l yX9_copy wsX9_copy rmX9_copy (ed_pC D cy (em_P D cy B ν) [.ref (B + 0), .int x1, .int x2, .int x3]) (ed_qI (em_A B) (em_P D cy B ν) r) 0 0 (em_A B) := by
  refine Met.ofW (cc := cX9_copy) (maxL := 7) (ret := (some .int)) (by decide) rfl ?_
  intro p e s m args below meth c s₁ B0 hml hv
  obtain ⟨rfl, hM, hK⟩ := hv
  have S : CallFix p m c cX9_copy 7 s _ ed_ws RX9 := ⟨B0.exec, B0.bytes, hml, findClass_of_methodNamed B0.named, fun w hw => atoms_spec (ws := wsX9_copy) B0.pre w (List.mem_cons_of_mem _ hw)⟩
  have hr := B0.returns
  have hlocks := B0.notSynchronized
  have hS : va_S (em_A B) s.heap s.heap [] := va_S.rf
  have hl := lv_entry ([.ref (B + 0), .int x1, .int x2, .int x3]) (n := 7) (Nat.le_of_ble_eq_true rfl)
  rw [lg_entry_eq]
  generalize (lg_sl ([.ref (B + 0), .int x1, .int x2, .int x3]) ++ List.replicate (7 - (lg_sl ([.ref (B + 0), .int x1, .int x2, .int x3])).length) Slot.unset).toArray = ls at hl ⊢
  have hl : lv_has ls 7 [(0, .ref (B + 0)), (1, .int x1), (2, .int x2), (3, .int x3)] := hl
  unfold f_X9_copy at hf
  refine lv_aload_n S.1 S.2.1 dX9_copy_0 rfl (lv_at hl 0 rfl) ?_
  refine lv_iload_n S.1 S.2.1 dX9_copy_1 rfl (lv_at hl 1 rfl) ?_
  obtain ⟨r1, hq1, hf⟩ := ed_b_e hf
  refine ed_kI (ed_rV S hK hM (c_X9_isStory _ D cy B x1 ν r1 hq1) (cwV 1 S.2.2.2.2 (ed_gV ed_w4_160 ed_w4_162 ed_wp_32 ed_w1_10 ed_w4_163) rfl rfl rfl hd_X9_isStory ⟨Nat.le_of_ble_eq_true rfl, Nat.le_of_ble_eq_true rfl⟩) (em_rc hK hM) rfl hl.1 rfl (Nat.le_of_ble_eq_true rfl) dX9_copy_2 ⟨Nat.zero_le _, Nat.zero_le _⟩) hS (fun H locs hM hS => ?_)
  refine lv_if_eq (tgt := 25) S.1 S.2.1 dX9_copy_5 (by decide) (fun c2 => ?_) (fun c2 => ?_)
  · replace hf := ed_ip c2 hf
    refine lv_iconst (v := (-1)) S.1 S.2.1 dX9_copy_25 (by decide) ?_
    refine lv_istore (lv' := [(4, .int (-1)), (0, .ref (B + 0)), (1, .int x1), (2, .int x2), (3, .int x3)]) S.1 S.2.1 dX9_copy_26 hl (by decide) rfl (fun ls hl => ?_)
    refine lv_iload S.1 S.2.1 dX9_copy_28 (lv_at hl 0 rfl) ?_
    refine lv_if_ge (tgt := 35) S.1 S.2.1 dX9_copy_30 (by decide) (fun c => absurd c (by decide)) (fun _ => ?_)
    refine lv_iconst (v := (-1)) S.1 S.2.1 dX9_copy_33 (by decide) ?_
    obtain rfl := Option.some.inj hf
    exact ed_ri S hr hlocks hM hS dX9_copy_34
  · replace hf := ed_in_ c2 hf
    refine lv_aload_n S.1 S.2.1 dX9_copy_8 rfl (lv_at hl 0 rfl) ?_
    refine lv_iload_n S.1 S.2.1 dX9_copy_9 rfl (lv_at hl 2 rfl) ?_
    obtain ⟨r3, hq3, hf⟩ := ed_b_e hf
    refine ed_kI (ed_rV S hK hM (c_X9_isClient _ D cy B x2 ν r3 hq3) (cwV 1 S.2.2.2.2 (ed_gV ed_w4_86 ed_w4_88 ed_wp_22 ed_w1_10 ed_w4_89) rfl rfl rfl hd_X9_isClient ⟨Nat.le_of_ble_eq_true rfl, Nat.le_of_ble_eq_true rfl⟩) (em_rc hK hM) rfl hl.1 rfl (Nat.le_of_ble_eq_true rfl) dX9_copy_10 ⟨Nat.zero_le _, Nat.zero_le _⟩) hS (fun H locs hM hS => ?_)
    refine lv_if_eq (tgt := 25) S.1 S.2.1 dX9_copy_13 (by decide) (fun c4 => ?_) (fun c4 => ?_)
    · replace hf := ed_ip c4 hf
      refine lv_iconst (v := (-1)) S.1 S.2.1 dX9_copy_25 (by decide) ?_
      refine lv_istore (lv' := [(4, .int (-1)), (0, .ref (B + 0)), (1, .int x1), (2, .int x2), (3, .int x3)]) S.1 S.2.1 dX9_copy_26 hl (by decide) rfl (fun ls hl => ?_)
      refine lv_iload S.1 S.2.1 dX9_copy_28 (lv_at hl 0 rfl) ?_
      refine lv_if_ge (tgt := 35) S.1 S.2.1 dX9_copy_30 (by decide) (fun c => absurd c (by decide)) (fun _ => ?_)
      refine lv_iconst (v := (-1)) S.1 S.2.1 dX9_copy_33 (by decide) ?_
      obtain rfl := Option.some.inj hf
      exact ed_ri S hr hlocks hM hS dX9_copy_34
    · replace hf := ed_in_ c4 hf
      refine lv_aload_n S.1 S.2.1 dX9_copy_16 rfl (lv_at hl 0 rfl) ?_
      refine lv_iload_n S.1 S.2.1 dX9_copy_17 rfl (lv_at hl 1 rfl) ?_
      refine lv_iload_n S.1 S.2.1 dX9_copy_18 rfl (lv_at hl 2 rfl) ?_
      obtain ⟨r5, hq5, hf⟩ := ed_b_e hf
      refine ed_kI (ed_rV S hK hM (c_X9_copyOf _ D cy B x1 x2 ν r5 hq5) (cwV 2 S.2.2.2.2 (ed_gV ed_w5_45 ed_w5_47 ed_wp_48 ed_w1_10 ed_w5_48) rfl rfl rfl hd_X9_copyOf ⟨Nat.le_of_ble_eq_true rfl, Nat.le_of_ble_eq_true rfl⟩) (em_rc hK hM) rfl hl.1 rfl (Nat.le_of_ble_eq_true rfl) dX9_copy_19 ⟨Nat.zero_le _, Nat.zero_le _⟩) hS (fun H locs hM hS => ?_)
      refine lv_goto (tgt := 26) S.1 S.2.1 dX9_copy_22 (by decide) ?_
      refine lv_istore (lv' := [(4, .int r5), (0, .ref (B + 0)), (1, .int x1), (2, .int x2), (3, .int x3)]) S.1 S.2.1 dX9_copy_26 hl (by decide) rfl (fun ls hl => ?_)
      refine lv_iload S.1 S.2.1 dX9_copy_28 (lv_at hl 0 rfl) ?_
      refine lv_if_ge (tgt := 35) S.1 S.2.1 dX9_copy_30 (by decide) (fun c6 => ?_) (fun c6 => ?_)
      · replace hf := ed_ip c6 hf
        refine lv_aload_n S.1 S.2.1 dX9_copy_35 rfl (lv_at hl 1 rfl) ?_
        refine lv_iload S.1 S.2.1 dX9_copy_36 (lv_at hl 0 rfl) ?_
        refine lv_iconst (v := 2) S.1 S.2.1 dX9_copy_38 (by decide) ?_
        obtain ⟨r7, hq7, hf⟩ := ed_b_e hf
        refine ed_kI (ed_rV S hK hM (c_X9_ofCopy _ D cy B r5 2 ν r7 hq7) (cwV 2 S.2.2.2.2 (ed_gV ed_w4_98 ed_w4_100 ed_wp_24 ed_w1_10 ed_w4_101) rfl rfl rfl hd_X9_ofCopy ⟨Nat.le_of_ble_eq_true rfl, Nat.le_of_ble_eq_true rfl⟩) (em_rc hK hM) rfl hl.1 rfl (Nat.le_of_ble_eq_true rfl) dX9_copy_39 ⟨Nat.zero_le _, Nat.zero_le _⟩) hS (fun H locs hM hS => ?_)
        refine lv_iconst (v := 1) S.1 S.2.1 dX9_copy_42 (by decide) ?_
        refine lv_icmp_ne (tgt := 50) S.1 S.2.1 dX9_copy_43 (by decide) (fun c8 => ?_) (fun c8 => ?_)
        · replace hf := ed_in_ c8 hf
          refine lv_iconst (v := 0) S.1 S.2.1 dX9_copy_50 (by decide) ?_
          refine lv_istore (lv' := [(5, .int 0), (4, .int r5), (0, .ref (B + 0)), (1, .int x1), (2, .int x2), (3, .int x3)]) S.1 S.2.1 dX9_copy_51 hl (by decide) rfl (fun ls hl => ?_)
          refine lv_iload S.1 S.2.1 dX9_copy_53 (lv_at hl 0 rfl) ?_
          refine lv_if_eq (tgt := 76) S.1 S.2.1 dX9_copy_55 (by decide) (fun _ => ?_) (fun c => absurd c (by decide))
          refine lv_iconst (v := 0) S.1 S.2.1 dX9_copy_76 (by decide) ?_
          refine lv_istore (lv' := [(6, .int 0), (5, .int 0), (4, .int r5), (0, .ref (B + 0)), (1, .int x1), (2, .int x2), (3, .int x3)]) S.1 S.2.1 dX9_copy_77 hl (by decide) rfl (fun ls hl => ?_)
          refine lv_iload_n S.1 S.2.1 dX9_copy_79 rfl (lv_at hl 6 rfl) ?_
          by_cases c9 : x3 = 0
          · replace hf := ed_ip c9 hf
            refine lv_tableIn (tgt := 132) S.1 S.2.1 dX9_copy_80 (by rw [c9]; decide) (by rw [c9]; decide) (off := 52) (by rw [c9]; decide) (by decide) ?_
            refine lv_aload_n S.1 S.2.1 dX9_copy_132 rfl (lv_at hl 3 rfl) ?_
            refine lv_iload S.1 S.2.1 dX9_copy_133 (lv_at hl 2 rfl) ?_
            refine lv_iconst (v := 2) S.1 S.2.1 dX9_copy_135 (by decide) ?_
            obtain ⟨r18, hq18, hf⟩ := ed_b_e hf
            refine ed_kI (ed_rV S hK hM (c_X9_ofCopy _ D cy B r5 2 ν r18 hq18) (cwV 2 S.2.2.2.2 (ed_gV ed_w4_98 ed_w4_100 ed_wp_24 ed_w1_10 ed_w4_101) rfl rfl rfl hd_X9_ofCopy ⟨Nat.le_of_ble_eq_true rfl, Nat.le_of_ble_eq_true rfl⟩) (em_rc hK hM) rfl hl.1 rfl (Nat.le_of_ble_eq_true rfl) dX9_copy_136 ⟨Nat.zero_le _, Nat.zero_le _⟩) hS (fun H locs hM hS => ?_)
            obtain rfl := Option.some.inj hf
            exact ed_ri S hr hlocks hM hS dX9_copy_139
          replace hf := ed_in_ c9 hf
          by_cases c10 : x3 = 1
          · replace hf := ed_ip c10 hf
            refine lv_tableIn (tgt := 140) S.1 S.2.1 dX9_copy_80 (by rw [c10]; decide) (by rw [c10]; decide) (off := 60) (by rw [c10]; decide) (by decide) ?_
            refine lv_aload_n S.1 S.2.1 dX9_copy_140 rfl (lv_at hl 3 rfl) ?_
            refine lv_iload S.1 S.2.1 dX9_copy_141 (lv_at hl 2 rfl) ?_
            refine lv_iconst (v := 3) S.1 S.2.1 dX9_copy_143 (by decide) ?_
            obtain ⟨r19, hq19, hf⟩ := ed_b_e hf
            refine ed_kI (ed_rV S hK hM (c_X9_ofCopy _ D cy B r5 3 ν r19 hq19) (cwV 2 S.2.2.2.2 (ed_gV ed_w4_98 ed_w4_100 ed_wp_24 ed_w1_10 ed_w4_101) rfl rfl rfl hd_X9_ofCopy ⟨Nat.le_of_ble_eq_true rfl, Nat.le_of_ble_eq_true rfl⟩) (em_rc hK hM) rfl hl.1 rfl (Nat.le_of_ble_eq_true rfl) dX9_copy_144 ⟨Nat.zero_le _, Nat.zero_le _⟩) hS (fun H locs hM hS => ?_)
            obtain rfl := Option.some.inj hf
            exact ed_ri S hr hlocks hM hS dX9_copy_147
          replace hf := ed_in_ c10 hf
          by_cases c11 : x3 = 2
          · replace hf := ed_ip c11 hf
            refine lv_tableIn (tgt := 148) S.1 S.2.1 dX9_copy_80 (by rw [c11]; decide) (by rw [c11]; decide) (off := 68) (by rw [c11]; decide) (by decide) ?_
            refine lv_aload_n S.1 S.2.1 dX9_copy_148 rfl (lv_at hl 3 rfl) ?_
            refine lv_iload S.1 S.2.1 dX9_copy_149 (lv_at hl 2 rfl) ?_
            refine lv_iconst (v := 4) S.1 S.2.1 dX9_copy_151 (by decide) ?_
            obtain ⟨r20, hq20, hf⟩ := ed_b_e hf
            refine ed_kI (ed_rV S hK hM (c_X9_ofCopy _ D cy B r5 4 ν r20 hq20) (cwV 2 S.2.2.2.2 (ed_gV ed_w4_98 ed_w4_100 ed_wp_24 ed_w1_10 ed_w4_101) rfl rfl rfl hd_X9_ofCopy ⟨Nat.le_of_ble_eq_true rfl, Nat.le_of_ble_eq_true rfl⟩) (em_rc hK hM) rfl hl.1 rfl (Nat.le_of_ble_eq_true rfl) dX9_copy_152 ⟨Nat.zero_le _, Nat.zero_le _⟩) hS (fun H locs hM hS => ?_)
            obtain rfl := Option.some.inj hf
            exact ed_ri S hr hlocks hM hS dX9_copy_155
          replace hf := ed_in_ c11 hf
          by_cases c12 : x3 = 3
          · replace hf := ed_ip c12 hf
            refine lv_tableIn (tgt := 156) S.1 S.2.1 dX9_copy_80 (by rw [c12]; decide) (by rw [c12]; decide) (off := 76) (by rw [c12]; decide) (by decide) ?_
            refine lv_aload_n S.1 S.2.1 dX9_copy_156 rfl (lv_at hl 3 rfl) ?_
            refine lv_iload S.1 S.2.1 dX9_copy_157 (lv_at hl 2 rfl) ?_
            refine lv_iconst (v := 5) S.1 S.2.1 dX9_copy_159 (by decide) ?_
            obtain ⟨r21, hq21, hf⟩ := ed_b_e hf
            refine ed_kI (ed_rV S hK hM (c_X9_ofCopy _ D cy B r5 5 ν r21 hq21) (cwV 2 S.2.2.2.2 (ed_gV ed_w4_98 ed_w4_100 ed_wp_24 ed_w1_10 ed_w4_101) rfl rfl rfl hd_X9_ofCopy ⟨Nat.le_of_ble_eq_true rfl, Nat.le_of_ble_eq_true rfl⟩) (em_rc hK hM) rfl hl.1 rfl (Nat.le_of_ble_eq_true rfl) dX9_copy_160 ⟨Nat.zero_le _, Nat.zero_le _⟩) hS (fun H locs hM hS => ?_)
            obtain rfl := Option.some.inj hf
            exact ed_ri S hr hlocks hM hS dX9_copy_163
          replace hf := ed_in_ c12 hf
          by_cases c13 : x3 = 4
          · replace hf := ed_ip c13 hf
            refine lv_tableIn (tgt := 164) S.1 S.2.1 dX9_copy_80 (by rw [c13]; decide) (by rw [c13]; decide) (off := 84) (by rw [c13]; decide) (by decide) ?_
            refine lv_iload S.1 S.2.1 dX9_copy_164 (lv_at hl 0 rfl) ?_
            obtain rfl := Option.some.inj hf
            exact ed_ri S hr hlocks hM hS dX9_copy_166
          replace hf := ed_in_ c13 hf
          by_cases c14 : x3 = 5
          · replace hf := ed_ip c14 hf
            refine lv_tableIn (tgt := 167) S.1 S.2.1 dX9_copy_80 (by rw [c14]; decide) (by rw [c14]; decide) (off := 87) (by rw [c14]; decide) (by decide) ?_
            refine lv_aload_n S.1 S.2.1 dX9_copy_167 rfl (lv_at hl 3 rfl) ?_
            refine lv_iload S.1 S.2.1 dX9_copy_168 (lv_at hl 2 rfl) ?_
            obtain ⟨r22, hq22, hf⟩ := ed_b_e hf
            refine ed_kI (ed_rV S hK hM (c_X9_dueNow _ D cy B r5 ν r22 hq22) (cwV 1 S.2.2.2.2 (ed_gV ed_w5_49 ed_w5_51 ed_wp_49 ed_w1_10 ed_w5_52) rfl rfl rfl hd_X9_dueNow ⟨Nat.le_of_ble_eq_true rfl, Nat.le_of_ble_eq_true rfl⟩) (em_rc hK hM) rfl hl.1 rfl (Nat.le_of_ble_eq_true rfl) dX9_copy_170 ⟨Nat.zero_le _, Nat.zero_le _⟩) hS (fun H locs hM hS => ?_)
            obtain rfl := Option.some.inj hf
            exact ed_ri S hr hlocks hM hS dX9_copy_173
          replace hf := ed_in_ c14 hf
          by_cases c15 : x3 = 6
          · replace hf := ed_ip c15 hf
            refine lv_tableIn (tgt := 174) S.1 S.2.1 dX9_copy_80 (by rw [c15]; decide) (by rw [c15]; decide) (off := 94) (by rw [c15]; decide) (by decide) ?_
            refine lv_iload S.1 S.2.1 dX9_copy_174 (lv_at hl 0 rfl) ?_
            refine lv_if_le (tgt := 195) S.1 S.2.1 dX9_copy_176 (by decide) (fun _ => ?_) (fun c => absurd c (by decide))
            refine lv_bipush (v := (-5)) S.1 S.2.1 dX9_copy_195 (by decide) ?_
            obtain rfl := Option.some.inj hf
            exact ed_ri S hr hlocks hM hS dX9_copy_197
          replace hf := ed_in_ c15 hf
          by_cases c16 : x3 = 7
          · replace hf := ed_ip c16 hf
            refine lv_tableIn (tgt := 198) S.1 S.2.1 dX9_copy_80 (by rw [c16]; decide) (by rw [c16]; decide) (off := 118) (by rw [c16]; decide) (by decide) ?_
            refine lv_iload S.1 S.2.1 dX9_copy_198 (lv_at hl 1 rfl) ?_
            refine lv_if_eq (tgt := 223) S.1 S.2.1 dX9_copy_200 (by decide) (fun _ => ?_) (fun c => absurd c (by decide))
            refine lv_bipush (v := (-5)) S.1 S.2.1 dX9_copy_223 (by decide) ?_
            obtain rfl := Option.some.inj hf
            exact ed_ri S hr hlocks hM hS dX9_copy_225
          replace hf := ed_in_ c16 hf
          by_cases c17 : x3 = 8
          · replace hf := ed_ip c17 hf
            refine lv_tableIn (tgt := 226) S.1 S.2.1 dX9_copy_80 (by rw [c17]; decide) (by rw [c17]; decide) (off := 146) (by rw [c17]; decide) (by decide) ?_
            refine lv_iload S.1 S.2.1 dX9_copy_226 (lv_at hl 1 rfl) ?_
            refine lv_if_eq (tgt := 240) S.1 S.2.1 dX9_copy_228 (by decide) (fun _ => ?_) (fun c => absurd c (by decide))
            refine lv_bipush (v := (-5)) S.1 S.2.1 dX9_copy_240 (by decide) ?_
            obtain rfl := Option.some.inj hf
            exact ed_ri S hr hlocks hM hS dX9_copy_242
          replace hf := ed_in_ c17 hf
          have tc9 : x3.toInt ≠ 0 := fun q => c9 (Int32.toInt_inj.mp (by rw [q]; decide))
          have tc10 : x3.toInt ≠ 1 := fun q => c10 (Int32.toInt_inj.mp (by rw [q]; decide))
          have tc11 : x3.toInt ≠ 2 := fun q => c11 (Int32.toInt_inj.mp (by rw [q]; decide))
          have tc12 : x3.toInt ≠ 3 := fun q => c12 (Int32.toInt_inj.mp (by rw [q]; decide))
          have tc13 : x3.toInt ≠ 4 := fun q => c13 (Int32.toInt_inj.mp (by rw [q]; decide))
          have tc14 : x3.toInt ≠ 5 := fun q => c14 (Int32.toInt_inj.mp (by rw [q]; decide))
          have tc15 : x3.toInt ≠ 6 := fun q => c15 (Int32.toInt_inj.mp (by rw [q]; decide))
          have tc16 : x3.toInt ≠ 7 := fun q => c16 (Int32.toInt_inj.mp (by rw [q]; decide))
          have tc17 : x3.toInt ≠ 8 := fun q => c17 (Int32.toInt_inj.mp (by rw [q]; decide))
          refine lv_tableOut (tgt := 243) S.1 S.2.1 dX9_copy_80 (by omega) (by decide) ?_
          refine lv_bipush (v := (-2)) S.1 S.2.1 dX9_copy_243 (by decide) ?_
          obtain rfl := Option.some.inj hf
          exact ed_ri S hr hlocks hM hS dX9_copy_245
        · replace hf := ed_ip c8 hf
          refine lv_iconst (v := 1) S.1 S.2.1 dX9_copy_46 (by decide) ?_
          refine lv_goto (tgt := 51) S.1 S.2.1 dX9_copy_47 (by decide) ?_
          refine lv_istore (lv' := [(5, .int 1), (4, .int r5), (0, .ref (B + 0)), (1, .int x1), (2, .int x2), (3, .int x3)]) S.1 S.2.1 dX9_copy_51 hl (by decide) rfl (fun ls hl => ?_)
          refine lv_iload S.1 S.2.1 dX9_copy_53 (lv_at hl 0 rfl) ?_
          refine lv_if_eq (tgt := 76) S.1 S.2.1 dX9_copy_55 (by decide) (fun c => absurd c (by decide)) (fun _ => ?_)
          refine lv_aload_n S.1 S.2.1 dX9_copy_58 rfl (lv_at hl 2 rfl) ?_
          refine lv_iload_n S.1 S.2.1 dX9_copy_59 rfl (lv_at hl 3 rfl) ?_
          refine lv_bipush (v := 7) S.1 S.2.1 dX9_copy_60 (by decide) ?_
          obtain ⟨r23, hq23, hf⟩ := ed_b_e hf
          refine ed_kI (ed_rV S hK hM (c_X9_ofStory _ D cy B x1 7 ν r23 hq23) (cwV 2 S.2.2.2.2 (ed_gV ed_w4_164 ed_w4_166 ed_wp_33 ed_w1_10 ed_w4_167) rfl rfl rfl hd_X9_ofStory ⟨Nat.le_of_ble_eq_true rfl, Nat.le_of_ble_eq_true rfl⟩) (em_rc hK hM) rfl hl.1 rfl (Nat.le_of_ble_eq_true rfl) dX9_copy_62 ⟨Nat.zero_le _, Nat.zero_le _⟩) hS (fun H locs hM hS => ?_)
          refine lv_aload_n S.1 S.2.1 dX9_copy_65 rfl (lv_at hl 2 rfl) ?_
          refine lv_iload S.1 S.2.1 dX9_copy_66 (lv_at hl 1 rfl) ?_
          refine lv_iconst (v := 5) S.1 S.2.1 dX9_copy_68 (by decide) ?_
          obtain ⟨r24, hq24, hf⟩ := ed_b_e hf
          refine ed_kI (ed_rV S hK hM (c_X9_ofCopy _ D cy B r5 5 ν r24 hq24) (cwV 2 S.2.2.2.2 (ed_gV ed_w4_98 ed_w4_100 ed_wp_24 ed_w1_10 ed_w4_101) rfl rfl rfl hd_X9_ofCopy ⟨Nat.le_of_ble_eq_true rfl, Nat.le_of_ble_eq_true rfl⟩) (em_rc hK hM) rfl hl.1 rfl (Nat.le_of_ble_eq_true rfl) dX9_copy_69 ⟨Nat.zero_le _, Nat.zero_le _⟩) hS (fun H locs hM hS => ?_)
          refine lv_isub S.1 S.2.1 dX9_copy_72 ?_
          refine lv_goto (tgt := 77) S.1 S.2.1 dX9_copy_73 (by decide) ?_
          refine lv_istore (lv' := [(6, .int (r23 - r24)), (5, .int 1), (4, .int r5), (0, .ref (B + 0)), (1, .int x1), (2, .int x2), (3, .int x3)]) S.1 S.2.1 dX9_copy_77 hl (by decide) rfl (fun ls hl => ?_)
          refine lv_iload_n S.1 S.2.1 dX9_copy_79 rfl (lv_at hl 6 rfl) ?_
          by_cases c25 : x3 = 0
          · replace hf := ed_ip c25 hf
            refine lv_tableIn (tgt := 132) S.1 S.2.1 dX9_copy_80 (by rw [c25]; decide) (by rw [c25]; decide) (off := 52) (by rw [c25]; decide) (by decide) ?_
            refine lv_aload_n S.1 S.2.1 dX9_copy_132 rfl (lv_at hl 3 rfl) ?_
            refine lv_iload S.1 S.2.1 dX9_copy_133 (lv_at hl 2 rfl) ?_
            refine lv_iconst (v := 2) S.1 S.2.1 dX9_copy_135 (by decide) ?_
            obtain ⟨r34, hq34, hf⟩ := ed_b_e hf
            refine ed_kI (ed_rV S hK hM (c_X9_ofCopy _ D cy B r5 2 ν r34 hq34) (cwV 2 S.2.2.2.2 (ed_gV ed_w4_98 ed_w4_100 ed_wp_24 ed_w1_10 ed_w4_101) rfl rfl rfl hd_X9_ofCopy ⟨Nat.le_of_ble_eq_true rfl, Nat.le_of_ble_eq_true rfl⟩) (em_rc hK hM) rfl hl.1 rfl (Nat.le_of_ble_eq_true rfl) dX9_copy_136 ⟨Nat.zero_le _, Nat.zero_le _⟩) hS (fun H locs hM hS => ?_)
            obtain rfl := Option.some.inj hf
            exact ed_ri S hr hlocks hM hS dX9_copy_139
          replace hf := ed_in_ c25 hf
          by_cases c26 : x3 = 1
          · replace hf := ed_ip c26 hf
            refine lv_tableIn (tgt := 140) S.1 S.2.1 dX9_copy_80 (by rw [c26]; decide) (by rw [c26]; decide) (off := 60) (by rw [c26]; decide) (by decide) ?_
            refine lv_aload_n S.1 S.2.1 dX9_copy_140 rfl (lv_at hl 3 rfl) ?_
            refine lv_iload S.1 S.2.1 dX9_copy_141 (lv_at hl 2 rfl) ?_
            refine lv_iconst (v := 3) S.1 S.2.1 dX9_copy_143 (by decide) ?_
            obtain ⟨r35, hq35, hf⟩ := ed_b_e hf
            refine ed_kI (ed_rV S hK hM (c_X9_ofCopy _ D cy B r5 3 ν r35 hq35) (cwV 2 S.2.2.2.2 (ed_gV ed_w4_98 ed_w4_100 ed_wp_24 ed_w1_10 ed_w4_101) rfl rfl rfl hd_X9_ofCopy ⟨Nat.le_of_ble_eq_true rfl, Nat.le_of_ble_eq_true rfl⟩) (em_rc hK hM) rfl hl.1 rfl (Nat.le_of_ble_eq_true rfl) dX9_copy_144 ⟨Nat.zero_le _, Nat.zero_le _⟩) hS (fun H locs hM hS => ?_)
            obtain rfl := Option.some.inj hf
            exact ed_ri S hr hlocks hM hS dX9_copy_147
          replace hf := ed_in_ c26 hf
          by_cases c27 : x3 = 2
          · replace hf := ed_ip c27 hf
            refine lv_tableIn (tgt := 148) S.1 S.2.1 dX9_copy_80 (by rw [c27]; decide) (by rw [c27]; decide) (off := 68) (by rw [c27]; decide) (by decide) ?_
            refine lv_aload_n S.1 S.2.1 dX9_copy_148 rfl (lv_at hl 3 rfl) ?_
            refine lv_iload S.1 S.2.1 dX9_copy_149 (lv_at hl 2 rfl) ?_
            refine lv_iconst (v := 4) S.1 S.2.1 dX9_copy_151 (by decide) ?_
            obtain ⟨r36, hq36, hf⟩ := ed_b_e hf
            refine ed_kI (ed_rV S hK hM (c_X9_ofCopy _ D cy B r5 4 ν r36 hq36) (cwV 2 S.2.2.2.2 (ed_gV ed_w4_98 ed_w4_100 ed_wp_24 ed_w1_10 ed_w4_101) rfl rfl rfl hd_X9_ofCopy ⟨Nat.le_of_ble_eq_true rfl, Nat.le_of_ble_eq_true rfl⟩) (em_rc hK hM) rfl hl.1 rfl (Nat.le_of_ble_eq_true rfl) dX9_copy_152 ⟨Nat.zero_le _, Nat.zero_le _⟩) hS (fun H locs hM hS => ?_)
            obtain rfl := Option.some.inj hf
            exact ed_ri S hr hlocks hM hS dX9_copy_155
          replace hf := ed_in_ c27 hf
          by_cases c28 : x3 = 3
          · replace hf := ed_ip c28 hf
            refine lv_tableIn (tgt := 156) S.1 S.2.1 dX9_copy_80 (by rw [c28]; decide) (by rw [c28]; decide) (off := 76) (by rw [c28]; decide) (by decide) ?_
            refine lv_aload_n S.1 S.2.1 dX9_copy_156 rfl (lv_at hl 3 rfl) ?_
            refine lv_iload S.1 S.2.1 dX9_copy_157 (lv_at hl 2 rfl) ?_
            refine lv_iconst (v := 5) S.1 S.2.1 dX9_copy_159 (by decide) ?_
            obtain ⟨r37, hq37, hf⟩ := ed_b_e hf
            refine ed_kI (ed_rV S hK hM (c_X9_ofCopy _ D cy B r5 5 ν r37 hq37) (cwV 2 S.2.2.2.2 (ed_gV ed_w4_98 ed_w4_100 ed_wp_24 ed_w1_10 ed_w4_101) rfl rfl rfl hd_X9_ofCopy ⟨Nat.le_of_ble_eq_true rfl, Nat.le_of_ble_eq_true rfl⟩) (em_rc hK hM) rfl hl.1 rfl (Nat.le_of_ble_eq_true rfl) dX9_copy_160 ⟨Nat.zero_le _, Nat.zero_le _⟩) hS (fun H locs hM hS => ?_)
            obtain rfl := Option.some.inj hf
            exact ed_ri S hr hlocks hM hS dX9_copy_163
          replace hf := ed_in_ c28 hf
          by_cases c29 : x3 = 4
          · replace hf := ed_ip c29 hf
            refine lv_tableIn (tgt := 164) S.1 S.2.1 dX9_copy_80 (by rw [c29]; decide) (by rw [c29]; decide) (off := 84) (by rw [c29]; decide) (by decide) ?_
            refine lv_iload S.1 S.2.1 dX9_copy_164 (lv_at hl 0 rfl) ?_
            obtain rfl := Option.some.inj hf
            exact ed_ri S hr hlocks hM hS dX9_copy_166
          replace hf := ed_in_ c29 hf
          by_cases c30 : x3 = 5
          · replace hf := ed_ip c30 hf
            refine lv_tableIn (tgt := 167) S.1 S.2.1 dX9_copy_80 (by rw [c30]; decide) (by rw [c30]; decide) (off := 87) (by rw [c30]; decide) (by decide) ?_
            refine lv_aload_n S.1 S.2.1 dX9_copy_167 rfl (lv_at hl 3 rfl) ?_
            refine lv_iload S.1 S.2.1 dX9_copy_168 (lv_at hl 2 rfl) ?_
            obtain ⟨r38, hq38, hf⟩ := ed_b_e hf
            refine ed_kI (ed_rV S hK hM (c_X9_dueNow _ D cy B r5 ν r38 hq38) (cwV 1 S.2.2.2.2 (ed_gV ed_w5_49 ed_w5_51 ed_wp_49 ed_w1_10 ed_w5_52) rfl rfl rfl hd_X9_dueNow ⟨Nat.le_of_ble_eq_true rfl, Nat.le_of_ble_eq_true rfl⟩) (em_rc hK hM) rfl hl.1 rfl (Nat.le_of_ble_eq_true rfl) dX9_copy_170 ⟨Nat.zero_le _, Nat.zero_le _⟩) hS (fun H locs hM hS => ?_)
            obtain rfl := Option.some.inj hf
            exact ed_ri S hr hlocks hM hS dX9_copy_173
          replace hf := ed_in_ c30 hf
          by_cases c31 : x3 = 6
          · replace hf := ed_ip c31 hf
            refine lv_tableIn (tgt := 174) S.1 S.2.1 dX9_copy_80 (by rw [c31]; decide) (by rw [c31]; decide) (off := 94) (by rw [c31]; decide) (by decide) ?_
            refine lv_iload S.1 S.2.1 dX9_copy_174 (lv_at hl 0 rfl) ?_
            refine lv_if_le (tgt := 195) S.1 S.2.1 dX9_copy_176 (by decide) (fun c39 => ?_) (fun c39 => ?_)
            · replace hf := ed_ip c39 hf
              refine lv_bipush (v := (-5)) S.1 S.2.1 dX9_copy_195 (by decide) ?_
              obtain rfl := Option.some.inj hf
              exact ed_ri S hr hlocks hM hS dX9_copy_197
            · replace hf := ed_in_ c39 hf
              refine lv_aload_n S.1 S.2.1 dX9_copy_179 rfl (lv_at hl 3 rfl) ?_
              refine lv_iload S.1 S.2.1 dX9_copy_180 (lv_at hl 2 rfl) ?_
              refine lv_aload_n S.1 S.2.1 dX9_copy_182 rfl (lv_at hl 3 rfl) ?_
              refine lv_iload S.1 S.2.1 dX9_copy_183 (lv_at hl 2 rfl) ?_
              refine lv_iconst (v := 5) S.1 S.2.1 dX9_copy_185 (by decide) ?_
              obtain ⟨r40, hq40, hf⟩ := ed_b_e hf
              refine ed_kI (ed_rV S hK hM (c_X9_ofCopy _ D cy B r5 5 ν r40 hq40) (cwV 2 S.2.2.2.2 (ed_gV ed_w4_98 ed_w4_100 ed_wp_24 ed_w1_10 ed_w4_101) rfl rfl rfl hd_X9_ofCopy ⟨Nat.le_of_ble_eq_true rfl, Nat.le_of_ble_eq_true rfl⟩) (em_rc hK hM) rfl hl.1 rfl (Nat.le_of_ble_eq_true rfl) dX9_copy_186 ⟨Nat.zero_le _, Nat.zero_le _⟩) hS (fun H locs hM hS => ?_)
              obtain ⟨r41, hq41, hf⟩ := ed_b_e hf
              refine ed_kI (ed_rV S hK hM (c_X9_correctionDue _ D cy B r5 r40 ν r41 hq41) (cwV 2 S.2.2.2.2 (ed_gV ed_w4_229 ed_w4_231 ed_wp_44 ed_w1_10 ed_w4_232) rfl rfl rfl hd_X9_correctionDue ⟨Nat.le_of_ble_eq_true rfl, Nat.le_of_ble_eq_true rfl⟩) (em_rc hK hM) rfl hl.1 rfl (Nat.le_of_ble_eq_true rfl) dX9_copy_189 ⟨Nat.zero_le _, Nat.zero_le _⟩) hS (fun H locs hM hS => ?_)
              refine lv_goto (tgt := 197) S.1 S.2.1 dX9_copy_192 (by decide) ?_
              obtain rfl := Option.some.inj hf
              exact ed_ri S hr hlocks hM hS dX9_copy_197
          replace hf := ed_in_ c31 hf
          by_cases c32 : x3 = 7
          · replace hf := ed_ip c32 hf
            refine lv_tableIn (tgt := 198) S.1 S.2.1 dX9_copy_80 (by rw [c32]; decide) (by rw [c32]; decide) (off := 118) (by rw [c32]; decide) (by decide) ?_
            refine lv_iload S.1 S.2.1 dX9_copy_198 (lv_at hl 1 rfl) ?_
            refine lv_if_eq (tgt := 223) S.1 S.2.1 dX9_copy_200 (by decide) (fun c => absurd c (by decide)) (fun _ => ?_)
            refine lv_aload_n S.1 S.2.1 dX9_copy_203 rfl (lv_at hl 3 rfl) ?_
            refine lv_iload_n S.1 S.2.1 dX9_copy_204 rfl (lv_at hl 4 rfl) ?_
            refine lv_bipush (v := 6) S.1 S.2.1 dX9_copy_205 (by decide) ?_
            obtain ⟨r42, hq42, hf⟩ := ed_b_e hf
            refine ed_kI (ed_rV S hK hM (c_X9_ofStory _ D cy B x1 6 ν r42 hq42) (cwV 2 S.2.2.2.2 (ed_gV ed_w4_164 ed_w4_166 ed_wp_33 ed_w1_10 ed_w4_167) rfl rfl rfl hd_X9_ofStory ⟨Nat.le_of_ble_eq_true rfl, Nat.le_of_ble_eq_true rfl⟩) (em_rc hK hM) rfl hl.1 rfl (Nat.le_of_ble_eq_true rfl) dX9_copy_207 ⟨Nat.zero_le _, Nat.zero_le _⟩) hS (fun H locs hM hS => ?_)
            refine lv_iconst (v := 3) S.1 S.2.1 dX9_copy_210 (by decide) ?_
            refine lv_icmp_ne (tgt := 223) S.1 S.2.1 dX9_copy_211 (by decide) (fun c43 => ?_) (fun c43 => ?_)
            · replace hf := ed_in_ c43 hf
              refine lv_bipush (v := (-5)) S.1 S.2.1 dX9_copy_223 (by decide) ?_
              obtain rfl := Option.some.inj hf
              exact ed_ri S hr hlocks hM hS dX9_copy_225
            · replace hf := ed_ip c43 hf
              refine lv_aload_n S.1 S.2.1 dX9_copy_214 rfl (lv_at hl 3 rfl) ?_
              refine lv_iload S.1 S.2.1 dX9_copy_215 (lv_at hl 2 rfl) ?_
              obtain ⟨r44, hq44, hf⟩ := ed_b_e hf
              refine ed_kI (ed_rV S hK hM (c_X9_killDue _ D cy B r5 ν r44 hq44) (cwV 1 S.2.2.2.2 (ed_gV ed_w4_225 ed_w4_227 ed_wp_43 ed_w1_10 ed_w4_228) rfl rfl rfl hd_X9_killDue ⟨Nat.le_of_ble_eq_true rfl, Nat.le_of_ble_eq_true rfl⟩) (em_rc hK hM) rfl hl.1 rfl (Nat.le_of_ble_eq_true rfl) dX9_copy_217 ⟨Nat.zero_le _, Nat.zero_le _⟩) hS (fun H locs hM hS => ?_)
              refine lv_goto (tgt := 225) S.1 S.2.1 dX9_copy_220 (by decide) ?_
              obtain rfl := Option.some.inj hf
              exact ed_ri S hr hlocks hM hS dX9_copy_225
          replace hf := ed_in_ c32 hf
          by_cases c33 : x3 = 8
          · replace hf := ed_ip c33 hf
            refine lv_tableIn (tgt := 226) S.1 S.2.1 dX9_copy_80 (by rw [c33]; decide) (by rw [c33]; decide) (off := 146) (by rw [c33]; decide) (by decide) ?_
            refine lv_iload S.1 S.2.1 dX9_copy_226 (lv_at hl 1 rfl) ?_
            refine lv_if_eq (tgt := 240) S.1 S.2.1 dX9_copy_228 (by decide) (fun c => absurd c (by decide)) (fun _ => ?_)
            refine lv_aload_n S.1 S.2.1 dX9_copy_231 rfl (lv_at hl 3 rfl) ?_
            refine lv_iload S.1 S.2.1 dX9_copy_232 (lv_at hl 2 rfl) ?_
            obtain ⟨r45, hq45, hf⟩ := ed_b_e hf
            refine ed_kI (ed_rV S hK hM (c_X9_useEnds _ D cy B r5 ν r45 hq45) (cwV 1 S.2.2.2.2 (ed_gV ed_w4_221 ed_w4_223 ed_wp_42 ed_w1_10 ed_w4_224) rfl rfl rfl hd_X9_useEnds ⟨Nat.le_of_ble_eq_true rfl, Nat.le_of_ble_eq_true rfl⟩) (em_rc hK hM) rfl hl.1 rfl (Nat.le_of_ble_eq_true rfl) dX9_copy_234 ⟨Nat.zero_le _, Nat.zero_le _⟩) hS (fun H locs hM hS => ?_)
            refine lv_goto (tgt := 242) S.1 S.2.1 dX9_copy_237 (by decide) ?_
            obtain rfl := Option.some.inj hf
            exact ed_ri S hr hlocks hM hS dX9_copy_242
          replace hf := ed_in_ c33 hf
          have tc25 : x3.toInt ≠ 0 := fun q => c25 (Int32.toInt_inj.mp (by rw [q]; decide))
          have tc26 : x3.toInt ≠ 1 := fun q => c26 (Int32.toInt_inj.mp (by rw [q]; decide))
          have tc27 : x3.toInt ≠ 2 := fun q => c27 (Int32.toInt_inj.mp (by rw [q]; decide))
          have tc28 : x3.toInt ≠ 3 := fun q => c28 (Int32.toInt_inj.mp (by rw [q]; decide))
          have tc29 : x3.toInt ≠ 4 := fun q => c29 (Int32.toInt_inj.mp (by rw [q]; decide))
          have tc30 : x3.toInt ≠ 5 := fun q => c30 (Int32.toInt_inj.mp (by rw [q]; decide))
          have tc31 : x3.toInt ≠ 6 := fun q => c31 (Int32.toInt_inj.mp (by rw [q]; decide))
          have tc32 : x3.toInt ≠ 7 := fun q => c32 (Int32.toInt_inj.mp (by rw [q]; decide))
          have tc33 : x3.toInt ≠ 8 := fun q => c33 (Int32.toInt_inj.mp (by rw [q]; decide))
          refine lv_tableOut (tgt := 243) S.1 S.2.1 dX9_copy_80 (by omega) (by decide) ?_
          refine lv_bipush (v := (-2)) S.1 S.2.1 dX9_copy_243 (by decide) ?_
          obtain rfl := Option.some.inj hf
          exact ed_ri S hr hlocks hM hS dX9_copy_245
      · replace hf := ed_in_ c6 hf
        refine lv_iconst (v := (-1)) S.1 S.2.1 dX9_copy_33 (by decide) ?_
        obtain rfl := Option.some.inj hf
        exact ed_ri S hr hlocks hM hS dX9_copy_34
set_option maxHeartbeats 4000000 in
set_option maxRecDepth 100000 in
theorem c_X9_copyAt (l : Launch) (D : va_G) (cy : Nat → ClassId) (B : Nat) (x1 : Int32) (ν : em_MM) (r : Int32) (hf : f_X9_copyAt x1 ν = some r) :
    Met l yX9_copyAt wsX9_copyAt rmX9_copyAt (ed_pC D cy (em_P D cy B ν) [.ref (B + 0), .int x1]) (ed_qI (em_A B) (em_P D cy B ν) r) 0 0 (em_A B) := by
  refine Met.ofW (cc := cX9_copyAt) (maxL := 2) (ret := (some .int)) (by decide) rfl ?_
  intro p e s m args below meth c s₁ B0 hml hv
  obtain ⟨rfl, hM, hK⟩ := hv
  have S : CallFix p m c cX9_copyAt 2 s _ ed_ws RX9 := ⟨B0.exec, B0.bytes, hml, findClass_of_methodNamed B0.named, fun w hw => atoms_spec (ws := wsX9_copyAt) B0.pre w (List.mem_cons_of_mem _ hw)⟩
  have hr := B0.returns
  have hlocks := B0.notSynchronized
  have hS : va_S (em_A B) s.heap s.heap [] := va_S.rf
  have hl := lv_entry ([.ref (B + 0), .int x1]) (n := 2) (Nat.le_of_ble_eq_true rfl)
  rw [lg_entry_eq]
  generalize (lg_sl ([.ref (B + 0), .int x1]) ++ List.replicate (2 - (lg_sl ([.ref (B + 0), .int x1])).length) Slot.unset).toArray = ls at hl ⊢
  have hl : lv_has ls 2 [(0, .ref (B + 0)), (1, .int x1)] := hl
  unfold f_X9_copyAt at hf
  refine lv_iload_n S.1 S.2.1 dX9_copyAt_0 rfl (lv_at hl 1 rfl) ?_
  refine lv_if_ge (tgt := 7) S.1 S.2.1 dX9_copyAt_1 (by decide) (fun c1 => ?_) (fun c1 => ?_)
  · replace hf := ed_ip c1 hf
    refine lv_iload_n S.1 S.2.1 dX9_copyAt_7 rfl (lv_at hl 1 rfl) ?_
    refine lv_aload_n S.1 S.2.1 dX9_copyAt_8 rfl (lv_at hl 0 rfl) ?_
    refine em_get S ed_uX9 hK hM 0 (by decide) ed_w4_33 rfl rfl dX9_copyAt_9 ?_
    refine lv_iconst (v := 3) S.1 S.2.1 dX9_copyAt_12 (by decide) ?_
    obtain ⟨hx2, hf⟩ := ed_g_e hf
    refine em_ild S hK hM 1 (by decide) (em_e1 cy B _) hx2 dX9_copyAt_13 ?_
    refine lv_icmp_ge (tgt := 36) S.1 S.2.1 dX9_copyAt_14 (by decide) (fun c3 => ?_) (fun c3 => ?_)
    · replace hf := ed_ip c3 hf
      refine lv_bipush (v := (-5)) S.1 S.2.1 dX9_copyAt_36 (by decide) ?_
      obtain rfl := Option.some.inj hf
      exact ed_ri S hr hlocks hM hS dX9_copyAt_38
    · replace hf := ed_in_ c3 hf
      refine lv_bipush (v := 10) S.1 S.2.1 dX9_copyAt_17 (by decide) ?_
      refine lv_aload_n S.1 S.2.1 dX9_copyAt_19 rfl (lv_at hl 0 rfl) ?_
      refine lv_iload_n S.1 S.2.1 dX9_copyAt_20 rfl (lv_at hl 1 rfl) ?_
      refine lv_iconst (v := 0) S.1 S.2.1 dX9_copyAt_21 (by decide) ?_
      obtain ⟨r4, hq4, hf⟩ := ed_b_e hf
      refine ed_kI (ed_rV S hK hM (c_X9_ofCopy _ D cy B x1 0 ν r4 hq4) (cwV 2 S.2.2.2.2 (ed_gV ed_w4_98 ed_w4_100 ed_wp_24 ed_w1_10 ed_w4_101) rfl rfl rfl hd_X9_ofCopy ⟨Nat.le_of_ble_eq_true rfl, Nat.le_of_ble_eq_true rfl⟩) (em_rc hK hM) rfl hl.1 rfl (Nat.le_of_ble_eq_true rfl) dX9_copyAt_22 ⟨Nat.zero_le _, Nat.zero_le _⟩) hS (fun H locs hM hS => ?_)
      refine lv_imul S.1 S.2.1 dX9_copyAt_25 ?_
      refine lv_aload_n S.1 S.2.1 dX9_copyAt_26 rfl (lv_at hl 0 rfl) ?_
      refine lv_iload_n S.1 S.2.1 dX9_copyAt_27 rfl (lv_at hl 1 rfl) ?_
      refine lv_iconst (v := 1) S.1 S.2.1 dX9_copyAt_28 (by decide) ?_
      obtain ⟨r5, hq5, hf⟩ := ed_b_e hf
      refine ed_kI (ed_rV S hK hM (c_X9_ofCopy _ D cy B x1 1 ν r5 hq5) (cwV 2 S.2.2.2.2 (ed_gV ed_w4_98 ed_w4_100 ed_wp_24 ed_w1_10 ed_w4_101) rfl rfl rfl hd_X9_ofCopy ⟨Nat.le_of_ble_eq_true rfl, Nat.le_of_ble_eq_true rfl⟩) (em_rc hK hM) rfl hl.1 rfl (Nat.le_of_ble_eq_true rfl) dX9_copyAt_29 ⟨Nat.zero_le _, Nat.zero_le _⟩) hS (fun H locs hM hS => ?_)
      refine lv_iadd S.1 S.2.1 dX9_copyAt_32 ?_
      refine lv_goto (tgt := 38) S.1 S.2.1 dX9_copyAt_33 (by decide) ?_
      obtain rfl := Option.some.inj hf
      exact ed_ri S hr hlocks hM hS dX9_copyAt_38
  · replace hf := ed_in_ c1 hf
    refine lv_bipush (v := (-2)) S.1 S.2.1 dX9_copyAt_4 (by decide) ?_
    obtain rfl := Option.some.inj hf
    exact ed_ri S hr hlocks hM hS dX9_copyAt_6
set_option maxHeartbeats 4000000 in
set_option maxRecDepth 100000 in
theorem w_X9_bringBack_2 {p : Program} {l : Launch} {e : Env} {s : State} {m : MethodId} {args : Array Value} {below : List Frame} {meth : Method} {c : Code} {D : va_G} {cy : Nat → ClassId} {B : Nat} (S : CallFix p m c cX9_bringBack 2 s args ed_ws RX9) (hr : meth.sig.returnType = none) (hlocks : meth.locks = false) (hK : ed_K D cy s) (ν' : em_MM) :
    ∀ (n : Nat), ∀ (x1 : Int32) (ν : em_MM), f_X9_bringBack_2  n x1 ν = some ν' → ∀ (H : Heap) (locs : List Loc) (ls : Array Slot), em_P D cy B ν H → va_S (em_A B) s.heap H locs → lv_has ls 2 [(0, .ref (B + 0)), (1, .int x1)] → W p l e (headSpec wsX9_bringBack rmX9_bringBack).room s m args below meth c H locs 0 0 (MQ below (ed_qV (em_A B) (em_P D cy B ν')) args s 0 0 (em_A B)) (F0 m 2 ls []) := by
  intro n
  induction n with
  | zero => intro x1 ν hf; rw [f_X9_bringBack_2] at hf; cases hf
  | succ n ih =>
    intro x1 ν hf H locs ls hM hS hl
    rw [f_X9_bringBack_2] at hf
    refine lv_iload_n S.1 S.2.1 dX9_bringBack_2 rfl (lv_at hl 1 rfl) ?_
    refine lv_sipush (v := 1683) S.1 S.2.1 dX9_bringBack_3 (by decide) ?_
    refine lv_icmp_ge (tgt := 27) S.1 S.2.1 dX9_bringBack_6 (by decide) (fun c1 => ?_) (fun c1 => ?_)
    · replace hf := ed_ip c1 hf
      obtain rfl := Option.some.inj hf
      exact ed_rv S hr hlocks hM hS dX9_bringBack_27
    · replace hf := ed_in_ c1 hf
      refine lv_aload_n S.1 S.2.1 dX9_bringBack_9 rfl (lv_at hl 0 rfl) ?_
      refine em_get S ed_uX9 hK hM 0 (by decide) ed_w4_33 rfl rfl dX9_bringBack_10 ?_
      refine lv_iload_n S.1 S.2.1 dX9_bringBack_13 rfl (lv_at hl 1 rfl) ?_
      refine lv_aload_n S.1 S.2.1 dX9_bringBack_14 rfl (lv_at hl 0 rfl) ?_
      refine em_get S ed_uX9 hK hM 1 (by decide) ed_w4_34 rfl rfl dX9_bringBack_15 ?_
      refine lv_iload_n S.1 S.2.1 dX9_bringBack_18 rfl (lv_at hl 1 rfl) ?_
      obtain ⟨hx2, hf⟩ := ed_g_e hf
      refine em_ild S hK hM 2 (by decide) (em_e2 cy B _) hx2 dX9_bringBack_19 ?_
      obtain ⟨hx3, hf⟩ := ed_g_e hf
      refine em_ist S hK hM hS 1 (by decide) (em_e1 cy B) hx3 dX9_bringBack_20 (fun H locs hM hS => ?_)
      obtain ⟨ν4, eν4, hf⟩ := ed_t_e hf
      have hM : em_P D cy B ν4 H := by rw [eν4]; exact hM
      refine lv_iinc (v := x1 + 1) (lv' := [(1, .int (x1 + 1)), (0, .ref (B + 0))]) S.1 S.2.1 dX9_bringBack_21 hl (k := 1) rfl rfl (by decide) rfl (fun ls hl => ?_)
      refine lv_goto (tgt := 2) S.1 S.2.1 dX9_bringBack_24 (by decide) ?_
      exact ih (x1 + 1) ν4 hf _ _ _ hM hS (lv_sub hl [1, 0] rfl)
set_option maxHeartbeats 4000000 in
set_option maxRecDepth 100000 in
theorem c_X9_bringBack (l : Launch) (D : va_G) (cy : Nat → ClassId) (B : Nat) (ν : em_MM) (ν' : em_MM) (hf : f_X9_bringBack ν = some ν') :
    Met l yX9_bringBack wsX9_bringBack rmX9_bringBack (ed_pC D cy (em_P D cy B ν) [.ref (B + 0)]) (ed_qV (em_A B) (em_P D cy B ν')) 0 0 (em_A B) := by
  refine Met.ofW (cc := cX9_bringBack) (maxL := 2) (ret := none) (by decide) rfl ?_
  intro p e s m args below meth c s₁ B0 hml hv
  obtain ⟨rfl, hM, hK⟩ := hv
  have S : CallFix p m c cX9_bringBack 2 s _ ed_ws RX9 := ⟨B0.exec, B0.bytes, hml, findClass_of_methodNamed B0.named, fun w hw => atoms_spec (ws := wsX9_bringBack) B0.pre w (List.mem_cons_of_mem _ hw)⟩
  have hr := B0.returns
  have hlocks := B0.notSynchronized
  have hS : va_S (em_A B) s.heap s.heap [] := va_S.rf
  have hl := lv_entry ([.ref (B + 0)]) (n := 2) (Nat.le_of_ble_eq_true rfl)
  rw [lg_entry_eq]
  generalize (lg_sl ([.ref (B + 0)]) ++ List.replicate (2 - (lg_sl ([.ref (B + 0)])).length) Slot.unset).toArray = ls at hl ⊢
  have hl : lv_has ls 2 [(0, .ref (B + 0))] := hl
  unfold f_X9_bringBack at hf
  refine lv_iconst (v := 0) S.1 S.2.1 dX9_bringBack_0 (by decide) ?_
  refine lv_istore_n (lv' := [(1, .int 0), (0, .ref (B + 0))]) S.1 S.2.1 dX9_bringBack_1 rfl hl (by decide) rfl (fun ls hl => ?_)
  exact w_X9_bringBack_2 S hr hlocks hK ν' ed_N 0 ν hf _ _ _ hM hS (lv_sub hl [1, 0] rfl)
set_option maxHeartbeats 4000000 in
set_option maxRecDepth 100000 in
theorem w_X9_setAside_2 {p : Program} {l : Launch} {e : Env} {s : State} {m : MethodId} {args : Array Value} {below : List Frame} {meth : Method} {c : Code} {D : va_G} {cy : Nat → ClassId} {B : Nat} (S : CallFix p m c cX9_setAside 2 s args ed_ws RX9) (hr : meth.sig.returnType = none) (hlocks : meth.locks = false) (hK : ed_K D cy s) (ν' : em_MM) :
    ∀ (n : Nat), ∀ (x1 : Int32) (ν : em_MM), f_X9_setAside_2  n x1 ν = some ν' → ∀ (H : Heap) (locs : List Loc) (ls : Array Slot), em_P D cy B ν H → va_S (em_A B) s.heap H locs → lv_has ls 2 [(0, .ref (B + 0)), (1, .int x1)] → W p l e (headSpec wsX9_setAside rmX9_setAside).room s m args below meth c H locs 0 0 (MQ below (ed_qV (em_A B) (em_P D cy B ν')) args s 0 0 (em_A B)) (F0 m 2 ls []) := by
  intro n
  induction n with
  | zero => intro x1 ν hf; rw [f_X9_setAside_2] at hf; cases hf
  | succ n ih =>
    intro x1 ν hf H locs ls hM hS hl
    rw [f_X9_setAside_2] at hf
    refine lv_iload_n S.1 S.2.1 dX9_setAside_2 rfl (lv_at hl 1 rfl) ?_
    refine lv_sipush (v := 1683) S.1 S.2.1 dX9_setAside_3 (by decide) ?_
    refine lv_icmp_ge (tgt := 27) S.1 S.2.1 dX9_setAside_6 (by decide) (fun c1 => ?_) (fun c1 => ?_)
    · replace hf := ed_ip c1 hf
      obtain rfl := Option.some.inj hf
      exact ed_rv S hr hlocks hM hS dX9_setAside_27
    · replace hf := ed_in_ c1 hf
      refine lv_aload_n S.1 S.2.1 dX9_setAside_9 rfl (lv_at hl 0 rfl) ?_
      refine em_get S ed_uX9 hK hM 1 (by decide) ed_w4_34 rfl rfl dX9_setAside_10 ?_
      refine lv_iload_n S.1 S.2.1 dX9_setAside_13 rfl (lv_at hl 1 rfl) ?_
      refine lv_aload_n S.1 S.2.1 dX9_setAside_14 rfl (lv_at hl 0 rfl) ?_
      refine em_get S ed_uX9 hK hM 0 (by decide) ed_w4_33 rfl rfl dX9_setAside_15 ?_
      refine lv_iload_n S.1 S.2.1 dX9_setAside_18 rfl (lv_at hl 1 rfl) ?_
      obtain ⟨hx2, hf⟩ := ed_g_e hf
      refine em_ild S hK hM 1 (by decide) (em_e1 cy B _) hx2 dX9_setAside_19 ?_
      obtain ⟨hx3, hf⟩ := ed_g_e hf
      refine em_ist S hK hM hS 2 (by decide) (em_e2 cy B) hx3 dX9_setAside_20 (fun H locs hM hS => ?_)
      obtain ⟨ν4, eν4, hf⟩ := ed_t_e hf
      have hM : em_P D cy B ν4 H := by rw [eν4]; exact hM
      refine lv_iinc (v := x1 + 1) (lv' := [(1, .int (x1 + 1)), (0, .ref (B + 0))]) S.1 S.2.1 dX9_setAside_21 hl (k := 1) rfl rfl (by decide) rfl (fun ls hl => ?_)
      refine lv_goto (tgt := 2) S.1 S.2.1 dX9_setAside_24 (by decide) ?_
      exact ih (x1 + 1) ν4 hf _ _ _ hM hS (lv_sub hl [1, 0] rfl)
set_option maxHeartbeats 4000000 in
set_option maxRecDepth 100000 in
theorem c_X9_setAside (l : Launch) (D : va_G) (cy : Nat → ClassId) (B : Nat) (ν : em_MM) (ν' : em_MM) (hf : f_X9_setAside ν = some ν') :
    Met l yX9_setAside wsX9_setAside rmX9_setAside (ed_pC D cy (em_P D cy B ν) [.ref (B + 0)]) (ed_qV (em_A B) (em_P D cy B ν')) 0 0 (em_A B) := by
  refine Met.ofW (cc := cX9_setAside) (maxL := 2) (ret := none) (by decide) rfl ?_
  intro p e s m args below meth c s₁ B0 hml hv
  obtain ⟨rfl, hM, hK⟩ := hv
  have S : CallFix p m c cX9_setAside 2 s _ ed_ws RX9 := ⟨B0.exec, B0.bytes, hml, findClass_of_methodNamed B0.named, fun w hw => atoms_spec (ws := wsX9_setAside) B0.pre w (List.mem_cons_of_mem _ hw)⟩
  have hr := B0.returns
  have hlocks := B0.notSynchronized
  have hS : va_S (em_A B) s.heap s.heap [] := va_S.rf
  have hl := lv_entry ([.ref (B + 0)]) (n := 2) (Nat.le_of_ble_eq_true rfl)
  rw [lg_entry_eq]
  generalize (lg_sl ([.ref (B + 0)]) ++ List.replicate (2 - (lg_sl ([.ref (B + 0)])).length) Slot.unset).toArray = ls at hl ⊢
  have hl : lv_has ls 2 [(0, .ref (B + 0))] := hl
  unfold f_X9_setAside at hf
  refine lv_iconst (v := 0) S.1 S.2.1 dX9_setAside_0 (by decide) ?_
  refine lv_istore_n (lv' := [(1, .int 0), (0, .ref (B + 0))]) S.1 S.2.1 dX9_setAside_1 rfl hl (by decide) rfl (fun ls hl => ?_)
  exact w_X9_setAside_2 S hr hlocks hK ν' ed_N 0 ν hf _ _ _ hM hS (lv_sub hl [1, 0] rfl)
set_option maxHeartbeats 4000000 in
set_option maxRecDepth 100000 in
theorem w_X9_carriedIn_40 {p : Program} {l : Launch} {e : Env} {s : State} {m : MethodId} {args : Array Value} {below : List Frame} {meth : Method} {c : Code} {D : va_G} {cy : Nat → ClassId} {B : Nat} (S : CallFix p m c cX9_carriedIn 5 s args ed_ws RX9) (hr : meth.sig.returnType = (some .int)) (hlocks : meth.locks = false) (hK : ed_K D cy s) (r : Int32) (ν' : em_MM) :
    ∀ (n : Nat), ∀ (x1 x3 x4 : Int32) (ν : em_MM), f_X9_carriedIn_40  n x1 x3 x4 ν = some (r, ν') → ∀ (H : Heap) (locs : List Loc) (ls : Array Slot), em_P D cy B ν H → va_S (em_A B) s.heap H locs → lv_has ls 5 [(0, .ref (B + 0)), (1, .int x1), (3, .int x3), (4, .int x4)] → W p l e (headSpec wsX9_carriedIn rmX9_carriedIn).room s m args below meth c H locs 0 0 (MQ below (ed_qI (em_A B) (em_P D cy B ν') r) args s 0 0 (em_A B)) (F0 m 40 ls []) := by
  intro n
  induction n with
  | zero => intro x1 x3 x4 ν hf; rw [f_X9_carriedIn_40] at hf; cases hf
  | succ n ih =>
    intro x1 x3 x4 ν hf H locs ls hM hS hl
    rw [f_X9_carriedIn_40] at hf
    refine lv_iload S.1 S.2.1 dX9_carriedIn_40 (lv_at hl 3 rfl) ?_
    refine lv_bipush (v := 101) S.1 S.2.1 dX9_carriedIn_42 (by decide) ?_
    refine lv_icmp_ge (tgt := 84) S.1 S.2.1 dX9_carriedIn_44 (by decide) (fun c8 => ?_) (fun c8 => ?_)
    · replace hf := ed_ip c8 hf
      refine lv_aload_n S.1 S.2.1 dX9_carriedIn_84 rfl (lv_at hl 0 rfl) ?_
      obtain ⟨ν9, hq9, hf⟩ := ed_b_e hf
      refine ed_kV (ed_rV S hK hM (c_X9_bringBack _ D cy B ν ν9 hq9) (cwV 0 S.2.2.2.2 (ed_gV ed_w5_65 ed_w5_67 ed_wp_51 ed_w1_10 ed_w5_68) rfl rfl rfl hd_X9_bringBack ⟨Nat.le_of_ble_eq_true rfl, Nat.le_of_ble_eq_true rfl⟩) (em_rc hK hM) rfl hl.1 rfl (Nat.le_of_ble_eq_true rfl) dX9_carriedIn_85 ⟨Nat.zero_le _, Nat.zero_le _⟩) hS (fun H locs hM hS => ?_)
      refine lv_iload S.1 S.2.1 dX9_carriedIn_88 (lv_at hl 3 rfl) ?_
      refine lv_bipush (v := 100) S.1 S.2.1 dX9_carriedIn_90 (by decide) ?_
      refine lv_icmp_le (tgt := 100) S.1 S.2.1 dX9_carriedIn_92 (by decide) (fun c10 => ?_) (fun c10 => ?_)
      · replace hf := ed_ip c10 hf
        refine lv_iload S.1 S.2.1 dX9_carriedIn_100 (lv_at hl 3 rfl) ?_
        obtain ⟨rfl, rfl⟩ := ed_so hf
        exact ed_ri S hr hlocks hM hS dX9_carriedIn_102
      · replace hf := ed_in_ c10 hf
        refine lv_bipush (v := (-5)) S.1 S.2.1 dX9_carriedIn_95 (by decide) ?_
        refine lv_goto (tgt := 102) S.1 S.2.1 dX9_carriedIn_97 (by decide) ?_
        obtain ⟨rfl, rfl⟩ := ed_so hf
        exact ed_ri S hr hlocks hM hS dX9_carriedIn_102
    · replace hf := ed_in_ c8 hf
      refine lv_aload_n S.1 S.2.1 dX9_carriedIn_47 rfl (lv_at hl 0 rfl) ?_
      refine lv_iload_n S.1 S.2.1 dX9_carriedIn_48 rfl (lv_at hl 2 rfl) ?_
      refine lv_iconst (v := 2) S.1 S.2.1 dX9_carriedIn_49 (by decide) ?_
      obtain ⟨r11, hq11, hf⟩ := ed_b_e hf
      refine ed_kI (ed_rV S hK hM (c_X9_ofCopy _ D cy B x3 2 ν r11 hq11) (cwV 2 S.2.2.2.2 (ed_gV ed_w4_98 ed_w4_100 ed_wp_24 ed_w1_10 ed_w4_101) rfl rfl rfl hd_X9_ofCopy ⟨Nat.le_of_ble_eq_true rfl, Nat.le_of_ble_eq_true rfl⟩) (em_rc hK hM) rfl hl.1 rfl (Nat.le_of_ble_eq_true rfl) dX9_carriedIn_50 ⟨Nat.zero_le _, Nat.zero_le _⟩) hS (fun H locs hM hS => ?_)
      refine lv_iconst (v := 1) S.1 S.2.1 dX9_carriedIn_53 (by decide) ?_
      refine lv_icmp_ne (tgt := 73) S.1 S.2.1 dX9_carriedIn_54 (by decide) (fun c12 => ?_) (fun c12 => ?_)
      · replace hf := ed_in_ c12 hf
        refine lv_aload_n S.1 S.2.1 dX9_carriedIn_73 rfl (lv_at hl 0 rfl) ?_
        obtain ⟨r13, ν13, hq13, hf⟩ := ed_b2_e hf
        refine ed_kI (ed_rV S hK hM (c_X9_oneHour _ D cy B ν r13 ν13 hq13) (cwV 0 S.2.2.2.2 (ed_gV ed_w4_200 ed_w4_202 ed_wp_37 ed_w1_10 ed_w4_203) rfl rfl rfl hd_X9_oneHour ⟨Nat.le_of_ble_eq_true rfl, Nat.le_of_ble_eq_true rfl⟩) (em_rc hK hM) rfl hl.1 rfl (Nat.le_of_ble_eq_true rfl) dX9_carriedIn_74 ⟨Nat.zero_le _, Nat.zero_le _⟩) hS (fun H locs hM hS => ?_)
        refine lv_pop S.1 S.2.1 dX9_carriedIn_77 rfl ?_
        refine lv_iinc (v := x4 + 1) (lv' := [(4, .int (x4 + 1)), (0, .ref (B + 0)), (1, .int x1), (3, .int x3)]) S.1 S.2.1 dX9_carriedIn_78 hl (k := 3) rfl rfl (by decide) rfl (fun ls hl => ?_)
        refine lv_goto (tgt := 40) S.1 S.2.1 dX9_carriedIn_81 (by decide) ?_
        exact ih x1 x3 (x4 + 1) ν13 hf _ _ _ hM hS (lv_sub hl [1, 2, 3, 0] rfl)
      · replace hf := ed_ip c12 hf
        refine lv_aload_n S.1 S.2.1 dX9_carriedIn_57 rfl (lv_at hl 0 rfl) ?_
        refine lv_iload_n S.1 S.2.1 dX9_carriedIn_58 rfl (lv_at hl 2 rfl) ?_
        refine lv_iconst (v := 5) S.1 S.2.1 dX9_carriedIn_59 (by decide) ?_
        obtain ⟨r14, hq14, hf⟩ := ed_b_e hf
        refine ed_kI (ed_rV S hK hM (c_X9_ofCopy _ D cy B x3 5 ν r14 hq14) (cwV 2 S.2.2.2.2 (ed_gV ed_w4_98 ed_w4_100 ed_wp_24 ed_w1_10 ed_w4_101) rfl rfl rfl hd_X9_ofCopy ⟨Nat.le_of_ble_eq_true rfl, Nat.le_of_ble_eq_true rfl⟩) (em_rc hK hM) rfl hl.1 rfl (Nat.le_of_ble_eq_true rfl) dX9_carriedIn_60 ⟨Nat.zero_le _, Nat.zero_le _⟩) hS (fun H locs hM hS => ?_)
        refine lv_aload_n S.1 S.2.1 dX9_carriedIn_63 rfl (lv_at hl 0 rfl) ?_
        refine lv_iload_n S.1 S.2.1 dX9_carriedIn_64 rfl (lv_at hl 1 rfl) ?_
        refine lv_bipush (v := 7) S.1 S.2.1 dX9_carriedIn_65 (by decide) ?_
        obtain ⟨r15, hq15, hf⟩ := ed_b_e hf
        refine ed_kI (ed_rV S hK hM (c_X9_ofStory _ D cy B x1 7 ν r15 hq15) (cwV 2 S.2.2.2.2 (ed_gV ed_w4_164 ed_w4_166 ed_wp_33 ed_w1_10 ed_w4_167) rfl rfl rfl hd_X9_ofStory ⟨Nat.le_of_ble_eq_true rfl, Nat.le_of_ble_eq_true rfl⟩) (em_rc hK hM) rfl hl.1 rfl (Nat.le_of_ble_eq_true rfl) dX9_carriedIn_67 ⟨Nat.zero_le _, Nat.zero_le _⟩) hS (fun H locs hM hS => ?_)
        refine lv_icmp_ge (tgt := 84) S.1 S.2.1 dX9_carriedIn_70 (by decide) (fun c16 => ?_) (fun c16 => ?_)
        · replace hf := ed_ip c16 hf
          refine lv_aload_n S.1 S.2.1 dX9_carriedIn_84 rfl (lv_at hl 0 rfl) ?_
          obtain ⟨ν17, hq17, hf⟩ := ed_b_e hf
          refine ed_kV (ed_rV S hK hM (c_X9_bringBack _ D cy B ν ν17 hq17) (cwV 0 S.2.2.2.2 (ed_gV ed_w5_65 ed_w5_67 ed_wp_51 ed_w1_10 ed_w5_68) rfl rfl rfl hd_X9_bringBack ⟨Nat.le_of_ble_eq_true rfl, Nat.le_of_ble_eq_true rfl⟩) (em_rc hK hM) rfl hl.1 rfl (Nat.le_of_ble_eq_true rfl) dX9_carriedIn_85 ⟨Nat.zero_le _, Nat.zero_le _⟩) hS (fun H locs hM hS => ?_)
          refine lv_iload S.1 S.2.1 dX9_carriedIn_88 (lv_at hl 3 rfl) ?_
          refine lv_bipush (v := 100) S.1 S.2.1 dX9_carriedIn_90 (by decide) ?_
          refine lv_icmp_le (tgt := 100) S.1 S.2.1 dX9_carriedIn_92 (by decide) (fun c18 => ?_) (fun c18 => ?_)
          · replace hf := ed_ip c18 hf
            refine lv_iload S.1 S.2.1 dX9_carriedIn_100 (lv_at hl 3 rfl) ?_
            obtain ⟨rfl, rfl⟩ := ed_so hf
            exact ed_ri S hr hlocks hM hS dX9_carriedIn_102
          · replace hf := ed_in_ c18 hf
            refine lv_bipush (v := (-5)) S.1 S.2.1 dX9_carriedIn_95 (by decide) ?_
            refine lv_goto (tgt := 102) S.1 S.2.1 dX9_carriedIn_97 (by decide) ?_
            obtain ⟨rfl, rfl⟩ := ed_so hf
            exact ed_ri S hr hlocks hM hS dX9_carriedIn_102
        · replace hf := ed_in_ c16 hf
          refine lv_aload_n S.1 S.2.1 dX9_carriedIn_73 rfl (lv_at hl 0 rfl) ?_
          obtain ⟨r19, ν19, hq19, hf⟩ := ed_b2_e hf
          refine ed_kI (ed_rV S hK hM (c_X9_oneHour _ D cy B ν r19 ν19 hq19) (cwV 0 S.2.2.2.2 (ed_gV ed_w4_200 ed_w4_202 ed_wp_37 ed_w1_10 ed_w4_203) rfl rfl rfl hd_X9_oneHour ⟨Nat.le_of_ble_eq_true rfl, Nat.le_of_ble_eq_true rfl⟩) (em_rc hK hM) rfl hl.1 rfl (Nat.le_of_ble_eq_true rfl) dX9_carriedIn_74 ⟨Nat.zero_le _, Nat.zero_le _⟩) hS (fun H locs hM hS => ?_)
          refine lv_pop S.1 S.2.1 dX9_carriedIn_77 rfl ?_
          refine lv_iinc (v := x4 + 1) (lv' := [(4, .int (x4 + 1)), (0, .ref (B + 0)), (1, .int x1), (3, .int x3)]) S.1 S.2.1 dX9_carriedIn_78 hl (k := 3) rfl rfl (by decide) rfl (fun ls hl => ?_)
          refine lv_goto (tgt := 40) S.1 S.2.1 dX9_carriedIn_81 (by decide) ?_
          exact ih x1 x3 (x4 + 1) ν19 hf _ _ _ hM hS (lv_sub hl [1, 2, 3, 0] rfl)
set_option maxHeartbeats 4000000 in
set_option maxRecDepth 100000 in
theorem c_X9_carriedIn (l : Launch) (D : va_G) (cy : Nat → ClassId) (B : Nat) (x1 x2 : Int32) (ν : em_MM) (r : Int32) (ν' : em_MM) (hf : f_X9_carriedIn x1 x2 ν = some (r, ν')) :
    Met l yX9_carriedIn wsX9_carriedIn rmX9_carriedIn (ed_pC D cy (em_P D cy B ν) [.ref (B + 0), .int x1, .int x2]) (ed_qI (em_A B) (em_P D cy B ν') r) 0 0 (em_A B) := by
  refine Met.ofW (cc := cX9_carriedIn) (maxL := 5) (ret := (some .int)) (by decide) rfl ?_
  intro p e s m args below meth c s₁ B0 hml hv
  obtain ⟨rfl, hM, hK⟩ := hv
  have S : CallFix p m c cX9_carriedIn 5 s _ ed_ws RX9 := ⟨B0.exec, B0.bytes, hml, findClass_of_methodNamed B0.named, fun w hw => atoms_spec (ws := wsX9_carriedIn) B0.pre w (List.mem_cons_of_mem _ hw)⟩
  have hr := B0.returns
  have hlocks := B0.notSynchronized
  have hS : va_S (em_A B) s.heap s.heap [] := va_S.rf
  have hl := lv_entry ([.ref (B + 0), .int x1, .int x2]) (n := 5) (Nat.le_of_ble_eq_true rfl)
  rw [lg_entry_eq]
  generalize (lg_sl ([.ref (B + 0), .int x1, .int x2]) ++ List.replicate (5 - (lg_sl ([.ref (B + 0), .int x1, .int x2])).length) Slot.unset).toArray = ls at hl ⊢
  have hl : lv_has ls 5 [(0, .ref (B + 0)), (1, .int x1), (2, .int x2)] := hl
  unfold f_X9_carriedIn at hf
  refine lv_aload_n S.1 S.2.1 dX9_carriedIn_0 rfl (lv_at hl 0 rfl) ?_
  refine lv_iload_n S.1 S.2.1 dX9_carriedIn_1 rfl (lv_at hl 1 rfl) ?_
  obtain ⟨r1, hq1, hf⟩ := ed_b_e hf
  refine ed_kI (ed_rV S hK hM (c_X9_isStory _ D cy B x1 ν r1 hq1) (cwV 1 S.2.2.2.2 (ed_gV ed_w4_160 ed_w4_162 ed_wp_32 ed_w1_10 ed_w4_163) rfl rfl rfl hd_X9_isStory ⟨Nat.le_of_ble_eq_true rfl, Nat.le_of_ble_eq_true rfl⟩) (em_rc hK hM) rfl hl.1 rfl (Nat.le_of_ble_eq_true rfl) dX9_carriedIn_2 ⟨Nat.zero_le _, Nat.zero_le _⟩) hS (fun H locs hM hS => ?_)
  refine lv_if_eq (tgt := 25) S.1 S.2.1 dX9_carriedIn_5 (by decide) (fun c2 => ?_) (fun c2 => ?_)
  · replace hf := ed_ip c2 hf
    refine lv_iconst (v := (-1)) S.1 S.2.1 dX9_carriedIn_25 (by decide) ?_
    refine lv_istore_n (lv' := [(3, .int (-1)), (0, .ref (B + 0)), (1, .int x1), (2, .int x2)]) S.1 S.2.1 dX9_carriedIn_26 rfl hl (by decide) rfl (fun ls hl => ?_)
    refine lv_iload_n S.1 S.2.1 dX9_carriedIn_27 rfl (lv_at hl 0 rfl) ?_
    refine lv_if_ge (tgt := 33) S.1 S.2.1 dX9_carriedIn_28 (by decide) (fun c => absurd c (by decide)) (fun _ => ?_)
    refine lv_iconst (v := (-1)) S.1 S.2.1 dX9_carriedIn_31 (by decide) ?_
    obtain ⟨rfl, rfl⟩ := ed_so hf
    exact ed_ri S hr hlocks hM hS dX9_carriedIn_32
  · replace hf := ed_in_ c2 hf
    refine lv_aload_n S.1 S.2.1 dX9_carriedIn_8 rfl (lv_at hl 0 rfl) ?_
    refine lv_iload_n S.1 S.2.1 dX9_carriedIn_9 rfl (lv_at hl 2 rfl) ?_
    obtain ⟨r3, hq3, hf⟩ := ed_b_e hf
    refine ed_kI (ed_rV S hK hM (c_X9_isClient _ D cy B x2 ν r3 hq3) (cwV 1 S.2.2.2.2 (ed_gV ed_w4_86 ed_w4_88 ed_wp_22 ed_w1_10 ed_w4_89) rfl rfl rfl hd_X9_isClient ⟨Nat.le_of_ble_eq_true rfl, Nat.le_of_ble_eq_true rfl⟩) (em_rc hK hM) rfl hl.1 rfl (Nat.le_of_ble_eq_true rfl) dX9_carriedIn_10 ⟨Nat.zero_le _, Nat.zero_le _⟩) hS (fun H locs hM hS => ?_)
    refine lv_if_eq (tgt := 25) S.1 S.2.1 dX9_carriedIn_13 (by decide) (fun c4 => ?_) (fun c4 => ?_)
    · replace hf := ed_ip c4 hf
      refine lv_iconst (v := (-1)) S.1 S.2.1 dX9_carriedIn_25 (by decide) ?_
      refine lv_istore_n (lv' := [(3, .int (-1)), (0, .ref (B + 0)), (1, .int x1), (2, .int x2)]) S.1 S.2.1 dX9_carriedIn_26 rfl hl (by decide) rfl (fun ls hl => ?_)
      refine lv_iload_n S.1 S.2.1 dX9_carriedIn_27 rfl (lv_at hl 0 rfl) ?_
      refine lv_if_ge (tgt := 33) S.1 S.2.1 dX9_carriedIn_28 (by decide) (fun c => absurd c (by decide)) (fun _ => ?_)
      refine lv_iconst (v := (-1)) S.1 S.2.1 dX9_carriedIn_31 (by decide) ?_
      obtain ⟨rfl, rfl⟩ := ed_so hf
      exact ed_ri S hr hlocks hM hS dX9_carriedIn_32
    · replace hf := ed_in_ c4 hf
      refine lv_aload_n S.1 S.2.1 dX9_carriedIn_16 rfl (lv_at hl 0 rfl) ?_
      refine lv_iload_n S.1 S.2.1 dX9_carriedIn_17 rfl (lv_at hl 1 rfl) ?_
      refine lv_iload_n S.1 S.2.1 dX9_carriedIn_18 rfl (lv_at hl 2 rfl) ?_
      obtain ⟨r5, hq5, hf⟩ := ed_b_e hf
      refine ed_kI (ed_rV S hK hM (c_X9_copyOf _ D cy B x1 x2 ν r5 hq5) (cwV 2 S.2.2.2.2 (ed_gV ed_w5_45 ed_w5_47 ed_wp_48 ed_w1_10 ed_w5_48) rfl rfl rfl hd_X9_copyOf ⟨Nat.le_of_ble_eq_true rfl, Nat.le_of_ble_eq_true rfl⟩) (em_rc hK hM) rfl hl.1 rfl (Nat.le_of_ble_eq_true rfl) dX9_carriedIn_19 ⟨Nat.zero_le _, Nat.zero_le _⟩) hS (fun H locs hM hS => ?_)
      refine lv_goto (tgt := 26) S.1 S.2.1 dX9_carriedIn_22 (by decide) ?_
      refine lv_istore_n (lv' := [(3, .int r5), (0, .ref (B + 0)), (1, .int x1), (2, .int x2)]) S.1 S.2.1 dX9_carriedIn_26 rfl hl (by decide) rfl (fun ls hl => ?_)
      refine lv_iload_n S.1 S.2.1 dX9_carriedIn_27 rfl (lv_at hl 0 rfl) ?_
      refine lv_if_ge (tgt := 33) S.1 S.2.1 dX9_carriedIn_28 (by decide) (fun c6 => ?_) (fun c6 => ?_)
      · replace hf := ed_ip c6 hf
        refine lv_aload_n S.1 S.2.1 dX9_carriedIn_33 rfl (lv_at hl 1 rfl) ?_
        obtain ⟨ν7, hq7, hf⟩ := ed_b_e hf
        refine ed_kV (ed_rV S hK hM (c_X9_setAside _ D cy B ν ν7 hq7) (cwV 0 S.2.2.2.2 (ed_gV ed_w5_61 ed_w5_63 ed_wp_50 ed_w1_10 ed_w5_64) rfl rfl rfl hd_X9_setAside ⟨Nat.le_of_ble_eq_true rfl, Nat.le_of_ble_eq_true rfl⟩) (em_rc hK hM) rfl hl.1 rfl (Nat.le_of_ble_eq_true rfl) dX9_carriedIn_34 ⟨Nat.zero_le _, Nat.zero_le _⟩) hS (fun H locs hM hS => ?_)
        refine lv_iconst (v := 0) S.1 S.2.1 dX9_carriedIn_37 (by decide) ?_
        refine lv_istore (lv' := [(4, .int 0), (3, .int r5), (0, .ref (B + 0)), (1, .int x1), (2, .int x2)]) S.1 S.2.1 dX9_carriedIn_38 hl (by decide) rfl (fun ls hl => ?_)
        exact w_X9_carriedIn_40 S hr hlocks hK r ν' ed_N x1 r5 0 ν7 hf _ _ _ hM hS (lv_sub hl [2, 3, 1, 0] rfl)
      · replace hf := ed_in_ c6 hf
        refine lv_iconst (v := (-1)) S.1 S.2.1 dX9_carriedIn_31 (by decide) ?_
        obtain ⟨rfl, rfl⟩ := ed_so hf
        exact ed_ri S hr hlocks hM hS dX9_carriedIn_32
set_option maxHeartbeats 4000000 in
set_option maxRecDepth 100000 in
theorem w_X9_wouldCome_29 {p : Program} {l : Launch} {e : Env} {s : State} {m : MethodId} {args : Array Value} {below : List Frame} {meth : Method} {c : Code} {D : va_G} {cy : Nat → ClassId} {B : Nat} (S : CallFix p m c cX9_wouldCome 4 s args ed_ws RX9) (hr : meth.sig.returnType = (some .int)) (hlocks : meth.locks = false) (hK : ed_K D cy s) (r : Int32) (ν' : em_MM) :
    ∀ (n : Nat), ∀ (x1 x2 x3 : Int32) (ν : em_MM), f_X9_wouldCome_29  n x1 x2 x3 ν = some (r, ν') → ∀ (H : Heap) (locs : List Loc) (ls : Array Slot), em_P D cy B ν H → va_S (em_A B) s.heap H locs → lv_has ls 4 [(0, .ref (B + 0)), (1, .int x1), (2, .int x2), (3, .int x3)] → W p l e (headSpec wsX9_wouldCome rmX9_wouldCome).room s m args below meth c H locs 0 0 (MQ below (ed_qI (em_A B) (em_P D cy B ν') r) args s 0 0 (em_A B)) (F0 m 29 ls []) := by
  intro n
  induction n with
  | zero => intro x1 x2 x3 ν hf; rw [f_X9_wouldCome_29] at hf; cases hf
  | succ n ih =>
    intro x1 x2 x3 ν hf H locs ls hM hS hl
    rw [f_X9_wouldCome_29] at hf
    refine lv_iload_n S.1 S.2.1 dX9_wouldCome_29 rfl (lv_at hl 3 rfl) ?_
    refine lv_iload_n S.1 S.2.1 dX9_wouldCome_30 rfl (lv_at hl 2 rfl) ?_
    refine lv_icmp_ge (tgt := 45) S.1 S.2.1 dX9_wouldCome_31 (by decide) (fun c6 => ?_) (fun c6 => ?_)
    · replace hf := ed_ip c6 hf
      refine lv_aload_n S.1 S.2.1 dX9_wouldCome_45 rfl (lv_at hl 0 rfl) ?_
      refine lv_iload_n S.1 S.2.1 dX9_wouldCome_46 rfl (lv_at hl 1 rfl) ?_
      refine lv_bipush (v := 8) S.1 S.2.1 dX9_wouldCome_47 (by decide) ?_
      obtain ⟨r7, hq7, hf⟩ := ed_b_e hf
      refine ed_kI (ed_rV S hK hM (c_X9_ofClient _ D cy B x1 8 ν r7 hq7) (cwV 2 S.2.2.2.2 (ed_gV ed_w4_113 ed_w4_115 ed_wp_25 ed_w1_10 ed_w4_116) rfl rfl rfl hd_X9_ofClient ⟨Nat.le_of_ble_eq_true rfl, Nat.le_of_ble_eq_true rfl⟩) (em_rc hK hM) rfl hl.1 rfl (Nat.le_of_ble_eq_true rfl) dX9_wouldCome_49 ⟨Nat.zero_le _, Nat.zero_le _⟩) hS (fun H locs hM hS => ?_)
      refine lv_aload_n S.1 S.2.1 dX9_wouldCome_52 rfl (lv_at hl 0 rfl) ?_
      refine em_get S ed_uX9 hK hM 1 (by decide) ed_w4_34 rfl rfl dX9_wouldCome_53 ?_
      refine lv_iload_n S.1 S.2.1 dX9_wouldCome_56 rfl (lv_at hl 1 rfl) ?_
      refine lv_bipush (v := 8) S.1 S.2.1 dX9_wouldCome_57 (by decide) ?_
      refine ed_kI (ed_rS S hK hM (c_X9_clientAt _ D cy (em_P D cy B ν) (em_A B) x1 8) (va_cwS 2 S.2.2.2.2 (ed_gS ed_w4_79 ed_w4_80 ed_w1_10 ed_w4_81) rfl rfl rfl hd_X9_clientAt.2 ⟨Nat.le_of_ble_eq_true rfl, Nat.le_of_ble_eq_true rfl⟩) rfl hl.1 rfl (Nat.le_of_ble_eq_true rfl) dX9_wouldCome_59 ⟨Nat.zero_le _, Nat.zero_le _⟩) hS (fun H locs hM hS => ?_)
      obtain ⟨hx9, hf⟩ := ed_g_e hf
      refine em_ild S hK hM 2 (by decide) (em_e2 cy B _) hx9 dX9_wouldCome_62 ?_
      refine lv_isub S.1 S.2.1 dX9_wouldCome_63 ?_
      obtain ⟨y10, ey10, hf⟩ := ed_t_e hf
      refine ed_nm ey10 ?_
      refine lv_istore_n (lv' := [(3, .int y10), (0, .ref (B + 0)), (1, .int x1), (2, .int x2)]) S.1 S.2.1 dX9_wouldCome_64 rfl hl (by decide) rfl (fun ls hl => ?_)
      refine lv_aload_n S.1 S.2.1 dX9_wouldCome_65 rfl (lv_at hl 1 rfl) ?_
      obtain ⟨ν11, hq11, hf⟩ := ed_b_e hf
      refine ed_kV (ed_rV S hK hM (c_X9_bringBack _ D cy B ν ν11 hq11) (cwV 0 S.2.2.2.2 (ed_gV ed_w5_65 ed_w5_67 ed_wp_51 ed_w1_10 ed_w5_68) rfl rfl rfl hd_X9_bringBack ⟨Nat.le_of_ble_eq_true rfl, Nat.le_of_ble_eq_true rfl⟩) (em_rc hK hM) rfl hl.1 rfl (Nat.le_of_ble_eq_true rfl) dX9_wouldCome_66 ⟨Nat.zero_le _, Nat.zero_le _⟩) hS (fun H locs hM hS => ?_)
      refine lv_iload_n S.1 S.2.1 dX9_wouldCome_69 rfl (lv_at hl 0 rfl) ?_
      obtain ⟨rfl, rfl⟩ := ed_so hf
      exact ed_ri S hr hlocks hM hS dX9_wouldCome_70
    · replace hf := ed_in_ c6 hf
      refine lv_aload_n S.1 S.2.1 dX9_wouldCome_34 rfl (lv_at hl 0 rfl) ?_
      obtain ⟨r12, ν12, hq12, hf⟩ := ed_b2_e hf
      refine ed_kI (ed_rV S hK hM (c_X9_oneHour _ D cy B ν r12 ν12 hq12) (cwV 0 S.2.2.2.2 (ed_gV ed_w4_200 ed_w4_202 ed_wp_37 ed_w1_10 ed_w4_203) rfl rfl rfl hd_X9_oneHour ⟨Nat.le_of_ble_eq_true rfl, Nat.le_of_ble_eq_true rfl⟩) (em_rc hK hM) rfl hl.1 rfl (Nat.le_of_ble_eq_true rfl) dX9_wouldCome_35 ⟨Nat.zero_le _, Nat.zero_le _⟩) hS (fun H locs hM hS => ?_)
      refine lv_pop S.1 S.2.1 dX9_wouldCome_38 rfl ?_
      refine lv_iinc (v := x3 + 1) (lv' := [(3, .int (x3 + 1)), (0, .ref (B + 0)), (1, .int x1), (2, .int x2)]) S.1 S.2.1 dX9_wouldCome_39 hl (k := 3) rfl rfl (by decide) rfl (fun ls hl => ?_)
      refine lv_goto (tgt := 29) S.1 S.2.1 dX9_wouldCome_42 (by decide) ?_
      exact ih x1 x2 (x3 + 1) ν12 hf _ _ _ hM hS (lv_sub hl [1, 2, 3, 0] rfl)
set_option maxHeartbeats 4000000 in
set_option maxRecDepth 100000 in
theorem c_X9_wouldCome (l : Launch) (D : va_G) (cy : Nat → ClassId) (B : Nat) (x1 x2 : Int32) (ν : em_MM) (r : Int32) (ν' : em_MM) (hf : f_X9_wouldCome x1 x2 ν = some (r, ν')) :
    Met l yX9_wouldCome wsX9_wouldCome rmX9_wouldCome (ed_pC D cy (em_P D cy B ν) [.ref (B + 0), .int x1, .int x2]) (ed_qI (em_A B) (em_P D cy B ν') r) 0 0 (em_A B) := by
  refine Met.ofW (cc := cX9_wouldCome) (maxL := 4) (ret := (some .int)) (by decide) rfl ?_
  intro p e s m args below meth c s₁ B0 hml hv
  obtain ⟨rfl, hM, hK⟩ := hv
  have S : CallFix p m c cX9_wouldCome 4 s _ ed_ws RX9 := ⟨B0.exec, B0.bytes, hml, findClass_of_methodNamed B0.named, fun w hw => atoms_spec (ws := wsX9_wouldCome) B0.pre w (List.mem_cons_of_mem _ hw)⟩
  have hr := B0.returns
  have hlocks := B0.notSynchronized
  have hS : va_S (em_A B) s.heap s.heap [] := va_S.rf
  have hl := lv_entry ([.ref (B + 0), .int x1, .int x2]) (n := 4) (Nat.le_of_ble_eq_true rfl)
  rw [lg_entry_eq]
  generalize (lg_sl ([.ref (B + 0), .int x1, .int x2]) ++ List.replicate (4 - (lg_sl ([.ref (B + 0), .int x1, .int x2])).length) Slot.unset).toArray = ls at hl ⊢
  have hl : lv_has ls 4 [(0, .ref (B + 0)), (1, .int x1), (2, .int x2)] := hl
  unfold f_X9_wouldCome at hf
  refine lv_aload_n S.1 S.2.1 dX9_wouldCome_0 rfl (lv_at hl 0 rfl) ?_
  refine lv_iload_n S.1 S.2.1 dX9_wouldCome_1 rfl (lv_at hl 1 rfl) ?_
  obtain ⟨r1, hq1, hf⟩ := ed_b_e hf
  refine ed_kI (ed_rV S hK hM (c_X9_isClient _ D cy B x1 ν r1 hq1) (cwV 1 S.2.2.2.2 (ed_gV ed_w4_86 ed_w4_88 ed_wp_22 ed_w1_10 ed_w4_89) rfl rfl rfl hd_X9_isClient ⟨Nat.le_of_ble_eq_true rfl, Nat.le_of_ble_eq_true rfl⟩) (em_rc hK hM) rfl hl.1 rfl (Nat.le_of_ble_eq_true rfl) dX9_wouldCome_2 ⟨Nat.zero_le _, Nat.zero_le _⟩) hS (fun H locs hM hS => ?_)
  refine lv_if_ne (tgt := 10) S.1 S.2.1 dX9_wouldCome_5 (by decide) (fun c2 => ?_) (fun c2 => ?_)
  · replace hf := ed_in_ c2 hf
    refine lv_iload_n S.1 S.2.1 dX9_wouldCome_10 rfl (lv_at hl 2 rfl) ?_
    refine lv_iconst (v := 1) S.1 S.2.1 dX9_wouldCome_11 (by decide) ?_
    refine lv_bipush (v := 100) S.1 S.2.1 dX9_wouldCome_12 (by decide) ?_
    refine ed_kI (ed_rS S hK hM (c_X9_in _ D cy (em_P D cy B ν) (em_A B) x2 1 100) (va_cwS 3 S.2.2.2.2 (ed_gS ed_w4_71 ed_w4_72 ed_w1_10 ed_w4_73) rfl rfl rfl hd_X9_in.2 ⟨Nat.le_of_ble_eq_true rfl, Nat.le_of_ble_eq_true rfl⟩) rfl hl.1 rfl (Nat.le_of_ble_eq_true rfl) dX9_wouldCome_14 ⟨Nat.zero_le _, Nat.zero_le _⟩) hS (fun H locs hM hS => ?_)
    refine lv_if_ne (tgt := 23) S.1 S.2.1 dX9_wouldCome_17 (by decide) (fun c4 => ?_) (fun c4 => ?_)
    · replace hf := ed_in_ c4 hf
      refine lv_aload_n S.1 S.2.1 dX9_wouldCome_23 rfl (lv_at hl 0 rfl) ?_
      obtain ⟨ν5, hq5, hf⟩ := ed_b_e hf
      refine ed_kV (ed_rV S hK hM (c_X9_setAside _ D cy B ν ν5 hq5) (cwV 0 S.2.2.2.2 (ed_gV ed_w5_61 ed_w5_63 ed_wp_50 ed_w1_10 ed_w5_64) rfl rfl rfl hd_X9_setAside ⟨Nat.le_of_ble_eq_true rfl, Nat.le_of_ble_eq_true rfl⟩) (em_rc hK hM) rfl hl.1 rfl (Nat.le_of_ble_eq_true rfl) dX9_wouldCome_24 ⟨Nat.zero_le _, Nat.zero_le _⟩) hS (fun H locs hM hS => ?_)
      refine lv_iconst (v := 0) S.1 S.2.1 dX9_wouldCome_27 (by decide) ?_
      refine lv_istore_n (lv' := [(3, .int 0), (0, .ref (B + 0)), (1, .int x1), (2, .int x2)]) S.1 S.2.1 dX9_wouldCome_28 rfl hl (by decide) rfl (fun ls hl => ?_)
      exact w_X9_wouldCome_29 S hr hlocks hK r ν' ed_N x1 x2 0 ν5 hf _ _ _ hM hS (lv_sub hl [1, 2, 3, 0] rfl)
    · replace hf := ed_ip c4 hf
      refine lv_bipush (v := (-2)) S.1 S.2.1 dX9_wouldCome_20 (by decide) ?_
      obtain ⟨rfl, rfl⟩ := ed_so hf
      exact ed_ri S hr hlocks hM hS dX9_wouldCome_22
  · replace hf := ed_ip c2 hf
    refine lv_iconst (v := (-1)) S.1 S.2.1 dX9_wouldCome_8 (by decide) ?_
    obtain ⟨rfl, rfl⟩ := ed_so hf
    exact ed_ri S hr hlocks hM hS dX9_wouldCome_9
set_option maxHeartbeats 4000000 in
set_option maxRecDepth 100000 in
theorem c_X9_event (l : Launch) (D : va_G) (cy : Nat → ClassId) (B : Nat) (x1 x2 : Int32) (ν : em_MM) (r : Int32) (hf : f_X9_event x1 x2 ν = some r) :
    Met l yX9_event wsX9_event rmX9_event (ed_pC D cy (em_P D cy B ν) [.ref (B + 0), .int x1, .int x2]) (ed_qI (em_A B) (em_P D cy B ν) r) 0 0 (em_A B) := by
  refine Met.ofW (cc := cX9_event) (maxL := 5) (ret := (some .int)) (by decide) rfl ?_
  intro p e s m args below meth c s₁ B0 hml hv
  obtain ⟨rfl, hM, hK⟩ := hv
  have S : CallFix p m c cX9_event 5 s _ ed_ws RX9 := ⟨B0.exec, B0.bytes, hml, findClass_of_methodNamed B0.named, fun w hw => atoms_spec (ws := wsX9_event) B0.pre w (List.mem_cons_of_mem _ hw)⟩
  have hr := B0.returns
  have hlocks := B0.notSynchronized
  have hS : va_S (em_A B) s.heap s.heap [] := va_S.rf
  have hl := lv_entry ([.ref (B + 0), .int x1, .int x2]) (n := 5) (Nat.le_of_ble_eq_true rfl)
  rw [lg_entry_eq]
  generalize (lg_sl ([.ref (B + 0), .int x1, .int x2]) ++ List.replicate (5 - (lg_sl ([.ref (B + 0), .int x1, .int x2])).length) Slot.unset).toArray = ls at hl ⊢
  have hl : lv_has ls 5 [(0, .ref (B + 0)), (1, .int x1), (2, .int x2)] := hl
  unfold f_X9_event at hf
  refine lv_iload_n S.1 S.2.1 dX9_event_0 rfl (lv_at hl 1 rfl) ?_
  refine lv_if_lt (tgt := 13) S.1 S.2.1 dX9_event_1 (by decide) (fun c1 => ?_) (fun c1 => ?_)
  · replace hf := ed_ip c1 hf
    refine lv_bipush (v := (-2)) S.1 S.2.1 dX9_event_13 (by decide) ?_
    obtain rfl := Option.some.inj hf
    exact ed_ri S hr hlocks hM hS dX9_event_15
  · replace hf := ed_in_ c1 hf
    refine lv_iload_n S.1 S.2.1 dX9_event_4 rfl (lv_at hl 2 rfl) ?_
    refine lv_iconst (v := 0) S.1 S.2.1 dX9_event_5 (by decide) ?_
    refine lv_iconst (v := 3) S.1 S.2.1 dX9_event_6 (by decide) ?_
    refine ed_kI (ed_rS S hK hM (c_X9_in _ D cy (em_P D cy B ν) (em_A B) x2 0 3) (va_cwS 3 S.2.2.2.2 (ed_gS ed_w4_71 ed_w4_72 ed_w1_10 ed_w4_73) rfl rfl rfl hd_X9_in.2 ⟨Nat.le_of_ble_eq_true rfl, Nat.le_of_ble_eq_true rfl⟩) rfl hl.1 rfl (Nat.le_of_ble_eq_true rfl) dX9_event_7 ⟨Nat.zero_le _, Nat.zero_le _⟩) hS (fun H locs hM hS => ?_)
    refine lv_if_ne (tgt := 16) S.1 S.2.1 dX9_event_10 (by decide) (fun c3 => ?_) (fun c3 => ?_)
    · replace hf := ed_in_ c3 hf
      refine lv_iload_n S.1 S.2.1 dX9_event_16 rfl (lv_at hl 1 rfl) ?_
      refine lv_aload_n S.1 S.2.1 dX9_event_17 rfl (lv_at hl 0 rfl) ?_
      refine em_get S ed_uX9 hK hM 0 (by decide) ed_w4_33 rfl rfl dX9_event_18 ?_
      refine lv_bipush (v := 6) S.1 S.2.1 dX9_event_21 (by decide) ?_
      obtain ⟨hx4, hf⟩ := ed_g_e hf
      refine em_ild S hK hM 1 (by decide) (em_e1 cy B _) hx4 dX9_event_23 ?_
      refine lv_icmp_lt (tgt := 30) S.1 S.2.1 dX9_event_24 (by decide) (fun c5 => ?_) (fun c5 => ?_)
      · replace hf := ed_ip c5 hf
        refine lv_sipush (v := 1647) S.1 S.2.1 dX9_event_30 (by decide) ?_
        refine lv_iconst (v := 3) S.1 S.2.1 dX9_event_33 (by decide) ?_
        refine lv_iload_n S.1 S.2.1 dX9_event_34 rfl (lv_at hl 1 rfl) ?_
        refine lv_imul S.1 S.2.1 dX9_event_35 ?_
        refine lv_iadd S.1 S.2.1 dX9_event_36 ?_
        refine lv_istore_n (lv' := [(3, .int (1647 + (3 * x1))), (0, .ref (B + 0)), (1, .int x1), (2, .int x2)]) S.1 S.2.1 dX9_event_37 rfl hl (by decide) rfl (fun ls hl => ?_)
        refine lv_aload_n S.1 S.2.1 dX9_event_38 rfl (lv_at hl 1 rfl) ?_
        refine em_get S ed_uX9 hK hM 0 (by decide) ed_w4_33 rfl rfl dX9_event_39 ?_
        refine lv_iload_n S.1 S.2.1 dX9_event_42 rfl (lv_at hl 0 rfl) ?_
        refine lv_iconst (v := 1) S.1 S.2.1 dX9_event_43 (by decide) ?_
        refine lv_iadd S.1 S.2.1 dX9_event_44 ?_
        obtain ⟨hx6, hf⟩ := ed_g_e hf
        refine em_ild S hK hM 1 (by decide) (em_e1 cy B _) hx6 dX9_event_45 ?_
        refine lv_bipush (v := 10) S.1 S.2.1 dX9_event_46 (by decide) ?_
        refine lv_irem S.1 S.2.1 dX9_event_48 (by decide) ?_
        obtain ⟨y7, ey7, hf⟩ := ed_t_e hf
        refine ed_nm ey7 ?_
        refine lv_istore (lv' := [(4, .int y7), (3, .int (1647 + (3 * x1))), (0, .ref (B + 0)), (1, .int x1), (2, .int x2)]) S.1 S.2.1 dX9_event_49 hl (by decide) rfl (fun ls hl => ?_)
        refine lv_iload_n S.1 S.2.1 dX9_event_51 rfl (lv_at hl 4 rfl) ?_
        refine lv_if_ne (tgt := 64) S.1 S.2.1 dX9_event_52 (by decide) (fun c8 => ?_) (fun c8 => ?_)
        · replace hf := ed_in_ c8 hf
          refine lv_iload_n S.1 S.2.1 dX9_event_64 rfl (lv_at hl 4 rfl) ?_
          refine lv_iconst (v := 1) S.1 S.2.1 dX9_event_65 (by decide) ?_
          refine lv_icmp_ne (tgt := 83) S.1 S.2.1 dX9_event_66 (by decide) (fun c9 => ?_) (fun c9 => ?_)
          · replace hf := ed_in_ c9 hf
            refine lv_iload_n S.1 S.2.1 dX9_event_83 rfl (lv_at hl 4 rfl) ?_
            refine lv_iconst (v := 2) S.1 S.2.1 dX9_event_84 (by decide) ?_
            refine lv_icmp_ne (tgt := 105) S.1 S.2.1 dX9_event_85 (by decide) (fun c10 => ?_) (fun c10 => ?_)
            · replace hf := ed_in_ c10 hf
              refine lv_aload_n S.1 S.2.1 dX9_event_105 rfl (lv_at hl 2 rfl) ?_
              refine em_get S ed_uX9 hK hM 0 (by decide) ed_w4_33 rfl rfl dX9_event_106 ?_
              refine lv_iload_n S.1 S.2.1 dX9_event_109 rfl (lv_at hl 1 rfl) ?_
              refine lv_iconst (v := 2) S.1 S.2.1 dX9_event_110 (by decide) ?_
              refine lv_iadd S.1 S.2.1 dX9_event_111 ?_
              obtain ⟨hx11, hf⟩ := ed_g_e hf
              refine em_ild S hK hM 1 (by decide) (em_e1 cy B _) hx11 dX9_event_112 ?_
              obtain rfl := Option.some.inj hf
              exact ed_ri S hr hlocks hM hS dX9_event_113
            · replace hf := ed_ip c10 hf
              refine lv_iload S.1 S.2.1 dX9_event_88 (lv_at hl 0 rfl) ?_
              refine lv_bipush (v := 9) S.1 S.2.1 dX9_event_90 (by decide) ?_
              refine lv_icmp_ne (tgt := 100) S.1 S.2.1 dX9_event_92 (by decide) (fun c12 => ?_) (fun c12 => ?_)
              · replace hf := ed_in_ c12 hf
                refine lv_iload S.1 S.2.1 dX9_event_100 (lv_at hl 0 rfl) ?_
                refine lv_goto (tgt := 113) S.1 S.2.1 dX9_event_102 (by decide) ?_
                obtain rfl := Option.some.inj hf
                exact ed_ri S hr hlocks hM hS dX9_event_113
              · replace hf := ed_ip c12 hf
                refine lv_bipush (v := (-5)) S.1 S.2.1 dX9_event_95 (by decide) ?_
                refine lv_goto (tgt := 113) S.1 S.2.1 dX9_event_97 (by decide) ?_
                obtain rfl := Option.some.inj hf
                exact ed_ri S hr hlocks hM hS dX9_event_113
          · replace hf := ed_ip c9 hf
            refine lv_aload_n S.1 S.2.1 dX9_event_69 rfl (lv_at hl 2 rfl) ?_
            refine em_get S ed_uX9 hK hM 0 (by decide) ed_w4_33 rfl rfl dX9_event_70 ?_
            refine lv_iload_n S.1 S.2.1 dX9_event_73 rfl (lv_at hl 1 rfl) ?_
            refine lv_iconst (v := 1) S.1 S.2.1 dX9_event_74 (by decide) ?_
            refine lv_iadd S.1 S.2.1 dX9_event_75 ?_
            obtain ⟨hx13, hf⟩ := ed_g_e hf
            refine em_ild S hK hM 1 (by decide) (em_e1 cy B _) hx13 dX9_event_76 ?_
            refine lv_bipush (v := 10) S.1 S.2.1 dX9_event_77 (by decide) ?_
            refine lv_idiv S.1 S.2.1 dX9_event_79 (by decide) ?_
            refine lv_goto (tgt := 113) S.1 S.2.1 dX9_event_80 (by decide) ?_
            obtain rfl := Option.some.inj hf
            exact ed_ri S hr hlocks hM hS dX9_event_113
        · replace hf := ed_ip c8 hf
          refine lv_aload_n S.1 S.2.1 dX9_event_55 rfl (lv_at hl 2 rfl) ?_
          refine em_get S ed_uX9 hK hM 0 (by decide) ed_w4_33 rfl rfl dX9_event_56 ?_
          refine lv_iload_n S.1 S.2.1 dX9_event_59 rfl (lv_at hl 1 rfl) ?_
          obtain ⟨hx14, hf⟩ := ed_g_e hf
          refine em_ild S hK hM 1 (by decide) (em_e1 cy B _) hx14 dX9_event_60 ?_
          refine lv_goto (tgt := 113) S.1 S.2.1 dX9_event_61 (by decide) ?_
          obtain rfl := Option.some.inj hf
          exact ed_ri S hr hlocks hM hS dX9_event_113
      · replace hf := ed_in_ c5 hf
        refine lv_bipush (v := (-5)) S.1 S.2.1 dX9_event_27 (by decide) ?_
        obtain rfl := Option.some.inj hf
        exact ed_ri S hr hlocks hM hS dX9_event_29
    · replace hf := ed_ip c3 hf
      refine lv_bipush (v := (-2)) S.1 S.2.1 dX9_event_13 (by decide) ?_
      obtain rfl := Option.some.inj hf
      exact ed_ri S hr hlocks hM hS dX9_event_15
set_option maxHeartbeats 4000000 in
set_option maxRecDepth 100000 in
theorem w_X9_personsOfAll_15 {p : Program} {l : Launch} {e : Env} {s : State} {m : MethodId} {args : Array Value} {below : List Frame} {meth : Method} {c : Code} {D : va_G} {cy : Nat → ClassId} {B : Nat} (S : CallFix p m c cX9_personsOfAll 5 s args ed_ws RX9) (hr : meth.sig.returnType = (some .int)) (hlocks : meth.locks = false) (hK : ed_K D cy s) (ν : em_MM) (r : Int32) (k4 : Int32 → Int32 → Option Int32) (hk4 : ∀ (x1 x2 : Int32), k4 x1 x2 = some r → ∀ (H : Heap) (locs : List Loc) (ls : Array Slot), em_P D cy B ν H → va_S (em_A B) s.heap H locs → lv_has ls 5 [(0, .ref (B + 0)), (1, .int x1), (2, .int x2)] → W p l e (headSpec wsX9_personsOfAll rmX9_personsOfAll).room s m args below meth c H locs 0 0 (MQ below (ed_qI (em_A B) (em_P D cy B ν) r) args s 0 0 (em_A B)) (F0 m 4 ls [])) :
    ∀ (n : Nat), ∀ (x1 x2 x3 x4 : Int32), f_X9_personsOfAll_15 k4 ν n x1 x2 x3 x4 = some r → ∀ (H : Heap) (locs : List Loc) (ls : Array Slot), em_P D cy B ν H → va_S (em_A B) s.heap H locs → lv_has ls 5 [(0, .ref (B + 0)), (1, .int x1), (2, .int x2), (3, .int x3), (4, .int x4)] → W p l e (headSpec wsX9_personsOfAll rmX9_personsOfAll).room s m args below meth c H locs 0 0 (MQ below (ed_qI (em_A B) (em_P D cy B ν) r) args s 0 0 (em_A B)) (F0 m 15 ls []) := by
  intro n
  induction n with
  | zero => intro x1 x2 x3 x4 hf; rw [f_X9_personsOfAll_15] at hf; cases hf
  | succ n ih =>
    intro x1 x2 x3 x4 hf H locs ls hM hS hl
    rw [f_X9_personsOfAll_15] at hf
    refine lv_iload S.1 S.2.1 dX9_personsOfAll_15 (lv_at hl 4 rfl) ?_
    refine lv_aload_n S.1 S.2.1 dX9_personsOfAll_17 rfl (lv_at hl 0 rfl) ?_
    refine em_get S ed_uX9 hK hM 0 (by decide) ed_w4_33 rfl rfl dX9_personsOfAll_18 ?_
    refine lv_iconst (v := 2) S.1 S.2.1 dX9_personsOfAll_21 (by decide) ?_
    obtain ⟨hx2, hf⟩ := ed_g_e hf
    refine em_ild S hK hM 1 (by decide) (em_e1 cy B _) hx2 dX9_personsOfAll_22 ?_
    refine lv_icmp_ge (tgt := 52) S.1 S.2.1 dX9_personsOfAll_23 (by decide) (fun c3 => ?_) (fun c3 => ?_)
    · replace hf := ed_ip c3 hf
      refine lv_iload_n S.1 S.2.1 dX9_personsOfAll_52 rfl (lv_at hl 1 rfl) ?_
      refine lv_iload_n S.1 S.2.1 dX9_personsOfAll_53 rfl (lv_at hl 3 rfl) ?_
      refine lv_if_eq (tgt := 61) S.1 S.2.1 dX9_personsOfAll_54 (by decide) (fun c4 => ?_) (fun c4 => ?_)
      · replace hf := ed_ip c4 hf
        refine lv_iconst (v := 0) S.1 S.2.1 dX9_personsOfAll_61 (by decide) ?_
        refine lv_iadd S.1 S.2.1 dX9_personsOfAll_62 ?_
        refine lv_istore_n (lv' := [(1, .int (x1 + 0)), (0, .ref (B + 0)), (2, .int x2), (3, .int x3), (4, .int x4)]) S.1 S.2.1 dX9_personsOfAll_63 rfl hl (by decide) rfl (fun ls hl => ?_)
        refine lv_iinc (v := x2 + 1) (lv' := [(2, .int (x2 + 1)), (1, .int (x1 + 0)), (0, .ref (B + 0)), (3, .int x3), (4, .int x4)]) S.1 S.2.1 dX9_personsOfAll_64 hl (k := 2) rfl rfl (by decide) rfl (fun ls hl => ?_)
        refine lv_goto (tgt := 4) S.1 S.2.1 dX9_personsOfAll_67 (by decide) ?_
        exact hk4 (x1 + 0) (x2 + 1) hf _ _ _ hM hS (lv_sub hl [2, 1, 0] rfl)
      · replace hf := ed_in_ c4 hf
        refine lv_iconst (v := 1) S.1 S.2.1 dX9_personsOfAll_57 (by decide) ?_
        refine lv_goto (tgt := 62) S.1 S.2.1 dX9_personsOfAll_58 (by decide) ?_
        refine lv_iadd S.1 S.2.1 dX9_personsOfAll_62 ?_
        refine lv_istore_n (lv' := [(1, .int (x1 + 1)), (0, .ref (B + 0)), (2, .int x2), (3, .int x3), (4, .int x4)]) S.1 S.2.1 dX9_personsOfAll_63 rfl hl (by decide) rfl (fun ls hl => ?_)
        refine lv_iinc (v := x2 + 1) (lv' := [(2, .int (x2 + 1)), (1, .int (x1 + 1)), (0, .ref (B + 0)), (3, .int x3), (4, .int x4)]) S.1 S.2.1 dX9_personsOfAll_64 hl (k := 2) rfl rfl (by decide) rfl (fun ls hl => ?_)
        refine lv_goto (tgt := 4) S.1 S.2.1 dX9_personsOfAll_67 (by decide) ?_
        exact hk4 (x1 + 1) (x2 + 1) hf _ _ _ hM hS (lv_sub hl [2, 1, 0] rfl)
    · replace hf := ed_in_ c3 hf
      refine lv_iload_n S.1 S.2.1 dX9_personsOfAll_26 rfl (lv_at hl 3 rfl) ?_
      refine lv_if_ne (tgt := 40) S.1 S.2.1 dX9_personsOfAll_27 (by decide) (fun c5 => ?_) (fun c5 => ?_)
      · replace hf := ed_in_ c5 hf
        refine lv_iconst (v := 1) S.1 S.2.1 dX9_personsOfAll_40 (by decide) ?_
        refine lv_goto (tgt := 45) S.1 S.2.1 dX9_personsOfAll_41 (by decide) ?_
        refine lv_istore_n (lv' := [(3, .int 1), (0, .ref (B + 0)), (1, .int x1), (2, .int x2), (4, .int x4)]) S.1 S.2.1 dX9_personsOfAll_45 rfl hl (by decide) rfl (fun ls hl => ?_)
        refine lv_iinc (v := x4 + 1) (lv' := [(4, .int (x4 + 1)), (3, .int 1), (0, .ref (B + 0)), (1, .int x1), (2, .int x2)]) S.1 S.2.1 dX9_personsOfAll_46 hl (k := 4) rfl rfl (by decide) rfl (fun ls hl => ?_)
        refine lv_goto (tgt := 15) S.1 S.2.1 dX9_personsOfAll_49 (by decide) ?_
        exact ih x1 x2 1 (x4 + 1) hf _ _ _ hM hS (lv_sub hl [2, 3, 4, 1, 0] rfl)
      · replace hf := ed_ip c5 hf
        refine lv_aload_n S.1 S.2.1 dX9_personsOfAll_30 rfl (lv_at hl 0 rfl) ?_
        refine lv_iload_n S.1 S.2.1 dX9_personsOfAll_31 rfl (lv_at hl 2 rfl) ?_
        refine lv_iload S.1 S.2.1 dX9_personsOfAll_32 (lv_at hl 4 rfl) ?_
        obtain ⟨r6, hq6, hf⟩ := ed_b_e hf
        refine ed_kI (ed_rV S hK hM (c_X9_wrote _ D cy B x2 x4 ν r6 hq6) (cwV 2 S.2.2.2.2 (ed_gV ed_w5_37 ed_w5_39 ed_wp_47 ed_w1_10 ed_w5_40) rfl rfl rfl hd_X9_wrote ⟨Nat.le_of_ble_eq_true rfl, Nat.le_of_ble_eq_true rfl⟩) (em_rc hK hM) rfl hl.1 rfl (Nat.le_of_ble_eq_true rfl) dX9_personsOfAll_34 ⟨Nat.zero_le _, Nat.zero_le _⟩) hS (fun H locs hM hS => ?_)
        refine lv_if_eq (tgt := 44) S.1 S.2.1 dX9_personsOfAll_37 (by decide) (fun c7 => ?_) (fun c7 => ?_)
        · replace hf := ed_ip c7 hf
          refine lv_iconst (v := 0) S.1 S.2.1 dX9_personsOfAll_44 (by decide) ?_
          refine lv_istore_n (lv' := [(3, .int 0), (0, .ref (B + 0)), (1, .int x1), (2, .int x2), (4, .int x4)]) S.1 S.2.1 dX9_personsOfAll_45 rfl hl (by decide) rfl (fun ls hl => ?_)
          refine lv_iinc (v := x4 + 1) (lv' := [(4, .int (x4 + 1)), (3, .int 0), (0, .ref (B + 0)), (1, .int x1), (2, .int x2)]) S.1 S.2.1 dX9_personsOfAll_46 hl (k := 4) rfl rfl (by decide) rfl (fun ls hl => ?_)
          refine lv_goto (tgt := 15) S.1 S.2.1 dX9_personsOfAll_49 (by decide) ?_
          exact ih x1 x2 0 (x4 + 1) hf _ _ _ hM hS (lv_sub hl [2, 3, 4, 1, 0] rfl)
        · replace hf := ed_in_ c7 hf
          refine lv_iconst (v := 1) S.1 S.2.1 dX9_personsOfAll_40 (by decide) ?_
          refine lv_goto (tgt := 45) S.1 S.2.1 dX9_personsOfAll_41 (by decide) ?_
          refine lv_istore_n (lv' := [(3, .int 1), (0, .ref (B + 0)), (1, .int x1), (2, .int x2), (4, .int x4)]) S.1 S.2.1 dX9_personsOfAll_45 rfl hl (by decide) rfl (fun ls hl => ?_)
          refine lv_iinc (v := x4 + 1) (lv' := [(4, .int (x4 + 1)), (3, .int 1), (0, .ref (B + 0)), (1, .int x1), (2, .int x2)]) S.1 S.2.1 dX9_personsOfAll_46 hl (k := 4) rfl rfl (by decide) rfl (fun ls hl => ?_)
          refine lv_goto (tgt := 15) S.1 S.2.1 dX9_personsOfAll_49 (by decide) ?_
          exact ih x1 x2 1 (x4 + 1) hf _ _ _ hM hS (lv_sub hl [2, 3, 4, 1, 0] rfl)
set_option maxHeartbeats 4000000 in
set_option maxRecDepth 100000 in
theorem w_X9_personsOfAll_4 {p : Program} {l : Launch} {e : Env} {s : State} {m : MethodId} {args : Array Value} {below : List Frame} {meth : Method} {c : Code} {D : va_G} {cy : Nat → ClassId} {B : Nat} (S : CallFix p m c cX9_personsOfAll 5 s args ed_ws RX9) (hr : meth.sig.returnType = (some .int)) (hlocks : meth.locks = false) (hK : ed_K D cy s) (ν : em_MM) (r : Int32) :
    ∀ (n : Nat), ∀ (x1 x2 : Int32), f_X9_personsOfAll_4 ν n x1 x2 = some r → ∀ (H : Heap) (locs : List Loc) (ls : Array Slot), em_P D cy B ν H → va_S (em_A B) s.heap H locs → lv_has ls 5 [(0, .ref (B + 0)), (1, .int x1), (2, .int x2)] → W p l e (headSpec wsX9_personsOfAll rmX9_personsOfAll).room s m args below meth c H locs 0 0 (MQ below (ed_qI (em_A B) (em_P D cy B ν) r) args s 0 0 (em_A B)) (F0 m 4 ls []) := by
  intro n
  induction n with
  | zero => intro x1 x2 hf; rw [f_X9_personsOfAll_4] at hf; cases hf
  | succ n ih =>
    intro x1 x2 hf H locs ls hM hS hl
    rw [f_X9_personsOfAll_4] at hf
    refine lv_iload_n S.1 S.2.1 dX9_personsOfAll_4 rfl (lv_at hl 2 rfl) ?_
    refine lv_bipush (v := 10) S.1 S.2.1 dX9_personsOfAll_5 (by decide) ?_
    refine lv_icmp_ge (tgt := 70) S.1 S.2.1 dX9_personsOfAll_7 (by decide) (fun c1 => ?_) (fun c1 => ?_)
    · replace hf := ed_ip c1 hf
      refine lv_iload_n S.1 S.2.1 dX9_personsOfAll_70 rfl (lv_at hl 1 rfl) ?_
      obtain rfl := Option.some.inj hf
      exact ed_ri S hr hlocks hM hS dX9_personsOfAll_71
    · replace hf := ed_in_ c1 hf
      refine lv_iconst (v := 0) S.1 S.2.1 dX9_personsOfAll_10 (by decide) ?_
      refine lv_istore_n (lv' := [(3, .int 0), (0, .ref (B + 0)), (1, .int x1), (2, .int x2)]) S.1 S.2.1 dX9_personsOfAll_11 rfl hl (by decide) rfl (fun ls hl => ?_)
      refine lv_iconst (v := 0) S.1 S.2.1 dX9_personsOfAll_12 (by decide) ?_
      refine lv_istore (lv' := [(4, .int 0), (3, .int 0), (0, .ref (B + 0)), (1, .int x1), (2, .int x2)]) S.1 S.2.1 dX9_personsOfAll_13 hl (by decide) rfl (fun ls hl => ?_)
      exact w_X9_personsOfAll_15 S hr hlocks hK ν r (fun a0 a1 => f_X9_personsOfAll_4 ν n a0 a1) ih ed_N x1 x2 0 0 hf _ _ _ hM hS (lv_sub hl [2, 3, 4, 1, 0] rfl)
set_option maxHeartbeats 4000000 in
set_option maxRecDepth 100000 in
theorem c_X9_personsOfAll (l : Launch) (D : va_G) (cy : Nat → ClassId) (B : Nat) (ν : em_MM) (r : Int32) (hf : f_X9_personsOfAll ν = some r) :
    Met l yX9_personsOfAll wsX9_personsOfAll rmX9_personsOfAll (ed_pC D cy (em_P D cy B ν) [.ref (B + 0)]) (ed_qI (em_A B) (em_P D cy B ν) r) 0 0 (em_A B) := by
  refine Met.ofW (cc := cX9_personsOfAll) (maxL := 5) (ret := (some .int)) (by decide) rfl ?_
  intro p e s m args below meth c s₁ B0 hml hv
  obtain ⟨rfl, hM, hK⟩ := hv
  have S : CallFix p m c cX9_personsOfAll 5 s _ ed_ws RX9 := ⟨B0.exec, B0.bytes, hml, findClass_of_methodNamed B0.named, fun w hw => atoms_spec (ws := wsX9_personsOfAll) B0.pre w (List.mem_cons_of_mem _ hw)⟩
  have hr := B0.returns
  have hlocks := B0.notSynchronized
  have hS : va_S (em_A B) s.heap s.heap [] := va_S.rf
  have hl := lv_entry ([.ref (B + 0)]) (n := 5) (Nat.le_of_ble_eq_true rfl)
  rw [lg_entry_eq]
  generalize (lg_sl ([.ref (B + 0)]) ++ List.replicate (5 - (lg_sl ([.ref (B + 0)])).length) Slot.unset).toArray = ls at hl ⊢
  have hl : lv_has ls 5 [(0, .ref (B + 0))] := hl
  unfold f_X9_personsOfAll at hf
  refine lv_iconst (v := 0) S.1 S.2.1 dX9_personsOfAll_0 (by decide) ?_
  refine lv_istore_n (lv' := [(1, .int 0), (0, .ref (B + 0))]) S.1 S.2.1 dX9_personsOfAll_1 rfl hl (by decide) rfl (fun ls hl => ?_)
  refine lv_iconst (v := 0) S.1 S.2.1 dX9_personsOfAll_2 (by decide) ?_
  refine lv_istore_n (lv' := [(2, .int 0), (1, .int 0), (0, .ref (B + 0))]) S.1 S.2.1 dX9_personsOfAll_3 rfl hl (by decide) rfl (fun ls hl => ?_)
  exact w_X9_personsOfAll_4 S hr hlocks hK ν r ed_N 0 0 hf _ _ _ hM hS (lv_sub hl [2, 1, 0] rfl)
set_option maxHeartbeats 4000000 in
set_option maxRecDepth 100000 in
theorem w_X9_count_7 {p : Program} {l : Launch} {e : Env} {s : State} {m : MethodId} {args : Array Value} {below : List Frame} {meth : Method} {c : Code} {D : va_G} {cy : Nat → ClassId} {B : Nat} (S : CallFix p m c cX9_count 5 s args ed_ws RX9) (hr : meth.sig.returnType = (some .int)) (hlocks : meth.locks = false) (hK : ed_K D cy s) (ν : em_MM) (r : Int32) :
    ∀ (n : Nat), ∀ (x1 x2 x3 x4 : Int32), f_X9_count_7 ν n x1 x2 x3 x4 = some r → ∀ (H : Heap) (locs : List Loc) (ls : Array Slot), em_P D cy B ν H → va_S (em_A B) s.heap H locs → lv_has ls 5 [(0, .ref (B + 0)), (1, .int x1), (2, .int x2), (3, .int x3), (4, .int x4)] → W p l e (headSpec wsX9_count rmX9_count).room s m args below meth c H locs 0 0 (MQ below (ed_qI (em_A B) (em_P D cy B ν) r) args s 0 0 (em_A B)) (F0 m 7 ls []) := by
  intro n
  induction n with
  | zero => intro x1 x2 x3 x4 hf; rw [f_X9_count_7] at hf; cases hf
  | succ n ih =>
    intro x1 x2 x3 x4 hf H locs ls hM hS hl
    rw [f_X9_count_7] at hf
    refine lv_iload S.1 S.2.1 dX9_count_7 (lv_at hl 4 rfl) ?_
    refine lv_aload_n S.1 S.2.1 dX9_count_9 rfl (lv_at hl 0 rfl) ?_
    refine em_get S ed_uX9 hK hM 0 (by decide) ed_w4_33 rfl rfl dX9_count_10 ?_
    refine lv_iconst (v := 3) S.1 S.2.1 dX9_count_13 (by decide) ?_
    obtain ⟨hx1, hf⟩ := ed_g_e hf
    refine em_ild S hK hM 1 (by decide) (em_e1 cy B _) hx1 dX9_count_14 ?_
    refine lv_icmp_ge (tgt := 62) S.1 S.2.1 dX9_count_15 (by decide) (fun c2 => ?_) (fun c2 => ?_)
    · replace hf := ed_ip c2 hf
      refine lv_iload_n S.1 S.2.1 dX9_count_62 rfl (lv_at hl 1 rfl) ?_
      by_cases c3 : x1 = 0
      · replace hf := ed_ip c3 hf
        refine lv_tableIn (tgt := 136) S.1 S.2.1 dX9_count_63 (by rw [c3]; decide) (by rw [c3]; decide) (off := 73) (by rw [c3]; decide) (by decide) ?_
        refine lv_aload_n S.1 S.2.1 dX9_count_136 rfl (lv_at hl 0 rfl) ?_
        refine em_get S ed_uX9 hK hM 0 (by decide) ed_w4_33 rfl rfl dX9_count_137 ?_
        refine lv_iload_n S.1 S.2.1 dX9_count_140 rfl (lv_at hl 1 rfl) ?_
        obtain ⟨hx18, hf⟩ := ed_g_e hf
        refine em_ild S hK hM 1 (by decide) (em_e1 cy B _) hx18 dX9_count_141 ?_
        obtain rfl := Option.some.inj hf
        exact ed_ri S hr hlocks hM hS dX9_count_142
      replace hf := ed_in_ c3 hf
      by_cases c4 : x1 = 1
      · replace hf := ed_ip c4 hf
        refine lv_tableIn (tgt := 136) S.1 S.2.1 dX9_count_63 (by rw [c4]; decide) (by rw [c4]; decide) (off := 73) (by rw [c4]; decide) (by decide) ?_
        refine lv_aload_n S.1 S.2.1 dX9_count_136 rfl (lv_at hl 0 rfl) ?_
        refine em_get S ed_uX9 hK hM 0 (by decide) ed_w4_33 rfl rfl dX9_count_137 ?_
        refine lv_iload_n S.1 S.2.1 dX9_count_140 rfl (lv_at hl 1 rfl) ?_
        obtain ⟨hx19, hf⟩ := ed_g_e hf
        refine em_ild S hK hM 1 (by decide) (em_e1 cy B _) hx19 dX9_count_141 ?_
        obtain rfl := Option.some.inj hf
        exact ed_ri S hr hlocks hM hS dX9_count_142
      replace hf := ed_in_ c4 hf
      by_cases c5 : x1 = 2
      · replace hf := ed_ip c5 hf
        refine lv_tableIn (tgt := 136) S.1 S.2.1 dX9_count_63 (by rw [c5]; decide) (by rw [c5]; decide) (off := 73) (by rw [c5]; decide) (by decide) ?_
        refine lv_aload_n S.1 S.2.1 dX9_count_136 rfl (lv_at hl 0 rfl) ?_
        refine em_get S ed_uX9 hK hM 0 (by decide) ed_w4_33 rfl rfl dX9_count_137 ?_
        refine lv_iload_n S.1 S.2.1 dX9_count_140 rfl (lv_at hl 1 rfl) ?_
        obtain ⟨hx20, hf⟩ := ed_g_e hf
        refine em_ild S hK hM 1 (by decide) (em_e1 cy B _) hx20 dX9_count_141 ?_
        obtain rfl := Option.some.inj hf
        exact ed_ri S hr hlocks hM hS dX9_count_142
      replace hf := ed_in_ c5 hf
      by_cases c6 : x1 = 3
      · replace hf := ed_ip c6 hf
        refine lv_tableIn (tgt := 136) S.1 S.2.1 dX9_count_63 (by rw [c6]; decide) (by rw [c6]; decide) (off := 73) (by rw [c6]; decide) (by decide) ?_
        refine lv_aload_n S.1 S.2.1 dX9_count_136 rfl (lv_at hl 0 rfl) ?_
        refine em_get S ed_uX9 hK hM 0 (by decide) ed_w4_33 rfl rfl dX9_count_137 ?_
        refine lv_iload_n S.1 S.2.1 dX9_count_140 rfl (lv_at hl 1 rfl) ?_
        obtain ⟨hx21, hf⟩ := ed_g_e hf
        refine em_ild S hK hM 1 (by decide) (em_e1 cy B _) hx21 dX9_count_141 ?_
        obtain rfl := Option.some.inj hf
        exact ed_ri S hr hlocks hM hS dX9_count_142
      replace hf := ed_in_ c6 hf
      by_cases c7 : x1 = 4
      · replace hf := ed_ip c7 hf
        refine lv_tableIn (tgt := 143) S.1 S.2.1 dX9_count_63 (by rw [c7]; decide) (by rw [c7]; decide) (off := 80) (by rw [c7]; decide) (by decide) ?_
        refine lv_iload_n S.1 S.2.1 dX9_count_143 rfl (lv_at hl 2 rfl) ?_
        obtain rfl := Option.some.inj hf
        exact ed_ri S hr hlocks hM hS dX9_count_144
      replace hf := ed_in_ c7 hf
      by_cases c8 : x1 = 5
      · replace hf := ed_ip c8 hf
        refine lv_tableIn (tgt := 143) S.1 S.2.1 dX9_count_63 (by rw [c8]; decide) (by rw [c8]; decide) (off := 80) (by rw [c8]; decide) (by decide) ?_
        refine lv_iload_n S.1 S.2.1 dX9_count_143 rfl (lv_at hl 2 rfl) ?_
        obtain rfl := Option.some.inj hf
        exact ed_ri S hr hlocks hM hS dX9_count_144
      replace hf := ed_in_ c8 hf
      by_cases c9 : x1 = 6
      · replace hf := ed_ip c9 hf
        refine lv_tableIn (tgt := 143) S.1 S.2.1 dX9_count_63 (by rw [c9]; decide) (by rw [c9]; decide) (off := 80) (by rw [c9]; decide) (by decide) ?_
        refine lv_iload_n S.1 S.2.1 dX9_count_143 rfl (lv_at hl 2 rfl) ?_
        obtain rfl := Option.some.inj hf
        exact ed_ri S hr hlocks hM hS dX9_count_144
      replace hf := ed_in_ c9 hf
      by_cases c10 : x1 = 7
      · replace hf := ed_ip c10 hf
        refine lv_tableIn (tgt := 143) S.1 S.2.1 dX9_count_63 (by rw [c10]; decide) (by rw [c10]; decide) (off := 80) (by rw [c10]; decide) (by decide) ?_
        refine lv_iload_n S.1 S.2.1 dX9_count_143 rfl (lv_at hl 2 rfl) ?_
        obtain rfl := Option.some.inj hf
        exact ed_ri S hr hlocks hM hS dX9_count_144
      replace hf := ed_in_ c10 hf
      by_cases c11 : x1 = 8
      · replace hf := ed_ip c11 hf
        refine lv_tableIn (tgt := 143) S.1 S.2.1 dX9_count_63 (by rw [c11]; decide) (by rw [c11]; decide) (off := 80) (by rw [c11]; decide) (by decide) ?_
        refine lv_iload_n S.1 S.2.1 dX9_count_143 rfl (lv_at hl 2 rfl) ?_
        obtain rfl := Option.some.inj hf
        exact ed_ri S hr hlocks hM hS dX9_count_144
      replace hf := ed_in_ c11 hf
      by_cases c12 : x1 = 9
      · replace hf := ed_ip c12 hf
        refine lv_tableIn (tgt := 145) S.1 S.2.1 dX9_count_63 (by rw [c12]; decide) (by rw [c12]; decide) (off := 82) (by rw [c12]; decide) (by decide) ?_
        refine lv_iload_n S.1 S.2.1 dX9_count_145 rfl (lv_at hl 3 rfl) ?_
        obtain rfl := Option.some.inj hf
        exact ed_ri S hr hlocks hM hS dX9_count_146
      replace hf := ed_in_ c12 hf
      by_cases c13 : x1 = 10
      · replace hf := ed_ip c13 hf
        refine lv_tableIn (tgt := 147) S.1 S.2.1 dX9_count_63 (by rw [c13]; decide) (by rw [c13]; decide) (off := 84) (by rw [c13]; decide) (by decide) ?_
        refine lv_aload_n S.1 S.2.1 dX9_count_147 rfl (lv_at hl 0 rfl) ?_
        refine em_get S ed_uX9 hK hM 0 (by decide) ed_w4_33 rfl rfl dX9_count_148 ?_
        refine lv_iconst (v := 5) S.1 S.2.1 dX9_count_151 (by decide) ?_
        obtain ⟨hx22, hf⟩ := ed_g_e hf
        refine em_ild S hK hM 1 (by decide) (em_e1 cy B _) hx22 dX9_count_152 ?_
        obtain rfl := Option.some.inj hf
        exact ed_ri S hr hlocks hM hS dX9_count_153
      replace hf := ed_in_ c13 hf
      by_cases c14 : x1 = 11
      · replace hf := ed_ip c14 hf
        refine lv_tableIn (tgt := 154) S.1 S.2.1 dX9_count_63 (by rw [c14]; decide) (by rw [c14]; decide) (off := 91) (by rw [c14]; decide) (by decide) ?_
        refine lv_aload_n S.1 S.2.1 dX9_count_154 rfl (lv_at hl 0 rfl) ?_
        obtain ⟨r23, hq23, hf⟩ := ed_b_e hf
        refine ed_kI (ed_rV S hK hM (c_X9_personsOfAll _ D cy B ν r23 hq23) (cwV 0 S.2.2.2.2 (ed_gV ed_w5_81 ed_w5_83 ed_wp_52 ed_w1_10 ed_w5_84) rfl rfl rfl hd_X9_personsOfAll ⟨Nat.le_of_ble_eq_true rfl, Nat.le_of_ble_eq_true rfl⟩) (em_rc hK hM) rfl hl.1 rfl (Nat.le_of_ble_eq_true rfl) dX9_count_155 ⟨Nat.zero_le _, Nat.zero_le _⟩) hS (fun H locs hM hS => ?_)
        obtain rfl := Option.some.inj hf
        exact ed_ri S hr hlocks hM hS dX9_count_158
      replace hf := ed_in_ c14 hf
      by_cases c15 : x1 = 12
      · replace hf := ed_ip c15 hf
        refine lv_tableIn (tgt := 159) S.1 S.2.1 dX9_count_63 (by rw [c15]; decide) (by rw [c15]; decide) (off := 96) (by rw [c15]; decide) (by decide) ?_
        refine lv_aload_n S.1 S.2.1 dX9_count_159 rfl (lv_at hl 0 rfl) ?_
        refine em_get S ed_uX9 hK hM 0 (by decide) ed_w4_33 rfl rfl dX9_count_160 ?_
        refine lv_iconst (v := 4) S.1 S.2.1 dX9_count_163 (by decide) ?_
        obtain ⟨hx24, hf⟩ := ed_g_e hf
        refine em_ild S hK hM 1 (by decide) (em_e1 cy B _) hx24 dX9_count_164 ?_
        obtain rfl := Option.some.inj hf
        exact ed_ri S hr hlocks hM hS dX9_count_165
      replace hf := ed_in_ c15 hf
      by_cases c16 : x1 = 13
      · replace hf := ed_ip c16 hf
        refine lv_tableIn (tgt := 166) S.1 S.2.1 dX9_count_63 (by rw [c16]; decide) (by rw [c16]; decide) (off := 103) (by rw [c16]; decide) (by decide) ?_
        refine lv_aload_n S.1 S.2.1 dX9_count_166 rfl (lv_at hl 0 rfl) ?_
        refine em_get S ed_uX9 hK hM 3 (by decide) ed_w4_36 rfl rfl dX9_count_167 ?_
        obtain rfl := Option.some.inj hf
        exact ed_ri S hr hlocks hM hS dX9_count_170
      replace hf := ed_in_ c16 hf
      by_cases c17 : x1 = 14
      · replace hf := ed_ip c17 hf
        refine lv_tableIn (tgt := 171) S.1 S.2.1 dX9_count_63 (by rw [c17]; decide) (by rw [c17]; decide) (off := 108) (by rw [c17]; decide) (by decide) ?_
        refine lv_aload_n S.1 S.2.1 dX9_count_171 rfl (lv_at hl 0 rfl) ?_
        refine em_get S ed_uX9 hK hM 7 (by decide) ed_w4_40 rfl rfl dX9_count_172 ?_
        obtain rfl := Option.some.inj hf
        exact ed_ri S hr hlocks hM hS dX9_count_175
      replace hf := ed_in_ c17 hf
      have tc3 : x1.toInt ≠ 0 := fun q => c3 (Int32.toInt_inj.mp (by rw [q]; decide))
      have tc4 : x1.toInt ≠ 1 := fun q => c4 (Int32.toInt_inj.mp (by rw [q]; decide))
      have tc5 : x1.toInt ≠ 2 := fun q => c5 (Int32.toInt_inj.mp (by rw [q]; decide))
      have tc6 : x1.toInt ≠ 3 := fun q => c6 (Int32.toInt_inj.mp (by rw [q]; decide))
      have tc7 : x1.toInt ≠ 4 := fun q => c7 (Int32.toInt_inj.mp (by rw [q]; decide))
      have tc8 : x1.toInt ≠ 5 := fun q => c8 (Int32.toInt_inj.mp (by rw [q]; decide))
      have tc9 : x1.toInt ≠ 6 := fun q => c9 (Int32.toInt_inj.mp (by rw [q]; decide))
      have tc10 : x1.toInt ≠ 7 := fun q => c10 (Int32.toInt_inj.mp (by rw [q]; decide))
      have tc11 : x1.toInt ≠ 8 := fun q => c11 (Int32.toInt_inj.mp (by rw [q]; decide))
      have tc12 : x1.toInt ≠ 9 := fun q => c12 (Int32.toInt_inj.mp (by rw [q]; decide))
      have tc13 : x1.toInt ≠ 10 := fun q => c13 (Int32.toInt_inj.mp (by rw [q]; decide))
      have tc14 : x1.toInt ≠ 11 := fun q => c14 (Int32.toInt_inj.mp (by rw [q]; decide))
      have tc15 : x1.toInt ≠ 12 := fun q => c15 (Int32.toInt_inj.mp (by rw [q]; decide))
      have tc16 : x1.toInt ≠ 13 := fun q => c16 (Int32.toInt_inj.mp (by rw [q]; decide))
      have tc17 : x1.toInt ≠ 14 := fun q => c17 (Int32.toInt_inj.mp (by rw [q]; decide))
      refine lv_tableOut (tgt := 176) S.1 S.2.1 dX9_count_63 (by omega) (by decide) ?_
      refine lv_bipush (v := (-2)) S.1 S.2.1 dX9_count_176 (by decide) ?_
      obtain rfl := Option.some.inj hf
      exact ed_ri S hr hlocks hM hS dX9_count_178
    · replace hf := ed_in_ c2 hf
      refine lv_iload_n S.1 S.2.1 dX9_count_18 rfl (lv_at hl 2 rfl) ?_
      refine lv_aload_n S.1 S.2.1 dX9_count_19 rfl (lv_at hl 0 rfl) ?_
      refine lv_iload S.1 S.2.1 dX9_count_20 (lv_at hl 4 rfl) ?_
      refine lv_iconst (v := 2) S.1 S.2.1 dX9_count_22 (by decide) ?_
      obtain ⟨r25, hq25, hf⟩ := ed_b_e hf
      refine ed_kI (ed_rV S hK hM (c_X9_ofCopy _ D cy B x4 2 ν r25 hq25) (cwV 2 S.2.2.2.2 (ed_gV ed_w4_98 ed_w4_100 ed_wp_24 ed_w1_10 ed_w4_101) rfl rfl rfl hd_X9_ofCopy ⟨Nat.le_of_ble_eq_true rfl, Nat.le_of_ble_eq_true rfl⟩) (em_rc hK hM) rfl hl.1 rfl (Nat.le_of_ble_eq_true rfl) dX9_count_23 ⟨Nat.zero_le _, Nat.zero_le _⟩) hS (fun H locs hM hS => ?_)
      refine lv_iload_n S.1 S.2.1 dX9_count_26 rfl (lv_at hl 1 rfl) ?_
      refine lv_iconst (v := 4) S.1 S.2.1 dX9_count_27 (by decide) ?_
      refine lv_isub S.1 S.2.1 dX9_count_28 ?_
      refine lv_icmp_ne (tgt := 36) S.1 S.2.1 dX9_count_29 (by decide) (fun c26 => ?_) (fun c26 => ?_)
      · replace hf := ed_in_ c26 hf
        refine lv_iconst (v := 0) S.1 S.2.1 dX9_count_36 (by decide) ?_
        refine lv_iadd S.1 S.2.1 dX9_count_37 ?_
        refine lv_istore_n (lv' := [(2, .int (x2 + 0)), (0, .ref (B + 0)), (1, .int x1), (3, .int x3), (4, .int x4)]) S.1 S.2.1 dX9_count_38 rfl hl (by decide) rfl (fun ls hl => ?_)
        refine lv_iload_n S.1 S.2.1 dX9_count_39 rfl (lv_at hl 3 rfl) ?_
        refine lv_aload_n S.1 S.2.1 dX9_count_40 rfl (lv_at hl 1 rfl) ?_
        refine lv_iload S.1 S.2.1 dX9_count_41 (lv_at hl 4 rfl) ?_
        obtain ⟨r27, hq27, hf⟩ := ed_b_e hf
        refine ed_kI (ed_rV S hK hM (c_X9_dueNow _ D cy B x4 ν r27 hq27) (cwV 1 S.2.2.2.2 (ed_gV ed_w5_49 ed_w5_51 ed_wp_49 ed_w1_10 ed_w5_52) rfl rfl rfl hd_X9_dueNow ⟨Nat.le_of_ble_eq_true rfl, Nat.le_of_ble_eq_true rfl⟩) (em_rc hK hM) rfl hl.1 rfl (Nat.le_of_ble_eq_true rfl) dX9_count_43 ⟨Nat.zero_le _, Nat.zero_le _⟩) hS (fun H locs hM hS => ?_)
        refine lv_if_le (tgt := 53) S.1 S.2.1 dX9_count_46 (by decide) (fun c28 => ?_) (fun c28 => ?_)
        · replace hf := ed_ip c28 hf
          refine lv_iconst (v := 0) S.1 S.2.1 dX9_count_53 (by decide) ?_
          refine lv_iadd S.1 S.2.1 dX9_count_54 ?_
          refine lv_istore_n (lv' := [(3, .int (x3 + 0)), (2, .int (x2 + 0)), (0, .ref (B + 0)), (1, .int x1), (4, .int x4)]) S.1 S.2.1 dX9_count_55 rfl hl (by decide) rfl (fun ls hl => ?_)
          refine lv_iinc (v := x4 + 1) (lv' := [(4, .int (x4 + 1)), (3, .int (x3 + 0)), (2, .int (x2 + 0)), (0, .ref (B + 0)), (1, .int x1)]) S.1 S.2.1 dX9_count_56 hl (k := 4) rfl rfl (by decide) rfl (fun ls hl => ?_)
          refine lv_goto (tgt := 7) S.1 S.2.1 dX9_count_59 (by decide) ?_
          exact ih x1 (x2 + 0) (x3 + 0) (x4 + 1) hf _ _ _ hM hS (lv_sub hl [3, 4, 2, 1, 0] rfl)
        · replace hf := ed_in_ c28 hf
          refine lv_iconst (v := 1) S.1 S.2.1 dX9_count_49 (by decide) ?_
          refine lv_goto (tgt := 54) S.1 S.2.1 dX9_count_50 (by decide) ?_
          refine lv_iadd S.1 S.2.1 dX9_count_54 ?_
          refine lv_istore_n (lv' := [(3, .int (x3 + 1)), (2, .int (x2 + 0)), (0, .ref (B + 0)), (1, .int x1), (4, .int x4)]) S.1 S.2.1 dX9_count_55 rfl hl (by decide) rfl (fun ls hl => ?_)
          refine lv_iinc (v := x4 + 1) (lv' := [(4, .int (x4 + 1)), (3, .int (x3 + 1)), (2, .int (x2 + 0)), (0, .ref (B + 0)), (1, .int x1)]) S.1 S.2.1 dX9_count_56 hl (k := 4) rfl rfl (by decide) rfl (fun ls hl => ?_)
          refine lv_goto (tgt := 7) S.1 S.2.1 dX9_count_59 (by decide) ?_
          exact ih x1 (x2 + 0) (x3 + 1) (x4 + 1) hf _ _ _ hM hS (lv_sub hl [3, 4, 2, 1, 0] rfl)
      · replace hf := ed_ip c26 hf
        refine lv_iconst (v := 1) S.1 S.2.1 dX9_count_32 (by decide) ?_
        refine lv_goto (tgt := 37) S.1 S.2.1 dX9_count_33 (by decide) ?_
        refine lv_iadd S.1 S.2.1 dX9_count_37 ?_
        refine lv_istore_n (lv' := [(2, .int (x2 + 1)), (0, .ref (B + 0)), (1, .int x1), (3, .int x3), (4, .int x4)]) S.1 S.2.1 dX9_count_38 rfl hl (by decide) rfl (fun ls hl => ?_)
        refine lv_iload_n S.1 S.2.1 dX9_count_39 rfl (lv_at hl 3 rfl) ?_
        refine lv_aload_n S.1 S.2.1 dX9_count_40 rfl (lv_at hl 1 rfl) ?_
        refine lv_iload S.1 S.2.1 dX9_count_41 (lv_at hl 4 rfl) ?_
        obtain ⟨r29, hq29, hf⟩ := ed_b_e hf
        refine ed_kI (ed_rV S hK hM (c_X9_dueNow _ D cy B x4 ν r29 hq29) (cwV 1 S.2.2.2.2 (ed_gV ed_w5_49 ed_w5_51 ed_wp_49 ed_w1_10 ed_w5_52) rfl rfl rfl hd_X9_dueNow ⟨Nat.le_of_ble_eq_true rfl, Nat.le_of_ble_eq_true rfl⟩) (em_rc hK hM) rfl hl.1 rfl (Nat.le_of_ble_eq_true rfl) dX9_count_43 ⟨Nat.zero_le _, Nat.zero_le _⟩) hS (fun H locs hM hS => ?_)
        refine lv_if_le (tgt := 53) S.1 S.2.1 dX9_count_46 (by decide) (fun c30 => ?_) (fun c30 => ?_)
        · replace hf := ed_ip c30 hf
          refine lv_iconst (v := 0) S.1 S.2.1 dX9_count_53 (by decide) ?_
          refine lv_iadd S.1 S.2.1 dX9_count_54 ?_
          refine lv_istore_n (lv' := [(3, .int (x3 + 0)), (2, .int (x2 + 1)), (0, .ref (B + 0)), (1, .int x1), (4, .int x4)]) S.1 S.2.1 dX9_count_55 rfl hl (by decide) rfl (fun ls hl => ?_)
          refine lv_iinc (v := x4 + 1) (lv' := [(4, .int (x4 + 1)), (3, .int (x3 + 0)), (2, .int (x2 + 1)), (0, .ref (B + 0)), (1, .int x1)]) S.1 S.2.1 dX9_count_56 hl (k := 4) rfl rfl (by decide) rfl (fun ls hl => ?_)
          refine lv_goto (tgt := 7) S.1 S.2.1 dX9_count_59 (by decide) ?_
          exact ih x1 (x2 + 1) (x3 + 0) (x4 + 1) hf _ _ _ hM hS (lv_sub hl [3, 4, 2, 1, 0] rfl)
        · replace hf := ed_in_ c30 hf
          refine lv_iconst (v := 1) S.1 S.2.1 dX9_count_49 (by decide) ?_
          refine lv_goto (tgt := 54) S.1 S.2.1 dX9_count_50 (by decide) ?_
          refine lv_iadd S.1 S.2.1 dX9_count_54 ?_
          refine lv_istore_n (lv' := [(3, .int (x3 + 1)), (2, .int (x2 + 1)), (0, .ref (B + 0)), (1, .int x1), (4, .int x4)]) S.1 S.2.1 dX9_count_55 rfl hl (by decide) rfl (fun ls hl => ?_)
          refine lv_iinc (v := x4 + 1) (lv' := [(4, .int (x4 + 1)), (3, .int (x3 + 1)), (2, .int (x2 + 1)), (0, .ref (B + 0)), (1, .int x1)]) S.1 S.2.1 dX9_count_56 hl (k := 4) rfl rfl (by decide) rfl (fun ls hl => ?_)
          refine lv_goto (tgt := 7) S.1 S.2.1 dX9_count_59 (by decide) ?_
          exact ih x1 (x2 + 1) (x3 + 1) (x4 + 1) hf _ _ _ hM hS (lv_sub hl [3, 4, 2, 1, 0] rfl)
set_option maxHeartbeats 4000000 in
set_option maxRecDepth 100000 in
theorem c_X9_count (l : Launch) (D : va_G) (cy : Nat → ClassId) (B : Nat) (x1 : Int32) (ν : em_MM) (r : Int32) (hf : f_X9_count x1 ν = some r) :
    Met l yX9_count wsX9_count rmX9_count (ed_pC D cy (em_P D cy B ν) [.ref (B + 0), .int x1]) (ed_qI (em_A B) (em_P D cy B ν) r) 0 0 (em_A B) := by
  refine Met.ofW (cc := cX9_count) (maxL := 5) (ret := (some .int)) (by decide) rfl ?_
  intro p e s m args below meth c s₁ B0 hml hv
  obtain ⟨rfl, hM, hK⟩ := hv
  have S : CallFix p m c cX9_count 5 s _ ed_ws RX9 := ⟨B0.exec, B0.bytes, hml, findClass_of_methodNamed B0.named, fun w hw => atoms_spec (ws := wsX9_count) B0.pre w (List.mem_cons_of_mem _ hw)⟩
  have hr := B0.returns
  have hlocks := B0.notSynchronized
  have hS : va_S (em_A B) s.heap s.heap [] := va_S.rf
  have hl := lv_entry ([.ref (B + 0), .int x1]) (n := 5) (Nat.le_of_ble_eq_true rfl)
  rw [lg_entry_eq]
  generalize (lg_sl ([.ref (B + 0), .int x1]) ++ List.replicate (5 - (lg_sl ([.ref (B + 0), .int x1])).length) Slot.unset).toArray = ls at hl ⊢
  have hl : lv_has ls 5 [(0, .ref (B + 0)), (1, .int x1)] := hl
  unfold f_X9_count at hf
  refine lv_iconst (v := 0) S.1 S.2.1 dX9_count_0 (by decide) ?_
  refine lv_istore_n (lv' := [(2, .int 0), (0, .ref (B + 0)), (1, .int x1)]) S.1 S.2.1 dX9_count_1 rfl hl (by decide) rfl (fun ls hl => ?_)
  refine lv_iconst (v := 0) S.1 S.2.1 dX9_count_2 (by decide) ?_
  refine lv_istore_n (lv' := [(3, .int 0), (2, .int 0), (0, .ref (B + 0)), (1, .int x1)]) S.1 S.2.1 dX9_count_3 rfl hl (by decide) rfl (fun ls hl => ?_)
  refine lv_iconst (v := 0) S.1 S.2.1 dX9_count_4 (by decide) ?_
  refine lv_istore (lv' := [(4, .int 0), (3, .int 0), (2, .int 0), (0, .ref (B + 0)), (1, .int x1)]) S.1 S.2.1 dX9_count_5 hl (by decide) rfl (fun ls hl => ?_)
  exact w_X9_count_7 S hr hlocks hK ν r ed_N x1 0 0 0 hf _ _ _ hM hS (lv_sub hl [3, 4, 2, 1, 0] rfl)
