/-! walks, laid by program (wip/p32/gen/gen.py) -/
set_option maxHeartbeats 4000000 in
set_option maxRecDepth 100000 in
theorem c_X5_storyAt (l : Launch) (D : va_G) (cy : Nat → ClassId) (B : Nat) (μ : ed_CM) (j : Nat) (hj : j < 7) (x1 : Int32) (σ : ed_SM) (o : Option Nat) (hf : f_X5_storyAt x1 σ = some o) :
    Met l yX5_storyAt wsX5_storyAt rmX5_storyAt (ed_pC D cy (ed_P D cy B (ed_sJ μ j σ)) [.ref (B + ed_oF j 0 0), .int x1]) (ed_qA (ed_A B) (ed_P D cy B (ed_sJ μ j σ)) (o.map (fun n => B + ed_oF j 7 n))) 0 0 (ed_A B) := by
  refine Met.ofW (cc := cX5_storyAt) (maxL := 2) (ret := (some (.object "EmbargoDesk$Story"))) (by decide) rfl ?_
  intro p e s m args below meth c s₁ B0 hml hv
  obtain ⟨rfl, hM, hK⟩ := hv
  have S : CallFix p m c cX5_storyAt 2 s _ ed_ws RX5 := ⟨B0.exec, B0.bytes, hml, findClass_of_methodNamed B0.named, fun w hw => atoms_spec (ws := wsX5_storyAt) B0.pre w (List.mem_cons_of_mem _ hw)⟩
  have hr := B0.returns
  have hlocks := B0.notSynchronized
  have hS : va_S (ed_A B) s.heap s.heap [] := va_S.rf
  have hl := lv_entry ([.ref (B + ed_oF j 0 0), .int x1]) (n := 2) (Nat.le_of_ble_eq_true rfl)
  rw [lg_entry_eq]
  generalize (lg_sl ([.ref (B + ed_oF j 0 0), .int x1]) ++ List.replicate (2 - (lg_sl ([.ref (B + ed_oF j 0 0), .int x1])).length) Slot.unset).toArray = ls at hl ⊢
  have hl : lv_has ls 2 [(0, .ref (B + ed_oF j 0 0)), (1, .int x1)] := hl
  unfold f_X5_storyAt at hf
  refine lv_iload_n S.1 S.2.1 dX5_storyAt_0 rfl (lv_at hl 1 rfl) ?_
  refine lv_aload_n S.1 S.2.1 dX5_storyAt_1 rfl (lv_at hl 0 rfl) ?_
  refine ed_get (r := (σ 0 0)) S ed_uX5 hK hM (ed_v0 hj 0) (ed_sJr μ j σ 0 0) (ed_e0 cy B j 0 _) rfl 3 (by decide) ed_w1_217 rfl rfl dX5_storyAt_2 ?_
  refine lv_aload_n S.1 S.2.1 dX5_storyAt_5 rfl (lv_at hl 0 rfl) ?_
  refine ed_get (r := (σ 0 0)) S ed_uX5 hK hM (ed_v0 hj 0) (ed_sJr μ j σ 0 0) (ed_e0 cy B j 0 _) rfl 7 (by decide) ed_w1_225 rfl rfl dX5_storyAt_6 ?_
  refine ed_len (r := (σ 3 0)) (v := 20) (ty := (.object "EmbargoDesk$Story")) (t := 1) S hK hM (ed_v0 hj 3) (ed_sJr μ j σ 3 0) (ed_e3 cy B j 0 _) rfl (by decide) dX5_storyAt_9 ?_
  refine ed_min S hl.1 ed_w2_133 ed_w2_120 ed_w1_10 ed_w2_121 (Nat.le_of_ble_eq_true rfl) (Nat.le_of_ble_eq_true rfl) ⟨Nat.zero_le _, Nat.zero_le _⟩ dX5_storyAt_10 ?_
  refine ed_kI (ed_rN S hK hM (c_X8_isPlace _ D cy (ed_P D cy B (ed_sJ μ j σ)) (ed_A B) x1 (if 20 < (σ 0 0 3) then 20 else (σ 0 0 3))) ⟨va_cnB 2 S.2.2.2.2 (ed_gA ed_w2_107) rfl rfl rfl (ed_n4 hK) (S.2.2.2.2 _ ed_w1_1) hn_X8_isPlace ⟨Nat.le_of_ble_eq_true rfl, Nat.le_of_ble_eq_true rfl⟩, S.2.2.2.2 _ ed_w2_106, trivial⟩ rfl hl.1 rfl (Nat.le_of_ble_eq_true rfl) dX5_storyAt_13 ⟨Nat.zero_le _, Nat.zero_le _⟩) hS (fun H locs hM hS => ?_)
  refine lv_if_eq (tgt := 28) S.1 S.2.1 dX5_storyAt_16 (by decide) (fun c2 => ?_) (fun c2 => ?_)
  · replace hf := ed_ip c2 hf
    refine lv_null S.1 S.2.1 dX5_storyAt_28 ?_
    obtain rfl := Option.some.inj hf
    exact ed_ra S hr (Or.inl ⟨_, rfl⟩) hlocks rfl hM hS dX5_storyAt_29
  · replace hf := ed_in_ c2 hf
    refine lv_aload_n S.1 S.2.1 dX5_storyAt_19 rfl (lv_at hl 0 rfl) ?_
    refine ed_get (r := (σ 0 0)) S ed_uX5 hK hM (ed_v0 hj 0) (ed_sJr μ j σ 0 0) (ed_e0 cy B j 0 _) rfl 7 (by decide) ed_w1_225 rfl rfl dX5_storyAt_20 ?_
    refine lv_iload_n S.1 S.2.1 dX5_storyAt_23 rfl (lv_at hl 1 rfl) ?_
    obtain ⟨hx3, hf⟩ := ed_g_e hf
    refine ed_ald (r := (σ 3 0)) (v := .ref (B + ed_oF j 7 x1.toNatClampNeg)) S hK hM (ed_v0 hj 3) (ed_sJr μ j σ 3 0) (ed_e3 cy B j 0 _) (C := "EmbargoDesk$Story") (t := 1) rfl hx3 rfl dX5_storyAt_24 ?_
    refine lv_goto (tgt := 29) S.1 S.2.1 dX5_storyAt_25 (by decide) ?_
    obtain rfl := Option.some.inj hf
    exact ed_ra S hr (Or.inl ⟨_, rfl⟩) hlocks rfl hM hS dX5_storyAt_29
set_option maxHeartbeats 4000000 in
set_option maxRecDepth 100000 in
theorem w_X5_copyStories_10 {p : Program} {l : Launch} {e : Env} {s : State} {m : MethodId} {args : Array Value} {below : List Frame} {meth : Method} {c : Code} {D : va_G} {cy : Nat → ClassId} {B : Nat} {μ : ed_CM} {j : Nat} (hj : j < 7) {jo : Nat} (hjo : jo < 7) (hne : jo ≠ j) {τ : ed_SM} (hτ : μ jo = τ) (S : CallFix p m c cX5_copyStories 5 s args ed_ws RX5) (hr : meth.sig.returnType = none) (hlocks : meth.locks = false) (hK : ed_K D cy s) (σ' : ed_SM) :
    ∀ (n : Nat), ∀ (x2 : Int32) (σ : ed_SM), f_X5_copyStories_10 τ n x2 σ = some σ' → ∀ (H : Heap) (locs : List Loc) (ls : Array Slot), ed_P D cy B (ed_sJ μ j σ) H → va_S (ed_A B) s.heap H locs → lv_has ls 5 [(0, .ref (B + ed_oF j 0 0)), (1, .ref (B + ed_oF jo 0 0)), (2, .int x2)] → W p l e (headSpec wsX5_copyStories rmX5_copyStories).room s m args below meth c H locs 0 0 (MQ below (ed_qV (ed_A B) (ed_P D cy B (ed_sJ μ j σ'))) args s 0 0 (ed_A B)) (F0 m 10 ls []) := by
  intro n
  induction n with
  | zero => intro x2 σ hf; rw [f_X5_copyStories_10] at hf; cases hf
  | succ n ih =>
    intro x2 σ hf H locs ls hM hS hl
    rw [f_X5_copyStories_10] at hf
    refine lv_iload_n S.1 S.2.1 dX5_copyStories_10 rfl (lv_at hl 2 rfl) ?_
    refine lv_aload_n S.1 S.2.1 dX5_copyStories_11 rfl (lv_at hl 0 rfl) ?_
    refine ed_get (r := (σ 0 0)) S ed_uX5 hK hM (ed_v0 hj 0) (ed_sJr μ j σ 0 0) (ed_e0 cy B j 0 _) rfl 3 (by decide) ed_w1_217 rfl rfl dX5_copyStories_12 ?_
    refine lv_icmp_ge (tgt := 52) S.1 S.2.1 dX5_copyStories_15 (by decide) (fun c2 => ?_) (fun c2 => ?_)
    · replace hf := ed_ip c2 hf
      obtain rfl := Option.some.inj hf
      exact ed_rv S hr hlocks hM hS dX5_copyStories_52
    · replace hf := ed_in_ c2 hf
      refine lv_aload_n S.1 S.2.1 dX5_copyStories_18 rfl (lv_at hl 0 rfl) ?_
      refine lv_iload_n S.1 S.2.1 dX5_copyStories_19 rfl (lv_at hl 2 rfl) ?_
      obtain ⟨o3, hq3, hf⟩ := ed_b_e hf
      refine ed_kA (ed_rV S hK hM (c_X5_storyAt _ D cy B μ j hj x2 σ o3 hq3) (cwV 1 S.2.2.2.2 (ed_gV ed_w2_129 ed_w2_130 ed_w2_131 ed_w1_2 ed_w2_132) rfl rfl rfl hd_X5_storyAt ⟨Nat.le_of_ble_eq_true rfl, Nat.le_of_ble_eq_true rfl⟩) (ed_rc (q := (RX5, TX5, 11)) (r := (σ 0 0)) hK hM (ed_v0 hj 0) (ed_sJr μ j σ 0 0) (ed_e0 cy B j 0 _) rfl) rfl hl.1 rfl (Nat.le_of_ble_eq_true rfl) dX5_copyStories_20 ⟨Nat.zero_le _, Nat.zero_le _⟩) hS (fun H locs hM hS => ?_)
      cases o3 with
      | none =>
        dsimp only at hf
        refine W.eq (g2 := F0 m 23 ls (.null :: [])) rfl ?_
        refine lv_astore_nN (lv' := [(3, .null), (0, .ref (B + ed_oF j 0 0)), (1, .ref (B + ed_oF jo 0 0)), (2, .int x2)]) S.1 S.2.1 dX5_copyStories_23 rfl hl (by decide) rfl (fun ls hl => ?_)
        refine lv_aload_n S.1 S.2.1 dX5_copyStories_24 rfl (lv_at hl 2 rfl) ?_
        refine lv_iload_n S.1 S.2.1 dX5_copyStories_25 rfl (lv_at hl 3 rfl) ?_
        obtain ⟨o4, hq4, hf⟩ := ed_b_e hf
        refine ed_kA (ed_rV S hK (ed_eta2 (ed_sJo μ σ hne hτ) hM) (c_X5_storyAt _ D cy B (ed_sJ μ j σ) jo hjo x2 τ o4 hq4) (cwV 1 S.2.2.2.2 (ed_gV ed_w2_129 ed_w2_130 ed_w2_131 ed_w1_2 ed_w2_132) rfl rfl rfl hd_X5_storyAt ⟨Nat.le_of_ble_eq_true rfl, Nat.le_of_ble_eq_true rfl⟩) (ed_rc (q := (RX5, TX5, 11)) (r := (τ 0 0)) hK hM (ed_v0 hjo 0) (ed_sJn μ σ hne hτ 0 0) (ed_e0 cy B jo 0 _) rfl) rfl hl.1 rfl (Nat.le_of_ble_eq_true rfl) dX5_copyStories_26 ⟨Nat.zero_le _, Nat.zero_le _⟩) hS (fun H locs hM hS => ?_)
        have hM : ed_P D cy B (ed_sJ μ j σ) H := ed_eta3 (ed_sJo μ σ hne hτ) hM
        cases o4 with
        | none =>
          dsimp only at hf
          refine W.eq (g2 := F0 m 29 ls (.null :: [])) rfl ?_
          refine lv_astoreN (lv' := [(4, .null), (3, .null), (0, .ref (B + ed_oF j 0 0)), (1, .ref (B + ed_oF jo 0 0)), (2, .int x2)]) S.1 S.2.1 dX5_copyStories_29 hl (by decide) rfl (fun ls hl => ?_)
          refine lv_aload_nN S.1 S.2.1 dX5_copyStories_31 rfl (lv_at hl 1 rfl) ?_
          refine lv_ifnullN (tgt := 46) S.1 S.2.1 dX5_copyStories_32 (by decide) ?_
          refine lv_iinc (v := x2 + 1) (lv' := [(2, .int (x2 + 1)), (4, .null), (3, .null), (0, .ref (B + ed_oF j 0 0)), (1, .ref (B + ed_oF jo 0 0))]) S.1 S.2.1 dX5_copyStories_46 hl (k := 4) rfl rfl (by decide) rfl (fun ls hl => ?_)
          refine lv_goto (tgt := 10) S.1 S.2.1 dX5_copyStories_49 (by decide) ?_
          exact ih (x2 + 1) σ hf _ _ _ hM hS (lv_sub hl [3, 4, 0] rfl)
        | some n4q =>
          dsimp only at hf
          obtain ⟨hn4q, hf⟩ := ed_g_e hf
          refine W.eq (g2 := F0 m 29 ls (.ref (B + ed_oF jo 7 n4q) :: [])) rfl ?_
          refine lv_astore (lv' := [(4, .ref (B + ed_oF jo 7 n4q)), (3, .null), (0, .ref (B + ed_oF j 0 0)), (1, .ref (B + ed_oF jo 0 0)), (2, .int x2)]) S.1 S.2.1 dX5_copyStories_29 hl (by decide) rfl (fun ls hl => ?_)
          refine lv_aload_nN S.1 S.2.1 dX5_copyStories_31 rfl (lv_at hl 1 rfl) ?_
          refine lv_ifnullN (tgt := 46) S.1 S.2.1 dX5_copyStories_32 (by decide) ?_
          refine lv_iinc (v := x2 + 1) (lv' := [(2, .int (x2 + 1)), (4, .ref (B + ed_oF jo 7 n4q)), (3, .null), (0, .ref (B + ed_oF j 0 0)), (1, .ref (B + ed_oF jo 0 0))]) S.1 S.2.1 dX5_copyStories_46 hl (k := 4) rfl rfl (by decide) rfl (fun ls hl => ?_)
          refine lv_goto (tgt := 10) S.1 S.2.1 dX5_copyStories_49 (by decide) ?_
          exact ih (x2 + 1) σ hf _ _ _ hM hS (lv_sub hl [3, 4, 0] rfl)
      | some n3q =>
        dsimp only at hf
        obtain ⟨hn3q, hf⟩ := ed_g_e hf
        refine W.eq (g2 := F0 m 23 ls (.ref (B + ed_oF j 7 n3q) :: [])) rfl ?_
        refine lv_astore_n (lv' := [(3, .ref (B + ed_oF j 7 n3q)), (0, .ref (B + ed_oF j 0 0)), (1, .ref (B + ed_oF jo 0 0)), (2, .int x2)]) S.1 S.2.1 dX5_copyStories_23 rfl hl (by decide) rfl (fun ls hl => ?_)
        refine lv_aload_n S.1 S.2.1 dX5_copyStories_24 rfl (lv_at hl 2 rfl) ?_
        refine lv_iload_n S.1 S.2.1 dX5_copyStories_25 rfl (lv_at hl 3 rfl) ?_
        obtain ⟨o5, hq5, hf⟩ := ed_b_e hf
        refine ed_kA (ed_rV S hK (ed_eta2 (ed_sJo μ σ hne hτ) hM) (c_X5_storyAt _ D cy B (ed_sJ μ j σ) jo hjo x2 τ o5 hq5) (cwV 1 S.2.2.2.2 (ed_gV ed_w2_129 ed_w2_130 ed_w2_131 ed_w1_2 ed_w2_132) rfl rfl rfl hd_X5_storyAt ⟨Nat.le_of_ble_eq_true rfl, Nat.le_of_ble_eq_true rfl⟩) (ed_rc (q := (RX5, TX5, 11)) (r := (τ 0 0)) hK hM (ed_v0 hjo 0) (ed_sJn μ σ hne hτ 0 0) (ed_e0 cy B jo 0 _) rfl) rfl hl.1 rfl (Nat.le_of_ble_eq_true rfl) dX5_copyStories_26 ⟨Nat.zero_le _, Nat.zero_le _⟩) hS (fun H locs hM hS => ?_)
        have hM : ed_P D cy B (ed_sJ μ j σ) H := ed_eta3 (ed_sJo μ σ hne hτ) hM
        cases o5 with
        | none =>
          dsimp only at hf
          refine W.eq (g2 := F0 m 29 ls (.null :: [])) rfl ?_
          refine lv_astoreN (lv' := [(4, .null), (3, .ref (B + ed_oF j 7 n3q)), (0, .ref (B + ed_oF j 0 0)), (1, .ref (B + ed_oF jo 0 0)), (2, .int x2)]) S.1 S.2.1 dX5_copyStories_29 hl (by decide) rfl (fun ls hl => ?_)
          refine lv_aload_n S.1 S.2.1 dX5_copyStories_31 rfl (lv_at hl 1 rfl) ?_
          refine lv_ifnull S.1 S.2.1 dX5_copyStories_32 ?_
          refine lv_aloadN S.1 S.2.1 dX5_copyStories_35 (lv_at hl 0 rfl) ?_
          refine lv_ifnullN (tgt := 46) S.1 S.2.1 dX5_copyStories_37 (by decide) ?_
          refine lv_iinc (v := x2 + 1) (lv' := [(2, .int (x2 + 1)), (4, .null), (3, .ref (B + ed_oF j 7 n3q)), (0, .ref (B + ed_oF j 0 0)), (1, .ref (B + ed_oF jo 0 0))]) S.1 S.2.1 dX5_copyStories_46 hl (k := 4) rfl rfl (by decide) rfl (fun ls hl => ?_)
          refine lv_goto (tgt := 10) S.1 S.2.1 dX5_copyStories_49 (by decide) ?_
          exact ih (x2 + 1) σ hf _ _ _ hM hS (lv_sub hl [3, 4, 0] rfl)
        | some n5q =>
          dsimp only at hf
          obtain ⟨hn5q, hf⟩ := ed_g_e hf
          refine W.eq (g2 := F0 m 29 ls (.ref (B + ed_oF jo 7 n5q) :: [])) rfl ?_
          refine lv_astore (lv' := [(4, .ref (B + ed_oF jo 7 n5q)), (3, .ref (B + ed_oF j 7 n3q)), (0, .ref (B + ed_oF j 0 0)), (1, .ref (B + ed_oF jo 0 0)), (2, .int x2)]) S.1 S.2.1 dX5_copyStories_29 hl (by decide) rfl (fun ls hl => ?_)
          refine lv_aload_n S.1 S.2.1 dX5_copyStories_31 rfl (lv_at hl 1 rfl) ?_
          refine lv_ifnull S.1 S.2.1 dX5_copyStories_32 ?_
          refine lv_aload S.1 S.2.1 dX5_copyStories_35 (lv_at hl 0 rfl) ?_
          refine lv_ifnull S.1 S.2.1 dX5_copyStories_37 ?_
          refine lv_aload_n S.1 S.2.1 dX5_copyStories_40 rfl (lv_at hl 1 rfl) ?_
          refine lv_aload S.1 S.2.1 dX5_copyStories_41 (lv_at hl 0 rfl) ?_
          obtain ⟨σ6, hq6, hf⟩ := ed_b_e hf
          refine ed_kV (ed_rV S hK hM (c_X6_copyFrom _ D cy B μ j hj n3q hn3q n5q hn5q jo hjo hne τ hτ σ σ6 hq6) (cwV 1 S.2.2.2.2 (ed_gV ed_w2_135 ed_w2_136 ed_w2_137 ed_w1_4 ed_w2_138) rfl rfl rfl hd_X6_copyFrom ⟨Nat.le_of_ble_eq_true rfl, Nat.le_of_ble_eq_true rfl⟩) (ed_rc (q := (RX6, TX6, 11)) (r := (σ 7 n3q)) hK hM (ed_v7 hj hn3q 7) (ed_sJr μ j σ 7 n3q) (ed_e7 cy B j n3q _) rfl) rfl hl.1 rfl (Nat.le_of_ble_eq_true rfl) dX5_copyStories_43 ⟨Nat.zero_le _, Nat.zero_le _⟩) hS (fun H locs hM hS => ?_)
          refine lv_iinc (v := x2 + 1) (lv' := [(2, .int (x2 + 1)), (4, .ref (B + ed_oF jo 7 n5q)), (3, .ref (B + ed_oF j 7 n3q)), (0, .ref (B + ed_oF j 0 0)), (1, .ref (B + ed_oF jo 0 0))]) S.1 S.2.1 dX5_copyStories_46 hl (k := 4) rfl rfl (by decide) rfl (fun ls hl => ?_)
          refine lv_goto (tgt := 10) S.1 S.2.1 dX5_copyStories_49 (by decide) ?_
          exact ih (x2 + 1) σ6 hf _ _ _ hM hS (lv_sub hl [3, 4, 0] rfl)
set_option maxHeartbeats 4000000 in
set_option maxRecDepth 100000 in
theorem c_X5_copyStories (l : Launch) (D : va_G) (cy : Nat → ClassId) (B : Nat) (μ : ed_CM) (j : Nat) (hj : j < 7) (jo : Nat) (hjo : jo < 7) (hne : jo ≠ j) (τ : ed_SM) (hτ : μ jo = τ) (σ : ed_SM) (σ' : ed_SM) (hf : f_X5_copyStories τ σ = some σ') :
    Met l yX5_copyStories wsX5_copyStories rmX5_copyStories (ed_pC D cy (ed_P D cy B (ed_sJ μ j σ)) [.ref (B + ed_oF j 0 0), .ref (B + ed_oF jo 0 0)]) (ed_qV (ed_A B) (ed_P D cy B (ed_sJ μ j σ'))) 0 0 (ed_A B) := by
  refine Met.ofW (cc := cX5_copyStories) (maxL := 5) (ret := none) (by decide) rfl ?_
  intro p e s m args below meth c s₁ B0 hml hv
  obtain ⟨rfl, hM, hK⟩ := hv
  have S : CallFix p m c cX5_copyStories 5 s _ ed_ws RX5 := ⟨B0.exec, B0.bytes, hml, findClass_of_methodNamed B0.named, fun w hw => atoms_spec (ws := wsX5_copyStories) B0.pre w (List.mem_cons_of_mem _ hw)⟩
  have hr := B0.returns
  have hlocks := B0.notSynchronized
  have hS : va_S (ed_A B) s.heap s.heap [] := va_S.rf
  have hl := lv_entry ([.ref (B + ed_oF j 0 0), .ref (B + ed_oF jo 0 0)]) (n := 5) (Nat.le_of_ble_eq_true rfl)
  rw [lg_entry_eq]
  generalize (lg_sl ([.ref (B + ed_oF j 0 0), .ref (B + ed_oF jo 0 0)]) ++ List.replicate (5 - (lg_sl ([.ref (B + ed_oF j 0 0), .ref (B + ed_oF jo 0 0)])).length) Slot.unset).toArray = ls at hl ⊢
  have hl : lv_has ls 5 [(0, .ref (B + ed_oF j 0 0)), (1, .ref (B + ed_oF jo 0 0))] := hl
  unfold f_X5_copyStories at hf
  refine lv_aload_n S.1 S.2.1 dX5_copyStories_0 rfl (lv_at hl 0 rfl) ?_
  refine lv_aload_n S.1 S.2.1 dX5_copyStories_1 rfl (lv_at hl 1 rfl) ?_
  refine ed_get (r := (τ 0 0)) S ed_uX5 hK hM (ed_v0 hjo 0) (ed_sJn μ σ hne hτ 0 0) (ed_e0 cy B jo 0 _) rfl 3 (by decide) ed_w1_217 rfl rfl dX5_copyStories_2 ?_
  refine ed_put (j := j) S ed_uX5 tyX5 tyX5_ok nmX5 hK hM hS (ed_v0 hj 0) (ed_e0 cy B j 0 _) rfl 3 (by decide) ed_w1_217 rfl rfl rfl rfl (Nat.le_of_ble_eq_true rfl) (ed_u0_3 cy B j 0 _ _) dX5_copyStories_5 (fun H locs hM hS => ?_)
  obtain ⟨σ1, eσ1, hf⟩ := ed_t_e hf
  have hM : ed_P D cy B (ed_sJ μ j σ1) H := by rw [eσ1]; exact hM
  refine lv_iconst (v := 0) S.1 S.2.1 dX5_copyStories_8 (by decide) ?_
  refine lv_istore_n (lv' := [(2, .int 0), (0, .ref (B + ed_oF j 0 0)), (1, .ref (B + ed_oF jo 0 0))]) S.1 S.2.1 dX5_copyStories_9 rfl hl (by decide) rfl (fun ls hl => ?_)
  exact w_X5_copyStories_10 hj hjo hne hτ S hr hlocks hK σ' ed_N 0 σ1 hf _ _ _ hM hS (lv_sub hl [1, 2, 0] rfl)
set_option maxHeartbeats 4000000 in
set_option maxRecDepth 100000 in
theorem c_X5_clientAt (l : Launch) (D : va_G) (cy : Nat → ClassId) (B : Nat) (μ : ed_CM) (j : Nat) (hj : j < 7) (x1 : Int32) (σ : ed_SM) (o : Option Nat) (hf : f_X5_clientAt x1 σ = some o) :
    Met l yX5_clientAt wsX5_clientAt rmX5_clientAt (ed_pC D cy (ed_P D cy B (ed_sJ μ j σ)) [.ref (B + ed_oF j 0 0), .int x1]) (ed_qA (ed_A B) (ed_P D cy B (ed_sJ μ j σ)) (o.map (fun n => B + ed_oF j 11 n))) 0 0 (ed_A B) := by
  refine Met.ofW (cc := cX5_clientAt) (maxL := 2) (ret := (some (.object "EmbargoDesk$Client"))) (by decide) rfl ?_
  intro p e s m args below meth c s₁ B0 hml hv
  obtain ⟨rfl, hM, hK⟩ := hv
  have S : CallFix p m c cX5_clientAt 2 s _ ed_ws RX5 := ⟨B0.exec, B0.bytes, hml, findClass_of_methodNamed B0.named, fun w hw => atoms_spec (ws := wsX5_clientAt) B0.pre w (List.mem_cons_of_mem _ hw)⟩
  have hr := B0.returns
  have hlocks := B0.notSynchronized
  have hS : va_S (ed_A B) s.heap s.heap [] := va_S.rf
  have hl := lv_entry ([.ref (B + ed_oF j 0 0), .int x1]) (n := 2) (Nat.le_of_ble_eq_true rfl)
  rw [lg_entry_eq]
  generalize (lg_sl ([.ref (B + ed_oF j 0 0), .int x1]) ++ List.replicate (2 - (lg_sl ([.ref (B + ed_oF j 0 0), .int x1])).length) Slot.unset).toArray = ls at hl ⊢
  have hl : lv_has ls 2 [(0, .ref (B + ed_oF j 0 0)), (1, .int x1)] := hl
  unfold f_X5_clientAt at hf
  refine lv_iload_n S.1 S.2.1 dX5_clientAt_0 rfl (lv_at hl 1 rfl) ?_
  refine lv_aload_n S.1 S.2.1 dX5_clientAt_1 rfl (lv_at hl 0 rfl) ?_
  refine ed_get (r := (σ 0 0)) S ed_uX5 hK hM (ed_v0 hj 0) (ed_sJr μ j σ 0 0) (ed_e0 cy B j 0 _) rfl 4 (by decide) ed_w1_220 rfl rfl dX5_clientAt_2 ?_
  refine lv_aload_n S.1 S.2.1 dX5_clientAt_5 rfl (lv_at hl 0 rfl) ?_
  refine ed_get (r := (σ 0 0)) S ed_uX5 hK hM (ed_v0 hj 0) (ed_sJr μ j σ 0 0) (ed_e0 cy B j 0 _) rfl 8 (by decide) ed_w1_226 rfl rfl dX5_clientAt_6 ?_
  refine ed_len (r := (σ 4 0)) (v := 8) (ty := (.object "EmbargoDesk$Client")) (t := 2) S hK hM (ed_v0 hj 4) (ed_sJr μ j σ 4 0) (ed_e4 cy B j 0 _) rfl (by decide) dX5_clientAt_9 ?_
  refine ed_min S hl.1 ed_w2_133 ed_w2_120 ed_w1_10 ed_w2_121 (Nat.le_of_ble_eq_true rfl) (Nat.le_of_ble_eq_true rfl) ⟨Nat.zero_le _, Nat.zero_le _⟩ dX5_clientAt_10 ?_
  refine ed_kI (ed_rN S hK hM (c_X8_isPlace _ D cy (ed_P D cy B (ed_sJ μ j σ)) (ed_A B) x1 (if 8 < (σ 0 0 4) then 8 else (σ 0 0 4))) ⟨va_cnB 2 S.2.2.2.2 (ed_gA ed_w2_107) rfl rfl rfl (ed_n4 hK) (S.2.2.2.2 _ ed_w1_1) hn_X8_isPlace ⟨Nat.le_of_ble_eq_true rfl, Nat.le_of_ble_eq_true rfl⟩, S.2.2.2.2 _ ed_w2_106, trivial⟩ rfl hl.1 rfl (Nat.le_of_ble_eq_true rfl) dX5_clientAt_13 ⟨Nat.zero_le _, Nat.zero_le _⟩) hS (fun H locs hM hS => ?_)
  refine lv_if_eq (tgt := 28) S.1 S.2.1 dX5_clientAt_16 (by decide) (fun c2 => ?_) (fun c2 => ?_)
  · replace hf := ed_ip c2 hf
    refine lv_null S.1 S.2.1 dX5_clientAt_28 ?_
    obtain rfl := Option.some.inj hf
    exact ed_ra S hr (Or.inl ⟨_, rfl⟩) hlocks rfl hM hS dX5_clientAt_29
  · replace hf := ed_in_ c2 hf
    refine lv_aload_n S.1 S.2.1 dX5_clientAt_19 rfl (lv_at hl 0 rfl) ?_
    refine ed_get (r := (σ 0 0)) S ed_uX5 hK hM (ed_v0 hj 0) (ed_sJr μ j σ 0 0) (ed_e0 cy B j 0 _) rfl 8 (by decide) ed_w1_226 rfl rfl dX5_clientAt_20 ?_
    refine lv_iload_n S.1 S.2.1 dX5_clientAt_23 rfl (lv_at hl 1 rfl) ?_
    obtain ⟨hx3, hf⟩ := ed_g_e hf
    refine ed_ald (r := (σ 4 0)) (v := .ref (B + ed_oF j 11 x1.toNatClampNeg)) S hK hM (ed_v0 hj 4) (ed_sJr μ j σ 4 0) (ed_e4 cy B j 0 _) (C := "EmbargoDesk$Client") (t := 2) rfl hx3 rfl dX5_clientAt_24 ?_
    refine lv_goto (tgt := 29) S.1 S.2.1 dX5_clientAt_25 (by decide) ?_
    obtain rfl := Option.some.inj hf
    exact ed_ra S hr (Or.inl ⟨_, rfl⟩) hlocks rfl hM hS dX5_clientAt_29
set_option maxHeartbeats 4000000 in
set_option maxRecDepth 100000 in
theorem w_X5_copyClients_10 {p : Program} {l : Launch} {e : Env} {s : State} {m : MethodId} {args : Array Value} {below : List Frame} {meth : Method} {c : Code} {D : va_G} {cy : Nat → ClassId} {B : Nat} {μ : ed_CM} {j : Nat} (hj : j < 7) {jo : Nat} (hjo : jo < 7) (hne : jo ≠ j) {τ : ed_SM} (hτ : μ jo = τ) (S : CallFix p m c cX5_copyClients 5 s args ed_ws RX5) (hr : meth.sig.returnType = none) (hlocks : meth.locks = false) (hK : ed_K D cy s) (σ' : ed_SM) :
    ∀ (n : Nat), ∀ (x2 : Int32) (σ : ed_SM), f_X5_copyClients_10 τ n x2 σ = some σ' → ∀ (H : Heap) (locs : List Loc) (ls : Array Slot), ed_P D cy B (ed_sJ μ j σ) H → va_S (ed_A B) s.heap H locs → lv_has ls 5 [(0, .ref (B + ed_oF j 0 0)), (1, .ref (B + ed_oF jo 0 0)), (2, .int x2)] → W p l e (headSpec wsX5_copyClients rmX5_copyClients).room s m args below meth c H locs 0 0 (MQ below (ed_qV (ed_A B) (ed_P D cy B (ed_sJ μ j σ'))) args s 0 0 (ed_A B)) (F0 m 10 ls []) := by
  intro n
  induction n with
  | zero => intro x2 σ hf; rw [f_X5_copyClients_10] at hf; cases hf
  | succ n ih =>
    intro x2 σ hf H locs ls hM hS hl
    rw [f_X5_copyClients_10] at hf
    refine lv_iload_n S.1 S.2.1 dX5_copyClients_10 rfl (lv_at hl 2 rfl) ?_
    refine lv_aload_n S.1 S.2.1 dX5_copyClients_11 rfl (lv_at hl 0 rfl) ?_
    refine ed_get (r := (σ 0 0)) S ed_uX5 hK hM (ed_v0 hj 0) (ed_sJr μ j σ 0 0) (ed_e0 cy B j 0 _) rfl 4 (by decide) ed_w1_220 rfl rfl dX5_copyClients_12 ?_
    refine lv_icmp_ge (tgt := 52) S.1 S.2.1 dX5_copyClients_15 (by decide) (fun c2 => ?_) (fun c2 => ?_)
    · replace hf := ed_ip c2 hf
      obtain rfl := Option.some.inj hf
      exact ed_rv S hr hlocks hM hS dX5_copyClients_52
    · replace hf := ed_in_ c2 hf
      refine lv_aload_n S.1 S.2.1 dX5_copyClients_18 rfl (lv_at hl 0 rfl) ?_
      refine lv_iload_n S.1 S.2.1 dX5_copyClients_19 rfl (lv_at hl 2 rfl) ?_
      obtain ⟨o3, hq3, hf⟩ := ed_b_e hf
      refine ed_kA (ed_rV S hK hM (c_X5_clientAt _ D cy B μ j hj x2 σ o3 hq3) (cwV 1 S.2.2.2.2 (ed_gV ed_w2_144 ed_w2_145 ed_w2_146 ed_w1_2 ed_w2_147) rfl rfl rfl hd_X5_clientAt ⟨Nat.le_of_ble_eq_true rfl, Nat.le_of_ble_eq_true rfl⟩) (ed_rc (q := (RX5, TX5, 11)) (r := (σ 0 0)) hK hM (ed_v0 hj 0) (ed_sJr μ j σ 0 0) (ed_e0 cy B j 0 _) rfl) rfl hl.1 rfl (Nat.le_of_ble_eq_true rfl) dX5_copyClients_20 ⟨Nat.zero_le _, Nat.zero_le _⟩) hS (fun H locs hM hS => ?_)
      cases o3 with
      | none =>
        dsimp only at hf
        refine W.eq (g2 := F0 m 23 ls (.null :: [])) rfl ?_
        refine lv_astore_nN (lv' := [(3, .null), (0, .ref (B + ed_oF j 0 0)), (1, .ref (B + ed_oF jo 0 0)), (2, .int x2)]) S.1 S.2.1 dX5_copyClients_23 rfl hl (by decide) rfl (fun ls hl => ?_)
        refine lv_aload_n S.1 S.2.1 dX5_copyClients_24 rfl (lv_at hl 2 rfl) ?_
        refine lv_iload_n S.1 S.2.1 dX5_copyClients_25 rfl (lv_at hl 3 rfl) ?_
        obtain ⟨o4, hq4, hf⟩ := ed_b_e hf
        refine ed_kA (ed_rV S hK (ed_eta2 (ed_sJo μ σ hne hτ) hM) (c_X5_clientAt _ D cy B (ed_sJ μ j σ) jo hjo x2 τ o4 hq4) (cwV 1 S.2.2.2.2 (ed_gV ed_w2_144 ed_w2_145 ed_w2_146 ed_w1_2 ed_w2_147) rfl rfl rfl hd_X5_clientAt ⟨Nat.le_of_ble_eq_true rfl, Nat.le_of_ble_eq_true rfl⟩) (ed_rc (q := (RX5, TX5, 11)) (r := (τ 0 0)) hK hM (ed_v0 hjo 0) (ed_sJn μ σ hne hτ 0 0) (ed_e0 cy B jo 0 _) rfl) rfl hl.1 rfl (Nat.le_of_ble_eq_true rfl) dX5_copyClients_26 ⟨Nat.zero_le _, Nat.zero_le _⟩) hS (fun H locs hM hS => ?_)
        have hM : ed_P D cy B (ed_sJ μ j σ) H := ed_eta3 (ed_sJo μ σ hne hτ) hM
        cases o4 with
        | none =>
          dsimp only at hf
          refine W.eq (g2 := F0 m 29 ls (.null :: [])) rfl ?_
          refine lv_astoreN (lv' := [(4, .null), (3, .null), (0, .ref (B + ed_oF j 0 0)), (1, .ref (B + ed_oF jo 0 0)), (2, .int x2)]) S.1 S.2.1 dX5_copyClients_29 hl (by decide) rfl (fun ls hl => ?_)
          refine lv_aload_nN S.1 S.2.1 dX5_copyClients_31 rfl (lv_at hl 1 rfl) ?_
          refine lv_ifnullN (tgt := 46) S.1 S.2.1 dX5_copyClients_32 (by decide) ?_
          refine lv_iinc (v := x2 + 1) (lv' := [(2, .int (x2 + 1)), (4, .null), (3, .null), (0, .ref (B + ed_oF j 0 0)), (1, .ref (B + ed_oF jo 0 0))]) S.1 S.2.1 dX5_copyClients_46 hl (k := 4) rfl rfl (by decide) rfl (fun ls hl => ?_)
          refine lv_goto (tgt := 10) S.1 S.2.1 dX5_copyClients_49 (by decide) ?_
          exact ih (x2 + 1) σ hf _ _ _ hM hS (lv_sub hl [3, 4, 0] rfl)
        | some n4q =>
          dsimp only at hf
          obtain ⟨hn4q, hf⟩ := ed_g_e hf
          refine W.eq (g2 := F0 m 29 ls (.ref (B + ed_oF jo 11 n4q) :: [])) rfl ?_
          refine lv_astore (lv' := [(4, .ref (B + ed_oF jo 11 n4q)), (3, .null), (0, .ref (B + ed_oF j 0 0)), (1, .ref (B + ed_oF jo 0 0)), (2, .int x2)]) S.1 S.2.1 dX5_copyClients_29 hl (by decide) rfl (fun ls hl => ?_)
          refine lv_aload_nN S.1 S.2.1 dX5_copyClients_31 rfl (lv_at hl 1 rfl) ?_
          refine lv_ifnullN (tgt := 46) S.1 S.2.1 dX5_copyClients_32 (by decide) ?_
          refine lv_iinc (v := x2 + 1) (lv' := [(2, .int (x2 + 1)), (4, .ref (B + ed_oF jo 11 n4q)), (3, .null), (0, .ref (B + ed_oF j 0 0)), (1, .ref (B + ed_oF jo 0 0))]) S.1 S.2.1 dX5_copyClients_46 hl (k := 4) rfl rfl (by decide) rfl (fun ls hl => ?_)
          refine lv_goto (tgt := 10) S.1 S.2.1 dX5_copyClients_49 (by decide) ?_
          exact ih (x2 + 1) σ hf _ _ _ hM hS (lv_sub hl [3, 4, 0] rfl)
      | some n3q =>
        dsimp only at hf
        obtain ⟨hn3q, hf⟩ := ed_g_e hf
        refine W.eq (g2 := F0 m 23 ls (.ref (B + ed_oF j 11 n3q) :: [])) rfl ?_
        refine lv_astore_n (lv' := [(3, .ref (B + ed_oF j 11 n3q)), (0, .ref (B + ed_oF j 0 0)), (1, .ref (B + ed_oF jo 0 0)), (2, .int x2)]) S.1 S.2.1 dX5_copyClients_23 rfl hl (by decide) rfl (fun ls hl => ?_)
        refine lv_aload_n S.1 S.2.1 dX5_copyClients_24 rfl (lv_at hl 2 rfl) ?_
        refine lv_iload_n S.1 S.2.1 dX5_copyClients_25 rfl (lv_at hl 3 rfl) ?_
        obtain ⟨o5, hq5, hf⟩ := ed_b_e hf
        refine ed_kA (ed_rV S hK (ed_eta2 (ed_sJo μ σ hne hτ) hM) (c_X5_clientAt _ D cy B (ed_sJ μ j σ) jo hjo x2 τ o5 hq5) (cwV 1 S.2.2.2.2 (ed_gV ed_w2_144 ed_w2_145 ed_w2_146 ed_w1_2 ed_w2_147) rfl rfl rfl hd_X5_clientAt ⟨Nat.le_of_ble_eq_true rfl, Nat.le_of_ble_eq_true rfl⟩) (ed_rc (q := (RX5, TX5, 11)) (r := (τ 0 0)) hK hM (ed_v0 hjo 0) (ed_sJn μ σ hne hτ 0 0) (ed_e0 cy B jo 0 _) rfl) rfl hl.1 rfl (Nat.le_of_ble_eq_true rfl) dX5_copyClients_26 ⟨Nat.zero_le _, Nat.zero_le _⟩) hS (fun H locs hM hS => ?_)
        have hM : ed_P D cy B (ed_sJ μ j σ) H := ed_eta3 (ed_sJo μ σ hne hτ) hM
        cases o5 with
        | none =>
          dsimp only at hf
          refine W.eq (g2 := F0 m 29 ls (.null :: [])) rfl ?_
          refine lv_astoreN (lv' := [(4, .null), (3, .ref (B + ed_oF j 11 n3q)), (0, .ref (B + ed_oF j 0 0)), (1, .ref (B + ed_oF jo 0 0)), (2, .int x2)]) S.1 S.2.1 dX5_copyClients_29 hl (by decide) rfl (fun ls hl => ?_)
          refine lv_aload_n S.1 S.2.1 dX5_copyClients_31 rfl (lv_at hl 1 rfl) ?_
          refine lv_ifnull S.1 S.2.1 dX5_copyClients_32 ?_
          refine lv_aloadN S.1 S.2.1 dX5_copyClients_35 (lv_at hl 0 rfl) ?_
          refine lv_ifnullN (tgt := 46) S.1 S.2.1 dX5_copyClients_37 (by decide) ?_
          refine lv_iinc (v := x2 + 1) (lv' := [(2, .int (x2 + 1)), (4, .null), (3, .ref (B + ed_oF j 11 n3q)), (0, .ref (B + ed_oF j 0 0)), (1, .ref (B + ed_oF jo 0 0))]) S.1 S.2.1 dX5_copyClients_46 hl (k := 4) rfl rfl (by decide) rfl (fun ls hl => ?_)
          refine lv_goto (tgt := 10) S.1 S.2.1 dX5_copyClients_49 (by decide) ?_
          exact ih (x2 + 1) σ hf _ _ _ hM hS (lv_sub hl [3, 4, 0] rfl)
        | some n5q =>
          dsimp only at hf
          obtain ⟨hn5q, hf⟩ := ed_g_e hf
          refine W.eq (g2 := F0 m 29 ls (.ref (B + ed_oF jo 11 n5q) :: [])) rfl ?_
          refine lv_astore (lv' := [(4, .ref (B + ed_oF jo 11 n5q)), (3, .ref (B + ed_oF j 11 n3q)), (0, .ref (B + ed_oF j 0 0)), (1, .ref (B + ed_oF jo 0 0)), (2, .int x2)]) S.1 S.2.1 dX5_copyClients_29 hl (by decide) rfl (fun ls hl => ?_)
          refine lv_aload_n S.1 S.2.1 dX5_copyClients_31 rfl (lv_at hl 1 rfl) ?_
          refine lv_ifnull S.1 S.2.1 dX5_copyClients_32 ?_
          refine lv_aload S.1 S.2.1 dX5_copyClients_35 (lv_at hl 0 rfl) ?_
          refine lv_ifnull S.1 S.2.1 dX5_copyClients_37 ?_
          refine lv_aload_n S.1 S.2.1 dX5_copyClients_40 rfl (lv_at hl 1 rfl) ?_
          refine lv_aload S.1 S.2.1 dX5_copyClients_41 (lv_at hl 0 rfl) ?_
          obtain ⟨σ6, hq6, hf⟩ := ed_b_e hf
          refine ed_kV (ed_rV S hK hM (c_X0_copyFrom _ D cy B μ j hj n3q hn3q n5q hn5q jo hjo hne τ hτ σ σ6 hq6) (cwV 1 S.2.2.2.2 (ed_gV ed_w2_148 ed_w2_149 ed_w2_150 ed_w1_5 ed_w2_151) rfl rfl rfl hd_X0_copyFrom ⟨Nat.le_of_ble_eq_true rfl, Nat.le_of_ble_eq_true rfl⟩) (ed_rc (q := (RX0, TX0, 10)) (r := (σ 11 n3q)) hK hM (ed_v11 hj hn3q) (ed_sJr μ j σ 11 n3q) (ed_e11 cy B j n3q _) rfl) rfl hl.1 rfl (Nat.le_of_ble_eq_true rfl) dX5_copyClients_43 ⟨Nat.zero_le _, Nat.zero_le _⟩) hS (fun H locs hM hS => ?_)
          refine lv_iinc (v := x2 + 1) (lv' := [(2, .int (x2 + 1)), (4, .ref (B + ed_oF jo 11 n5q)), (3, .ref (B + ed_oF j 11 n3q)), (0, .ref (B + ed_oF j 0 0)), (1, .ref (B + ed_oF jo 0 0))]) S.1 S.2.1 dX5_copyClients_46 hl (k := 4) rfl rfl (by decide) rfl (fun ls hl => ?_)
          refine lv_goto (tgt := 10) S.1 S.2.1 dX5_copyClients_49 (by decide) ?_
          exact ih (x2 + 1) σ6 hf _ _ _ hM hS (lv_sub hl [3, 4, 0] rfl)
set_option maxHeartbeats 4000000 in
set_option maxRecDepth 100000 in
theorem c_X5_copyClients (l : Launch) (D : va_G) (cy : Nat → ClassId) (B : Nat) (μ : ed_CM) (j : Nat) (hj : j < 7) (jo : Nat) (hjo : jo < 7) (hne : jo ≠ j) (τ : ed_SM) (hτ : μ jo = τ) (σ : ed_SM) (σ' : ed_SM) (hf : f_X5_copyClients τ σ = some σ') :
    Met l yX5_copyClients wsX5_copyClients rmX5_copyClients (ed_pC D cy (ed_P D cy B (ed_sJ μ j σ)) [.ref (B + ed_oF j 0 0), .ref (B + ed_oF jo 0 0)]) (ed_qV (ed_A B) (ed_P D cy B (ed_sJ μ j σ'))) 0 0 (ed_A B) := by
  refine Met.ofW (cc := cX5_copyClients) (maxL := 5) (ret := none) (by decide) rfl ?_
  intro p e s m args below meth c s₁ B0 hml hv
  obtain ⟨rfl, hM, hK⟩ := hv
  have S : CallFix p m c cX5_copyClients 5 s _ ed_ws RX5 := ⟨B0.exec, B0.bytes, hml, findClass_of_methodNamed B0.named, fun w hw => atoms_spec (ws := wsX5_copyClients) B0.pre w (List.mem_cons_of_mem _ hw)⟩
  have hr := B0.returns
  have hlocks := B0.notSynchronized
  have hS : va_S (ed_A B) s.heap s.heap [] := va_S.rf
  have hl := lv_entry ([.ref (B + ed_oF j 0 0), .ref (B + ed_oF jo 0 0)]) (n := 5) (Nat.le_of_ble_eq_true rfl)
  rw [lg_entry_eq]
  generalize (lg_sl ([.ref (B + ed_oF j 0 0), .ref (B + ed_oF jo 0 0)]) ++ List.replicate (5 - (lg_sl ([.ref (B + ed_oF j 0 0), .ref (B + ed_oF jo 0 0)])).length) Slot.unset).toArray = ls at hl ⊢
  have hl : lv_has ls 5 [(0, .ref (B + ed_oF j 0 0)), (1, .ref (B + ed_oF jo 0 0))] := hl
  unfold f_X5_copyClients at hf
  refine lv_aload_n S.1 S.2.1 dX5_copyClients_0 rfl (lv_at hl 0 rfl) ?_
  refine lv_aload_n S.1 S.2.1 dX5_copyClients_1 rfl (lv_at hl 1 rfl) ?_
  refine ed_get (r := (τ 0 0)) S ed_uX5 hK hM (ed_v0 hjo 0) (ed_sJn μ σ hne hτ 0 0) (ed_e0 cy B jo 0 _) rfl 4 (by decide) ed_w1_220 rfl rfl dX5_copyClients_2 ?_
  refine ed_put (j := j) S ed_uX5 tyX5 tyX5_ok nmX5 hK hM hS (ed_v0 hj 0) (ed_e0 cy B j 0 _) rfl 4 (by decide) ed_w1_220 rfl rfl rfl rfl (Nat.le_of_ble_eq_true rfl) (ed_u0_4 cy B j 0 _ _) dX5_copyClients_5 (fun H locs hM hS => ?_)
  obtain ⟨σ1, eσ1, hf⟩ := ed_t_e hf
  have hM : ed_P D cy B (ed_sJ μ j σ1) H := by rw [eσ1]; exact hM
  refine lv_iconst (v := 0) S.1 S.2.1 dX5_copyClients_8 (by decide) ?_
  refine lv_istore_n (lv' := [(2, .int 0), (0, .ref (B + ed_oF j 0 0)), (1, .ref (B + ed_oF jo 0 0))]) S.1 S.2.1 dX5_copyClients_9 rfl hl (by decide) rfl (fun ls hl => ?_)
  exact w_X5_copyClients_10 hj hjo hne hτ S hr hlocks hK σ' ed_N 0 σ1 hf _ _ _ hM hS (lv_sub hl [1, 2, 0] rfl)
set_option maxHeartbeats 4000000 in
set_option maxRecDepth 100000 in
theorem c_X5_copyMade (l : Launch) (D : va_G) (cy : Nat → ClassId) (B : Nat) (μ : ed_CM) (j : Nat) (hj : j < 7) (x1 : Int32) (σ : ed_SM) (o : Option Nat) (hf : f_X5_copyMade x1 σ = some o) :
    Met l yX5_copyMade wsX5_copyMade rmX5_copyMade (ed_pC D cy (ed_P D cy B (ed_sJ μ j σ)) [.ref (B + ed_oF j 0 0), .int x1]) (ed_qA (ed_A B) (ed_P D cy B (ed_sJ μ j σ)) (o.map (fun n => B + ed_oF j 12 n))) 0 0 (ed_A B) := by
  refine Met.ofW (cc := cX5_copyMade) (maxL := 2) (ret := (some (.object "EmbargoDesk$Copy"))) (by decide) rfl ?_
  intro p e s m args below meth c s₁ B0 hml hv
  obtain ⟨rfl, hM, hK⟩ := hv
  have S : CallFix p m c cX5_copyMade 2 s _ ed_ws RX5 := ⟨B0.exec, B0.bytes, hml, findClass_of_methodNamed B0.named, fun w hw => atoms_spec (ws := wsX5_copyMade) B0.pre w (List.mem_cons_of_mem _ hw)⟩
  have hr := B0.returns
  have hlocks := B0.notSynchronized
  have hS : va_S (ed_A B) s.heap s.heap [] := va_S.rf
  have hl := lv_entry ([.ref (B + ed_oF j 0 0), .int x1]) (n := 2) (Nat.le_of_ble_eq_true rfl)
  rw [lg_entry_eq]
  generalize (lg_sl ([.ref (B + ed_oF j 0 0), .int x1]) ++ List.replicate (2 - (lg_sl ([.ref (B + ed_oF j 0 0), .int x1])).length) Slot.unset).toArray = ls at hl ⊢
  have hl : lv_has ls 2 [(0, .ref (B + ed_oF j 0 0)), (1, .int x1)] := hl
  unfold f_X5_copyMade at hf
  refine lv_iload_n S.1 S.2.1 dX5_copyMade_0 rfl (lv_at hl 1 rfl) ?_
  refine lv_aload_n S.1 S.2.1 dX5_copyMade_1 rfl (lv_at hl 0 rfl) ?_
  refine ed_get (r := (σ 0 0)) S ed_uX5 hK hM (ed_v0 hj 0) (ed_sJr μ j σ 0 0) (ed_e0 cy B j 0 _) rfl 5 (by decide) ed_w1_221 rfl rfl dX5_copyMade_2 ?_
  refine lv_aload_n S.1 S.2.1 dX5_copyMade_5 rfl (lv_at hl 0 rfl) ?_
  refine ed_get (r := (σ 0 0)) S ed_uX5 hK hM (ed_v0 hj 0) (ed_sJr μ j σ 0 0) (ed_e0 cy B j 0 _) rfl 9 (by decide) ed_w1_227 rfl rfl dX5_copyMade_6 ?_
  refine ed_len (r := (σ 5 0)) (v := 160) (ty := (.object "EmbargoDesk$Copy")) (t := 3) S hK hM (ed_v0 hj 5) (ed_sJr μ j σ 5 0) (ed_e5 cy B j 0 _) rfl (by decide) dX5_copyMade_9 ?_
  refine ed_min S hl.1 ed_w2_133 ed_w2_120 ed_w1_10 ed_w2_121 (Nat.le_of_ble_eq_true rfl) (Nat.le_of_ble_eq_true rfl) ⟨Nat.zero_le _, Nat.zero_le _⟩ dX5_copyMade_10 ?_
  refine ed_kI (ed_rN S hK hM (c_X8_isPlace _ D cy (ed_P D cy B (ed_sJ μ j σ)) (ed_A B) x1 (if 160 < (σ 0 0 5) then 160 else (σ 0 0 5))) ⟨va_cnB 2 S.2.2.2.2 (ed_gA ed_w2_107) rfl rfl rfl (ed_n4 hK) (S.2.2.2.2 _ ed_w1_1) hn_X8_isPlace ⟨Nat.le_of_ble_eq_true rfl, Nat.le_of_ble_eq_true rfl⟩, S.2.2.2.2 _ ed_w2_106, trivial⟩ rfl hl.1 rfl (Nat.le_of_ble_eq_true rfl) dX5_copyMade_13 ⟨Nat.zero_le _, Nat.zero_le _⟩) hS (fun H locs hM hS => ?_)
  refine lv_if_eq (tgt := 28) S.1 S.2.1 dX5_copyMade_16 (by decide) (fun c2 => ?_) (fun c2 => ?_)
  · replace hf := ed_ip c2 hf
    refine lv_null S.1 S.2.1 dX5_copyMade_28 ?_
    obtain rfl := Option.some.inj hf
    exact ed_ra S hr (Or.inl ⟨_, rfl⟩) hlocks rfl hM hS dX5_copyMade_29
  · replace hf := ed_in_ c2 hf
    refine lv_aload_n S.1 S.2.1 dX5_copyMade_19 rfl (lv_at hl 0 rfl) ?_
    refine ed_get (r := (σ 0 0)) S ed_uX5 hK hM (ed_v0 hj 0) (ed_sJr μ j σ 0 0) (ed_e0 cy B j 0 _) rfl 9 (by decide) ed_w1_227 rfl rfl dX5_copyMade_20 ?_
    refine lv_iload_n S.1 S.2.1 dX5_copyMade_23 rfl (lv_at hl 1 rfl) ?_
    obtain ⟨hx3, hf⟩ := ed_g_e hf
    refine ed_ald (r := (σ 5 0)) (v := .ref (B + ed_oF j 12 x1.toNatClampNeg)) S hK hM (ed_v0 hj 5) (ed_sJr μ j σ 5 0) (ed_e5 cy B j 0 _) (C := "EmbargoDesk$Copy") (t := 3) rfl hx3 rfl dX5_copyMade_24 ?_
    refine lv_goto (tgt := 29) S.1 S.2.1 dX5_copyMade_25 (by decide) ?_
    obtain rfl := Option.some.inj hf
    exact ed_ra S hr (Or.inl ⟨_, rfl⟩) hlocks rfl hM hS dX5_copyMade_29
set_option maxHeartbeats 4000000 in
set_option maxRecDepth 100000 in
theorem w_X5_copyCopies_10 {p : Program} {l : Launch} {e : Env} {s : State} {m : MethodId} {args : Array Value} {below : List Frame} {meth : Method} {c : Code} {D : va_G} {cy : Nat → ClassId} {B : Nat} {μ : ed_CM} {j : Nat} (hj : j < 7) {jo : Nat} (hjo : jo < 7) (hne : jo ≠ j) {τ : ed_SM} (hτ : μ jo = τ) (S : CallFix p m c cX5_copyCopies 5 s args ed_ws RX5) (hr : meth.sig.returnType = none) (hlocks : meth.locks = false) (hK : ed_K D cy s) (σ' : ed_SM) :
    ∀ (n : Nat), ∀ (x2 : Int32) (σ : ed_SM), f_X5_copyCopies_10 τ n x2 σ = some σ' → ∀ (H : Heap) (locs : List Loc) (ls : Array Slot), ed_P D cy B (ed_sJ μ j σ) H → va_S (ed_A B) s.heap H locs → lv_has ls 5 [(0, .ref (B + ed_oF j 0 0)), (1, .ref (B + ed_oF jo 0 0)), (2, .int x2)] → W p l e (headSpec wsX5_copyCopies rmX5_copyCopies).room s m args below meth c H locs 0 0 (MQ below (ed_qV (ed_A B) (ed_P D cy B (ed_sJ μ j σ'))) args s 0 0 (ed_A B)) (F0 m 10 ls []) := by
  intro n
  induction n with
  | zero => intro x2 σ hf; rw [f_X5_copyCopies_10] at hf; cases hf
  | succ n ih =>
    intro x2 σ hf H locs ls hM hS hl
    rw [f_X5_copyCopies_10] at hf
    refine lv_iload_n S.1 S.2.1 dX5_copyCopies_10 rfl (lv_at hl 2 rfl) ?_
    refine lv_aload_n S.1 S.2.1 dX5_copyCopies_11 rfl (lv_at hl 0 rfl) ?_
    refine ed_get (r := (σ 0 0)) S ed_uX5 hK hM (ed_v0 hj 0) (ed_sJr μ j σ 0 0) (ed_e0 cy B j 0 _) rfl 5 (by decide) ed_w1_221 rfl rfl dX5_copyCopies_12 ?_
    refine lv_icmp_ge (tgt := 52) S.1 S.2.1 dX5_copyCopies_15 (by decide) (fun c2 => ?_) (fun c2 => ?_)
    · replace hf := ed_ip c2 hf
      obtain rfl := Option.some.inj hf
      exact ed_rv S hr hlocks hM hS dX5_copyCopies_52
    · replace hf := ed_in_ c2 hf
      refine lv_aload_n S.1 S.2.1 dX5_copyCopies_18 rfl (lv_at hl 0 rfl) ?_
      refine lv_iload_n S.1 S.2.1 dX5_copyCopies_19 rfl (lv_at hl 2 rfl) ?_
      obtain ⟨o3, hq3, hf⟩ := ed_b_e hf
      refine ed_kA (ed_rV S hK hM (c_X5_copyMade _ D cy B μ j hj x2 σ o3 hq3) (cwV 1 S.2.2.2.2 (ed_gV ed_w2_156 ed_w2_157 ed_w2_158 ed_w1_2 ed_w2_159) rfl rfl rfl hd_X5_copyMade ⟨Nat.le_of_ble_eq_true rfl, Nat.le_of_ble_eq_true rfl⟩) (ed_rc (q := (RX5, TX5, 11)) (r := (σ 0 0)) hK hM (ed_v0 hj 0) (ed_sJr μ j σ 0 0) (ed_e0 cy B j 0 _) rfl) rfl hl.1 rfl (Nat.le_of_ble_eq_true rfl) dX5_copyCopies_20 ⟨Nat.zero_le _, Nat.zero_le _⟩) hS (fun H locs hM hS => ?_)
      cases o3 with
      | none =>
        dsimp only at hf
        refine W.eq (g2 := F0 m 23 ls (.null :: [])) rfl ?_
        refine lv_astore_nN (lv' := [(3, .null), (0, .ref (B + ed_oF j 0 0)), (1, .ref (B + ed_oF jo 0 0)), (2, .int x2)]) S.1 S.2.1 dX5_copyCopies_23 rfl hl (by decide) rfl (fun ls hl => ?_)
        refine lv_aload_n S.1 S.2.1 dX5_copyCopies_24 rfl (lv_at hl 2 rfl) ?_
        refine lv_iload_n S.1 S.2.1 dX5_copyCopies_25 rfl (lv_at hl 3 rfl) ?_
        obtain ⟨o4, hq4, hf⟩ := ed_b_e hf
        refine ed_kA (ed_rV S hK (ed_eta2 (ed_sJo μ σ hne hτ) hM) (c_X5_copyMade _ D cy B (ed_sJ μ j σ) jo hjo x2 τ o4 hq4) (cwV 1 S.2.2.2.2 (ed_gV ed_w2_156 ed_w2_157 ed_w2_158 ed_w1_2 ed_w2_159) rfl rfl rfl hd_X5_copyMade ⟨Nat.le_of_ble_eq_true rfl, Nat.le_of_ble_eq_true rfl⟩) (ed_rc (q := (RX5, TX5, 11)) (r := (τ 0 0)) hK hM (ed_v0 hjo 0) (ed_sJn μ σ hne hτ 0 0) (ed_e0 cy B jo 0 _) rfl) rfl hl.1 rfl (Nat.le_of_ble_eq_true rfl) dX5_copyCopies_26 ⟨Nat.zero_le _, Nat.zero_le _⟩) hS (fun H locs hM hS => ?_)
        have hM : ed_P D cy B (ed_sJ μ j σ) H := ed_eta3 (ed_sJo μ σ hne hτ) hM
        cases o4 with
        | none =>
          dsimp only at hf
          refine W.eq (g2 := F0 m 29 ls (.null :: [])) rfl ?_
          refine lv_astoreN (lv' := [(4, .null), (3, .null), (0, .ref (B + ed_oF j 0 0)), (1, .ref (B + ed_oF jo 0 0)), (2, .int x2)]) S.1 S.2.1 dX5_copyCopies_29 hl (by decide) rfl (fun ls hl => ?_)
          refine lv_aload_nN S.1 S.2.1 dX5_copyCopies_31 rfl (lv_at hl 1 rfl) ?_
          refine lv_ifnullN (tgt := 46) S.1 S.2.1 dX5_copyCopies_32 (by decide) ?_
          refine lv_iinc (v := x2 + 1) (lv' := [(2, .int (x2 + 1)), (4, .null), (3, .null), (0, .ref (B + ed_oF j 0 0)), (1, .ref (B + ed_oF jo 0 0))]) S.1 S.2.1 dX5_copyCopies_46 hl (k := 4) rfl rfl (by decide) rfl (fun ls hl => ?_)
          refine lv_goto (tgt := 10) S.1 S.2.1 dX5_copyCopies_49 (by decide) ?_
          exact ih (x2 + 1) σ hf _ _ _ hM hS (lv_sub hl [3, 4, 0] rfl)
        | some n4q =>
          dsimp only at hf
          obtain ⟨hn4q, hf⟩ := ed_g_e hf
          refine W.eq (g2 := F0 m 29 ls (.ref (B + ed_oF jo 12 n4q) :: [])) rfl ?_
          refine lv_astore (lv' := [(4, .ref (B + ed_oF jo 12 n4q)), (3, .null), (0, .ref (B + ed_oF j 0 0)), (1, .ref (B + ed_oF jo 0 0)), (2, .int x2)]) S.1 S.2.1 dX5_copyCopies_29 hl (by decide) rfl (fun ls hl => ?_)
          refine lv_aload_nN S.1 S.2.1 dX5_copyCopies_31 rfl (lv_at hl 1 rfl) ?_
          refine lv_ifnullN (tgt := 46) S.1 S.2.1 dX5_copyCopies_32 (by decide) ?_
          refine lv_iinc (v := x2 + 1) (lv' := [(2, .int (x2 + 1)), (4, .ref (B + ed_oF jo 12 n4q)), (3, .null), (0, .ref (B + ed_oF j 0 0)), (1, .ref (B + ed_oF jo 0 0))]) S.1 S.2.1 dX5_copyCopies_46 hl (k := 4) rfl rfl (by decide) rfl (fun ls hl => ?_)
          refine lv_goto (tgt := 10) S.1 S.2.1 dX5_copyCopies_49 (by decide) ?_
          exact ih (x2 + 1) σ hf _ _ _ hM hS (lv_sub hl [3, 4, 0] rfl)
      | some n3q =>
        dsimp only at hf
        obtain ⟨hn3q, hf⟩ := ed_g_e hf
        refine W.eq (g2 := F0 m 23 ls (.ref (B + ed_oF j 12 n3q) :: [])) rfl ?_
        refine lv_astore_n (lv' := [(3, .ref (B + ed_oF j 12 n3q)), (0, .ref (B + ed_oF j 0 0)), (1, .ref (B + ed_oF jo 0 0)), (2, .int x2)]) S.1 S.2.1 dX5_copyCopies_23 rfl hl (by decide) rfl (fun ls hl => ?_)
        refine lv_aload_n S.1 S.2.1 dX5_copyCopies_24 rfl (lv_at hl 2 rfl) ?_
        refine lv_iload_n S.1 S.2.1 dX5_copyCopies_25 rfl (lv_at hl 3 rfl) ?_
        obtain ⟨o5, hq5, hf⟩ := ed_b_e hf
        refine ed_kA (ed_rV S hK (ed_eta2 (ed_sJo μ σ hne hτ) hM) (c_X5_copyMade _ D cy B (ed_sJ μ j σ) jo hjo x2 τ o5 hq5) (cwV 1 S.2.2.2.2 (ed_gV ed_w2_156 ed_w2_157 ed_w2_158 ed_w1_2 ed_w2_159) rfl rfl rfl hd_X5_copyMade ⟨Nat.le_of_ble_eq_true rfl, Nat.le_of_ble_eq_true rfl⟩) (ed_rc (q := (RX5, TX5, 11)) (r := (τ 0 0)) hK hM (ed_v0 hjo 0) (ed_sJn μ σ hne hτ 0 0) (ed_e0 cy B jo 0 _) rfl) rfl hl.1 rfl (Nat.le_of_ble_eq_true rfl) dX5_copyCopies_26 ⟨Nat.zero_le _, Nat.zero_le _⟩) hS (fun H locs hM hS => ?_)
        have hM : ed_P D cy B (ed_sJ μ j σ) H := ed_eta3 (ed_sJo μ σ hne hτ) hM
        cases o5 with
        | none =>
          dsimp only at hf
          refine W.eq (g2 := F0 m 29 ls (.null :: [])) rfl ?_
          refine lv_astoreN (lv' := [(4, .null), (3, .ref (B + ed_oF j 12 n3q)), (0, .ref (B + ed_oF j 0 0)), (1, .ref (B + ed_oF jo 0 0)), (2, .int x2)]) S.1 S.2.1 dX5_copyCopies_29 hl (by decide) rfl (fun ls hl => ?_)
          refine lv_aload_n S.1 S.2.1 dX5_copyCopies_31 rfl (lv_at hl 1 rfl) ?_
          refine lv_ifnull S.1 S.2.1 dX5_copyCopies_32 ?_
          refine lv_aloadN S.1 S.2.1 dX5_copyCopies_35 (lv_at hl 0 rfl) ?_
          refine lv_ifnullN (tgt := 46) S.1 S.2.1 dX5_copyCopies_37 (by decide) ?_
          refine lv_iinc (v := x2 + 1) (lv' := [(2, .int (x2 + 1)), (4, .null), (3, .ref (B + ed_oF j 12 n3q)), (0, .ref (B + ed_oF j 0 0)), (1, .ref (B + ed_oF jo 0 0))]) S.1 S.2.1 dX5_copyCopies_46 hl (k := 4) rfl rfl (by decide) rfl (fun ls hl => ?_)
          refine lv_goto (tgt := 10) S.1 S.2.1 dX5_copyCopies_49 (by decide) ?_
          exact ih (x2 + 1) σ hf _ _ _ hM hS (lv_sub hl [3, 4, 0] rfl)
        | some n5q =>
          dsimp only at hf
          obtain ⟨hn5q, hf⟩ := ed_g_e hf
          refine W.eq (g2 := F0 m 29 ls (.ref (B + ed_oF jo 12 n5q) :: [])) rfl ?_
          refine lv_astore (lv' := [(4, .ref (B + ed_oF jo 12 n5q)), (3, .ref (B + ed_oF j 12 n3q)), (0, .ref (B + ed_oF j 0 0)), (1, .ref (B + ed_oF jo 0 0)), (2, .int x2)]) S.1 S.2.1 dX5_copyCopies_29 hl (by decide) rfl (fun ls hl => ?_)
          refine lv_aload_n S.1 S.2.1 dX5_copyCopies_31 rfl (lv_at hl 1 rfl) ?_
          refine lv_ifnull S.1 S.2.1 dX5_copyCopies_32 ?_
          refine lv_aload S.1 S.2.1 dX5_copyCopies_35 (lv_at hl 0 rfl) ?_
          refine lv_ifnull S.1 S.2.1 dX5_copyCopies_37 ?_
          refine lv_aload_n S.1 S.2.1 dX5_copyCopies_40 rfl (lv_at hl 1 rfl) ?_
          refine lv_aload S.1 S.2.1 dX5_copyCopies_41 (lv_at hl 0 rfl) ?_
          obtain ⟨σ6, hq6, hf⟩ := ed_b_e hf
          refine ed_kV (ed_rV S hK hM (c_X1_copyFrom _ D cy B μ j hj n3q hn3q n5q hn5q jo hjo hne τ hτ σ σ6 hq6) (cwV 1 S.2.2.2.2 (ed_gV ed_w2_160 ed_w2_161 ed_w2_162 ed_w1_6 ed_w2_163) rfl rfl rfl hd_X1_copyFrom ⟨Nat.le_of_ble_eq_true rfl, Nat.le_of_ble_eq_true rfl⟩) (ed_rc (q := (RX1, TX1, 6)) (r := (σ 12 n3q)) hK hM (ed_v12 hj hn3q) (ed_sJr μ j σ 12 n3q) (ed_e12 cy B j n3q _) rfl) rfl hl.1 rfl (Nat.le_of_ble_eq_true rfl) dX5_copyCopies_43 ⟨Nat.zero_le _, Nat.zero_le _⟩) hS (fun H locs hM hS => ?_)
          refine lv_iinc (v := x2 + 1) (lv' := [(2, .int (x2 + 1)), (4, .ref (B + ed_oF jo 12 n5q)), (3, .ref (B + ed_oF j 12 n3q)), (0, .ref (B + ed_oF j 0 0)), (1, .ref (B + ed_oF jo 0 0))]) S.1 S.2.1 dX5_copyCopies_46 hl (k := 4) rfl rfl (by decide) rfl (fun ls hl => ?_)
          refine lv_goto (tgt := 10) S.1 S.2.1 dX5_copyCopies_49 (by decide) ?_
          exact ih (x2 + 1) σ6 hf _ _ _ hM hS (lv_sub hl [3, 4, 0] rfl)
set_option maxHeartbeats 4000000 in
set_option maxRecDepth 100000 in
theorem c_X5_copyCopies (l : Launch) (D : va_G) (cy : Nat → ClassId) (B : Nat) (μ : ed_CM) (j : Nat) (hj : j < 7) (jo : Nat) (hjo : jo < 7) (hne : jo ≠ j) (τ : ed_SM) (hτ : μ jo = τ) (σ : ed_SM) (σ' : ed_SM) (hf : f_X5_copyCopies τ σ = some σ') :
    Met l yX5_copyCopies wsX5_copyCopies rmX5_copyCopies (ed_pC D cy (ed_P D cy B (ed_sJ μ j σ)) [.ref (B + ed_oF j 0 0), .ref (B + ed_oF jo 0 0)]) (ed_qV (ed_A B) (ed_P D cy B (ed_sJ μ j σ'))) 0 0 (ed_A B) := by
  refine Met.ofW (cc := cX5_copyCopies) (maxL := 5) (ret := none) (by decide) rfl ?_
  intro p e s m args below meth c s₁ B0 hml hv
  obtain ⟨rfl, hM, hK⟩ := hv
  have S : CallFix p m c cX5_copyCopies 5 s _ ed_ws RX5 := ⟨B0.exec, B0.bytes, hml, findClass_of_methodNamed B0.named, fun w hw => atoms_spec (ws := wsX5_copyCopies) B0.pre w (List.mem_cons_of_mem _ hw)⟩
  have hr := B0.returns
  have hlocks := B0.notSynchronized
  have hS : va_S (ed_A B) s.heap s.heap [] := va_S.rf
  have hl := lv_entry ([.ref (B + ed_oF j 0 0), .ref (B + ed_oF jo 0 0)]) (n := 5) (Nat.le_of_ble_eq_true rfl)
  rw [lg_entry_eq]
  generalize (lg_sl ([.ref (B + ed_oF j 0 0), .ref (B + ed_oF jo 0 0)]) ++ List.replicate (5 - (lg_sl ([.ref (B + ed_oF j 0 0), .ref (B + ed_oF jo 0 0)])).length) Slot.unset).toArray = ls at hl ⊢
  have hl : lv_has ls 5 [(0, .ref (B + ed_oF j 0 0)), (1, .ref (B + ed_oF jo 0 0))] := hl
  unfold f_X5_copyCopies at hf
  refine lv_aload_n S.1 S.2.1 dX5_copyCopies_0 rfl (lv_at hl 0 rfl) ?_
  refine lv_aload_n S.1 S.2.1 dX5_copyCopies_1 rfl (lv_at hl 1 rfl) ?_
  refine ed_get (r := (τ 0 0)) S ed_uX5 hK hM (ed_v0 hjo 0) (ed_sJn μ σ hne hτ 0 0) (ed_e0 cy B jo 0 _) rfl 5 (by decide) ed_w1_221 rfl rfl dX5_copyCopies_2 ?_
  refine ed_put (j := j) S ed_uX5 tyX5 tyX5_ok nmX5 hK hM hS (ed_v0 hj 0) (ed_e0 cy B j 0 _) rfl 5 (by decide) ed_w1_221 rfl rfl rfl rfl (Nat.le_of_ble_eq_true rfl) (ed_u0_5 cy B j 0 _ _) dX5_copyCopies_5 (fun H locs hM hS => ?_)
  obtain ⟨σ1, eσ1, hf⟩ := ed_t_e hf
  have hM : ed_P D cy B (ed_sJ μ j σ1) H := by rw [eσ1]; exact hM
  refine lv_iconst (v := 0) S.1 S.2.1 dX5_copyCopies_8 (by decide) ?_
  refine lv_istore_n (lv' := [(2, .int 0), (0, .ref (B + ed_oF j 0 0)), (1, .ref (B + ed_oF jo 0 0))]) S.1 S.2.1 dX5_copyCopies_9 rfl hl (by decide) rfl (fun ls hl => ?_)
  exact w_X5_copyCopies_10 hj hjo hne hτ S hr hlocks hK σ' ed_N 0 σ1 hf _ _ _ hM hS (lv_sub hl [1, 2, 0] rfl)
set_option maxHeartbeats 4000000 in
set_option maxRecDepth 100000 in
theorem c_X5_personAt (l : Launch) (D : va_G) (cy : Nat → ClassId) (B : Nat) (μ : ed_CM) (j : Nat) (hj : j < 7) (x1 : Int32) (σ : ed_SM) (o : Option Nat) (hf : f_X5_personAt x1 σ = some o) :
    Met l yX5_personAt wsX5_personAt rmX5_personAt (ed_pC D cy (ed_P D cy B (ed_sJ μ j σ)) [.ref (B + ed_oF j 0 0), .int x1]) (ed_qA (ed_A B) (ed_P D cy B (ed_sJ μ j σ)) (o.map (fun n => B + ed_oF j 13 n))) 0 0 (ed_A B) := by
  refine Met.ofW (cc := cX5_personAt) (maxL := 2) (ret := (some (.object "EmbargoDesk$Person"))) (by decide) rfl ?_
  intro p e s m args below meth c s₁ B0 hml hv
  obtain ⟨rfl, hM, hK⟩ := hv
  have S : CallFix p m c cX5_personAt 2 s _ ed_ws RX5 := ⟨B0.exec, B0.bytes, hml, findClass_of_methodNamed B0.named, fun w hw => atoms_spec (ws := wsX5_personAt) B0.pre w (List.mem_cons_of_mem _ hw)⟩
  have hr := B0.returns
  have hlocks := B0.notSynchronized
  have hS : va_S (ed_A B) s.heap s.heap [] := va_S.rf
  have hl := lv_entry ([.ref (B + ed_oF j 0 0), .int x1]) (n := 2) (Nat.le_of_ble_eq_true rfl)
  rw [lg_entry_eq]
  generalize (lg_sl ([.ref (B + ed_oF j 0 0), .int x1]) ++ List.replicate (2 - (lg_sl ([.ref (B + ed_oF j 0 0), .int x1])).length) Slot.unset).toArray = ls at hl ⊢
  have hl : lv_has ls 2 [(0, .ref (B + ed_oF j 0 0)), (1, .int x1)] := hl
  unfold f_X5_personAt at hf
  refine lv_iload_n S.1 S.2.1 dX5_personAt_0 rfl (lv_at hl 1 rfl) ?_
  refine lv_aload_n S.1 S.2.1 dX5_personAt_1 rfl (lv_at hl 0 rfl) ?_
  refine ed_get (r := (σ 0 0)) S ed_uX5 hK hM (ed_v0 hj 0) (ed_sJr μ j σ 0 0) (ed_e0 cy B j 0 _) rfl 10 (by decide) ed_w1_228 rfl rfl dX5_personAt_2 ?_
  refine ed_len (r := (σ 6 0)) (v := 10) (ty := (.object "EmbargoDesk$Person")) (t := 4) S hK hM (ed_v0 hj 6) (ed_sJr μ j σ 6 0) (ed_e6 cy B j 0 _) rfl (by decide) dX5_personAt_5 ?_
  refine ed_kI (ed_rN S hK hM (c_X8_isPlace _ D cy (ed_P D cy B (ed_sJ μ j σ)) (ed_A B) x1 10) ⟨va_cnB 2 S.2.2.2.2 (ed_gA ed_w2_107) rfl rfl rfl (ed_n4 hK) (S.2.2.2.2 _ ed_w1_1) hn_X8_isPlace ⟨Nat.le_of_ble_eq_true rfl, Nat.le_of_ble_eq_true rfl⟩, S.2.2.2.2 _ ed_w2_106, trivial⟩ rfl hl.1 rfl (Nat.le_of_ble_eq_true rfl) dX5_personAt_6 ⟨Nat.zero_le _, Nat.zero_le _⟩) hS (fun H locs hM hS => ?_)
  refine lv_if_eq (tgt := 21) S.1 S.2.1 dX5_personAt_9 (by decide) (fun c2 => ?_) (fun c2 => ?_)
  · replace hf := ed_ip c2 hf
    refine lv_null S.1 S.2.1 dX5_personAt_21 ?_
    obtain rfl := Option.some.inj hf
    exact ed_ra S hr (Or.inl ⟨_, rfl⟩) hlocks rfl hM hS dX5_personAt_22
  · replace hf := ed_in_ c2 hf
    refine lv_aload_n S.1 S.2.1 dX5_personAt_12 rfl (lv_at hl 0 rfl) ?_
    refine ed_get (r := (σ 0 0)) S ed_uX5 hK hM (ed_v0 hj 0) (ed_sJr μ j σ 0 0) (ed_e0 cy B j 0 _) rfl 10 (by decide) ed_w1_228 rfl rfl dX5_personAt_13 ?_
    refine lv_iload_n S.1 S.2.1 dX5_personAt_16 rfl (lv_at hl 1 rfl) ?_
    obtain ⟨hx3, hf⟩ := ed_g_e hf
    refine ed_ald (r := (σ 6 0)) (v := .ref (B + ed_oF j 13 x1.toNatClampNeg)) S hK hM (ed_v0 hj 6) (ed_sJr μ j σ 6 0) (ed_e6 cy B j 0 _) (C := "EmbargoDesk$Person") (t := 4) rfl hx3 rfl dX5_personAt_17 ?_
    refine lv_goto (tgt := 22) S.1 S.2.1 dX5_personAt_18 (by decide) ?_
    obtain rfl := Option.some.inj hf
    exact ed_ra S hr (Or.inl ⟨_, rfl⟩) hlocks rfl hM hS dX5_personAt_22
set_option maxHeartbeats 4000000 in
set_option maxRecDepth 100000 in
theorem w_X5_copyPersons_2 {p : Program} {l : Launch} {e : Env} {s : State} {m : MethodId} {args : Array Value} {below : List Frame} {meth : Method} {c : Code} {D : va_G} {cy : Nat → ClassId} {B : Nat} {μ : ed_CM} {j : Nat} (hj : j < 7) {jo : Nat} (hjo : jo < 7) (hne : jo ≠ j) {τ : ed_SM} (hτ : μ jo = τ) (S : CallFix p m c cX5_copyPersons 5 s args ed_ws RX5) (hr : meth.sig.returnType = none) (hlocks : meth.locks = false) (hK : ed_K D cy s) (σ' : ed_SM) :
    ∀ (n : Nat), ∀ (x2 : Int32) (σ : ed_SM), f_X5_copyPersons_2 τ n x2 σ = some σ' → ∀ (H : Heap) (locs : List Loc) (ls : Array Slot), ed_P D cy B (ed_sJ μ j σ) H → va_S (ed_A B) s.heap H locs → lv_has ls 5 [(0, .ref (B + ed_oF j 0 0)), (1, .ref (B + ed_oF jo 0 0)), (2, .int x2)] → W p l e (headSpec wsX5_copyPersons rmX5_copyPersons).room s m args below meth c H locs 0 0 (MQ below (ed_qV (ed_A B) (ed_P D cy B (ed_sJ μ j σ'))) args s 0 0 (ed_A B)) (F0 m 2 ls []) := by
  intro n
  induction n with
  | zero => intro x2 σ hf; rw [f_X5_copyPersons_2] at hf; cases hf
  | succ n ih =>
    intro x2 σ hf H locs ls hM hS hl
    rw [f_X5_copyPersons_2] at hf
    refine lv_iload_n S.1 S.2.1 dX5_copyPersons_2 rfl (lv_at hl 2 rfl) ?_
    refine lv_bipush (v := 10) S.1 S.2.1 dX5_copyPersons_3 (by decide) ?_
    refine lv_icmp_ge (tgt := 54) S.1 S.2.1 dX5_copyPersons_5 (by decide) (fun c1 => ?_) (fun c1 => ?_)
    · replace hf := ed_ip c1 hf
      obtain rfl := Option.some.inj hf
      exact ed_rv S hr hlocks hM hS dX5_copyPersons_54
    · replace hf := ed_in_ c1 hf
      refine lv_aload_n S.1 S.2.1 dX5_copyPersons_8 rfl (lv_at hl 0 rfl) ?_
      refine lv_iload_n S.1 S.2.1 dX5_copyPersons_9 rfl (lv_at hl 2 rfl) ?_
      obtain ⟨o2, hq2, hf⟩ := ed_b_e hf
      refine ed_kA (ed_rV S hK hM (c_X5_personAt _ D cy B μ j hj x2 σ o2 hq2) (cwV 1 S.2.2.2.2 (ed_gV ed_w2_168 ed_w2_169 ed_w2_170 ed_w1_2 ed_w2_171) rfl rfl rfl hd_X5_personAt ⟨Nat.le_of_ble_eq_true rfl, Nat.le_of_ble_eq_true rfl⟩) (ed_rc (q := (RX5, TX5, 11)) (r := (σ 0 0)) hK hM (ed_v0 hj 0) (ed_sJr μ j σ 0 0) (ed_e0 cy B j 0 _) rfl) rfl hl.1 rfl (Nat.le_of_ble_eq_true rfl) dX5_copyPersons_10 ⟨Nat.zero_le _, Nat.zero_le _⟩) hS (fun H locs hM hS => ?_)
      cases o2 with
      | none =>
        dsimp only at hf
        refine W.eq (g2 := F0 m 13 ls (.null :: [])) rfl ?_
        refine lv_astore_nN (lv' := [(3, .null), (0, .ref (B + ed_oF j 0 0)), (1, .ref (B + ed_oF jo 0 0)), (2, .int x2)]) S.1 S.2.1 dX5_copyPersons_13 rfl hl (by decide) rfl (fun ls hl => ?_)
        refine lv_aload_n S.1 S.2.1 dX5_copyPersons_14 rfl (lv_at hl 2 rfl) ?_
        refine lv_iload_n S.1 S.2.1 dX5_copyPersons_15 rfl (lv_at hl 3 rfl) ?_
        obtain ⟨o3, hq3, hf⟩ := ed_b_e hf
        refine ed_kA (ed_rV S hK (ed_eta2 (ed_sJo μ σ hne hτ) hM) (c_X5_personAt _ D cy B (ed_sJ μ j σ) jo hjo x2 τ o3 hq3) (cwV 1 S.2.2.2.2 (ed_gV ed_w2_168 ed_w2_169 ed_w2_170 ed_w1_2 ed_w2_171) rfl rfl rfl hd_X5_personAt ⟨Nat.le_of_ble_eq_true rfl, Nat.le_of_ble_eq_true rfl⟩) (ed_rc (q := (RX5, TX5, 11)) (r := (τ 0 0)) hK hM (ed_v0 hjo 0) (ed_sJn μ σ hne hτ 0 0) (ed_e0 cy B jo 0 _) rfl) rfl hl.1 rfl (Nat.le_of_ble_eq_true rfl) dX5_copyPersons_16 ⟨Nat.zero_le _, Nat.zero_le _⟩) hS (fun H locs hM hS => ?_)
        have hM : ed_P D cy B (ed_sJ μ j σ) H := ed_eta3 (ed_sJo μ σ hne hτ) hM
        cases o3 with
        | none =>
          dsimp only at hf
          refine W.eq (g2 := F0 m 19 ls (.null :: [])) rfl ?_
          refine lv_astoreN (lv' := [(4, .null), (3, .null), (0, .ref (B + ed_oF j 0 0)), (1, .ref (B + ed_oF jo 0 0)), (2, .int x2)]) S.1 S.2.1 dX5_copyPersons_19 hl (by decide) rfl (fun ls hl => ?_)
          refine lv_aload_nN S.1 S.2.1 dX5_copyPersons_21 rfl (lv_at hl 1 rfl) ?_
          refine lv_ifnullN (tgt := 48) S.1 S.2.1 dX5_copyPersons_22 (by decide) ?_
          refine lv_iinc (v := x2 + 1) (lv' := [(2, .int (x2 + 1)), (4, .null), (3, .null), (0, .ref (B + ed_oF j 0 0)), (1, .ref (B + ed_oF jo 0 0))]) S.1 S.2.1 dX5_copyPersons_48 hl (k := 4) rfl rfl (by decide) rfl (fun ls hl => ?_)
          refine lv_goto (tgt := 2) S.1 S.2.1 dX5_copyPersons_51 (by decide) ?_
          exact ih (x2 + 1) σ hf _ _ _ hM hS (lv_sub hl [3, 4, 0] rfl)
        | some n3q =>
          dsimp only at hf
          obtain ⟨hn3q, hf⟩ := ed_g_e hf
          refine W.eq (g2 := F0 m 19 ls (.ref (B + ed_oF jo 13 n3q) :: [])) rfl ?_
          refine lv_astore (lv' := [(4, .ref (B + ed_oF jo 13 n3q)), (3, .null), (0, .ref (B + ed_oF j 0 0)), (1, .ref (B + ed_oF jo 0 0)), (2, .int x2)]) S.1 S.2.1 dX5_copyPersons_19 hl (by decide) rfl (fun ls hl => ?_)
          refine lv_aload_nN S.1 S.2.1 dX5_copyPersons_21 rfl (lv_at hl 1 rfl) ?_
          refine lv_ifnullN (tgt := 48) S.1 S.2.1 dX5_copyPersons_22 (by decide) ?_
          refine lv_iinc (v := x2 + 1) (lv' := [(2, .int (x2 + 1)), (4, .ref (B + ed_oF jo 13 n3q)), (3, .null), (0, .ref (B + ed_oF j 0 0)), (1, .ref (B + ed_oF jo 0 0))]) S.1 S.2.1 dX5_copyPersons_48 hl (k := 4) rfl rfl (by decide) rfl (fun ls hl => ?_)
          refine lv_goto (tgt := 2) S.1 S.2.1 dX5_copyPersons_51 (by decide) ?_
          exact ih (x2 + 1) σ hf _ _ _ hM hS (lv_sub hl [3, 4, 0] rfl)
      | some n2q =>
        dsimp only at hf
        obtain ⟨hn2q, hf⟩ := ed_g_e hf
        refine W.eq (g2 := F0 m 13 ls (.ref (B + ed_oF j 13 n2q) :: [])) rfl ?_
        refine lv_astore_n (lv' := [(3, .ref (B + ed_oF j 13 n2q)), (0, .ref (B + ed_oF j 0 0)), (1, .ref (B + ed_oF jo 0 0)), (2, .int x2)]) S.1 S.2.1 dX5_copyPersons_13 rfl hl (by decide) rfl (fun ls hl => ?_)
        refine lv_aload_n S.1 S.2.1 dX5_copyPersons_14 rfl (lv_at hl 2 rfl) ?_
        refine lv_iload_n S.1 S.2.1 dX5_copyPersons_15 rfl (lv_at hl 3 rfl) ?_
        obtain ⟨o4, hq4, hf⟩ := ed_b_e hf
        refine ed_kA (ed_rV S hK (ed_eta2 (ed_sJo μ σ hne hτ) hM) (c_X5_personAt _ D cy B (ed_sJ μ j σ) jo hjo x2 τ o4 hq4) (cwV 1 S.2.2.2.2 (ed_gV ed_w2_168 ed_w2_169 ed_w2_170 ed_w1_2 ed_w2_171) rfl rfl rfl hd_X5_personAt ⟨Nat.le_of_ble_eq_true rfl, Nat.le_of_ble_eq_true rfl⟩) (ed_rc (q := (RX5, TX5, 11)) (r := (τ 0 0)) hK hM (ed_v0 hjo 0) (ed_sJn μ σ hne hτ 0 0) (ed_e0 cy B jo 0 _) rfl) rfl hl.1 rfl (Nat.le_of_ble_eq_true rfl) dX5_copyPersons_16 ⟨Nat.zero_le _, Nat.zero_le _⟩) hS (fun H locs hM hS => ?_)
        have hM : ed_P D cy B (ed_sJ μ j σ) H := ed_eta3 (ed_sJo μ σ hne hτ) hM
        cases o4 with
        | none =>
          dsimp only at hf
          refine W.eq (g2 := F0 m 19 ls (.null :: [])) rfl ?_
          refine lv_astoreN (lv' := [(4, .null), (3, .ref (B + ed_oF j 13 n2q)), (0, .ref (B + ed_oF j 0 0)), (1, .ref (B + ed_oF jo 0 0)), (2, .int x2)]) S.1 S.2.1 dX5_copyPersons_19 hl (by decide) rfl (fun ls hl => ?_)
          refine lv_aload_n S.1 S.2.1 dX5_copyPersons_21 rfl (lv_at hl 1 rfl) ?_
          refine lv_ifnull S.1 S.2.1 dX5_copyPersons_22 ?_
          refine lv_aloadN S.1 S.2.1 dX5_copyPersons_25 (lv_at hl 0 rfl) ?_
          refine lv_ifnullN (tgt := 48) S.1 S.2.1 dX5_copyPersons_27 (by decide) ?_
          refine lv_iinc (v := x2 + 1) (lv' := [(2, .int (x2 + 1)), (4, .null), (3, .ref (B + ed_oF j 13 n2q)), (0, .ref (B + ed_oF j 0 0)), (1, .ref (B + ed_oF jo 0 0))]) S.1 S.2.1 dX5_copyPersons_48 hl (k := 4) rfl rfl (by decide) rfl (fun ls hl => ?_)
          refine lv_goto (tgt := 2) S.1 S.2.1 dX5_copyPersons_51 (by decide) ?_
          exact ih (x2 + 1) σ hf _ _ _ hM hS (lv_sub hl [3, 4, 0] rfl)
        | some n4q =>
          dsimp only at hf
          obtain ⟨hn4q, hf⟩ := ed_g_e hf
          refine W.eq (g2 := F0 m 19 ls (.ref (B + ed_oF jo 13 n4q) :: [])) rfl ?_
          refine lv_astore (lv' := [(4, .ref (B + ed_oF jo 13 n4q)), (3, .ref (B + ed_oF j 13 n2q)), (0, .ref (B + ed_oF j 0 0)), (1, .ref (B + ed_oF jo 0 0)), (2, .int x2)]) S.1 S.2.1 dX5_copyPersons_19 hl (by decide) rfl (fun ls hl => ?_)
          refine lv_aload_n S.1 S.2.1 dX5_copyPersons_21 rfl (lv_at hl 1 rfl) ?_
          refine lv_ifnull S.1 S.2.1 dX5_copyPersons_22 ?_
          refine lv_aload S.1 S.2.1 dX5_copyPersons_25 (lv_at hl 0 rfl) ?_
          refine lv_ifnull S.1 S.2.1 dX5_copyPersons_27 ?_
          refine lv_aload_n S.1 S.2.1 dX5_copyPersons_30 rfl (lv_at hl 1 rfl) ?_
          refine lv_aload S.1 S.2.1 dX5_copyPersons_31 (lv_at hl 0 rfl) ?_
          refine ed_get (r := (τ 13 n4q)) S ed_uX4 hK hM (ed_v13 hjo hn4q) (ed_sJn μ σ hne hτ 13 n4q) (ed_e13 cy B jo n4q _) rfl 0 (by decide) ed_w1_201 rfl rfl dX5_copyPersons_33 ?_
          refine ed_put (j := j) S ed_uX4 tyX4 tyX4_ok nmX4 hK hM hS (ed_v13 hj hn2q) (ed_e13 cy B j n2q _) rfl 0 (by decide) ed_w1_201 rfl rfl rfl rfl (Nat.le_of_ble_eq_true rfl) (ed_u13_0 cy B j n2q _ _) dX5_copyPersons_36 (fun H locs hM hS => ?_)
          obtain ⟨σ5, eσ5, hf⟩ := ed_t_e hf
          have hM : ed_P D cy B (ed_sJ μ j σ5) H := by rw [eσ5]; exact hM
          refine lv_aload_n S.1 S.2.1 dX5_copyPersons_39 rfl (lv_at hl 1 rfl) ?_
          refine lv_aload S.1 S.2.1 dX5_copyPersons_40 (lv_at hl 0 rfl) ?_
          refine ed_get (r := (τ 13 n4q)) S ed_uX4 hK hM (ed_v13 hjo hn4q) (ed_sJn μ σ5 hne hτ 13 n4q) (ed_e13 cy B jo n4q _) rfl 1 (by decide) ed_w1_204 rfl rfl dX5_copyPersons_42 ?_
          refine ed_put (j := j) S ed_uX4 tyX4 tyX4_ok nmX4 hK hM hS (ed_v13 hj hn2q) (ed_e13 cy B j n2q _) rfl 1 (by decide) ed_w1_204 rfl rfl rfl rfl (Nat.le_of_ble_eq_true rfl) (ed_u13_1 cy B j n2q _ _) dX5_copyPersons_45 (fun H locs hM hS => ?_)
          obtain ⟨σ6, eσ6, hf⟩ := ed_t_e hf
          have hM : ed_P D cy B (ed_sJ μ j σ6) H := by rw [eσ6]; exact hM
          refine lv_iinc (v := x2 + 1) (lv' := [(2, .int (x2 + 1)), (4, .ref (B + ed_oF jo 13 n4q)), (3, .ref (B + ed_oF j 13 n2q)), (0, .ref (B + ed_oF j 0 0)), (1, .ref (B + ed_oF jo 0 0))]) S.1 S.2.1 dX5_copyPersons_48 hl (k := 4) rfl rfl (by decide) rfl (fun ls hl => ?_)
          refine lv_goto (tgt := 2) S.1 S.2.1 dX5_copyPersons_51 (by decide) ?_
          exact ih (x2 + 1) σ6 hf _ _ _ hM hS (lv_sub hl [3, 4, 0] rfl)
set_option maxHeartbeats 4000000 in
set_option maxRecDepth 100000 in
theorem c_X5_copyPersons (l : Launch) (D : va_G) (cy : Nat → ClassId) (B : Nat) (μ : ed_CM) (j : Nat) (hj : j < 7) (jo : Nat) (hjo : jo < 7) (hne : jo ≠ j) (τ : ed_SM) (hτ : μ jo = τ) (σ : ed_SM) (σ' : ed_SM) (hf : f_X5_copyPersons τ σ = some σ') :
    Met l yX5_copyPersons wsX5_copyPersons rmX5_copyPersons (ed_pC D cy (ed_P D cy B (ed_sJ μ j σ)) [.ref (B + ed_oF j 0 0), .ref (B + ed_oF jo 0 0)]) (ed_qV (ed_A B) (ed_P D cy B (ed_sJ μ j σ'))) 0 0 (ed_A B) := by
  refine Met.ofW (cc := cX5_copyPersons) (maxL := 5) (ret := none) (by decide) rfl ?_
  intro p e s m args below meth c s₁ B0 hml hv
  obtain ⟨rfl, hM, hK⟩ := hv
  have S : CallFix p m c cX5_copyPersons 5 s _ ed_ws RX5 := ⟨B0.exec, B0.bytes, hml, findClass_of_methodNamed B0.named, fun w hw => atoms_spec (ws := wsX5_copyPersons) B0.pre w (List.mem_cons_of_mem _ hw)⟩
  have hr := B0.returns
  have hlocks := B0.notSynchronized
  have hS : va_S (ed_A B) s.heap s.heap [] := va_S.rf
  have hl := lv_entry ([.ref (B + ed_oF j 0 0), .ref (B + ed_oF jo 0 0)]) (n := 5) (Nat.le_of_ble_eq_true rfl)
  rw [lg_entry_eq]
  generalize (lg_sl ([.ref (B + ed_oF j 0 0), .ref (B + ed_oF jo 0 0)]) ++ List.replicate (5 - (lg_sl ([.ref (B + ed_oF j 0 0), .ref (B + ed_oF jo 0 0)])).length) Slot.unset).toArray = ls at hl ⊢
  have hl : lv_has ls 5 [(0, .ref (B + ed_oF j 0 0)), (1, .ref (B + ed_oF jo 0 0))] := hl
  unfold f_X5_copyPersons at hf
  refine lv_iconst (v := 0) S.1 S.2.1 dX5_copyPersons_0 (by decide) ?_
  refine lv_istore_n (lv' := [(2, .int 0), (0, .ref (B + ed_oF j 0 0)), (1, .ref (B + ed_oF jo 0 0))]) S.1 S.2.1 dX5_copyPersons_1 rfl hl (by decide) rfl (fun ls hl => ?_)
  exact w_X5_copyPersons_2 hj hjo hne hτ S hr hlocks hK σ' ed_N 0 σ hf _ _ _ hM hS (lv_sub hl [1, 2, 0] rfl)
set_option maxHeartbeats 4000000 in
set_option maxRecDepth 100000 in
theorem c_X5_copyFrom (l : Launch) (D : va_G) (cy : Nat → ClassId) (B : Nat) (μ : ed_CM) (j : Nat) (hj : j < 7) (jo : Nat) (hjo : jo < 7) (hne : jo ≠ j) (τ : ed_SM) (hτ : μ jo = τ) (σ : ed_SM) (σ' : ed_SM) (hf : f_X5_copyFrom τ σ = some σ') :
    Met l yX5_copyFrom wsX5_copyFrom rmX5_copyFrom (ed_pC D cy (ed_P D cy B (ed_sJ μ j σ)) [.ref (B + ed_oF j 0 0), .ref (B + ed_oF jo 0 0)]) (ed_qV (ed_A B) (ed_P D cy B (ed_sJ μ j σ'))) 0 0 (ed_A B) := by
  refine Met.ofW (cc := cX5_copyFrom) (maxL := 2) (ret := none) (by decide) rfl ?_
  intro p e s m args below meth c s₁ B0 hml hv
  obtain ⟨rfl, hM, hK⟩ := hv
  have S : CallFix p m c cX5_copyFrom 2 s _ ed_ws RX5 := ⟨B0.exec, B0.bytes, hml, findClass_of_methodNamed B0.named, fun w hw => atoms_spec (ws := wsX5_copyFrom) B0.pre w (List.mem_cons_of_mem _ hw)⟩
  have hr := B0.returns
  have hlocks := B0.notSynchronized
  have hS : va_S (ed_A B) s.heap s.heap [] := va_S.rf
  have hl := lv_entry ([.ref (B + ed_oF j 0 0), .ref (B + ed_oF jo 0 0)]) (n := 2) (Nat.le_of_ble_eq_true rfl)
  rw [lg_entry_eq]
  generalize (lg_sl ([.ref (B + ed_oF j 0 0), .ref (B + ed_oF jo 0 0)]) ++ List.replicate (2 - (lg_sl ([.ref (B + ed_oF j 0 0), .ref (B + ed_oF jo 0 0)])).length) Slot.unset).toArray = ls at hl ⊢
  have hl : lv_has ls 2 [(0, .ref (B + ed_oF j 0 0)), (1, .ref (B + ed_oF jo 0 0))] := hl
  unfold f_X5_copyFrom at hf
  refine lv_aload_n S.1 S.2.1 dX5_copyFrom_0 rfl (lv_at hl 0 rfl) ?_
  refine lv_aload_n S.1 S.2.1 dX5_copyFrom_1 rfl (lv_at hl 1 rfl) ?_
  refine ed_get (r := (τ 0 0)) S ed_uX5 hK hM (ed_v0 hjo 0) (ed_sJn μ σ hne hτ 0 0) (ed_e0 cy B jo 0 _) rfl 0 (by decide) ed_w1_211 rfl rfl dX5_copyFrom_2 ?_
  refine ed_put (j := j) S ed_uX5 tyX5 tyX5_ok nmX5 hK hM hS (ed_v0 hj 0) (ed_e0 cy B j 0 _) rfl 0 (by decide) ed_w1_211 rfl rfl rfl rfl (Nat.le_of_ble_eq_true rfl) (ed_u0_0 cy B j 0 _ _) dX5_copyFrom_5 (fun H locs hM hS => ?_)
  obtain ⟨σ1, eσ1, hf⟩ := ed_t_e hf
  have hM : ed_P D cy B (ed_sJ μ j σ1) H := by rw [eσ1]; exact hM
  refine lv_aload_n S.1 S.2.1 dX5_copyFrom_8 rfl (lv_at hl 0 rfl) ?_
  refine lv_aload_n S.1 S.2.1 dX5_copyFrom_9 rfl (lv_at hl 1 rfl) ?_
  refine ed_get (r := (τ 0 0)) S ed_uX5 hK hM (ed_v0 hjo 0) (ed_sJn μ σ1 hne hτ 0 0) (ed_e0 cy B jo 0 _) rfl 1 (by decide) ed_w1_213 rfl rfl dX5_copyFrom_10 ?_
  refine ed_put (j := j) S ed_uX5 tyX5 tyX5_ok nmX5 hK hM hS (ed_v0 hj 0) (ed_e0 cy B j 0 _) rfl 1 (by decide) ed_w1_213 rfl rfl rfl rfl (Nat.le_of_ble_eq_true rfl) (ed_u0_1 cy B j 0 _ _) dX5_copyFrom_13 (fun H locs hM hS => ?_)
  obtain ⟨σ2, eσ2, hf⟩ := ed_t_e hf
  have hM : ed_P D cy B (ed_sJ μ j σ2) H := by rw [eσ2]; exact hM
  refine lv_aload_n S.1 S.2.1 dX5_copyFrom_16 rfl (lv_at hl 0 rfl) ?_
  refine lv_aload_n S.1 S.2.1 dX5_copyFrom_17 rfl (lv_at hl 1 rfl) ?_
  refine ed_get (r := (τ 0 0)) S ed_uX5 hK hM (ed_v0 hjo 0) (ed_sJn μ σ2 hne hτ 0 0) (ed_e0 cy B jo 0 _) rfl 2 (by decide) ed_w1_215 rfl rfl dX5_copyFrom_18 ?_
  refine ed_put (j := j) S ed_uX5 tyX5 tyX5_ok nmX5 hK hM hS (ed_v0 hj 0) (ed_e0 cy B j 0 _) rfl 2 (by decide) ed_w1_215 rfl rfl rfl rfl (Nat.le_of_ble_eq_true rfl) (ed_u0_2 cy B j 0 _ _) dX5_copyFrom_21 (fun H locs hM hS => ?_)
  obtain ⟨σ3, eσ3, hf⟩ := ed_t_e hf
  have hM : ed_P D cy B (ed_sJ μ j σ3) H := by rw [eσ3]; exact hM
  refine lv_aload_n S.1 S.2.1 dX5_copyFrom_24 rfl (lv_at hl 0 rfl) ?_
  refine ed_get (r := (σ3 0 0)) S ed_uX5 hK hM (ed_v0 hj 0) (ed_sJr μ j σ3 0 0) (ed_e0 cy B j 0 _) rfl 6 (by decide) ed_w1_223 rfl rfl dX5_copyFrom_25 ?_
  refine lv_aload_n S.1 S.2.1 dX5_copyFrom_28 rfl (lv_at hl 1 rfl) ?_
  refine ed_get (r := (τ 0 0)) S ed_uX5 hK hM (ed_v0 hjo 0) (ed_sJn μ σ3 hne hτ 0 0) (ed_e0 cy B jo 0 _) rfl 6 (by decide) ed_w1_223 rfl rfl dX5_copyFrom_29 ?_
  obtain ⟨σ4, hq4, hf⟩ := ed_b_e hf
  refine ed_kV (ed_rV S hK hM (c_X3_copyFrom _ D cy B μ j hj jo hjo hne τ hτ σ3 σ4 hq4) (cwV 1 S.2.2.2.2 (ed_gV ed_w2_112 ed_w2_113 ed_w2_114 ed_w1_3 ed_w2_115) rfl rfl rfl hd_X3_copyFrom ⟨Nat.le_of_ble_eq_true rfl, Nat.le_of_ble_eq_true rfl⟩) (ed_rc (q := (RX3, TX3, 3)) (r := (σ3 1 0)) hK hM (ed_v0 hj 1) (ed_sJr μ j σ3 1 0) (ed_e1 cy B j 0 _) rfl) rfl hl.1 rfl (Nat.le_of_ble_eq_true rfl) dX5_copyFrom_32 ⟨Nat.zero_le _, Nat.zero_le _⟩) hS (fun H locs hM hS => ?_)
  refine lv_aload_n S.1 S.2.1 dX5_copyFrom_35 rfl (lv_at hl 0 rfl) ?_
  refine lv_aload_n S.1 S.2.1 dX5_copyFrom_36 rfl (lv_at hl 1 rfl) ?_
  obtain ⟨σ5, hq5, hf⟩ := ed_b_e hf
  refine ed_kV (ed_rV S hK hM (c_X5_copyStories _ D cy B μ j hj jo hjo hne τ hτ σ4 σ5 hq5) (cwV 1 S.2.2.2.2 (ed_gV ed_w2_125 ed_w2_127 ed_wp_1 ed_w1_2 ed_w2_128) rfl rfl rfl hd_X5_copyStories ⟨Nat.le_of_ble_eq_true rfl, Nat.le_of_ble_eq_true rfl⟩) (ed_rc (q := (RX5, TX5, 11)) (r := (σ4 0 0)) hK hM (ed_v0 hj 0) (ed_sJr μ j σ4 0 0) (ed_e0 cy B j 0 _) rfl) rfl hl.1 rfl (Nat.le_of_ble_eq_true rfl) dX5_copyFrom_37 ⟨Nat.zero_le _, Nat.zero_le _⟩) hS (fun H locs hM hS => ?_)
  refine lv_aload_n S.1 S.2.1 dX5_copyFrom_40 rfl (lv_at hl 0 rfl) ?_
  refine lv_aload_n S.1 S.2.1 dX5_copyFrom_41 rfl (lv_at hl 1 rfl) ?_
  obtain ⟨σ6, hq6, hf⟩ := ed_b_e hf
  refine ed_kV (ed_rV S hK hM (c_X5_copyClients _ D cy B μ j hj jo hjo hne τ hτ σ5 σ6 hq6) (cwV 1 S.2.2.2.2 (ed_gV ed_w2_140 ed_w2_142 ed_wp_2 ed_w1_2 ed_w2_143) rfl rfl rfl hd_X5_copyClients ⟨Nat.le_of_ble_eq_true rfl, Nat.le_of_ble_eq_true rfl⟩) (ed_rc (q := (RX5, TX5, 11)) (r := (σ5 0 0)) hK hM (ed_v0 hj 0) (ed_sJr μ j σ5 0 0) (ed_e0 cy B j 0 _) rfl) rfl hl.1 rfl (Nat.le_of_ble_eq_true rfl) dX5_copyFrom_42 ⟨Nat.zero_le _, Nat.zero_le _⟩) hS (fun H locs hM hS => ?_)
  refine lv_aload_n S.1 S.2.1 dX5_copyFrom_45 rfl (lv_at hl 0 rfl) ?_
  refine lv_aload_n S.1 S.2.1 dX5_copyFrom_46 rfl (lv_at hl 1 rfl) ?_
  obtain ⟨σ7, hq7, hf⟩ := ed_b_e hf
  refine ed_kV (ed_rV S hK hM (c_X5_copyCopies _ D cy B μ j hj jo hjo hne τ hτ σ6 σ7 hq7) (cwV 1 S.2.2.2.2 (ed_gV ed_w2_152 ed_w2_154 ed_wp_3 ed_w1_2 ed_w2_155) rfl rfl rfl hd_X5_copyCopies ⟨Nat.le_of_ble_eq_true rfl, Nat.le_of_ble_eq_true rfl⟩) (ed_rc (q := (RX5, TX5, 11)) (r := (σ6 0 0)) hK hM (ed_v0 hj 0) (ed_sJr μ j σ6 0 0) (ed_e0 cy B j 0 _) rfl) rfl hl.1 rfl (Nat.le_of_ble_eq_true rfl) dX5_copyFrom_47 ⟨Nat.zero_le _, Nat.zero_le _⟩) hS (fun H locs hM hS => ?_)
  refine lv_aload_n S.1 S.2.1 dX5_copyFrom_50 rfl (lv_at hl 0 rfl) ?_
  refine lv_aload_n S.1 S.2.1 dX5_copyFrom_51 rfl (lv_at hl 1 rfl) ?_
  obtain ⟨σ8, hq8, hf⟩ := ed_b_e hf
  refine ed_kV (ed_rV S hK hM (c_X5_copyPersons _ D cy B μ j hj jo hjo hne τ hτ σ7 σ8 hq8) (cwV 1 S.2.2.2.2 (ed_gV ed_w2_164 ed_w2_166 ed_wp_4 ed_w1_2 ed_w2_167) rfl rfl rfl hd_X5_copyPersons ⟨Nat.le_of_ble_eq_true rfl, Nat.le_of_ble_eq_true rfl⟩) (ed_rc (q := (RX5, TX5, 11)) (r := (σ7 0 0)) hK hM (ed_v0 hj 0) (ed_sJr μ j σ7 0 0) (ed_e0 cy B j 0 _) rfl) rfl hl.1 rfl (Nat.le_of_ble_eq_true rfl) dX5_copyFrom_52 ⟨Nat.zero_le _, Nat.zero_le _⟩) hS (fun H locs hM hS => ?_)
  obtain rfl := Option.some.inj hf
  exact ed_rv S hr hlocks hM hS dX5_copyFrom_55
set_option maxHeartbeats 4000000 in
set_option maxRecDepth 100000 in
theorem w_X5_copyFor_2 {p : Program} {l : Launch} {e : Env} {s : State} {m : MethodId} {args : Array Value} {below : List Frame} {meth : Method} {c : Code} {D : va_G} {cy : Nat → ClassId} {B : Nat} {μ : ed_CM} {j : Nat} (hj : j < 7) (S : CallFix p m c cX5_copyFor 5 s args ed_ws RX5) (hr : meth.sig.returnType = (some (.object "EmbargoDesk$Copy"))) (hlocks : meth.locks = false) (hK : ed_K D cy s) (σ : ed_SM) (o : Option Nat) :
    ∀ (n : Nat), ∀ (x1 x2 x3 : Int32), f_X5_copyFor_2 σ n x1 x2 x3 = some o → ∀ (H : Heap) (locs : List Loc) (ls : Array Slot), ed_P D cy B (ed_sJ μ j σ) H → va_S (ed_A B) s.heap H locs → lv_has ls 5 [(0, .ref (B + ed_oF j 0 0)), (1, .int x1), (2, .int x2), (3, .int x3)] → W p l e (headSpec wsX5_copyFor rmX5_copyFor).room s m args below meth c H locs 0 0 (MQ below (ed_qA (ed_A B) (ed_P D cy B (ed_sJ μ j σ)) (o.map (fun n => B + ed_oF j 12 n))) args s 0 0 (ed_A B)) (F0 m 2 ls []) := by
  intro n
  induction n with
  | zero => intro x1 x2 x3 hf; rw [f_X5_copyFor_2] at hf; cases hf
  | succ n ih =>
    intro x1 x2 x3 hf H locs ls hM hS hl
    rw [f_X5_copyFor_2] at hf
    refine lv_iload_n S.1 S.2.1 dX5_copyFor_2 rfl (lv_at hl 3 rfl) ?_
    refine lv_aload_n S.1 S.2.1 dX5_copyFor_3 rfl (lv_at hl 0 rfl) ?_
    refine ed_get (r := (σ 0 0)) S ed_uX5 hK hM (ed_v0 hj 0) (ed_sJr μ j σ 0 0) (ed_e0 cy B j 0 _) rfl 5 (by decide) ed_w1_221 rfl rfl dX5_copyFor_4 ?_
    refine lv_icmp_ge (tgt := 49) S.1 S.2.1 dX5_copyFor_7 (by decide) (fun c1 => ?_) (fun c1 => ?_)
    · replace hf := ed_ip c1 hf
      refine lv_null S.1 S.2.1 dX5_copyFor_49 ?_
      obtain rfl := Option.some.inj hf
      exact ed_ra S hr (Or.inl ⟨_, rfl⟩) hlocks rfl hM hS dX5_copyFor_50
    · replace hf := ed_in_ c1 hf
      refine lv_aload_n S.1 S.2.1 dX5_copyFor_10 rfl (lv_at hl 0 rfl) ?_
      refine lv_iload_n S.1 S.2.1 dX5_copyFor_11 rfl (lv_at hl 3 rfl) ?_
      obtain ⟨o2, hq2, hf⟩ := ed_b_e hf
      refine ed_kA (ed_rV S hK hM (c_X5_copyMade _ D cy B μ j hj x3 σ o2 hq2) (cwV 1 S.2.2.2.2 (ed_gV ed_w2_156 ed_w2_157 ed_w2_158 ed_w1_2 ed_w2_159) rfl rfl rfl hd_X5_copyMade ⟨Nat.le_of_ble_eq_true rfl, Nat.le_of_ble_eq_true rfl⟩) (ed_rc (q := (RX5, TX5, 11)) (r := (σ 0 0)) hK hM (ed_v0 hj 0) (ed_sJr μ j σ 0 0) (ed_e0 cy B j 0 _) rfl) rfl hl.1 rfl (Nat.le_of_ble_eq_true rfl) dX5_copyFor_12 ⟨Nat.zero_le _, Nat.zero_le _⟩) hS (fun H locs hM hS => ?_)
      cases o2 with
      | none =>
        dsimp only at hf
        refine W.eq (g2 := F0 m 15 ls (.null :: [])) rfl ?_
        refine lv_astoreN (lv' := [(4, .null), (0, .ref (B + ed_oF j 0 0)), (1, .int x1), (2, .int x2), (3, .int x3)]) S.1 S.2.1 dX5_copyFor_15 hl (by decide) rfl (fun ls hl => ?_)
        refine lv_aloadN S.1 S.2.1 dX5_copyFor_17 (lv_at hl 0 rfl) ?_
        refine lv_ifnullN (tgt := 43) S.1 S.2.1 dX5_copyFor_19 (by decide) ?_
        refine lv_iinc (v := x3 + 1) (lv' := [(3, .int (x3 + 1)), (4, .null), (0, .ref (B + ed_oF j 0 0)), (1, .int x1), (2, .int x2)]) S.1 S.2.1 dX5_copyFor_43 hl (k := 4) rfl rfl (by decide) rfl (fun ls hl => ?_)
        refine lv_goto (tgt := 2) S.1 S.2.1 dX5_copyFor_46 (by decide) ?_
        exact ih x1 x2 (x3 + 1) hf _ _ _ hM hS (lv_sub hl [2, 3, 4, 0] rfl)
      | some n2q =>
        dsimp only at hf
        obtain ⟨hn2q, hf⟩ := ed_g_e hf
        refine W.eq (g2 := F0 m 15 ls (.ref (B + ed_oF j 12 n2q) :: [])) rfl ?_
        refine lv_astore (lv' := [(4, .ref (B + ed_oF j 12 n2q)), (0, .ref (B + ed_oF j 0 0)), (1, .int x1), (2, .int x2), (3, .int x3)]) S.1 S.2.1 dX5_copyFor_15 hl (by decide) rfl (fun ls hl => ?_)
        refine lv_aload S.1 S.2.1 dX5_copyFor_17 (lv_at hl 0 rfl) ?_
        refine lv_ifnull S.1 S.2.1 dX5_copyFor_19 ?_
        refine lv_aload S.1 S.2.1 dX5_copyFor_22 (lv_at hl 0 rfl) ?_
        refine ed_get (r := (σ 12 n2q)) S ed_uX1 hK hM (ed_v12 hj hn2q) (ed_sJr μ j σ 12 n2q) (ed_e12 cy B j n2q _) rfl 0 (by decide) ed_w1_165 rfl rfl dX5_copyFor_24 ?_
        refine lv_iload_n S.1 S.2.1 dX5_copyFor_27 rfl (lv_at hl 2 rfl) ?_
        refine lv_icmp_ne (tgt := 43) S.1 S.2.1 dX5_copyFor_28 (by decide) (fun c3 => ?_) (fun c3 => ?_)
        · replace hf := ed_in_ c3 hf
          refine lv_iinc (v := x3 + 1) (lv' := [(3, .int (x3 + 1)), (4, .ref (B + ed_oF j 12 n2q)), (0, .ref (B + ed_oF j 0 0)), (1, .int x1), (2, .int x2)]) S.1 S.2.1 dX5_copyFor_43 hl (k := 4) rfl rfl (by decide) rfl (fun ls hl => ?_)
          refine lv_goto (tgt := 2) S.1 S.2.1 dX5_copyFor_46 (by decide) ?_
          exact ih x1 x2 (x3 + 1) hf _ _ _ hM hS (lv_sub hl [2, 3, 4, 0] rfl)
        · replace hf := ed_ip c3 hf
          refine lv_aload S.1 S.2.1 dX5_copyFor_31 (lv_at hl 0 rfl) ?_
          refine ed_get (r := (σ 12 n2q)) S ed_uX1 hK hM (ed_v12 hj hn2q) (ed_sJr μ j σ 12 n2q) (ed_e12 cy B j n2q _) rfl 1 (by decide) ed_w1_168 rfl rfl dX5_copyFor_33 ?_
          refine lv_iload_n S.1 S.2.1 dX5_copyFor_36 rfl (lv_at hl 3 rfl) ?_
          refine lv_icmp_ne (tgt := 43) S.1 S.2.1 dX5_copyFor_37 (by decide) (fun c4 => ?_) (fun c4 => ?_)
          · replace hf := ed_in_ c4 hf
            refine lv_iinc (v := x3 + 1) (lv' := [(3, .int (x3 + 1)), (4, .ref (B + ed_oF j 12 n2q)), (0, .ref (B + ed_oF j 0 0)), (1, .int x1), (2, .int x2)]) S.1 S.2.1 dX5_copyFor_43 hl (k := 4) rfl rfl (by decide) rfl (fun ls hl => ?_)
            refine lv_goto (tgt := 2) S.1 S.2.1 dX5_copyFor_46 (by decide) ?_
            exact ih x1 x2 (x3 + 1) hf _ _ _ hM hS (lv_sub hl [2, 3, 4, 0] rfl)
          · replace hf := ed_ip c4 hf
            refine lv_aload S.1 S.2.1 dX5_copyFor_40 (lv_at hl 0 rfl) ?_
            obtain rfl := Option.some.inj hf
            exact ed_ra S hr (Or.inl ⟨_, rfl⟩) hlocks rfl hM hS dX5_copyFor_42
set_option maxHeartbeats 4000000 in
set_option maxRecDepth 100000 in
theorem c_X5_copyFor (l : Launch) (D : va_G) (cy : Nat → ClassId) (B : Nat) (μ : ed_CM) (j : Nat) (hj : j < 7) (x1 x2 : Int32) (σ : ed_SM) (o : Option Nat) (hf : f_X5_copyFor x1 x2 σ = some o) :
    Met l yX5_copyFor wsX5_copyFor rmX5_copyFor (ed_pC D cy (ed_P D cy B (ed_sJ μ j σ)) [.ref (B + ed_oF j 0 0), .int x1, .int x2]) (ed_qA (ed_A B) (ed_P D cy B (ed_sJ μ j σ)) (o.map (fun n => B + ed_oF j 12 n))) 0 0 (ed_A B) := by
  refine Met.ofW (cc := cX5_copyFor) (maxL := 5) (ret := (some (.object "EmbargoDesk$Copy"))) (by decide) rfl ?_
  intro p e s m args below meth c s₁ B0 hml hv
  obtain ⟨rfl, hM, hK⟩ := hv
  have S : CallFix p m c cX5_copyFor 5 s _ ed_ws RX5 := ⟨B0.exec, B0.bytes, hml, findClass_of_methodNamed B0.named, fun w hw => atoms_spec (ws := wsX5_copyFor) B0.pre w (List.mem_cons_of_mem _ hw)⟩
  have hr := B0.returns
  have hlocks := B0.notSynchronized
  have hS : va_S (ed_A B) s.heap s.heap [] := va_S.rf
  have hl := lv_entry ([.ref (B + ed_oF j 0 0), .int x1, .int x2]) (n := 5) (Nat.le_of_ble_eq_true rfl)
  rw [lg_entry_eq]
  generalize (lg_sl ([.ref (B + ed_oF j 0 0), .int x1, .int x2]) ++ List.replicate (5 - (lg_sl ([.ref (B + ed_oF j 0 0), .int x1, .int x2])).length) Slot.unset).toArray = ls at hl ⊢
  have hl : lv_has ls 5 [(0, .ref (B + ed_oF j 0 0)), (1, .int x1), (2, .int x2)] := hl
  unfold f_X5_copyFor at hf
  refine lv_iconst (v := 0) S.1 S.2.1 dX5_copyFor_0 (by decide) ?_
  refine lv_istore_n (lv' := [(3, .int 0), (0, .ref (B + ed_oF j 0 0)), (1, .int x1), (2, .int x2)]) S.1 S.2.1 dX5_copyFor_1 rfl hl (by decide) rfl (fun ls hl => ?_)
  exact w_X5_copyFor_2 hj S hr hlocks hK σ o ed_N x1 x2 0 hf _ _ _ hM hS (lv_sub hl [1, 2, 3, 0] rfl)
set_option maxHeartbeats 4000000 in
set_option maxRecDepth 100000 in
theorem w_X5_startDay_2 {p : Program} {l : Launch} {e : Env} {s : State} {m : MethodId} {args : Array Value} {below : List Frame} {meth : Method} {c : Code} {D : va_G} {cy : Nat → ClassId} {B : Nat} {μ : ed_CM} {j : Nat} (hj : j < 7) (S : CallFix p m c cX5_startDay 3 s args ed_ws RX5) (hr : meth.sig.returnType = none) (hlocks : meth.locks = false) (hK : ed_K D cy s) (σ' : ed_SM) :
    ∀ (n : Nat), ∀ (x1 : Int32) (σ : ed_SM), f_X5_startDay_2  n x1 σ = some σ' → ∀ (H : Heap) (locs : List Loc) (ls : Array Slot), ed_P D cy B (ed_sJ μ j σ) H → va_S (ed_A B) s.heap H locs → lv_has ls 3 [(0, .ref (B + ed_oF j 0 0)), (1, .int x1)] → W p l e (headSpec wsX5_startDay rmX5_startDay).room s m args below meth c H locs 0 0 (MQ below (ed_qV (ed_A B) (ed_P D cy B (ed_sJ μ j σ'))) args s 0 0 (ed_A B)) (F0 m 2 ls []) := by
  intro n
  induction n with
  | zero => intro x1 σ hf; rw [f_X5_startDay_2] at hf; cases hf
  | succ n ih =>
    intro x1 σ hf H locs ls hM hS hl
    rw [f_X5_startDay_2] at hf
    refine lv_iload_n S.1 S.2.1 dX5_startDay_2 rfl (lv_at hl 1 rfl) ?_
    refine lv_aload_n S.1 S.2.1 dX5_startDay_3 rfl (lv_at hl 0 rfl) ?_
    refine ed_get (r := (σ 0 0)) S ed_uX5 hK hM (ed_v0 hj 0) (ed_sJr μ j σ 0 0) (ed_e0 cy B j 0 _) rfl 4 (by decide) ed_w1_220 rfl rfl dX5_startDay_4 ?_
    refine lv_icmp_ge (tgt := 31) S.1 S.2.1 dX5_startDay_7 (by decide) (fun c1 => ?_) (fun c1 => ?_)
    · replace hf := ed_ip c1 hf
      obtain rfl := Option.some.inj hf
      exact ed_rv S hr hlocks hM hS dX5_startDay_31
    · replace hf := ed_in_ c1 hf
      refine lv_aload_n S.1 S.2.1 dX5_startDay_10 rfl (lv_at hl 0 rfl) ?_
      refine lv_iload_n S.1 S.2.1 dX5_startDay_11 rfl (lv_at hl 1 rfl) ?_
      obtain ⟨o2, hq2, hf⟩ := ed_b_e hf
      refine ed_kA (ed_rV S hK hM (c_X5_clientAt _ D cy B μ j hj x1 σ o2 hq2) (cwV 1 S.2.2.2.2 (ed_gV ed_w2_144 ed_w2_145 ed_w2_146 ed_w1_2 ed_w2_147) rfl rfl rfl hd_X5_clientAt ⟨Nat.le_of_ble_eq_true rfl, Nat.le_of_ble_eq_true rfl⟩) (ed_rc (q := (RX5, TX5, 11)) (r := (σ 0 0)) hK hM (ed_v0 hj 0) (ed_sJr μ j σ 0 0) (ed_e0 cy B j 0 _) rfl) rfl hl.1 rfl (Nat.le_of_ble_eq_true rfl) dX5_startDay_12 ⟨Nat.zero_le _, Nat.zero_le _⟩) hS (fun H locs hM hS => ?_)
      cases o2 with
      | none =>
        dsimp only at hf
        refine W.eq (g2 := F0 m 15 ls (.null :: [])) rfl ?_
        refine lv_astore_nN (lv' := [(2, .null), (0, .ref (B + ed_oF j 0 0)), (1, .int x1)]) S.1 S.2.1 dX5_startDay_15 rfl hl (by decide) rfl (fun ls hl => ?_)
        refine lv_aload_nN S.1 S.2.1 dX5_startDay_16 rfl (lv_at hl 0 rfl) ?_
        refine lv_ifnullN (tgt := 25) S.1 S.2.1 dX5_startDay_17 (by decide) ?_
        refine lv_iinc (v := x1 + 1) (lv' := [(1, .int (x1 + 1)), (2, .null), (0, .ref (B + ed_oF j 0 0))]) S.1 S.2.1 dX5_startDay_25 hl (k := 2) rfl rfl (by decide) rfl (fun ls hl => ?_)
        refine lv_goto (tgt := 2) S.1 S.2.1 dX5_startDay_28 (by decide) ?_
        exact ih (x1 + 1) σ hf _ _ _ hM hS (lv_sub hl [2, 0] rfl)
      | some n2q =>
        dsimp only at hf
        obtain ⟨hn2q, hf⟩ := ed_g_e hf
        refine W.eq (g2 := F0 m 15 ls (.ref (B + ed_oF j 11 n2q) :: [])) rfl ?_
        refine lv_astore_n (lv' := [(2, .ref (B + ed_oF j 11 n2q)), (0, .ref (B + ed_oF j 0 0)), (1, .int x1)]) S.1 S.2.1 dX5_startDay_15 rfl hl (by decide) rfl (fun ls hl => ?_)
        refine lv_aload_n S.1 S.2.1 dX5_startDay_16 rfl (lv_at hl 0 rfl) ?_
        refine lv_ifnull S.1 S.2.1 dX5_startDay_17 ?_
        refine lv_aload_n S.1 S.2.1 dX5_startDay_20 rfl (lv_at hl 0 rfl) ?_
        refine lv_iconst (v := 0) S.1 S.2.1 dX5_startDay_21 (by decide) ?_
        refine ed_put (j := j) S ed_uX0 tyX0 tyX0_ok nmX0 hK hM hS (ed_v11 hj hn2q) (ed_e11 cy B j n2q _) rfl 7 (by decide) ed_w1_130 rfl rfl rfl rfl (Nat.le_of_ble_eq_true rfl) (ed_u11_7 cy B j n2q _ _) dX5_startDay_22 (fun H locs hM hS => ?_)
        obtain ⟨σ3, eσ3, hf⟩ := ed_t_e hf
        have hM : ed_P D cy B (ed_sJ μ j σ3) H := by rw [eσ3]; exact hM
        refine lv_iinc (v := x1 + 1) (lv' := [(1, .int (x1 + 1)), (2, .ref (B + ed_oF j 11 n2q)), (0, .ref (B + ed_oF j 0 0))]) S.1 S.2.1 dX5_startDay_25 hl (k := 2) rfl rfl (by decide) rfl (fun ls hl => ?_)
        refine lv_goto (tgt := 2) S.1 S.2.1 dX5_startDay_28 (by decide) ?_
        exact ih (x1 + 1) σ3 hf _ _ _ hM hS (lv_sub hl [2, 0] rfl)
set_option maxHeartbeats 4000000 in
set_option maxRecDepth 100000 in
theorem c_X5_startDay (l : Launch) (D : va_G) (cy : Nat → ClassId) (B : Nat) (μ : ed_CM) (j : Nat) (hj : j < 7) (σ : ed_SM) (σ' : ed_SM) (hf : f_X5_startDay σ = some σ') :
    Met l yX5_startDay wsX5_startDay rmX5_startDay (ed_pC D cy (ed_P D cy B (ed_sJ μ j σ)) [.ref (B + ed_oF j 0 0)]) (ed_qV (ed_A B) (ed_P D cy B (ed_sJ μ j σ'))) 0 0 (ed_A B) := by
  refine Met.ofW (cc := cX5_startDay) (maxL := 3) (ret := none) (by decide) rfl ?_
  intro p e s m args below meth c s₁ B0 hml hv
  obtain ⟨rfl, hM, hK⟩ := hv
  have S : CallFix p m c cX5_startDay 3 s _ ed_ws RX5 := ⟨B0.exec, B0.bytes, hml, findClass_of_methodNamed B0.named, fun w hw => atoms_spec (ws := wsX5_startDay) B0.pre w (List.mem_cons_of_mem _ hw)⟩
  have hr := B0.returns
  have hlocks := B0.notSynchronized
  have hS : va_S (ed_A B) s.heap s.heap [] := va_S.rf
  have hl := lv_entry ([.ref (B + ed_oF j 0 0)]) (n := 3) (Nat.le_of_ble_eq_true rfl)
  rw [lg_entry_eq]
  generalize (lg_sl ([.ref (B + ed_oF j 0 0)]) ++ List.replicate (3 - (lg_sl ([.ref (B + ed_oF j 0 0)])).length) Slot.unset).toArray = ls at hl ⊢
  have hl : lv_has ls 3 [(0, .ref (B + ed_oF j 0 0))] := hl
  unfold f_X5_startDay at hf
  refine lv_iconst (v := 0) S.1 S.2.1 dX5_startDay_0 (by decide) ?_
  refine lv_istore_n (lv' := [(1, .int 0), (0, .ref (B + ed_oF j 0 0))]) S.1 S.2.1 dX5_startDay_1 rfl hl (by decide) rfl (fun ls hl => ?_)
  exact w_X5_startDay_2 hj S hr hlocks hK σ' ed_N 0 σ hf _ _ _ hM hS (lv_sub hl [1, 0] rfl)
set_option maxHeartbeats 4000000 in
set_option maxRecDepth 100000 in
theorem c_X5_planCopy (l : Launch) (D : va_G) (cy : Nat → ClassId) (B : Nat) (μ : ed_CM) (j : Nat) (hj : j < 7) (x1 x2 x3 : Int32) (σ : ed_SM) (σ' : ed_SM) (hf : f_X5_planCopy x1 x2 x3 σ = some σ') :
    Met l yX5_planCopy wsX5_planCopy rmX5_planCopy (ed_pC D cy (ed_P D cy B (ed_sJ μ j σ)) [.ref (B + ed_oF j 0 0), .int x1, .int x2, .int x3]) (ed_qV (ed_A B) (ed_P D cy B (ed_sJ μ j σ'))) 0 0 (ed_A B) := by
  refine Met.ofW (cc := cX5_planCopy) (maxL := 5) (ret := none) (by decide) rfl ?_
  intro p e s m args below meth c s₁ B0 hml hv
  obtain ⟨rfl, hM, hK⟩ := hv
  have S : CallFix p m c cX5_planCopy 5 s _ ed_ws RX5 := ⟨B0.exec, B0.bytes, hml, findClass_of_methodNamed B0.named, fun w hw => atoms_spec (ws := wsX5_planCopy) B0.pre w (List.mem_cons_of_mem _ hw)⟩
  have hr := B0.returns
  have hlocks := B0.notSynchronized
  have hS : va_S (ed_A B) s.heap s.heap [] := va_S.rf
  have hl := lv_entry ([.ref (B + ed_oF j 0 0), .int x1, .int x2, .int x3]) (n := 5) (Nat.le_of_ble_eq_true rfl)
  rw [lg_entry_eq]
  generalize (lg_sl ([.ref (B + ed_oF j 0 0), .int x1, .int x2, .int x3]) ++ List.replicate (5 - (lg_sl ([.ref (B + ed_oF j 0 0), .int x1, .int x2, .int x3])).length) Slot.unset).toArray = ls at hl ⊢
  have hl : lv_has ls 5 [(0, .ref (B + ed_oF j 0 0)), (1, .int x1), (2, .int x2), (3, .int x3)] := hl
  unfold f_X5_planCopy at hf
  refine lv_aload_n S.1 S.2.1 dX5_planCopy_0 rfl (lv_at hl 0 rfl) ?_
  refine ed_get (r := (σ 0 0)) S ed_uX5 hK hM (ed_v0 hj 0) (ed_sJr μ j σ 0 0) (ed_e0 cy B j 0 _) rfl 5 (by decide) ed_w1_221 rfl rfl dX5_planCopy_1 ?_
  refine lv_sipush (v := 160) S.1 S.2.1 dX5_planCopy_4 (by decide) ?_
  refine lv_icmp_lt (tgt := 11) S.1 S.2.1 dX5_planCopy_7 (by decide) (fun c1 => ?_) (fun c1 => ?_)
  · replace hf := ed_ip c1 hf
    refine lv_aload_n S.1 S.2.1 dX5_planCopy_11 rfl (lv_at hl 0 rfl) ?_
    refine lv_dup S.1 S.2.1 dX5_planCopy_12 rfl ?_
    refine ed_get (r := (σ 0 0)) S ed_uX5 hK hM (ed_v0 hj 0) (ed_sJr μ j σ 0 0) (ed_e0 cy B j 0 _) rfl 5 (by decide) ed_w1_221 rfl rfl dX5_planCopy_13 ?_
    refine lv_iconst (v := 1) S.1 S.2.1 dX5_planCopy_16 (by decide) ?_
    refine lv_iadd S.1 S.2.1 dX5_planCopy_17 ?_
    refine ed_put (j := j) S ed_uX5 tyX5 tyX5_ok nmX5 hK hM hS (ed_v0 hj 0) (ed_e0 cy B j 0 _) rfl 5 (by decide) ed_w1_221 rfl rfl rfl rfl (Nat.le_of_ble_eq_true rfl) (ed_u0_5 cy B j 0 _ _) dX5_planCopy_18 (fun H locs hM hS => ?_)
    obtain ⟨σ2, eσ2, hf⟩ := ed_t_e hf
    have hM : ed_P D cy B (ed_sJ μ j σ2) H := by rw [eσ2]; exact hM
    refine lv_aload_n S.1 S.2.1 dX5_planCopy_21 rfl (lv_at hl 0 rfl) ?_
    refine lv_aload_n S.1 S.2.1 dX5_planCopy_22 rfl (lv_at hl 0 rfl) ?_
    refine ed_get (r := (σ2 0 0)) S ed_uX5 hK hM (ed_v0 hj 0) (ed_sJr μ j σ2 0 0) (ed_e0 cy B j 0 _) rfl 5 (by decide) ed_w1_221 rfl rfl dX5_planCopy_23 ?_
    refine lv_iconst (v := 1) S.1 S.2.1 dX5_planCopy_26 (by decide) ?_
    refine lv_isub S.1 S.2.1 dX5_planCopy_27 ?_
    obtain ⟨o3, hq3, hf⟩ := ed_b_e hf
    refine ed_kA (ed_rV S hK hM (c_X5_copyMade _ D cy B μ j hj ((σ2 0 0 5) - 1) σ2 o3 hq3) (cwV 1 S.2.2.2.2 (ed_gV ed_w2_156 ed_w2_157 ed_w2_158 ed_w1_2 ed_w2_159) rfl rfl rfl hd_X5_copyMade ⟨Nat.le_of_ble_eq_true rfl, Nat.le_of_ble_eq_true rfl⟩) (ed_rc (q := (RX5, TX5, 11)) (r := (σ2 0 0)) hK hM (ed_v0 hj 0) (ed_sJr μ j σ2 0 0) (ed_e0 cy B j 0 _) rfl) rfl hl.1 rfl (Nat.le_of_ble_eq_true rfl) dX5_planCopy_28 ⟨Nat.zero_le _, Nat.zero_le _⟩) hS (fun H locs hM hS => ?_)
    cases o3 with
    | none =>
      dsimp only at hf
      refine W.eq (g2 := F0 m 31 ls (.null :: [])) rfl ?_
      refine lv_astoreN (lv' := [(4, .null), (0, .ref (B + ed_oF j 0 0)), (1, .int x1), (2, .int x2), (3, .int x3)]) S.1 S.2.1 dX5_planCopy_31 hl (by decide) rfl (fun ls hl => ?_)
      refine lv_aloadN S.1 S.2.1 dX5_planCopy_33 (lv_at hl 0 rfl) ?_
      refine lv_ifnullN (tgt := 46) S.1 S.2.1 dX5_planCopy_35 (by decide) ?_
      obtain rfl := Option.some.inj hf
      exact ed_rv S hr hlocks hM hS dX5_planCopy_46
    | some n3q =>
      dsimp only at hf
      obtain ⟨hn3q, hf⟩ := ed_g_e hf
      refine W.eq (g2 := F0 m 31 ls (.ref (B + ed_oF j 12 n3q) :: [])) rfl ?_
      refine lv_astore (lv' := [(4, .ref (B + ed_oF j 12 n3q)), (0, .ref (B + ed_oF j 0 0)), (1, .int x1), (2, .int x2), (3, .int x3)]) S.1 S.2.1 dX5_planCopy_31 hl (by decide) rfl (fun ls hl => ?_)
      refine lv_aload S.1 S.2.1 dX5_planCopy_33 (lv_at hl 0 rfl) ?_
      refine lv_ifnull S.1 S.2.1 dX5_planCopy_35 ?_
      refine lv_aload S.1 S.2.1 dX5_planCopy_38 (lv_at hl 0 rfl) ?_
      refine lv_iload_n S.1 S.2.1 dX5_planCopy_40 rfl (lv_at hl 2 rfl) ?_
      refine lv_iload_n S.1 S.2.1 dX5_planCopy_41 rfl (lv_at hl 3 rfl) ?_
      refine lv_iload_n S.1 S.2.1 dX5_planCopy_42 rfl (lv_at hl 4 rfl) ?_
      obtain ⟨σ4, hq4, hf⟩ := ed_b_e hf
      refine ed_kV (ed_rV S hK hM (c_X1_begin _ D cy B μ j hj n3q hn3q x1 x2 x3 σ2 σ4 hq4) (cwV 3 S.2.2.2.2 (ed_gV ed_w3_31 ed_w3_32 ed_w3_33 ed_w1_6 ed_w3_34) rfl rfl rfl hd_X1_begin ⟨Nat.le_of_ble_eq_true rfl, Nat.le_of_ble_eq_true rfl⟩) (ed_rc (q := (RX1, TX1, 6)) (r := (σ2 12 n3q)) hK hM (ed_v12 hj hn3q) (ed_sJr μ j σ2 12 n3q) (ed_e12 cy B j n3q _) rfl) rfl hl.1 rfl (Nat.le_of_ble_eq_true rfl) dX5_planCopy_43 ⟨Nat.zero_le _, Nat.zero_le _⟩) hS (fun H locs hM hS => ?_)
      obtain rfl := Option.some.inj hf
      exact ed_rv S hr hlocks hM hS dX5_planCopy_46
  · replace hf := ed_in_ c1 hf
    obtain rfl := Option.some.inj hf
    exact ed_rv S hr hlocks hM hS dX5_planCopy_10
set_option maxHeartbeats 4000000 in
set_option maxRecDepth 100000 in
theorem w_X5_publish_30 {p : Program} {l : Launch} {e : Env} {s : State} {m : MethodId} {args : Array Value} {below : List Frame} {meth : Method} {c : Code} {D : va_G} {cy : Nat → ClassId} {B : Nat} {μ : ed_CM} {j : Nat} (hj : j < 7) {n2 : Nat} (h2 : n2 < 20) (S : CallFix p m c cX5_publish 5 s args ed_ws RX5) (hr : meth.sig.returnType = none) (hlocks : meth.locks = false) (hK : ed_K D cy s) (σ' : ed_SM) :
    ∀ (n : Nat), ∀ (x1 x3 : Int32) (σ : ed_SM), f_X5_publish_30 n2 n x1 x3 σ = some σ' → ∀ (H : Heap) (locs : List Loc) (ls : Array Slot), ed_P D cy B (ed_sJ μ j σ) H → va_S (ed_A B) s.heap H locs → lv_has ls 5 [(0, .ref (B + ed_oF j 0 0)), (1, .int x1), (2, .ref (B + ed_oF j 7 n2)), (3, .int x3)] → W p l e (headSpec wsX5_publish rmX5_publish).room s m args below meth c H locs 0 0 (MQ below (ed_qV (ed_A B) (ed_P D cy B (ed_sJ μ j σ'))) args s 0 0 (ed_A B)) (F0 m 30 ls []) := by
  intro n
  induction n with
  | zero => intro x1 x3 σ hf; rw [f_X5_publish_30] at hf; cases hf
  | succ n ih =>
    intro x1 x3 σ hf H locs ls hM hS hl
    rw [f_X5_publish_30] at hf
    refine lv_iload_n S.1 S.2.1 dX5_publish_30 rfl (lv_at hl 3 rfl) ?_
    refine lv_aload_n S.1 S.2.1 dX5_publish_31 rfl (lv_at hl 0 rfl) ?_
    refine ed_get (r := (σ 0 0)) S ed_uX5 hK hM (ed_v0 hj 0) (ed_sJr μ j σ 0 0) (ed_e0 cy B j 0 _) rfl 4 (by decide) ed_w1_220 rfl rfl dX5_publish_32 ?_
    refine lv_icmp_ge (tgt := 84) S.1 S.2.1 dX5_publish_35 (by decide) (fun c4 => ?_) (fun c4 => ?_)
    · replace hf := ed_ip c4 hf
      obtain rfl := Option.some.inj hf
      exact ed_rv S hr hlocks hM hS dX5_publish_84
    · replace hf := ed_in_ c4 hf
      refine lv_aload_n S.1 S.2.1 dX5_publish_38 rfl (lv_at hl 0 rfl) ?_
      refine lv_iload_n S.1 S.2.1 dX5_publish_39 rfl (lv_at hl 3 rfl) ?_
      obtain ⟨o5, hq5, hf⟩ := ed_b_e hf
      refine ed_kA (ed_rV S hK hM (c_X5_clientAt _ D cy B μ j hj x3 σ o5 hq5) (cwV 1 S.2.2.2.2 (ed_gV ed_w2_144 ed_w2_145 ed_w2_146 ed_w1_2 ed_w2_147) rfl rfl rfl hd_X5_clientAt ⟨Nat.le_of_ble_eq_true rfl, Nat.le_of_ble_eq_true rfl⟩) (ed_rc (q := (RX5, TX5, 11)) (r := (σ 0 0)) hK hM (ed_v0 hj 0) (ed_sJr μ j σ 0 0) (ed_e0 cy B j 0 _) rfl) rfl hl.1 rfl (Nat.le_of_ble_eq_true rfl) dX5_publish_40 ⟨Nat.zero_le _, Nat.zero_le _⟩) hS (fun H locs hM hS => ?_)
      cases o5 with
      | none =>
        dsimp only at hf
        refine W.eq (g2 := F0 m 43 ls (.null :: [])) rfl ?_
        refine lv_astoreN (lv' := [(4, .null), (0, .ref (B + ed_oF j 0 0)), (1, .int x1), (2, .ref (B + ed_oF j 7 n2)), (3, .int x3)]) S.1 S.2.1 dX5_publish_43 hl (by decide) rfl (fun ls hl => ?_)
        refine lv_aloadN S.1 S.2.1 dX5_publish_45 (lv_at hl 0 rfl) ?_
        refine lv_ifnullN (tgt := 78) S.1 S.2.1 dX5_publish_47 (by decide) ?_
        refine lv_iinc (v := x3 + 1) (lv' := [(3, .int (x3 + 1)), (4, .null), (0, .ref (B + ed_oF j 0 0)), (1, .int x1), (2, .ref (B + ed_oF j 7 n2))]) S.1 S.2.1 dX5_publish_78 hl (k := 4) rfl rfl (by decide) rfl (fun ls hl => ?_)
        refine lv_goto (tgt := 30) S.1 S.2.1 dX5_publish_81 (by decide) ?_
        exact ih x1 (x3 + 1) σ hf _ _ _ hM hS (lv_sub hl [2, 3, 4, 0] rfl)
      | some n5q =>
        dsimp only at hf
        obtain ⟨hn5q, hf⟩ := ed_g_e hf
        refine W.eq (g2 := F0 m 43 ls (.ref (B + ed_oF j 11 n5q) :: [])) rfl ?_
        refine lv_astore (lv' := [(4, .ref (B + ed_oF j 11 n5q)), (0, .ref (B + ed_oF j 0 0)), (1, .int x1), (2, .ref (B + ed_oF j 7 n2)), (3, .int x3)]) S.1 S.2.1 dX5_publish_43 hl (by decide) rfl (fun ls hl => ?_)
        refine lv_aload S.1 S.2.1 dX5_publish_45 (lv_at hl 0 rfl) ?_
        refine lv_ifnull S.1 S.2.1 dX5_publish_47 ?_
        refine lv_aload S.1 S.2.1 dX5_publish_50 (lv_at hl 0 rfl) ?_
        refine lv_aload_n S.1 S.2.1 dX5_publish_52 rfl (lv_at hl 3 rfl) ?_
        refine ed_get (r := (σ 7 n2)) S ed_uX6 hK hM (ed_v7 hj h2 7) (ed_sJr μ j σ 7 n2) (ed_e7 cy B j n2 _) rfl 0 (by decide) ed_w1_58 rfl rfl dX5_publish_53 ?_
        refine ed_kI (ed_rV S hK hM (c_X0_hasTopic _ D cy B μ j hj n5q hn5q (σ 7 n2 0) σ) (cwV 1 S.2.2.2.2 (ed_gV ed_w3_23 ed_w3_24 ed_w3_25 ed_w1_5 ed_w3_26) rfl rfl rfl hd_X0_hasTopic ⟨Nat.le_of_ble_eq_true rfl, Nat.le_of_ble_eq_true rfl⟩) (ed_rc (q := (RX0, TX0, 10)) (r := (σ 11 n5q)) hK hM (ed_v11 hj hn5q) (ed_sJr μ j σ 11 n5q) (ed_e11 cy B j n5q _) rfl) rfl hl.1 rfl (Nat.le_of_ble_eq_true rfl) dX5_publish_56 ⟨Nat.zero_le _, Nat.zero_le _⟩) hS (fun H locs hM hS => ?_)
        refine lv_if_eq (tgt := 78) S.1 S.2.1 dX5_publish_59 (by decide) (fun c7 => ?_) (fun c7 => ?_)
        · replace hf := ed_ip c7 hf
          refine lv_iinc (v := x3 + 1) (lv' := [(3, .int (x3 + 1)), (4, .ref (B + ed_oF j 11 n5q)), (0, .ref (B + ed_oF j 0 0)), (1, .int x1), (2, .ref (B + ed_oF j 7 n2))]) S.1 S.2.1 dX5_publish_78 hl (k := 4) rfl rfl (by decide) rfl (fun ls hl => ?_)
          refine lv_goto (tgt := 30) S.1 S.2.1 dX5_publish_81 (by decide) ?_
          exact ih x1 (x3 + 1) σ hf _ _ _ hM hS (lv_sub hl [2, 3, 4, 0] rfl)
        · replace hf := ed_in_ c7 hf
          refine lv_aload_n S.1 S.2.1 dX5_publish_62 rfl (lv_at hl 1 rfl) ?_
          refine lv_iload_n S.1 S.2.1 dX5_publish_63 rfl (lv_at hl 2 rfl) ?_
          refine lv_iload_n S.1 S.2.1 dX5_publish_64 rfl (lv_at hl 4 rfl) ?_
          refine lv_aload_n S.1 S.2.1 dX5_publish_65 rfl (lv_at hl 1 rfl) ?_
          refine ed_get (r := (σ 0 0)) S ed_uX5 hK hM (ed_v0 hj 0) (ed_sJr μ j σ 0 0) (ed_e0 cy B j 0 _) rfl 0 (by decide) ed_w1_211 rfl rfl dX5_publish_66 ?_
          refine lv_aload S.1 S.2.1 dX5_publish_69 (lv_at hl 0 rfl) ?_
          refine ed_get (r := (σ 11 n5q)) S ed_uX0 hK hM (ed_v11 hj hn5q) (ed_sJr μ j σ 11 n5q) (ed_e11 cy B j n5q _) rfl 1 (by decide) ed_w1_113 rfl rfl dX5_publish_71 ?_
          refine lv_iadd S.1 S.2.1 dX5_publish_74 ?_
          obtain ⟨σ8, hq8, hf⟩ := ed_b_e hf
          refine ed_kV (ed_rV S hK hM (c_X5_planCopy _ D cy B μ j hj x1 x3 ((σ 0 0 0) + (σ 11 n5q 1)) σ σ8 hq8) (cwV 3 S.2.2.2.2 (ed_gV ed_w3_27 ed_w3_29 ed_wp_16 ed_w1_2 ed_w3_30) rfl rfl rfl hd_X5_planCopy ⟨Nat.le_of_ble_eq_true rfl, Nat.le_of_ble_eq_true rfl⟩) (ed_rc (q := (RX5, TX5, 11)) (r := (σ 0 0)) hK hM (ed_v0 hj 0) (ed_sJr μ j σ 0 0) (ed_e0 cy B j 0 _) rfl) rfl hl.1 rfl (Nat.le_of_ble_eq_true rfl) dX5_publish_75 ⟨Nat.zero_le _, Nat.zero_le _⟩) hS (fun H locs hM hS => ?_)
          refine lv_iinc (v := x3 + 1) (lv' := [(3, .int (x3 + 1)), (4, .ref (B + ed_oF j 11 n5q)), (0, .ref (B + ed_oF j 0 0)), (1, .int x1), (2, .ref (B + ed_oF j 7 n2))]) S.1 S.2.1 dX5_publish_78 hl (k := 4) rfl rfl (by decide) rfl (fun ls hl => ?_)
          refine lv_goto (tgt := 30) S.1 S.2.1 dX5_publish_81 (by decide) ?_
          exact ih x1 (x3 + 1) σ8 hf _ _ _ hM hS (lv_sub hl [2, 3, 4, 0] rfl)
set_option maxHeartbeats 4000000 in
set_option maxRecDepth 100000 in
theorem c_X5_publish (l : Launch) (D : va_G) (cy : Nat → ClassId) (B : Nat) (μ : ed_CM) (j : Nat) (hj : j < 7) (n2 : Nat) (h2 : n2 < 20) (x1 : Int32) (σ : ed_SM) (σ' : ed_SM) (hf : f_X5_publish n2 x1 σ = some σ') :
    Met l yX5_publish wsX5_publish rmX5_publish (ed_pC D cy (ed_P D cy B (ed_sJ μ j σ)) [.ref (B + ed_oF j 0 0), .int x1, .ref (B + ed_oF j 7 n2)]) (ed_qV (ed_A B) (ed_P D cy B (ed_sJ μ j σ'))) 0 0 (ed_A B) := by
  refine Met.ofW (cc := cX5_publish) (maxL := 5) (ret := none) (by decide) rfl ?_
  intro p e s m args below meth c s₁ B0 hml hv
  obtain ⟨rfl, hM, hK⟩ := hv
  have S : CallFix p m c cX5_publish 5 s _ ed_ws RX5 := ⟨B0.exec, B0.bytes, hml, findClass_of_methodNamed B0.named, fun w hw => atoms_spec (ws := wsX5_publish) B0.pre w (List.mem_cons_of_mem _ hw)⟩
  have hr := B0.returns
  have hlocks := B0.notSynchronized
  have hS : va_S (ed_A B) s.heap s.heap [] := va_S.rf
  have hl := lv_entry ([.ref (B + ed_oF j 0 0), .int x1, .ref (B + ed_oF j 7 n2)]) (n := 5) (Nat.le_of_ble_eq_true rfl)
  rw [lg_entry_eq]
  generalize (lg_sl ([.ref (B + ed_oF j 0 0), .int x1, .ref (B + ed_oF j 7 n2)]) ++ List.replicate (5 - (lg_sl ([.ref (B + ed_oF j 0 0), .int x1, .ref (B + ed_oF j 7 n2)])).length) Slot.unset).toArray = ls at hl ⊢
  have hl : lv_has ls 5 [(0, .ref (B + ed_oF j 0 0)), (1, .int x1), (2, .ref (B + ed_oF j 7 n2))] := hl
  unfold f_X5_publish at hf
  refine lv_aload_n S.1 S.2.1 dX5_publish_0 rfl (lv_at hl 2 rfl) ?_
  refine lv_iconst (v := 2) S.1 S.2.1 dX5_publish_1 (by decide) ?_
  refine ed_put (j := j) S ed_uX6 tyX6 tyX6_ok nmX6 hK hM hS (ed_v7 hj h2 7) (ed_e7 cy B j n2 _) rfl 6 (by decide) ed_w1_71 rfl rfl rfl rfl (Nat.le_of_ble_eq_true rfl) (ed_u7_6 cy B j n2 _ _) dX5_publish_2 (fun H locs hM hS => ?_)
  obtain ⟨σ1, eσ1, hf⟩ := ed_t_e hf
  have hM : ed_P D cy B (ed_sJ μ j σ1) H := by rw [eσ1]; exact hM
  refine lv_aload_n S.1 S.2.1 dX5_publish_5 rfl (lv_at hl 2 rfl) ?_
  refine lv_aload_n S.1 S.2.1 dX5_publish_6 rfl (lv_at hl 0 rfl) ?_
  refine ed_get (r := (σ1 0 0)) S ed_uX5 hK hM (ed_v0 hj 0) (ed_sJr μ j σ1 0 0) (ed_e0 cy B j 0 _) rfl 0 (by decide) ed_w1_211 rfl rfl dX5_publish_7 ?_
  refine ed_put (j := j) S ed_uX6 tyX6 tyX6_ok nmX6 hK hM hS (ed_v7 hj h2 7) (ed_e7 cy B j n2 _) rfl 9 (by decide) ed_w1_77 rfl rfl rfl rfl (Nat.le_of_ble_eq_true rfl) (ed_u7_9 cy B j n2 _ _) dX5_publish_10 (fun H locs hM hS => ?_)
  obtain ⟨σ2, eσ2, hf⟩ := ed_t_e hf
  have hM : ed_P D cy B (ed_sJ μ j σ2) H := by rw [eσ2]; exact hM
  refine lv_aload_n S.1 S.2.1 dX5_publish_13 rfl (lv_at hl 0 rfl) ?_
  refine ed_get (r := (σ2 0 0)) S ed_uX5 hK hM (ed_v0 hj 0) (ed_sJr μ j σ2 0 0) (ed_e0 cy B j 0 _) rfl 6 (by decide) ed_w1_223 rfl rfl dX5_publish_14 ?_
  refine lv_iconst (v := 0) S.1 S.2.1 dX5_publish_17 (by decide) ?_
  refine lv_iload_n S.1 S.2.1 dX5_publish_18 rfl (lv_at hl 1 rfl) ?_
  refine lv_bipush (v := (-5)) S.1 S.2.1 dX5_publish_19 (by decide) ?_
  refine lv_aload_n S.1 S.2.1 dX5_publish_21 rfl (lv_at hl 0 rfl) ?_
  refine ed_get (r := (σ2 0 0)) S ed_uX5 hK hM (ed_v0 hj 0) (ed_sJr μ j σ2 0 0) (ed_e0 cy B j 0 _) rfl 0 (by decide) ed_w1_211 rfl rfl dX5_publish_22 ?_
  obtain ⟨σ3, hq3, hf⟩ := ed_b_e hf
  refine ed_kV (ed_rV S hK hM (c_X3_add _ D cy B μ j hj 0 x1 (-5) (σ2 0 0 0) σ2 σ3 hq3) (cwV 4 S.2.2.2.2 (ed_gV ed_w3_17 ed_w3_18 ed_w3_19 ed_w1_3 ed_w3_20) rfl rfl rfl hd_X3_add ⟨Nat.le_of_ble_eq_true rfl, Nat.le_of_ble_eq_true rfl⟩) (ed_rc (q := (RX3, TX3, 3)) (r := (σ2 1 0)) hK hM (ed_v0 hj 1) (ed_sJr μ j σ2 1 0) (ed_e1 cy B j 0 _) rfl) rfl hl.1 rfl (Nat.le_of_ble_eq_true rfl) dX5_publish_25 ⟨Nat.zero_le _, Nat.zero_le _⟩) hS (fun H locs hM hS => ?_)
  refine lv_iconst (v := 0) S.1 S.2.1 dX5_publish_28 (by decide) ?_
  refine lv_istore_n (lv' := [(3, .int 0), (0, .ref (B + ed_oF j 0 0)), (1, .int x1), (2, .ref (B + ed_oF j 7 n2))]) S.1 S.2.1 dX5_publish_29 rfl hl (by decide) rfl (fun ls hl => ?_)
  exact w_X5_publish_30 hj h2 S hr hlocks hK σ' ed_N x1 0 σ3 hf _ _ _ hM hS (lv_sub hl [1, 2, 3, 0] rfl)
set_option maxHeartbeats 4000000 in
set_option maxRecDepth 100000 in
theorem w_X5_bill_74 {p : Program} {l : Launch} {e : Env} {s : State} {m : MethodId} {args : Array Value} {below : List Frame} {meth : Method} {c : Code} {D : va_G} {cy : Nat → ClassId} {B : Nat} {μ : ed_CM} {j : Nat} (hj : j < 7) {n1 : Nat} (h1 : n1 < 20) {n2 : Nat} (h2 : n2 < 8) (S : CallFix p m c cX5_bill 7 s args ed_ws RX5) (hr : meth.sig.returnType = none) (hlocks : meth.locks = false) (hK : ed_K D cy s) (σ' : ed_SM) :
    ∀ (n : Nat), ∀ (x3 x4 x5 : Int32) (σ : ed_SM), f_X5_bill_74 n1 n2 n x3 x4 x5 σ = some σ' → ∀ (H : Heap) (locs : List Loc) (ls : Array Slot), ed_P D cy B (ed_sJ μ j σ) H → va_S (ed_A B) s.heap H locs → lv_has ls 7 [(0, .ref (B + ed_oF j 0 0)), (1, .ref (B + ed_oF j 7 n1)), (3, .int x3), (4, .int x4), (5, .int x5)] → W p l e (headSpec wsX5_bill rmX5_bill).room s m args below meth c H locs 0 0 (MQ below (ed_qV (ed_A B) (ed_P D cy B (ed_sJ μ j σ'))) args s 0 0 (ed_A B)) (F0 m 74 ls []) := by
  intro n
  induction n with
  | zero => intro x3 x4 x5 σ hf; rw [f_X5_bill_74] at hf; cases hf
  | succ n ih =>
    intro x3 x4 x5 σ hf H locs ls hM hS hl
    rw [f_X5_bill_74] at hf
    refine lv_iload S.1 S.2.1 dX5_bill_74 (lv_at hl 4 rfl) ?_
    refine lv_aload_n S.1 S.2.1 dX5_bill_76 rfl (lv_at hl 1 rfl) ?_
    refine ed_get (r := (σ 7 n1)) S ed_uX6 hK hM (ed_v7 hj h1 7) (ed_sJr μ j σ 7 n1) (ed_e7 cy B j n1 _) rfl 1 (by decide) ed_w1_60 rfl rfl dX5_bill_77 ?_
    refine lv_icmp_ge (tgt := 124) S.1 S.2.1 dX5_bill_80 (by decide) (fun c8 => ?_) (fun c8 => ?_)
    · replace hf := ed_ip c8 hf
      obtain rfl := Option.some.inj hf
      exact ed_rv S hr hlocks hM hS dX5_bill_124
    · replace hf := ed_in_ c8 hf
      refine lv_aload_n S.1 S.2.1 dX5_bill_83 rfl (lv_at hl 0 rfl) ?_
      refine lv_aload_n S.1 S.2.1 dX5_bill_84 rfl (lv_at hl 1 rfl) ?_
      refine lv_iload S.1 S.2.1 dX5_bill_85 (lv_at hl 4 rfl) ?_
      obtain ⟨r9, hq9, hf⟩ := ed_b_e hf
      refine ed_kI (ed_rV S hK hM (c_X6_authorAt _ D cy B μ j hj n1 h1 x5 σ r9 hq9) (cwV 1 S.2.2.2.2 (ed_gV ed_w3_56 ed_w3_57 ed_w3_58 ed_w1_4 ed_w3_59) rfl rfl rfl hd_X6_authorAt ⟨Nat.le_of_ble_eq_true rfl, Nat.le_of_ble_eq_true rfl⟩) (ed_rc (q := (RX6, TX6, 11)) (r := (σ 7 n1)) hK hM (ed_v7 hj h1 7) (ed_sJr μ j σ 7 n1) (ed_e7 cy B j n1 _) rfl) rfl hl.1 rfl (Nat.le_of_ble_eq_true rfl) dX5_bill_87 ⟨Nat.zero_le _, Nat.zero_le _⟩) hS (fun H locs hM hS => ?_)
      obtain ⟨o10, hq10, hf⟩ := ed_b_e hf
      refine ed_kA (ed_rV S hK hM (c_X5_personAt _ D cy B μ j hj r9 σ o10 hq10) (cwV 1 S.2.2.2.2 (ed_gV ed_w2_168 ed_w2_169 ed_w2_170 ed_w1_2 ed_w2_171) rfl rfl rfl hd_X5_personAt ⟨Nat.le_of_ble_eq_true rfl, Nat.le_of_ble_eq_true rfl⟩) (ed_rc (q := (RX5, TX5, 11)) (r := (σ 0 0)) hK hM (ed_v0 hj 0) (ed_sJr μ j σ 0 0) (ed_e0 cy B j 0 _) rfl) rfl hl.1 rfl (Nat.le_of_ble_eq_true rfl) dX5_bill_90 ⟨Nat.zero_le _, Nat.zero_le _⟩) hS (fun H locs hM hS => ?_)
      cases o10 with
      | none =>
        dsimp only at hf
        refine W.eq (g2 := F0 m 93 ls (.null :: [])) rfl ?_
        refine lv_astoreN (lv' := [(6, .null), (0, .ref (B + ed_oF j 0 0)), (1, .ref (B + ed_oF j 7 n1)), (3, .int x3), (4, .int x4), (5, .int x5)]) S.1 S.2.1 dX5_bill_93 hl (by decide) rfl (fun ls hl => ?_)
        refine lv_aloadN S.1 S.2.1 dX5_bill_95 (lv_at hl 0 rfl) ?_
        refine lv_ifnullN (tgt := 118) S.1 S.2.1 dX5_bill_97 (by decide) ?_
        refine lv_iinc (v := x5 + 1) (lv' := [(5, .int (x5 + 1)), (6, .null), (0, .ref (B + ed_oF j 0 0)), (1, .ref (B + ed_oF j 7 n1)), (3, .int x3), (4, .int x4)]) S.1 S.2.1 dX5_bill_118 hl (k := 5) rfl rfl (by decide) rfl (fun ls hl => ?_)
        refine lv_goto (tgt := 74) S.1 S.2.1 dX5_bill_121 (by decide) ?_
        exact ih x3 x4 (x5 + 1) σ hf _ _ _ hM hS (lv_sub hl [2, 3, 4, 5, 0] rfl)
      | some n10q =>
        dsimp only at hf
        obtain ⟨hn10q, hf⟩ := ed_g_e hf
        refine W.eq (g2 := F0 m 93 ls (.ref (B + ed_oF j 13 n10q) :: [])) rfl ?_
        refine lv_astore (lv' := [(6, .ref (B + ed_oF j 13 n10q)), (0, .ref (B + ed_oF j 0 0)), (1, .ref (B + ed_oF j 7 n1)), (3, .int x3), (4, .int x4), (5, .int x5)]) S.1 S.2.1 dX5_bill_93 hl (by decide) rfl (fun ls hl => ?_)
        refine lv_aload S.1 S.2.1 dX5_bill_95 (lv_at hl 0 rfl) ?_
        refine lv_ifnull S.1 S.2.1 dX5_bill_97 ?_
        refine lv_aload S.1 S.2.1 dX5_bill_100 (lv_at hl 0 rfl) ?_
        refine lv_iload S.1 S.2.1 dX5_bill_102 (lv_at hl 5 rfl) ?_
        refine lv_if_ne (tgt := 114) S.1 S.2.1 dX5_bill_104 (by decide) (fun c11 => ?_) (fun c11 => ?_)
        · replace hf := ed_in_ c11 hf
          refine lv_iload_n S.1 S.2.1 dX5_bill_114 rfl (lv_at hl 3 rfl) ?_
          obtain ⟨σ12, hq12, hf⟩ := ed_b_e hf
          refine ed_kV (ed_rV S hK hM (c_X4_addShare _ D cy B μ j hj n10q hn10q x3 σ σ12 hq12) (cwV 1 S.2.2.2.2 (ed_gV ed_w3_62 ed_w3_63 ed_w3_64 ed_w1_7 ed_w3_65) rfl rfl rfl hd_X4_addShare ⟨Nat.le_of_ble_eq_true rfl, Nat.le_of_ble_eq_true rfl⟩) (ed_rc (q := (RX4, TX4, 2)) (r := (σ 13 n10q)) hK hM (ed_v13 hj hn10q) (ed_sJr μ j σ 13 n10q) (ed_e13 cy B j n10q _) rfl) rfl hl.1 rfl (Nat.le_of_ble_eq_true rfl) dX5_bill_115 ⟨Nat.zero_le _, Nat.zero_le _⟩) hS (fun H locs hM hS => ?_)
          refine lv_iinc (v := x5 + 1) (lv' := [(5, .int (x5 + 1)), (6, .ref (B + ed_oF j 13 n10q)), (0, .ref (B + ed_oF j 0 0)), (1, .ref (B + ed_oF j 7 n1)), (3, .int x3), (4, .int x4)]) S.1 S.2.1 dX5_bill_118 hl (k := 5) rfl rfl (by decide) rfl (fun ls hl => ?_)
          refine lv_goto (tgt := 74) S.1 S.2.1 dX5_bill_121 (by decide) ?_
          exact ih x3 x4 (x5 + 1) σ12 hf _ _ _ hM hS (lv_sub hl [2, 3, 4, 5, 0] rfl)
        · replace hf := ed_ip c11 hf
          refine lv_iload_n S.1 S.2.1 dX5_bill_107 rfl (lv_at hl 3 rfl) ?_
          refine lv_iload S.1 S.2.1 dX5_bill_108 (lv_at hl 4 rfl) ?_
          refine lv_iadd S.1 S.2.1 dX5_bill_110 ?_
          refine lv_goto (tgt := 115) S.1 S.2.1 dX5_bill_111 (by decide) ?_
          obtain ⟨σ13, hq13, hf⟩ := ed_b_e hf
          refine ed_kV (ed_rV S hK hM (c_X4_addShare _ D cy B μ j hj n10q hn10q (x3 + x4) σ σ13 hq13) (cwV 1 S.2.2.2.2 (ed_gV ed_w3_62 ed_w3_63 ed_w3_64 ed_w1_7 ed_w3_65) rfl rfl rfl hd_X4_addShare ⟨Nat.le_of_ble_eq_true rfl, Nat.le_of_ble_eq_true rfl⟩) (ed_rc (q := (RX4, TX4, 2)) (r := (σ 13 n10q)) hK hM (ed_v13 hj hn10q) (ed_sJr μ j σ 13 n10q) (ed_e13 cy B j n10q _) rfl) rfl hl.1 rfl (Nat.le_of_ble_eq_true rfl) dX5_bill_115 ⟨Nat.zero_le _, Nat.zero_le _⟩) hS (fun H locs hM hS => ?_)
          refine lv_iinc (v := x5 + 1) (lv' := [(5, .int (x5 + 1)), (6, .ref (B + ed_oF j 13 n10q)), (0, .ref (B + ed_oF j 0 0)), (1, .ref (B + ed_oF j 7 n1)), (3, .int x3), (4, .int x4)]) S.1 S.2.1 dX5_bill_118 hl (k := 5) rfl rfl (by decide) rfl (fun ls hl => ?_)
          refine lv_goto (tgt := 74) S.1 S.2.1 dX5_bill_121 (by decide) ?_
          exact ih x3 x4 (x5 + 1) σ13 hf _ _ _ hM hS (lv_sub hl [2, 3, 4, 5, 0] rfl)
set_option maxHeartbeats 4000000 in
set_option maxRecDepth 100000 in
theorem c_X5_bill (l : Launch) (D : va_G) (cy : Nat → ClassId) (B : Nat) (μ : ed_CM) (j : Nat) (hj : j < 7) (n1 : Nat) (h1 : n1 < 20) (n2 : Nat) (h2 : n2 < 8) (σ : ed_SM) (σ' : ed_SM) (hf : f_X5_bill n1 n2 σ = some σ') :
    Met l yX5_bill wsX5_bill rmX5_bill (ed_pC D cy (ed_P D cy B (ed_sJ μ j σ)) [.ref (B + ed_oF j 0 0), .ref (B + ed_oF j 7 n1), .ref (B + ed_oF j 11 n2)]) (ed_qV (ed_A B) (ed_P D cy B (ed_sJ μ j σ'))) 0 0 (ed_A B) := by
  refine Met.ofW (cc := cX5_bill) (maxL := 7) (ret := none) (by decide) rfl ?_
  intro p e s m args below meth c s₁ B0 hml hv
  obtain ⟨rfl, hM, hK⟩ := hv
  have S : CallFix p m c cX5_bill 7 s _ ed_ws RX5 := ⟨B0.exec, B0.bytes, hml, findClass_of_methodNamed B0.named, fun w hw => atoms_spec (ws := wsX5_bill) B0.pre w (List.mem_cons_of_mem _ hw)⟩
  have hr := B0.returns
  have hlocks := B0.notSynchronized
  have hS : va_S (ed_A B) s.heap s.heap [] := va_S.rf
  have hl := lv_entry ([.ref (B + ed_oF j 0 0), .ref (B + ed_oF j 7 n1), .ref (B + ed_oF j 11 n2)]) (n := 7) (Nat.le_of_ble_eq_true rfl)
  rw [lg_entry_eq]
  generalize (lg_sl ([.ref (B + ed_oF j 0 0), .ref (B + ed_oF j 7 n1), .ref (B + ed_oF j 11 n2)]) ++ List.replicate (7 - (lg_sl ([.ref (B + ed_oF j 0 0), .ref (B + ed_oF j 7 n1), .ref (B + ed_oF j 11 n2)])).length) Slot.unset).toArray = ls at hl ⊢
  have hl : lv_has ls 7 [(0, .ref (B + ed_oF j 0 0)), (1, .ref (B + ed_oF j 7 n1)), (2, .ref (B + ed_oF j 11 n2))] := hl
  unfold f_X5_bill at hf
  refine lv_aload_n S.1 S.2.1 dX5_bill_0 rfl (lv_at hl 2 rfl) ?_
  refine ed_get (r := (σ 11 n2)) S ed_uX0 hK hM (ed_v11 hj h2) (ed_sJr μ j σ 11 n2) (ed_e11 cy B j n2 _) rfl 6 (by decide) ed_w1_128 rfl rfl dX5_bill_1 ?_
  refine lv_i2l S.1 S.2.1 dX5_bill_4 rfl ?_
  refine lv_aload_n S.1 S.2.1 dX5_bill_5 rfl (lv_at hl 2 rfl) ?_
  refine ed_get (r := (σ 11 n2)) S ed_uX0 hK hM (ed_v11 hj h2) (ed_sJr μ j σ 11 n2) (ed_e11 cy B j n2 _) rfl 4 (by decide) ed_w1_121 rfl rfl dX5_bill_6 ?_
  refine lv_i2l S.1 S.2.1 dX5_bill_9 rfl ?_
  refine lv_ladd S.1 S.2.1 dX5_bill_10 ?_
  refine lv_ldc2 (v := 2147483647) S.1 S.2.1 S.2.2.2.1 (S.2.2.2.2 _ ed_w3_55) dX5_bill_11 ?_
  refine W.lcmp S.1 S.2.1 dX5_bill_14 ?_
  refine lv_if_le (tgt := 29) S.1 S.2.1 dX5_bill_15 (by decide) (fun c1 => ?_) (fun c1 => ?_)
  · replace hf := ed_ip c1 hf
    refine lv_aload_n S.1 S.2.1 dX5_bill_29 rfl (lv_at hl 2 rfl) ?_
    refine lv_dup S.1 S.2.1 dX5_bill_30 rfl ?_
    refine ed_get (r := (σ 11 n2)) S ed_uX0 hK hM (ed_v11 hj h2) (ed_sJr μ j σ 11 n2) (ed_e11 cy B j n2 _) rfl 6 (by decide) ed_w1_128 rfl rfl dX5_bill_31 ?_
    refine lv_aload_n S.1 S.2.1 dX5_bill_34 rfl (lv_at hl 2 rfl) ?_
    refine ed_get (r := (σ 11 n2)) S ed_uX0 hK hM (ed_v11 hj h2) (ed_sJr μ j σ 11 n2) (ed_e11 cy B j n2 _) rfl 4 (by decide) ed_w1_121 rfl rfl dX5_bill_35 ?_
    refine lv_iadd S.1 S.2.1 dX5_bill_38 ?_
    refine ed_put (j := j) S ed_uX0 tyX0 tyX0_ok nmX0 hK hM hS (ed_v11 hj h2) (ed_e11 cy B j n2 _) rfl 6 (by decide) ed_w1_128 rfl rfl rfl rfl (Nat.le_of_ble_eq_true rfl) (ed_u11_6 cy B j n2 _ _) dX5_bill_39 (fun H locs hM hS => ?_)
    obtain ⟨σ2, eσ2, hf⟩ := ed_t_e hf
    have hM : ed_P D cy B (ed_sJ μ j σ2) H := by rw [eσ2]; exact hM
    refine lv_aload_n S.1 S.2.1 dX5_bill_42 rfl (lv_at hl 1 rfl) ?_
    refine ed_get (r := (σ2 7 n1)) S ed_uX6 hK hM (ed_v7 hj h1 7) (ed_sJr μ j σ2 7 n1) (ed_e7 cy B j n1 _) rfl 1 (by decide) ed_w1_60 rfl rfl dX5_bill_43 ?_
    refine lv_if_gt (tgt := 50) S.1 S.2.1 dX5_bill_46 (by decide) (fun c3 => ?_) (fun c3 => ?_)
    · replace hf := ed_ip c3 hf
      refine lv_aload_n S.1 S.2.1 dX5_bill_50 rfl (lv_at hl 2 rfl) ?_
      refine ed_get (r := (σ2 11 n2)) S ed_uX0 hK hM (ed_v11 hj h2) (ed_sJr μ j σ2 11 n2) (ed_e11 cy B j n2 _) rfl 4 (by decide) ed_w1_121 rfl rfl dX5_bill_51 ?_
      refine lv_aload_n S.1 S.2.1 dX5_bill_54 rfl (lv_at hl 1 rfl) ?_
      refine ed_get (r := (σ2 7 n1)) S ed_uX6 hK hM (ed_v7 hj h1 7) (ed_sJr μ j σ2 7 n1) (ed_e7 cy B j n1 _) rfl 1 (by decide) ed_w1_60 rfl rfl dX5_bill_55 ?_
      obtain ⟨hz4, hf⟩ := ed_g_e hf
      refine lv_idiv S.1 S.2.1 dX5_bill_58 hz4 ?_
      obtain ⟨y5, ey5, hf⟩ := ed_t_e hf
      refine ed_nm ey5 ?_
      refine lv_istore_n (lv' := [(3, .int y5), (0, .ref (B + ed_oF j 0 0)), (1, .ref (B + ed_oF j 7 n1)), (2, .ref (B + ed_oF j 11 n2))]) S.1 S.2.1 dX5_bill_59 rfl hl (by decide) rfl (fun ls hl => ?_)
      refine lv_aload_n S.1 S.2.1 dX5_bill_60 rfl (lv_at hl 3 rfl) ?_
      refine ed_get (r := (σ2 11 n2)) S ed_uX0 hK hM (ed_v11 hj h2) (ed_sJr μ j σ2 11 n2) (ed_e11 cy B j n2 _) rfl 4 (by decide) ed_w1_121 rfl rfl dX5_bill_61 ?_
      refine lv_aload_n S.1 S.2.1 dX5_bill_64 rfl (lv_at hl 2 rfl) ?_
      refine ed_get (r := (σ2 7 n1)) S ed_uX6 hK hM (ed_v7 hj h1 7) (ed_sJr μ j σ2 7 n1) (ed_e7 cy B j n1 _) rfl 1 (by decide) ed_w1_60 rfl rfl dX5_bill_65 ?_
      obtain ⟨hz6, hf⟩ := ed_g_e hf
      refine lv_irem S.1 S.2.1 dX5_bill_68 hz6 ?_
      obtain ⟨y7, ey7, hf⟩ := ed_t_e hf
      refine ed_nm ey7 ?_
      refine lv_istore (lv' := [(4, .int y7), (3, .int y5), (0, .ref (B + ed_oF j 0 0)), (1, .ref (B + ed_oF j 7 n1)), (2, .ref (B + ed_oF j 11 n2))]) S.1 S.2.1 dX5_bill_69 hl (by decide) rfl (fun ls hl => ?_)
      refine lv_iconst (v := 0) S.1 S.2.1 dX5_bill_71 (by decide) ?_
      refine lv_istore (lv' := [(5, .int 0), (4, .int y7), (3, .int y5), (0, .ref (B + ed_oF j 0 0)), (1, .ref (B + ed_oF j 7 n1)), (2, .ref (B + ed_oF j 11 n2))]) S.1 S.2.1 dX5_bill_72 hl (by decide) rfl (fun ls hl => ?_)
      exact w_X5_bill_74 hj h1 h2 S hr hlocks hK σ' ed_N y5 y7 0 σ2 hf _ _ _ hM hS (lv_sub hl [3, 4, 2, 1, 0] rfl)
    · replace hf := ed_in_ c3 hf
      obtain rfl := Option.some.inj hf
      exact ed_rv S hr hlocks hM hS dX5_bill_49
  · replace hf := ed_in_ c1 hf
    refine lv_aload_n S.1 S.2.1 dX5_bill_18 rfl (lv_at hl 2 rfl) ?_
    refine lv_dup S.1 S.2.1 dX5_bill_19 rfl ?_
    refine ed_get (r := (σ 11 n2)) S ed_uX0 hK hM (ed_v11 hj h2) (ed_sJr μ j σ 11 n2) (ed_e11 cy B j n2 _) rfl 9 (by decide) ed_w1_136 rfl rfl dX5_bill_20 ?_
    refine lv_iconst (v := 1) S.1 S.2.1 dX5_bill_23 (by decide) ?_
    refine lv_iadd S.1 S.2.1 dX5_bill_24 ?_
    refine ed_put (j := j) S ed_uX0 tyX0 tyX0_ok nmX0 hK hM hS (ed_v11 hj h2) (ed_e11 cy B j n2 _) rfl 9 (by decide) ed_w1_136 rfl rfl rfl rfl (Nat.le_of_ble_eq_true rfl) (ed_u11_9 cy B j n2 _ _) dX5_bill_25 (fun H locs hM hS => ?_)
    obtain ⟨σ14, eσ14, hf⟩ := ed_t_e hf
    have hM : ed_P D cy B (ed_sJ μ j σ14) H := by rw [eσ14]; exact hM
    obtain rfl := Option.some.inj hf
    exact ed_rv S hr hlocks hM hS dX5_bill_28
set_option maxHeartbeats 4000000 in
set_option maxRecDepth 100000 in
theorem c_X5_startUse (l : Launch) (D : va_G) (cy : Nat → ClassId) (B : Nat) (μ : ed_CM) (j : Nat) (hj : j < 7) (n1 : Nat) (h1 : n1 < 160) (n2 : Nat) (h2 : n2 < 20) (n3 : Nat) (h3 : n3 < 8) (σ : ed_SM) (σ' : ed_SM) (hf : f_X5_startUse n1 n2 n3 σ = some σ') :
    Met l yX5_startUse wsX5_startUse rmX5_startUse (ed_pC D cy (ed_P D cy B (ed_sJ μ j σ)) [.ref (B + ed_oF j 0 0), .ref (B + ed_oF j 12 n1), .ref (B + ed_oF j 7 n2), .ref (B + ed_oF j 11 n3)]) (ed_qV (ed_A B) (ed_P D cy B (ed_sJ μ j σ'))) 0 0 (ed_A B) := by
  refine Met.ofW (cc := cX5_startUse) (maxL := 4) (ret := none) (by decide) rfl ?_
  intro p e s m args below meth c s₁ B0 hml hv
  obtain ⟨rfl, hM, hK⟩ := hv
  have S : CallFix p m c cX5_startUse 4 s _ ed_ws RX5 := ⟨B0.exec, B0.bytes, hml, findClass_of_methodNamed B0.named, fun w hw => atoms_spec (ws := wsX5_startUse) B0.pre w (List.mem_cons_of_mem _ hw)⟩
  have hr := B0.returns
  have hlocks := B0.notSynchronized
  have hS : va_S (ed_A B) s.heap s.heap [] := va_S.rf
  have hl := lv_entry ([.ref (B + ed_oF j 0 0), .ref (B + ed_oF j 12 n1), .ref (B + ed_oF j 7 n2), .ref (B + ed_oF j 11 n3)]) (n := 4) (Nat.le_of_ble_eq_true rfl)
  rw [lg_entry_eq]
  generalize (lg_sl ([.ref (B + ed_oF j 0 0), .ref (B + ed_oF j 12 n1), .ref (B + ed_oF j 7 n2), .ref (B + ed_oF j 11 n3)]) ++ List.replicate (4 - (lg_sl ([.ref (B + ed_oF j 0 0), .ref (B + ed_oF j 12 n1), .ref (B + ed_oF j 7 n2), .ref (B + ed_oF j 11 n3)])).length) Slot.unset).toArray = ls at hl ⊢
  have hl : lv_has ls 4 [(0, .ref (B + ed_oF j 0 0)), (1, .ref (B + ed_oF j 12 n1)), (2, .ref (B + ed_oF j 7 n2)), (3, .ref (B + ed_oF j 11 n3))] := hl
  unfold f_X5_startUse at hf
  refine lv_aload_n S.1 S.2.1 dX5_startUse_0 rfl (lv_at hl 1 rfl) ?_
  refine lv_iconst (v := 1) S.1 S.2.1 dX5_startUse_1 (by decide) ?_
  refine ed_put (j := j) S ed_uX1 tyX1 tyX1_ok nmX1 hK hM hS (ed_v12 hj h1) (ed_e12 cy B j n1 _) rfl 2 (by decide) ed_w1_171 rfl rfl rfl rfl (Nat.le_of_ble_eq_true rfl) (ed_u12_2 cy B j n1 _ _) dX5_startUse_2 (fun H locs hM hS => ?_)
  obtain ⟨σ1, eσ1, hf⟩ := ed_t_e hf
  have hM : ed_P D cy B (ed_sJ μ j σ1) H := by rw [eσ1]; exact hM
  refine lv_aload_n S.1 S.2.1 dX5_startUse_5 rfl (lv_at hl 1 rfl) ?_
  refine lv_aload_n S.1 S.2.1 dX5_startUse_6 rfl (lv_at hl 0 rfl) ?_
  refine ed_get (r := (σ1 0 0)) S ed_uX5 hK hM (ed_v0 hj 0) (ed_sJr μ j σ1 0 0) (ed_e0 cy B j 0 _) rfl 0 (by decide) ed_w1_211 rfl rfl dX5_startUse_7 ?_
  refine ed_put (j := j) S ed_uX1 tyX1 tyX1_ok nmX1 hK hM hS (ed_v12 hj h1) (ed_e12 cy B j n1 _) rfl 4 (by decide) ed_w1_177 rfl rfl rfl rfl (Nat.le_of_ble_eq_true rfl) (ed_u12_4 cy B j n1 _ _) dX5_startUse_10 (fun H locs hM hS => ?_)
  obtain ⟨σ2, eσ2, hf⟩ := ed_t_e hf
  have hM : ed_P D cy B (ed_sJ μ j σ2) H := by rw [eσ2]; exact hM
  refine lv_aload_n S.1 S.2.1 dX5_startUse_13 rfl (lv_at hl 1 rfl) ?_
  refine lv_aload_n S.1 S.2.1 dX5_startUse_14 rfl (lv_at hl 2 rfl) ?_
  refine ed_get (r := (σ2 7 n2)) S ed_uX6 hK hM (ed_v7 hj h2 7) (ed_sJr μ j σ2 7 n2) (ed_e7 cy B j n2 _) rfl 7 (by decide) ed_w1_74 rfl rfl dX5_startUse_15 ?_
  refine ed_put (j := j) S ed_uX1 tyX1 tyX1_ok nmX1 hK hM hS (ed_v12 hj h1) (ed_e12 cy B j n1 _) rfl 5 (by decide) ed_w1_180 rfl rfl rfl rfl (Nat.le_of_ble_eq_true rfl) (ed_u12_5 cy B j n1 _ _) dX5_startUse_18 (fun H locs hM hS => ?_)
  obtain ⟨σ3, eσ3, hf⟩ := ed_t_e hf
  have hM : ed_P D cy B (ed_sJ μ j σ3) H := by rw [eσ3]; exact hM
  refine lv_aload_n S.1 S.2.1 dX5_startUse_21 rfl (lv_at hl 3 rfl) ?_
  refine lv_dup S.1 S.2.1 dX5_startUse_22 rfl ?_
  refine ed_get (r := (σ3 11 n3)) S ed_uX0 hK hM (ed_v11 hj h3) (ed_sJr μ j σ3 11 n3) (ed_e11 cy B j n3 _) rfl 7 (by decide) ed_w1_130 rfl rfl dX5_startUse_23 ?_
  refine lv_iconst (v := 1) S.1 S.2.1 dX5_startUse_26 (by decide) ?_
  refine lv_iadd S.1 S.2.1 dX5_startUse_27 ?_
  refine ed_put (j := j) S ed_uX0 tyX0 tyX0_ok nmX0 hK hM hS (ed_v11 hj h3) (ed_e11 cy B j n3 _) rfl 7 (by decide) ed_w1_130 rfl rfl rfl rfl (Nat.le_of_ble_eq_true rfl) (ed_u11_7 cy B j n3 _ _) dX5_startUse_28 (fun H locs hM hS => ?_)
  obtain ⟨σ4, eσ4, hf⟩ := ed_t_e hf
  have hM : ed_P D cy B (ed_sJ μ j σ4) H := by rw [eσ4]; exact hM
  refine lv_aload_n S.1 S.2.1 dX5_startUse_31 rfl (lv_at hl 3 rfl) ?_
  refine lv_dup S.1 S.2.1 dX5_startUse_32 rfl ?_
  refine ed_get (r := (σ4 11 n3)) S ed_uX0 hK hM (ed_v11 hj h3) (ed_sJr μ j σ4 11 n3) (ed_e11 cy B j n3 _) rfl 8 (by decide) ed_w1_133 rfl rfl dX5_startUse_33 ?_
  refine lv_iconst (v := 1) S.1 S.2.1 dX5_startUse_36 (by decide) ?_
  refine lv_iadd S.1 S.2.1 dX5_startUse_37 ?_
  refine ed_put (j := j) S ed_uX0 tyX0 tyX0_ok nmX0 hK hM hS (ed_v11 hj h3) (ed_e11 cy B j n3 _) rfl 8 (by decide) ed_w1_133 rfl rfl rfl rfl (Nat.le_of_ble_eq_true rfl) (ed_u11_8 cy B j n3 _ _) dX5_startUse_38 (fun H locs hM hS => ?_)
  obtain ⟨σ5, eσ5, hf⟩ := ed_t_e hf
  have hM : ed_P D cy B (ed_sJ μ j σ5) H := by rw [eσ5]; exact hM
  refine lv_aload_n S.1 S.2.1 dX5_startUse_41 rfl (lv_at hl 0 rfl) ?_
  refine ed_get (r := (σ5 0 0)) S ed_uX5 hK hM (ed_v0 hj 0) (ed_sJr μ j σ5 0 0) (ed_e0 cy B j 0 _) rfl 6 (by decide) ed_w1_223 rfl rfl dX5_startUse_42 ?_
  refine lv_iconst (v := 1) S.1 S.2.1 dX5_startUse_45 (by decide) ?_
  refine lv_aload_n S.1 S.2.1 dX5_startUse_46 rfl (lv_at hl 1 rfl) ?_
  refine ed_get (r := (σ5 12 n1)) S ed_uX1 hK hM (ed_v12 hj h1) (ed_sJr μ j σ5 12 n1) (ed_e12 cy B j n1 _) rfl 0 (by decide) ed_w1_165 rfl rfl dX5_startUse_47 ?_
  refine lv_aload_n S.1 S.2.1 dX5_startUse_50 rfl (lv_at hl 1 rfl) ?_
  refine ed_get (r := (σ5 12 n1)) S ed_uX1 hK hM (ed_v12 hj h1) (ed_sJr μ j σ5 12 n1) (ed_e12 cy B j n1 _) rfl 1 (by decide) ed_w1_168 rfl rfl dX5_startUse_51 ?_
  refine lv_aload_n S.1 S.2.1 dX5_startUse_54 rfl (lv_at hl 0 rfl) ?_
  refine ed_get (r := (σ5 0 0)) S ed_uX5 hK hM (ed_v0 hj 0) (ed_sJr μ j σ5 0 0) (ed_e0 cy B j 0 _) rfl 0 (by decide) ed_w1_211 rfl rfl dX5_startUse_55 ?_
  obtain ⟨σ6, hq6, hf⟩ := ed_b_e hf
  refine ed_kV (ed_rV S hK hM (c_X3_add _ D cy B μ j hj 1 (σ5 12 n1 0) (σ5 12 n1 1) (σ5 0 0 0) σ5 σ6 hq6) (cwV 4 S.2.2.2.2 (ed_gV ed_w3_17 ed_w3_18 ed_w3_19 ed_w1_3 ed_w3_20) rfl rfl rfl hd_X3_add ⟨Nat.le_of_ble_eq_true rfl, Nat.le_of_ble_eq_true rfl⟩) (ed_rc (q := (RX3, TX3, 3)) (r := (σ5 1 0)) hK hM (ed_v0 hj 1) (ed_sJr μ j σ5 1 0) (ed_e1 cy B j 0 _) rfl) rfl hl.1 rfl (Nat.le_of_ble_eq_true rfl) dX5_startUse_58 ⟨Nat.zero_le _, Nat.zero_le _⟩) hS (fun H locs hM hS => ?_)
  refine lv_aload_n S.1 S.2.1 dX5_startUse_61 rfl (lv_at hl 0 rfl) ?_
  refine lv_aload_n S.1 S.2.1 dX5_startUse_62 rfl (lv_at hl 2 rfl) ?_
  refine lv_aload_n S.1 S.2.1 dX5_startUse_63 rfl (lv_at hl 3 rfl) ?_
  obtain ⟨σ7, hq7, hf⟩ := ed_b_e hf
  refine ed_kV (ed_rV S hK hM (c_X5_bill _ D cy B μ j hj n2 h2 n3 h3 σ6 σ7 hq7) (cwV 2 S.2.2.2.2 (ed_gV ed_w3_51 ed_w3_53 ed_wp_19 ed_w1_2 ed_w3_54) rfl rfl rfl hd_X5_bill ⟨Nat.le_of_ble_eq_true rfl, Nat.le_of_ble_eq_true rfl⟩) (ed_rc (q := (RX5, TX5, 11)) (r := (σ6 0 0)) hK hM (ed_v0 hj 0) (ed_sJr μ j σ6 0 0) (ed_e0 cy B j 0 _) rfl) rfl hl.1 rfl (Nat.le_of_ble_eq_true rfl) dX5_startUse_64 ⟨Nat.zero_le _, Nat.zero_le _⟩) hS (fun H locs hM hS => ?_)
  obtain rfl := Option.some.inj hf
  exact ed_rv S hr hlocks hM hS dX5_startUse_67
set_option maxHeartbeats 4000000 in
set_option maxRecDepth 100000 in
theorem c_X5_useEndsAt (l : Launch) (D : va_G) (cy : Nat → ClassId) (B : Nat) (μ : ed_CM) (j : Nat) (hj : j < 7) (n1 : Nat) (h1 : n1 < 160) (σ : ed_SM) :
    Met l yX5_useEndsAt wsX5_useEndsAt rmX5_useEndsAt (ed_pC D cy (ed_P D cy B (ed_sJ μ j σ)) [.ref (B + ed_oF j 0 0), .ref (B + ed_oF j 12 n1)]) (ed_qI (ed_A B) (ed_P D cy B (ed_sJ μ j σ)) (f_X5_useEndsAt n1 σ)) 0 0 (ed_A B) := by
  refine Met.ofW (cc := cX5_useEndsAt) (maxL := 2) (ret := (some .int)) (by decide) rfl ?_
  intro p e s m args below meth c s₁ B0 hml hv
  obtain ⟨rfl, hM, hK⟩ := hv
  have S : CallFix p m c cX5_useEndsAt 2 s _ ed_ws RX5 := ⟨B0.exec, B0.bytes, hml, findClass_of_methodNamed B0.named, fun w hw => atoms_spec (ws := wsX5_useEndsAt) B0.pre w (List.mem_cons_of_mem _ hw)⟩
  have hr := B0.returns
  have hlocks := B0.notSynchronized
  have hS : va_S (ed_A B) s.heap s.heap [] := va_S.rf
  have hl := lv_entry ([.ref (B + ed_oF j 0 0), .ref (B + ed_oF j 12 n1)]) (n := 2) (Nat.le_of_ble_eq_true rfl)
  rw [lg_entry_eq]
  generalize (lg_sl ([.ref (B + ed_oF j 0 0), .ref (B + ed_oF j 12 n1)]) ++ List.replicate (2 - (lg_sl ([.ref (B + ed_oF j 0 0), .ref (B + ed_oF j 12 n1)])).length) Slot.unset).toArray = ls at hl ⊢
  have hl : lv_has ls 2 [(0, .ref (B + ed_oF j 0 0)), (1, .ref (B + ed_oF j 12 n1))] := hl
  generalize hf : f_X5_useEndsAt n1 σ = r
  unfold f_X5_useEndsAt at hf
  refine lv_aload_n S.1 S.2.1 dX5_useEndsAt_0 rfl (lv_at hl 1 rfl) ?_
  refine ed_get (r := (σ 12 n1)) S ed_uX1 hK hM (ed_v12 hj h1) (ed_sJr μ j σ 12 n1) (ed_e12 cy B j n1 _) rfl 2 (by decide) ed_w1_171 rfl rfl dX5_useEndsAt_1 ?_
  refine lv_iconst (v := 1) S.1 S.2.1 dX5_useEndsAt_4 (by decide) ?_
  refine lv_icmp_ne (tgt := 23) S.1 S.2.1 dX5_useEndsAt_5 (by decide) (fun c1 => ?_) (fun c1 => ?_)
  · replace hf := ed_in_ c1 hf
    refine lv_bipush (v := (-5)) S.1 S.2.1 dX5_useEndsAt_23 (by decide) ?_
    subst hf
    exact ed_ri S hr hlocks hM hS dX5_useEndsAt_25
  · replace hf := ed_ip c1 hf
    refine lv_aload_n S.1 S.2.1 dX5_useEndsAt_8 rfl (lv_at hl 1 rfl) ?_
    refine ed_get (r := (σ 12 n1)) S ed_uX1 hK hM (ed_v12 hj h1) (ed_sJr μ j σ 12 n1) (ed_e12 cy B j n1 _) rfl 4 (by decide) ed_w1_177 rfl rfl dX5_useEndsAt_9 ?_
    refine lv_aload_n S.1 S.2.1 dX5_useEndsAt_12 rfl (lv_at hl 0 rfl) ?_
    refine ed_get (r := (σ 0 0)) S ed_uX5 hK hM (ed_v0 hj 0) (ed_sJr μ j σ 0 0) (ed_e0 cy B j 0 _) rfl 1 (by decide) ed_w1_213 rfl rfl dX5_useEndsAt_13 ?_
    refine lv_bipush (v := 24) S.1 S.2.1 dX5_useEndsAt_16 (by decide) ?_
    refine lv_imul S.1 S.2.1 dX5_useEndsAt_18 ?_
    refine lv_iadd S.1 S.2.1 dX5_useEndsAt_19 ?_
    refine lv_goto (tgt := 25) S.1 S.2.1 dX5_useEndsAt_20 (by decide) ?_
    subst hf
    exact ed_ri S hr hlocks hM hS dX5_useEndsAt_25
set_option maxHeartbeats 4000000 in
set_option maxRecDepth 100000 in
theorem c_X5_killNoticeAt (l : Launch) (D : va_G) (cy : Nat → ClassId) (B : Nat) (μ : ed_CM) (j : Nat) (hj : j < 7) (n1 : Nat) (h1 : n1 < 160) (σ : ed_SM) (r : Int32) (hf : f_X5_killNoticeAt n1 σ = some r) :
    Met l yX5_killNoticeAt wsX5_killNoticeAt rmX5_killNoticeAt (ed_pC D cy (ed_P D cy B (ed_sJ μ j σ)) [.ref (B + ed_oF j 0 0), .ref (B + ed_oF j 12 n1)]) (ed_qI (ed_A B) (ed_P D cy B (ed_sJ μ j σ)) r) 0 0 (ed_A B) := by
  refine Met.ofW (cc := cX5_killNoticeAt) (maxL := 4) (ret := (some .int)) (by decide) rfl ?_
  intro p e s m args below meth c s₁ B0 hml hv
  obtain ⟨rfl, hM, hK⟩ := hv
  have S : CallFix p m c cX5_killNoticeAt 4 s _ ed_ws RX5 := ⟨B0.exec, B0.bytes, hml, findClass_of_methodNamed B0.named, fun w hw => atoms_spec (ws := wsX5_killNoticeAt) B0.pre w (List.mem_cons_of_mem _ hw)⟩
  have hr := B0.returns
  have hlocks := B0.notSynchronized
  have hS : va_S (ed_A B) s.heap s.heap [] := va_S.rf
  have hl := lv_entry ([.ref (B + ed_oF j 0 0), .ref (B + ed_oF j 12 n1)]) (n := 4) (Nat.le_of_ble_eq_true rfl)
  rw [lg_entry_eq]
  generalize (lg_sl ([.ref (B + ed_oF j 0 0), .ref (B + ed_oF j 12 n1)]) ++ List.replicate (4 - (lg_sl ([.ref (B + ed_oF j 0 0), .ref (B + ed_oF j 12 n1)])).length) Slot.unset).toArray = ls at hl ⊢
  have hl : lv_has ls 4 [(0, .ref (B + ed_oF j 0 0)), (1, .ref (B + ed_oF j 12 n1))] := hl
  unfold f_X5_killNoticeAt at hf
  refine lv_aload_n S.1 S.2.1 dX5_killNoticeAt_0 rfl (lv_at hl 0 rfl) ?_
  refine lv_aload_n S.1 S.2.1 dX5_killNoticeAt_1 rfl (lv_at hl 1 rfl) ?_
  refine ed_get (r := (σ 12 n1)) S ed_uX1 hK hM (ed_v12 hj h1) (ed_sJr μ j σ 12 n1) (ed_e12 cy B j n1 _) rfl 0 (by decide) ed_w1_165 rfl rfl dX5_killNoticeAt_2 ?_
  obtain ⟨o1, hq1, hf⟩ := ed_b_e hf
  refine ed_kA (ed_rV S hK hM (c_X5_storyAt _ D cy B μ j hj (σ 12 n1 0) σ o1 hq1) (cwV 1 S.2.2.2.2 (ed_gV ed_w2_129 ed_w2_130 ed_w2_131 ed_w1_2 ed_w2_132) rfl rfl rfl hd_X5_storyAt ⟨Nat.le_of_ble_eq_true rfl, Nat.le_of_ble_eq_true rfl⟩) (ed_rc (q := (RX5, TX5, 11)) (r := (σ 0 0)) hK hM (ed_v0 hj 0) (ed_sJr μ j σ 0 0) (ed_e0 cy B j 0 _) rfl) rfl hl.1 rfl (Nat.le_of_ble_eq_true rfl) dX5_killNoticeAt_5 ⟨Nat.zero_le _, Nat.zero_le _⟩) hS (fun H locs hM hS => ?_)
  cases o1 with
  | none =>
    dsimp only at hf
    refine W.eq (g2 := F0 m 8 ls (.null :: [])) rfl ?_
    refine lv_astore_nN (lv' := [(2, .null), (0, .ref (B + ed_oF j 0 0)), (1, .ref (B + ed_oF j 12 n1))]) S.1 S.2.1 dX5_killNoticeAt_8 rfl hl (by decide) rfl (fun ls hl => ?_)
    refine lv_aload_n S.1 S.2.1 dX5_killNoticeAt_9 rfl (lv_at hl 1 rfl) ?_
    refine lv_aload_n S.1 S.2.1 dX5_killNoticeAt_10 rfl (lv_at hl 2 rfl) ?_
    refine ed_get (r := (σ 12 n1)) S ed_uX1 hK hM (ed_v12 hj h1) (ed_sJr μ j σ 12 n1) (ed_e12 cy B j n1 _) rfl 1 (by decide) ed_w1_168 rfl rfl dX5_killNoticeAt_11 ?_
    obtain ⟨o2, hq2, hf⟩ := ed_b_e hf
    refine ed_kA (ed_rV S hK hM (c_X5_clientAt _ D cy B μ j hj (σ 12 n1 1) σ o2 hq2) (cwV 1 S.2.2.2.2 (ed_gV ed_w2_144 ed_w2_145 ed_w2_146 ed_w1_2 ed_w2_147) rfl rfl rfl hd_X5_clientAt ⟨Nat.le_of_ble_eq_true rfl, Nat.le_of_ble_eq_true rfl⟩) (ed_rc (q := (RX5, TX5, 11)) (r := (σ 0 0)) hK hM (ed_v0 hj 0) (ed_sJr μ j σ 0 0) (ed_e0 cy B j 0 _) rfl) rfl hl.1 rfl (Nat.le_of_ble_eq_true rfl) dX5_killNoticeAt_14 ⟨Nat.zero_le _, Nat.zero_le _⟩) hS (fun H locs hM hS => ?_)
    cases o2 with
    | none =>
      dsimp only at hf
      refine W.eq (g2 := F0 m 17 ls (.null :: [])) rfl ?_
      refine lv_astore_nN (lv' := [(3, .null), (2, .null), (0, .ref (B + ed_oF j 0 0)), (1, .ref (B + ed_oF j 12 n1))]) S.1 S.2.1 dX5_killNoticeAt_17 rfl hl (by decide) rfl (fun ls hl => ?_)
      refine lv_aload_nN S.1 S.2.1 dX5_killNoticeAt_18 rfl (lv_at hl 1 rfl) ?_
      refine lv_ifnullN (tgt := 42) S.1 S.2.1 dX5_killNoticeAt_19 (by decide) ?_
      refine lv_bipush (v := (-5)) S.1 S.2.1 dX5_killNoticeAt_42 (by decide) ?_
      obtain rfl := Option.some.inj hf
      exact ed_ri S hr hlocks hM hS dX5_killNoticeAt_44
    | some n2q =>
      dsimp only at hf
      obtain ⟨hn2q, hf⟩ := ed_g_e hf
      refine W.eq (g2 := F0 m 17 ls (.ref (B + ed_oF j 11 n2q) :: [])) rfl ?_
      refine lv_astore_n (lv' := [(3, .ref (B + ed_oF j 11 n2q)), (2, .null), (0, .ref (B + ed_oF j 0 0)), (1, .ref (B + ed_oF j 12 n1))]) S.1 S.2.1 dX5_killNoticeAt_17 rfl hl (by decide) rfl (fun ls hl => ?_)
      refine lv_aload_nN S.1 S.2.1 dX5_killNoticeAt_18 rfl (lv_at hl 1 rfl) ?_
      refine lv_ifnullN (tgt := 42) S.1 S.2.1 dX5_killNoticeAt_19 (by decide) ?_
      refine lv_bipush (v := (-5)) S.1 S.2.1 dX5_killNoticeAt_42 (by decide) ?_
      obtain rfl := Option.some.inj hf
      exact ed_ri S hr hlocks hM hS dX5_killNoticeAt_44
  | some n1q =>
    dsimp only at hf
    obtain ⟨hn1q, hf⟩ := ed_g_e hf
    refine W.eq (g2 := F0 m 8 ls (.ref (B + ed_oF j 7 n1q) :: [])) rfl ?_
    refine lv_astore_n (lv' := [(2, .ref (B + ed_oF j 7 n1q)), (0, .ref (B + ed_oF j 0 0)), (1, .ref (B + ed_oF j 12 n1))]) S.1 S.2.1 dX5_killNoticeAt_8 rfl hl (by decide) rfl (fun ls hl => ?_)
    refine lv_aload_n S.1 S.2.1 dX5_killNoticeAt_9 rfl (lv_at hl 1 rfl) ?_
    refine lv_aload_n S.1 S.2.1 dX5_killNoticeAt_10 rfl (lv_at hl 2 rfl) ?_
    refine ed_get (r := (σ 12 n1)) S ed_uX1 hK hM (ed_v12 hj h1) (ed_sJr μ j σ 12 n1) (ed_e12 cy B j n1 _) rfl 1 (by decide) ed_w1_168 rfl rfl dX5_killNoticeAt_11 ?_
    obtain ⟨o3, hq3, hf⟩ := ed_b_e hf
    refine ed_kA (ed_rV S hK hM (c_X5_clientAt _ D cy B μ j hj (σ 12 n1 1) σ o3 hq3) (cwV 1 S.2.2.2.2 (ed_gV ed_w2_144 ed_w2_145 ed_w2_146 ed_w1_2 ed_w2_147) rfl rfl rfl hd_X5_clientAt ⟨Nat.le_of_ble_eq_true rfl, Nat.le_of_ble_eq_true rfl⟩) (ed_rc (q := (RX5, TX5, 11)) (r := (σ 0 0)) hK hM (ed_v0 hj 0) (ed_sJr μ j σ 0 0) (ed_e0 cy B j 0 _) rfl) rfl hl.1 rfl (Nat.le_of_ble_eq_true rfl) dX5_killNoticeAt_14 ⟨Nat.zero_le _, Nat.zero_le _⟩) hS (fun H locs hM hS => ?_)
    cases o3 with
    | none =>
      dsimp only at hf
      refine W.eq (g2 := F0 m 17 ls (.null :: [])) rfl ?_
      refine lv_astore_nN (lv' := [(3, .null), (2, .ref (B + ed_oF j 7 n1q)), (0, .ref (B + ed_oF j 0 0)), (1, .ref (B + ed_oF j 12 n1))]) S.1 S.2.1 dX5_killNoticeAt_17 rfl hl (by decide) rfl (fun ls hl => ?_)
      refine lv_aload_n S.1 S.2.1 dX5_killNoticeAt_18 rfl (lv_at hl 1 rfl) ?_
      refine lv_ifnull S.1 S.2.1 dX5_killNoticeAt_19 ?_
      refine lv_aload_nN S.1 S.2.1 dX5_killNoticeAt_22 rfl (lv_at hl 0 rfl) ?_
      refine lv_ifnullN (tgt := 42) S.1 S.2.1 dX5_killNoticeAt_23 (by decide) ?_
      refine lv_bipush (v := (-5)) S.1 S.2.1 dX5_killNoticeAt_42 (by decide) ?_
      obtain rfl := Option.some.inj hf
      exact ed_ri S hr hlocks hM hS dX5_killNoticeAt_44
    | some n3q =>
      dsimp only at hf
      obtain ⟨hn3q, hf⟩ := ed_g_e hf
      refine W.eq (g2 := F0 m 17 ls (.ref (B + ed_oF j 11 n3q) :: [])) rfl ?_
      refine lv_astore_n (lv' := [(3, .ref (B + ed_oF j 11 n3q)), (2, .ref (B + ed_oF j 7 n1q)), (0, .ref (B + ed_oF j 0 0)), (1, .ref (B + ed_oF j 12 n1))]) S.1 S.2.1 dX5_killNoticeAt_17 rfl hl (by decide) rfl (fun ls hl => ?_)
      refine lv_aload_n S.1 S.2.1 dX5_killNoticeAt_18 rfl (lv_at hl 1 rfl) ?_
      refine lv_ifnull S.1 S.2.1 dX5_killNoticeAt_19 ?_
      refine lv_aload_n S.1 S.2.1 dX5_killNoticeAt_22 rfl (lv_at hl 0 rfl) ?_
      refine lv_ifnull S.1 S.2.1 dX5_killNoticeAt_23 ?_
      refine lv_aload_n S.1 S.2.1 dX5_killNoticeAt_26 rfl (lv_at hl 1 rfl) ?_
      refine ed_get (r := (σ 7 n1q)) S ed_uX6 hK hM (ed_v7 hj hn1q 7) (ed_sJr μ j σ 7 n1q) (ed_e7 cy B j n1q _) rfl 6 (by decide) ed_w1_71 rfl rfl dX5_killNoticeAt_27 ?_
      refine lv_iconst (v := 3) S.1 S.2.1 dX5_killNoticeAt_30 (by decide) ?_
      refine lv_icmp_ne (tgt := 42) S.1 S.2.1 dX5_killNoticeAt_31 (by decide) (fun c4 => ?_) (fun c4 => ?_)
      · replace hf := ed_in_ c4 hf
        refine lv_bipush (v := (-5)) S.1 S.2.1 dX5_killNoticeAt_42 (by decide) ?_
        obtain rfl := Option.some.inj hf
        exact ed_ri S hr hlocks hM hS dX5_killNoticeAt_44
      · replace hf := ed_ip c4 hf
        refine lv_aload_n S.1 S.2.1 dX5_killNoticeAt_34 rfl (lv_at hl 3 rfl) ?_
        refine ed_get (r := (σ 12 n1)) S ed_uX1 hK hM (ed_v12 hj h1) (ed_sJr μ j σ 12 n1) (ed_e12 cy B j n1 _) rfl 2 (by decide) ed_w1_171 rfl rfl dX5_killNoticeAt_35 ?_
        refine lv_iconst (v := 1) S.1 S.2.1 dX5_killNoticeAt_38 (by decide) ?_
        refine lv_icmp_eq (tgt := 45) S.1 S.2.1 dX5_killNoticeAt_39 (by decide) (fun c5 => ?_) (fun c5 => ?_)
        · replace hf := ed_ip c5 hf
          refine lv_aload_n S.1 S.2.1 dX5_killNoticeAt_45 rfl (lv_at hl 1 rfl) ?_
          refine ed_get (r := (σ 7 n1q)) S ed_uX6 hK hM (ed_v7 hj hn1q 7) (ed_sJr μ j σ 7 n1q) (ed_e7 cy B j n1q _) rfl 10 (by decide) ed_w1_81 rfl rfl dX5_killNoticeAt_46 ?_
          refine lv_aload_n S.1 S.2.1 dX5_killNoticeAt_49 rfl (lv_at hl 0 rfl) ?_
          refine ed_get (r := (σ 11 n3q)) S ed_uX0 hK hM (ed_v11 hj hn3q) (ed_sJr μ j σ 11 n3q) (ed_e11 cy B j n3q _) rfl 2 (by decide) ed_w1_116 rfl rfl dX5_killNoticeAt_50 ?_
          refine lv_iconst (v := 2) S.1 S.2.1 dX5_killNoticeAt_53 (by decide) ?_
          refine lv_idiv S.1 S.2.1 dX5_killNoticeAt_54 (by decide) ?_
          refine lv_iadd S.1 S.2.1 dX5_killNoticeAt_55 ?_
          obtain rfl := Option.some.inj hf
          exact ed_ri S hr hlocks hM hS dX5_killNoticeAt_56
        · replace hf := ed_in_ c5 hf
          refine lv_bipush (v := (-5)) S.1 S.2.1 dX5_killNoticeAt_42 (by decide) ?_
          obtain rfl := Option.some.inj hf
          exact ed_ri S hr hlocks hM hS dX5_killNoticeAt_44
set_option maxHeartbeats 4000000 in
set_option maxRecDepth 100000 in
theorem w_X5_correctionsDue_45 {p : Program} {l : Launch} {e : Env} {s : State} {m : MethodId} {args : Array Value} {below : List Frame} {meth : Method} {c : Code} {D : va_G} {cy : Nat → ClassId} {B : Nat} {μ : ed_CM} {j : Nat} (hj : j < 7) {n1 : Nat} (h1 : n1 < 160) (S : CallFix p m c cX5_correctionsDue 6 s args ed_ws RX5) (hr : meth.sig.returnType = (some .int)) (hlocks : meth.locks = false) (hK : ed_K D cy s) (σ : ed_SM) (r : Int32) :
    ∀ (n : Nat), ∀ (m2 m3 : Nat) (x4 x5 : Int32), m2 < 20 → m3 < 8 → f_X5_correctionsDue_45 n1 σ n m2 m3 x4 x5 = some r → ∀ (H : Heap) (locs : List Loc) (ls : Array Slot), ed_P D cy B (ed_sJ μ j σ) H → va_S (ed_A B) s.heap H locs → lv_has ls 6 [(0, .ref (B + ed_oF j 0 0)), (2, .ref (B + ed_oF j 7 m2)), (3, .ref (B + ed_oF j 11 m3)), (4, .int x4), (5, .int x5)] → W p l e (headSpec wsX5_correctionsDue rmX5_correctionsDue).room s m args below meth c H locs 0 0 (MQ below (ed_qI (ed_A B) (ed_P D cy B (ed_sJ μ j σ)) r) args s 0 0 (ed_A B)) (F0 m 45 ls []) := by
  intro n
  induction n with
  | zero => intro m2 m3 x4 x5 hm2 hm3 hf; rw [f_X5_correctionsDue_45] at hf; cases hf
  | succ n ih =>
    intro m2 m3 x4 x5 hm2 hm3 hf H locs ls hM hS hl
    rw [f_X5_correctionsDue_45] at hf
    refine lv_iload S.1 S.2.1 dX5_correctionsDue_45 (lv_at hl 4 rfl) ?_
    refine lv_aload_n S.1 S.2.1 dX5_correctionsDue_47 rfl (lv_at hl 1 rfl) ?_
    refine ed_get (r := (σ 7 m2)) S ed_uX6 hK hM (ed_v7 hj hm2 7) (ed_sJr μ j σ 7 m2) (ed_e7 cy B j m2 _) rfl 7 (by decide) ed_w1_74 rfl rfl dX5_correctionsDue_48 ?_
    refine lv_icmp_ge (tgt := 81) S.1 S.2.1 dX5_correctionsDue_51 (by decide) (fun c5 => ?_) (fun c5 => ?_)
    · replace hf := ed_ip c5 hf
      refine lv_iload S.1 S.2.1 dX5_correctionsDue_81 (lv_at hl 3 rfl) ?_
      obtain rfl := Option.some.inj hf
      exact ed_ri S hr hlocks hM hS dX5_correctionsDue_83
    · replace hf := ed_in_ c5 hf
      refine lv_aload_n S.1 S.2.1 dX5_correctionsDue_54 rfl (lv_at hl 1 rfl) ?_
      refine lv_iload S.1 S.2.1 dX5_correctionsDue_55 (lv_at hl 4 rfl) ?_
      obtain ⟨r6, hq6, hf⟩ := ed_b_e hf
      refine ed_kI (ed_rV S hK hM (c_X6_correctedAt _ D cy B μ j hj m2 hm2 x5 σ r6 hq6) (cwV 1 S.2.2.2.2 (ed_gV ed_w3_83 ed_w3_84 ed_w3_85 ed_w1_4 ed_w3_86) rfl rfl rfl hd_X6_correctedAt ⟨Nat.le_of_ble_eq_true rfl, Nat.le_of_ble_eq_true rfl⟩) (ed_rc (q := (RX6, TX6, 11)) (r := (σ 7 m2)) hK hM (ed_v7 hj hm2 7) (ed_sJr μ j σ 7 m2) (ed_e7 cy B j m2 _) rfl) rfl hl.1 rfl (Nat.le_of_ble_eq_true rfl) dX5_correctionsDue_57 ⟨Nat.zero_le _, Nat.zero_le _⟩) hS (fun H locs hM hS => ?_)
      refine lv_aload_n S.1 S.2.1 dX5_correctionsDue_60 rfl (lv_at hl 2 rfl) ?_
      refine ed_get (r := (σ 11 m3)) S ed_uX0 hK hM (ed_v11 hj hm3) (ed_sJr μ j σ 11 m3) (ed_e11 cy B j m3 _) rfl 2 (by decide) ed_w1_116 rfl rfl dX5_correctionsDue_61 ?_
      refine lv_iadd S.1 S.2.1 dX5_correctionsDue_64 ?_
      refine lv_aload_n S.1 S.2.1 dX5_correctionsDue_65 rfl (lv_at hl 0 rfl) ?_
      refine ed_get (r := (σ 0 0)) S ed_uX5 hK hM (ed_v0 hj 0) (ed_sJr μ j σ 0 0) (ed_e0 cy B j 0 _) rfl 0 (by decide) ed_w1_211 rfl rfl dX5_correctionsDue_66 ?_
      refine lv_icmp_gt (tgt := 75) S.1 S.2.1 dX5_correctionsDue_69 (by decide) (fun c7 => ?_) (fun c7 => ?_)
      · replace hf := ed_ip c7 hf
        refine lv_iinc (v := x5 + 1) (lv' := [(5, .int (x5 + 1)), (0, .ref (B + ed_oF j 0 0)), (2, .ref (B + ed_oF j 7 m2)), (3, .ref (B + ed_oF j 11 m3)), (4, .int x4)]) S.1 S.2.1 dX5_correctionsDue_75 hl (k := 4) rfl rfl (by decide) rfl (fun ls hl => ?_)
        refine lv_goto (tgt := 45) S.1 S.2.1 dX5_correctionsDue_78 (by decide) ?_
        exact ih m2 m3 x4 (x5 + 1) hm2 hm3 hf _ _ _ hM hS (lv_sub hl [1, 2, 3, 4, 0] rfl)
      · replace hf := ed_in_ c7 hf
        refine lv_iinc (v := x4 + 1) (lv' := [(4, .int (x4 + 1)), (0, .ref (B + ed_oF j 0 0)), (2, .ref (B + ed_oF j 7 m2)), (3, .ref (B + ed_oF j 11 m3)), (5, .int x5)]) S.1 S.2.1 dX5_correctionsDue_72 hl (k := 3) rfl rfl (by decide) rfl (fun ls hl => ?_)
        refine lv_iinc (v := x5 + 1) (lv' := [(5, .int (x5 + 1)), (4, .int (x4 + 1)), (0, .ref (B + ed_oF j 0 0)), (2, .ref (B + ed_oF j 7 m2)), (3, .ref (B + ed_oF j 11 m3))]) S.1 S.2.1 dX5_correctionsDue_75 hl (k := 4) rfl rfl (by decide) rfl (fun ls hl => ?_)
        refine lv_goto (tgt := 45) S.1 S.2.1 dX5_correctionsDue_78 (by decide) ?_
        exact ih m2 m3 (x4 + 1) (x5 + 1) hm2 hm3 hf _ _ _ hM hS (lv_sub hl [2, 3, 4, 1, 0] rfl)
set_option maxHeartbeats 4000000 in
set_option maxRecDepth 100000 in
theorem c_X5_correctionsDue (l : Launch) (D : va_G) (cy : Nat → ClassId) (B : Nat) (μ : ed_CM) (j : Nat) (hj : j < 7) (n1 : Nat) (h1 : n1 < 160) (σ : ed_SM) (r : Int32) (hf : f_X5_correctionsDue n1 σ = some r) :
    Met l yX5_correctionsDue wsX5_correctionsDue rmX5_correctionsDue (ed_pC D cy (ed_P D cy B (ed_sJ μ j σ)) [.ref (B + ed_oF j 0 0), .ref (B + ed_oF j 12 n1)]) (ed_qI (ed_A B) (ed_P D cy B (ed_sJ μ j σ)) r) 0 0 (ed_A B) := by
  refine Met.ofW (cc := cX5_correctionsDue) (maxL := 6) (ret := (some .int)) (by decide) rfl ?_
  intro p e s m args below meth c s₁ B0 hml hv
  obtain ⟨rfl, hM, hK⟩ := hv
  have S : CallFix p m c cX5_correctionsDue 6 s _ ed_ws RX5 := ⟨B0.exec, B0.bytes, hml, findClass_of_methodNamed B0.named, fun w hw => atoms_spec (ws := wsX5_correctionsDue) B0.pre w (List.mem_cons_of_mem _ hw)⟩
  have hr := B0.returns
  have hlocks := B0.notSynchronized
  have hS : va_S (ed_A B) s.heap s.heap [] := va_S.rf
  have hl := lv_entry ([.ref (B + ed_oF j 0 0), .ref (B + ed_oF j 12 n1)]) (n := 6) (Nat.le_of_ble_eq_true rfl)
  rw [lg_entry_eq]
  generalize (lg_sl ([.ref (B + ed_oF j 0 0), .ref (B + ed_oF j 12 n1)]) ++ List.replicate (6 - (lg_sl ([.ref (B + ed_oF j 0 0), .ref (B + ed_oF j 12 n1)])).length) Slot.unset).toArray = ls at hl ⊢
  have hl : lv_has ls 6 [(0, .ref (B + ed_oF j 0 0)), (1, .ref (B + ed_oF j 12 n1))] := hl
  unfold f_X5_correctionsDue at hf
  refine lv_aload_n S.1 S.2.1 dX5_correctionsDue_0 rfl (lv_at hl 0 rfl) ?_
  refine lv_aload_n S.1 S.2.1 dX5_correctionsDue_1 rfl (lv_at hl 1 rfl) ?_
  refine ed_get (r := (σ 12 n1)) S ed_uX1 hK hM (ed_v12 hj h1) (ed_sJr μ j σ 12 n1) (ed_e12 cy B j n1 _) rfl 0 (by decide) ed_w1_165 rfl rfl dX5_correctionsDue_2 ?_
  obtain ⟨o1, hq1, hf⟩ := ed_b_e hf
  refine ed_kA (ed_rV S hK hM (c_X5_storyAt _ D cy B μ j hj (σ 12 n1 0) σ o1 hq1) (cwV 1 S.2.2.2.2 (ed_gV ed_w2_129 ed_w2_130 ed_w2_131 ed_w1_2 ed_w2_132) rfl rfl rfl hd_X5_storyAt ⟨Nat.le_of_ble_eq_true rfl, Nat.le_of_ble_eq_true rfl⟩) (ed_rc (q := (RX5, TX5, 11)) (r := (σ 0 0)) hK hM (ed_v0 hj 0) (ed_sJr μ j σ 0 0) (ed_e0 cy B j 0 _) rfl) rfl hl.1 rfl (Nat.le_of_ble_eq_true rfl) dX5_correctionsDue_5 ⟨Nat.zero_le _, Nat.zero_le _⟩) hS (fun H locs hM hS => ?_)
  cases o1 with
  | none =>
    dsimp only at hf
    refine W.eq (g2 := F0 m 8 ls (.null :: [])) rfl ?_
    refine lv_astore_nN (lv' := [(2, .null), (0, .ref (B + ed_oF j 0 0)), (1, .ref (B + ed_oF j 12 n1))]) S.1 S.2.1 dX5_correctionsDue_8 rfl hl (by decide) rfl (fun ls hl => ?_)
    refine lv_aload_n S.1 S.2.1 dX5_correctionsDue_9 rfl (lv_at hl 1 rfl) ?_
    refine lv_aload_n S.1 S.2.1 dX5_correctionsDue_10 rfl (lv_at hl 2 rfl) ?_
    refine ed_get (r := (σ 12 n1)) S ed_uX1 hK hM (ed_v12 hj h1) (ed_sJr μ j σ 12 n1) (ed_e12 cy B j n1 _) rfl 1 (by decide) ed_w1_168 rfl rfl dX5_correctionsDue_11 ?_
    obtain ⟨o2, hq2, hf⟩ := ed_b_e hf
    refine ed_kA (ed_rV S hK hM (c_X5_clientAt _ D cy B μ j hj (σ 12 n1 1) σ o2 hq2) (cwV 1 S.2.2.2.2 (ed_gV ed_w2_144 ed_w2_145 ed_w2_146 ed_w1_2 ed_w2_147) rfl rfl rfl hd_X5_clientAt ⟨Nat.le_of_ble_eq_true rfl, Nat.le_of_ble_eq_true rfl⟩) (ed_rc (q := (RX5, TX5, 11)) (r := (σ 0 0)) hK hM (ed_v0 hj 0) (ed_sJr μ j σ 0 0) (ed_e0 cy B j 0 _) rfl) rfl hl.1 rfl (Nat.le_of_ble_eq_true rfl) dX5_correctionsDue_14 ⟨Nat.zero_le _, Nat.zero_le _⟩) hS (fun H locs hM hS => ?_)
    cases o2 with
    | none =>
      dsimp only at hf
      refine W.eq (g2 := F0 m 17 ls (.null :: [])) rfl ?_
      refine lv_astore_nN (lv' := [(3, .null), (2, .null), (0, .ref (B + ed_oF j 0 0)), (1, .ref (B + ed_oF j 12 n1))]) S.1 S.2.1 dX5_correctionsDue_17 rfl hl (by decide) rfl (fun ls hl => ?_)
      refine lv_aload_nN S.1 S.2.1 dX5_correctionsDue_18 rfl (lv_at hl 1 rfl) ?_
      refine lv_ifnullN (tgt := 34) S.1 S.2.1 dX5_correctionsDue_19 (by decide) ?_
      refine lv_iconst (v := 0) S.1 S.2.1 dX5_correctionsDue_34 (by decide) ?_
      obtain rfl := Option.some.inj hf
      exact ed_ri S hr hlocks hM hS dX5_correctionsDue_35
    | some n2q =>
      dsimp only at hf
      obtain ⟨hn2q, hf⟩ := ed_g_e hf
      refine W.eq (g2 := F0 m 17 ls (.ref (B + ed_oF j 11 n2q) :: [])) rfl ?_
      refine lv_astore_n (lv' := [(3, .ref (B + ed_oF j 11 n2q)), (2, .null), (0, .ref (B + ed_oF j 0 0)), (1, .ref (B + ed_oF j 12 n1))]) S.1 S.2.1 dX5_correctionsDue_17 rfl hl (by decide) rfl (fun ls hl => ?_)
      refine lv_aload_nN S.1 S.2.1 dX5_correctionsDue_18 rfl (lv_at hl 1 rfl) ?_
      refine lv_ifnullN (tgt := 34) S.1 S.2.1 dX5_correctionsDue_19 (by decide) ?_
      refine lv_iconst (v := 0) S.1 S.2.1 dX5_correctionsDue_34 (by decide) ?_
      obtain rfl := Option.some.inj hf
      exact ed_ri S hr hlocks hM hS dX5_correctionsDue_35
  | some n1q =>
    dsimp only at hf
    obtain ⟨hn1q, hf⟩ := ed_g_e hf
    refine W.eq (g2 := F0 m 8 ls (.ref (B + ed_oF j 7 n1q) :: [])) rfl ?_
    refine lv_astore_n (lv' := [(2, .ref (B + ed_oF j 7 n1q)), (0, .ref (B + ed_oF j 0 0)), (1, .ref (B + ed_oF j 12 n1))]) S.1 S.2.1 dX5_correctionsDue_8 rfl hl (by decide) rfl (fun ls hl => ?_)
    refine lv_aload_n S.1 S.2.1 dX5_correctionsDue_9 rfl (lv_at hl 1 rfl) ?_
    refine lv_aload_n S.1 S.2.1 dX5_correctionsDue_10 rfl (lv_at hl 2 rfl) ?_
    refine ed_get (r := (σ 12 n1)) S ed_uX1 hK hM (ed_v12 hj h1) (ed_sJr μ j σ 12 n1) (ed_e12 cy B j n1 _) rfl 1 (by decide) ed_w1_168 rfl rfl dX5_correctionsDue_11 ?_
    obtain ⟨o3, hq3, hf⟩ := ed_b_e hf
    refine ed_kA (ed_rV S hK hM (c_X5_clientAt _ D cy B μ j hj (σ 12 n1 1) σ o3 hq3) (cwV 1 S.2.2.2.2 (ed_gV ed_w2_144 ed_w2_145 ed_w2_146 ed_w1_2 ed_w2_147) rfl rfl rfl hd_X5_clientAt ⟨Nat.le_of_ble_eq_true rfl, Nat.le_of_ble_eq_true rfl⟩) (ed_rc (q := (RX5, TX5, 11)) (r := (σ 0 0)) hK hM (ed_v0 hj 0) (ed_sJr μ j σ 0 0) (ed_e0 cy B j 0 _) rfl) rfl hl.1 rfl (Nat.le_of_ble_eq_true rfl) dX5_correctionsDue_14 ⟨Nat.zero_le _, Nat.zero_le _⟩) hS (fun H locs hM hS => ?_)
    cases o3 with
    | none =>
      dsimp only at hf
      refine W.eq (g2 := F0 m 17 ls (.null :: [])) rfl ?_
      refine lv_astore_nN (lv' := [(3, .null), (2, .ref (B + ed_oF j 7 n1q)), (0, .ref (B + ed_oF j 0 0)), (1, .ref (B + ed_oF j 12 n1))]) S.1 S.2.1 dX5_correctionsDue_17 rfl hl (by decide) rfl (fun ls hl => ?_)
      refine lv_aload_n S.1 S.2.1 dX5_correctionsDue_18 rfl (lv_at hl 1 rfl) ?_
      refine lv_ifnull S.1 S.2.1 dX5_correctionsDue_19 ?_
      refine lv_aload_nN S.1 S.2.1 dX5_correctionsDue_22 rfl (lv_at hl 0 rfl) ?_
      refine lv_ifnullN (tgt := 34) S.1 S.2.1 dX5_correctionsDue_23 (by decide) ?_
      refine lv_iconst (v := 0) S.1 S.2.1 dX5_correctionsDue_34 (by decide) ?_
      obtain rfl := Option.some.inj hf
      exact ed_ri S hr hlocks hM hS dX5_correctionsDue_35
    | some n3q =>
      dsimp only at hf
      obtain ⟨hn3q, hf⟩ := ed_g_e hf
      refine W.eq (g2 := F0 m 17 ls (.ref (B + ed_oF j 11 n3q) :: [])) rfl ?_
      refine lv_astore_n (lv' := [(3, .ref (B + ed_oF j 11 n3q)), (2, .ref (B + ed_oF j 7 n1q)), (0, .ref (B + ed_oF j 0 0)), (1, .ref (B + ed_oF j 12 n1))]) S.1 S.2.1 dX5_correctionsDue_17 rfl hl (by decide) rfl (fun ls hl => ?_)
      refine lv_aload_n S.1 S.2.1 dX5_correctionsDue_18 rfl (lv_at hl 1 rfl) ?_
      refine lv_ifnull S.1 S.2.1 dX5_correctionsDue_19 ?_
      refine lv_aload_n S.1 S.2.1 dX5_correctionsDue_22 rfl (lv_at hl 0 rfl) ?_
      refine lv_ifnull S.1 S.2.1 dX5_correctionsDue_23 ?_
      refine lv_aload_n S.1 S.2.1 dX5_correctionsDue_26 rfl (lv_at hl 3 rfl) ?_
      refine ed_get (r := (σ 12 n1)) S ed_uX1 hK hM (ed_v12 hj h1) (ed_sJr μ j σ 12 n1) (ed_e12 cy B j n1 _) rfl 2 (by decide) ed_w1_171 rfl rfl dX5_correctionsDue_27 ?_
      refine lv_iconst (v := 1) S.1 S.2.1 dX5_correctionsDue_30 (by decide) ?_
      refine lv_icmp_eq (tgt := 36) S.1 S.2.1 dX5_correctionsDue_31 (by decide) (fun c4 => ?_) (fun c4 => ?_)
      · replace hf := ed_ip c4 hf
        refine lv_iconst (v := 0) S.1 S.2.1 dX5_correctionsDue_36 (by decide) ?_
        refine lv_istore (lv' := [(4, .int 0), (3, .ref (B + ed_oF j 11 n3q)), (2, .ref (B + ed_oF j 7 n1q)), (0, .ref (B + ed_oF j 0 0)), (1, .ref (B + ed_oF j 12 n1))]) S.1 S.2.1 dX5_correctionsDue_37 hl (by decide) rfl (fun ls hl => ?_)
        refine lv_aload_n S.1 S.2.1 dX5_correctionsDue_39 rfl (lv_at hl 4 rfl) ?_
        refine ed_get (r := (σ 12 n1)) S ed_uX1 hK hM (ed_v12 hj h1) (ed_sJr μ j σ 12 n1) (ed_e12 cy B j n1 _) rfl 5 (by decide) ed_w1_180 rfl rfl dX5_correctionsDue_40 ?_
        refine lv_istore (lv' := [(5, .int (σ 12 n1 5)), (4, .int 0), (3, .ref (B + ed_oF j 11 n3q)), (2, .ref (B + ed_oF j 7 n1q)), (0, .ref (B + ed_oF j 0 0)), (1, .ref (B + ed_oF j 12 n1))]) S.1 S.2.1 dX5_correctionsDue_43 hl (by decide) rfl (fun ls hl => ?_)
        exact w_X5_correctionsDue_45 hj h1 S hr hlocks hK σ r ed_N n1q n3q 0 (σ 12 n1 5) hn1q hn3q hf _ _ _ hM hS (lv_sub hl [4, 3, 2, 1, 0] rfl)
      · replace hf := ed_in_ c4 hf
        refine lv_iconst (v := 0) S.1 S.2.1 dX5_correctionsDue_34 (by decide) ?_
        obtain rfl := Option.some.inj hf
        exact ed_ri S hr hlocks hM hS dX5_correctionsDue_35
set_option maxHeartbeats 4000000 in
set_option maxRecDepth 100000 in
theorem w_X5_reach_55 {p : Program} {l : Launch} {e : Env} {s : State} {m : MethodId} {args : Array Value} {below : List Frame} {meth : Method} {c : Code} {D : va_G} {cy : Nat → ClassId} {B : Nat} {μ : ed_CM} {j : Nat} (hj : j < 7) {n1 : Nat} (h1 : n1 < 160) {n2 : Nat} (h2 : n2 < 20) (S : CallFix p m c cX5_reach 5 s args ed_ws RX5) (hr : meth.sig.returnType = none) (hlocks : meth.locks = false) (hK : ed_K D cy s) (σ' : ed_SM) :
    ∀ (n : Nat), ∀ (x3 x4 : Int32) (σ : ed_SM), f_X5_reach_55 n1 n2 n x3 x4 σ = some σ' → ∀ (H : Heap) (locs : List Loc) (ls : Array Slot), ed_P D cy B (ed_sJ μ j σ) H → va_S (ed_A B) s.heap H locs → lv_has ls 5 [(0, .ref (B + ed_oF j 0 0)), (1, .ref (B + ed_oF j 12 n1)), (3, .int x3), (4, .int x4)] → W p l e (headSpec wsX5_reach rmX5_reach).room s m args below meth c H locs 0 0 (MQ below (ed_qV (ed_A B) (ed_P D cy B (ed_sJ μ j σ'))) args s 0 0 (ed_A B)) (F0 m 55 ls []) := by
  intro n
  induction n with
  | zero => intro x3 x4 σ hf; rw [f_X5_reach_55] at hf; cases hf
  | succ n ih =>
    intro x3 x4 σ hf H locs ls hM hS hl
    rw [f_X5_reach_55] at hf
    refine lv_iload S.1 S.2.1 dX5_reach_55 (lv_at hl 3 rfl) ?_
    refine lv_iload_n S.1 S.2.1 dX5_reach_57 rfl (lv_at hl 2 rfl) ?_
    refine lv_icmp_ge (tgt := 107) S.1 S.2.1 dX5_reach_58 (by decide) (fun c3 => ?_) (fun c3 => ?_)
    · replace hf := ed_ip c3 hf
      obtain rfl := Option.some.inj hf
      exact ed_rv S hr hlocks hM hS dX5_reach_107
    · replace hf := ed_in_ c3 hf
      refine lv_aload_n S.1 S.2.1 dX5_reach_61 rfl (lv_at hl 1 rfl) ?_
      refine lv_dup S.1 S.2.1 dX5_reach_62 rfl ?_
      refine ed_get (r := (σ 12 n1)) S ed_uX1 hK hM (ed_v12 hj h1) (ed_sJr μ j σ 12 n1) (ed_e12 cy B j n1 _) rfl 5 (by decide) ed_w1_180 rfl rfl dX5_reach_63 ?_
      refine lv_iconst (v := 1) S.1 S.2.1 dX5_reach_66 (by decide) ?_
      refine lv_iadd S.1 S.2.1 dX5_reach_67 ?_
      refine ed_put (j := j) S ed_uX1 tyX1 tyX1_ok nmX1 hK hM hS (ed_v12 hj h1) (ed_e12 cy B j n1 _) rfl 5 (by decide) ed_w1_180 rfl rfl rfl rfl (Nat.le_of_ble_eq_true rfl) (ed_u12_5 cy B j n1 _ _) dX5_reach_68 (fun H locs hM hS => ?_)
      obtain ⟨σ4, eσ4, hf⟩ := ed_t_e hf
      have hM : ed_P D cy B (ed_sJ μ j σ4) H := by rw [eσ4]; exact hM
      refine lv_aload_n S.1 S.2.1 dX5_reach_71 rfl (lv_at hl 0 rfl) ?_
      refine lv_dup S.1 S.2.1 dX5_reach_72 rfl ?_
      refine ed_get (r := (σ4 0 0)) S ed_uX5 hK hM (ed_v0 hj 0) (ed_sJr μ j σ4 0 0) (ed_e0 cy B j 0 _) rfl 2 (by decide) ed_w1_215 rfl rfl dX5_reach_73 ?_
      refine lv_iconst (v := 1) S.1 S.2.1 dX5_reach_76 (by decide) ?_
      refine lv_iadd S.1 S.2.1 dX5_reach_77 ?_
      refine ed_put (j := j) S ed_uX5 tyX5 tyX5_ok nmX5 hK hM hS (ed_v0 hj 0) (ed_e0 cy B j 0 _) rfl 2 (by decide) ed_w1_215 rfl rfl rfl rfl (Nat.le_of_ble_eq_true rfl) (ed_u0_2 cy B j 0 _ _) dX5_reach_78 (fun H locs hM hS => ?_)
      obtain ⟨σ5, eσ5, hf⟩ := ed_t_e hf
      have hM : ed_P D cy B (ed_sJ μ j σ5) H := by rw [eσ5]; exact hM
      refine lv_aload_n S.1 S.2.1 dX5_reach_81 rfl (lv_at hl 0 rfl) ?_
      refine ed_get (r := (σ5 0 0)) S ed_uX5 hK hM (ed_v0 hj 0) (ed_sJr μ j σ5 0 0) (ed_e0 cy B j 0 _) rfl 6 (by decide) ed_w1_223 rfl rfl dX5_reach_82 ?_
      refine lv_iconst (v := 2) S.1 S.2.1 dX5_reach_85 (by decide) ?_
      refine lv_aload_n S.1 S.2.1 dX5_reach_86 rfl (lv_at hl 1 rfl) ?_
      refine ed_get (r := (σ5 12 n1)) S ed_uX1 hK hM (ed_v12 hj h1) (ed_sJr μ j σ5 12 n1) (ed_e12 cy B j n1 _) rfl 0 (by decide) ed_w1_165 rfl rfl dX5_reach_87 ?_
      refine lv_aload_n S.1 S.2.1 dX5_reach_90 rfl (lv_at hl 1 rfl) ?_
      refine ed_get (r := (σ5 12 n1)) S ed_uX1 hK hM (ed_v12 hj h1) (ed_sJr μ j σ5 12 n1) (ed_e12 cy B j n1 _) rfl 1 (by decide) ed_w1_168 rfl rfl dX5_reach_91 ?_
      refine lv_aload_n S.1 S.2.1 dX5_reach_94 rfl (lv_at hl 0 rfl) ?_
      refine ed_get (r := (σ5 0 0)) S ed_uX5 hK hM (ed_v0 hj 0) (ed_sJr μ j σ5 0 0) (ed_e0 cy B j 0 _) rfl 0 (by decide) ed_w1_211 rfl rfl dX5_reach_95 ?_
      obtain ⟨σ6, hq6, hf⟩ := ed_b_e hf
      refine ed_kV (ed_rV S hK hM (c_X3_add _ D cy B μ j hj 2 (σ5 12 n1 0) (σ5 12 n1 1) (σ5 0 0 0) σ5 σ6 hq6) (cwV 4 S.2.2.2.2 (ed_gV ed_w3_17 ed_w3_18 ed_w3_19 ed_w1_3 ed_w3_20) rfl rfl rfl hd_X3_add ⟨Nat.le_of_ble_eq_true rfl, Nat.le_of_ble_eq_true rfl⟩) (ed_rc (q := (RX3, TX3, 3)) (r := (σ5 1 0)) hK hM (ed_v0 hj 1) (ed_sJr μ j σ5 1 0) (ed_e1 cy B j 0 _) rfl) rfl hl.1 rfl (Nat.le_of_ble_eq_true rfl) dX5_reach_98 ⟨Nat.zero_le _, Nat.zero_le _⟩) hS (fun H locs hM hS => ?_)
      refine lv_iinc (v := x4 + 1) (lv' := [(4, .int (x4 + 1)), (0, .ref (B + ed_oF j 0 0)), (1, .ref (B + ed_oF j 12 n1)), (3, .int x3)]) S.1 S.2.1 dX5_reach_101 hl (k := 3) rfl rfl (by decide) rfl (fun ls hl => ?_)
      refine lv_goto (tgt := 55) S.1 S.2.1 dX5_reach_104 (by decide) ?_
      exact ih x3 (x4 + 1) σ6 hf _ _ _ hM hS (lv_sub hl [1, 2, 3, 0] rfl)
set_option maxHeartbeats 4000000 in
set_option maxRecDepth 100000 in
theorem c_X5_reach (l : Launch) (D : va_G) (cy : Nat → ClassId) (B : Nat) (μ : ed_CM) (j : Nat) (hj : j < 7) (n1 : Nat) (h1 : n1 < 160) (n2 : Nat) (h2 : n2 < 20) (σ : ed_SM) (σ' : ed_SM) (hf : f_X5_reach n1 n2 σ = some σ') :
    Met l yX5_reach wsX5_reach rmX5_reach (ed_pC D cy (ed_P D cy B (ed_sJ μ j σ)) [.ref (B + ed_oF j 0 0), .ref (B + ed_oF j 12 n1), .ref (B + ed_oF j 7 n2)]) (ed_qV (ed_A B) (ed_P D cy B (ed_sJ μ j σ'))) 0 0 (ed_A B) := by
  refine Met.ofW (cc := cX5_reach) (maxL := 5) (ret := none) (by decide) rfl ?_
  intro p e s m args below meth c s₁ B0 hml hv
  obtain ⟨rfl, hM, hK⟩ := hv
  have S : CallFix p m c cX5_reach 5 s _ ed_ws RX5 := ⟨B0.exec, B0.bytes, hml, findClass_of_methodNamed B0.named, fun w hw => atoms_spec (ws := wsX5_reach) B0.pre w (List.mem_cons_of_mem _ hw)⟩
  have hr := B0.returns
  have hlocks := B0.notSynchronized
  have hS : va_S (ed_A B) s.heap s.heap [] := va_S.rf
  have hl := lv_entry ([.ref (B + ed_oF j 0 0), .ref (B + ed_oF j 12 n1), .ref (B + ed_oF j 7 n2)]) (n := 5) (Nat.le_of_ble_eq_true rfl)
  rw [lg_entry_eq]
  generalize (lg_sl ([.ref (B + ed_oF j 0 0), .ref (B + ed_oF j 12 n1), .ref (B + ed_oF j 7 n2)]) ++ List.replicate (5 - (lg_sl ([.ref (B + ed_oF j 0 0), .ref (B + ed_oF j 12 n1), .ref (B + ed_oF j 7 n2)])).length) Slot.unset).toArray = ls at hl ⊢
  have hl : lv_has ls 5 [(0, .ref (B + ed_oF j 0 0)), (1, .ref (B + ed_oF j 12 n1)), (2, .ref (B + ed_oF j 7 n2))] := hl
  unfold f_X5_reach at hf
  refine lv_aload_n S.1 S.2.1 dX5_reach_0 rfl (lv_at hl 2 rfl) ?_
  refine ed_get (r := (σ 7 n2)) S ed_uX6 hK hM (ed_v7 hj h2 7) (ed_sJr μ j σ 7 n2) (ed_e7 cy B j n2 _) rfl 6 (by decide) ed_w1_71 rfl rfl dX5_reach_1 ?_
  refine lv_iconst (v := 3) S.1 S.2.1 dX5_reach_4 (by decide) ?_
  refine lv_icmp_ne (tgt := 46) S.1 S.2.1 dX5_reach_5 (by decide) (fun c1 => ?_) (fun c1 => ?_)
  · replace hf := ed_in_ c1 hf
    refine lv_aload_n S.1 S.2.1 dX5_reach_46 rfl (lv_at hl 0 rfl) ?_
    refine lv_aload_n S.1 S.2.1 dX5_reach_47 rfl (lv_at hl 1 rfl) ?_
    obtain ⟨r2, hq2, hf⟩ := ed_b_e hf
    refine ed_kI (ed_rV S hK hM (c_X5_correctionsDue _ D cy B μ j hj n1 h1 σ r2 hq2) (cwV 1 S.2.2.2.2 (ed_gV ed_w3_79 ed_w3_80 ed_w3_81 ed_w1_2 ed_w3_82) rfl rfl rfl hd_X5_correctionsDue ⟨Nat.le_of_ble_eq_true rfl, Nat.le_of_ble_eq_true rfl⟩) (ed_rc (q := (RX5, TX5, 11)) (r := (σ 0 0)) hK hM (ed_v0 hj 0) (ed_sJr μ j σ 0 0) (ed_e0 cy B j 0 _) rfl) rfl hl.1 rfl (Nat.le_of_ble_eq_true rfl) dX5_reach_48 ⟨Nat.zero_le _, Nat.zero_le _⟩) hS (fun H locs hM hS => ?_)
    refine lv_istore_n (lv' := [(3, .int r2), (0, .ref (B + ed_oF j 0 0)), (1, .ref (B + ed_oF j 12 n1)), (2, .ref (B + ed_oF j 7 n2))]) S.1 S.2.1 dX5_reach_51 rfl hl (by decide) rfl (fun ls hl => ?_)
    refine lv_iconst (v := 0) S.1 S.2.1 dX5_reach_52 (by decide) ?_
    refine lv_istore (lv' := [(4, .int 0), (3, .int r2), (0, .ref (B + ed_oF j 0 0)), (1, .ref (B + ed_oF j 12 n1)), (2, .ref (B + ed_oF j 7 n2))]) S.1 S.2.1 dX5_reach_53 hl (by decide) rfl (fun ls hl => ?_)
    exact w_X5_reach_55 hj h1 h2 S hr hlocks hK σ' ed_N r2 0 σ hf _ _ _ hM hS (lv_sub hl [2, 3, 1, 0] rfl)
  · replace hf := ed_ip c1 hf
    refine lv_aload_n S.1 S.2.1 dX5_reach_8 rfl (lv_at hl 0 rfl) ?_
    refine lv_aload_n S.1 S.2.1 dX5_reach_9 rfl (lv_at hl 1 rfl) ?_
    obtain ⟨r7, hq7, hf⟩ := ed_b_e hf
    refine ed_kI (ed_rV S hK hM (c_X5_killNoticeAt _ D cy B μ j hj n1 h1 σ r7 hq7) (cwV 1 S.2.2.2.2 (ed_gV ed_w3_75 ed_w3_76 ed_w3_77 ed_w1_2 ed_w3_78) rfl rfl rfl hd_X5_killNoticeAt ⟨Nat.le_of_ble_eq_true rfl, Nat.le_of_ble_eq_true rfl⟩) (ed_rc (q := (RX5, TX5, 11)) (r := (σ 0 0)) hK hM (ed_v0 hj 0) (ed_sJr μ j σ 0 0) (ed_e0 cy B j 0 _) rfl) rfl hl.1 rfl (Nat.le_of_ble_eq_true rfl) dX5_reach_10 ⟨Nat.zero_le _, Nat.zero_le _⟩) hS (fun H locs hM hS => ?_)
    refine lv_aload_n S.1 S.2.1 dX5_reach_13 rfl (lv_at hl 0 rfl) ?_
    refine ed_get (r := (σ 0 0)) S ed_uX5 hK hM (ed_v0 hj 0) (ed_sJr μ j σ 0 0) (ed_e0 cy B j 0 _) rfl 0 (by decide) ed_w1_211 rfl rfl dX5_reach_14 ?_
    refine lv_icmp_gt (tgt := 46) S.1 S.2.1 dX5_reach_17 (by decide) (fun c8 => ?_) (fun c8 => ?_)
    · replace hf := ed_ip c8 hf
      refine lv_aload_n S.1 S.2.1 dX5_reach_46 rfl (lv_at hl 0 rfl) ?_
      refine lv_aload_n S.1 S.2.1 dX5_reach_47 rfl (lv_at hl 1 rfl) ?_
      obtain ⟨r9, hq9, hf⟩ := ed_b_e hf
      refine ed_kI (ed_rV S hK hM (c_X5_correctionsDue _ D cy B μ j hj n1 h1 σ r9 hq9) (cwV 1 S.2.2.2.2 (ed_gV ed_w3_79 ed_w3_80 ed_w3_81 ed_w1_2 ed_w3_82) rfl rfl rfl hd_X5_correctionsDue ⟨Nat.le_of_ble_eq_true rfl, Nat.le_of_ble_eq_true rfl⟩) (ed_rc (q := (RX5, TX5, 11)) (r := (σ 0 0)) hK hM (ed_v0 hj 0) (ed_sJr μ j σ 0 0) (ed_e0 cy B j 0 _) rfl) rfl hl.1 rfl (Nat.le_of_ble_eq_true rfl) dX5_reach_48 ⟨Nat.zero_le _, Nat.zero_le _⟩) hS (fun H locs hM hS => ?_)
      refine lv_istore_n (lv' := [(3, .int r9), (0, .ref (B + ed_oF j 0 0)), (1, .ref (B + ed_oF j 12 n1)), (2, .ref (B + ed_oF j 7 n2))]) S.1 S.2.1 dX5_reach_51 rfl hl (by decide) rfl (fun ls hl => ?_)
      refine lv_iconst (v := 0) S.1 S.2.1 dX5_reach_52 (by decide) ?_
      refine lv_istore (lv' := [(4, .int 0), (3, .int r9), (0, .ref (B + ed_oF j 0 0)), (1, .ref (B + ed_oF j 12 n1)), (2, .ref (B + ed_oF j 7 n2))]) S.1 S.2.1 dX5_reach_53 hl (by decide) rfl (fun ls hl => ?_)
      exact w_X5_reach_55 hj h1 h2 S hr hlocks hK σ' ed_N r9 0 σ hf _ _ _ hM hS (lv_sub hl [2, 3, 1, 0] rfl)
    · replace hf := ed_in_ c8 hf
      refine lv_aload_n S.1 S.2.1 dX5_reach_20 rfl (lv_at hl 1 rfl) ?_
      refine lv_iconst (v := 2) S.1 S.2.1 dX5_reach_21 (by decide) ?_
      refine ed_put (j := j) S ed_uX1 tyX1 tyX1_ok nmX1 hK hM hS (ed_v12 hj h1) (ed_e12 cy B j n1 _) rfl 2 (by decide) ed_w1_171 rfl rfl rfl rfl (Nat.le_of_ble_eq_true rfl) (ed_u12_2 cy B j n1 _ _) dX5_reach_22 (fun H locs hM hS => ?_)
      obtain ⟨σ10, eσ10, hf⟩ := ed_t_e hf
      have hM : ed_P D cy B (ed_sJ μ j σ10) H := by rw [eσ10]; exact hM
      refine lv_aload_n S.1 S.2.1 dX5_reach_25 rfl (lv_at hl 0 rfl) ?_
      refine ed_get (r := (σ10 0 0)) S ed_uX5 hK hM (ed_v0 hj 0) (ed_sJr μ j σ10 0 0) (ed_e0 cy B j 0 _) rfl 6 (by decide) ed_w1_223 rfl rfl dX5_reach_26 ?_
      refine lv_iconst (v := 3) S.1 S.2.1 dX5_reach_29 (by decide) ?_
      refine lv_aload_n S.1 S.2.1 dX5_reach_30 rfl (lv_at hl 1 rfl) ?_
      refine ed_get (r := (σ10 12 n1)) S ed_uX1 hK hM (ed_v12 hj h1) (ed_sJr μ j σ10 12 n1) (ed_e12 cy B j n1 _) rfl 0 (by decide) ed_w1_165 rfl rfl dX5_reach_31 ?_
      refine lv_aload_n S.1 S.2.1 dX5_reach_34 rfl (lv_at hl 1 rfl) ?_
      refine ed_get (r := (σ10 12 n1)) S ed_uX1 hK hM (ed_v12 hj h1) (ed_sJr μ j σ10 12 n1) (ed_e12 cy B j n1 _) rfl 1 (by decide) ed_w1_168 rfl rfl dX5_reach_35 ?_
      refine lv_aload_n S.1 S.2.1 dX5_reach_38 rfl (lv_at hl 0 rfl) ?_
      refine ed_get (r := (σ10 0 0)) S ed_uX5 hK hM (ed_v0 hj 0) (ed_sJr μ j σ10 0 0) (ed_e0 cy B j 0 _) rfl 0 (by decide) ed_w1_211 rfl rfl dX5_reach_39 ?_
      obtain ⟨σ11, hq11, hf⟩ := ed_b_e hf
      refine ed_kV (ed_rV S hK hM (c_X3_add _ D cy B μ j hj 3 (σ10 12 n1 0) (σ10 12 n1 1) (σ10 0 0 0) σ10 σ11 hq11) (cwV 4 S.2.2.2.2 (ed_gV ed_w3_17 ed_w3_18 ed_w3_19 ed_w1_3 ed_w3_20) rfl rfl rfl hd_X3_add ⟨Nat.le_of_ble_eq_true rfl, Nat.le_of_ble_eq_true rfl⟩) (ed_rc (q := (RX3, TX3, 3)) (r := (σ10 1 0)) hK hM (ed_v0 hj 1) (ed_sJr μ j σ10 1 0) (ed_e1 cy B j 0 _) rfl) rfl hl.1 rfl (Nat.le_of_ble_eq_true rfl) dX5_reach_42 ⟨Nat.zero_le _, Nat.zero_le _⟩) hS (fun H locs hM hS => ?_)
      obtain rfl := Option.some.inj hf
      exact ed_rv S hr hlocks hM hS dX5_reach_45
set_option maxHeartbeats 4000000 in
set_option maxRecDepth 100000 in
theorem w_X5_moveOn_120 {p : Program} {l : Launch} {e : Env} {s : State} {m : MethodId} {args : Array Value} {below : List Frame} {meth : Method} {c : Code} {D : va_G} {cy : Nat → ClassId} {B : Nat} {μ : ed_CM} {j : Nat} (hj : j < 7) {n1 : Nat} (h1 : n1 < 160) (S : CallFix p m c cX5_moveOn 4 s args ed_ws RX5) (hr : meth.sig.returnType = none) (hlocks : meth.locks = false) (hK : ed_K D cy s) (σ' : ed_SM) :
    ∀ (m2 m3 : Nat) (σ : ed_SM), m2 < 20 → m3 < 8 → f_X5_moveOn_120 n1 m2 m3 σ = some σ' → ∀ (H : Heap) (locs : List Loc) (ls : Array Slot), ed_P D cy B (ed_sJ μ j σ) H → va_S (ed_A B) s.heap H locs → lv_has ls 4 [(0, .ref (B + ed_oF j 0 0)), (1, .ref (B + ed_oF j 12 n1)), (2, .ref (B + ed_oF j 7 m2)), (3, .ref (B + ed_oF j 11 m3))] → W p l e (headSpec wsX5_moveOn rmX5_moveOn).room s m args below meth c H locs 0 0 (MQ below (ed_qV (ed_A B) (ed_P D cy B (ed_sJ μ j σ'))) args s 0 0 (ed_A B)) (F0 m 120 ls []) := by
  intro m2 m3 σ hm2 hm3 hf H locs ls hM hS hl
  unfold f_X5_moveOn_120 at hf
  refine lv_aload_n S.1 S.2.1 dX5_moveOn_120 rfl (lv_at hl 1 rfl) ?_
  refine ed_get (r := (σ 12 n1)) S ed_uX1 hK hM (ed_v12 hj h1) (ed_sJr μ j σ 12 n1) (ed_e12 cy B j n1 _) rfl 2 (by decide) ed_w1_171 rfl rfl dX5_moveOn_121 ?_
  refine lv_iconst (v := 1) S.1 S.2.1 dX5_moveOn_124 (by decide) ?_
  refine lv_icmp_ne (tgt := 141) S.1 S.2.1 dX5_moveOn_125 (by decide) (fun c6 => ?_) (fun c6 => ?_)
  · replace hf := ed_in_ c6 hf
    obtain rfl := Option.some.inj hf
    exact ed_rv S hr hlocks hM hS dX5_moveOn_141
  · replace hf := ed_ip c6 hf
    refine lv_aload_n S.1 S.2.1 dX5_moveOn_128 rfl (lv_at hl 3 rfl) ?_
    refine ed_get (r := (σ 11 m3)) S ed_uX0 hK hM (ed_v11 hj hm3) (ed_sJr μ j σ 11 m3) (ed_e11 cy B j m3 _) rfl 5 (by decide) ed_w1_125 rfl rfl dX5_moveOn_129 ?_
    refine lv_if_eq (tgt := 141) S.1 S.2.1 dX5_moveOn_132 (by decide) (fun c7 => ?_) (fun c7 => ?_)
    · replace hf := ed_ip c7 hf
      obtain rfl := Option.some.inj hf
      exact ed_rv S hr hlocks hM hS dX5_moveOn_141
    · replace hf := ed_in_ c7 hf
      refine lv_aload_n S.1 S.2.1 dX5_moveOn_135 rfl (lv_at hl 0 rfl) ?_
      refine lv_aload_n S.1 S.2.1 dX5_moveOn_136 rfl (lv_at hl 1 rfl) ?_
      refine lv_aload_n S.1 S.2.1 dX5_moveOn_137 rfl (lv_at hl 2 rfl) ?_
      obtain ⟨σ8, hq8, hf⟩ := ed_b_e hf
      refine ed_kV (ed_rV S hK hM (c_X5_reach _ D cy B μ j hj n1 h1 m2 hm2 σ σ8 hq8) (cwV 2 S.2.2.2.2 (ed_gV ed_w3_71 ed_w3_73 ed_wp_20 ed_w1_2 ed_w3_74) rfl rfl rfl hd_X5_reach ⟨Nat.le_of_ble_eq_true rfl, Nat.le_of_ble_eq_true rfl⟩) (ed_rc (q := (RX5, TX5, 11)) (r := (σ 0 0)) hK hM (ed_v0 hj 0) (ed_sJr μ j σ 0 0) (ed_e0 cy B j 0 _) rfl) rfl hl.1 rfl (Nat.le_of_ble_eq_true rfl) dX5_moveOn_138 ⟨Nat.zero_le _, Nat.zero_le _⟩) hS (fun H locs hM hS => ?_)
      obtain rfl := Option.some.inj hf
      exact ed_rv S hr hlocks hM hS dX5_moveOn_141
set_option maxHeartbeats 4000000 in
set_option maxRecDepth 100000 in
theorem w_X5_moveOn_75 {p : Program} {l : Launch} {e : Env} {s : State} {m : MethodId} {args : Array Value} {below : List Frame} {meth : Method} {c : Code} {D : va_G} {cy : Nat → ClassId} {B : Nat} {μ : ed_CM} {j : Nat} (hj : j < 7) {n1 : Nat} (h1 : n1 < 160) (S : CallFix p m c cX5_moveOn 4 s args ed_ws RX5) (hr : meth.sig.returnType = none) (hlocks : meth.locks = false) (hK : ed_K D cy s) (σ' : ed_SM) :
    ∀ (m2 m3 : Nat) (σ : ed_SM), m2 < 20 → m3 < 8 → f_X5_moveOn_75 n1 m2 m3 σ = some σ' → ∀ (H : Heap) (locs : List Loc) (ls : Array Slot), ed_P D cy B (ed_sJ μ j σ) H → va_S (ed_A B) s.heap H locs → lv_has ls 4 [(0, .ref (B + ed_oF j 0 0)), (1, .ref (B + ed_oF j 12 n1)), (2, .ref (B + ed_oF j 7 m2)), (3, .ref (B + ed_oF j 11 m3))] → W p l e (headSpec wsX5_moveOn rmX5_moveOn).room s m args below meth c H locs 0 0 (MQ below (ed_qV (ed_A B) (ed_P D cy B (ed_sJ μ j σ'))) args s 0 0 (ed_A B)) (F0 m 75 ls []) := by
  intro m2 m3 σ hm2 hm3 hf H locs ls hM hS hl
  unfold f_X5_moveOn_75 at hf
  refine lv_aload_n S.1 S.2.1 dX5_moveOn_75 rfl (lv_at hl 1 rfl) ?_
  refine ed_get (r := (σ 12 n1)) S ed_uX1 hK hM (ed_v12 hj h1) (ed_sJr μ j σ 12 n1) (ed_e12 cy B j n1 _) rfl 2 (by decide) ed_w1_171 rfl rfl dX5_moveOn_76 ?_
  refine lv_iconst (v := 1) S.1 S.2.1 dX5_moveOn_79 (by decide) ?_
  refine lv_icmp_ne (tgt := 120) S.1 S.2.1 dX5_moveOn_80 (by decide) (fun c5 => ?_) (fun c5 => ?_)
  · replace hf := ed_in_ c5 hf
    exact w_X5_moveOn_120 hj h1 S hr hlocks hK σ' m2 m3 σ hm2 hm3 hf _ _ _ hM hS (lv_sub hl [0, 1, 2, 3] rfl)
  · replace hf := ed_ip c5 hf
    refine lv_aload_n S.1 S.2.1 dX5_moveOn_83 rfl (lv_at hl 0 rfl) ?_
    refine lv_aload_n S.1 S.2.1 dX5_moveOn_84 rfl (lv_at hl 1 rfl) ?_
    refine ed_kI (ed_rV S hK hM (c_X5_useEndsAt _ D cy B μ j hj n1 h1 σ) (cwV 1 S.2.2.2.2 (ed_gV ed_w3_67 ed_w3_68 ed_w3_69 ed_w1_2 ed_w3_70) rfl rfl rfl hd_X5_useEndsAt ⟨Nat.le_of_ble_eq_true rfl, Nat.le_of_ble_eq_true rfl⟩) (ed_rc (q := (RX5, TX5, 11)) (r := (σ 0 0)) hK hM (ed_v0 hj 0) (ed_sJr μ j σ 0 0) (ed_e0 cy B j 0 _) rfl) rfl hl.1 rfl (Nat.le_of_ble_eq_true rfl) dX5_moveOn_85 ⟨Nat.zero_le _, Nat.zero_le _⟩) hS (fun H locs hM hS => ?_)
    refine lv_aload_n S.1 S.2.1 dX5_moveOn_88 rfl (lv_at hl 0 rfl) ?_
    refine ed_get (r := (σ 0 0)) S ed_uX5 hK hM (ed_v0 hj 0) (ed_sJr μ j σ 0 0) (ed_e0 cy B j 0 _) rfl 0 (by decide) ed_w1_211 rfl rfl dX5_moveOn_89 ?_
    refine lv_icmp_gt (tgt := 120) S.1 S.2.1 dX5_moveOn_92 (by decide) (fun c10 => ?_) (fun c10 => ?_)
    · replace hf := ed_ip c10 hf
      exact w_X5_moveOn_120 hj h1 S hr hlocks hK σ' m2 m3 σ hm2 hm3 hf _ _ _ hM hS (lv_sub hl [0, 1, 2, 3] rfl)
    · replace hf := ed_in_ c10 hf
      refine lv_aload_n S.1 S.2.1 dX5_moveOn_95 rfl (lv_at hl 1 rfl) ?_
      refine lv_iconst (v := 3) S.1 S.2.1 dX5_moveOn_96 (by decide) ?_
      refine ed_put (j := j) S ed_uX1 tyX1 tyX1_ok nmX1 hK hM hS (ed_v12 hj h1) (ed_e12 cy B j n1 _) rfl 2 (by decide) ed_w1_171 rfl rfl rfl rfl (Nat.le_of_ble_eq_true rfl) (ed_u12_2 cy B j n1 _ _) dX5_moveOn_97 (fun H locs hM hS => ?_)
      obtain ⟨σ11, eσ11, hf⟩ := ed_t_e hf
      have hM : ed_P D cy B (ed_sJ μ j σ11) H := by rw [eσ11]; exact hM
      refine lv_aload_n S.1 S.2.1 dX5_moveOn_100 rfl (lv_at hl 0 rfl) ?_
      refine ed_get (r := (σ11 0 0)) S ed_uX5 hK hM (ed_v0 hj 0) (ed_sJr μ j σ11 0 0) (ed_e0 cy B j 0 _) rfl 6 (by decide) ed_w1_223 rfl rfl dX5_moveOn_101 ?_
      refine lv_iconst (v := 4) S.1 S.2.1 dX5_moveOn_104 (by decide) ?_
      refine lv_aload_n S.1 S.2.1 dX5_moveOn_105 rfl (lv_at hl 1 rfl) ?_
      refine ed_get (r := (σ11 12 n1)) S ed_uX1 hK hM (ed_v12 hj h1) (ed_sJr μ j σ11 12 n1) (ed_e12 cy B j n1 _) rfl 0 (by decide) ed_w1_165 rfl rfl dX5_moveOn_106 ?_
      refine lv_aload_n S.1 S.2.1 dX5_moveOn_109 rfl (lv_at hl 1 rfl) ?_
      refine ed_get (r := (σ11 12 n1)) S ed_uX1 hK hM (ed_v12 hj h1) (ed_sJr μ j σ11 12 n1) (ed_e12 cy B j n1 _) rfl 1 (by decide) ed_w1_168 rfl rfl dX5_moveOn_110 ?_
      refine lv_aload_n S.1 S.2.1 dX5_moveOn_113 rfl (lv_at hl 0 rfl) ?_
      refine ed_get (r := (σ11 0 0)) S ed_uX5 hK hM (ed_v0 hj 0) (ed_sJr μ j σ11 0 0) (ed_e0 cy B j 0 _) rfl 0 (by decide) ed_w1_211 rfl rfl dX5_moveOn_114 ?_
      obtain ⟨σ12, hq12, hf⟩ := ed_b_e hf
      refine ed_kV (ed_rV S hK hM (c_X3_add _ D cy B μ j hj 4 (σ11 12 n1 0) (σ11 12 n1 1) (σ11 0 0 0) σ11 σ12 hq12) (cwV 4 S.2.2.2.2 (ed_gV ed_w3_17 ed_w3_18 ed_w3_19 ed_w1_3 ed_w3_20) rfl rfl rfl hd_X3_add ⟨Nat.le_of_ble_eq_true rfl, Nat.le_of_ble_eq_true rfl⟩) (ed_rc (q := (RX3, TX3, 3)) (r := (σ11 1 0)) hK hM (ed_v0 hj 1) (ed_sJr μ j σ11 1 0) (ed_e1 cy B j 0 _) rfl) rfl hl.1 rfl (Nat.le_of_ble_eq_true rfl) dX5_moveOn_117 ⟨Nat.zero_le _, Nat.zero_le _⟩) hS (fun H locs hM hS => ?_)
      exact w_X5_moveOn_120 hj h1 S hr hlocks hK σ' m2 m3 σ12 hm2 hm3 hf _ _ _ hM hS (lv_sub hl [0, 1, 2, 3] rfl)
set_option maxHeartbeats 4000000 in
set_option maxRecDepth 100000 in
theorem c_X5_moveOn (l : Launch) (D : va_G) (cy : Nat → ClassId) (B : Nat) (μ : ed_CM) (j : Nat) (hj : j < 7) (n1 : Nat) (h1 : n1 < 160) (σ : ed_SM) (σ' : ed_SM) (hf : f_X5_moveOn n1 σ = some σ') :
    Met l yX5_moveOn wsX5_moveOn rmX5_moveOn (ed_pC D cy (ed_P D cy B (ed_sJ μ j σ)) [.ref (B + ed_oF j 0 0), .ref (B + ed_oF j 12 n1)]) (ed_qV (ed_A B) (ed_P D cy B (ed_sJ μ j σ'))) 0 0 (ed_A B) := by
  refine Met.ofW (cc := cX5_moveOn) (maxL := 4) (ret := none) (by decide) rfl ?_
  intro p e s m args below meth c s₁ B0 hml hv
  obtain ⟨rfl, hM, hK⟩ := hv
  have S : CallFix p m c cX5_moveOn 4 s _ ed_ws RX5 := ⟨B0.exec, B0.bytes, hml, findClass_of_methodNamed B0.named, fun w hw => atoms_spec (ws := wsX5_moveOn) B0.pre w (List.mem_cons_of_mem _ hw)⟩
  have hr := B0.returns
  have hlocks := B0.notSynchronized
  have hS : va_S (ed_A B) s.heap s.heap [] := va_S.rf
  have hl := lv_entry ([.ref (B + ed_oF j 0 0), .ref (B + ed_oF j 12 n1)]) (n := 4) (Nat.le_of_ble_eq_true rfl)
  rw [lg_entry_eq]
  generalize (lg_sl ([.ref (B + ed_oF j 0 0), .ref (B + ed_oF j 12 n1)]) ++ List.replicate (4 - (lg_sl ([.ref (B + ed_oF j 0 0), .ref (B + ed_oF j 12 n1)])).length) Slot.unset).toArray = ls at hl ⊢
  have hl : lv_has ls 4 [(0, .ref (B + ed_oF j 0 0)), (1, .ref (B + ed_oF j 12 n1))] := hl
  unfold f_X5_moveOn at hf
  refine lv_aload_n S.1 S.2.1 dX5_moveOn_0 rfl (lv_at hl 0 rfl) ?_
  refine lv_aload_n S.1 S.2.1 dX5_moveOn_1 rfl (lv_at hl 1 rfl) ?_
  refine ed_get (r := (σ 12 n1)) S ed_uX1 hK hM (ed_v12 hj h1) (ed_sJr μ j σ 12 n1) (ed_e12 cy B j n1 _) rfl 0 (by decide) ed_w1_165 rfl rfl dX5_moveOn_2 ?_
  obtain ⟨o1, hq1, hf⟩ := ed_b_e hf
  refine ed_kA (ed_rV S hK hM (c_X5_storyAt _ D cy B μ j hj (σ 12 n1 0) σ o1 hq1) (cwV 1 S.2.2.2.2 (ed_gV ed_w2_129 ed_w2_130 ed_w2_131 ed_w1_2 ed_w2_132) rfl rfl rfl hd_X5_storyAt ⟨Nat.le_of_ble_eq_true rfl, Nat.le_of_ble_eq_true rfl⟩) (ed_rc (q := (RX5, TX5, 11)) (r := (σ 0 0)) hK hM (ed_v0 hj 0) (ed_sJr μ j σ 0 0) (ed_e0 cy B j 0 _) rfl) rfl hl.1 rfl (Nat.le_of_ble_eq_true rfl) dX5_moveOn_5 ⟨Nat.zero_le _, Nat.zero_le _⟩) hS (fun H locs hM hS => ?_)
  cases o1 with
  | none =>
    dsimp only at hf
    refine W.eq (g2 := F0 m 8 ls (.null :: [])) rfl ?_
    refine lv_astore_nN (lv' := [(2, .null), (0, .ref (B + ed_oF j 0 0)), (1, .ref (B + ed_oF j 12 n1))]) S.1 S.2.1 dX5_moveOn_8 rfl hl (by decide) rfl (fun ls hl => ?_)
    refine lv_aload_n S.1 S.2.1 dX5_moveOn_9 rfl (lv_at hl 1 rfl) ?_
    refine lv_aload_n S.1 S.2.1 dX5_moveOn_10 rfl (lv_at hl 2 rfl) ?_
    refine ed_get (r := (σ 12 n1)) S ed_uX1 hK hM (ed_v12 hj h1) (ed_sJr μ j σ 12 n1) (ed_e12 cy B j n1 _) rfl 1 (by decide) ed_w1_168 rfl rfl dX5_moveOn_11 ?_
    obtain ⟨o2, hq2, hf⟩ := ed_b_e hf
    refine ed_kA (ed_rV S hK hM (c_X5_clientAt _ D cy B μ j hj (σ 12 n1 1) σ o2 hq2) (cwV 1 S.2.2.2.2 (ed_gV ed_w2_144 ed_w2_145 ed_w2_146 ed_w1_2 ed_w2_147) rfl rfl rfl hd_X5_clientAt ⟨Nat.le_of_ble_eq_true rfl, Nat.le_of_ble_eq_true rfl⟩) (ed_rc (q := (RX5, TX5, 11)) (r := (σ 0 0)) hK hM (ed_v0 hj 0) (ed_sJr μ j σ 0 0) (ed_e0 cy B j 0 _) rfl) rfl hl.1 rfl (Nat.le_of_ble_eq_true rfl) dX5_moveOn_14 ⟨Nat.zero_le _, Nat.zero_le _⟩) hS (fun H locs hM hS => ?_)
    cases o2 with
    | none =>
      dsimp only at hf
      refine W.eq (g2 := F0 m 17 ls (.null :: [])) rfl ?_
      refine lv_astore_nN (lv' := [(3, .null), (2, .null), (0, .ref (B + ed_oF j 0 0)), (1, .ref (B + ed_oF j 12 n1))]) S.1 S.2.1 dX5_moveOn_17 rfl hl (by decide) rfl (fun ls hl => ?_)
      refine lv_aload_nN S.1 S.2.1 dX5_moveOn_18 rfl (lv_at hl 1 rfl) ?_
      refine lv_ifnullN (tgt := 26) S.1 S.2.1 dX5_moveOn_19 (by decide) ?_
      obtain rfl := Option.some.inj hf
      exact ed_rv S hr hlocks hM hS dX5_moveOn_26
    | some n2q =>
      dsimp only at hf
      obtain ⟨hn2q, hf⟩ := ed_g_e hf
      refine W.eq (g2 := F0 m 17 ls (.ref (B + ed_oF j 11 n2q) :: [])) rfl ?_
      refine lv_astore_n (lv' := [(3, .ref (B + ed_oF j 11 n2q)), (2, .null), (0, .ref (B + ed_oF j 0 0)), (1, .ref (B + ed_oF j 12 n1))]) S.1 S.2.1 dX5_moveOn_17 rfl hl (by decide) rfl (fun ls hl => ?_)
      refine lv_aload_nN S.1 S.2.1 dX5_moveOn_18 rfl (lv_at hl 1 rfl) ?_
      refine lv_ifnullN (tgt := 26) S.1 S.2.1 dX5_moveOn_19 (by decide) ?_
      obtain rfl := Option.some.inj hf
      exact ed_rv S hr hlocks hM hS dX5_moveOn_26
  | some n1q =>
    dsimp only at hf
    obtain ⟨hn1q, hf⟩ := ed_g_e hf
    refine W.eq (g2 := F0 m 8 ls (.ref (B + ed_oF j 7 n1q) :: [])) rfl ?_
    refine lv_astore_n (lv' := [(2, .ref (B + ed_oF j 7 n1q)), (0, .ref (B + ed_oF j 0 0)), (1, .ref (B + ed_oF j 12 n1))]) S.1 S.2.1 dX5_moveOn_8 rfl hl (by decide) rfl (fun ls hl => ?_)
    refine lv_aload_n S.1 S.2.1 dX5_moveOn_9 rfl (lv_at hl 1 rfl) ?_
    refine lv_aload_n S.1 S.2.1 dX5_moveOn_10 rfl (lv_at hl 2 rfl) ?_
    refine ed_get (r := (σ 12 n1)) S ed_uX1 hK hM (ed_v12 hj h1) (ed_sJr μ j σ 12 n1) (ed_e12 cy B j n1 _) rfl 1 (by decide) ed_w1_168 rfl rfl dX5_moveOn_11 ?_
    obtain ⟨o3, hq3, hf⟩ := ed_b_e hf
    refine ed_kA (ed_rV S hK hM (c_X5_clientAt _ D cy B μ j hj (σ 12 n1 1) σ o3 hq3) (cwV 1 S.2.2.2.2 (ed_gV ed_w2_144 ed_w2_145 ed_w2_146 ed_w1_2 ed_w2_147) rfl rfl rfl hd_X5_clientAt ⟨Nat.le_of_ble_eq_true rfl, Nat.le_of_ble_eq_true rfl⟩) (ed_rc (q := (RX5, TX5, 11)) (r := (σ 0 0)) hK hM (ed_v0 hj 0) (ed_sJr μ j σ 0 0) (ed_e0 cy B j 0 _) rfl) rfl hl.1 rfl (Nat.le_of_ble_eq_true rfl) dX5_moveOn_14 ⟨Nat.zero_le _, Nat.zero_le _⟩) hS (fun H locs hM hS => ?_)
    cases o3 with
    | none =>
      dsimp only at hf
      refine W.eq (g2 := F0 m 17 ls (.null :: [])) rfl ?_
      refine lv_astore_nN (lv' := [(3, .null), (2, .ref (B + ed_oF j 7 n1q)), (0, .ref (B + ed_oF j 0 0)), (1, .ref (B + ed_oF j 12 n1))]) S.1 S.2.1 dX5_moveOn_17 rfl hl (by decide) rfl (fun ls hl => ?_)
      refine lv_aload_n S.1 S.2.1 dX5_moveOn_18 rfl (lv_at hl 1 rfl) ?_
      refine lv_ifnull S.1 S.2.1 dX5_moveOn_19 ?_
      refine lv_aload_nN S.1 S.2.1 dX5_moveOn_22 rfl (lv_at hl 0 rfl) ?_
      refine lv_ifnonnullN S.1 S.2.1 dX5_moveOn_23 ?_
      obtain rfl := Option.some.inj hf
      exact ed_rv S hr hlocks hM hS dX5_moveOn_26
    | some n3q =>
      dsimp only at hf
      obtain ⟨hn3q, hf⟩ := ed_g_e hf
      refine W.eq (g2 := F0 m 17 ls (.ref (B + ed_oF j 11 n3q) :: [])) rfl ?_
      refine lv_astore_n (lv' := [(3, .ref (B + ed_oF j 11 n3q)), (2, .ref (B + ed_oF j 7 n1q)), (0, .ref (B + ed_oF j 0 0)), (1, .ref (B + ed_oF j 12 n1))]) S.1 S.2.1 dX5_moveOn_17 rfl hl (by decide) rfl (fun ls hl => ?_)
      refine lv_aload_n S.1 S.2.1 dX5_moveOn_18 rfl (lv_at hl 1 rfl) ?_
      refine lv_ifnull S.1 S.2.1 dX5_moveOn_19 ?_
      refine lv_aload_n S.1 S.2.1 dX5_moveOn_22 rfl (lv_at hl 0 rfl) ?_
      refine lv_ifnonnull (tgt := 27) S.1 S.2.1 dX5_moveOn_23 (by decide) ?_
      refine lv_aload_n S.1 S.2.1 dX5_moveOn_27 rfl (lv_at hl 3 rfl) ?_
      refine ed_get (r := (σ 12 n1)) S ed_uX1 hK hM (ed_v12 hj h1) (ed_sJr μ j σ 12 n1) (ed_e12 cy B j n1 _) rfl 2 (by decide) ed_w1_171 rfl rfl dX5_moveOn_28 ?_
      refine lv_if_ne (tgt := 75) S.1 S.2.1 dX5_moveOn_31 (by decide) (fun c4 => ?_) (fun c4 => ?_)
      · replace hf := ed_in_ c4 hf
        exact w_X5_moveOn_75 hj h1 S hr hlocks hK σ' n1q n3q σ hn1q hn3q hf _ _ _ hM hS (lv_sub hl [2, 3, 1, 0] rfl)
      · replace hf := ed_ip c4 hf
        refine lv_aload_n S.1 S.2.1 dX5_moveOn_34 rfl (lv_at hl 1 rfl) ?_
        refine ed_get (r := (σ 7 n1q)) S ed_uX6 hK hM (ed_v7 hj hn1q 7) (ed_sJr μ j σ 7 n1q) (ed_e7 cy B j n1q _) rfl 6 (by decide) ed_w1_71 rfl rfl dX5_moveOn_35 ?_
        refine lv_iconst (v := 3) S.1 S.2.1 dX5_moveOn_38 (by decide) ?_
        refine lv_icmp_ne (tgt := 50) S.1 S.2.1 dX5_moveOn_39 (by decide) (fun c13 => ?_) (fun c13 => ?_)
        · replace hf := ed_in_ c13 hf
          refine lv_aload_n S.1 S.2.1 dX5_moveOn_50 rfl (lv_at hl 3 rfl) ?_
          refine ed_get (r := (σ 12 n1)) S ed_uX1 hK hM (ed_v12 hj h1) (ed_sJr μ j σ 12 n1) (ed_e12 cy B j n1 _) rfl 3 (by decide) ed_w1_174 rfl rfl dX5_moveOn_51 ?_
          refine lv_aload_n S.1 S.2.1 dX5_moveOn_54 rfl (lv_at hl 2 rfl) ?_
          refine ed_get (r := (σ 0 0)) S ed_uX5 hK hM (ed_v0 hj 0) (ed_sJr μ j σ 0 0) (ed_e0 cy B j 0 _) rfl 0 (by decide) ed_w1_211 rfl rfl dX5_moveOn_55 ?_
          refine lv_icmp_gt (tgt := 75) S.1 S.2.1 dX5_moveOn_58 (by decide) (fun c14 => ?_) (fun c14 => ?_)
          · replace hf := ed_ip c14 hf
            exact w_X5_moveOn_75 hj h1 S hr hlocks hK σ' n1q n3q σ hn1q hn3q hf _ _ _ hM hS (lv_sub hl [2, 3, 1, 0] rfl)
          · replace hf := ed_in_ c14 hf
            refine lv_aload_n S.1 S.2.1 dX5_moveOn_61 rfl (lv_at hl 0 rfl) ?_
            refine ed_kI (ed_rV S hK hM (c_X0_canGetCopy _ D cy B μ j hj n3q hn3q σ) (cwV 0 S.2.2.2.2 (ed_gV ed_w3_43 ed_w3_44 ed_w3_45 ed_w1_5 ed_w3_46) rfl rfl rfl hd_X0_canGetCopy ⟨Nat.le_of_ble_eq_true rfl, Nat.le_of_ble_eq_true rfl⟩) (ed_rc (q := (RX0, TX0, 10)) (r := (σ 11 n3q)) hK hM (ed_v11 hj hn3q) (ed_sJr μ j σ 11 n3q) (ed_e11 cy B j n3q _) rfl) rfl hl.1 rfl (Nat.le_of_ble_eq_true rfl) dX5_moveOn_62 ⟨Nat.zero_le _, Nat.zero_le _⟩) hS (fun H locs hM hS => ?_)
            refine lv_if_eq (tgt := 75) S.1 S.2.1 dX5_moveOn_65 (by decide) (fun c16 => ?_) (fun c16 => ?_)
            · replace hf := ed_ip c16 hf
              exact w_X5_moveOn_75 hj h1 S hr hlocks hK σ' n1q n3q σ hn1q hn3q hf _ _ _ hM hS (lv_sub hl [2, 3, 1, 0] rfl)
            · replace hf := ed_in_ c16 hf
              refine lv_aload_n S.1 S.2.1 dX5_moveOn_68 rfl (lv_at hl 2 rfl) ?_
              refine lv_aload_n S.1 S.2.1 dX5_moveOn_69 rfl (lv_at hl 3 rfl) ?_
              refine lv_aload_n S.1 S.2.1 dX5_moveOn_70 rfl (lv_at hl 1 rfl) ?_
              refine lv_aload_n S.1 S.2.1 dX5_moveOn_71 rfl (lv_at hl 0 rfl) ?_
              obtain ⟨σ17, hq17, hf⟩ := ed_b_e hf
              refine ed_kV (ed_rV S hK hM (c_X5_startUse _ D cy B μ j hj n1 h1 n1q hn1q n3q hn3q σ σ17 hq17) (cwV 3 S.2.2.2.2 (ed_gV ed_w3_47 ed_w3_49 ed_wp_18 ed_w1_2 ed_w3_50) rfl rfl rfl hd_X5_startUse ⟨Nat.le_of_ble_eq_true rfl, Nat.le_of_ble_eq_true rfl⟩) (ed_rc (q := (RX5, TX5, 11)) (r := (σ 0 0)) hK hM (ed_v0 hj 0) (ed_sJr μ j σ 0 0) (ed_e0 cy B j 0 _) rfl) rfl hl.1 rfl (Nat.le_of_ble_eq_true rfl) dX5_moveOn_72 ⟨Nat.zero_le _, Nat.zero_le _⟩) hS (fun H locs hM hS => ?_)
              exact w_X5_moveOn_75 hj h1 S hr hlocks hK σ' n1q n3q σ17 hn1q hn3q hf _ _ _ hM hS (lv_sub hl [2, 3, 1, 0] rfl)
        · replace hf := ed_ip c13 hf
          refine lv_aload_n S.1 S.2.1 dX5_moveOn_42 rfl (lv_at hl 3 rfl) ?_
          refine lv_iconst (v := 4) S.1 S.2.1 dX5_moveOn_43 (by decide) ?_
          refine ed_put (j := j) S ed_uX1 tyX1 tyX1_ok nmX1 hK hM hS (ed_v12 hj h1) (ed_e12 cy B j n1 _) rfl 2 (by decide) ed_w1_171 rfl rfl rfl rfl (Nat.le_of_ble_eq_true rfl) (ed_u12_2 cy B j n1 _ _) dX5_moveOn_44 (fun H locs hM hS => ?_)
          obtain ⟨σ18, eσ18, hf⟩ := ed_t_e hf
          have hM : ed_P D cy B (ed_sJ μ j σ18) H := by rw [eσ18]; exact hM
          refine lv_goto (tgt := 75) S.1 S.2.1 dX5_moveOn_47 (by decide) ?_
          exact w_X5_moveOn_75 hj h1 S hr hlocks hK σ' n1q n3q σ18 hn1q hn3q hf _ _ _ hM hS (lv_sub hl [2, 3, 1, 0] rfl)
set_option maxHeartbeats 4000000 in
set_option maxRecDepth 100000 in
theorem w_X5_passHour_77 {p : Program} {l : Launch} {e : Env} {s : State} {m : MethodId} {args : Array Value} {below : List Frame} {meth : Method} {c : Code} {D : va_G} {cy : Nat → ClassId} {B : Nat} {μ : ed_CM} {j : Nat} (hj : j < 7) (S : CallFix p m c cX5_passHour 3 s args ed_ws RX5) (hr : meth.sig.returnType = none) (hlocks : meth.locks = false) (hK : ed_K D cy s) (σ' : ed_SM) :
    ∀ (n : Nat), ∀ (x1 : Int32) (σ : ed_SM), f_X5_passHour_77  n x1 σ = some σ' → ∀ (H : Heap) (locs : List Loc) (ls : Array Slot), ed_P D cy B (ed_sJ μ j σ) H → va_S (ed_A B) s.heap H locs → lv_has ls 3 [(0, .ref (B + ed_oF j 0 0)), (1, .int x1)] → W p l e (headSpec wsX5_passHour rmX5_passHour).room s m args below meth c H locs 0 0 (MQ below (ed_qV (ed_A B) (ed_P D cy B (ed_sJ μ j σ'))) args s 0 0 (ed_A B)) (F0 m 77 ls []) := by
  intro n
  induction n with
  | zero => intro x1 σ hf; rw [f_X5_passHour_77] at hf; cases hf
  | succ n ih =>
    intro x1 σ hf H locs ls hM hS hl
    rw [f_X5_passHour_77] at hf
    refine lv_iload_n S.1 S.2.1 dX5_passHour_77 rfl (lv_at hl 1 rfl) ?_
    refine lv_aload_n S.1 S.2.1 dX5_passHour_78 rfl (lv_at hl 0 rfl) ?_
    refine ed_get (r := (σ 0 0)) S ed_uX5 hK hM (ed_v0 hj 0) (ed_sJr μ j σ 0 0) (ed_e0 cy B j 0 _) rfl 5 (by decide) ed_w1_221 rfl rfl dX5_passHour_79 ?_
    refine lv_icmp_ge (tgt := 113) S.1 S.2.1 dX5_passHour_82 (by decide) (fun c4 => ?_) (fun c4 => ?_)
    · replace hf := ed_ip c4 hf
      obtain rfl := Option.some.inj hf
      exact ed_rv S hr hlocks hM hS dX5_passHour_113
    · replace hf := ed_in_ c4 hf
      refine lv_aload_n S.1 S.2.1 dX5_passHour_85 rfl (lv_at hl 0 rfl) ?_
      refine lv_iload_n S.1 S.2.1 dX5_passHour_86 rfl (lv_at hl 1 rfl) ?_
      obtain ⟨o5, hq5, hf⟩ := ed_b_e hf
      refine ed_kA (ed_rV S hK hM (c_X5_copyMade _ D cy B μ j hj x1 σ o5 hq5) (cwV 1 S.2.2.2.2 (ed_gV ed_w2_156 ed_w2_157 ed_w2_158 ed_w1_2 ed_w2_159) rfl rfl rfl hd_X5_copyMade ⟨Nat.le_of_ble_eq_true rfl, Nat.le_of_ble_eq_true rfl⟩) (ed_rc (q := (RX5, TX5, 11)) (r := (σ 0 0)) hK hM (ed_v0 hj 0) (ed_sJr μ j σ 0 0) (ed_e0 cy B j 0 _) rfl) rfl hl.1 rfl (Nat.le_of_ble_eq_true rfl) dX5_passHour_87 ⟨Nat.zero_le _, Nat.zero_le _⟩) hS (fun H locs hM hS => ?_)
      cases o5 with
      | none =>
        dsimp only at hf
        refine W.eq (g2 := F0 m 90 ls (.null :: [])) rfl ?_
        refine lv_astore_nN (lv' := [(2, .null), (0, .ref (B + ed_oF j 0 0)), (1, .int x1)]) S.1 S.2.1 dX5_passHour_90 rfl hl (by decide) rfl (fun ls hl => ?_)
        refine lv_aload_nN S.1 S.2.1 dX5_passHour_91 rfl (lv_at hl 0 rfl) ?_
        refine lv_ifnullN (tgt := 107) S.1 S.2.1 dX5_passHour_92 (by decide) ?_
        refine lv_iinc (v := x1 + 1) (lv' := [(1, .int (x1 + 1)), (2, .null), (0, .ref (B + ed_oF j 0 0))]) S.1 S.2.1 dX5_passHour_107 hl (k := 2) rfl rfl (by decide) rfl (fun ls hl => ?_)
        refine lv_goto (tgt := 77) S.1 S.2.1 dX5_passHour_110 (by decide) ?_
        exact ih (x1 + 1) σ hf _ _ _ hM hS (lv_sub hl [2, 0] rfl)
      | some n5q =>
        dsimp only at hf
        obtain ⟨hn5q, hf⟩ := ed_g_e hf
        refine W.eq (g2 := F0 m 90 ls (.ref (B + ed_oF j 12 n5q) :: [])) rfl ?_
        refine lv_astore_n (lv' := [(2, .ref (B + ed_oF j 12 n5q)), (0, .ref (B + ed_oF j 0 0)), (1, .int x1)]) S.1 S.2.1 dX5_passHour_90 rfl hl (by decide) rfl (fun ls hl => ?_)
        refine lv_aload_n S.1 S.2.1 dX5_passHour_91 rfl (lv_at hl 0 rfl) ?_
        refine lv_ifnull S.1 S.2.1 dX5_passHour_92 ?_
        refine lv_aload_n S.1 S.2.1 dX5_passHour_95 rfl (lv_at hl 0 rfl) ?_
        refine ed_kI (ed_rV S hK hM (c_X1_isOver _ D cy B μ j hj n5q hn5q σ) (cwV 0 S.2.2.2.2 (ed_gV ed_w3_35 ed_w3_36 ed_w3_37 ed_w1_6 ed_w3_38) rfl rfl rfl hd_X1_isOver ⟨Nat.le_of_ble_eq_true rfl, Nat.le_of_ble_eq_true rfl⟩) (ed_rc (q := (RX1, TX1, 6)) (r := (σ 12 n5q)) hK hM (ed_v12 hj hn5q) (ed_sJr μ j σ 12 n5q) (ed_e12 cy B j n5q _) rfl) rfl hl.1 rfl (Nat.le_of_ble_eq_true rfl) dX5_passHour_96 ⟨Nat.zero_le _, Nat.zero_le _⟩) hS (fun H locs hM hS => ?_)
        refine lv_if_ne (tgt := 107) S.1 S.2.1 dX5_passHour_99 (by decide) (fun c7 => ?_) (fun c7 => ?_)
        · replace hf := ed_in_ c7 hf
          refine lv_iinc (v := x1 + 1) (lv' := [(1, .int (x1 + 1)), (2, .ref (B + ed_oF j 12 n5q)), (0, .ref (B + ed_oF j 0 0))]) S.1 S.2.1 dX5_passHour_107 hl (k := 2) rfl rfl (by decide) rfl (fun ls hl => ?_)
          refine lv_goto (tgt := 77) S.1 S.2.1 dX5_passHour_110 (by decide) ?_
          exact ih (x1 + 1) σ hf _ _ _ hM hS (lv_sub hl [2, 0] rfl)
        · replace hf := ed_ip c7 hf
          refine lv_aload_n S.1 S.2.1 dX5_passHour_102 rfl (lv_at hl 1 rfl) ?_
          refine lv_aload_n S.1 S.2.1 dX5_passHour_103 rfl (lv_at hl 0 rfl) ?_
          obtain ⟨σ8, hq8, hf⟩ := ed_b_e hf
          refine ed_kV (ed_rV S hK hM (c_X5_moveOn _ D cy B μ j hj n5q hn5q σ σ8 hq8) (cwV 1 S.2.2.2.2 (ed_gV ed_w3_39 ed_w3_41 ed_wp_17 ed_w1_2 ed_w3_42) rfl rfl rfl hd_X5_moveOn ⟨Nat.le_of_ble_eq_true rfl, Nat.le_of_ble_eq_true rfl⟩) (ed_rc (q := (RX5, TX5, 11)) (r := (σ 0 0)) hK hM (ed_v0 hj 0) (ed_sJr μ j σ 0 0) (ed_e0 cy B j 0 _) rfl) rfl hl.1 rfl (Nat.le_of_ble_eq_true rfl) dX5_passHour_104 ⟨Nat.zero_le _, Nat.zero_le _⟩) hS (fun H locs hM hS => ?_)
          refine lv_iinc (v := x1 + 1) (lv' := [(1, .int (x1 + 1)), (2, .ref (B + ed_oF j 12 n5q)), (0, .ref (B + ed_oF j 0 0))]) S.1 S.2.1 dX5_passHour_107 hl (k := 2) rfl rfl (by decide) rfl (fun ls hl => ?_)
          refine lv_goto (tgt := 77) S.1 S.2.1 dX5_passHour_110 (by decide) ?_
          exact ih (x1 + 1) σ8 hf _ _ _ hM hS (lv_sub hl [2, 0] rfl)
set_option maxHeartbeats 4000000 in
set_option maxRecDepth 100000 in
theorem w_X5_passHour_26 {p : Program} {l : Launch} {e : Env} {s : State} {m : MethodId} {args : Array Value} {below : List Frame} {meth : Method} {c : Code} {D : va_G} {cy : Nat → ClassId} {B : Nat} {μ : ed_CM} {j : Nat} (hj : j < 7) (S : CallFix p m c cX5_passHour 3 s args ed_ws RX5) (hr : meth.sig.returnType = none) (hlocks : meth.locks = false) (hK : ed_K D cy s) (σ' : ed_SM) :
    ∀ (n : Nat), ∀ (x1 : Int32) (σ : ed_SM), f_X5_passHour_26  n x1 σ = some σ' → ∀ (H : Heap) (locs : List Loc) (ls : Array Slot), ed_P D cy B (ed_sJ μ j σ) H → va_S (ed_A B) s.heap H locs → lv_has ls 3 [(0, .ref (B + ed_oF j 0 0)), (1, .int x1)] → W p l e (headSpec wsX5_passHour rmX5_passHour).room s m args below meth c H locs 0 0 (MQ below (ed_qV (ed_A B) (ed_P D cy B (ed_sJ μ j σ'))) args s 0 0 (ed_A B)) (F0 m 26 ls []) := by
  intro n
  induction n with
  | zero => intro x1 σ hf; rw [f_X5_passHour_26] at hf; cases hf
  | succ n ih =>
    intro x1 σ hf H locs ls hM hS hl
    rw [f_X5_passHour_26] at hf
    refine lv_iload_n S.1 S.2.1 dX5_passHour_26 rfl (lv_at hl 1 rfl) ?_
    refine lv_aload_n S.1 S.2.1 dX5_passHour_27 rfl (lv_at hl 0 rfl) ?_
    refine ed_get (r := (σ 0 0)) S ed_uX5 hK hM (ed_v0 hj 0) (ed_sJr μ j σ 0 0) (ed_e0 cy B j 0 _) rfl 3 (by decide) ed_w1_217 rfl rfl dX5_passHour_28 ?_
    refine lv_icmp_ge (tgt := 75) S.1 S.2.1 dX5_passHour_31 (by decide) (fun c3 => ?_) (fun c3 => ?_)
    · replace hf := ed_ip c3 hf
      refine lv_iconst (v := 0) S.1 S.2.1 dX5_passHour_75 (by decide) ?_
      refine lv_istore_n (lv' := [(1, .int 0), (0, .ref (B + ed_oF j 0 0))]) S.1 S.2.1 dX5_passHour_76 rfl hl (by decide) rfl (fun ls hl => ?_)
      exact w_X5_passHour_77 hj S hr hlocks hK σ' ed_N 0 σ hf _ _ _ hM hS (lv_sub hl [1, 0] rfl)
    · replace hf := ed_in_ c3 hf
      refine lv_aload_n S.1 S.2.1 dX5_passHour_34 rfl (lv_at hl 0 rfl) ?_
      refine lv_iload_n S.1 S.2.1 dX5_passHour_35 rfl (lv_at hl 1 rfl) ?_
      obtain ⟨o9, hq9, hf⟩ := ed_b_e hf
      refine ed_kA (ed_rV S hK hM (c_X5_storyAt _ D cy B μ j hj x1 σ o9 hq9) (cwV 1 S.2.2.2.2 (ed_gV ed_w2_129 ed_w2_130 ed_w2_131 ed_w1_2 ed_w2_132) rfl rfl rfl hd_X5_storyAt ⟨Nat.le_of_ble_eq_true rfl, Nat.le_of_ble_eq_true rfl⟩) (ed_rc (q := (RX5, TX5, 11)) (r := (σ 0 0)) hK hM (ed_v0 hj 0) (ed_sJr μ j σ 0 0) (ed_e0 cy B j 0 _) rfl) rfl hl.1 rfl (Nat.le_of_ble_eq_true rfl) dX5_passHour_36 ⟨Nat.zero_le _, Nat.zero_le _⟩) hS (fun H locs hM hS => ?_)
      cases o9 with
      | none =>
        dsimp only at hf
        refine W.eq (g2 := F0 m 39 ls (.null :: [])) rfl ?_
        refine lv_astore_nN (lv' := [(2, .null), (0, .ref (B + ed_oF j 0 0)), (1, .int x1)]) S.1 S.2.1 dX5_passHour_39 rfl hl (by decide) rfl (fun ls hl => ?_)
        refine lv_aload_nN S.1 S.2.1 dX5_passHour_40 rfl (lv_at hl 0 rfl) ?_
        refine lv_ifnullN (tgt := 69) S.1 S.2.1 dX5_passHour_41 (by decide) ?_
        refine lv_iinc (v := x1 + 1) (lv' := [(1, .int (x1 + 1)), (2, .null), (0, .ref (B + ed_oF j 0 0))]) S.1 S.2.1 dX5_passHour_69 hl (k := 2) rfl rfl (by decide) rfl (fun ls hl => ?_)
        refine lv_goto (tgt := 26) S.1 S.2.1 dX5_passHour_72 (by decide) ?_
        exact ih (x1 + 1) σ hf _ _ _ hM hS (lv_sub hl [2, 0] rfl)
      | some n9q =>
        dsimp only at hf
        obtain ⟨hn9q, hf⟩ := ed_g_e hf
        refine W.eq (g2 := F0 m 39 ls (.ref (B + ed_oF j 7 n9q) :: [])) rfl ?_
        refine lv_astore_n (lv' := [(2, .ref (B + ed_oF j 7 n9q)), (0, .ref (B + ed_oF j 0 0)), (1, .int x1)]) S.1 S.2.1 dX5_passHour_39 rfl hl (by decide) rfl (fun ls hl => ?_)
        refine lv_aload_n S.1 S.2.1 dX5_passHour_40 rfl (lv_at hl 0 rfl) ?_
        refine lv_ifnull S.1 S.2.1 dX5_passHour_41 ?_
        refine lv_aload_n S.1 S.2.1 dX5_passHour_44 rfl (lv_at hl 0 rfl) ?_
        refine ed_get (r := (σ 7 n9q)) S ed_uX6 hK hM (ed_v7 hj hn9q 7) (ed_sJr μ j σ 7 n9q) (ed_e7 cy B j n9q _) rfl 6 (by decide) ed_w1_71 rfl rfl dX5_passHour_45 ?_
        refine lv_iconst (v := 1) S.1 S.2.1 dX5_passHour_48 (by decide) ?_
        refine lv_icmp_ne (tgt := 69) S.1 S.2.1 dX5_passHour_49 (by decide) (fun c10 => ?_) (fun c10 => ?_)
        · replace hf := ed_in_ c10 hf
          refine lv_iinc (v := x1 + 1) (lv' := [(1, .int (x1 + 1)), (2, .ref (B + ed_oF j 7 n9q)), (0, .ref (B + ed_oF j 0 0))]) S.1 S.2.1 dX5_passHour_69 hl (k := 2) rfl rfl (by decide) rfl (fun ls hl => ?_)
          refine lv_goto (tgt := 26) S.1 S.2.1 dX5_passHour_72 (by decide) ?_
          exact ih (x1 + 1) σ hf _ _ _ hM hS (lv_sub hl [2, 0] rfl)
        · replace hf := ed_ip c10 hf
          refine lv_aload_n S.1 S.2.1 dX5_passHour_52 rfl (lv_at hl 0 rfl) ?_
          refine ed_get (r := (σ 7 n9q)) S ed_uX6 hK hM (ed_v7 hj hn9q 7) (ed_sJr μ j σ 7 n9q) (ed_e7 cy B j n9q _) rfl 3 (by decide) ed_w1_65 rfl rfl dX5_passHour_53 ?_
          refine lv_aload_n S.1 S.2.1 dX5_passHour_56 rfl (lv_at hl 1 rfl) ?_
          refine ed_get (r := (σ 0 0)) S ed_uX5 hK hM (ed_v0 hj 0) (ed_sJr μ j σ 0 0) (ed_e0 cy B j 0 _) rfl 0 (by decide) ed_w1_211 rfl rfl dX5_passHour_57 ?_
          refine lv_icmp_gt (tgt := 69) S.1 S.2.1 dX5_passHour_60 (by decide) (fun c11 => ?_) (fun c11 => ?_)
          · replace hf := ed_ip c11 hf
            refine lv_iinc (v := x1 + 1) (lv' := [(1, .int (x1 + 1)), (2, .ref (B + ed_oF j 7 n9q)), (0, .ref (B + ed_oF j 0 0))]) S.1 S.2.1 dX5_passHour_69 hl (k := 2) rfl rfl (by decide) rfl (fun ls hl => ?_)
            refine lv_goto (tgt := 26) S.1 S.2.1 dX5_passHour_72 (by decide) ?_
            exact ih (x1 + 1) σ hf _ _ _ hM hS (lv_sub hl [2, 0] rfl)
          · replace hf := ed_in_ c11 hf
            refine lv_aload_n S.1 S.2.1 dX5_passHour_63 rfl (lv_at hl 1 rfl) ?_
            refine lv_iload_n S.1 S.2.1 dX5_passHour_64 rfl (lv_at hl 2 rfl) ?_
            refine lv_aload_n S.1 S.2.1 dX5_passHour_65 rfl (lv_at hl 0 rfl) ?_
            obtain ⟨σ12, hq12, hf⟩ := ed_b_e hf
            refine ed_kV (ed_rV S hK hM (c_X5_publish _ D cy B μ j hj n9q hn9q x1 σ σ12 hq12) (cwV 2 S.2.2.2.2 (ed_gV ed_w3_13 ed_w3_15 ed_wp_15 ed_w1_2 ed_w3_16) rfl rfl rfl hd_X5_publish ⟨Nat.le_of_ble_eq_true rfl, Nat.le_of_ble_eq_true rfl⟩) (ed_rc (q := (RX5, TX5, 11)) (r := (σ 0 0)) hK hM (ed_v0 hj 0) (ed_sJr μ j σ 0 0) (ed_e0 cy B j 0 _) rfl) rfl hl.1 rfl (Nat.le_of_ble_eq_true rfl) dX5_passHour_66 ⟨Nat.zero_le _, Nat.zero_le _⟩) hS (fun H locs hM hS => ?_)
            refine lv_iinc (v := x1 + 1) (lv' := [(1, .int (x1 + 1)), (2, .ref (B + ed_oF j 7 n9q)), (0, .ref (B + ed_oF j 0 0))]) S.1 S.2.1 dX5_passHour_69 hl (k := 2) rfl rfl (by decide) rfl (fun ls hl => ?_)
            refine lv_goto (tgt := 26) S.1 S.2.1 dX5_passHour_72 (by decide) ?_
            exact ih (x1 + 1) σ12 hf _ _ _ hM hS (lv_sub hl [2, 0] rfl)
set_option maxHeartbeats 4000000 in
set_option maxRecDepth 100000 in
theorem c_X5_passHour (l : Launch) (D : va_G) (cy : Nat → ClassId) (B : Nat) (μ : ed_CM) (j : Nat) (hj : j < 7) (σ : ed_SM) (σ' : ed_SM) (hf : f_X5_passHour σ = some σ') :
    Met l yX5_passHour wsX5_passHour rmX5_passHour (ed_pC D cy (ed_P D cy B (ed_sJ μ j σ)) [.ref (B + ed_oF j 0 0)]) (ed_qV (ed_A B) (ed_P D cy B (ed_sJ μ j σ'))) 0 0 (ed_A B) := by
  refine Met.ofW (cc := cX5_passHour) (maxL := 3) (ret := none) (by decide) rfl ?_
  intro p e s m args below meth c s₁ B0 hml hv
  obtain ⟨rfl, hM, hK⟩ := hv
  have S : CallFix p m c cX5_passHour 3 s _ ed_ws RX5 := ⟨B0.exec, B0.bytes, hml, findClass_of_methodNamed B0.named, fun w hw => atoms_spec (ws := wsX5_passHour) B0.pre w (List.mem_cons_of_mem _ hw)⟩
  have hr := B0.returns
  have hlocks := B0.notSynchronized
  have hS : va_S (ed_A B) s.heap s.heap [] := va_S.rf
  have hl := lv_entry ([.ref (B + ed_oF j 0 0)]) (n := 3) (Nat.le_of_ble_eq_true rfl)
  rw [lg_entry_eq]
  generalize (lg_sl ([.ref (B + ed_oF j 0 0)]) ++ List.replicate (3 - (lg_sl ([.ref (B + ed_oF j 0 0)])).length) Slot.unset).toArray = ls at hl ⊢
  have hl : lv_has ls 3 [(0, .ref (B + ed_oF j 0 0))] := hl
  unfold f_X5_passHour at hf
  refine lv_aload_n S.1 S.2.1 dX5_passHour_0 rfl (lv_at hl 0 rfl) ?_
  refine lv_dup S.1 S.2.1 dX5_passHour_1 rfl ?_
  refine ed_get (r := (σ 0 0)) S ed_uX5 hK hM (ed_v0 hj 0) (ed_sJr μ j σ 0 0) (ed_e0 cy B j 0 _) rfl 0 (by decide) ed_w1_211 rfl rfl dX5_passHour_2 ?_
  refine lv_iconst (v := 1) S.1 S.2.1 dX5_passHour_5 (by decide) ?_
  refine lv_iadd S.1 S.2.1 dX5_passHour_6 ?_
  refine ed_put (j := j) S ed_uX5 tyX5 tyX5_ok nmX5 hK hM hS (ed_v0 hj 0) (ed_e0 cy B j 0 _) rfl 0 (by decide) ed_w1_211 rfl rfl rfl rfl (Nat.le_of_ble_eq_true rfl) (ed_u0_0 cy B j 0 _ _) dX5_passHour_7 (fun H locs hM hS => ?_)
  obtain ⟨σ1, eσ1, hf⟩ := ed_t_e hf
  have hM : ed_P D cy B (ed_sJ μ j σ1) H := by rw [eσ1]; exact hM
  refine lv_aload_n S.1 S.2.1 dX5_passHour_10 rfl (lv_at hl 0 rfl) ?_
  refine ed_get (r := (σ1 0 0)) S ed_uX5 hK hM (ed_v0 hj 0) (ed_sJr μ j σ1 0 0) (ed_e0 cy B j 0 _) rfl 0 (by decide) ed_w1_211 rfl rfl dX5_passHour_11 ?_
  refine lv_bipush (v := 24) S.1 S.2.1 dX5_passHour_14 (by decide) ?_
  refine lv_irem S.1 S.2.1 dX5_passHour_16 (by decide) ?_
  refine lv_if_ne (tgt := 24) S.1 S.2.1 dX5_passHour_17 (by decide) (fun c2 => ?_) (fun c2 => ?_)
  · replace hf := ed_in_ c2 hf
    refine lv_iconst (v := 0) S.1 S.2.1 dX5_passHour_24 (by decide) ?_
    refine lv_istore_n (lv' := [(1, .int 0), (0, .ref (B + ed_oF j 0 0))]) S.1 S.2.1 dX5_passHour_25 rfl hl (by decide) rfl (fun ls hl => ?_)
    exact w_X5_passHour_26 hj S hr hlocks hK σ' ed_N 0 σ1 hf _ _ _ hM hS (lv_sub hl [1, 0] rfl)
  · replace hf := ed_ip c2 hf
    refine lv_aload_n S.1 S.2.1 dX5_passHour_20 rfl (lv_at hl 0 rfl) ?_
    obtain ⟨σ13, hq13, hf⟩ := ed_b_e hf
    refine ed_kV (ed_rV S hK hM (c_X5_startDay _ D cy B μ j hj σ1 σ13 hq13) (cwV 0 S.2.2.2.2 (ed_gV ed_w3_9 ed_w3_11 ed_wp_14 ed_w1_2 ed_w3_12) rfl rfl rfl hd_X5_startDay ⟨Nat.le_of_ble_eq_true rfl, Nat.le_of_ble_eq_true rfl⟩) (ed_rc (q := (RX5, TX5, 11)) (r := (σ1 0 0)) hK hM (ed_v0 hj 0) (ed_sJr μ j σ1 0 0) (ed_e0 cy B j 0 _) rfl) rfl hl.1 rfl (Nat.le_of_ble_eq_true rfl) dX5_passHour_21 ⟨Nat.zero_le _, Nat.zero_le _⟩) hS (fun H locs hM hS => ?_)
    refine lv_iconst (v := 0) S.1 S.2.1 dX5_passHour_24 (by decide) ?_
    refine lv_istore_n (lv' := [(1, .int 0), (0, .ref (B + ed_oF j 0 0))]) S.1 S.2.1 dX5_passHour_25 rfl hl (by decide) rfl (fun ls hl => ?_)
    exact w_X5_passHour_26 hj S hr hlocks hK σ' ed_N 0 σ13 hf _ _ _ hM hS (lv_sub hl [1, 0] rfl)
set_option maxHeartbeats 4000000 in
set_option maxRecDepth 100000 in
theorem c_X5_correctionsMissing (l : Launch) (D : va_G) (cy : Nat → ClassId) (B : Nat) (μ : ed_CM) (j : Nat) (hj : j < 7) (n1 : Nat) (h1 : n1 < 160) (σ : ed_SM) (r : Int32) (hf : f_X5_correctionsMissing n1 σ = some r) :
    Met l yX5_correctionsMissing wsX5_correctionsMissing rmX5_correctionsMissing (ed_pC D cy (ed_P D cy B (ed_sJ μ j σ)) [.ref (B + ed_oF j 0 0), .ref (B + ed_oF j 12 n1)]) (ed_qI (ed_A B) (ed_P D cy B (ed_sJ μ j σ)) r) 0 0 (ed_A B) := by
  refine Met.ofW (cc := cX5_correctionsMissing) (maxL := 3) (ret := (some .int)) (by decide) rfl ?_
  intro p e s m args below meth c s₁ B0 hml hv
  obtain ⟨rfl, hM, hK⟩ := hv
  have S : CallFix p m c cX5_correctionsMissing 3 s _ ed_ws RX5 := ⟨B0.exec, B0.bytes, hml, findClass_of_methodNamed B0.named, fun w hw => atoms_spec (ws := wsX5_correctionsMissing) B0.pre w (List.mem_cons_of_mem _ hw)⟩
  have hr := B0.returns
  have hlocks := B0.notSynchronized
  have hS : va_S (ed_A B) s.heap s.heap [] := va_S.rf
  have hl := lv_entry ([.ref (B + ed_oF j 0 0), .ref (B + ed_oF j 12 n1)]) (n := 3) (Nat.le_of_ble_eq_true rfl)
  rw [lg_entry_eq]
  generalize (lg_sl ([.ref (B + ed_oF j 0 0), .ref (B + ed_oF j 12 n1)]) ++ List.replicate (3 - (lg_sl ([.ref (B + ed_oF j 0 0), .ref (B + ed_oF j 12 n1)])).length) Slot.unset).toArray = ls at hl ⊢
  have hl : lv_has ls 3 [(0, .ref (B + ed_oF j 0 0)), (1, .ref (B + ed_oF j 12 n1))] := hl
  unfold f_X5_correctionsMissing at hf
  refine lv_aload_n S.1 S.2.1 dX5_correctionsMissing_0 rfl (lv_at hl 0 rfl) ?_
  refine lv_aload_n S.1 S.2.1 dX5_correctionsMissing_1 rfl (lv_at hl 1 rfl) ?_
  refine ed_get (r := (σ 12 n1)) S ed_uX1 hK hM (ed_v12 hj h1) (ed_sJr μ j σ 12 n1) (ed_e12 cy B j n1 _) rfl 0 (by decide) ed_w1_165 rfl rfl dX5_correctionsMissing_2 ?_
  obtain ⟨o1, hq1, hf⟩ := ed_b_e hf
  refine ed_kA (ed_rV S hK hM (c_X5_storyAt _ D cy B μ j hj (σ 12 n1 0) σ o1 hq1) (cwV 1 S.2.2.2.2 (ed_gV ed_w2_129 ed_w2_130 ed_w2_131 ed_w1_2 ed_w2_132) rfl rfl rfl hd_X5_storyAt ⟨Nat.le_of_ble_eq_true rfl, Nat.le_of_ble_eq_true rfl⟩) (ed_rc (q := (RX5, TX5, 11)) (r := (σ 0 0)) hK hM (ed_v0 hj 0) (ed_sJr μ j σ 0 0) (ed_e0 cy B j 0 _) rfl) rfl hl.1 rfl (Nat.le_of_ble_eq_true rfl) dX5_correctionsMissing_5 ⟨Nat.zero_le _, Nat.zero_le _⟩) hS (fun H locs hM hS => ?_)
  cases o1 with
  | none =>
    dsimp only at hf
    refine W.eq (g2 := F0 m 8 ls (.null :: [])) rfl ?_
    refine lv_astore_nN (lv' := [(2, .null), (0, .ref (B + ed_oF j 0 0)), (1, .ref (B + ed_oF j 12 n1))]) S.1 S.2.1 dX5_correctionsMissing_8 rfl hl (by decide) rfl (fun ls hl => ?_)
    refine lv_aload_nN S.1 S.2.1 dX5_correctionsMissing_9 rfl (lv_at hl 0 rfl) ?_
    refine lv_ifnullN (tgt := 21) S.1 S.2.1 dX5_correctionsMissing_10 (by decide) ?_
    refine lv_iconst (v := 0) S.1 S.2.1 dX5_correctionsMissing_21 (by decide) ?_
    refine lv_goto (tgt := 34) S.1 S.2.1 dX5_correctionsMissing_22 (by decide) ?_
    obtain rfl := Option.some.inj hf
    exact ed_ri S hr hlocks hM hS dX5_correctionsMissing_34
  | some n1q =>
    dsimp only at hf
    obtain ⟨hn1q, hf⟩ := ed_g_e hf
    refine W.eq (g2 := F0 m 8 ls (.ref (B + ed_oF j 7 n1q) :: [])) rfl ?_
    refine lv_astore_n (lv' := [(2, .ref (B + ed_oF j 7 n1q)), (0, .ref (B + ed_oF j 0 0)), (1, .ref (B + ed_oF j 12 n1))]) S.1 S.2.1 dX5_correctionsMissing_8 rfl hl (by decide) rfl (fun ls hl => ?_)
    refine lv_aload_n S.1 S.2.1 dX5_correctionsMissing_9 rfl (lv_at hl 0 rfl) ?_
    refine lv_ifnull S.1 S.2.1 dX5_correctionsMissing_10 ?_
    refine lv_aload_n S.1 S.2.1 dX5_correctionsMissing_13 rfl (lv_at hl 2 rfl) ?_
    refine ed_get (r := (σ 12 n1)) S ed_uX1 hK hM (ed_v12 hj h1) (ed_sJr μ j σ 12 n1) (ed_e12 cy B j n1 _) rfl 2 (by decide) ed_w1_171 rfl rfl dX5_correctionsMissing_14 ?_
    refine lv_iconst (v := 1) S.1 S.2.1 dX5_correctionsMissing_17 (by decide) ?_
    refine lv_icmp_eq (tgt := 25) S.1 S.2.1 dX5_correctionsMissing_18 (by decide) (fun c2 => ?_) (fun c2 => ?_)
    · replace hf := ed_ip c2 hf
      refine lv_aload_n S.1 S.2.1 dX5_correctionsMissing_25 rfl (lv_at hl 0 rfl) ?_
      refine ed_get (r := (σ 7 n1q)) S ed_uX6 hK hM (ed_v7 hj hn1q 7) (ed_sJr μ j σ 7 n1q) (ed_e7 cy B j n1q _) rfl 7 (by decide) ed_w1_74 rfl rfl dX5_correctionsMissing_26 ?_
      refine lv_aload_n S.1 S.2.1 dX5_correctionsMissing_29 rfl (lv_at hl 2 rfl) ?_
      refine ed_get (r := (σ 12 n1)) S ed_uX1 hK hM (ed_v12 hj h1) (ed_sJr μ j σ 12 n1) (ed_e12 cy B j n1 _) rfl 5 (by decide) ed_w1_180 rfl rfl dX5_correctionsMissing_30 ?_
      refine lv_isub S.1 S.2.1 dX5_correctionsMissing_33 ?_
      obtain rfl := Option.some.inj hf
      exact ed_ri S hr hlocks hM hS dX5_correctionsMissing_34
    · replace hf := ed_in_ c2 hf
      refine lv_iconst (v := 0) S.1 S.2.1 dX5_correctionsMissing_21 (by decide) ?_
      refine lv_goto (tgt := 34) S.1 S.2.1 dX5_correctionsMissing_22 (by decide) ?_
      obtain rfl := Option.some.inj hf
      exact ed_ri S hr hlocks hM hS dX5_correctionsMissing_34
set_option maxHeartbeats 4000000 in
set_option maxRecDepth 100000 in
theorem c_X5_nextCorrectionAt (l : Launch) (D : va_G) (cy : Nat → ClassId) (B : Nat) (μ : ed_CM) (j : Nat) (hj : j < 7) (n1 : Nat) (h1 : n1 < 160) (σ : ed_SM) (r : Int32) (hf : f_X5_nextCorrectionAt n1 σ = some r) :
    Met l yX5_nextCorrectionAt wsX5_nextCorrectionAt rmX5_nextCorrectionAt (ed_pC D cy (ed_P D cy B (ed_sJ μ j σ)) [.ref (B + ed_oF j 0 0), .ref (B + ed_oF j 12 n1)]) (ed_qI (ed_A B) (ed_P D cy B (ed_sJ μ j σ)) r) 0 0 (ed_A B) := by
  refine Met.ofW (cc := cX5_nextCorrectionAt) (maxL := 4) (ret := (some .int)) (by decide) rfl ?_
  intro p e s m args below meth c s₁ B0 hml hv
  obtain ⟨rfl, hM, hK⟩ := hv
  have S : CallFix p m c cX5_nextCorrectionAt 4 s _ ed_ws RX5 := ⟨B0.exec, B0.bytes, hml, findClass_of_methodNamed B0.named, fun w hw => atoms_spec (ws := wsX5_nextCorrectionAt) B0.pre w (List.mem_cons_of_mem _ hw)⟩
  have hr := B0.returns
  have hlocks := B0.notSynchronized
  have hS : va_S (ed_A B) s.heap s.heap [] := va_S.rf
  have hl := lv_entry ([.ref (B + ed_oF j 0 0), .ref (B + ed_oF j 12 n1)]) (n := 4) (Nat.le_of_ble_eq_true rfl)
  rw [lg_entry_eq]
  generalize (lg_sl ([.ref (B + ed_oF j 0 0), .ref (B + ed_oF j 12 n1)]) ++ List.replicate (4 - (lg_sl ([.ref (B + ed_oF j 0 0), .ref (B + ed_oF j 12 n1)])).length) Slot.unset).toArray = ls at hl ⊢
  have hl : lv_has ls 4 [(0, .ref (B + ed_oF j 0 0)), (1, .ref (B + ed_oF j 12 n1))] := hl
  unfold f_X5_nextCorrectionAt at hf
  refine lv_aload_n S.1 S.2.1 dX5_nextCorrectionAt_0 rfl (lv_at hl 0 rfl) ?_
  refine lv_aload_n S.1 S.2.1 dX5_nextCorrectionAt_1 rfl (lv_at hl 1 rfl) ?_
  refine ed_get (r := (σ 12 n1)) S ed_uX1 hK hM (ed_v12 hj h1) (ed_sJr μ j σ 12 n1) (ed_e12 cy B j n1 _) rfl 0 (by decide) ed_w1_165 rfl rfl dX5_nextCorrectionAt_2 ?_
  obtain ⟨o1, hq1, hf⟩ := ed_b_e hf
  refine ed_kA (ed_rV S hK hM (c_X5_storyAt _ D cy B μ j hj (σ 12 n1 0) σ o1 hq1) (cwV 1 S.2.2.2.2 (ed_gV ed_w2_129 ed_w2_130 ed_w2_131 ed_w1_2 ed_w2_132) rfl rfl rfl hd_X5_storyAt ⟨Nat.le_of_ble_eq_true rfl, Nat.le_of_ble_eq_true rfl⟩) (ed_rc (q := (RX5, TX5, 11)) (r := (σ 0 0)) hK hM (ed_v0 hj 0) (ed_sJr μ j σ 0 0) (ed_e0 cy B j 0 _) rfl) rfl hl.1 rfl (Nat.le_of_ble_eq_true rfl) dX5_nextCorrectionAt_5 ⟨Nat.zero_le _, Nat.zero_le _⟩) hS (fun H locs hM hS => ?_)
  cases o1 with
  | none =>
    dsimp only at hf
    refine W.eq (g2 := F0 m 8 ls (.null :: [])) rfl ?_
    refine lv_astore_nN (lv' := [(2, .null), (0, .ref (B + ed_oF j 0 0)), (1, .ref (B + ed_oF j 12 n1))]) S.1 S.2.1 dX5_nextCorrectionAt_8 rfl hl (by decide) rfl (fun ls hl => ?_)
    refine lv_aload_n S.1 S.2.1 dX5_nextCorrectionAt_9 rfl (lv_at hl 1 rfl) ?_
    refine lv_aload_n S.1 S.2.1 dX5_nextCorrectionAt_10 rfl (lv_at hl 2 rfl) ?_
    refine ed_get (r := (σ 12 n1)) S ed_uX1 hK hM (ed_v12 hj h1) (ed_sJr μ j σ 12 n1) (ed_e12 cy B j n1 _) rfl 1 (by decide) ed_w1_168 rfl rfl dX5_nextCorrectionAt_11 ?_
    obtain ⟨o2, hq2, hf⟩ := ed_b_e hf
    refine ed_kA (ed_rV S hK hM (c_X5_clientAt _ D cy B μ j hj (σ 12 n1 1) σ o2 hq2) (cwV 1 S.2.2.2.2 (ed_gV ed_w2_144 ed_w2_145 ed_w2_146 ed_w1_2 ed_w2_147) rfl rfl rfl hd_X5_clientAt ⟨Nat.le_of_ble_eq_true rfl, Nat.le_of_ble_eq_true rfl⟩) (ed_rc (q := (RX5, TX5, 11)) (r := (σ 0 0)) hK hM (ed_v0 hj 0) (ed_sJr μ j σ 0 0) (ed_e0 cy B j 0 _) rfl) rfl hl.1 rfl (Nat.le_of_ble_eq_true rfl) dX5_nextCorrectionAt_14 ⟨Nat.zero_le _, Nat.zero_le _⟩) hS (fun H locs hM hS => ?_)
    cases o2 with
    | none =>
      dsimp only at hf
      refine W.eq (g2 := F0 m 17 ls (.null :: [])) rfl ?_
      refine lv_astore_nN (lv' := [(3, .null), (2, .null), (0, .ref (B + ed_oF j 0 0)), (1, .ref (B + ed_oF j 12 n1))]) S.1 S.2.1 dX5_nextCorrectionAt_17 rfl hl (by decide) rfl (fun ls hl => ?_)
      refine lv_aload_nN S.1 S.2.1 dX5_nextCorrectionAt_18 rfl (lv_at hl 1 rfl) ?_
      refine lv_ifnullN (tgt := 34) S.1 S.2.1 dX5_nextCorrectionAt_19 (by decide) ?_
      refine lv_bipush (v := (-5)) S.1 S.2.1 dX5_nextCorrectionAt_34 (by decide) ?_
      obtain rfl := Option.some.inj hf
      exact ed_ri S hr hlocks hM hS dX5_nextCorrectionAt_36
    | some n2q =>
      dsimp only at hf
      obtain ⟨hn2q, hf⟩ := ed_g_e hf
      refine W.eq (g2 := F0 m 17 ls (.ref (B + ed_oF j 11 n2q) :: [])) rfl ?_
      refine lv_astore_n (lv' := [(3, .ref (B + ed_oF j 11 n2q)), (2, .null), (0, .ref (B + ed_oF j 0 0)), (1, .ref (B + ed_oF j 12 n1))]) S.1 S.2.1 dX5_nextCorrectionAt_17 rfl hl (by decide) rfl (fun ls hl => ?_)
      refine lv_aload_nN S.1 S.2.1 dX5_nextCorrectionAt_18 rfl (lv_at hl 1 rfl) ?_
      refine lv_ifnullN (tgt := 34) S.1 S.2.1 dX5_nextCorrectionAt_19 (by decide) ?_
      refine lv_bipush (v := (-5)) S.1 S.2.1 dX5_nextCorrectionAt_34 (by decide) ?_
      obtain rfl := Option.some.inj hf
      exact ed_ri S hr hlocks hM hS dX5_nextCorrectionAt_36
  | some n1q =>
    dsimp only at hf
    obtain ⟨hn1q, hf⟩ := ed_g_e hf
    refine W.eq (g2 := F0 m 8 ls (.ref (B + ed_oF j 7 n1q) :: [])) rfl ?_
    refine lv_astore_n (lv' := [(2, .ref (B + ed_oF j 7 n1q)), (0, .ref (B + ed_oF j 0 0)), (1, .ref (B + ed_oF j 12 n1))]) S.1 S.2.1 dX5_nextCorrectionAt_8 rfl hl (by decide) rfl (fun ls hl => ?_)
    refine lv_aload_n S.1 S.2.1 dX5_nextCorrectionAt_9 rfl (lv_at hl 1 rfl) ?_
    refine lv_aload_n S.1 S.2.1 dX5_nextCorrectionAt_10 rfl (lv_at hl 2 rfl) ?_
    refine ed_get (r := (σ 12 n1)) S ed_uX1 hK hM (ed_v12 hj h1) (ed_sJr μ j σ 12 n1) (ed_e12 cy B j n1 _) rfl 1 (by decide) ed_w1_168 rfl rfl dX5_nextCorrectionAt_11 ?_
    obtain ⟨o3, hq3, hf⟩ := ed_b_e hf
    refine ed_kA (ed_rV S hK hM (c_X5_clientAt _ D cy B μ j hj (σ 12 n1 1) σ o3 hq3) (cwV 1 S.2.2.2.2 (ed_gV ed_w2_144 ed_w2_145 ed_w2_146 ed_w1_2 ed_w2_147) rfl rfl rfl hd_X5_clientAt ⟨Nat.le_of_ble_eq_true rfl, Nat.le_of_ble_eq_true rfl⟩) (ed_rc (q := (RX5, TX5, 11)) (r := (σ 0 0)) hK hM (ed_v0 hj 0) (ed_sJr μ j σ 0 0) (ed_e0 cy B j 0 _) rfl) rfl hl.1 rfl (Nat.le_of_ble_eq_true rfl) dX5_nextCorrectionAt_14 ⟨Nat.zero_le _, Nat.zero_le _⟩) hS (fun H locs hM hS => ?_)
    cases o3 with
    | none =>
      dsimp only at hf
      refine W.eq (g2 := F0 m 17 ls (.null :: [])) rfl ?_
      refine lv_astore_nN (lv' := [(3, .null), (2, .ref (B + ed_oF j 7 n1q)), (0, .ref (B + ed_oF j 0 0)), (1, .ref (B + ed_oF j 12 n1))]) S.1 S.2.1 dX5_nextCorrectionAt_17 rfl hl (by decide) rfl (fun ls hl => ?_)
      refine lv_aload_n S.1 S.2.1 dX5_nextCorrectionAt_18 rfl (lv_at hl 1 rfl) ?_
      refine lv_ifnull S.1 S.2.1 dX5_nextCorrectionAt_19 ?_
      refine lv_aload_nN S.1 S.2.1 dX5_nextCorrectionAt_22 rfl (lv_at hl 0 rfl) ?_
      refine lv_ifnullN (tgt := 34) S.1 S.2.1 dX5_nextCorrectionAt_23 (by decide) ?_
      refine lv_bipush (v := (-5)) S.1 S.2.1 dX5_nextCorrectionAt_34 (by decide) ?_
      obtain rfl := Option.some.inj hf
      exact ed_ri S hr hlocks hM hS dX5_nextCorrectionAt_36
    | some n3q =>
      dsimp only at hf
      obtain ⟨hn3q, hf⟩ := ed_g_e hf
      refine W.eq (g2 := F0 m 17 ls (.ref (B + ed_oF j 11 n3q) :: [])) rfl ?_
      refine lv_astore_n (lv' := [(3, .ref (B + ed_oF j 11 n3q)), (2, .ref (B + ed_oF j 7 n1q)), (0, .ref (B + ed_oF j 0 0)), (1, .ref (B + ed_oF j 12 n1))]) S.1 S.2.1 dX5_nextCorrectionAt_17 rfl hl (by decide) rfl (fun ls hl => ?_)
      refine lv_aload_n S.1 S.2.1 dX5_nextCorrectionAt_18 rfl (lv_at hl 1 rfl) ?_
      refine lv_ifnull S.1 S.2.1 dX5_nextCorrectionAt_19 ?_
      refine lv_aload_n S.1 S.2.1 dX5_nextCorrectionAt_22 rfl (lv_at hl 0 rfl) ?_
      refine lv_ifnull S.1 S.2.1 dX5_nextCorrectionAt_23 ?_
      refine lv_aload_n S.1 S.2.1 dX5_nextCorrectionAt_26 rfl (lv_at hl 2 rfl) ?_
      refine lv_aload_n S.1 S.2.1 dX5_nextCorrectionAt_27 rfl (lv_at hl 3 rfl) ?_
      obtain ⟨r4, hq4, hf⟩ := ed_b_e hf
      refine ed_kI (ed_rV S hK hM (c_X5_correctionsMissing _ D cy B μ j hj n1 h1 σ r4 hq4) (cwV 1 S.2.2.2.2 (ed_gV ed_w3_166 ed_w3_158 ed_w3_159 ed_w1_2 ed_w3_160) rfl rfl rfl hd_X5_correctionsMissing ⟨Nat.le_of_ble_eq_true rfl, Nat.le_of_ble_eq_true rfl⟩) (ed_rc (q := (RX5, TX5, 11)) (r := (σ 0 0)) hK hM (ed_v0 hj 0) (ed_sJr μ j σ 0 0) (ed_e0 cy B j 0 _) rfl) rfl hl.1 rfl (Nat.le_of_ble_eq_true rfl) dX5_nextCorrectionAt_28 ⟨Nat.zero_le _, Nat.zero_le _⟩) hS (fun H locs hM hS => ?_)
      refine lv_if_ne (tgt := 37) S.1 S.2.1 dX5_nextCorrectionAt_31 (by decide) (fun c5 => ?_) (fun c5 => ?_)
      · replace hf := ed_in_ c5 hf
        refine lv_aload_n S.1 S.2.1 dX5_nextCorrectionAt_37 rfl (lv_at hl 1 rfl) ?_
        refine lv_aload_n S.1 S.2.1 dX5_nextCorrectionAt_38 rfl (lv_at hl 3 rfl) ?_
        refine ed_get (r := (σ 12 n1)) S ed_uX1 hK hM (ed_v12 hj h1) (ed_sJr μ j σ 12 n1) (ed_e12 cy B j n1 _) rfl 5 (by decide) ed_w1_180 rfl rfl dX5_nextCorrectionAt_39 ?_
        obtain ⟨r6, hq6, hf⟩ := ed_b_e hf
        refine ed_kI (ed_rV S hK hM (c_X6_correctedAt _ D cy B μ j hj n1q hn1q (σ 12 n1 5) σ r6 hq6) (cwV 1 S.2.2.2.2 (ed_gV ed_w3_83 ed_w3_84 ed_w3_85 ed_w1_4 ed_w3_86) rfl rfl rfl hd_X6_correctedAt ⟨Nat.le_of_ble_eq_true rfl, Nat.le_of_ble_eq_true rfl⟩) (ed_rc (q := (RX6, TX6, 11)) (r := (σ 7 n1q)) hK hM (ed_v7 hj hn1q 7) (ed_sJr μ j σ 7 n1q) (ed_e7 cy B j n1q _) rfl) rfl hl.1 rfl (Nat.le_of_ble_eq_true rfl) dX5_nextCorrectionAt_42 ⟨Nat.zero_le _, Nat.zero_le _⟩) hS (fun H locs hM hS => ?_)
        refine lv_aload_n S.1 S.2.1 dX5_nextCorrectionAt_45 rfl (lv_at hl 0 rfl) ?_
        refine ed_get (r := (σ 11 n3q)) S ed_uX0 hK hM (ed_v11 hj hn3q) (ed_sJr μ j σ 11 n3q) (ed_e11 cy B j n3q _) rfl 2 (by decide) ed_w1_116 rfl rfl dX5_nextCorrectionAt_46 ?_
        refine lv_iadd S.1 S.2.1 dX5_nextCorrectionAt_49 ?_
        obtain rfl := Option.some.inj hf
        exact ed_ri S hr hlocks hM hS dX5_nextCorrectionAt_50
      · replace hf := ed_ip c5 hf
        refine lv_bipush (v := (-5)) S.1 S.2.1 dX5_nextCorrectionAt_34 (by decide) ?_
        obtain rfl := Option.some.inj hf
        exact ed_ri S hr hlocks hM hS dX5_nextCorrectionAt_36
set_option maxHeartbeats 4000000 in
set_option maxRecDepth 100000 in
theorem w_X5_clientsFor_4 {p : Program} {l : Launch} {e : Env} {s : State} {m : MethodId} {args : Array Value} {below : List Frame} {meth : Method} {c : Code} {D : va_G} {cy : Nat → ClassId} {B : Nat} {μ : ed_CM} {j : Nat} (hj : j < 7) (S : CallFix p m c cX5_clientsFor 5 s args ed_ws RX5) (hr : meth.sig.returnType = (some .int)) (hlocks : meth.locks = false) (hK : ed_K D cy s) (σ : ed_SM) (r : Int32) :
    ∀ (n : Nat), ∀ (x1 x2 x3 : Int32), f_X5_clientsFor_4 σ n x1 x2 x3 = some r → ∀ (H : Heap) (locs : List Loc) (ls : Array Slot), ed_P D cy B (ed_sJ μ j σ) H → va_S (ed_A B) s.heap H locs → lv_has ls 5 [(0, .ref (B + ed_oF j 0 0)), (1, .int x1), (2, .int x2), (3, .int x3)] → W p l e (headSpec wsX5_clientsFor rmX5_clientsFor).room s m args below meth c H locs 0 0 (MQ below (ed_qI (ed_A B) (ed_P D cy B (ed_sJ μ j σ)) r) args s 0 0 (ed_A B)) (F0 m 4 ls []) := by
  intro n
  induction n with
  | zero => intro x1 x2 x3 hf; rw [f_X5_clientsFor_4] at hf; cases hf
  | succ n ih =>
    intro x1 x2 x3 hf H locs ls hM hS hl
    rw [f_X5_clientsFor_4] at hf
    refine lv_iload_n S.1 S.2.1 dX5_clientsFor_4 rfl (lv_at hl 3 rfl) ?_
    refine lv_aload_n S.1 S.2.1 dX5_clientsFor_5 rfl (lv_at hl 0 rfl) ?_
    refine ed_get (r := (σ 0 0)) S ed_uX5 hK hM (ed_v0 hj 0) (ed_sJr μ j σ 0 0) (ed_e0 cy B j 0 _) rfl 4 (by decide) ed_w1_220 rfl rfl dX5_clientsFor_6 ?_
    refine lv_icmp_ge (tgt := 42) S.1 S.2.1 dX5_clientsFor_9 (by decide) (fun c1 => ?_) (fun c1 => ?_)
    · replace hf := ed_ip c1 hf
      refine lv_iload_n S.1 S.2.1 dX5_clientsFor_42 rfl (lv_at hl 2 rfl) ?_
      obtain rfl := Option.some.inj hf
      exact ed_ri S hr hlocks hM hS dX5_clientsFor_43
    · replace hf := ed_in_ c1 hf
      refine lv_aload_n S.1 S.2.1 dX5_clientsFor_12 rfl (lv_at hl 0 rfl) ?_
      refine lv_iload_n S.1 S.2.1 dX5_clientsFor_13 rfl (lv_at hl 3 rfl) ?_
      obtain ⟨o2, hq2, hf⟩ := ed_b_e hf
      refine ed_kA (ed_rV S hK hM (c_X5_clientAt _ D cy B μ j hj x3 σ o2 hq2) (cwV 1 S.2.2.2.2 (ed_gV ed_w2_144 ed_w2_145 ed_w2_146 ed_w1_2 ed_w2_147) rfl rfl rfl hd_X5_clientAt ⟨Nat.le_of_ble_eq_true rfl, Nat.le_of_ble_eq_true rfl⟩) (ed_rc (q := (RX5, TX5, 11)) (r := (σ 0 0)) hK hM (ed_v0 hj 0) (ed_sJr μ j σ 0 0) (ed_e0 cy B j 0 _) rfl) rfl hl.1 rfl (Nat.le_of_ble_eq_true rfl) dX5_clientsFor_14 ⟨Nat.zero_le _, Nat.zero_le _⟩) hS (fun H locs hM hS => ?_)
      cases o2 with
      | none =>
        dsimp only at hf
        refine W.eq (g2 := F0 m 17 ls (.null :: [])) rfl ?_
        refine lv_astoreN (lv' := [(4, .null), (0, .ref (B + ed_oF j 0 0)), (1, .int x1), (2, .int x2), (3, .int x3)]) S.1 S.2.1 dX5_clientsFor_17 hl (by decide) rfl (fun ls hl => ?_)
        refine lv_aloadN S.1 S.2.1 dX5_clientsFor_19 (lv_at hl 0 rfl) ?_
        refine lv_ifnullN (tgt := 36) S.1 S.2.1 dX5_clientsFor_21 (by decide) ?_
        refine lv_iinc (v := x3 + 1) (lv' := [(3, .int (x3 + 1)), (4, .null), (0, .ref (B + ed_oF j 0 0)), (1, .int x1), (2, .int x2)]) S.1 S.2.1 dX5_clientsFor_36 hl (k := 4) rfl rfl (by decide) rfl (fun ls hl => ?_)
        refine lv_goto (tgt := 4) S.1 S.2.1 dX5_clientsFor_39 (by decide) ?_
        exact ih x1 x2 (x3 + 1) hf _ _ _ hM hS (lv_sub hl [2, 3, 4, 0] rfl)
      | some n2q =>
        dsimp only at hf
        obtain ⟨hn2q, hf⟩ := ed_g_e hf
        refine W.eq (g2 := F0 m 17 ls (.ref (B + ed_oF j 11 n2q) :: [])) rfl ?_
        refine lv_astore (lv' := [(4, .ref (B + ed_oF j 11 n2q)), (0, .ref (B + ed_oF j 0 0)), (1, .int x1), (2, .int x2), (3, .int x3)]) S.1 S.2.1 dX5_clientsFor_17 hl (by decide) rfl (fun ls hl => ?_)
        refine lv_aload S.1 S.2.1 dX5_clientsFor_19 (lv_at hl 0 rfl) ?_
        refine lv_ifnull S.1 S.2.1 dX5_clientsFor_21 ?_
        refine lv_aload S.1 S.2.1 dX5_clientsFor_24 (lv_at hl 0 rfl) ?_
        refine lv_iload_n S.1 S.2.1 dX5_clientsFor_26 rfl (lv_at hl 2 rfl) ?_
        refine ed_kI (ed_rV S hK hM (c_X0_hasTopic _ D cy B μ j hj n2q hn2q x1 σ) (cwV 1 S.2.2.2.2 (ed_gV ed_w3_23 ed_w3_24 ed_w3_25 ed_w1_5 ed_w3_26) rfl rfl rfl hd_X0_hasTopic ⟨Nat.le_of_ble_eq_true rfl, Nat.le_of_ble_eq_true rfl⟩) (ed_rc (q := (RX0, TX0, 10)) (r := (σ 11 n2q)) hK hM (ed_v11 hj hn2q) (ed_sJr μ j σ 11 n2q) (ed_e11 cy B j n2q _) rfl) rfl hl.1 rfl (Nat.le_of_ble_eq_true rfl) dX5_clientsFor_27 ⟨Nat.zero_le _, Nat.zero_le _⟩) hS (fun H locs hM hS => ?_)
        refine lv_if_eq (tgt := 36) S.1 S.2.1 dX5_clientsFor_30 (by decide) (fun c4 => ?_) (fun c4 => ?_)
        · replace hf := ed_ip c4 hf
          refine lv_iinc (v := x3 + 1) (lv' := [(3, .int (x3 + 1)), (4, .ref (B + ed_oF j 11 n2q)), (0, .ref (B + ed_oF j 0 0)), (1, .int x1), (2, .int x2)]) S.1 S.2.1 dX5_clientsFor_36 hl (k := 4) rfl rfl (by decide) rfl (fun ls hl => ?_)
          refine lv_goto (tgt := 4) S.1 S.2.1 dX5_clientsFor_39 (by decide) ?_
          exact ih x1 x2 (x3 + 1) hf _ _ _ hM hS (lv_sub hl [2, 3, 4, 0] rfl)
        · replace hf := ed_in_ c4 hf
          refine lv_iinc (v := x2 + 1) (lv' := [(2, .int (x2 + 1)), (4, .ref (B + ed_oF j 11 n2q)), (0, .ref (B + ed_oF j 0 0)), (1, .int x1), (3, .int x3)]) S.1 S.2.1 dX5_clientsFor_33 hl (k := 3) rfl rfl (by decide) rfl (fun ls hl => ?_)
          refine lv_iinc (v := x3 + 1) (lv' := [(3, .int (x3 + 1)), (2, .int (x2 + 1)), (4, .ref (B + ed_oF j 11 n2q)), (0, .ref (B + ed_oF j 0 0)), (1, .int x1)]) S.1 S.2.1 dX5_clientsFor_36 hl (k := 4) rfl rfl (by decide) rfl (fun ls hl => ?_)
          refine lv_goto (tgt := 4) S.1 S.2.1 dX5_clientsFor_39 (by decide) ?_
          exact ih x1 (x2 + 1) (x3 + 1) hf _ _ _ hM hS (lv_sub hl [3, 4, 1, 0] rfl)
set_option maxHeartbeats 4000000 in
set_option maxRecDepth 100000 in
theorem c_X5_clientsFor (l : Launch) (D : va_G) (cy : Nat → ClassId) (B : Nat) (μ : ed_CM) (j : Nat) (hj : j < 7) (x1 : Int32) (σ : ed_SM) (r : Int32) (hf : f_X5_clientsFor x1 σ = some r) :
    Met l yX5_clientsFor wsX5_clientsFor rmX5_clientsFor (ed_pC D cy (ed_P D cy B (ed_sJ μ j σ)) [.ref (B + ed_oF j 0 0), .int x1]) (ed_qI (ed_A B) (ed_P D cy B (ed_sJ μ j σ)) r) 0 0 (ed_A B) := by
  refine Met.ofW (cc := cX5_clientsFor) (maxL := 5) (ret := (some .int)) (by decide) rfl ?_
  intro p e s m args below meth c s₁ B0 hml hv
  obtain ⟨rfl, hM, hK⟩ := hv
  have S : CallFix p m c cX5_clientsFor 5 s _ ed_ws RX5 := ⟨B0.exec, B0.bytes, hml, findClass_of_methodNamed B0.named, fun w hw => atoms_spec (ws := wsX5_clientsFor) B0.pre w (List.mem_cons_of_mem _ hw)⟩
  have hr := B0.returns
  have hlocks := B0.notSynchronized
  have hS : va_S (ed_A B) s.heap s.heap [] := va_S.rf
  have hl := lv_entry ([.ref (B + ed_oF j 0 0), .int x1]) (n := 5) (Nat.le_of_ble_eq_true rfl)
  rw [lg_entry_eq]
  generalize (lg_sl ([.ref (B + ed_oF j 0 0), .int x1]) ++ List.replicate (5 - (lg_sl ([.ref (B + ed_oF j 0 0), .int x1])).length) Slot.unset).toArray = ls at hl ⊢
  have hl : lv_has ls 5 [(0, .ref (B + ed_oF j 0 0)), (1, .int x1)] := hl
  unfold f_X5_clientsFor at hf
  refine lv_iconst (v := 0) S.1 S.2.1 dX5_clientsFor_0 (by decide) ?_
  refine lv_istore_n (lv' := [(2, .int 0), (0, .ref (B + ed_oF j 0 0)), (1, .int x1)]) S.1 S.2.1 dX5_clientsFor_1 rfl hl (by decide) rfl (fun ls hl => ?_)
  refine lv_iconst (v := 0) S.1 S.2.1 dX5_clientsFor_2 (by decide) ?_
  refine lv_istore_n (lv' := [(3, .int 0), (2, .int 0), (0, .ref (B + ed_oF j 0 0)), (1, .int x1)]) S.1 S.2.1 dX5_clientsFor_3 rfl hl (by decide) rfl (fun ls hl => ?_)
  exact w_X5_clientsFor_4 hj S hr hlocks hK σ r ed_N x1 0 0 hf _ _ _ hM hS (lv_sub hl [2, 3, 1, 0] rfl)
set_option maxHeartbeats 4000000 in
set_option maxRecDepth 100000 in
theorem w_X5_copiesThatCame_4 {p : Program} {l : Launch} {e : Env} {s : State} {m : MethodId} {args : Array Value} {below : List Frame} {meth : Method} {c : Code} {D : va_G} {cy : Nat → ClassId} {B : Nat} {μ : ed_CM} {j : Nat} (hj : j < 7) (S : CallFix p m c cX5_copiesThatCame 4 s args ed_ws RX5) (hr : meth.sig.returnType = (some .int)) (hlocks : meth.locks = false) (hK : ed_K D cy s) (σ : ed_SM) (r : Int32) :
    ∀ (n : Nat), ∀ (x1 x2 : Int32), f_X5_copiesThatCame_4 σ n x1 x2 = some r → ∀ (H : Heap) (locs : List Loc) (ls : Array Slot), ed_P D cy B (ed_sJ μ j σ) H → va_S (ed_A B) s.heap H locs → lv_has ls 4 [(0, .ref (B + ed_oF j 0 0)), (1, .int x1), (2, .int x2)] → W p l e (headSpec wsX5_copiesThatCame rmX5_copiesThatCame).room s m args below meth c H locs 0 0 (MQ below (ed_qI (ed_A B) (ed_P D cy B (ed_sJ μ j σ)) r) args s 0 0 (ed_A B)) (F0 m 4 ls []) := by
  intro n
  induction n with
  | zero => intro x1 x2 hf; rw [f_X5_copiesThatCame_4] at hf; cases hf
  | succ n ih =>
    intro x1 x2 hf H locs ls hM hS hl
    rw [f_X5_copiesThatCame_4] at hf
    refine lv_iload_n S.1 S.2.1 dX5_copiesThatCame_4 rfl (lv_at hl 2 rfl) ?_
    refine lv_aload_n S.1 S.2.1 dX5_copiesThatCame_5 rfl (lv_at hl 0 rfl) ?_
    refine ed_get (r := (σ 0 0)) S ed_uX5 hK hM (ed_v0 hj 0) (ed_sJr μ j σ 0 0) (ed_e0 cy B j 0 _) rfl 4 (by decide) ed_w1_220 rfl rfl dX5_copiesThatCame_6 ?_
    refine lv_icmp_ge (tgt := 35) S.1 S.2.1 dX5_copiesThatCame_9 (by decide) (fun c1 => ?_) (fun c1 => ?_)
    · replace hf := ed_ip c1 hf
      refine lv_iload_n S.1 S.2.1 dX5_copiesThatCame_35 rfl (lv_at hl 1 rfl) ?_
      obtain rfl := Option.some.inj hf
      exact ed_ri S hr hlocks hM hS dX5_copiesThatCame_36
    · replace hf := ed_in_ c1 hf
      refine lv_aload_n S.1 S.2.1 dX5_copiesThatCame_12 rfl (lv_at hl 0 rfl) ?_
      refine lv_iload_n S.1 S.2.1 dX5_copiesThatCame_13 rfl (lv_at hl 2 rfl) ?_
      obtain ⟨o2, hq2, hf⟩ := ed_b_e hf
      refine ed_kA (ed_rV S hK hM (c_X5_clientAt _ D cy B μ j hj x2 σ o2 hq2) (cwV 1 S.2.2.2.2 (ed_gV ed_w2_144 ed_w2_145 ed_w2_146 ed_w1_2 ed_w2_147) rfl rfl rfl hd_X5_clientAt ⟨Nat.le_of_ble_eq_true rfl, Nat.le_of_ble_eq_true rfl⟩) (ed_rc (q := (RX5, TX5, 11)) (r := (σ 0 0)) hK hM (ed_v0 hj 0) (ed_sJr μ j σ 0 0) (ed_e0 cy B j 0 _) rfl) rfl hl.1 rfl (Nat.le_of_ble_eq_true rfl) dX5_copiesThatCame_14 ⟨Nat.zero_le _, Nat.zero_le _⟩) hS (fun H locs hM hS => ?_)
      cases o2 with
      | none =>
        dsimp only at hf
        refine W.eq (g2 := F0 m 17 ls (.null :: [])) rfl ?_
        refine lv_astore_nN (lv' := [(3, .null), (0, .ref (B + ed_oF j 0 0)), (1, .int x1), (2, .int x2)]) S.1 S.2.1 dX5_copiesThatCame_17 rfl hl (by decide) rfl (fun ls hl => ?_)
        refine lv_aload_nN S.1 S.2.1 dX5_copiesThatCame_18 rfl (lv_at hl 0 rfl) ?_
        refine lv_ifnullN (tgt := 29) S.1 S.2.1 dX5_copiesThatCame_19 (by decide) ?_
        refine lv_iinc (v := x2 + 1) (lv' := [(2, .int (x2 + 1)), (3, .null), (0, .ref (B + ed_oF j 0 0)), (1, .int x1)]) S.1 S.2.1 dX5_copiesThatCame_29 hl (k := 3) rfl rfl (by decide) rfl (fun ls hl => ?_)
        refine lv_goto (tgt := 4) S.1 S.2.1 dX5_copiesThatCame_32 (by decide) ?_
        exact ih x1 (x2 + 1) hf _ _ _ hM hS (lv_sub hl [2, 3, 0] rfl)
      | some n2q =>
        dsimp only at hf
        obtain ⟨hn2q, hf⟩ := ed_g_e hf
        refine W.eq (g2 := F0 m 17 ls (.ref (B + ed_oF j 11 n2q) :: [])) rfl ?_
        refine lv_astore_n (lv' := [(3, .ref (B + ed_oF j 11 n2q)), (0, .ref (B + ed_oF j 0 0)), (1, .int x1), (2, .int x2)]) S.1 S.2.1 dX5_copiesThatCame_17 rfl hl (by decide) rfl (fun ls hl => ?_)
        refine lv_aload_n S.1 S.2.1 dX5_copiesThatCame_18 rfl (lv_at hl 0 rfl) ?_
        refine lv_ifnull S.1 S.2.1 dX5_copiesThatCame_19 ?_
        refine lv_iload_n S.1 S.2.1 dX5_copiesThatCame_22 rfl (lv_at hl 2 rfl) ?_
        refine lv_aload_n S.1 S.2.1 dX5_copiesThatCame_23 rfl (lv_at hl 0 rfl) ?_
        refine ed_get (r := (σ 11 n2q)) S ed_uX0 hK hM (ed_v11 hj hn2q) (ed_sJr μ j σ 11 n2q) (ed_e11 cy B j n2q _) rfl 8 (by decide) ed_w1_133 rfl rfl dX5_copiesThatCame_24 ?_
        refine lv_iadd S.1 S.2.1 dX5_copiesThatCame_27 ?_
        refine lv_istore_n (lv' := [(1, .int (x1 + (σ 11 n2q 8))), (3, .ref (B + ed_oF j 11 n2q)), (0, .ref (B + ed_oF j 0 0)), (2, .int x2)]) S.1 S.2.1 dX5_copiesThatCame_28 rfl hl (by decide) rfl (fun ls hl => ?_)
        refine lv_iinc (v := x2 + 1) (lv' := [(2, .int (x2 + 1)), (1, .int (x1 + (σ 11 n2q 8))), (3, .ref (B + ed_oF j 11 n2q)), (0, .ref (B + ed_oF j 0 0))]) S.1 S.2.1 dX5_copiesThatCame_29 hl (k := 3) rfl rfl (by decide) rfl (fun ls hl => ?_)
        refine lv_goto (tgt := 4) S.1 S.2.1 dX5_copiesThatCame_32 (by decide) ?_
        exact ih (x1 + (σ 11 n2q 8)) (x2 + 1) hf _ _ _ hM hS (lv_sub hl [3, 1, 0] rfl)
set_option maxHeartbeats 4000000 in
set_option maxRecDepth 100000 in
theorem c_X5_copiesThatCame (l : Launch) (D : va_G) (cy : Nat → ClassId) (B : Nat) (μ : ed_CM) (j : Nat) (hj : j < 7) (σ : ed_SM) (r : Int32) (hf : f_X5_copiesThatCame σ = some r) :
    Met l yX5_copiesThatCame wsX5_copiesThatCame rmX5_copiesThatCame (ed_pC D cy (ed_P D cy B (ed_sJ μ j σ)) [.ref (B + ed_oF j 0 0)]) (ed_qI (ed_A B) (ed_P D cy B (ed_sJ μ j σ)) r) 0 0 (ed_A B) := by
  refine Met.ofW (cc := cX5_copiesThatCame) (maxL := 4) (ret := (some .int)) (by decide) rfl ?_
  intro p e s m args below meth c s₁ B0 hml hv
  obtain ⟨rfl, hM, hK⟩ := hv
  have S : CallFix p m c cX5_copiesThatCame 4 s _ ed_ws RX5 := ⟨B0.exec, B0.bytes, hml, findClass_of_methodNamed B0.named, fun w hw => atoms_spec (ws := wsX5_copiesThatCame) B0.pre w (List.mem_cons_of_mem _ hw)⟩
  have hr := B0.returns
  have hlocks := B0.notSynchronized
  have hS : va_S (ed_A B) s.heap s.heap [] := va_S.rf
  have hl := lv_entry ([.ref (B + ed_oF j 0 0)]) (n := 4) (Nat.le_of_ble_eq_true rfl)
  rw [lg_entry_eq]
  generalize (lg_sl ([.ref (B + ed_oF j 0 0)]) ++ List.replicate (4 - (lg_sl ([.ref (B + ed_oF j 0 0)])).length) Slot.unset).toArray = ls at hl ⊢
  have hl : lv_has ls 4 [(0, .ref (B + ed_oF j 0 0))] := hl
  unfold f_X5_copiesThatCame at hf
  refine lv_iconst (v := 0) S.1 S.2.1 dX5_copiesThatCame_0 (by decide) ?_
  refine lv_istore_n (lv' := [(1, .int 0), (0, .ref (B + ed_oF j 0 0))]) S.1 S.2.1 dX5_copiesThatCame_1 rfl hl (by decide) rfl (fun ls hl => ?_)
  refine lv_iconst (v := 0) S.1 S.2.1 dX5_copiesThatCame_2 (by decide) ?_
  refine lv_istore_n (lv' := [(2, .int 0), (1, .int 0), (0, .ref (B + ed_oF j 0 0))]) S.1 S.2.1 dX5_copiesThatCame_3 rfl hl (by decide) rfl (fun ls hl => ?_)
  exact w_X5_copiesThatCame_4 hj S hr hlocks hK σ r ed_N 0 0 hf _ _ _ hM hS (lv_sub hl [2, 1, 0] rfl)
set_option maxHeartbeats 4000000 in
set_option maxRecDepth 100000 in
theorem w_X5_copiesOf_6 {p : Program} {l : Launch} {e : Env} {s : State} {m : MethodId} {args : Array Value} {below : List Frame} {meth : Method} {c : Code} {D : va_G} {cy : Nat → ClassId} {B : Nat} {μ : ed_CM} {j : Nat} (hj : j < 7) (S : CallFix p m c cX5_copiesOf 7 s args ed_ws RX5) (hr : meth.sig.returnType = (some .int)) (hlocks : meth.locks = false) (hK : ed_K D cy s) (σ : ed_SM) (r : Int32) :
    ∀ (n : Nat), ∀ (x1 x2 x3 x4 x5 : Int32), f_X5_copiesOf_6 σ n x1 x2 x3 x4 x5 = some r → ∀ (H : Heap) (locs : List Loc) (ls : Array Slot), ed_P D cy B (ed_sJ μ j σ) H → va_S (ed_A B) s.heap H locs → lv_has ls 7 [(0, .ref (B + ed_oF j 0 0)), (1, .int x1), (2, .int x2), (3, .int x3), (4, .int x4), (5, .int x5)] → W p l e (headSpec wsX5_copiesOf rmX5_copiesOf).room s m args below meth c H locs 0 0 (MQ below (ed_qI (ed_A B) (ed_P D cy B (ed_sJ μ j σ)) r) args s 0 0 (ed_A B)) (F0 m 6 ls []) := by
  intro n
  induction n with
  | zero => intro x1 x2 x3 x4 x5 hf; rw [f_X5_copiesOf_6] at hf; cases hf
  | succ n ih =>
    intro x1 x2 x3 x4 x5 hf H locs ls hM hS hl
    rw [f_X5_copiesOf_6] at hf
    refine lv_iload S.1 S.2.1 dX5_copiesOf_6 (lv_at hl 5 rfl) ?_
    refine lv_aload_n S.1 S.2.1 dX5_copiesOf_8 rfl (lv_at hl 0 rfl) ?_
    refine ed_get (r := (σ 0 0)) S ed_uX5 hK hM (ed_v0 hj 0) (ed_sJr μ j σ 0 0) (ed_e0 cy B j 0 _) rfl 5 (by decide) ed_w1_221 rfl rfl dX5_copiesOf_9 ?_
    refine lv_icmp_ge (tgt := 73) S.1 S.2.1 dX5_copiesOf_12 (by decide) (fun c1 => ?_) (fun c1 => ?_)
    · replace hf := ed_ip c1 hf
      refine lv_iload S.1 S.2.1 dX5_copiesOf_73 (lv_at hl 4 rfl) ?_
      obtain rfl := Option.some.inj hf
      exact ed_ri S hr hlocks hM hS dX5_copiesOf_75
    · replace hf := ed_in_ c1 hf
      refine lv_aload_n S.1 S.2.1 dX5_copiesOf_15 rfl (lv_at hl 0 rfl) ?_
      refine lv_iload S.1 S.2.1 dX5_copiesOf_16 (lv_at hl 5 rfl) ?_
      obtain ⟨o2, hq2, hf⟩ := ed_b_e hf
      refine ed_kA (ed_rV S hK hM (c_X5_copyMade _ D cy B μ j hj x5 σ o2 hq2) (cwV 1 S.2.2.2.2 (ed_gV ed_w2_156 ed_w2_157 ed_w2_158 ed_w1_2 ed_w2_159) rfl rfl rfl hd_X5_copyMade ⟨Nat.le_of_ble_eq_true rfl, Nat.le_of_ble_eq_true rfl⟩) (ed_rc (q := (RX5, TX5, 11)) (r := (σ 0 0)) hK hM (ed_v0 hj 0) (ed_sJr μ j σ 0 0) (ed_e0 cy B j 0 _) rfl) rfl hl.1 rfl (Nat.le_of_ble_eq_true rfl) dX5_copiesOf_18 ⟨Nat.zero_le _, Nat.zero_le _⟩) hS (fun H locs hM hS => ?_)
      cases o2 with
      | none =>
        dsimp only at hf
        refine W.eq (g2 := F0 m 21 ls (.null :: [])) rfl ?_
        refine lv_astoreN (lv' := [(6, .null), (0, .ref (B + ed_oF j 0 0)), (1, .int x1), (2, .int x2), (3, .int x3), (4, .int x4), (5, .int x5)]) S.1 S.2.1 dX5_copiesOf_21 hl (by decide) rfl (fun ls hl => ?_)
        refine lv_aloadN S.1 S.2.1 dX5_copiesOf_23 (lv_at hl 0 rfl) ?_
        refine lv_ifnullN (tgt := 67) S.1 S.2.1 dX5_copiesOf_25 (by decide) ?_
        refine lv_iinc (v := x5 + 1) (lv' := [(5, .int (x5 + 1)), (6, .null), (0, .ref (B + ed_oF j 0 0)), (1, .int x1), (2, .int x2), (3, .int x3), (4, .int x4)]) S.1 S.2.1 dX5_copiesOf_67 hl (k := 6) rfl rfl (by decide) rfl (fun ls hl => ?_)
        refine lv_goto (tgt := 6) S.1 S.2.1 dX5_copiesOf_70 (by decide) ?_
        exact ih x1 x2 x3 x4 (x5 + 1) hf _ _ _ hM hS (lv_sub hl [2, 3, 4, 5, 6, 0] rfl)
      | some n2q =>
        dsimp only at hf
        obtain ⟨hn2q, hf⟩ := ed_g_e hf
        refine W.eq (g2 := F0 m 21 ls (.ref (B + ed_oF j 12 n2q) :: [])) rfl ?_
        refine lv_astore (lv' := [(6, .ref (B + ed_oF j 12 n2q)), (0, .ref (B + ed_oF j 0 0)), (1, .int x1), (2, .int x2), (3, .int x3), (4, .int x4), (5, .int x5)]) S.1 S.2.1 dX5_copiesOf_21 hl (by decide) rfl (fun ls hl => ?_)
        refine lv_aload S.1 S.2.1 dX5_copiesOf_23 (lv_at hl 0 rfl) ?_
        refine lv_ifnull S.1 S.2.1 dX5_copiesOf_25 ?_
        refine lv_iload_n S.1 S.2.1 dX5_copiesOf_28 rfl (lv_at hl 2 rfl) ?_
        refine lv_aload S.1 S.2.1 dX5_copiesOf_29 (lv_at hl 0 rfl) ?_
        refine ed_get (r := (σ 12 n2q)) S ed_uX1 hK hM (ed_v12 hj hn2q) (ed_sJr μ j σ 12 n2q) (ed_e12 cy B j n2q _) rfl 0 (by decide) ed_w1_165 rfl rfl dX5_copiesOf_31 ?_
        refine ed_kI (ed_rS S hK hM (c_X5_fits _ D cy (ed_P D cy B (ed_sJ μ j σ)) (ed_A B) x1 (σ 12 n2q 0)) (va_cwS 2 S.2.2.2.2 (ed_gS ed_w3_112 ed_w3_113 ed_w1_2 ed_w3_114) rfl rfl rfl hd_X5_fits.2 ⟨Nat.le_of_ble_eq_true rfl, Nat.le_of_ble_eq_true rfl⟩) rfl hl.1 rfl (Nat.le_of_ble_eq_true rfl) dX5_copiesOf_34 ⟨Nat.zero_le _, Nat.zero_le _⟩) hS (fun H locs hM hS => ?_)
        refine lv_if_eq (tgt := 67) S.1 S.2.1 dX5_copiesOf_37 (by decide) (fun c4 => ?_) (fun c4 => ?_)
        · replace hf := ed_ip c4 hf
          refine lv_iinc (v := x5 + 1) (lv' := [(5, .int (x5 + 1)), (6, .ref (B + ed_oF j 12 n2q)), (0, .ref (B + ed_oF j 0 0)), (1, .int x1), (2, .int x2), (3, .int x3), (4, .int x4)]) S.1 S.2.1 dX5_copiesOf_67 hl (k := 6) rfl rfl (by decide) rfl (fun ls hl => ?_)
          refine lv_goto (tgt := 6) S.1 S.2.1 dX5_copiesOf_70 (by decide) ?_
          exact ih x1 x2 x3 x4 (x5 + 1) hf _ _ _ hM hS (lv_sub hl [2, 3, 4, 5, 6, 0] rfl)
        · replace hf := ed_in_ c4 hf
          refine lv_iload_n S.1 S.2.1 dX5_copiesOf_40 rfl (lv_at hl 3 rfl) ?_
          refine lv_aload S.1 S.2.1 dX5_copiesOf_41 (lv_at hl 0 rfl) ?_
          refine ed_get (r := (σ 12 n2q)) S ed_uX1 hK hM (ed_v12 hj hn2q) (ed_sJr μ j σ 12 n2q) (ed_e12 cy B j n2q _) rfl 1 (by decide) ed_w1_168 rfl rfl dX5_copiesOf_43 ?_
          refine ed_kI (ed_rS S hK hM (c_X5_fits _ D cy (ed_P D cy B (ed_sJ μ j σ)) (ed_A B) x2 (σ 12 n2q 1)) (va_cwS 2 S.2.2.2.2 (ed_gS ed_w3_112 ed_w3_113 ed_w1_2 ed_w3_114) rfl rfl rfl hd_X5_fits.2 ⟨Nat.le_of_ble_eq_true rfl, Nat.le_of_ble_eq_true rfl⟩) rfl hl.1 rfl (Nat.le_of_ble_eq_true rfl) dX5_copiesOf_46 ⟨Nat.zero_le _, Nat.zero_le _⟩) hS (fun H locs hM hS => ?_)
          refine lv_if_eq (tgt := 67) S.1 S.2.1 dX5_copiesOf_49 (by decide) (fun c6 => ?_) (fun c6 => ?_)
          · replace hf := ed_ip c6 hf
            refine lv_iinc (v := x5 + 1) (lv' := [(5, .int (x5 + 1)), (6, .ref (B + ed_oF j 12 n2q)), (0, .ref (B + ed_oF j 0 0)), (1, .int x1), (2, .int x2), (3, .int x3), (4, .int x4)]) S.1 S.2.1 dX5_copiesOf_67 hl (k := 6) rfl rfl (by decide) rfl (fun ls hl => ?_)
            refine lv_goto (tgt := 6) S.1 S.2.1 dX5_copiesOf_70 (by decide) ?_
            exact ih x1 x2 x3 x4 (x5 + 1) hf _ _ _ hM hS (lv_sub hl [2, 3, 4, 5, 6, 0] rfl)
          · replace hf := ed_in_ c6 hf
            refine lv_iload_n S.1 S.2.1 dX5_copiesOf_52 rfl (lv_at hl 4 rfl) ?_
            refine lv_aload S.1 S.2.1 dX5_copiesOf_53 (lv_at hl 0 rfl) ?_
            refine ed_get (r := (σ 12 n2q)) S ed_uX1 hK hM (ed_v12 hj hn2q) (ed_sJr μ j σ 12 n2q) (ed_e12 cy B j n2q _) rfl 2 (by decide) ed_w1_171 rfl rfl dX5_copiesOf_55 ?_
            refine ed_kI (ed_rS S hK hM (c_X5_fits _ D cy (ed_P D cy B (ed_sJ μ j σ)) (ed_A B) x3 (σ 12 n2q 2)) (va_cwS 2 S.2.2.2.2 (ed_gS ed_w3_112 ed_w3_113 ed_w1_2 ed_w3_114) rfl rfl rfl hd_X5_fits.2 ⟨Nat.le_of_ble_eq_true rfl, Nat.le_of_ble_eq_true rfl⟩) rfl hl.1 rfl (Nat.le_of_ble_eq_true rfl) dX5_copiesOf_58 ⟨Nat.zero_le _, Nat.zero_le _⟩) hS (fun H locs hM hS => ?_)
            refine lv_if_eq (tgt := 67) S.1 S.2.1 dX5_copiesOf_61 (by decide) (fun c8 => ?_) (fun c8 => ?_)
            · replace hf := ed_ip c8 hf
              refine lv_iinc (v := x5 + 1) (lv' := [(5, .int (x5 + 1)), (6, .ref (B + ed_oF j 12 n2q)), (0, .ref (B + ed_oF j 0 0)), (1, .int x1), (2, .int x2), (3, .int x3), (4, .int x4)]) S.1 S.2.1 dX5_copiesOf_67 hl (k := 6) rfl rfl (by decide) rfl (fun ls hl => ?_)
              refine lv_goto (tgt := 6) S.1 S.2.1 dX5_copiesOf_70 (by decide) ?_
              exact ih x1 x2 x3 x4 (x5 + 1) hf _ _ _ hM hS (lv_sub hl [2, 3, 4, 5, 6, 0] rfl)
            · replace hf := ed_in_ c8 hf
              refine lv_iinc (v := x4 + 1) (lv' := [(4, .int (x4 + 1)), (6, .ref (B + ed_oF j 12 n2q)), (0, .ref (B + ed_oF j 0 0)), (1, .int x1), (2, .int x2), (3, .int x3), (5, .int x5)]) S.1 S.2.1 dX5_copiesOf_64 hl (k := 5) rfl rfl (by decide) rfl (fun ls hl => ?_)
              refine lv_iinc (v := x5 + 1) (lv' := [(5, .int (x5 + 1)), (4, .int (x4 + 1)), (6, .ref (B + ed_oF j 12 n2q)), (0, .ref (B + ed_oF j 0 0)), (1, .int x1), (2, .int x2), (3, .int x3)]) S.1 S.2.1 dX5_copiesOf_67 hl (k := 6) rfl rfl (by decide) rfl (fun ls hl => ?_)
              refine lv_goto (tgt := 6) S.1 S.2.1 dX5_copiesOf_70 (by decide) ?_
              exact ih x1 x2 x3 (x4 + 1) (x5 + 1) hf _ _ _ hM hS (lv_sub hl [3, 4, 5, 6, 1, 0] rfl)
set_option maxHeartbeats 4000000 in
set_option maxRecDepth 100000 in
theorem c_X5_copiesOf (l : Launch) (D : va_G) (cy : Nat → ClassId) (B : Nat) (μ : ed_CM) (j : Nat) (hj : j < 7) (x1 x2 x3 : Int32) (σ : ed_SM) (r : Int32) (hf : f_X5_copiesOf x1 x2 x3 σ = some r) :
    Met l yX5_copiesOf wsX5_copiesOf rmX5_copiesOf (ed_pC D cy (ed_P D cy B (ed_sJ μ j σ)) [.ref (B + ed_oF j 0 0), .int x1, .int x2, .int x3]) (ed_qI (ed_A B) (ed_P D cy B (ed_sJ μ j σ)) r) 0 0 (ed_A B) := by
  refine Met.ofW (cc := cX5_copiesOf) (maxL := 7) (ret := (some .int)) (by decide) rfl ?_
  intro p e s m args below meth c s₁ B0 hml hv
  obtain ⟨rfl, hM, hK⟩ := hv
  have S : CallFix p m c cX5_copiesOf 7 s _ ed_ws RX5 := ⟨B0.exec, B0.bytes, hml, findClass_of_methodNamed B0.named, fun w hw => atoms_spec (ws := wsX5_copiesOf) B0.pre w (List.mem_cons_of_mem _ hw)⟩
  have hr := B0.returns
  have hlocks := B0.notSynchronized
  have hS : va_S (ed_A B) s.heap s.heap [] := va_S.rf
  have hl := lv_entry ([.ref (B + ed_oF j 0 0), .int x1, .int x2, .int x3]) (n := 7) (Nat.le_of_ble_eq_true rfl)
  rw [lg_entry_eq]
  generalize (lg_sl ([.ref (B + ed_oF j 0 0), .int x1, .int x2, .int x3]) ++ List.replicate (7 - (lg_sl ([.ref (B + ed_oF j 0 0), .int x1, .int x2, .int x3])).length) Slot.unset).toArray = ls at hl ⊢
  have hl : lv_has ls 7 [(0, .ref (B + ed_oF j 0 0)), (1, .int x1), (2, .int x2), (3, .int x3)] := hl
  unfold f_X5_copiesOf at hf
  refine lv_iconst (v := 0) S.1 S.2.1 dX5_copiesOf_0 (by decide) ?_
  refine lv_istore (lv' := [(4, .int 0), (0, .ref (B + ed_oF j 0 0)), (1, .int x1), (2, .int x2), (3, .int x3)]) S.1 S.2.1 dX5_copiesOf_1 hl (by decide) rfl (fun ls hl => ?_)
  refine lv_iconst (v := 0) S.1 S.2.1 dX5_copiesOf_3 (by decide) ?_
  refine lv_istore (lv' := [(5, .int 0), (4, .int 0), (0, .ref (B + ed_oF j 0 0)), (1, .int x1), (2, .int x2), (3, .int x3)]) S.1 S.2.1 dX5_copiesOf_4 hl (by decide) rfl (fun ls hl => ?_)
  exact w_X5_copiesOf_6 hj S hr hlocks hK σ r ed_N x1 x2 x3 0 0 hf _ _ _ hM hS (lv_sub hl [2, 3, 4, 5, 1, 0] rfl)
set_option maxHeartbeats 4000000 in
set_option maxRecDepth 100000 in
theorem w_X5_upToDateCopies_4 {p : Program} {l : Launch} {e : Env} {s : State} {m : MethodId} {args : Array Value} {below : List Frame} {meth : Method} {c : Code} {D : va_G} {cy : Nat → ClassId} {B : Nat} {μ : ed_CM} {j : Nat} (hj : j < 7) (S : CallFix p m c cX5_upToDateCopies 5 s args ed_ws RX5) (hr : meth.sig.returnType = (some .int)) (hlocks : meth.locks = false) (hK : ed_K D cy s) (σ : ed_SM) (r : Int32) :
    ∀ (n : Nat), ∀ (x1 x2 x3 : Int32), f_X5_upToDateCopies_4 σ n x1 x2 x3 = some r → ∀ (H : Heap) (locs : List Loc) (ls : Array Slot), ed_P D cy B (ed_sJ μ j σ) H → va_S (ed_A B) s.heap H locs → lv_has ls 5 [(0, .ref (B + ed_oF j 0 0)), (1, .int x1), (2, .int x2), (3, .int x3)] → W p l e (headSpec wsX5_upToDateCopies rmX5_upToDateCopies).room s m args below meth c H locs 0 0 (MQ below (ed_qI (ed_A B) (ed_P D cy B (ed_sJ μ j σ)) r) args s 0 0 (ed_A B)) (F0 m 4 ls []) := by
  intro n
  induction n with
  | zero => intro x1 x2 x3 hf; rw [f_X5_upToDateCopies_4] at hf; cases hf
  | succ n ih =>
    intro x1 x2 x3 hf H locs ls hM hS hl
    rw [f_X5_upToDateCopies_4] at hf
    refine lv_iload_n S.1 S.2.1 dX5_upToDateCopies_4 rfl (lv_at hl 3 rfl) ?_
    refine lv_aload_n S.1 S.2.1 dX5_upToDateCopies_5 rfl (lv_at hl 0 rfl) ?_
    refine ed_get (r := (σ 0 0)) S ed_uX5 hK hM (ed_v0 hj 0) (ed_sJr μ j σ 0 0) (ed_e0 cy B j 0 _) rfl 5 (by decide) ed_w1_221 rfl rfl dX5_upToDateCopies_6 ?_
    refine lv_icmp_ge (tgt := 60) S.1 S.2.1 dX5_upToDateCopies_9 (by decide) (fun c1 => ?_) (fun c1 => ?_)
    · replace hf := ed_ip c1 hf
      refine lv_iload_n S.1 S.2.1 dX5_upToDateCopies_60 rfl (lv_at hl 2 rfl) ?_
      obtain rfl := Option.some.inj hf
      exact ed_ri S hr hlocks hM hS dX5_upToDateCopies_61
    · replace hf := ed_in_ c1 hf
      refine lv_aload_n S.1 S.2.1 dX5_upToDateCopies_12 rfl (lv_at hl 0 rfl) ?_
      refine lv_iload_n S.1 S.2.1 dX5_upToDateCopies_13 rfl (lv_at hl 3 rfl) ?_
      obtain ⟨o2, hq2, hf⟩ := ed_b_e hf
      refine ed_kA (ed_rV S hK hM (c_X5_copyMade _ D cy B μ j hj x3 σ o2 hq2) (cwV 1 S.2.2.2.2 (ed_gV ed_w2_156 ed_w2_157 ed_w2_158 ed_w1_2 ed_w2_159) rfl rfl rfl hd_X5_copyMade ⟨Nat.le_of_ble_eq_true rfl, Nat.le_of_ble_eq_true rfl⟩) (ed_rc (q := (RX5, TX5, 11)) (r := (σ 0 0)) hK hM (ed_v0 hj 0) (ed_sJr μ j σ 0 0) (ed_e0 cy B j 0 _) rfl) rfl hl.1 rfl (Nat.le_of_ble_eq_true rfl) dX5_upToDateCopies_14 ⟨Nat.zero_le _, Nat.zero_le _⟩) hS (fun H locs hM hS => ?_)
      cases o2 with
      | none =>
        dsimp only at hf
        refine W.eq (g2 := F0 m 17 ls (.null :: [])) rfl ?_
        refine lv_astoreN (lv' := [(4, .null), (0, .ref (B + ed_oF j 0 0)), (1, .int x1), (2, .int x2), (3, .int x3)]) S.1 S.2.1 dX5_upToDateCopies_17 hl (by decide) rfl (fun ls hl => ?_)
        refine lv_aloadN S.1 S.2.1 dX5_upToDateCopies_19 (lv_at hl 0 rfl) ?_
        refine lv_ifnullN (tgt := 54) S.1 S.2.1 dX5_upToDateCopies_21 (by decide) ?_
        refine lv_iinc (v := x3 + 1) (lv' := [(3, .int (x3 + 1)), (4, .null), (0, .ref (B + ed_oF j 0 0)), (1, .int x1), (2, .int x2)]) S.1 S.2.1 dX5_upToDateCopies_54 hl (k := 4) rfl rfl (by decide) rfl (fun ls hl => ?_)
        refine lv_goto (tgt := 4) S.1 S.2.1 dX5_upToDateCopies_57 (by decide) ?_
        exact ih x1 x2 (x3 + 1) hf _ _ _ hM hS (lv_sub hl [2, 3, 4, 0] rfl)
      | some n2q =>
        dsimp only at hf
        obtain ⟨hn2q, hf⟩ := ed_g_e hf
        refine W.eq (g2 := F0 m 17 ls (.ref (B + ed_oF j 12 n2q) :: [])) rfl ?_
        refine lv_astore (lv' := [(4, .ref (B + ed_oF j 12 n2q)), (0, .ref (B + ed_oF j 0 0)), (1, .int x1), (2, .int x2), (3, .int x3)]) S.1 S.2.1 dX5_upToDateCopies_17 hl (by decide) rfl (fun ls hl => ?_)
        refine lv_aload S.1 S.2.1 dX5_upToDateCopies_19 (lv_at hl 0 rfl) ?_
        refine lv_ifnull S.1 S.2.1 dX5_upToDateCopies_21 ?_
        refine lv_aload S.1 S.2.1 dX5_upToDateCopies_24 (lv_at hl 0 rfl) ?_
        refine ed_get (r := (σ 12 n2q)) S ed_uX1 hK hM (ed_v12 hj hn2q) (ed_sJr μ j σ 12 n2q) (ed_e12 cy B j n2q _) rfl 0 (by decide) ed_w1_165 rfl rfl dX5_upToDateCopies_26 ?_
        refine lv_iload_n S.1 S.2.1 dX5_upToDateCopies_29 rfl (lv_at hl 2 rfl) ?_
        refine lv_icmp_ne (tgt := 54) S.1 S.2.1 dX5_upToDateCopies_30 (by decide) (fun c3 => ?_) (fun c3 => ?_)
        · replace hf := ed_in_ c3 hf
          refine lv_iinc (v := x3 + 1) (lv' := [(3, .int (x3 + 1)), (4, .ref (B + ed_oF j 12 n2q)), (0, .ref (B + ed_oF j 0 0)), (1, .int x1), (2, .int x2)]) S.1 S.2.1 dX5_upToDateCopies_54 hl (k := 4) rfl rfl (by decide) rfl (fun ls hl => ?_)
          refine lv_goto (tgt := 4) S.1 S.2.1 dX5_upToDateCopies_57 (by decide) ?_
          exact ih x1 x2 (x3 + 1) hf _ _ _ hM hS (lv_sub hl [2, 3, 4, 0] rfl)
        · replace hf := ed_ip c3 hf
          refine lv_aload S.1 S.2.1 dX5_upToDateCopies_33 (lv_at hl 0 rfl) ?_
          refine ed_get (r := (σ 12 n2q)) S ed_uX1 hK hM (ed_v12 hj hn2q) (ed_sJr μ j σ 12 n2q) (ed_e12 cy B j n2q _) rfl 2 (by decide) ed_w1_171 rfl rfl dX5_upToDateCopies_35 ?_
          refine lv_iconst (v := 1) S.1 S.2.1 dX5_upToDateCopies_38 (by decide) ?_
          refine lv_icmp_ne (tgt := 54) S.1 S.2.1 dX5_upToDateCopies_39 (by decide) (fun c4 => ?_) (fun c4 => ?_)
          · replace hf := ed_in_ c4 hf
            refine lv_iinc (v := x3 + 1) (lv' := [(3, .int (x3 + 1)), (4, .ref (B + ed_oF j 12 n2q)), (0, .ref (B + ed_oF j 0 0)), (1, .int x1), (2, .int x2)]) S.1 S.2.1 dX5_upToDateCopies_54 hl (k := 4) rfl rfl (by decide) rfl (fun ls hl => ?_)
            refine lv_goto (tgt := 4) S.1 S.2.1 dX5_upToDateCopies_57 (by decide) ?_
            exact ih x1 x2 (x3 + 1) hf _ _ _ hM hS (lv_sub hl [2, 3, 4, 0] rfl)
          · replace hf := ed_ip c4 hf
            refine lv_aload_n S.1 S.2.1 dX5_upToDateCopies_42 rfl (lv_at hl 1 rfl) ?_
            refine lv_aload S.1 S.2.1 dX5_upToDateCopies_43 (lv_at hl 0 rfl) ?_
            obtain ⟨r5, hq5, hf⟩ := ed_b_e hf
            refine ed_kI (ed_rV S hK hM (c_X5_correctionsMissing _ D cy B μ j hj n2q hn2q σ r5 hq5) (cwV 1 S.2.2.2.2 (ed_gV ed_w3_166 ed_w3_158 ed_w3_159 ed_w1_2 ed_w3_160) rfl rfl rfl hd_X5_correctionsMissing ⟨Nat.le_of_ble_eq_true rfl, Nat.le_of_ble_eq_true rfl⟩) (ed_rc (q := (RX5, TX5, 11)) (r := (σ 0 0)) hK hM (ed_v0 hj 0) (ed_sJr μ j σ 0 0) (ed_e0 cy B j 0 _) rfl) rfl hl.1 rfl (Nat.le_of_ble_eq_true rfl) dX5_upToDateCopies_45 ⟨Nat.zero_le _, Nat.zero_le _⟩) hS (fun H locs hM hS => ?_)
            refine lv_if_ne (tgt := 54) S.1 S.2.1 dX5_upToDateCopies_48 (by decide) (fun c6 => ?_) (fun c6 => ?_)
            · replace hf := ed_in_ c6 hf
              refine lv_iinc (v := x3 + 1) (lv' := [(3, .int (x3 + 1)), (4, .ref (B + ed_oF j 12 n2q)), (0, .ref (B + ed_oF j 0 0)), (1, .int x1), (2, .int x2)]) S.1 S.2.1 dX5_upToDateCopies_54 hl (k := 4) rfl rfl (by decide) rfl (fun ls hl => ?_)
              refine lv_goto (tgt := 4) S.1 S.2.1 dX5_upToDateCopies_57 (by decide) ?_
              exact ih x1 x2 (x3 + 1) hf _ _ _ hM hS (lv_sub hl [2, 3, 4, 0] rfl)
            · replace hf := ed_ip c6 hf
              refine lv_iinc (v := x2 + 1) (lv' := [(2, .int (x2 + 1)), (4, .ref (B + ed_oF j 12 n2q)), (0, .ref (B + ed_oF j 0 0)), (1, .int x1), (3, .int x3)]) S.1 S.2.1 dX5_upToDateCopies_51 hl (k := 3) rfl rfl (by decide) rfl (fun ls hl => ?_)
              refine lv_iinc (v := x3 + 1) (lv' := [(3, .int (x3 + 1)), (2, .int (x2 + 1)), (4, .ref (B + ed_oF j 12 n2q)), (0, .ref (B + ed_oF j 0 0)), (1, .int x1)]) S.1 S.2.1 dX5_upToDateCopies_54 hl (k := 4) rfl rfl (by decide) rfl (fun ls hl => ?_)
              refine lv_goto (tgt := 4) S.1 S.2.1 dX5_upToDateCopies_57 (by decide) ?_
              exact ih x1 (x2 + 1) (x3 + 1) hf _ _ _ hM hS (lv_sub hl [3, 4, 1, 0] rfl)
set_option maxHeartbeats 4000000 in
set_option maxRecDepth 100000 in
theorem c_X5_upToDateCopies (l : Launch) (D : va_G) (cy : Nat → ClassId) (B : Nat) (μ : ed_CM) (j : Nat) (hj : j < 7) (x1 : Int32) (σ : ed_SM) (r : Int32) (hf : f_X5_upToDateCopies x1 σ = some r) :
    Met l yX5_upToDateCopies wsX5_upToDateCopies rmX5_upToDateCopies (ed_pC D cy (ed_P D cy B (ed_sJ μ j σ)) [.ref (B + ed_oF j 0 0), .int x1]) (ed_qI (ed_A B) (ed_P D cy B (ed_sJ μ j σ)) r) 0 0 (ed_A B) := by
  refine Met.ofW (cc := cX5_upToDateCopies) (maxL := 5) (ret := (some .int)) (by decide) rfl ?_
  intro p e s m args below meth c s₁ B0 hml hv
  obtain ⟨rfl, hM, hK⟩ := hv
  have S : CallFix p m c cX5_upToDateCopies 5 s _ ed_ws RX5 := ⟨B0.exec, B0.bytes, hml, findClass_of_methodNamed B0.named, fun w hw => atoms_spec (ws := wsX5_upToDateCopies) B0.pre w (List.mem_cons_of_mem _ hw)⟩
  have hr := B0.returns
  have hlocks := B0.notSynchronized
  have hS : va_S (ed_A B) s.heap s.heap [] := va_S.rf
  have hl := lv_entry ([.ref (B + ed_oF j 0 0), .int x1]) (n := 5) (Nat.le_of_ble_eq_true rfl)
  rw [lg_entry_eq]
  generalize (lg_sl ([.ref (B + ed_oF j 0 0), .int x1]) ++ List.replicate (5 - (lg_sl ([.ref (B + ed_oF j 0 0), .int x1])).length) Slot.unset).toArray = ls at hl ⊢
  have hl : lv_has ls 5 [(0, .ref (B + ed_oF j 0 0)), (1, .int x1)] := hl
  unfold f_X5_upToDateCopies at hf
  refine lv_iconst (v := 0) S.1 S.2.1 dX5_upToDateCopies_0 (by decide) ?_
  refine lv_istore_n (lv' := [(2, .int 0), (0, .ref (B + ed_oF j 0 0)), (1, .int x1)]) S.1 S.2.1 dX5_upToDateCopies_1 rfl hl (by decide) rfl (fun ls hl => ?_)
  refine lv_iconst (v := 0) S.1 S.2.1 dX5_upToDateCopies_2 (by decide) ?_
  refine lv_istore_n (lv' := [(3, .int 0), (2, .int 0), (0, .ref (B + ed_oF j 0 0)), (1, .int x1)]) S.1 S.2.1 dX5_upToDateCopies_3 rfl hl (by decide) rfl (fun ls hl => ?_)
  exact w_X5_upToDateCopies_4 hj S hr hlocks hK σ r ed_N x1 0 0 hf _ _ _ hM hS (lv_sub hl [2, 3, 1, 0] rfl)
set_option maxHeartbeats 4000000 in
set_option maxRecDepth 100000 in
theorem w_X5_copiesWithCorrectionsDue_4 {p : Program} {l : Launch} {e : Env} {s : State} {m : MethodId} {args : Array Value} {below : List Frame} {meth : Method} {c : Code} {D : va_G} {cy : Nat → ClassId} {B : Nat} {μ : ed_CM} {j : Nat} (hj : j < 7) (S : CallFix p m c cX5_copiesWithCorrectionsDue 4 s args ed_ws RX5) (hr : meth.sig.returnType = (some .int)) (hlocks : meth.locks = false) (hK : ed_K D cy s) (σ : ed_SM) (r : Int32) :
    ∀ (n : Nat), ∀ (x1 x2 : Int32), f_X5_copiesWithCorrectionsDue_4 σ n x1 x2 = some r → ∀ (H : Heap) (locs : List Loc) (ls : Array Slot), ed_P D cy B (ed_sJ μ j σ) H → va_S (ed_A B) s.heap H locs → lv_has ls 4 [(0, .ref (B + ed_oF j 0 0)), (1, .int x1), (2, .int x2)] → W p l e (headSpec wsX5_copiesWithCorrectionsDue rmX5_copiesWithCorrectionsDue).room s m args below meth c H locs 0 0 (MQ below (ed_qI (ed_A B) (ed_P D cy B (ed_sJ μ j σ)) r) args s 0 0 (ed_A B)) (F0 m 4 ls []) := by
  intro n
  induction n with
  | zero => intro x1 x2 hf; rw [f_X5_copiesWithCorrectionsDue_4] at hf; cases hf
  | succ n ih =>
    intro x1 x2 hf H locs ls hM hS hl
    rw [f_X5_copiesWithCorrectionsDue_4] at hf
    refine lv_iload_n S.1 S.2.1 dX5_copiesWithCorrectionsDue_4 rfl (lv_at hl 2 rfl) ?_
    refine lv_aload_n S.1 S.2.1 dX5_copiesWithCorrectionsDue_5 rfl (lv_at hl 0 rfl) ?_
    refine ed_get (r := (σ 0 0)) S ed_uX5 hK hM (ed_v0 hj 0) (ed_sJr μ j σ 0 0) (ed_e0 cy B j 0 _) rfl 5 (by decide) ed_w1_221 rfl rfl dX5_copiesWithCorrectionsDue_6 ?_
    refine lv_icmp_ge (tgt := 39) S.1 S.2.1 dX5_copiesWithCorrectionsDue_9 (by decide) (fun c1 => ?_) (fun c1 => ?_)
    · replace hf := ed_ip c1 hf
      refine lv_iload_n S.1 S.2.1 dX5_copiesWithCorrectionsDue_39 rfl (lv_at hl 1 rfl) ?_
      obtain rfl := Option.some.inj hf
      exact ed_ri S hr hlocks hM hS dX5_copiesWithCorrectionsDue_40
    · replace hf := ed_in_ c1 hf
      refine lv_aload_n S.1 S.2.1 dX5_copiesWithCorrectionsDue_12 rfl (lv_at hl 0 rfl) ?_
      refine lv_iload_n S.1 S.2.1 dX5_copiesWithCorrectionsDue_13 rfl (lv_at hl 2 rfl) ?_
      obtain ⟨o2, hq2, hf⟩ := ed_b_e hf
      refine ed_kA (ed_rV S hK hM (c_X5_copyMade _ D cy B μ j hj x2 σ o2 hq2) (cwV 1 S.2.2.2.2 (ed_gV ed_w2_156 ed_w2_157 ed_w2_158 ed_w1_2 ed_w2_159) rfl rfl rfl hd_X5_copyMade ⟨Nat.le_of_ble_eq_true rfl, Nat.le_of_ble_eq_true rfl⟩) (ed_rc (q := (RX5, TX5, 11)) (r := (σ 0 0)) hK hM (ed_v0 hj 0) (ed_sJr μ j σ 0 0) (ed_e0 cy B j 0 _) rfl) rfl hl.1 rfl (Nat.le_of_ble_eq_true rfl) dX5_copiesWithCorrectionsDue_14 ⟨Nat.zero_le _, Nat.zero_le _⟩) hS (fun H locs hM hS => ?_)
      cases o2 with
      | none =>
        dsimp only at hf
        refine W.eq (g2 := F0 m 17 ls (.null :: [])) rfl ?_
        refine lv_astore_nN (lv' := [(3, .null), (0, .ref (B + ed_oF j 0 0)), (1, .int x1), (2, .int x2)]) S.1 S.2.1 dX5_copiesWithCorrectionsDue_17 rfl hl (by decide) rfl (fun ls hl => ?_)
        refine lv_aload_nN S.1 S.2.1 dX5_copiesWithCorrectionsDue_18 rfl (lv_at hl 0 rfl) ?_
        refine lv_ifnullN (tgt := 33) S.1 S.2.1 dX5_copiesWithCorrectionsDue_19 (by decide) ?_
        refine lv_iinc (v := x2 + 1) (lv' := [(2, .int (x2 + 1)), (3, .null), (0, .ref (B + ed_oF j 0 0)), (1, .int x1)]) S.1 S.2.1 dX5_copiesWithCorrectionsDue_33 hl (k := 3) rfl rfl (by decide) rfl (fun ls hl => ?_)
        refine lv_goto (tgt := 4) S.1 S.2.1 dX5_copiesWithCorrectionsDue_36 (by decide) ?_
        exact ih x1 (x2 + 1) hf _ _ _ hM hS (lv_sub hl [2, 3, 0] rfl)
      | some n2q =>
        dsimp only at hf
        obtain ⟨hn2q, hf⟩ := ed_g_e hf
        refine W.eq (g2 := F0 m 17 ls (.ref (B + ed_oF j 12 n2q) :: [])) rfl ?_
        refine lv_astore_n (lv' := [(3, .ref (B + ed_oF j 12 n2q)), (0, .ref (B + ed_oF j 0 0)), (1, .int x1), (2, .int x2)]) S.1 S.2.1 dX5_copiesWithCorrectionsDue_17 rfl hl (by decide) rfl (fun ls hl => ?_)
        refine lv_aload_n S.1 S.2.1 dX5_copiesWithCorrectionsDue_18 rfl (lv_at hl 0 rfl) ?_
        refine lv_ifnull S.1 S.2.1 dX5_copiesWithCorrectionsDue_19 ?_
        refine lv_aload_n S.1 S.2.1 dX5_copiesWithCorrectionsDue_22 rfl (lv_at hl 1 rfl) ?_
        refine lv_aload_n S.1 S.2.1 dX5_copiesWithCorrectionsDue_23 rfl (lv_at hl 0 rfl) ?_
        obtain ⟨r3, hq3, hf⟩ := ed_b_e hf
        refine ed_kI (ed_rV S hK hM (c_X5_correctionsDue _ D cy B μ j hj n2q hn2q σ r3 hq3) (cwV 1 S.2.2.2.2 (ed_gV ed_w3_79 ed_w3_80 ed_w3_81 ed_w1_2 ed_w3_82) rfl rfl rfl hd_X5_correctionsDue ⟨Nat.le_of_ble_eq_true rfl, Nat.le_of_ble_eq_true rfl⟩) (ed_rc (q := (RX5, TX5, 11)) (r := (σ 0 0)) hK hM (ed_v0 hj 0) (ed_sJr μ j σ 0 0) (ed_e0 cy B j 0 _) rfl) rfl hl.1 rfl (Nat.le_of_ble_eq_true rfl) dX5_copiesWithCorrectionsDue_24 ⟨Nat.zero_le _, Nat.zero_le _⟩) hS (fun H locs hM hS => ?_)
        refine lv_if_le (tgt := 33) S.1 S.2.1 dX5_copiesWithCorrectionsDue_27 (by decide) (fun c4 => ?_) (fun c4 => ?_)
        · replace hf := ed_ip c4 hf
          refine lv_iinc (v := x2 + 1) (lv' := [(2, .int (x2 + 1)), (3, .ref (B + ed_oF j 12 n2q)), (0, .ref (B + ed_oF j 0 0)), (1, .int x1)]) S.1 S.2.1 dX5_copiesWithCorrectionsDue_33 hl (k := 3) rfl rfl (by decide) rfl (fun ls hl => ?_)
          refine lv_goto (tgt := 4) S.1 S.2.1 dX5_copiesWithCorrectionsDue_36 (by decide) ?_
          exact ih x1 (x2 + 1) hf _ _ _ hM hS (lv_sub hl [2, 3, 0] rfl)
        · replace hf := ed_in_ c4 hf
          refine lv_iinc (v := x1 + 1) (lv' := [(1, .int (x1 + 1)), (3, .ref (B + ed_oF j 12 n2q)), (0, .ref (B + ed_oF j 0 0)), (2, .int x2)]) S.1 S.2.1 dX5_copiesWithCorrectionsDue_30 hl (k := 2) rfl rfl (by decide) rfl (fun ls hl => ?_)
          refine lv_iinc (v := x2 + 1) (lv' := [(2, .int (x2 + 1)), (1, .int (x1 + 1)), (3, .ref (B + ed_oF j 12 n2q)), (0, .ref (B + ed_oF j 0 0))]) S.1 S.2.1 dX5_copiesWithCorrectionsDue_33 hl (k := 3) rfl rfl (by decide) rfl (fun ls hl => ?_)
          refine lv_goto (tgt := 4) S.1 S.2.1 dX5_copiesWithCorrectionsDue_36 (by decide) ?_
          exact ih (x1 + 1) (x2 + 1) hf _ _ _ hM hS (lv_sub hl [3, 1, 0] rfl)
set_option maxHeartbeats 4000000 in
set_option maxRecDepth 100000 in
theorem c_X5_copiesWithCorrectionsDue (l : Launch) (D : va_G) (cy : Nat → ClassId) (B : Nat) (μ : ed_CM) (j : Nat) (hj : j < 7) (σ : ed_SM) (r : Int32) (hf : f_X5_copiesWithCorrectionsDue σ = some r) :
    Met l yX5_copiesWithCorrectionsDue wsX5_copiesWithCorrectionsDue rmX5_copiesWithCorrectionsDue (ed_pC D cy (ed_P D cy B (ed_sJ μ j σ)) [.ref (B + ed_oF j 0 0)]) (ed_qI (ed_A B) (ed_P D cy B (ed_sJ μ j σ)) r) 0 0 (ed_A B) := by
  refine Met.ofW (cc := cX5_copiesWithCorrectionsDue) (maxL := 4) (ret := (some .int)) (by decide) rfl ?_
  intro p e s m args below meth c s₁ B0 hml hv
  obtain ⟨rfl, hM, hK⟩ := hv
  have S : CallFix p m c cX5_copiesWithCorrectionsDue 4 s _ ed_ws RX5 := ⟨B0.exec, B0.bytes, hml, findClass_of_methodNamed B0.named, fun w hw => atoms_spec (ws := wsX5_copiesWithCorrectionsDue) B0.pre w (List.mem_cons_of_mem _ hw)⟩
  have hr := B0.returns
  have hlocks := B0.notSynchronized
  have hS : va_S (ed_A B) s.heap s.heap [] := va_S.rf
  have hl := lv_entry ([.ref (B + ed_oF j 0 0)]) (n := 4) (Nat.le_of_ble_eq_true rfl)
  rw [lg_entry_eq]
  generalize (lg_sl ([.ref (B + ed_oF j 0 0)]) ++ List.replicate (4 - (lg_sl ([.ref (B + ed_oF j 0 0)])).length) Slot.unset).toArray = ls at hl ⊢
  have hl : lv_has ls 4 [(0, .ref (B + ed_oF j 0 0))] := hl
  unfold f_X5_copiesWithCorrectionsDue at hf
  refine lv_iconst (v := 0) S.1 S.2.1 dX5_copiesWithCorrectionsDue_0 (by decide) ?_
  refine lv_istore_n (lv' := [(1, .int 0), (0, .ref (B + ed_oF j 0 0))]) S.1 S.2.1 dX5_copiesWithCorrectionsDue_1 rfl hl (by decide) rfl (fun ls hl => ?_)
  refine lv_iconst (v := 0) S.1 S.2.1 dX5_copiesWithCorrectionsDue_2 (by decide) ?_
  refine lv_istore_n (lv' := [(2, .int 0), (1, .int 0), (0, .ref (B + ed_oF j 0 0))]) S.1 S.2.1 dX5_copiesWithCorrectionsDue_3 rfl hl (by decide) rfl (fun ls hl => ?_)
  exact w_X5_copiesWithCorrectionsDue_4 hj S hr hlocks hK σ r ed_N 0 0 hf _ _ _ hM hS (lv_sub hl [2, 1, 0] rfl)
set_option maxHeartbeats 4000000 in
set_option maxRecDepth 100000 in
theorem w_X5_storiesBy_4 {p : Program} {l : Launch} {e : Env} {s : State} {m : MethodId} {args : Array Value} {below : List Frame} {meth : Method} {c : Code} {D : va_G} {cy : Nat → ClassId} {B : Nat} {μ : ed_CM} {j : Nat} (hj : j < 7) (S : CallFix p m c cX5_storiesBy 5 s args ed_ws RX5) (hr : meth.sig.returnType = (some .int)) (hlocks : meth.locks = false) (hK : ed_K D cy s) (σ : ed_SM) (r : Int32) :
    ∀ (n : Nat), ∀ (x1 x2 x3 : Int32), f_X5_storiesBy_4 σ n x1 x2 x3 = some r → ∀ (H : Heap) (locs : List Loc) (ls : Array Slot), ed_P D cy B (ed_sJ μ j σ) H → va_S (ed_A B) s.heap H locs → lv_has ls 5 [(0, .ref (B + ed_oF j 0 0)), (1, .int x1), (2, .int x2), (3, .int x3)] → W p l e (headSpec wsX5_storiesBy rmX5_storiesBy).room s m args below meth c H locs 0 0 (MQ below (ed_qI (ed_A B) (ed_P D cy B (ed_sJ μ j σ)) r) args s 0 0 (ed_A B)) (F0 m 4 ls []) := by
  intro n
  induction n with
  | zero => intro x1 x2 x3 hf; rw [f_X5_storiesBy_4] at hf; cases hf
  | succ n ih =>
    intro x1 x2 x3 hf H locs ls hM hS hl
    rw [f_X5_storiesBy_4] at hf
    refine lv_iload_n S.1 S.2.1 dX5_storiesBy_4 rfl (lv_at hl 3 rfl) ?_
    refine lv_aload_n S.1 S.2.1 dX5_storiesBy_5 rfl (lv_at hl 0 rfl) ?_
    refine ed_get (r := (σ 0 0)) S ed_uX5 hK hM (ed_v0 hj 0) (ed_sJr μ j σ 0 0) (ed_e0 cy B j 0 _) rfl 3 (by decide) ed_w1_217 rfl rfl dX5_storiesBy_6 ?_
    refine lv_icmp_ge (tgt := 42) S.1 S.2.1 dX5_storiesBy_9 (by decide) (fun c1 => ?_) (fun c1 => ?_)
    · replace hf := ed_ip c1 hf
      refine lv_iload_n S.1 S.2.1 dX5_storiesBy_42 rfl (lv_at hl 2 rfl) ?_
      obtain rfl := Option.some.inj hf
      exact ed_ri S hr hlocks hM hS dX5_storiesBy_43
    · replace hf := ed_in_ c1 hf
      refine lv_aload_n S.1 S.2.1 dX5_storiesBy_12 rfl (lv_at hl 0 rfl) ?_
      refine lv_iload_n S.1 S.2.1 dX5_storiesBy_13 rfl (lv_at hl 3 rfl) ?_
      obtain ⟨o2, hq2, hf⟩ := ed_b_e hf
      refine ed_kA (ed_rV S hK hM (c_X5_storyAt _ D cy B μ j hj x3 σ o2 hq2) (cwV 1 S.2.2.2.2 (ed_gV ed_w2_129 ed_w2_130 ed_w2_131 ed_w1_2 ed_w2_132) rfl rfl rfl hd_X5_storyAt ⟨Nat.le_of_ble_eq_true rfl, Nat.le_of_ble_eq_true rfl⟩) (ed_rc (q := (RX5, TX5, 11)) (r := (σ 0 0)) hK hM (ed_v0 hj 0) (ed_sJr μ j σ 0 0) (ed_e0 cy B j 0 _) rfl) rfl hl.1 rfl (Nat.le_of_ble_eq_true rfl) dX5_storiesBy_14 ⟨Nat.zero_le _, Nat.zero_le _⟩) hS (fun H locs hM hS => ?_)
      cases o2 with
      | none =>
        dsimp only at hf
        refine W.eq (g2 := F0 m 17 ls (.null :: [])) rfl ?_
        refine lv_astoreN (lv' := [(4, .null), (0, .ref (B + ed_oF j 0 0)), (1, .int x1), (2, .int x2), (3, .int x3)]) S.1 S.2.1 dX5_storiesBy_17 hl (by decide) rfl (fun ls hl => ?_)
        refine lv_aloadN S.1 S.2.1 dX5_storiesBy_19 (lv_at hl 0 rfl) ?_
        refine lv_ifnullN (tgt := 36) S.1 S.2.1 dX5_storiesBy_21 (by decide) ?_
        refine lv_iinc (v := x3 + 1) (lv' := [(3, .int (x3 + 1)), (4, .null), (0, .ref (B + ed_oF j 0 0)), (1, .int x1), (2, .int x2)]) S.1 S.2.1 dX5_storiesBy_36 hl (k := 4) rfl rfl (by decide) rfl (fun ls hl => ?_)
        refine lv_goto (tgt := 4) S.1 S.2.1 dX5_storiesBy_39 (by decide) ?_
        exact ih x1 x2 (x3 + 1) hf _ _ _ hM hS (lv_sub hl [2, 3, 4, 0] rfl)
      | some n2q =>
        dsimp only at hf
        obtain ⟨hn2q, hf⟩ := ed_g_e hf
        refine W.eq (g2 := F0 m 17 ls (.ref (B + ed_oF j 7 n2q) :: [])) rfl ?_
        refine lv_astore (lv' := [(4, .ref (B + ed_oF j 7 n2q)), (0, .ref (B + ed_oF j 0 0)), (1, .int x1), (2, .int x2), (3, .int x3)]) S.1 S.2.1 dX5_storiesBy_17 hl (by decide) rfl (fun ls hl => ?_)
        refine lv_aload S.1 S.2.1 dX5_storiesBy_19 (lv_at hl 0 rfl) ?_
        refine lv_ifnull S.1 S.2.1 dX5_storiesBy_21 ?_
        refine lv_aload S.1 S.2.1 dX5_storiesBy_24 (lv_at hl 0 rfl) ?_
        refine lv_iload_n S.1 S.2.1 dX5_storiesBy_26 rfl (lv_at hl 2 rfl) ?_
        obtain ⟨r3, hq3, hf⟩ := ed_b_e hf
        refine ed_kI (ed_rV S hK hM (c_X6_isBy _ D cy B μ j hj n2q hn2q x1 σ r3 hq3) (cwV 1 S.2.2.2.2 (ed_gV ed_w3_131 ed_w3_132 ed_w3_133 ed_w1_4 ed_w3_134) rfl rfl rfl hd_X6_isBy ⟨Nat.le_of_ble_eq_true rfl, Nat.le_of_ble_eq_true rfl⟩) (ed_rc (q := (RX6, TX6, 11)) (r := (σ 7 n2q)) hK hM (ed_v7 hj hn2q 7) (ed_sJr μ j σ 7 n2q) (ed_e7 cy B j n2q _) rfl) rfl hl.1 rfl (Nat.le_of_ble_eq_true rfl) dX5_storiesBy_27 ⟨Nat.zero_le _, Nat.zero_le _⟩) hS (fun H locs hM hS => ?_)
        refine lv_if_eq (tgt := 36) S.1 S.2.1 dX5_storiesBy_30 (by decide) (fun c4 => ?_) (fun c4 => ?_)
        · replace hf := ed_ip c4 hf
          refine lv_iinc (v := x3 + 1) (lv' := [(3, .int (x3 + 1)), (4, .ref (B + ed_oF j 7 n2q)), (0, .ref (B + ed_oF j 0 0)), (1, .int x1), (2, .int x2)]) S.1 S.2.1 dX5_storiesBy_36 hl (k := 4) rfl rfl (by decide) rfl (fun ls hl => ?_)
          refine lv_goto (tgt := 4) S.1 S.2.1 dX5_storiesBy_39 (by decide) ?_
          exact ih x1 x2 (x3 + 1) hf _ _ _ hM hS (lv_sub hl [2, 3, 4, 0] rfl)
        · replace hf := ed_in_ c4 hf
          refine lv_iinc (v := x2 + 1) (lv' := [(2, .int (x2 + 1)), (4, .ref (B + ed_oF j 7 n2q)), (0, .ref (B + ed_oF j 0 0)), (1, .int x1), (3, .int x3)]) S.1 S.2.1 dX5_storiesBy_33 hl (k := 3) rfl rfl (by decide) rfl (fun ls hl => ?_)
          refine lv_iinc (v := x3 + 1) (lv' := [(3, .int (x3 + 1)), (2, .int (x2 + 1)), (4, .ref (B + ed_oF j 7 n2q)), (0, .ref (B + ed_oF j 0 0)), (1, .int x1)]) S.1 S.2.1 dX5_storiesBy_36 hl (k := 4) rfl rfl (by decide) rfl (fun ls hl => ?_)
          refine lv_goto (tgt := 4) S.1 S.2.1 dX5_storiesBy_39 (by decide) ?_
          exact ih x1 (x2 + 1) (x3 + 1) hf _ _ _ hM hS (lv_sub hl [3, 4, 1, 0] rfl)
set_option maxHeartbeats 4000000 in
set_option maxRecDepth 100000 in
theorem c_X5_storiesBy (l : Launch) (D : va_G) (cy : Nat → ClassId) (B : Nat) (μ : ed_CM) (j : Nat) (hj : j < 7) (x1 : Int32) (σ : ed_SM) (r : Int32) (hf : f_X5_storiesBy x1 σ = some r) :
    Met l yX5_storiesBy wsX5_storiesBy rmX5_storiesBy (ed_pC D cy (ed_P D cy B (ed_sJ μ j σ)) [.ref (B + ed_oF j 0 0), .int x1]) (ed_qI (ed_A B) (ed_P D cy B (ed_sJ μ j σ)) r) 0 0 (ed_A B) := by
  refine Met.ofW (cc := cX5_storiesBy) (maxL := 5) (ret := (some .int)) (by decide) rfl ?_
  intro p e s m args below meth c s₁ B0 hml hv
  obtain ⟨rfl, hM, hK⟩ := hv
  have S : CallFix p m c cX5_storiesBy 5 s _ ed_ws RX5 := ⟨B0.exec, B0.bytes, hml, findClass_of_methodNamed B0.named, fun w hw => atoms_spec (ws := wsX5_storiesBy) B0.pre w (List.mem_cons_of_mem _ hw)⟩
  have hr := B0.returns
  have hlocks := B0.notSynchronized
  have hS : va_S (ed_A B) s.heap s.heap [] := va_S.rf
  have hl := lv_entry ([.ref (B + ed_oF j 0 0), .int x1]) (n := 5) (Nat.le_of_ble_eq_true rfl)
  rw [lg_entry_eq]
  generalize (lg_sl ([.ref (B + ed_oF j 0 0), .int x1]) ++ List.replicate (5 - (lg_sl ([.ref (B + ed_oF j 0 0), .int x1])).length) Slot.unset).toArray = ls at hl ⊢
  have hl : lv_has ls 5 [(0, .ref (B + ed_oF j 0 0)), (1, .int x1)] := hl
  unfold f_X5_storiesBy at hf
  refine lv_iconst (v := 0) S.1 S.2.1 dX5_storiesBy_0 (by decide) ?_
  refine lv_istore_n (lv' := [(2, .int 0), (0, .ref (B + ed_oF j 0 0)), (1, .int x1)]) S.1 S.2.1 dX5_storiesBy_1 rfl hl (by decide) rfl (fun ls hl => ?_)
  refine lv_iconst (v := 0) S.1 S.2.1 dX5_storiesBy_2 (by decide) ?_
  refine lv_istore_n (lv' := [(3, .int 0), (2, .int 0), (0, .ref (B + ed_oF j 0 0)), (1, .int x1)]) S.1 S.2.1 dX5_storiesBy_3 rfl hl (by decide) rfl (fun ls hl => ?_)
  exact w_X5_storiesBy_4 hj S hr hlocks hK σ r ed_N x1 0 0 hf _ _ _ hM hS (lv_sub hl [2, 3, 1, 0] rfl)
set_option maxHeartbeats 4000000 in
set_option maxRecDepth 100000 in
theorem w_X5_copiesInUseBy_4 {p : Program} {l : Launch} {e : Env} {s : State} {m : MethodId} {args : Array Value} {below : List Frame} {meth : Method} {c : Code} {D : va_G} {cy : Nat → ClassId} {B : Nat} {μ : ed_CM} {j : Nat} (hj : j < 7) (S : CallFix p m c cX5_copiesInUseBy 5 s args ed_ws RX5) (hr : meth.sig.returnType = (some .int)) (hlocks : meth.locks = false) (hK : ed_K D cy s) (σ : ed_SM) (r : Int32) :
    ∀ (n : Nat), ∀ (x1 x2 x3 : Int32), f_X5_copiesInUseBy_4 σ n x1 x2 x3 = some r → ∀ (H : Heap) (locs : List Loc) (ls : Array Slot), ed_P D cy B (ed_sJ μ j σ) H → va_S (ed_A B) s.heap H locs → lv_has ls 5 [(0, .ref (B + ed_oF j 0 0)), (1, .int x1), (2, .int x2), (3, .int x3)] → W p l e (headSpec wsX5_copiesInUseBy rmX5_copiesInUseBy).room s m args below meth c H locs 0 0 (MQ below (ed_qI (ed_A B) (ed_P D cy B (ed_sJ μ j σ)) r) args s 0 0 (ed_A B)) (F0 m 4 ls []) := by
  intro n
  induction n with
  | zero => intro x1 x2 x3 hf; rw [f_X5_copiesInUseBy_4] at hf; cases hf
  | succ n ih =>
    intro x1 x2 x3 hf H locs ls hM hS hl
    rw [f_X5_copiesInUseBy_4] at hf
    refine lv_iload_n S.1 S.2.1 dX5_copiesInUseBy_4 rfl (lv_at hl 3 rfl) ?_
    refine lv_aload_n S.1 S.2.1 dX5_copiesInUseBy_5 rfl (lv_at hl 0 rfl) ?_
    refine ed_get (r := (σ 0 0)) S ed_uX5 hK hM (ed_v0 hj 0) (ed_sJr μ j σ 0 0) (ed_e0 cy B j 0 _) rfl 3 (by decide) ed_w1_217 rfl rfl dX5_copiesInUseBy_6 ?_
    refine lv_icmp_ge (tgt := 49) S.1 S.2.1 dX5_copiesInUseBy_9 (by decide) (fun c1 => ?_) (fun c1 => ?_)
    · replace hf := ed_ip c1 hf
      refine lv_iload_n S.1 S.2.1 dX5_copiesInUseBy_49 rfl (lv_at hl 2 rfl) ?_
      obtain rfl := Option.some.inj hf
      exact ed_ri S hr hlocks hM hS dX5_copiesInUseBy_50
    · replace hf := ed_in_ c1 hf
      refine lv_aload_n S.1 S.2.1 dX5_copiesInUseBy_12 rfl (lv_at hl 0 rfl) ?_
      refine lv_iload_n S.1 S.2.1 dX5_copiesInUseBy_13 rfl (lv_at hl 3 rfl) ?_
      obtain ⟨o2, hq2, hf⟩ := ed_b_e hf
      refine ed_kA (ed_rV S hK hM (c_X5_storyAt _ D cy B μ j hj x3 σ o2 hq2) (cwV 1 S.2.2.2.2 (ed_gV ed_w2_129 ed_w2_130 ed_w2_131 ed_w1_2 ed_w2_132) rfl rfl rfl hd_X5_storyAt ⟨Nat.le_of_ble_eq_true rfl, Nat.le_of_ble_eq_true rfl⟩) (ed_rc (q := (RX5, TX5, 11)) (r := (σ 0 0)) hK hM (ed_v0 hj 0) (ed_sJr μ j σ 0 0) (ed_e0 cy B j 0 _) rfl) rfl hl.1 rfl (Nat.le_of_ble_eq_true rfl) dX5_copiesInUseBy_14 ⟨Nat.zero_le _, Nat.zero_le _⟩) hS (fun H locs hM hS => ?_)
      cases o2 with
      | none =>
        dsimp only at hf
        refine W.eq (g2 := F0 m 17 ls (.null :: [])) rfl ?_
        refine lv_astoreN (lv' := [(4, .null), (0, .ref (B + ed_oF j 0 0)), (1, .int x1), (2, .int x2), (3, .int x3)]) S.1 S.2.1 dX5_copiesInUseBy_17 hl (by decide) rfl (fun ls hl => ?_)
        refine lv_aloadN S.1 S.2.1 dX5_copiesInUseBy_19 (lv_at hl 0 rfl) ?_
        refine lv_ifnullN (tgt := 43) S.1 S.2.1 dX5_copiesInUseBy_21 (by decide) ?_
        refine lv_iinc (v := x3 + 1) (lv' := [(3, .int (x3 + 1)), (4, .null), (0, .ref (B + ed_oF j 0 0)), (1, .int x1), (2, .int x2)]) S.1 S.2.1 dX5_copiesInUseBy_43 hl (k := 4) rfl rfl (by decide) rfl (fun ls hl => ?_)
        refine lv_goto (tgt := 4) S.1 S.2.1 dX5_copiesInUseBy_46 (by decide) ?_
        exact ih x1 x2 (x3 + 1) hf _ _ _ hM hS (lv_sub hl [2, 3, 4, 0] rfl)
      | some n2q =>
        dsimp only at hf
        obtain ⟨hn2q, hf⟩ := ed_g_e hf
        refine W.eq (g2 := F0 m 17 ls (.ref (B + ed_oF j 7 n2q) :: [])) rfl ?_
        refine lv_astore (lv' := [(4, .ref (B + ed_oF j 7 n2q)), (0, .ref (B + ed_oF j 0 0)), (1, .int x1), (2, .int x2), (3, .int x3)]) S.1 S.2.1 dX5_copiesInUseBy_17 hl (by decide) rfl (fun ls hl => ?_)
        refine lv_aload S.1 S.2.1 dX5_copiesInUseBy_19 (lv_at hl 0 rfl) ?_
        refine lv_ifnull S.1 S.2.1 dX5_copiesInUseBy_21 ?_
        refine lv_aload S.1 S.2.1 dX5_copiesInUseBy_24 (lv_at hl 0 rfl) ?_
        refine lv_iload_n S.1 S.2.1 dX5_copiesInUseBy_26 rfl (lv_at hl 2 rfl) ?_
        obtain ⟨r3, hq3, hf⟩ := ed_b_e hf
        refine ed_kI (ed_rV S hK hM (c_X6_isBy _ D cy B μ j hj n2q hn2q x1 σ r3 hq3) (cwV 1 S.2.2.2.2 (ed_gV ed_w3_131 ed_w3_132 ed_w3_133 ed_w1_4 ed_w3_134) rfl rfl rfl hd_X6_isBy ⟨Nat.le_of_ble_eq_true rfl, Nat.le_of_ble_eq_true rfl⟩) (ed_rc (q := (RX6, TX6, 11)) (r := (σ 7 n2q)) hK hM (ed_v7 hj hn2q 7) (ed_sJr μ j σ 7 n2q) (ed_e7 cy B j n2q _) rfl) rfl hl.1 rfl (Nat.le_of_ble_eq_true rfl) dX5_copiesInUseBy_27 ⟨Nat.zero_le _, Nat.zero_le _⟩) hS (fun H locs hM hS => ?_)
        refine lv_if_eq (tgt := 43) S.1 S.2.1 dX5_copiesInUseBy_30 (by decide) (fun c4 => ?_) (fun c4 => ?_)
        · replace hf := ed_ip c4 hf
          refine lv_iinc (v := x3 + 1) (lv' := [(3, .int (x3 + 1)), (4, .ref (B + ed_oF j 7 n2q)), (0, .ref (B + ed_oF j 0 0)), (1, .int x1), (2, .int x2)]) S.1 S.2.1 dX5_copiesInUseBy_43 hl (k := 4) rfl rfl (by decide) rfl (fun ls hl => ?_)
          refine lv_goto (tgt := 4) S.1 S.2.1 dX5_copiesInUseBy_46 (by decide) ?_
          exact ih x1 x2 (x3 + 1) hf _ _ _ hM hS (lv_sub hl [2, 3, 4, 0] rfl)
        · replace hf := ed_in_ c4 hf
          refine lv_iload_n S.1 S.2.1 dX5_copiesInUseBy_33 rfl (lv_at hl 3 rfl) ?_
          refine lv_aload_n S.1 S.2.1 dX5_copiesInUseBy_34 rfl (lv_at hl 1 rfl) ?_
          refine lv_iload_n S.1 S.2.1 dX5_copiesInUseBy_35 rfl (lv_at hl 4 rfl) ?_
          refine lv_iconst (v := (-1)) S.1 S.2.1 dX5_copiesInUseBy_36 (by decide) ?_
          refine lv_iconst (v := 1) S.1 S.2.1 dX5_copiesInUseBy_37 (by decide) ?_
          obtain ⟨r5, hq5, hf⟩ := ed_b_e hf
          refine ed_kI (ed_rV S hK hM (c_X5_copiesOf _ D cy B μ j hj x3 (-1) 1 σ r5 hq5) (cwV 3 S.2.2.2.2 (ed_gV ed_w3_195 ed_w3_109 ed_w3_110 ed_w1_2 ed_w3_111) rfl rfl rfl hd_X5_copiesOf ⟨Nat.le_of_ble_eq_true rfl, Nat.le_of_ble_eq_true rfl⟩) (ed_rc (q := (RX5, TX5, 11)) (r := (σ 0 0)) hK hM (ed_v0 hj 0) (ed_sJr μ j σ 0 0) (ed_e0 cy B j 0 _) rfl) rfl hl.1 rfl (Nat.le_of_ble_eq_true rfl) dX5_copiesInUseBy_38 ⟨Nat.zero_le _, Nat.zero_le _⟩) hS (fun H locs hM hS => ?_)
          refine lv_iadd S.1 S.2.1 dX5_copiesInUseBy_41 ?_
          refine lv_istore_n (lv' := [(2, .int (x2 + r5)), (4, .ref (B + ed_oF j 7 n2q)), (0, .ref (B + ed_oF j 0 0)), (1, .int x1), (3, .int x3)]) S.1 S.2.1 dX5_copiesInUseBy_42 rfl hl (by decide) rfl (fun ls hl => ?_)
          refine lv_iinc (v := x3 + 1) (lv' := [(3, .int (x3 + 1)), (2, .int (x2 + r5)), (4, .ref (B + ed_oF j 7 n2q)), (0, .ref (B + ed_oF j 0 0)), (1, .int x1)]) S.1 S.2.1 dX5_copiesInUseBy_43 hl (k := 4) rfl rfl (by decide) rfl (fun ls hl => ?_)
          refine lv_goto (tgt := 4) S.1 S.2.1 dX5_copiesInUseBy_46 (by decide) ?_
          exact ih x1 (x2 + r5) (x3 + 1) hf _ _ _ hM hS (lv_sub hl [3, 4, 1, 0] rfl)
set_option maxHeartbeats 4000000 in
set_option maxRecDepth 100000 in
theorem c_X5_copiesInUseBy (l : Launch) (D : va_G) (cy : Nat → ClassId) (B : Nat) (μ : ed_CM) (j : Nat) (hj : j < 7) (x1 : Int32) (σ : ed_SM) (r : Int32) (hf : f_X5_copiesInUseBy x1 σ = some r) :
    Met l yX5_copiesInUseBy wsX5_copiesInUseBy rmX5_copiesInUseBy (ed_pC D cy (ed_P D cy B (ed_sJ μ j σ)) [.ref (B + ed_oF j 0 0), .int x1]) (ed_qI (ed_A B) (ed_P D cy B (ed_sJ μ j σ)) r) 0 0 (ed_A B) := by
  refine Met.ofW (cc := cX5_copiesInUseBy) (maxL := 5) (ret := (some .int)) (by decide) rfl ?_
  intro p e s m args below meth c s₁ B0 hml hv
  obtain ⟨rfl, hM, hK⟩ := hv
  have S : CallFix p m c cX5_copiesInUseBy 5 s _ ed_ws RX5 := ⟨B0.exec, B0.bytes, hml, findClass_of_methodNamed B0.named, fun w hw => atoms_spec (ws := wsX5_copiesInUseBy) B0.pre w (List.mem_cons_of_mem _ hw)⟩
  have hr := B0.returns
  have hlocks := B0.notSynchronized
  have hS : va_S (ed_A B) s.heap s.heap [] := va_S.rf
  have hl := lv_entry ([.ref (B + ed_oF j 0 0), .int x1]) (n := 5) (Nat.le_of_ble_eq_true rfl)
  rw [lg_entry_eq]
  generalize (lg_sl ([.ref (B + ed_oF j 0 0), .int x1]) ++ List.replicate (5 - (lg_sl ([.ref (B + ed_oF j 0 0), .int x1])).length) Slot.unset).toArray = ls at hl ⊢
  have hl : lv_has ls 5 [(0, .ref (B + ed_oF j 0 0)), (1, .int x1)] := hl
  unfold f_X5_copiesInUseBy at hf
  refine lv_iconst (v := 0) S.1 S.2.1 dX5_copiesInUseBy_0 (by decide) ?_
  refine lv_istore_n (lv' := [(2, .int 0), (0, .ref (B + ed_oF j 0 0)), (1, .int x1)]) S.1 S.2.1 dX5_copiesInUseBy_1 rfl hl (by decide) rfl (fun ls hl => ?_)
  refine lv_iconst (v := 0) S.1 S.2.1 dX5_copiesInUseBy_2 (by decide) ?_
  refine lv_istore_n (lv' := [(3, .int 0), (2, .int 0), (0, .ref (B + ed_oF j 0 0)), (1, .int x1)]) S.1 S.2.1 dX5_copiesInUseBy_3 rfl hl (by decide) rfl (fun ls hl => ?_)
  exact w_X5_copiesInUseBy_4 hj S hr hlocks hK σ r ed_N x1 0 0 hf _ _ _ hM hS (lv_sub hl [2, 3, 1, 0] rfl)
set_option maxHeartbeats 4000000 in
set_option maxRecDepth 100000 in
theorem w_X5_authors_4 {p : Program} {l : Launch} {e : Env} {s : State} {m : MethodId} {args : Array Value} {below : List Frame} {meth : Method} {c : Code} {D : va_G} {cy : Nat → ClassId} {B : Nat} {μ : ed_CM} {j : Nat} (hj : j < 7) (S : CallFix p m c cX5_authors 3 s args ed_ws RX5) (hr : meth.sig.returnType = (some .int)) (hlocks : meth.locks = false) (hK : ed_K D cy s) (σ : ed_SM) (r : Int32) :
    ∀ (n : Nat), ∀ (x1 x2 : Int32), f_X5_authors_4 σ n x1 x2 = some r → ∀ (H : Heap) (locs : List Loc) (ls : Array Slot), ed_P D cy B (ed_sJ μ j σ) H → va_S (ed_A B) s.heap H locs → lv_has ls 3 [(0, .ref (B + ed_oF j 0 0)), (1, .int x1), (2, .int x2)] → W p l e (headSpec wsX5_authors rmX5_authors).room s m args below meth c H locs 0 0 (MQ below (ed_qI (ed_A B) (ed_P D cy B (ed_sJ μ j σ)) r) args s 0 0 (ed_A B)) (F0 m 4 ls []) := by
  intro n
  induction n with
  | zero => intro x1 x2 hf; rw [f_X5_authors_4] at hf; cases hf
  | succ n ih =>
    intro x1 x2 hf H locs ls hM hS hl
    rw [f_X5_authors_4] at hf
    refine lv_iload_n S.1 S.2.1 dX5_authors_4 rfl (lv_at hl 2 rfl) ?_
    refine lv_bipush (v := 10) S.1 S.2.1 dX5_authors_5 (by decide) ?_
    refine lv_icmp_ge (tgt := 27) S.1 S.2.1 dX5_authors_7 (by decide) (fun c1 => ?_) (fun c1 => ?_)
    · replace hf := ed_ip c1 hf
      refine lv_iload_n S.1 S.2.1 dX5_authors_27 rfl (lv_at hl 1 rfl) ?_
      obtain rfl := Option.some.inj hf
      exact ed_ri S hr hlocks hM hS dX5_authors_28
    · replace hf := ed_in_ c1 hf
      refine lv_aload_n S.1 S.2.1 dX5_authors_10 rfl (lv_at hl 0 rfl) ?_
      refine lv_iload_n S.1 S.2.1 dX5_authors_11 rfl (lv_at hl 2 rfl) ?_
      obtain ⟨r2, hq2, hf⟩ := ed_b_e hf
      refine ed_kI (ed_rV S hK hM (c_X5_storiesBy _ D cy B μ j hj x2 σ r2 hq2) (cwV 1 S.2.2.2.2 (ed_gV ed_w3_127 ed_w3_128 ed_w3_129 ed_w1_2 ed_w3_130) rfl rfl rfl hd_X5_storiesBy ⟨Nat.le_of_ble_eq_true rfl, Nat.le_of_ble_eq_true rfl⟩) (ed_rc (q := (RX5, TX5, 11)) (r := (σ 0 0)) hK hM (ed_v0 hj 0) (ed_sJr μ j σ 0 0) (ed_e0 cy B j 0 _) rfl) rfl hl.1 rfl (Nat.le_of_ble_eq_true rfl) dX5_authors_12 ⟨Nat.zero_le _, Nat.zero_le _⟩) hS (fun H locs hM hS => ?_)
      refine lv_if_le (tgt := 21) S.1 S.2.1 dX5_authors_15 (by decide) (fun c3 => ?_) (fun c3 => ?_)
      · replace hf := ed_ip c3 hf
        refine lv_iinc (v := x2 + 1) (lv' := [(2, .int (x2 + 1)), (0, .ref (B + ed_oF j 0 0)), (1, .int x1)]) S.1 S.2.1 dX5_authors_21 hl (k := 2) rfl rfl (by decide) rfl (fun ls hl => ?_)
        refine lv_goto (tgt := 4) S.1 S.2.1 dX5_authors_24 (by decide) ?_
        exact ih x1 (x2 + 1) hf _ _ _ hM hS (lv_sub hl [1, 2, 0] rfl)
      · replace hf := ed_in_ c3 hf
        refine lv_iinc (v := x1 + 1) (lv' := [(1, .int (x1 + 1)), (0, .ref (B + ed_oF j 0 0)), (2, .int x2)]) S.1 S.2.1 dX5_authors_18 hl (k := 1) rfl rfl (by decide) rfl (fun ls hl => ?_)
        refine lv_iinc (v := x2 + 1) (lv' := [(2, .int (x2 + 1)), (1, .int (x1 + 1)), (0, .ref (B + ed_oF j 0 0))]) S.1 S.2.1 dX5_authors_21 hl (k := 2) rfl rfl (by decide) rfl (fun ls hl => ?_)
        refine lv_goto (tgt := 4) S.1 S.2.1 dX5_authors_24 (by decide) ?_
        exact ih (x1 + 1) (x2 + 1) hf _ _ _ hM hS (lv_sub hl [2, 1, 0] rfl)
set_option maxHeartbeats 4000000 in
set_option maxRecDepth 100000 in
theorem c_X5_authors (l : Launch) (D : va_G) (cy : Nat → ClassId) (B : Nat) (μ : ed_CM) (j : Nat) (hj : j < 7) (σ : ed_SM) (r : Int32) (hf : f_X5_authors σ = some r) :
    Met l yX5_authors wsX5_authors rmX5_authors (ed_pC D cy (ed_P D cy B (ed_sJ μ j σ)) [.ref (B + ed_oF j 0 0)]) (ed_qI (ed_A B) (ed_P D cy B (ed_sJ μ j σ)) r) 0 0 (ed_A B) := by
  refine Met.ofW (cc := cX5_authors) (maxL := 3) (ret := (some .int)) (by decide) rfl ?_
  intro p e s m args below meth c s₁ B0 hml hv
  obtain ⟨rfl, hM, hK⟩ := hv
  have S : CallFix p m c cX5_authors 3 s _ ed_ws RX5 := ⟨B0.exec, B0.bytes, hml, findClass_of_methodNamed B0.named, fun w hw => atoms_spec (ws := wsX5_authors) B0.pre w (List.mem_cons_of_mem _ hw)⟩
  have hr := B0.returns
  have hlocks := B0.notSynchronized
  have hS : va_S (ed_A B) s.heap s.heap [] := va_S.rf
  have hl := lv_entry ([.ref (B + ed_oF j 0 0)]) (n := 3) (Nat.le_of_ble_eq_true rfl)
  rw [lg_entry_eq]
  generalize (lg_sl ([.ref (B + ed_oF j 0 0)]) ++ List.replicate (3 - (lg_sl ([.ref (B + ed_oF j 0 0)])).length) Slot.unset).toArray = ls at hl ⊢
  have hl : lv_has ls 3 [(0, .ref (B + ed_oF j 0 0))] := hl
  unfold f_X5_authors at hf
  refine lv_iconst (v := 0) S.1 S.2.1 dX5_authors_0 (by decide) ?_
  refine lv_istore_n (lv' := [(1, .int 0), (0, .ref (B + ed_oF j 0 0))]) S.1 S.2.1 dX5_authors_1 rfl hl (by decide) rfl (fun ls hl => ?_)
  refine lv_iconst (v := 0) S.1 S.2.1 dX5_authors_2 (by decide) ?_
  refine lv_istore_n (lv' := [(2, .int 0), (1, .int 0), (0, .ref (B + ed_oF j 0 0))]) S.1 S.2.1 dX5_authors_3 rfl hl (by decide) rfl (fun ls hl => ?_)
  exact w_X5_authors_4 hj S hr hlocks hK σ r ed_N 0 0 hf _ _ _ hM hS (lv_sub hl [2, 1, 0] rfl)
