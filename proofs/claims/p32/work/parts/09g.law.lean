/-! the law's own method (laid by wip/p32/gen/gen_w.py) -/
theorem la_fin {p : Program} {l : Launch} {e : Env} {s : State} {m : MethodId} {below : List Frame} {meth : Method} {c : Code} {B b : Nat} {H : Heap} {locs : List Loc} {ls : Array Slot} {c0 s0 : Nat} (S : CallFix p m c cL_law 10 s #[Value.ref b] ed_ws RL) (hret : meth.sig.returnType = ret) (hlocks : meth.locks = false) (hB : s.heap.size = B) (hS : va_S (ec_A B) s.heap H locs) (hc : c0 ≤ 606958) (hs : s0 ≤ 7281374) : W p l e room_1 s m #[Value.ref b] below meth c H locs c0 s0 (lw_Z below #[Value.ref b] s) (F0 m 400 ls [.int 1]) := by
  refine W.widen (k := 606958) (n := 7281374) hc hs ?_
  refine va_forget (fun y hy => by rw [hB]; exact hS.2.2 y hy) ?_
  exact lw_ret S.1 S.2.1 hret hlocks dL_law_400
def f_L_law_289 (xs : Nat → Int32) (L : Nat) (x3 : Int32) (x4 : Int32) (μ : ed_CM) : Option Int32 :=
    ed_b (f_X8_count 0 μ) (fun r6 => ed_b (f_X8_count 5 μ) (fun r7 => (if x3 = 0 then some 0 else ed_b2 (f_X8_keep μ) (fun r9 μ9 => (if r9 = r6 then ed_b2 (f_X8_pass 30 μ9) (fun r11 μ11 => (if r11 < 0 then some 0 else ed_b2 (f_X8_undo μ11) (fun r13 μ13 => (if r13 < 0 then some 0 else ed_b (f_X8_count 5 μ13) (fun r15 => (if r15 = r7 then ed_b2 (f_X8_pass 2 μ13) (fun r17 μ17 => (if r17 < 0 then some 0 else ed_b2 (f_X8_restore μ17) (fun r19 μ19 => (if r19 = r6 then ed_b (f_X8_count 5 μ19) (fun r21 => (if r21 = r7 then ed_b (f_L_copies μ19) (fun r23 => (if r23 = 0 then some 0 else ed_b (f_L_money x4 μ19) (fun r25 => (if r25 = 0 then some 0 else some 1)))) else some 0)) else some 0)))) else some 0)))))) else some 0)))))
def f_L_law_248 (k139 : Int32 → Int32 → Int32 → ed_CM → Option Int32) (xs : Nat → Int32) (L : Nat) (x3 : Int32) (x4 : Int32) (x5 : Int32) (x6 : Int32) (μ : ed_CM) : Option Int32 :=
    (if x3 = 0 then k139 0 x4 (x5 + 1) μ else ed_b2 (f_L_acts x6 μ) (fun r35 μ35 => (if r35 = 0 then k139 0 x4 (x5 + 1) μ35 else ed_b (f_L_copies μ35) (fun r37 => (if r37 = 0 then k139 0 x4 (x5 + 1) μ35 else ed_b (f_L_money x4 μ35) (fun r39 => (if r39 = 0 then k139 0 x4 (x5 + 1) μ35 else k139 1 x4 (x5 + 1) μ35)))))))
def f_L_law_139 (xs : Nat → Int32) (L : Nat) : Nat → Int32 → Int32 → Int32 → ed_CM → Option Int32
  | 0, _, _, _, _ => none
  | n + 1, x3, x4, x5, μ =>
    (if 40 ≤ x5 then f_L_law_289 xs L x3 x4 μ else (if x3 = 0 then f_L_law_289 xs L x3 x4 μ else ed_b (f_L_cell xs L ((6 : Int32) + x5 : Int32)) (fun r28 => ed_b (f_X8_count 1 μ) (fun r29 => ed_g (¬ r29 = 0) ( ed_t (r28 - r28 / r29 * r29 : Int32) (fun y31 => ed_t ((1 : Int32) + ((r28 >>> ((8 : Int32) &&& 31) : Int32) - (r28 >>> ((8 : Int32) &&& 31) : Int32) / 2000 * 2000 : Int32) : Int32) (fun y32 => (if ((r28 >>> ((3 : Int32) &&& 31) : Int32) &&& (15 : Int32) : Int32) = 7 then ed_b (f_X8_client y31 6 μ) (fun r41 => (if r41 < y32 then f_L_law_248 (fun a0 a1 a2 a3 => f_L_law_139 xs L n a0 a1 a2 a3) xs L x3 x4 x5 r28 μ else ed_b (f_X8_client y31 6 μ) (fun r43 => ed_b2 (f_X8_pay y31 y32 μ) (fun r44 μ44 => (if r44 = (r43 - y32 : Int32) then f_L_law_248 (fun a0 a1 a2 a3 => f_L_law_139 xs L n a0 a1 a2 a3) xs L 1 (x4 + y32 : Int32) x5 r28 μ44 else f_L_law_248 (fun a0 a1 a2 a3 => f_L_law_139 xs L n a0 a1 a2 a3) xs L 0 (x4 + y32 : Int32) x5 r28 μ44))))) else f_L_law_248 (fun a0 a1 a2 a3 => f_L_law_139 xs L n a0 a1 a2 a3) xs L x3 x4 x5 r28 μ))))))))
def f_L_law_46 (xs : Nat → Int32) (L : Nat) : Nat → Int32 → Int32 → Int32 → ed_CM → Option Int32
  | 0, _, _, _, _ => none
  | n + 1, x2, x3, x4, μ =>
    (if ((2 : Int32) + ((x2 >>> ((3 : Int32) &&& 31) : Int32) - (x2 >>> ((3 : Int32) &&& 31) : Int32) / 3 * 3 : Int32) : Int32) ≤ x4 then f_L_law_139 xs L ed_N x3 0 0 μ else (if x3 = 0 then f_L_law_139 xs L ed_N x3 0 0 μ else ed_b (f_L_cell xs L ((1 : Int32) + x4 : Int32)) (fun r47 => ed_b2 (f_X8_addClient ((1 : Int32) + (r47 - r47 / 7 * 7 : Int32) : Int32) ((r47 >>> ((3 : Int32) &&& 31) : Int32) - (r47 >>> ((3 : Int32) &&& 31) : Int32) / 6 * 6 : Int32) ((r47 >>> ((6 : Int32) &&& 31) : Int32) - (r47 >>> ((6 : Int32) &&& 31) : Int32) / 9 * 9 : Int32) ((1 : Int32) + ((r47 >>> ((10 : Int32) &&& 31) : Int32) - (r47 >>> ((10 : Int32) &&& 31) : Int32) / 4 * 4 : Int32) : Int32) ((r47 >>> ((12 : Int32) &&& 31) : Int32) - (r47 >>> ((12 : Int32) &&& 31) : Int32) / 9000 * 9000 : Int32) μ) (fun r48 μ48 => (if r48 = x4 then f_L_law_46 xs L n x2 1 (x4 + 1) μ48 else f_L_law_46 xs L n x2 0 (x4 + 1) μ48)))))
def f_L_law_8 (xs : Nat → Int32) (L : Nat) (μ : ed_CM) : Option Int32 :=
    ed_b (f_L_cell xs L 0) (fun r1 => ed_b2 (f_X8_readStory μ) (fun r2 μ2 => (if r2 = (-100) then ed_b2 (f_X8_setUse ((1 : Int32) + (r1 - r1 / 4 * 4 : Int32) : Int32) μ2) (fun r50 μ50 => (if r50 = (-2) then f_L_law_46 xs L ed_N r1 0 0 μ50 else f_L_law_46 xs L ed_N r1 1 0 μ50)) else f_L_law_46 xs L ed_N r1 0 0 μ2)))
set_option maxHeartbeats 4000000 in
set_option maxRecDepth 100000 in
theorem w_L_law_289 {p : Program} {l : Launch} {e : Env} {s : State} {m : MethodId} {below : List Frame} {meth : Method} {c : Code} {D : va_G} {cy : Nat → ClassId} {B b L : Nat} {xs : Nat → Int32} (S : CallFix p m c cL_law 10 s #[Value.ref b] ed_ws RL) (hret : meth.sig.returnType = ret) (hlocks : meth.locks = false) (hK : ed_K D cy s) (hX : va_X b L xs s s.heap) (hbl : b < s.heap.size) (hB : s.heap.size = B) (hL : L < 2 ^ 31) {c0 s0 : Nat} (hc : c0 + 3 ≤ 606958) (hs : s0 + 33 ≤ 7281374) :
    ∀ (x3 x4 : Int32) (μ : ed_CM), f_L_law_289 xs L x3 x4 μ = some 1 → ∀ (H : Heap) (locs : List Loc) (ls : Array Slot), ed_P D cy B μ H → va_S (ec_A B) s.heap H locs → lv_has ls 10 [(1, .ref (B + ed_oF 7 14 0)), (3, .int x3), (4, .int x4)] → W p l e room_1 s m #[Value.ref b] below meth c H locs c0 s0 (lw_Z below #[Value.ref b] s) (F0 m 289 ls []) := by
  have hbB : b < B := by omega
  intro x3 x4 μ hf H locs ls hM hS hl
  unfold f_L_law_289 at hf
  refine lv_aload_n S.1 S.2.1 dL_law_289 rfl (lv_at hl 0 rfl) ?_
  refine lv_iconst (v := 0) S.1 S.2.1 dL_law_290 (by decide) ?_
  obtain ⟨r6, hq6, hf⟩ := ed_b_e hf
  refine la_kC (ed_rV S hK hM (c_X8_count _ D cy B 0 μ r6 hq6) (cwV 1 S.2.2.2.2 (ed_gV ed_w3_115 ed_w3_116 ed_w3_117 ed_w1_1 ed_w3_118) rfl rfl rfl hd_X8_count ⟨Nat.le_of_ble_eq_true rfl, Nat.le_of_ble_eq_true rfl⟩) (ed_rc (q := (RX8, TX8, 6)) (r := (μ 7 14 0)) hK hM ed_v14 rfl (ed_e14 cy B 7 0 _) rfl) rfl hl.1 rfl (Nat.le_of_ble_eq_true rfl) dL_law_291 ⟨la_c (by omega), la_s (by omega)⟩) hS (fun H locs hM hS => ?_)
  refine lv_istore (lv' := [(5, .int r6), (1, .ref (B + ed_oF 7 14 0)), (3, .int x3), (4, .int x4)]) S.1 S.2.1 dL_law_294 hl (by decide) rfl (fun ls hl => ?_)
  refine lv_aload_n S.1 S.2.1 dL_law_296 rfl (lv_at hl 1 rfl) ?_
  refine lv_iconst (v := 5) S.1 S.2.1 dL_law_297 (by decide) ?_
  obtain ⟨r7, hq7, hf⟩ := ed_b_e hf
  refine la_kC (ed_rV S hK hM (c_X8_count _ D cy B 5 μ r7 hq7) (cwV 1 S.2.2.2.2 (ed_gV ed_w3_115 ed_w3_116 ed_w3_117 ed_w1_1 ed_w3_118) rfl rfl rfl hd_X8_count ⟨Nat.le_of_ble_eq_true rfl, Nat.le_of_ble_eq_true rfl⟩) (ed_rc (q := (RX8, TX8, 6)) (r := (μ 7 14 0)) hK hM ed_v14 rfl (ed_e14 cy B 7 0 _) rfl) rfl hl.1 rfl (Nat.le_of_ble_eq_true rfl) dL_law_298 ⟨la_c (by omega), la_s (by omega)⟩) hS (fun H locs hM hS => ?_)
  refine lv_istore (lv' := [(6, .int r7), (5, .int r6), (1, .ref (B + ed_oF 7 14 0)), (3, .int x3), (4, .int x4)]) S.1 S.2.1 dL_law_301 hl (by decide) rfl (fun ls hl => ?_)
  refine lv_iload_n S.1 S.2.1 dL_law_303 rfl (lv_at hl 3 rfl) ?_
  refine lv_if_eq (tgt := 363) S.1 S.2.1 dL_law_304 (by decide) (fun c8 => ?_) (fun c8 => ?_)
  · replace hf := ed_ip c8 hf
    refine lv_iconst (v := 0) S.1 S.2.1 dL_law_363 (by decide) ?_
    refine lv_istore_n (lv' := [(3, .int 0), (6, .int r7), (5, .int r6), (1, .ref (B + ed_oF 7 14 0)), (4, .int x4)]) S.1 S.2.1 dL_law_364 rfl hl (by decide) rfl (fun ls hl => ?_)
    refine lv_iload_n S.1 S.2.1 dL_law_365 rfl (lv_at hl 0 rfl) ?_
    refine lv_if_eq (tgt := 399) S.1 S.2.1 dL_law_366 (by decide) (fun _ => ?_) (fun c => absurd c (by decide))
    refine lv_iconst (v := 0) S.1 S.2.1 dL_law_399 (by decide) ?_
    exact absurd (Option.some.inj hf) (by decide)
  · replace hf := ed_in_ c8 hf
    refine lv_aload_n S.1 S.2.1 dL_law_307 rfl (lv_at hl 2 rfl) ?_
    obtain ⟨r9, μ9, hq9, hf⟩ := ed_b2_e hf
    refine la_kC (ed_rV S hK hM (c_X8_keep _ D cy B μ r9 μ9 hq9) (cwV 0 S.2.2.2.2 (ed_gV ed_w3_95 ed_w3_96 ed_w3_97 ed_w1_1 ed_w3_98) rfl rfl rfl hd_X8_keep ⟨Nat.le_of_ble_eq_true rfl, Nat.le_of_ble_eq_true rfl⟩) (ed_rc (q := (RX8, TX8, 6)) (r := (μ 7 14 0)) hK hM ed_v14 rfl (ed_e14 cy B 7 0 _) rfl) rfl hl.1 rfl (Nat.le_of_ble_eq_true rfl) dL_law_308 ⟨la_c (by omega), la_s (by omega)⟩) hS (fun H locs hM hS => ?_)
    refine lv_iload S.1 S.2.1 dL_law_311 (lv_at hl 1 rfl) ?_
    refine lv_icmp_ne (tgt := 363) S.1 S.2.1 dL_law_313 (by decide) (fun c10 => ?_) (fun c10 => ?_)
    · replace hf := ed_in_ c10 hf
      refine lv_iconst (v := 0) S.1 S.2.1 dL_law_363 (by decide) ?_
      refine lv_istore_n (lv' := [(3, .int 0), (6, .int r7), (5, .int r6), (1, .ref (B + ed_oF 7 14 0)), (4, .int x4)]) S.1 S.2.1 dL_law_364 rfl hl (by decide) rfl (fun ls hl => ?_)
      refine lv_iload_n S.1 S.2.1 dL_law_365 rfl (lv_at hl 0 rfl) ?_
      refine lv_if_eq (tgt := 399) S.1 S.2.1 dL_law_366 (by decide) (fun _ => ?_) (fun c => absurd c (by decide))
      refine lv_iconst (v := 0) S.1 S.2.1 dL_law_399 (by decide) ?_
      exact absurd (Option.some.inj hf) (by decide)
    · replace hf := ed_ip c10 hf
      refine lv_aload_n S.1 S.2.1 dL_law_316 rfl (lv_at hl 2 rfl) ?_
      refine lv_bipush (v := 30) S.1 S.2.1 dL_law_317 (by decide) ?_
      obtain ⟨r11, μ11, hq11, hf⟩ := ed_b2_e hf
      refine la_kC (ed_rV S hK hM (c_X8_pass _ D cy B 30 μ9 r11 μ11 hq11) (cwV 1 S.2.2.2.2 (ed_gV ed_w2_237 ed_w2_238 ed_w2_239 ed_w1_1 ed_w3_0) rfl rfl rfl hd_X8_pass ⟨Nat.le_of_ble_eq_true rfl, Nat.le_of_ble_eq_true rfl⟩) (ed_rc (q := (RX8, TX8, 6)) (r := (μ9 7 14 0)) hK hM ed_v14 rfl (ed_e14 cy B 7 0 _) rfl) rfl hl.1 rfl (Nat.le_of_ble_eq_true rfl) dL_law_319 ⟨la_c (by omega), la_s (by omega)⟩) hS (fun H locs hM hS => ?_)
      refine lv_if_lt (tgt := 363) S.1 S.2.1 dL_law_322 (by decide) (fun c12 => ?_) (fun c12 => ?_)
      · replace hf := ed_ip c12 hf
        refine lv_iconst (v := 0) S.1 S.2.1 dL_law_363 (by decide) ?_
        refine lv_istore_n (lv' := [(3, .int 0), (6, .int r7), (5, .int r6), (1, .ref (B + ed_oF 7 14 0)), (4, .int x4)]) S.1 S.2.1 dL_law_364 rfl hl (by decide) rfl (fun ls hl => ?_)
        refine lv_iload_n S.1 S.2.1 dL_law_365 rfl (lv_at hl 0 rfl) ?_
        refine lv_if_eq (tgt := 399) S.1 S.2.1 dL_law_366 (by decide) (fun _ => ?_) (fun c => absurd c (by decide))
        refine lv_iconst (v := 0) S.1 S.2.1 dL_law_399 (by decide) ?_
        exact absurd (Option.some.inj hf) (by decide)
      · replace hf := ed_in_ c12 hf
        refine lv_aload_n S.1 S.2.1 dL_law_325 rfl (lv_at hl 2 rfl) ?_
        obtain ⟨r13, μ13, hq13, hf⟩ := ed_b2_e hf
        refine la_kC (ed_rV S hK hM (c_X8_undo _ D cy B μ11 r13 μ13 hq13) (cwV 0 S.2.2.2.2 (ed_gV ed_w3_87 ed_w3_88 ed_w3_89 ed_w1_1 ed_w3_90) rfl rfl rfl hd_X8_undo ⟨Nat.le_of_ble_eq_true rfl, Nat.le_of_ble_eq_true rfl⟩) (ed_rc (q := (RX8, TX8, 6)) (r := (μ11 7 14 0)) hK hM ed_v14 rfl (ed_e14 cy B 7 0 _) rfl) rfl hl.1 rfl (Nat.le_of_ble_eq_true rfl) dL_law_326 ⟨la_c (by omega), la_s (by omega)⟩) hS (fun H locs hM hS => ?_)
        refine lv_if_lt (tgt := 363) S.1 S.2.1 dL_law_329 (by decide) (fun c14 => ?_) (fun c14 => ?_)
        · replace hf := ed_ip c14 hf
          refine lv_iconst (v := 0) S.1 S.2.1 dL_law_363 (by decide) ?_
          refine lv_istore_n (lv' := [(3, .int 0), (6, .int r7), (5, .int r6), (1, .ref (B + ed_oF 7 14 0)), (4, .int x4)]) S.1 S.2.1 dL_law_364 rfl hl (by decide) rfl (fun ls hl => ?_)
          refine lv_iload_n S.1 S.2.1 dL_law_365 rfl (lv_at hl 0 rfl) ?_
          refine lv_if_eq (tgt := 399) S.1 S.2.1 dL_law_366 (by decide) (fun _ => ?_) (fun c => absurd c (by decide))
          refine lv_iconst (v := 0) S.1 S.2.1 dL_law_399 (by decide) ?_
          exact absurd (Option.some.inj hf) (by decide)
        · replace hf := ed_in_ c14 hf
          refine lv_aload_n S.1 S.2.1 dL_law_332 rfl (lv_at hl 2 rfl) ?_
          refine lv_iconst (v := 5) S.1 S.2.1 dL_law_333 (by decide) ?_
          obtain ⟨r15, hq15, hf⟩ := ed_b_e hf
          refine la_kC (ed_rV S hK hM (c_X8_count _ D cy B 5 μ13 r15 hq15) (cwV 1 S.2.2.2.2 (ed_gV ed_w3_115 ed_w3_116 ed_w3_117 ed_w1_1 ed_w3_118) rfl rfl rfl hd_X8_count ⟨Nat.le_of_ble_eq_true rfl, Nat.le_of_ble_eq_true rfl⟩) (ed_rc (q := (RX8, TX8, 6)) (r := (μ13 7 14 0)) hK hM ed_v14 rfl (ed_e14 cy B 7 0 _) rfl) rfl hl.1 rfl (Nat.le_of_ble_eq_true rfl) dL_law_334 ⟨la_c (by omega), la_s (by omega)⟩) hS (fun H locs hM hS => ?_)
          refine lv_iload S.1 S.2.1 dL_law_337 (lv_at hl 0 rfl) ?_
          refine lv_icmp_ne (tgt := 363) S.1 S.2.1 dL_law_339 (by decide) (fun c16 => ?_) (fun c16 => ?_)
          · replace hf := ed_in_ c16 hf
            refine lv_iconst (v := 0) S.1 S.2.1 dL_law_363 (by decide) ?_
            refine lv_istore_n (lv' := [(3, .int 0), (6, .int r7), (5, .int r6), (1, .ref (B + ed_oF 7 14 0)), (4, .int x4)]) S.1 S.2.1 dL_law_364 rfl hl (by decide) rfl (fun ls hl => ?_)
            refine lv_iload_n S.1 S.2.1 dL_law_365 rfl (lv_at hl 0 rfl) ?_
            refine lv_if_eq (tgt := 399) S.1 S.2.1 dL_law_366 (by decide) (fun _ => ?_) (fun c => absurd c (by decide))
            refine lv_iconst (v := 0) S.1 S.2.1 dL_law_399 (by decide) ?_
            exact absurd (Option.some.inj hf) (by decide)
          · replace hf := ed_ip c16 hf
            refine lv_aload_n S.1 S.2.1 dL_law_342 rfl (lv_at hl 2 rfl) ?_
            refine lv_iconst (v := 2) S.1 S.2.1 dL_law_343 (by decide) ?_
            obtain ⟨r17, μ17, hq17, hf⟩ := ed_b2_e hf
            refine la_kC (ed_rV S hK hM (c_X8_pass _ D cy B 2 μ13 r17 μ17 hq17) (cwV 1 S.2.2.2.2 (ed_gV ed_w2_237 ed_w2_238 ed_w2_239 ed_w1_1 ed_w3_0) rfl rfl rfl hd_X8_pass ⟨Nat.le_of_ble_eq_true rfl, Nat.le_of_ble_eq_true rfl⟩) (ed_rc (q := (RX8, TX8, 6)) (r := (μ13 7 14 0)) hK hM ed_v14 rfl (ed_e14 cy B 7 0 _) rfl) rfl hl.1 rfl (Nat.le_of_ble_eq_true rfl) dL_law_344 ⟨la_c (by omega), la_s (by omega)⟩) hS (fun H locs hM hS => ?_)
            refine lv_if_lt (tgt := 363) S.1 S.2.1 dL_law_347 (by decide) (fun c18 => ?_) (fun c18 => ?_)
            · replace hf := ed_ip c18 hf
              refine lv_iconst (v := 0) S.1 S.2.1 dL_law_363 (by decide) ?_
              refine lv_istore_n (lv' := [(3, .int 0), (6, .int r7), (5, .int r6), (1, .ref (B + ed_oF 7 14 0)), (4, .int x4)]) S.1 S.2.1 dL_law_364 rfl hl (by decide) rfl (fun ls hl => ?_)
              refine lv_iload_n S.1 S.2.1 dL_law_365 rfl (lv_at hl 0 rfl) ?_
              refine lv_if_eq (tgt := 399) S.1 S.2.1 dL_law_366 (by decide) (fun _ => ?_) (fun c => absurd c (by decide))
              refine lv_iconst (v := 0) S.1 S.2.1 dL_law_399 (by decide) ?_
              exact absurd (Option.some.inj hf) (by decide)
            · replace hf := ed_in_ c18 hf
              refine lv_aload_n S.1 S.2.1 dL_law_350 rfl (lv_at hl 2 rfl) ?_
              obtain ⟨r19, μ19, hq19, hf⟩ := ed_b2_e hf
              refine la_kC (ed_rV S hK hM (c_X8_restore _ D cy B μ17 r19 μ19 hq19) (cwV 0 S.2.2.2.2 (ed_gV ed_w3_100 ed_w3_101 ed_w3_102 ed_w1_1 ed_w3_103) rfl rfl rfl hd_X8_restore ⟨Nat.le_of_ble_eq_true rfl, Nat.le_of_ble_eq_true rfl⟩) (ed_rc (q := (RX8, TX8, 6)) (r := (μ17 7 14 0)) hK hM ed_v14 rfl (ed_e14 cy B 7 0 _) rfl) rfl hl.1 rfl (Nat.le_of_ble_eq_true rfl) dL_law_351 ⟨la_c (by omega), la_s (by omega)⟩) hS (fun H locs hM hS => ?_)
              refine lv_iload S.1 S.2.1 dL_law_354 (lv_at hl 1 rfl) ?_
              refine lv_icmp_ne (tgt := 363) S.1 S.2.1 dL_law_356 (by decide) (fun c20 => ?_) (fun c20 => ?_)
              · replace hf := ed_in_ c20 hf
                refine lv_iconst (v := 0) S.1 S.2.1 dL_law_363 (by decide) ?_
                refine lv_istore_n (lv' := [(3, .int 0), (6, .int r7), (5, .int r6), (1, .ref (B + ed_oF 7 14 0)), (4, .int x4)]) S.1 S.2.1 dL_law_364 rfl hl (by decide) rfl (fun ls hl => ?_)
                refine lv_iload_n S.1 S.2.1 dL_law_365 rfl (lv_at hl 0 rfl) ?_
                refine lv_if_eq (tgt := 399) S.1 S.2.1 dL_law_366 (by decide) (fun _ => ?_) (fun c => absurd c (by decide))
                refine lv_iconst (v := 0) S.1 S.2.1 dL_law_399 (by decide) ?_
                exact absurd (Option.some.inj hf) (by decide)
              · replace hf := ed_ip c20 hf
                refine lv_iconst (v := 1) S.1 S.2.1 dL_law_359 (by decide) ?_
                refine lv_goto (tgt := 364) S.1 S.2.1 dL_law_360 (by decide) ?_
                refine lv_istore_n (lv' := [(3, .int 1), (6, .int r7), (5, .int r6), (1, .ref (B + ed_oF 7 14 0)), (4, .int x4)]) S.1 S.2.1 dL_law_364 rfl hl (by decide) rfl (fun ls hl => ?_)
                refine lv_iload_n S.1 S.2.1 dL_law_365 rfl (lv_at hl 0 rfl) ?_
                refine lv_if_eq (tgt := 399) S.1 S.2.1 dL_law_366 (by decide) (fun c => absurd c (by decide)) (fun _ => ?_)
                refine lv_aload_n S.1 S.2.1 dL_law_369 rfl (lv_at hl 3 rfl) ?_
                refine lv_iconst (v := 5) S.1 S.2.1 dL_law_370 (by decide) ?_
                obtain ⟨r21, hq21, hf⟩ := ed_b_e hf
                refine la_kC (ed_rV S hK hM (c_X8_count _ D cy B 5 μ19 r21 hq21) (cwV 1 S.2.2.2.2 (ed_gV ed_w3_115 ed_w3_116 ed_w3_117 ed_w1_1 ed_w3_118) rfl rfl rfl hd_X8_count ⟨Nat.le_of_ble_eq_true rfl, Nat.le_of_ble_eq_true rfl⟩) (ed_rc (q := (RX8, TX8, 6)) (r := (μ19 7 14 0)) hK hM ed_v14 rfl (ed_e14 cy B 7 0 _) rfl) rfl hl.1 rfl (Nat.le_of_ble_eq_true rfl) dL_law_371 ⟨la_c (by omega), la_s (by omega)⟩) hS (fun H locs hM hS => ?_)
                refine lv_iload S.1 S.2.1 dL_law_374 (lv_at hl 1 rfl) ?_
                refine lv_icmp_ne (tgt := 399) S.1 S.2.1 dL_law_376 (by decide) (fun c22 => ?_) (fun c22 => ?_)
                · replace hf := ed_in_ c22 hf
                  refine lv_iconst (v := 0) S.1 S.2.1 dL_law_399 (by decide) ?_
                  exact absurd (Option.some.inj hf) (by decide)
                · replace hf := ed_ip c22 hf
                  refine lv_aload_n S.1 S.2.1 dL_law_379 rfl (lv_at hl 3 rfl) ?_
                  obtain ⟨r23, hq23, hf⟩ := ed_b_e hf
                  refine la_kM (la_rM S hK hM (c_L_copies _ D cy B μ19 r23 hq23) (va_cwS 1 S.2.2.2.2 (ed_gS ed_w3_141 ed_w3_142 ed_w1_0 ed_w3_143) rfl rfl rfl hd_L_copies.2 ⟨Nat.le_of_ble_eq_true rfl, Nat.le_of_ble_eq_true rfl⟩) rfl hl.1 rfl (Nat.le_of_ble_eq_true rfl) dL_law_380 ⟨la_c (by omega), la_s (by omega)⟩) hS (fun H locs hM hS => ?_)
                  refine lv_if_eq (tgt := 399) S.1 S.2.1 dL_law_383 (by decide) (fun c24 => ?_) (fun c24 => ?_)
                  · replace hf := ed_ip c24 hf
                    refine lv_iconst (v := 0) S.1 S.2.1 dL_law_399 (by decide) ?_
                    exact absurd (Option.some.inj hf) (by decide)
                  · replace hf := ed_in_ c24 hf
                    refine lv_aload_n S.1 S.2.1 dL_law_386 rfl (lv_at hl 3 rfl) ?_
                    refine lv_iload S.1 S.2.1 dL_law_387 (lv_at hl 4 rfl) ?_
                    obtain ⟨r25, hq25, hf⟩ := ed_b_e hf
                    refine la_kC (ed_rS S hK hM (c_L_money _ D cy B x4 μ19 r25 hq25) (va_cwS 2 S.2.2.2.2 (ed_gS ed_w3_182 ed_w3_183 ed_w1_0 ed_w3_184) rfl rfl rfl hd_L_money.2 ⟨Nat.le_of_ble_eq_true rfl, Nat.le_of_ble_eq_true rfl⟩) rfl hl.1 rfl (Nat.le_of_ble_eq_true rfl) dL_law_389 ⟨la_c (by omega), la_s (by omega)⟩) hS (fun H locs hM hS => ?_)
                    refine lv_if_eq (tgt := 399) S.1 S.2.1 dL_law_392 (by decide) (fun c26 => ?_) (fun c26 => ?_)
                    · replace hf := ed_ip c26 hf
                      refine lv_iconst (v := 0) S.1 S.2.1 dL_law_399 (by decide) ?_
                      exact absurd (Option.some.inj hf) (by decide)
                    · replace hf := ed_in_ c26 hf
                      refine lv_iconst (v := 1) S.1 S.2.1 dL_law_395 (by decide) ?_
                      refine lv_goto (tgt := 400) S.1 S.2.1 dL_law_396 (by decide) ?_
                      exact la_fin S hret hlocks hB hS (by omega) (by omega)
set_option maxHeartbeats 4000000 in
set_option maxRecDepth 100000 in
theorem w_L_law_248 {p : Program} {l : Launch} {e : Env} {s : State} {m : MethodId} {below : List Frame} {meth : Method} {c : Code} {D : va_G} {cy : Nat → ClassId} {B b L : Nat} {xs : Nat → Int32} (S : CallFix p m c cL_law 10 s #[Value.ref b] ed_ws RL) (hret : meth.sig.returnType = ret) (hlocks : meth.locks = false) (hK : ed_K D cy s) (hX : va_X b L xs s s.heap) (hbl : b < s.heap.size) (hB : s.heap.size = B) (hL : L < 2 ^ 31) {c0 s0 c1 s1 : Nat} (hc : c0 + 3 ≤ c1) (hs : s0 + 33 ≤ s1) (hc1 : c1 ≤ 606958) (hs1 : s1 ≤ 7281374) (k139 : Int32 → Int32 → Int32 → ed_CM → Option Int32) (hk139 : ∀ (x3 x4 x5 : Int32) (μ : ed_CM), k139 x3 x4 x5 μ = some 1 → ∀ (H : Heap) (locs : List Loc) (ls : Array Slot), ed_P D cy B μ H → va_S (ec_A B) s.heap H locs → lv_has ls 10 [(0, .ref b), (1, .ref (B + ed_oF 7 14 0)), (3, .int x3), (4, .int x4), (5, .int x5)] → W p l e room_1 s m #[Value.ref b] below meth c H locs c1 s1 (lw_Z below #[Value.ref b] s) (F0 m 139 ls [])) :
    ∀ (x3 x4 x5 x6 : Int32) (μ : ed_CM), f_L_law_248 k139 xs L x3 x4 x5 x6 μ = some 1 → ∀ (H : Heap) (locs : List Loc) (ls : Array Slot), ed_P D cy B μ H → va_S (ec_A B) s.heap H locs → lv_has ls 10 [(0, .ref b), (1, .ref (B + ed_oF 7 14 0)), (3, .int x3), (4, .int x4), (5, .int x5), (6, .int x6)] → W p l e room_1 s m #[Value.ref b] below meth c H locs c0 s0 (lw_Z below #[Value.ref b] s) (F0 m 248 ls []) := by
  have hbB : b < B := by omega
  intro x3 x4 x5 x6 μ hf H locs ls hM hS hl
  unfold f_L_law_248 at hf
  refine lv_iload_n S.1 S.2.1 dL_law_248 rfl (lv_at hl 2 rfl) ?_
  refine lv_if_eq (tgt := 281) S.1 S.2.1 dL_law_249 (by decide) (fun c34 => ?_) (fun c34 => ?_)
  · replace hf := ed_ip c34 hf
    refine lv_iconst (v := 0) S.1 S.2.1 dL_law_281 (by decide) ?_
    refine lv_istore_n (lv' := [(3, .int 0), (0, .ref b), (1, .ref (B + ed_oF 7 14 0)), (4, .int x4), (5, .int x5), (6, .int x6)]) S.1 S.2.1 dL_law_282 rfl hl (by decide) rfl (fun ls hl => ?_)
    refine lv_iinc (v := x5 + 1) (lv' := [(5, .int (x5 + 1)), (3, .int 0), (0, .ref b), (1, .ref (B + ed_oF 7 14 0)), (4, .int x4), (6, .int x6)]) S.1 S.2.1 dL_law_283 hl (k := 4) rfl rfl (by decide) rfl (fun ls hl => ?_)
    refine lv_goto (tgt := 139) S.1 S.2.1 dL_law_286 (by decide) ?_
    refine W.widen (k := c1) (n := s1) (by omega) (by omega) ?_
    exact hk139 0 x4 (x5 + 1) μ hf _ _ _ hM hS (lv_sub hl [2, 3, 1, 4, 0] rfl)
  · replace hf := ed_in_ c34 hf
    refine lv_aload_n S.1 S.2.1 dL_law_252 rfl (lv_at hl 1 rfl) ?_
    refine lv_iload S.1 S.2.1 dL_law_253 (lv_at hl 5 rfl) ?_
    obtain ⟨r35, μ35, hq35, hf⟩ := ed_b2_e hf
    refine la_kC (ed_rS S hK hM (c_L_acts _ D cy B x6 μ r35 μ35 hq35) (va_cwS 2 S.2.2.2.2 (ed_gS ed_w3_196 ed_w3_197 ed_w1_0 ed_w3_198) rfl rfl rfl hd_L_acts.2 ⟨Nat.le_of_ble_eq_true rfl, Nat.le_of_ble_eq_true rfl⟩) rfl hl.1 rfl (Nat.le_of_ble_eq_true rfl) dL_law_255 ⟨la_c (by omega), la_s (by omega)⟩) hS (fun H locs hM hS => ?_)
    refine lv_if_eq (tgt := 281) S.1 S.2.1 dL_law_258 (by decide) (fun c36 => ?_) (fun c36 => ?_)
    · replace hf := ed_ip c36 hf
      refine lv_iconst (v := 0) S.1 S.2.1 dL_law_281 (by decide) ?_
      refine lv_istore_n (lv' := [(3, .int 0), (0, .ref b), (1, .ref (B + ed_oF 7 14 0)), (4, .int x4), (5, .int x5), (6, .int x6)]) S.1 S.2.1 dL_law_282 rfl hl (by decide) rfl (fun ls hl => ?_)
      refine lv_iinc (v := x5 + 1) (lv' := [(5, .int (x5 + 1)), (3, .int 0), (0, .ref b), (1, .ref (B + ed_oF 7 14 0)), (4, .int x4), (6, .int x6)]) S.1 S.2.1 dL_law_283 hl (k := 4) rfl rfl (by decide) rfl (fun ls hl => ?_)
      refine lv_goto (tgt := 139) S.1 S.2.1 dL_law_286 (by decide) ?_
      refine W.widen (k := c1) (n := s1) (by omega) (by omega) ?_
      exact hk139 0 x4 (x5 + 1) μ35 hf _ _ _ hM hS (lv_sub hl [2, 3, 1, 4, 0] rfl)
    · replace hf := ed_in_ c36 hf
      refine lv_aload_n S.1 S.2.1 dL_law_261 rfl (lv_at hl 1 rfl) ?_
      obtain ⟨r37, hq37, hf⟩ := ed_b_e hf
      refine la_kM (la_rM S hK hM (c_L_copies _ D cy B μ35 r37 hq37) (va_cwS 1 S.2.2.2.2 (ed_gS ed_w3_141 ed_w3_142 ed_w1_0 ed_w3_143) rfl rfl rfl hd_L_copies.2 ⟨Nat.le_of_ble_eq_true rfl, Nat.le_of_ble_eq_true rfl⟩) rfl hl.1 rfl (Nat.le_of_ble_eq_true rfl) dL_law_262 ⟨la_c (by omega), la_s (by omega)⟩) hS (fun H locs hM hS => ?_)
      refine lv_if_eq (tgt := 281) S.1 S.2.1 dL_law_265 (by decide) (fun c38 => ?_) (fun c38 => ?_)
      · replace hf := ed_ip c38 hf
        refine lv_iconst (v := 0) S.1 S.2.1 dL_law_281 (by decide) ?_
        refine lv_istore_n (lv' := [(3, .int 0), (0, .ref b), (1, .ref (B + ed_oF 7 14 0)), (4, .int x4), (5, .int x5), (6, .int x6)]) S.1 S.2.1 dL_law_282 rfl hl (by decide) rfl (fun ls hl => ?_)
        refine lv_iinc (v := x5 + 1) (lv' := [(5, .int (x5 + 1)), (3, .int 0), (0, .ref b), (1, .ref (B + ed_oF 7 14 0)), (4, .int x4), (6, .int x6)]) S.1 S.2.1 dL_law_283 hl (k := 4) rfl rfl (by decide) rfl (fun ls hl => ?_)
        refine lv_goto (tgt := 139) S.1 S.2.1 dL_law_286 (by decide) ?_
        refine W.widen (k := c1) (n := s1) (by omega) (by omega) ?_
        exact hk139 0 x4 (x5 + 1) μ35 hf _ _ _ hM hS (lv_sub hl [2, 3, 1, 4, 0] rfl)
      · replace hf := ed_in_ c38 hf
        refine lv_aload_n S.1 S.2.1 dL_law_268 rfl (lv_at hl 1 rfl) ?_
        refine lv_iload S.1 S.2.1 dL_law_269 (lv_at hl 3 rfl) ?_
        obtain ⟨r39, hq39, hf⟩ := ed_b_e hf
        refine la_kC (ed_rS S hK hM (c_L_money _ D cy B x4 μ35 r39 hq39) (va_cwS 2 S.2.2.2.2 (ed_gS ed_w3_182 ed_w3_183 ed_w1_0 ed_w3_184) rfl rfl rfl hd_L_money.2 ⟨Nat.le_of_ble_eq_true rfl, Nat.le_of_ble_eq_true rfl⟩) rfl hl.1 rfl (Nat.le_of_ble_eq_true rfl) dL_law_271 ⟨la_c (by omega), la_s (by omega)⟩) hS (fun H locs hM hS => ?_)
        refine lv_if_eq (tgt := 281) S.1 S.2.1 dL_law_274 (by decide) (fun c40 => ?_) (fun c40 => ?_)
        · replace hf := ed_ip c40 hf
          refine lv_iconst (v := 0) S.1 S.2.1 dL_law_281 (by decide) ?_
          refine lv_istore_n (lv' := [(3, .int 0), (0, .ref b), (1, .ref (B + ed_oF 7 14 0)), (4, .int x4), (5, .int x5), (6, .int x6)]) S.1 S.2.1 dL_law_282 rfl hl (by decide) rfl (fun ls hl => ?_)
          refine lv_iinc (v := x5 + 1) (lv' := [(5, .int (x5 + 1)), (3, .int 0), (0, .ref b), (1, .ref (B + ed_oF 7 14 0)), (4, .int x4), (6, .int x6)]) S.1 S.2.1 dL_law_283 hl (k := 4) rfl rfl (by decide) rfl (fun ls hl => ?_)
          refine lv_goto (tgt := 139) S.1 S.2.1 dL_law_286 (by decide) ?_
          refine W.widen (k := c1) (n := s1) (by omega) (by omega) ?_
          exact hk139 0 x4 (x5 + 1) μ35 hf _ _ _ hM hS (lv_sub hl [2, 3, 1, 4, 0] rfl)
        · replace hf := ed_in_ c40 hf
          refine lv_iconst (v := 1) S.1 S.2.1 dL_law_277 (by decide) ?_
          refine lv_goto (tgt := 282) S.1 S.2.1 dL_law_278 (by decide) ?_
          refine lv_istore_n (lv' := [(3, .int 1), (0, .ref b), (1, .ref (B + ed_oF 7 14 0)), (4, .int x4), (5, .int x5), (6, .int x6)]) S.1 S.2.1 dL_law_282 rfl hl (by decide) rfl (fun ls hl => ?_)
          refine lv_iinc (v := x5 + 1) (lv' := [(5, .int (x5 + 1)), (3, .int 1), (0, .ref b), (1, .ref (B + ed_oF 7 14 0)), (4, .int x4), (6, .int x6)]) S.1 S.2.1 dL_law_283 hl (k := 4) rfl rfl (by decide) rfl (fun ls hl => ?_)
          refine lv_goto (tgt := 139) S.1 S.2.1 dL_law_286 (by decide) ?_
          refine W.widen (k := c1) (n := s1) (by omega) (by omega) ?_
          exact hk139 1 x4 (x5 + 1) μ35 hf _ _ _ hM hS (lv_sub hl [2, 3, 1, 4, 0] rfl)
set_option maxHeartbeats 4000000 in
set_option maxRecDepth 100000 in
theorem w_L_law_139 {p : Program} {l : Launch} {e : Env} {s : State} {m : MethodId} {below : List Frame} {meth : Method} {c : Code} {D : va_G} {cy : Nat → ClassId} {B b L : Nat} {xs : Nat → Int32} (S : CallFix p m c cL_law 10 s #[Value.ref b] ed_ws RL) (hret : meth.sig.returnType = ret) (hlocks : meth.locks = false) (hK : ed_K D cy s) (hX : va_X b L xs s s.heap) (hbl : b < s.heap.size) (hB : s.heap.size = B) (hL : L < 2 ^ 31) :
    ∀ (n c0 s0 : Nat), c0 + 3 * n + 3 ≤ 606958 → s0 + 33 * n + 33 ≤ 7281374 → ∀ (x3 x4 x5 : Int32) (μ : ed_CM), f_L_law_139 xs L n x3 x4 x5 μ = some 1 → ∀ (H : Heap) (locs : List Loc) (ls : Array Slot), ed_P D cy B μ H → va_S (ec_A B) s.heap H locs → lv_has ls 10 [(0, .ref b), (1, .ref (B + ed_oF 7 14 0)), (3, .int x3), (4, .int x4), (5, .int x5)] → W p l e room_1 s m #[Value.ref b] below meth c H locs c0 s0 (lw_Z below #[Value.ref b] s) (F0 m 139 ls []) := by
  have hbB : b < B := by omega
  intro n
  induction n with
  | zero => intro c0 s0 hc hs x3 x4 x5 μ hf; rw [f_L_law_139] at hf; cases hf
  | succ n ih =>
    intro c0 s0 hc hs x3 x4 x5 μ hf H locs ls hM hS hl
    rw [f_L_law_139] at hf
    refine lv_iload S.1 S.2.1 dL_law_139 (lv_at hl 4 rfl) ?_
    refine lv_bipush (v := 40) S.1 S.2.1 dL_law_141 (by decide) ?_
    refine lv_icmp_ge (tgt := 289) S.1 S.2.1 dL_law_143 (by decide) (fun c5 => ?_) (fun c5 => ?_)
    · replace hf := ed_ip c5 hf
      exact w_L_law_289 S hret hlocks hK hX hbl hB hL (by omega) (by omega) x3 x4 μ hf _ _ _ hM hS (lv_sub hl [1, 2, 3] rfl)
    · replace hf := ed_in_ c5 hf
      refine lv_iload_n S.1 S.2.1 dL_law_146 rfl (lv_at hl 2 rfl) ?_
      refine lv_if_eq (tgt := 289) S.1 S.2.1 dL_law_147 (by decide) (fun c27 => ?_) (fun c27 => ?_)
      · replace hf := ed_ip c27 hf
        exact w_L_law_289 S hret hlocks hK hX hbl hB hL (by omega) (by omega) x3 x4 μ hf _ _ _ hM hS (lv_sub hl [1, 2, 3] rfl)
      · replace hf := ed_in_ c27 hf
        refine lv_aload_n S.1 S.2.1 dL_law_150 rfl (lv_at hl 0 rfl) ?_
        refine lv_bipush (v := 6) S.1 S.2.1 dL_law_151 (by decide) ?_
        refine lv_iload S.1 S.2.1 dL_law_153 (lv_at hl 4 rfl) ?_
        refine lv_iadd S.1 S.2.1 dL_law_155 ?_
        obtain ⟨r28, hq28, hf⟩ := ed_b_e hf
        refine la_kN (la_rX S hK hX hbl hbB hS (c_L_cell _ D cy b L xs hL ((6 : Int32) + x5 : Int32) r28 hq28) (va_cwS 2 S.2.2.2.2 (ed_gS ed_w3_136 ed_w3_137 ed_w1_0 ed_w3_138) rfl rfl rfl hd_L_cell.2 ⟨Nat.le_of_ble_eq_true rfl, Nat.le_of_ble_eq_true rfl⟩) rfl hl.1 rfl (Nat.le_of_ble_eq_true rfl) dL_law_156 ⟨la_c (by omega), la_s (by omega)⟩) hM hS (fun H locs hM hS => ?_)
        refine lv_istore (lv' := [(6, .int r28), (0, .ref b), (1, .ref (B + ed_oF 7 14 0)), (3, .int x3), (4, .int x4), (5, .int x5)]) S.1 S.2.1 dL_law_159 hl (by decide) rfl (fun ls hl => ?_)
        refine lv_iload S.1 S.2.1 dL_law_161 (lv_at hl 0 rfl) ?_
        refine lv_aload_n S.1 S.2.1 dL_law_163 rfl (lv_at hl 2 rfl) ?_
        refine lv_iconst (v := 1) S.1 S.2.1 dL_law_164 (by decide) ?_
        obtain ⟨r29, hq29, hf⟩ := ed_b_e hf
        refine la_kC (ed_rV S hK hM (c_X8_count _ D cy B 1 μ r29 hq29) (cwV 1 S.2.2.2.2 (ed_gV ed_w3_115 ed_w3_116 ed_w3_117 ed_w1_1 ed_w3_118) rfl rfl rfl hd_X8_count ⟨Nat.le_of_ble_eq_true rfl, Nat.le_of_ble_eq_true rfl⟩) (ed_rc (q := (RX8, TX8, 6)) (r := (μ 7 14 0)) hK hM ed_v14 rfl (ed_e14 cy B 7 0 _) rfl) rfl hl.1 rfl (Nat.le_of_ble_eq_true rfl) dL_law_165 ⟨la_c (by omega), la_s (by omega)⟩) hS (fun H locs hM hS => ?_)
        obtain ⟨hz30, hf⟩ := ed_g_e hf
        refine lv_irem S.1 S.2.1 dL_law_168 hz30 ?_
        obtain ⟨y31, ey31, hf⟩ := ed_t_e hf
        refine ed_nm ey31 ?_
        refine lv_istore (lv' := [(7, .int y31), (6, .int r28), (0, .ref b), (1, .ref (B + ed_oF 7 14 0)), (3, .int x3), (4, .int x4), (5, .int x5)]) S.1 S.2.1 dL_law_169 hl (by decide) rfl (fun ls hl => ?_)
        refine lv_iconst (v := 1) S.1 S.2.1 dL_law_171 (by decide) ?_
        refine lv_iload S.1 S.2.1 dL_law_172 (lv_at hl 1 rfl) ?_
        refine lv_bipush (v := 8) S.1 S.2.1 dL_law_174 (by decide) ?_
        refine lv_ishr S.1 S.2.1 dL_law_176 ?_
        refine lv_sipush (v := 2000) S.1 S.2.1 dL_law_177 (by decide) ?_
        refine lv_irem S.1 S.2.1 dL_law_180 (by decide) ?_
        refine lv_iadd S.1 S.2.1 dL_law_181 ?_
        obtain ⟨y32, ey32, hf⟩ := ed_t_e hf
        refine ed_nm ey32 ?_
        refine lv_istore (lv' := [(8, .int y32), (7, .int y31), (6, .int r28), (0, .ref b), (1, .ref (B + ed_oF 7 14 0)), (3, .int x3), (4, .int x4), (5, .int x5)]) S.1 S.2.1 dL_law_182 hl (by decide) rfl (fun ls hl => ?_)
        refine lv_iload S.1 S.2.1 dL_law_184 (lv_at hl 2 rfl) ?_
        refine lv_iconst (v := 3) S.1 S.2.1 dL_law_186 (by decide) ?_
        refine lv_ishr S.1 S.2.1 dL_law_187 ?_
        refine lv_bipush (v := 15) S.1 S.2.1 dL_law_188 (by decide) ?_
        refine lv_iand S.1 S.2.1 dL_law_190 ?_
        refine lv_bipush (v := 7) S.1 S.2.1 dL_law_191 (by decide) ?_
        refine lv_icmp_ne (tgt := 248) S.1 S.2.1 dL_law_193 (by decide) (fun c33 => ?_) (fun c33 => ?_)
        · replace hf := ed_in_ c33 hf
          exact w_L_law_248 S hret hlocks hK hX hbl hB hL (c1 := c0 + 3) (s1 := s0 + 33) (by omega) (by omega) (by omega) (by omega) (fun a0 a1 a2 a3 => f_L_law_139 xs L n a0 a1 a2 a3) (ih (c0 + 3) (s0 + 33) (by omega) (by omega)) x3 x4 x5 r28 μ hf _ _ _ hM hS (lv_sub hl [3, 4, 5, 6, 7, 2] rfl)
        · replace hf := ed_ip c33 hf
          refine lv_aload_n S.1 S.2.1 dL_law_196 rfl (lv_at hl 4 rfl) ?_
          refine lv_iload S.1 S.2.1 dL_law_197 (lv_at hl 1 rfl) ?_
          refine lv_bipush (v := 6) S.1 S.2.1 dL_law_199 (by decide) ?_
          obtain ⟨r41, hq41, hf⟩ := ed_b_e hf
          refine la_kC (ed_rV S hK hM (c_X8_client _ D cy B y31 6 μ r41 hq41) (cwV 2 S.2.2.2.2 (ed_gV ed_w3_104 ed_w3_105 ed_w3_106 ed_w1_1 ed_w3_107) rfl rfl rfl hd_X8_client ⟨Nat.le_of_ble_eq_true rfl, Nat.le_of_ble_eq_true rfl⟩) (ed_rc (q := (RX8, TX8, 6)) (r := (μ 7 14 0)) hK hM ed_v14 rfl (ed_e14 cy B 7 0 _) rfl) rfl hl.1 rfl (Nat.le_of_ble_eq_true rfl) dL_law_201 ⟨la_c (by omega), la_s (by omega)⟩) hS (fun H locs hM hS => ?_)
          refine lv_iload S.1 S.2.1 dL_law_204 (lv_at hl 0 rfl) ?_
          refine lv_icmp_lt (tgt := 248) S.1 S.2.1 dL_law_206 (by decide) (fun c42 => ?_) (fun c42 => ?_)
          · replace hf := ed_ip c42 hf
            exact w_L_law_248 S hret hlocks hK hX hbl hB hL (c1 := c0 + 3) (s1 := s0 + 33) (by omega) (by omega) (by omega) (by omega) (fun a0 a1 a2 a3 => f_L_law_139 xs L n a0 a1 a2 a3) (ih (c0 + 3) (s0 + 33) (by omega) (by omega)) x3 x4 x5 r28 μ hf _ _ _ hM hS (lv_sub hl [3, 4, 5, 6, 7, 2] rfl)
          · replace hf := ed_in_ c42 hf
            refine lv_aload_n S.1 S.2.1 dL_law_209 rfl (lv_at hl 4 rfl) ?_
            refine lv_iload S.1 S.2.1 dL_law_210 (lv_at hl 1 rfl) ?_
            refine lv_bipush (v := 6) S.1 S.2.1 dL_law_212 (by decide) ?_
            obtain ⟨r43, hq43, hf⟩ := ed_b_e hf
            refine la_kC (ed_rV S hK hM (c_X8_client _ D cy B y31 6 μ r43 hq43) (cwV 2 S.2.2.2.2 (ed_gV ed_w3_104 ed_w3_105 ed_w3_106 ed_w1_1 ed_w3_107) rfl rfl rfl hd_X8_client ⟨Nat.le_of_ble_eq_true rfl, Nat.le_of_ble_eq_true rfl⟩) (ed_rc (q := (RX8, TX8, 6)) (r := (μ 7 14 0)) hK hM ed_v14 rfl (ed_e14 cy B 7 0 _) rfl) rfl hl.1 rfl (Nat.le_of_ble_eq_true rfl) dL_law_214 ⟨la_c (by omega), la_s (by omega)⟩) hS (fun H locs hM hS => ?_)
            refine lv_istore (lv' := [(9, .int r43), (8, .int y32), (7, .int y31), (6, .int r28), (0, .ref b), (1, .ref (B + ed_oF 7 14 0)), (3, .int x3), (4, .int x4), (5, .int x5)]) S.1 S.2.1 dL_law_217 hl (by decide) rfl (fun ls hl => ?_)
            refine lv_iload S.1 S.2.1 dL_law_219 (lv_at hl 7 rfl) ?_
            refine lv_iload S.1 S.2.1 dL_law_221 (lv_at hl 1 rfl) ?_
            refine lv_iadd S.1 S.2.1 dL_law_223 ?_
            refine lv_istore (lv' := [(4, .int (x4 + y32 : Int32)), (9, .int r43), (8, .int y32), (7, .int y31), (6, .int r28), (0, .ref b), (1, .ref (B + ed_oF 7 14 0)), (3, .int x3), (5, .int x5)]) S.1 S.2.1 dL_law_224 hl (by decide) rfl (fun ls hl => ?_)
            refine lv_aload_n S.1 S.2.1 dL_law_226 rfl (lv_at hl 6 rfl) ?_
            refine lv_iload S.1 S.2.1 dL_law_227 (lv_at hl 3 rfl) ?_
            refine lv_iload S.1 S.2.1 dL_law_229 (lv_at hl 2 rfl) ?_
            obtain ⟨r44, μ44, hq44, hf⟩ := ed_b2_e hf
            refine la_kC (ed_rV S hK hM (c_X8_pay _ D cy B y31 y32 μ r44 μ44 hq44) (cwV 2 S.2.2.2.2 (ed_gV ed_w2_181 ed_w2_182 ed_w2_183 ed_w1_1 ed_w2_184) rfl rfl rfl hd_X8_pay ⟨Nat.le_of_ble_eq_true rfl, Nat.le_of_ble_eq_true rfl⟩) (ed_rc (q := (RX8, TX8, 6)) (r := (μ 7 14 0)) hK hM ed_v14 rfl (ed_e14 cy B 7 0 _) rfl) rfl hl.1 rfl (Nat.le_of_ble_eq_true rfl) dL_law_231 ⟨la_c (by omega), la_s (by omega)⟩) hS (fun H locs hM hS => ?_)
            refine lv_iload S.1 S.2.1 dL_law_234 (lv_at hl 1 rfl) ?_
            refine lv_iload S.1 S.2.1 dL_law_236 (lv_at hl 2 rfl) ?_
            refine lv_isub S.1 S.2.1 dL_law_238 ?_
            refine lv_icmp_ne (tgt := 246) S.1 S.2.1 dL_law_239 (by decide) (fun c45 => ?_) (fun c45 => ?_)
            · replace hf := ed_in_ c45 hf
              refine lv_iconst (v := 0) S.1 S.2.1 dL_law_246 (by decide) ?_
              refine lv_istore_n (lv' := [(3, .int 0), (4, .int (x4 + y32 : Int32)), (9, .int r43), (8, .int y32), (7, .int y31), (6, .int r28), (0, .ref b), (1, .ref (B + ed_oF 7 14 0)), (5, .int x5)]) S.1 S.2.1 dL_law_247 rfl hl (by decide) rfl (fun ls hl => ?_)
              exact w_L_law_248 S hret hlocks hK hX hbl hB hL (c1 := c0 + 3) (s1 := s0 + 33) (by omega) (by omega) (by omega) (by omega) (fun a0 a1 a2 a3 => f_L_law_139 xs L n a0 a1 a2 a3) (ih (c0 + 3) (s0 + 33) (by omega) (by omega)) 0 (x4 + y32 : Int32) x5 r28 μ44 hf _ _ _ hM hS (lv_sub hl [6, 7, 0, 1, 8, 5] rfl)
            · replace hf := ed_ip c45 hf
              refine lv_iconst (v := 1) S.1 S.2.1 dL_law_242 (by decide) ?_
              refine lv_goto (tgt := 247) S.1 S.2.1 dL_law_243 (by decide) ?_
              refine lv_istore_n (lv' := [(3, .int 1), (4, .int (x4 + y32 : Int32)), (9, .int r43), (8, .int y32), (7, .int y31), (6, .int r28), (0, .ref b), (1, .ref (B + ed_oF 7 14 0)), (5, .int x5)]) S.1 S.2.1 dL_law_247 rfl hl (by decide) rfl (fun ls hl => ?_)
              exact w_L_law_248 S hret hlocks hK hX hbl hB hL (c1 := c0 + 3) (s1 := s0 + 33) (by omega) (by omega) (by omega) (by omega) (fun a0 a1 a2 a3 => f_L_law_139 xs L n a0 a1 a2 a3) (ih (c0 + 3) (s0 + 33) (by omega) (by omega)) 1 (x4 + y32 : Int32) x5 r28 μ44 hf _ _ _ hM hS (lv_sub hl [6, 7, 0, 1, 8, 5] rfl)
set_option maxHeartbeats 4000000 in
set_option maxRecDepth 100000 in
theorem w_L_law_46 {p : Program} {l : Launch} {e : Env} {s : State} {m : MethodId} {below : List Frame} {meth : Method} {c : Code} {D : va_G} {cy : Nat → ClassId} {B b L : Nat} {xs : Nat → Int32} (S : CallFix p m c cL_law 10 s #[Value.ref b] ed_ws RL) (hret : meth.sig.returnType = ret) (hlocks : meth.locks = false) (hK : ed_K D cy s) (hX : va_X b L xs s s.heap) (hbl : b < s.heap.size) (hB : s.heap.size = B) (hL : L < 2 ^ 31) :
    ∀ (n : Nat), ∀ (x2 x3 x4 : Int32) (μ : ed_CM), f_L_law_46 xs L n x2 x3 x4 μ = some 1 → ∀ (H : Heap) (locs : List Loc) (ls : Array Slot), ed_P D cy B μ H → va_S (ec_A B) s.heap H locs → lv_has ls 10 [(0, .ref b), (1, .ref (B + ed_oF 7 14 0)), (2, .int x2), (3, .int x3), (4, .int x4)] → W p l e room_1 s m #[Value.ref b] below meth c H locs 1862 13796 (lw_Z below #[Value.ref b] s) (F0 m 46 ls []) := by
  have hbB : b < B := by omega
  intro n
  induction n with
  | zero => intro x2 x3 x4 μ hf; rw [f_L_law_46] at hf; cases hf
  | succ n ih =>
    intro x2 x3 x4 μ hf H locs ls hM hS hl
    rw [f_L_law_46] at hf
    refine lv_iload S.1 S.2.1 dL_law_46 (lv_at hl 4 rfl) ?_
    refine lv_iconst (v := 2) S.1 S.2.1 dL_law_48 (by decide) ?_
    refine lv_iload_n S.1 S.2.1 dL_law_49 rfl (lv_at hl 2 rfl) ?_
    refine lv_iconst (v := 3) S.1 S.2.1 dL_law_50 (by decide) ?_
    refine lv_ishr S.1 S.2.1 dL_law_51 ?_
    refine lv_iconst (v := 3) S.1 S.2.1 dL_law_52 (by decide) ?_
    refine lv_irem S.1 S.2.1 dL_law_53 (by decide) ?_
    refine lv_iadd S.1 S.2.1 dL_law_54 ?_
    refine lv_icmp_ge (tgt := 133) S.1 S.2.1 dL_law_55 (by decide) (fun c4 => ?_) (fun c4 => ?_)
    · replace hf := ed_ip c4 hf
      refine lv_iconst (v := 0) S.1 S.2.1 dL_law_133 (by decide) ?_
      refine lv_istore (lv' := [(4, .int 0), (0, .ref b), (1, .ref (B + ed_oF 7 14 0)), (2, .int x2), (3, .int x3)]) S.1 S.2.1 dL_law_134 hl (by decide) rfl (fun ls hl => ?_)
      refine lv_iconst (v := 0) S.1 S.2.1 dL_law_136 (by decide) ?_
      refine lv_istore (lv' := [(5, .int 0), (4, .int 0), (0, .ref b), (1, .ref (B + ed_oF 7 14 0)), (2, .int x2), (3, .int x3)]) S.1 S.2.1 dL_law_137 hl (by decide) rfl (fun ls hl => ?_)
      exact w_L_law_139 S hret hlocks hK hX hbl hB hL ed_N 1862 13796 (Nat.le_of_ble_eq_true rfl) (Nat.le_of_ble_eq_true rfl) x3 0 0 μ hf _ _ _ hM hS (lv_sub hl [2, 3, 5, 1, 0] rfl)
    · replace hf := ed_in_ c4 hf
      refine lv_iload_n S.1 S.2.1 dL_law_58 rfl (lv_at hl 3 rfl) ?_
      refine lv_if_eq (tgt := 133) S.1 S.2.1 dL_law_59 (by decide) (fun c46 => ?_) (fun c46 => ?_)
      · replace hf := ed_ip c46 hf
        refine lv_iconst (v := 0) S.1 S.2.1 dL_law_133 (by decide) ?_
        refine lv_istore (lv' := [(4, .int 0), (0, .ref b), (1, .ref (B + ed_oF 7 14 0)), (2, .int x2), (3, .int x3)]) S.1 S.2.1 dL_law_134 hl (by decide) rfl (fun ls hl => ?_)
        refine lv_iconst (v := 0) S.1 S.2.1 dL_law_136 (by decide) ?_
        refine lv_istore (lv' := [(5, .int 0), (4, .int 0), (0, .ref b), (1, .ref (B + ed_oF 7 14 0)), (2, .int x2), (3, .int x3)]) S.1 S.2.1 dL_law_137 hl (by decide) rfl (fun ls hl => ?_)
        exact w_L_law_139 S hret hlocks hK hX hbl hB hL ed_N 1862 13796 (Nat.le_of_ble_eq_true rfl) (Nat.le_of_ble_eq_true rfl) x3 0 0 μ hf _ _ _ hM hS (lv_sub hl [2, 3, 5, 1, 0] rfl)
      · replace hf := ed_in_ c46 hf
        refine lv_aload_n S.1 S.2.1 dL_law_62 rfl (lv_at hl 0 rfl) ?_
        refine lv_iconst (v := 1) S.1 S.2.1 dL_law_63 (by decide) ?_
        refine lv_iload S.1 S.2.1 dL_law_64 (lv_at hl 4 rfl) ?_
        refine lv_iadd S.1 S.2.1 dL_law_66 ?_
        obtain ⟨r47, hq47, hf⟩ := ed_b_e hf
        refine la_kN (la_rX S hK hX hbl hbB hS (c_L_cell _ D cy b L xs hL ((1 : Int32) + x4 : Int32) r47 hq47) (va_cwS 2 S.2.2.2.2 (ed_gS ed_w3_136 ed_w3_137 ed_w1_0 ed_w3_138) rfl rfl rfl hd_L_cell.2 ⟨Nat.le_of_ble_eq_true rfl, Nat.le_of_ble_eq_true rfl⟩) rfl hl.1 rfl (Nat.le_of_ble_eq_true rfl) dL_law_67 ⟨la_c (by omega), la_s (by omega)⟩) hM hS (fun H locs hM hS => ?_)
        refine lv_istore (lv' := [(5, .int r47), (0, .ref b), (1, .ref (B + ed_oF 7 14 0)), (2, .int x2), (3, .int x3), (4, .int x4)]) S.1 S.2.1 dL_law_70 hl (by decide) rfl (fun ls hl => ?_)
        refine lv_aload_n S.1 S.2.1 dL_law_72 rfl (lv_at hl 2 rfl) ?_
        refine lv_iconst (v := 1) S.1 S.2.1 dL_law_73 (by decide) ?_
        refine lv_iload S.1 S.2.1 dL_law_74 (lv_at hl 0 rfl) ?_
        refine lv_bipush (v := 7) S.1 S.2.1 dL_law_76 (by decide) ?_
        refine lv_irem S.1 S.2.1 dL_law_78 (by decide) ?_
        refine lv_iadd S.1 S.2.1 dL_law_79 ?_
        refine lv_iload S.1 S.2.1 dL_law_80 (lv_at hl 0 rfl) ?_
        refine lv_iconst (v := 3) S.1 S.2.1 dL_law_82 (by decide) ?_
        refine lv_ishr S.1 S.2.1 dL_law_83 ?_
        refine lv_bipush (v := 6) S.1 S.2.1 dL_law_84 (by decide) ?_
        refine lv_irem S.1 S.2.1 dL_law_86 (by decide) ?_
        refine lv_iload S.1 S.2.1 dL_law_87 (lv_at hl 0 rfl) ?_
        refine lv_bipush (v := 6) S.1 S.2.1 dL_law_89 (by decide) ?_
        refine lv_ishr S.1 S.2.1 dL_law_91 ?_
        refine lv_bipush (v := 9) S.1 S.2.1 dL_law_92 (by decide) ?_
        refine lv_irem S.1 S.2.1 dL_law_94 (by decide) ?_
        refine lv_iconst (v := 1) S.1 S.2.1 dL_law_95 (by decide) ?_
        refine lv_iload S.1 S.2.1 dL_law_96 (lv_at hl 0 rfl) ?_
        refine lv_bipush (v := 10) S.1 S.2.1 dL_law_98 (by decide) ?_
        refine lv_ishr S.1 S.2.1 dL_law_100 ?_
        refine lv_iconst (v := 4) S.1 S.2.1 dL_law_101 (by decide) ?_
        refine lv_irem S.1 S.2.1 dL_law_102 (by decide) ?_
        refine lv_iadd S.1 S.2.1 dL_law_103 ?_
        refine lv_iload S.1 S.2.1 dL_law_104 (lv_at hl 0 rfl) ?_
        refine lv_bipush (v := 12) S.1 S.2.1 dL_law_106 (by decide) ?_
        refine lv_ishr S.1 S.2.1 dL_law_108 ?_
        refine lv_sipush (v := 9000) S.1 S.2.1 dL_law_109 (by decide) ?_
        refine lv_irem S.1 S.2.1 dL_law_112 (by decide) ?_
        obtain ⟨r48, μ48, hq48, hf⟩ := ed_b2_e hf
        refine la_kC (ed_rV S hK hM (c_X8_addClient _ D cy B ((1 : Int32) + (r47 - r47 / 7 * 7 : Int32) : Int32) ((r47 >>> ((3 : Int32) &&& 31) : Int32) - (r47 >>> ((3 : Int32) &&& 31) : Int32) / 6 * 6 : Int32) ((r47 >>> ((6 : Int32) &&& 31) : Int32) - (r47 >>> ((6 : Int32) &&& 31) : Int32) / 9 * 9 : Int32) ((1 : Int32) + ((r47 >>> ((10 : Int32) &&& 31) : Int32) - (r47 >>> ((10 : Int32) &&& 31) : Int32) / 4 * 4 : Int32) : Int32) ((r47 >>> ((12 : Int32) &&& 31) : Int32) - (r47 >>> ((12 : Int32) &&& 31) : Int32) / 9000 * 9000 : Int32) μ r48 μ48 hq48) (cwV 5 S.2.2.2.2 (ed_gV ed_w2_89 ed_w2_90 ed_w2_91 ed_w1_1 ed_w2_92) rfl rfl rfl hd_X8_addClient ⟨Nat.le_of_ble_eq_true rfl, Nat.le_of_ble_eq_true rfl⟩) (ed_rc (q := (RX8, TX8, 6)) (r := (μ 7 14 0)) hK hM ed_v14 rfl (ed_e14 cy B 7 0 _) rfl) rfl hl.1 rfl (Nat.le_of_ble_eq_true rfl) dL_law_113 ⟨la_c (by omega), la_s (by omega)⟩) hS (fun H locs hM hS => ?_)
        refine lv_iload S.1 S.2.1 dL_law_116 (lv_at hl 5 rfl) ?_
        refine lv_icmp_ne (tgt := 125) S.1 S.2.1 dL_law_118 (by decide) (fun c49 => ?_) (fun c49 => ?_)
        · replace hf := ed_in_ c49 hf
          refine lv_iconst (v := 0) S.1 S.2.1 dL_law_125 (by decide) ?_
          refine lv_istore_n (lv' := [(3, .int 0), (5, .int r47), (0, .ref b), (1, .ref (B + ed_oF 7 14 0)), (2, .int x2), (4, .int x4)]) S.1 S.2.1 dL_law_126 rfl hl (by decide) rfl (fun ls hl => ?_)
          refine lv_iinc (v := x4 + 1) (lv' := [(4, .int (x4 + 1)), (3, .int 0), (5, .int r47), (0, .ref b), (1, .ref (B + ed_oF 7 14 0)), (2, .int x2)]) S.1 S.2.1 dL_law_127 hl (k := 5) rfl rfl (by decide) rfl (fun ls hl => ?_)
          refine lv_goto (tgt := 46) S.1 S.2.1 dL_law_130 (by decide) ?_
          exact ih x2 0 (x4 + 1) μ48 hf _ _ _ hM hS (lv_sub hl [3, 4, 5, 1, 0] rfl)
        · replace hf := ed_ip c49 hf
          refine lv_iconst (v := 1) S.1 S.2.1 dL_law_121 (by decide) ?_
          refine lv_goto (tgt := 126) S.1 S.2.1 dL_law_122 (by decide) ?_
          refine lv_istore_n (lv' := [(3, .int 1), (5, .int r47), (0, .ref b), (1, .ref (B + ed_oF 7 14 0)), (2, .int x2), (4, .int x4)]) S.1 S.2.1 dL_law_126 rfl hl (by decide) rfl (fun ls hl => ?_)
          refine lv_iinc (v := x4 + 1) (lv' := [(4, .int (x4 + 1)), (3, .int 1), (5, .int r47), (0, .ref b), (1, .ref (B + ed_oF 7 14 0)), (2, .int x2)]) S.1 S.2.1 dL_law_127 hl (k := 5) rfl rfl (by decide) rfl (fun ls hl => ?_)
          refine lv_goto (tgt := 46) S.1 S.2.1 dL_law_130 (by decide) ?_
          exact ih x2 1 (x4 + 1) μ48 hf _ _ _ hM hS (lv_sub hl [3, 4, 5, 1, 0] rfl)
set_option maxHeartbeats 4000000 in
set_option maxRecDepth 100000 in
theorem w_L_law_8 {p : Program} {l : Launch} {e : Env} {s : State} {m : MethodId} {below : List Frame} {meth : Method} {c : Code} {D : va_G} {cy : Nat → ClassId} {B b L : Nat} {xs : Nat → Int32} (S : CallFix p m c cL_law 10 s #[Value.ref b] ed_ws RL) (hret : meth.sig.returnType = ret) (hlocks : meth.locks = false) (hK : ed_K D cy s) (hX : va_X b L xs s s.heap) (hbl : b < s.heap.size) (hB : s.heap.size = B) (hL : L < 2 ^ 31) (μ : ed_CM) :
    f_L_law_8 xs L μ = some 1 → ∀ (H : Heap) (locs : List Loc) (ls : Array Slot), ed_P D cy B μ H → va_S (ec_A B) s.heap H locs → lv_has ls 10 [(1, .ref (B + ed_oF 7 14 0)), (0, .ref b)] → W p l e room_1 s m #[Value.ref b] below meth c H locs 1862 13796 (lw_Z below #[Value.ref b] s) (F0 m 8 ls []) := by
  have hbB : b < B := by omega
  intro hf H locs ls hM hS hl
  unfold f_L_law_8 at hf
  refine lv_aload_n S.1 S.2.1 dL_law_8 rfl (lv_at hl 1 rfl) ?_
  refine lv_iconst (v := 0) S.1 S.2.1 dL_law_9 (by decide) ?_
  obtain ⟨r1, hq1, hf⟩ := ed_b_e hf
  refine la_kN (la_rX S hK hX hbl hbB hS (c_L_cell _ D cy b L xs hL 0 r1 hq1) (va_cwS 2 S.2.2.2.2 (ed_gS ed_w3_136 ed_w3_137 ed_w1_0 ed_w3_138) rfl rfl rfl hd_L_cell.2 ⟨Nat.le_of_ble_eq_true rfl, Nat.le_of_ble_eq_true rfl⟩) rfl hl.1 rfl (Nat.le_of_ble_eq_true rfl) dL_law_10 ⟨la_c (by omega), la_s (by omega)⟩) hM hS (fun H locs hM hS => ?_)
  refine lv_istore_n (lv' := [(2, .int r1), (1, .ref (B + ed_oF 7 14 0)), (0, .ref b)]) S.1 S.2.1 dL_law_13 rfl hl (by decide) rfl (fun ls hl => ?_)
  refine lv_aload_n S.1 S.2.1 dL_law_14 rfl (lv_at hl 1 rfl) ?_
  obtain ⟨r2, μ2, hq2, hf⟩ := ed_b2_e hf
  refine la_kC (ed_rV S hK hM (c_X8_readStory _ D cy B μ r2 μ2 hq2) (cwV 0 S.2.2.2.2 (ed_gV ed_w2_185 ed_w2_186 ed_w2_187 ed_w1_1 ed_w2_188) rfl rfl rfl hd_X8_readStory ⟨Nat.le_of_ble_eq_true rfl, Nat.le_of_ble_eq_true rfl⟩) (ed_rc (q := (RX8, TX8, 6)) (r := (μ 7 14 0)) hK hM ed_v14 rfl (ed_e14 cy B 7 0 _) rfl) rfl hl.1 rfl (Nat.le_of_ble_eq_true rfl) dL_law_15 ⟨la_c (by omega), la_s (by omega)⟩) hS (fun H locs hM hS => ?_)
  refine lv_bipush (v := (-100)) S.1 S.2.1 dL_law_18 (by decide) ?_
  refine lv_icmp_ne (tgt := 41) S.1 S.2.1 dL_law_20 (by decide) (fun c3 => ?_) (fun c3 => ?_)
  · replace hf := ed_in_ c3 hf
    refine lv_iconst (v := 0) S.1 S.2.1 dL_law_41 (by decide) ?_
    refine lv_istore_n (lv' := [(3, .int 0), (2, .int r1), (1, .ref (B + ed_oF 7 14 0)), (0, .ref b)]) S.1 S.2.1 dL_law_42 rfl hl (by decide) rfl (fun ls hl => ?_)
    refine lv_iconst (v := 0) S.1 S.2.1 dL_law_43 (by decide) ?_
    refine lv_istore (lv' := [(4, .int 0), (3, .int 0), (2, .int r1), (1, .ref (B + ed_oF 7 14 0)), (0, .ref b)]) S.1 S.2.1 dL_law_44 hl (by decide) rfl (fun ls hl => ?_)
    exact w_L_law_46 S hret hlocks hK hX hbl hB hL ed_N r1 0 0 μ2 hf _ _ _ hM hS (lv_sub hl [4, 3, 2, 1, 0] rfl)
  · replace hf := ed_ip c3 hf
    refine lv_aload_n S.1 S.2.1 dL_law_23 rfl (lv_at hl 1 rfl) ?_
    refine lv_iconst (v := 1) S.1 S.2.1 dL_law_24 (by decide) ?_
    refine lv_iload_n S.1 S.2.1 dL_law_25 rfl (lv_at hl 0 rfl) ?_
    refine lv_iconst (v := 4) S.1 S.2.1 dL_law_26 (by decide) ?_
    refine lv_irem S.1 S.2.1 dL_law_27 (by decide) ?_
    refine lv_iadd S.1 S.2.1 dL_law_28 ?_
    obtain ⟨r50, μ50, hq50, hf⟩ := ed_b2_e hf
    refine la_kC (ed_rV S hK hM (c_X8_setUse _ D cy B ((1 : Int32) + (r1 - r1 / 4 * 4 : Int32) : Int32) μ2 r50 μ50 hq50) (cwV 1 S.2.2.2.2 (ed_gV ed_w2_177 ed_w2_178 ed_w2_179 ed_w1_1 ed_w2_180) rfl rfl rfl hd_X8_setUse ⟨Nat.le_of_ble_eq_true rfl, Nat.le_of_ble_eq_true rfl⟩) (ed_rc (q := (RX8, TX8, 6)) (r := (μ2 7 14 0)) hK hM ed_v14 rfl (ed_e14 cy B 7 0 _) rfl) rfl hl.1 rfl (Nat.le_of_ble_eq_true rfl) dL_law_29 ⟨la_c (by omega), la_s (by omega)⟩) hS (fun H locs hM hS => ?_)
    refine lv_bipush (v := (-2)) S.1 S.2.1 dL_law_32 (by decide) ?_
    refine lv_icmp_eq (tgt := 41) S.1 S.2.1 dL_law_34 (by decide) (fun c51 => ?_) (fun c51 => ?_)
    · replace hf := ed_ip c51 hf
      refine lv_iconst (v := 0) S.1 S.2.1 dL_law_41 (by decide) ?_
      refine lv_istore_n (lv' := [(3, .int 0), (2, .int r1), (1, .ref (B + ed_oF 7 14 0)), (0, .ref b)]) S.1 S.2.1 dL_law_42 rfl hl (by decide) rfl (fun ls hl => ?_)
      refine lv_iconst (v := 0) S.1 S.2.1 dL_law_43 (by decide) ?_
      refine lv_istore (lv' := [(4, .int 0), (3, .int 0), (2, .int r1), (1, .ref (B + ed_oF 7 14 0)), (0, .ref b)]) S.1 S.2.1 dL_law_44 hl (by decide) rfl (fun ls hl => ?_)
      exact w_L_law_46 S hret hlocks hK hX hbl hB hL ed_N r1 0 0 μ50 hf _ _ _ hM hS (lv_sub hl [4, 3, 2, 1, 0] rfl)
    · replace hf := ed_in_ c51 hf
      refine lv_iconst (v := 1) S.1 S.2.1 dL_law_37 (by decide) ?_
      refine lv_goto (tgt := 42) S.1 S.2.1 dL_law_38 (by decide) ?_
      refine lv_istore_n (lv' := [(3, .int 1), (2, .int r1), (1, .ref (B + ed_oF 7 14 0)), (0, .ref b)]) S.1 S.2.1 dL_law_42 rfl hl (by decide) rfl (fun ls hl => ?_)
      refine lv_iconst (v := 0) S.1 S.2.1 dL_law_43 (by decide) ?_
      refine lv_istore (lv' := [(4, .int 0), (3, .int 1), (2, .int r1), (1, .ref (B + ed_oF 7 14 0)), (0, .ref b)]) S.1 S.2.1 dL_law_44 hl (by decide) rfl (fun ls hl => ?_)
      exact w_L_law_46 S hret hlocks hK hX hbl hB hL ed_N r1 1 0 μ50 hf _ _ _ hM hS (lv_sub hl [4, 3, 2, 1, 0] rfl)
