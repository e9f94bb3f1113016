/-! The law, a case a row (laid by wip/whole/gen/gen_law.py) -/
set_option maxHeartbeats 4000000 in
set_option maxRecDepth 100000 in
theorem w_L_164 {p : Program} {l : Launch} {e : Env} {s : State} {m : MethodId} {below : List Frame} {meth : Method} {c : Code} {b L B : Nat} {xs : Nat → Int32} {D : va_G} {cy : Nat → ClassId} {Q : State → Prop} (S : CallFix p m c cL_law 4 s #[Value.ref b] ed_ws RL) (hK : ed_K D cy s) (hX : va_X b L xs s s.heap) (hbl : b < s.heap.size) (hB : b < B) (hL : L ≤ 3072) {i : Nat} (hi : i + 6 ≤ L)
    (kk : el_Go p l e s m b below meth c D cy B i Q) {μ : ed_CM} {ν : em_MM} {H : Heap} {locs : List Loc} {ls : Array Slot} (hM : ed_P D cy B μ H) (hN : em_P D cy (B + 1862) ν H) (hR : r_REL μ ν) (hS : va_S (ec_A B) s.heap H locs) (hl : lv_has ls 4 (el_lv b B i)) :
    W p l e room_1 s m #[Value.ref b] below meth c H locs 600000 7302250 Q (F0 m 164 ls []) := by
  have hbA : ¬ ec_A B b := Nat.not_le.mpr hB
  obtain ⟨r, μ1, ν1, h1, h2, hR⟩ := m_addClient hR (xs (nI i + 1).toNatClampNeg) (xs (nI i + 2).toNatClampNeg) (xs (nI i + 3).toNatClampNeg) (xs (nI i + 4).toNatClampNeg) (xs (nI i + 5).toNatClampNeg)
  refine lv_aload_n S.1 S.2.1 dL_law_164 rfl (lv_at hl 1 rfl) ?_
  refine lv_aload_n S.1 S.2.1 dL_law_165 rfl (lv_at hl 0 rfl) ?_
  refine lv_iload_n S.1 S.2.1 dL_law_166 rfl (lv_at hl 3 rfl) ?_
  refine lv_iconst (v := 1) S.1 S.2.1 dL_law_167 (by decide) ?_
  refine lv_iadd S.1 S.2.1 dL_law_168 ?_
  refine va_sld S.1 S.2.1 hX hbl hbA hS (el_in 1 (by decide) hi hL) dL_law_169 ?_
  refine lv_aload_n S.1 S.2.1 dL_law_170 rfl (lv_at hl 0 rfl) ?_
  refine lv_iload_n S.1 S.2.1 dL_law_171 rfl (lv_at hl 3 rfl) ?_
  refine lv_iconst (v := 2) S.1 S.2.1 dL_law_172 (by decide) ?_
  refine lv_iadd S.1 S.2.1 dL_law_173 ?_
  refine va_sld S.1 S.2.1 hX hbl hbA hS (el_in 2 (by decide) hi hL) dL_law_174 ?_
  refine lv_aload_n S.1 S.2.1 dL_law_175 rfl (lv_at hl 0 rfl) ?_
  refine lv_iload_n S.1 S.2.1 dL_law_176 rfl (lv_at hl 3 rfl) ?_
  refine lv_iconst (v := 3) S.1 S.2.1 dL_law_177 (by decide) ?_
  refine lv_iadd S.1 S.2.1 dL_law_178 ?_
  refine va_sld S.1 S.2.1 hX hbl hbA hS (el_in 3 (by decide) hi hL) dL_law_179 ?_
  refine lv_aload_n S.1 S.2.1 dL_law_180 rfl (lv_at hl 0 rfl) ?_
  refine lv_iload_n S.1 S.2.1 dL_law_181 rfl (lv_at hl 3 rfl) ?_
  refine lv_iconst (v := 4) S.1 S.2.1 dL_law_182 (by decide) ?_
  refine lv_iadd S.1 S.2.1 dL_law_183 ?_
  refine va_sld S.1 S.2.1 hX hbl hbA hS (el_in 4 (by decide) hi hL) dL_law_184 ?_
  refine lv_aload_n S.1 S.2.1 dL_law_185 rfl (lv_at hl 0 rfl) ?_
  refine lv_iload_n S.1 S.2.1 dL_law_186 rfl (lv_at hl 3 rfl) ?_
  refine lv_iconst (v := 5) S.1 S.2.1 dL_law_187 (by decide) ?_
  refine lv_iadd S.1 S.2.1 dL_law_188 ?_
  refine va_sld S.1 S.2.1 hX hbl hbA hS (el_in 5 (by decide) hi hL) dL_law_189 ?_
  refine el_k8 (ed_rV S hK hM (c_X8_addClient _ D cy B (xs (nI i + 1).toNatClampNeg) (xs (nI i + 2).toNatClampNeg) (xs (nI i + 3).toNatClampNeg) (xs (nI i + 4).toNatClampNeg) (xs (nI i + 5).toNatClampNeg) μ r μ1 h1) (cwV 5 S.2.2.2.2 (ed_gV ed_w2_90 ed_w2_91 ed_w2_92 ed_w1_1 ed_w2_93) rfl rfl rfl hd_X8_addClient ⟨Nat.le_of_ble_eq_true rfl, Nat.le_of_ble_eq_true rfl⟩) (ed_rc (q := (RX8, TX8, 6)) (r := (μ 7 14 0)) hK hM ed_v14 rfl (ed_e14 cy B 7 0 _) rfl) rfl hl.1 rfl (Nat.le_of_ble_eq_true rfl) dL_law_190 ⟨Nat.le_of_ble_eq_true rfl, Nat.le_of_ble_eq_true rfl⟩) hN hS (fun H locs hM hN hS => ?_)
  refine lv_aload_n S.1 S.2.1 dL_law_193 rfl (lv_at hl 2 rfl) ?_
  refine lv_aload_n S.1 S.2.1 dL_law_194 rfl (lv_at hl 0 rfl) ?_
  refine lv_iload_n S.1 S.2.1 dL_law_195 rfl (lv_at hl 3 rfl) ?_
  refine lv_iconst (v := 1) S.1 S.2.1 dL_law_196 (by decide) ?_
  refine lv_iadd S.1 S.2.1 dL_law_197 ?_
  refine va_sld S.1 S.2.1 hX hbl hbA hS (el_in 1 (by decide) hi hL) dL_law_198 ?_
  refine lv_aload_n S.1 S.2.1 dL_law_199 rfl (lv_at hl 0 rfl) ?_
  refine lv_iload_n S.1 S.2.1 dL_law_200 rfl (lv_at hl 3 rfl) ?_
  refine lv_iconst (v := 2) S.1 S.2.1 dL_law_201 (by decide) ?_
  refine lv_iadd S.1 S.2.1 dL_law_202 ?_
  refine va_sld S.1 S.2.1 hX hbl hbA hS (el_in 2 (by decide) hi hL) dL_law_203 ?_
  refine lv_aload_n S.1 S.2.1 dL_law_204 rfl (lv_at hl 0 rfl) ?_
  refine lv_iload_n S.1 S.2.1 dL_law_205 rfl (lv_at hl 3 rfl) ?_
  refine lv_iconst (v := 3) S.1 S.2.1 dL_law_206 (by decide) ?_
  refine lv_iadd S.1 S.2.1 dL_law_207 ?_
  refine va_sld S.1 S.2.1 hX hbl hbA hS (el_in 3 (by decide) hi hL) dL_law_208 ?_
  refine lv_aload_n S.1 S.2.1 dL_law_209 rfl (lv_at hl 0 rfl) ?_
  refine lv_iload_n S.1 S.2.1 dL_law_210 rfl (lv_at hl 3 rfl) ?_
  refine lv_iconst (v := 4) S.1 S.2.1 dL_law_211 (by decide) ?_
  refine lv_iadd S.1 S.2.1 dL_law_212 ?_
  refine va_sld S.1 S.2.1 hX hbl hbA hS (el_in 4 (by decide) hi hL) dL_law_213 ?_
  refine lv_aload_n S.1 S.2.1 dL_law_214 rfl (lv_at hl 0 rfl) ?_
  refine lv_iload_n S.1 S.2.1 dL_law_215 rfl (lv_at hl 3 rfl) ?_
  refine lv_iconst (v := 5) S.1 S.2.1 dL_law_216 (by decide) ?_
  refine lv_iadd S.1 S.2.1 dL_law_217 ?_
  refine va_sld S.1 S.2.1 hX hbl hbA hS (el_in 5 (by decide) hi hL) dL_law_218 ?_
  refine el_k9 (ed_rV S hK hN (c_X9_addClient _ D cy (B + 1862) (xs (nI i + 1).toNatClampNeg) (xs (nI i + 2).toNatClampNeg) (xs (nI i + 3).toNatClampNeg) (xs (nI i + 4).toNatClampNeg) (xs (nI i + 5).toNatClampNeg) ν r ν1 h2) (cwV 5 S.2.2.2.2 (ed_gV ed_w4_67 ed_w4_68 ed_w4_69 ed_w1_10 ed_w4_70) rfl rfl rfl hd_X9_addClient ⟨Nat.le_of_ble_eq_true rfl, Nat.le_of_ble_eq_true rfl⟩) (em_rc hK hN) rfl hl.1 rfl (Nat.le_of_ble_eq_true rfl) dL_law_219 ⟨Nat.le_of_ble_eq_true rfl, Nat.le_of_ble_eq_true rfl⟩) hM hS (fun H locs hN hM hS => ?_)
  refine lv_icmp_eq (tgt := 989) S.1 S.2.1 dL_law_222 (by decide) (fun _ => ?_) (fun q => absurd rfl q)
  exact kk _ _ _ _ _ hM hN hR hS hl
set_option maxHeartbeats 4000000 in
set_option maxRecDepth 100000 in
theorem w_L_227 {p : Program} {l : Launch} {e : Env} {s : State} {m : MethodId} {below : List Frame} {meth : Method} {c : Code} {b L B : Nat} {xs : Nat → Int32} {D : va_G} {cy : Nat → ClassId} {Q : State → Prop} (S : CallFix p m c cL_law 4 s #[Value.ref b] ed_ws RL) (hK : ed_K D cy s) (hX : va_X b L xs s s.heap) (hbl : b < s.heap.size) (hB : b < B) (hL : L ≤ 3072) {i : Nat} (hi : i + 6 ≤ L)
    (kk : el_Go p l e s m b below meth c D cy B i Q) {μ : ed_CM} {ν : em_MM} {H : Heap} {locs : List Loc} {ls : Array Slot} (hM : ed_P D cy B μ H) (hN : em_P D cy (B + 1862) ν H) (hR : r_REL μ ν) (hS : va_S (ec_A B) s.heap H locs) (hl : lv_has ls 4 (el_lv b B i)) :
    W p l e room_1 s m #[Value.ref b] below meth c H locs 600000 7302250 Q (F0 m 227 ls []) := by
  have hbA : ¬ ec_A B b := Nat.not_le.mpr hB
  obtain ⟨r, μ1, ν1, h1, h2, hR⟩ := m_setTopics hR (xs (nI i + 1).toNatClampNeg) (xs (nI i + 2).toNatClampNeg)
  refine lv_aload_n S.1 S.2.1 dL_law_227 rfl (lv_at hl 1 rfl) ?_
  refine lv_aload_n S.1 S.2.1 dL_law_228 rfl (lv_at hl 0 rfl) ?_
  refine lv_iload_n S.1 S.2.1 dL_law_229 rfl (lv_at hl 3 rfl) ?_
  refine lv_iconst (v := 1) S.1 S.2.1 dL_law_230 (by decide) ?_
  refine lv_iadd S.1 S.2.1 dL_law_231 ?_
  refine va_sld S.1 S.2.1 hX hbl hbA hS (el_in 1 (by decide) hi hL) dL_law_232 ?_
  refine lv_aload_n S.1 S.2.1 dL_law_233 rfl (lv_at hl 0 rfl) ?_
  refine lv_iload_n S.1 S.2.1 dL_law_234 rfl (lv_at hl 3 rfl) ?_
  refine lv_iconst (v := 2) S.1 S.2.1 dL_law_235 (by decide) ?_
  refine lv_iadd S.1 S.2.1 dL_law_236 ?_
  refine va_sld S.1 S.2.1 hX hbl hbA hS (el_in 2 (by decide) hi hL) dL_law_237 ?_
  refine el_k8 (ed_rV S hK hM (c_X8_setTopics _ D cy B (xs (nI i + 1).toNatClampNeg) (xs (nI i + 2).toNatClampNeg) μ r μ1 h1) (cwV 2 S.2.2.2.2 (ed_gV ed_w2_178 ed_w2_179 ed_w2_180 ed_w1_1 ed_w2_181) rfl rfl rfl hd_X8_setTopics ⟨Nat.le_of_ble_eq_true rfl, Nat.le_of_ble_eq_true rfl⟩) (ed_rc (q := (RX8, TX8, 6)) (r := (μ 7 14 0)) hK hM ed_v14 rfl (ed_e14 cy B 7 0 _) rfl) rfl hl.1 rfl (Nat.le_of_ble_eq_true rfl) dL_law_238 ⟨Nat.le_of_ble_eq_true rfl, Nat.le_of_ble_eq_true rfl⟩) hN hS (fun H locs hM hN hS => ?_)
  refine lv_aload_n S.1 S.2.1 dL_law_241 rfl (lv_at hl 2 rfl) ?_
  refine lv_aload_n S.1 S.2.1 dL_law_242 rfl (lv_at hl 0 rfl) ?_
  refine lv_iload_n S.1 S.2.1 dL_law_243 rfl (lv_at hl 3 rfl) ?_
  refine lv_iconst (v := 1) S.1 S.2.1 dL_law_244 (by decide) ?_
  refine lv_iadd S.1 S.2.1 dL_law_245 ?_
  refine va_sld S.1 S.2.1 hX hbl hbA hS (el_in 1 (by decide) hi hL) dL_law_246 ?_
  refine lv_aload_n S.1 S.2.1 dL_law_247 rfl (lv_at hl 0 rfl) ?_
  refine lv_iload_n S.1 S.2.1 dL_law_248 rfl (lv_at hl 3 rfl) ?_
  refine lv_iconst (v := 2) S.1 S.2.1 dL_law_249 (by decide) ?_
  refine lv_iadd S.1 S.2.1 dL_law_250 ?_
  refine va_sld S.1 S.2.1 hX hbl hbA hS (el_in 2 (by decide) hi hL) dL_law_251 ?_
  refine el_k9 (ed_rV S hK hN (c_X9_setTopics _ D cy (B + 1862) (xs (nI i + 1).toNatClampNeg) (xs (nI i + 2).toNatClampNeg) ν r ν1 h2) (cwV 2 S.2.2.2.2 (ed_gV ed_w4_82 ed_w4_83 ed_w4_84 ed_w1_10 ed_w4_85) rfl rfl rfl hd_X9_setTopics ⟨Nat.le_of_ble_eq_true rfl, Nat.le_of_ble_eq_true rfl⟩) (em_rc hK hN) rfl hl.1 rfl (Nat.le_of_ble_eq_true rfl) dL_law_252 ⟨Nat.le_of_ble_eq_true rfl, Nat.le_of_ble_eq_true rfl⟩) hM hS (fun H locs hN hM hS => ?_)
  refine lv_icmp_eq (tgt := 989) S.1 S.2.1 dL_law_255 (by decide) (fun _ => ?_) (fun q => absurd rfl q)
  exact kk _ _ _ _ _ hM hN hR hS hl
set_option maxHeartbeats 4000000 in
set_option maxRecDepth 100000 in
theorem w_L_260 {p : Program} {l : Launch} {e : Env} {s : State} {m : MethodId} {below : List Frame} {meth : Method} {c : Code} {b L B : Nat} {xs : Nat → Int32} {D : va_G} {cy : Nat → ClassId} {Q : State → Prop} (S : CallFix p m c cL_law 4 s #[Value.ref b] ed_ws RL) (hK : ed_K D cy s) (hX : va_X b L xs s s.heap) (hbl : b < s.heap.size) (hB : b < B) (hL : L ≤ 3072) {i : Nat} (hi : i + 6 ≤ L)
    (kk : el_Go p l e s m b below meth c D cy B i Q) {μ : ed_CM} {ν : em_MM} {H : Heap} {locs : List Loc} {ls : Array Slot} (hM : ed_P D cy B μ H) (hN : em_P D cy (B + 1862) ν H) (hR : r_REL μ ν) (hS : va_S (ec_A B) s.heap H locs) (hl : lv_has ls 4 (el_lv b B i)) :
    W p l e room_1 s m #[Value.ref b] below meth c H locs 600000 7302250 Q (F0 m 260 ls []) := by
  have hbA : ¬ ec_A B b := Nat.not_le.mpr hB
  by_cases h0 : xs (nI i + 2).toNatClampNeg = 0
  · obtain ⟨r, μ1, ν1, h1, h2, hR⟩ := m_setUp hR (xs (nI i + 1).toNatClampNeg) 0 (Or.inl rfl)
    refine lv_aload_n S.1 S.2.1 dL_law_260 rfl (lv_at hl 1 rfl) ?_
    refine lv_aload_n S.1 S.2.1 dL_law_261 rfl (lv_at hl 0 rfl) ?_
    refine lv_iload_n S.1 S.2.1 dL_law_262 rfl (lv_at hl 3 rfl) ?_
    refine lv_iconst (v := 1) S.1 S.2.1 dL_law_263 (by decide) ?_
    refine lv_iadd S.1 S.2.1 dL_law_264 ?_
    refine va_sld S.1 S.2.1 hX hbl hbA hS (el_in 1 (by decide) hi hL) dL_law_265 ?_
    refine lv_aload_n S.1 S.2.1 dL_law_266 rfl (lv_at hl 0 rfl) ?_
    refine lv_iload_n S.1 S.2.1 dL_law_267 rfl (lv_at hl 3 rfl) ?_
    refine lv_iconst (v := 2) S.1 S.2.1 dL_law_268 (by decide) ?_
    refine lv_iadd S.1 S.2.1 dL_law_269 ?_
    refine va_sld S.1 S.2.1 hX hbl hbA hS (el_in 2 (by decide) hi hL) dL_law_270 ?_
    refine lv_if_eq (tgt := 278) S.1 S.2.1 dL_law_271 (by decide) (fun _ => ?_) (fun q => absurd h0 q)
    refine lv_iconst (v := 0) S.1 S.2.1 dL_law_278 (by decide) ?_
    refine el_k8 (ed_rV S hK hM (c_X8_setUp _ D cy B (xs (nI i + 1).toNatClampNeg) 0 μ r μ1 h1) (cwV 2 S.2.2.2.2 (ed_gV ed_w2_182 ed_w2_183 ed_w2_184 ed_w1_1 ed_w2_185) rfl rfl rfl hd_X8_setUp ⟨Nat.le_of_ble_eq_true rfl, Nat.le_of_ble_eq_true rfl⟩) (ed_rc (q := (RX8, TX8, 6)) (r := (μ 7 14 0)) hK hM ed_v14 rfl (ed_e14 cy B 7 0 _) rfl) rfl hl.1 rfl (Nat.le_of_ble_eq_true rfl) dL_law_279 ⟨Nat.le_of_ble_eq_true rfl, Nat.le_of_ble_eq_true rfl⟩) hN hS (fun H locs hM hN hS => ?_)
    refine lv_aload_n S.1 S.2.1 dL_law_282 rfl (lv_at hl 2 rfl) ?_
    refine lv_aload_n S.1 S.2.1 dL_law_283 rfl (lv_at hl 0 rfl) ?_
    refine lv_iload_n S.1 S.2.1 dL_law_284 rfl (lv_at hl 3 rfl) ?_
    refine lv_iconst (v := 1) S.1 S.2.1 dL_law_285 (by decide) ?_
    refine lv_iadd S.1 S.2.1 dL_law_286 ?_
    refine va_sld S.1 S.2.1 hX hbl hbA hS (el_in 1 (by decide) hi hL) dL_law_287 ?_
    refine lv_aload_n S.1 S.2.1 dL_law_288 rfl (lv_at hl 0 rfl) ?_
    refine lv_iload_n S.1 S.2.1 dL_law_289 rfl (lv_at hl 3 rfl) ?_
    refine lv_iconst (v := 2) S.1 S.2.1 dL_law_290 (by decide) ?_
    refine lv_iadd S.1 S.2.1 dL_law_291 ?_
    refine va_sld S.1 S.2.1 hX hbl hbA hS (el_in 2 (by decide) hi hL) dL_law_292 ?_
    refine lv_if_eq (tgt := 300) S.1 S.2.1 dL_law_293 (by decide) (fun _ => ?_) (fun q => absurd h0 q)
    refine lv_iconst (v := 0) S.1 S.2.1 dL_law_300 (by decide) ?_
    refine el_k9 (ed_rV S hK hN (c_X9_setUp _ D cy (B + 1862) (xs (nI i + 1).toNatClampNeg) 0 ν r ν1 h2) (cwV 2 S.2.2.2.2 (ed_gV ed_w4_94 ed_w4_95 ed_w4_96 ed_w1_10 ed_w4_97) rfl rfl rfl hd_X9_setUp ⟨Nat.le_of_ble_eq_true rfl, Nat.le_of_ble_eq_true rfl⟩) (em_rc hK hN) rfl hl.1 rfl (Nat.le_of_ble_eq_true rfl) dL_law_301 ⟨Nat.le_of_ble_eq_true rfl, Nat.le_of_ble_eq_true rfl⟩) hM hS (fun H locs hN hM hS => ?_)
    refine lv_icmp_eq (tgt := 989) S.1 S.2.1 dL_law_304 (by decide) (fun _ => ?_) (fun q => absurd rfl q)
    exact kk _ _ _ _ _ hM hN hR hS hl
  · obtain ⟨r, μ1, ν1, h1, h2, hR⟩ := m_setUp hR (xs (nI i + 1).toNatClampNeg) 1 (Or.inr rfl)
    refine lv_aload_n S.1 S.2.1 dL_law_260 rfl (lv_at hl 1 rfl) ?_
    refine lv_aload_n S.1 S.2.1 dL_law_261 rfl (lv_at hl 0 rfl) ?_
    refine lv_iload_n S.1 S.2.1 dL_law_262 rfl (lv_at hl 3 rfl) ?_
    refine lv_iconst (v := 1) S.1 S.2.1 dL_law_263 (by decide) ?_
    refine lv_iadd S.1 S.2.1 dL_law_264 ?_
    refine va_sld S.1 S.2.1 hX hbl hbA hS (el_in 1 (by decide) hi hL) dL_law_265 ?_
    refine lv_aload_n S.1 S.2.1 dL_law_266 rfl (lv_at hl 0 rfl) ?_
    refine lv_iload_n S.1 S.2.1 dL_law_267 rfl (lv_at hl 3 rfl) ?_
    refine lv_iconst (v := 2) S.1 S.2.1 dL_law_268 (by decide) ?_
    refine lv_iadd S.1 S.2.1 dL_law_269 ?_
    refine va_sld S.1 S.2.1 hX hbl hbA hS (el_in 2 (by decide) hi hL) dL_law_270 ?_
    refine lv_if_eq (tgt := 278) S.1 S.2.1 dL_law_271 (by decide) (fun q => absurd q h0) (fun _ => ?_)
    refine lv_iconst (v := 1) S.1 S.2.1 dL_law_274 (by decide) ?_
    refine lv_goto (tgt := 279) S.1 S.2.1 dL_law_275 (by decide) ?_
    refine el_k8 (ed_rV S hK hM (c_X8_setUp _ D cy B (xs (nI i + 1).toNatClampNeg) 1 μ r μ1 h1) (cwV 2 S.2.2.2.2 (ed_gV ed_w2_182 ed_w2_183 ed_w2_184 ed_w1_1 ed_w2_185) rfl rfl rfl hd_X8_setUp ⟨Nat.le_of_ble_eq_true rfl, Nat.le_of_ble_eq_true rfl⟩) (ed_rc (q := (RX8, TX8, 6)) (r := (μ 7 14 0)) hK hM ed_v14 rfl (ed_e14 cy B 7 0 _) rfl) rfl hl.1 rfl (Nat.le_of_ble_eq_true rfl) dL_law_279 ⟨Nat.le_of_ble_eq_true rfl, Nat.le_of_ble_eq_true rfl⟩) hN hS (fun H locs hM hN hS => ?_)
    refine lv_aload_n S.1 S.2.1 dL_law_282 rfl (lv_at hl 2 rfl) ?_
    refine lv_aload_n S.1 S.2.1 dL_law_283 rfl (lv_at hl 0 rfl) ?_
    refine lv_iload_n S.1 S.2.1 dL_law_284 rfl (lv_at hl 3 rfl) ?_
    refine lv_iconst (v := 1) S.1 S.2.1 dL_law_285 (by decide) ?_
    refine lv_iadd S.1 S.2.1 dL_law_286 ?_
    refine va_sld S.1 S.2.1 hX hbl hbA hS (el_in 1 (by decide) hi hL) dL_law_287 ?_
    refine lv_aload_n S.1 S.2.1 dL_law_288 rfl (lv_at hl 0 rfl) ?_
    refine lv_iload_n S.1 S.2.1 dL_law_289 rfl (lv_at hl 3 rfl) ?_
    refine lv_iconst (v := 2) S.1 S.2.1 dL_law_290 (by decide) ?_
    refine lv_iadd S.1 S.2.1 dL_law_291 ?_
    refine va_sld S.1 S.2.1 hX hbl hbA hS (el_in 2 (by decide) hi hL) dL_law_292 ?_
    refine lv_if_eq (tgt := 300) S.1 S.2.1 dL_law_293 (by decide) (fun q => absurd q h0) (fun _ => ?_)
    refine lv_iconst (v := 1) S.1 S.2.1 dL_law_296 (by decide) ?_
    refine lv_goto (tgt := 301) S.1 S.2.1 dL_law_297 (by decide) ?_
    refine el_k9 (ed_rV S hK hN (c_X9_setUp _ D cy (B + 1862) (xs (nI i + 1).toNatClampNeg) 1 ν r ν1 h2) (cwV 2 S.2.2.2.2 (ed_gV ed_w4_94 ed_w4_95 ed_w4_96 ed_w1_10 ed_w4_97) rfl rfl rfl hd_X9_setUp ⟨Nat.le_of_ble_eq_true rfl, Nat.le_of_ble_eq_true rfl⟩) (em_rc hK hN) rfl hl.1 rfl (Nat.le_of_ble_eq_true rfl) dL_law_301 ⟨Nat.le_of_ble_eq_true rfl, Nat.le_of_ble_eq_true rfl⟩) hM hS (fun H locs hN hM hS => ?_)
    refine lv_icmp_eq (tgt := 989) S.1 S.2.1 dL_law_304 (by decide) (fun _ => ?_) (fun q => absurd rfl q)
    exact kk _ _ _ _ _ hM hN hR hS hl
set_option maxHeartbeats 4000000 in
set_option maxRecDepth 100000 in
theorem w_L_309 {p : Program} {l : Launch} {e : Env} {s : State} {m : MethodId} {below : List Frame} {meth : Method} {c : Code} {b L B : Nat} {xs : Nat → Int32} {D : va_G} {cy : Nat → ClassId} {Q : State → Prop} (S : CallFix p m c cL_law 4 s #[Value.ref b] ed_ws RL) (hK : ed_K D cy s) (hX : va_X b L xs s s.heap) (hbl : b < s.heap.size) (hB : b < B) (hL : L ≤ 3072) {i : Nat} (hi : i + 6 ≤ L)
    (kk : el_Go p l e s m b below meth c D cy B i Q) {μ : ed_CM} {ν : em_MM} {H : Heap} {locs : List Loc} {ls : Array Slot} (hM : ed_P D cy B μ H) (hN : em_P D cy (B + 1862) ν H) (hR : r_REL μ ν) (hS : va_S (ec_A B) s.heap H locs) (hl : lv_has ls 4 (el_lv b B i)) :
    W p l e room_1 s m #[Value.ref b] below meth c H locs 600000 7302250 Q (F0 m 309 ls []) := by
  have hbA : ¬ ec_A B b := Nat.not_le.mpr hB
  obtain ⟨r, μ1, ν1, h1, h2, hR⟩ := m_setUse hR (xs (nI i + 1).toNatClampNeg)
  refine lv_aload_n S.1 S.2.1 dL_law_309 rfl (lv_at hl 1 rfl) ?_
  refine lv_aload_n S.1 S.2.1 dL_law_310 rfl (lv_at hl 0 rfl) ?_
  refine lv_iload_n S.1 S.2.1 dL_law_311 rfl (lv_at hl 3 rfl) ?_
  refine lv_iconst (v := 1) S.1 S.2.1 dL_law_312 (by decide) ?_
  refine lv_iadd S.1 S.2.1 dL_law_313 ?_
  refine va_sld S.1 S.2.1 hX hbl hbA hS (el_in 1 (by decide) hi hL) dL_law_314 ?_
  refine el_k8 (ed_rV S hK hM (c_X8_setUse _ D cy B (xs (nI i + 1).toNatClampNeg) μ r μ1 h1) (cwV 1 S.2.2.2.2 (ed_gV ed_w2_193 ed_w2_194 ed_w2_195 ed_w1_1 ed_w2_196) rfl rfl rfl hd_X8_setUse ⟨Nat.le_of_ble_eq_true rfl, Nat.le_of_ble_eq_true rfl⟩) (ed_rc (q := (RX8, TX8, 6)) (r := (μ 7 14 0)) hK hM ed_v14 rfl (ed_e14 cy B 7 0 _) rfl) rfl hl.1 rfl (Nat.le_of_ble_eq_true rfl) dL_law_315 ⟨Nat.le_of_ble_eq_true rfl, Nat.le_of_ble_eq_true rfl⟩) hN hS (fun H locs hM hN hS => ?_)
  refine lv_aload_n S.1 S.2.1 dL_law_318 rfl (lv_at hl 2 rfl) ?_
  refine lv_aload_n S.1 S.2.1 dL_law_319 rfl (lv_at hl 0 rfl) ?_
  refine lv_iload_n S.1 S.2.1 dL_law_320 rfl (lv_at hl 3 rfl) ?_
  refine lv_iconst (v := 1) S.1 S.2.1 dL_law_321 (by decide) ?_
  refine lv_iadd S.1 S.2.1 dL_law_322 ?_
  refine va_sld S.1 S.2.1 hX hbl hbA hS (el_in 1 (by decide) hi hL) dL_law_323 ?_
  refine el_k9 (ed_rV S hK hN (c_X9_setUse _ D cy (B + 1862) (xs (nI i + 1).toNatClampNeg) ν r ν1 h2) (cwV 1 S.2.2.2.2 (ed_gV ed_w4_105 ed_w4_106 ed_w4_107 ed_w1_10 ed_w4_108) rfl rfl rfl hd_X9_setUse ⟨Nat.le_of_ble_eq_true rfl, Nat.le_of_ble_eq_true rfl⟩) (em_rc hK hN) rfl hl.1 rfl (Nat.le_of_ble_eq_true rfl) dL_law_324 ⟨Nat.le_of_ble_eq_true rfl, Nat.le_of_ble_eq_true rfl⟩) hM hS (fun H locs hN hM hS => ?_)
  refine lv_icmp_eq (tgt := 989) S.1 S.2.1 dL_law_327 (by decide) (fun _ => ?_) (fun q => absurd rfl q)
  exact kk _ _ _ _ _ hM hN hR hS hl
set_option maxHeartbeats 4000000 in
set_option maxRecDepth 100000 in
theorem w_L_332 {p : Program} {l : Launch} {e : Env} {s : State} {m : MethodId} {below : List Frame} {meth : Method} {c : Code} {b L B : Nat} {xs : Nat → Int32} {D : va_G} {cy : Nat → ClassId} {Q : State → Prop} (S : CallFix p m c cL_law 4 s #[Value.ref b] ed_ws RL) (hK : ed_K D cy s) (hX : va_X b L xs s s.heap) (hbl : b < s.heap.size) (hB : b < B) (hL : L ≤ 3072) {i : Nat} (hi : i + 6 ≤ L)
    (kk : el_Go p l e s m b below meth c D cy B i Q) {μ : ed_CM} {ν : em_MM} {H : Heap} {locs : List Loc} {ls : Array Slot} (hM : ed_P D cy B μ H) (hN : em_P D cy (B + 1862) ν H) (hR : r_REL μ ν) (hS : va_S (ec_A B) s.heap H locs) (hl : lv_has ls 4 (el_lv b B i)) :
    W p l e room_1 s m #[Value.ref b] below meth c H locs 600000 7302250 Q (F0 m 332 ls []) := by
  have hbA : ¬ ec_A B b := Nat.not_le.mpr hB
  obtain ⟨r, μ1, ν1, h1, h2, hR⟩ := m_pay hR (xs (nI i + 1).toNatClampNeg) (xs (nI i + 2).toNatClampNeg)
  refine lv_aload_n S.1 S.2.1 dL_law_332 rfl (lv_at hl 1 rfl) ?_
  refine lv_aload_n S.1 S.2.1 dL_law_333 rfl (lv_at hl 0 rfl) ?_
  refine lv_iload_n S.1 S.2.1 dL_law_334 rfl (lv_at hl 3 rfl) ?_
  refine lv_iconst (v := 1) S.1 S.2.1 dL_law_335 (by decide) ?_
  refine lv_iadd S.1 S.2.1 dL_law_336 ?_
  refine va_sld S.1 S.2.1 hX hbl hbA hS (el_in 1 (by decide) hi hL) dL_law_337 ?_
  refine lv_aload_n S.1 S.2.1 dL_law_338 rfl (lv_at hl 0 rfl) ?_
  refine lv_iload_n S.1 S.2.1 dL_law_339 rfl (lv_at hl 3 rfl) ?_
  refine lv_iconst (v := 2) S.1 S.2.1 dL_law_340 (by decide) ?_
  refine lv_iadd S.1 S.2.1 dL_law_341 ?_
  refine va_sld S.1 S.2.1 hX hbl hbA hS (el_in 2 (by decide) hi hL) dL_law_342 ?_
  refine el_k8 (ed_rV S hK hM (c_X8_pay _ D cy B (xs (nI i + 1).toNatClampNeg) (xs (nI i + 2).toNatClampNeg) μ r μ1 h1) (cwV 2 S.2.2.2.2 (ed_gV ed_w2_197 ed_w2_198 ed_w2_199 ed_w1_1 ed_w2_200) rfl rfl rfl hd_X8_pay ⟨Nat.le_of_ble_eq_true rfl, Nat.le_of_ble_eq_true rfl⟩) (ed_rc (q := (RX8, TX8, 6)) (r := (μ 7 14 0)) hK hM ed_v14 rfl (ed_e14 cy B 7 0 _) rfl) rfl hl.1 rfl (Nat.le_of_ble_eq_true rfl) dL_law_343 ⟨Nat.le_of_ble_eq_true rfl, Nat.le_of_ble_eq_true rfl⟩) hN hS (fun H locs hM hN hS => ?_)
  refine lv_aload_n S.1 S.2.1 dL_law_346 rfl (lv_at hl 2 rfl) ?_
  refine lv_aload_n S.1 S.2.1 dL_law_347 rfl (lv_at hl 0 rfl) ?_
  refine lv_iload_n S.1 S.2.1 dL_law_348 rfl (lv_at hl 3 rfl) ?_
  refine lv_iconst (v := 1) S.1 S.2.1 dL_law_349 (by decide) ?_
  refine lv_iadd S.1 S.2.1 dL_law_350 ?_
  refine va_sld S.1 S.2.1 hX hbl hbA hS (el_in 1 (by decide) hi hL) dL_law_351 ?_
  refine lv_aload_n S.1 S.2.1 dL_law_352 rfl (lv_at hl 0 rfl) ?_
  refine lv_iload_n S.1 S.2.1 dL_law_353 rfl (lv_at hl 3 rfl) ?_
  refine lv_iconst (v := 2) S.1 S.2.1 dL_law_354 (by decide) ?_
  refine lv_iadd S.1 S.2.1 dL_law_355 ?_
  refine va_sld S.1 S.2.1 hX hbl hbA hS (el_in 2 (by decide) hi hL) dL_law_356 ?_
  refine el_k9 (ed_rV S hK hN (c_X9_pay _ D cy (B + 1862) (xs (nI i + 1).toNatClampNeg) (xs (nI i + 2).toNatClampNeg) ν r ν1 h2) (cwV 2 S.2.2.2.2 (ed_gV ed_w4_109 ed_w4_110 ed_w4_111 ed_w1_10 ed_w4_112) rfl rfl rfl hd_X9_pay ⟨Nat.le_of_ble_eq_true rfl, Nat.le_of_ble_eq_true rfl⟩) (em_rc hK hN) rfl hl.1 rfl (Nat.le_of_ble_eq_true rfl) dL_law_357 ⟨Nat.le_of_ble_eq_true rfl, Nat.le_of_ble_eq_true rfl⟩) hM hS (fun H locs hN hM hS => ?_)
  refine lv_icmp_eq (tgt := 989) S.1 S.2.1 dL_law_360 (by decide) (fun _ => ?_) (fun q => absurd rfl q)
  exact kk _ _ _ _ _ hM hN hR hS hl
set_option maxHeartbeats 4000000 in
set_option maxRecDepth 100000 in
theorem w_L_365 {p : Program} {l : Launch} {e : Env} {s : State} {m : MethodId} {below : List Frame} {meth : Method} {c : Code} {b L B : Nat} {xs : Nat → Int32} {D : va_G} {cy : Nat → ClassId} {Q : State → Prop} (S : CallFix p m c cL_law 4 s #[Value.ref b] ed_ws RL) (hK : ed_K D cy s) (hX : va_X b L xs s s.heap) (hbl : b < s.heap.size) (hB : b < B) (hL : L ≤ 3072) {i : Nat} (hi : i + 6 ≤ L)
    (kk : el_Go p l e s m b below meth c D cy B i Q) {μ : ed_CM} {ν : em_MM} {H : Heap} {locs : List Loc} {ls : Array Slot} (hM : ed_P D cy B μ H) (hN : em_P D cy (B + 1862) ν H) (hR : r_REL μ ν) (hS : va_S (ec_A B) s.heap H locs) (hl : lv_has ls 4 (el_lv b B i)) :
    W p l e room_1 s m #[Value.ref b] below meth c H locs 600000 7302250 Q (F0 m 365 ls []) := by
  have hbA : ¬ ec_A B b := Nat.not_le.mpr hB
  obtain ⟨r, μ1, ν1, h1, h2, hR⟩ := m_readStory hR
  refine lv_aload_n S.1 S.2.1 dL_law_365 rfl (lv_at hl 1 rfl) ?_
  refine el_k8 (ed_rV S hK hM (c_X8_readStory _ D cy B μ r μ1 h1) (cwV 0 S.2.2.2.2 (ed_gV ed_w2_201 ed_w2_202 ed_w2_203 ed_w1_1 ed_w2_204) rfl rfl rfl hd_X8_readStory ⟨Nat.le_of_ble_eq_true rfl, Nat.le_of_ble_eq_true rfl⟩) (ed_rc (q := (RX8, TX8, 6)) (r := (μ 7 14 0)) hK hM ed_v14 rfl (ed_e14 cy B 7 0 _) rfl) rfl hl.1 rfl (Nat.le_of_ble_eq_true rfl) dL_law_366 ⟨Nat.le_of_ble_eq_true rfl, Nat.le_of_ble_eq_true rfl⟩) hN hS (fun H locs hM hN hS => ?_)
  refine lv_aload_n S.1 S.2.1 dL_law_369 rfl (lv_at hl 2 rfl) ?_
  refine el_k9 (ed_rV S hK hN (c_X9_readStory _ D cy (B + 1862) ν r ν1 h2) (cwV 0 S.2.2.2.2 (ed_gV ed_w4_125 ed_w4_126 ed_w4_127 ed_w1_10 ed_w4_128) rfl rfl rfl hd_X9_readStory ⟨Nat.le_of_ble_eq_true rfl, Nat.le_of_ble_eq_true rfl⟩) (em_rc hK hN) rfl hl.1 rfl (Nat.le_of_ble_eq_true rfl) dL_law_370 ⟨Nat.le_of_ble_eq_true rfl, Nat.le_of_ble_eq_true rfl⟩) hM hS (fun H locs hN hM hS => ?_)
  refine lv_icmp_eq (tgt := 989) S.1 S.2.1 dL_law_373 (by decide) (fun _ => ?_) (fun q => absurd rfl q)
  exact kk _ _ _ _ _ hM hN hR hS hl
set_option maxHeartbeats 4000000 in
set_option maxRecDepth 100000 in
theorem w_L_378 {p : Program} {l : Launch} {e : Env} {s : State} {m : MethodId} {below : List Frame} {meth : Method} {c : Code} {b L B : Nat} {xs : Nat → Int32} {D : va_G} {cy : Nat → ClassId} {Q : State → Prop} (S : CallFix p m c cL_law 4 s #[Value.ref b] ed_ws RL) (hK : ed_K D cy s) (hX : va_X b L xs s s.heap) (hbl : b < s.heap.size) (hB : b < B) (hL : L ≤ 3072) {i : Nat} (hi : i + 6 ≤ L)
    (kk : el_Go p l e s m b below meth c D cy B i Q) {μ : ed_CM} {ν : em_MM} {H : Heap} {locs : List Loc} {ls : Array Slot} (hM : ed_P D cy B μ H) (hN : em_P D cy (B + 1862) ν H) (hR : r_REL μ ν) (hS : va_S (ec_A B) s.heap H locs) (hl : lv_has ls 4 (el_lv b B i)) :
    W p l e room_1 s m #[Value.ref b] below meth c H locs 600000 7302250 Q (F0 m 378 ls []) := by
  have hbA : ¬ ec_A B b := Nat.not_le.mpr hB
  obtain ⟨r, μ1, ν1, h1, h2, hR⟩ := m_release hR (xs (nI i + 1).toNatClampNeg)
  refine lv_aload_n S.1 S.2.1 dL_law_378 rfl (lv_at hl 1 rfl) ?_
  refine lv_aload_n S.1 S.2.1 dL_law_379 rfl (lv_at hl 0 rfl) ?_
  refine lv_iload_n S.1 S.2.1 dL_law_380 rfl (lv_at hl 3 rfl) ?_
  refine lv_iconst (v := 1) S.1 S.2.1 dL_law_381 (by decide) ?_
  refine lv_iadd S.1 S.2.1 dL_law_382 ?_
  refine va_sld S.1 S.2.1 hX hbl hbA hS (el_in 1 (by decide) hi hL) dL_law_383 ?_
  refine el_k8 (ed_rV S hK hM (c_X8_release _ D cy B (xs (nI i + 1).toNatClampNeg) μ r μ1 h1) (cwV 1 S.2.2.2.2 (ed_gV ed_w3_13 ed_w3_14 ed_w3_15 ed_w1_1 ed_w3_16) rfl rfl rfl hd_X8_release ⟨Nat.le_of_ble_eq_true rfl, Nat.le_of_ble_eq_true rfl⟩) (ed_rc (q := (RX8, TX8, 6)) (r := (μ 7 14 0)) hK hM ed_v14 rfl (ed_e14 cy B 7 0 _) rfl) rfl hl.1 rfl (Nat.le_of_ble_eq_true rfl) dL_law_384 ⟨Nat.le_of_ble_eq_true rfl, Nat.le_of_ble_eq_true rfl⟩) hN hS (fun H locs hM hN hS => ?_)
  refine lv_aload_n S.1 S.2.1 dL_law_387 rfl (lv_at hl 2 rfl) ?_
  refine lv_aload_n S.1 S.2.1 dL_law_388 rfl (lv_at hl 0 rfl) ?_
  refine lv_iload_n S.1 S.2.1 dL_law_389 rfl (lv_at hl 3 rfl) ?_
  refine lv_iconst (v := 1) S.1 S.2.1 dL_law_390 (by decide) ?_
  refine lv_iadd S.1 S.2.1 dL_law_391 ?_
  refine va_sld S.1 S.2.1 hX hbl hbA hS (el_in 1 (by decide) hi hL) dL_law_392 ?_
  refine el_k9 (ed_rV S hK hN (c_X9_release _ D cy (B + 1862) (xs (nI i + 1).toNatClampNeg) ν r ν1 h2) (cwV 1 S.2.2.2.2 (ed_gV ed_w4_156 ed_w4_157 ed_w4_158 ed_w1_10 ed_w4_159) rfl rfl rfl hd_X9_release ⟨Nat.le_of_ble_eq_true rfl, Nat.le_of_ble_eq_true rfl⟩) (em_rc hK hN) rfl hl.1 rfl (Nat.le_of_ble_eq_true rfl) dL_law_393 ⟨Nat.le_of_ble_eq_true rfl, Nat.le_of_ble_eq_true rfl⟩) hM hS (fun H locs hN hM hS => ?_)
  refine lv_icmp_eq (tgt := 989) S.1 S.2.1 dL_law_396 (by decide) (fun _ => ?_) (fun q => absurd rfl q)
  exact kk _ _ _ _ _ hM hN hR hS hl
set_option maxHeartbeats 4000000 in
set_option maxRecDepth 100000 in
theorem w_L_401 {p : Program} {l : Launch} {e : Env} {s : State} {m : MethodId} {below : List Frame} {meth : Method} {c : Code} {b L B : Nat} {xs : Nat → Int32} {D : va_G} {cy : Nat → ClassId} {Q : State → Prop} (S : CallFix p m c cL_law 4 s #[Value.ref b] ed_ws RL) (hK : ed_K D cy s) (hX : va_X b L xs s s.heap) (hbl : b < s.heap.size) (hB : b < B) (hL : L ≤ 3072) {i : Nat} (hi : i + 6 ≤ L)
    (kk : el_Go p l e s m b below meth c D cy B i Q) {μ : ed_CM} {ν : em_MM} {H : Heap} {locs : List Loc} {ls : Array Slot} (hM : ed_P D cy B μ H) (hN : em_P D cy (B + 1862) ν H) (hR : r_REL μ ν) (hS : va_S (ec_A B) s.heap H locs) (hl : lv_has ls 4 (el_lv b B i)) :
    W p l e room_1 s m #[Value.ref b] below meth c H locs 600000 7302250 Q (F0 m 401 ls []) := by
  have hbA : ¬ ec_A B b := Nat.not_le.mpr hB
  obtain ⟨r, μ1, ν1, h1, h2, hR⟩ := m_hold hR (xs (nI i + 1).toNatClampNeg)
  refine lv_aload_n S.1 S.2.1 dL_law_401 rfl (lv_at hl 1 rfl) ?_
  refine lv_aload_n S.1 S.2.1 dL_law_402 rfl (lv_at hl 0 rfl) ?_
  refine lv_iload_n S.1 S.2.1 dL_law_403 rfl (lv_at hl 3 rfl) ?_
  refine lv_iconst (v := 1) S.1 S.2.1 dL_law_404 (by decide) ?_
  refine lv_iadd S.1 S.2.1 dL_law_405 ?_
  refine va_sld S.1 S.2.1 hX hbl hbA hS (el_in 1 (by decide) hi hL) dL_law_406 ?_
  refine el_k8 (ed_rV S hK hM (c_X8_hold _ D cy B (xs (nI i + 1).toNatClampNeg) μ r μ1 h1) (cwV 1 S.2.2.2.2 (ed_gV ed_w3_25 ed_w3_26 ed_w3_27 ed_w1_1 ed_w3_28) rfl rfl rfl hd_X8_hold ⟨Nat.le_of_ble_eq_true rfl, Nat.le_of_ble_eq_true rfl⟩) (ed_rc (q := (RX8, TX8, 6)) (r := (μ 7 14 0)) hK hM ed_v14 rfl (ed_e14 cy B 7 0 _) rfl) rfl hl.1 rfl (Nat.le_of_ble_eq_true rfl) dL_law_407 ⟨Nat.le_of_ble_eq_true rfl, Nat.le_of_ble_eq_true rfl⟩) hN hS (fun H locs hM hN hS => ?_)
  refine lv_aload_n S.1 S.2.1 dL_law_410 rfl (lv_at hl 2 rfl) ?_
  refine lv_aload_n S.1 S.2.1 dL_law_411 rfl (lv_at hl 0 rfl) ?_
  refine lv_iload_n S.1 S.2.1 dL_law_412 rfl (lv_at hl 3 rfl) ?_
  refine lv_iconst (v := 1) S.1 S.2.1 dL_law_413 (by decide) ?_
  refine lv_iadd S.1 S.2.1 dL_law_414 ?_
  refine va_sld S.1 S.2.1 hX hbl hbA hS (el_in 1 (by decide) hi hL) dL_law_415 ?_
  refine el_k9 (ed_rV S hK hN (c_X9_hold _ D cy (B + 1862) (xs (nI i + 1).toNatClampNeg) ν r ν1 h2) (cwV 1 S.2.2.2.2 (ed_gV ed_w4_172 ed_w4_173 ed_w4_174 ed_w1_10 ed_w4_175) rfl rfl rfl hd_X9_hold ⟨Nat.le_of_ble_eq_true rfl, Nat.le_of_ble_eq_true rfl⟩) (em_rc hK hN) rfl hl.1 rfl (Nat.le_of_ble_eq_true rfl) dL_law_416 ⟨Nat.le_of_ble_eq_true rfl, Nat.le_of_ble_eq_true rfl⟩) hM hS (fun H locs hN hM hS => ?_)
  refine lv_icmp_eq (tgt := 989) S.1 S.2.1 dL_law_419 (by decide) (fun _ => ?_) (fun q => absurd rfl q)
  exact kk _ _ _ _ _ hM hN hR hS hl
set_option maxHeartbeats 4000000 in
set_option maxRecDepth 100000 in
theorem w_L_424 {p : Program} {l : Launch} {e : Env} {s : State} {m : MethodId} {below : List Frame} {meth : Method} {c : Code} {b L B : Nat} {xs : Nat → Int32} {D : va_G} {cy : Nat → ClassId} {Q : State → Prop} (S : CallFix p m c cL_law 4 s #[Value.ref b] ed_ws RL) (hK : ed_K D cy s) (hX : va_X b L xs s s.heap) (hbl : b < s.heap.size) (hB : b < B) (hL : L ≤ 3072) {i : Nat} (hi : i + 6 ≤ L)
    (kk : el_Go p l e s m b below meth c D cy B i Q) {μ : ed_CM} {ν : em_MM} {H : Heap} {locs : List Loc} {ls : Array Slot} (hM : ed_P D cy B μ H) (hN : em_P D cy (B + 1862) ν H) (hR : r_REL μ ν) (hS : va_S (ec_A B) s.heap H locs) (hl : lv_has ls 4 (el_lv b B i)) :
    W p l e room_1 s m #[Value.ref b] below meth c H locs 600000 7302250 Q (F0 m 424 ls []) := by
  have hbA : ¬ ec_A B b := Nat.not_le.mpr hB
  obtain ⟨r, μ1, ν1, h1, h2, hR⟩ := m_setEmbargo hR (xs (nI i + 1).toNatClampNeg) (xs (nI i + 2).toNatClampNeg)
  refine lv_aload_n S.1 S.2.1 dL_law_424 rfl (lv_at hl 1 rfl) ?_
  refine lv_aload_n S.1 S.2.1 dL_law_425 rfl (lv_at hl 0 rfl) ?_
  refine lv_iload_n S.1 S.2.1 dL_law_426 rfl (lv_at hl 3 rfl) ?_
  refine lv_iconst (v := 1) S.1 S.2.1 dL_law_427 (by decide) ?_
  refine lv_iadd S.1 S.2.1 dL_law_428 ?_
  refine va_sld S.1 S.2.1 hX hbl hbA hS (el_in 1 (by decide) hi hL) dL_law_429 ?_
  refine lv_aload_n S.1 S.2.1 dL_law_430 rfl (lv_at hl 0 rfl) ?_
  refine lv_iload_n S.1 S.2.1 dL_law_431 rfl (lv_at hl 3 rfl) ?_
  refine lv_iconst (v := 2) S.1 S.2.1 dL_law_432 (by decide) ?_
  refine lv_iadd S.1 S.2.1 dL_law_433 ?_
  refine va_sld S.1 S.2.1 hX hbl hbA hS (el_in 2 (by decide) hi hL) dL_law_434 ?_
  refine el_k8 (ed_rV S hK hM (c_X8_setEmbargo _ D cy B (xs (nI i + 1).toNatClampNeg) (xs (nI i + 2).toNatClampNeg) μ r μ1 h1) (cwV 2 S.2.2.2.2 (ed_gV ed_w3_32 ed_w3_33 ed_w3_34 ed_w1_1 ed_w3_35) rfl rfl rfl hd_X8_setEmbargo ⟨Nat.le_of_ble_eq_true rfl, Nat.le_of_ble_eq_true rfl⟩) (ed_rc (q := (RX8, TX8, 6)) (r := (μ 7 14 0)) hK hM ed_v14 rfl (ed_e14 cy B 7 0 _) rfl) rfl hl.1 rfl (Nat.le_of_ble_eq_true rfl) dL_law_435 ⟨Nat.le_of_ble_eq_true rfl, Nat.le_of_ble_eq_true rfl⟩) hN hS (fun H locs hM hN hS => ?_)
  refine lv_aload_n S.1 S.2.1 dL_law_438 rfl (lv_at hl 2 rfl) ?_
  refine lv_aload_n S.1 S.2.1 dL_law_439 rfl (lv_at hl 0 rfl) ?_
  refine lv_iload_n S.1 S.2.1 dL_law_440 rfl (lv_at hl 3 rfl) ?_
  refine lv_iconst (v := 1) S.1 S.2.1 dL_law_441 (by decide) ?_
  refine lv_iadd S.1 S.2.1 dL_law_442 ?_
  refine va_sld S.1 S.2.1 hX hbl hbA hS (el_in 1 (by decide) hi hL) dL_law_443 ?_
  refine lv_aload_n S.1 S.2.1 dL_law_444 rfl (lv_at hl 0 rfl) ?_
  refine lv_iload_n S.1 S.2.1 dL_law_445 rfl (lv_at hl 3 rfl) ?_
  refine lv_iconst (v := 2) S.1 S.2.1 dL_law_446 (by decide) ?_
  refine lv_iadd S.1 S.2.1 dL_law_447 ?_
  refine va_sld S.1 S.2.1 hX hbl hbA hS (el_in 2 (by decide) hi hL) dL_law_448 ?_
  refine el_k9 (ed_rV S hK hN (c_X9_setEmbargo _ D cy (B + 1862) (xs (nI i + 1).toNatClampNeg) (xs (nI i + 2).toNatClampNeg) ν r ν1 h2) (cwV 2 S.2.2.2.2 (ed_gV ed_w4_176 ed_w4_177 ed_w4_178 ed_w1_10 ed_w4_179) rfl rfl rfl hd_X9_setEmbargo ⟨Nat.le_of_ble_eq_true rfl, Nat.le_of_ble_eq_true rfl⟩) (em_rc hK hN) rfl hl.1 rfl (Nat.le_of_ble_eq_true rfl) dL_law_449 ⟨Nat.le_of_ble_eq_true rfl, Nat.le_of_ble_eq_true rfl⟩) hM hS (fun H locs hN hM hS => ?_)
  refine lv_icmp_eq (tgt := 989) S.1 S.2.1 dL_law_452 (by decide) (fun _ => ?_) (fun q => absurd rfl q)
  exact kk _ _ _ _ _ hM hN hR hS hl
set_option maxHeartbeats 4000000 in
set_option maxRecDepth 100000 in
theorem w_L_457 {p : Program} {l : Launch} {e : Env} {s : State} {m : MethodId} {below : List Frame} {meth : Method} {c : Code} {b L B : Nat} {xs : Nat → Int32} {D : va_G} {cy : Nat → ClassId} {Q : State → Prop} (S : CallFix p m c cL_law 4 s #[Value.ref b] ed_ws RL) (hK : ed_K D cy s) (hX : va_X b L xs s s.heap) (hbl : b < s.heap.size) (hB : b < B) (hL : L ≤ 3072) {i : Nat} (hi : i + 6 ≤ L)
    (kk : el_Go p l e s m b below meth c D cy B i Q) {μ : ed_CM} {ν : em_MM} {H : Heap} {locs : List Loc} {ls : Array Slot} (hM : ed_P D cy B μ H) (hN : em_P D cy (B + 1862) ν H) (hR : r_REL μ ν) (hS : va_S (ec_A B) s.heap H locs) (hl : lv_has ls 4 (el_lv b B i)) :
    W p l e room_1 s m #[Value.ref b] below meth c H locs 600000 7302250 Q (F0 m 457 ls []) := by
  have hbA : ¬ ec_A B b := Nat.not_le.mpr hB
  obtain ⟨r, μ1, ν1, h1, h2, hR⟩ := m_correct hR (xs (nI i + 1).toNatClampNeg)
  refine lv_aload_n S.1 S.2.1 dL_law_457 rfl (lv_at hl 1 rfl) ?_
  refine lv_aload_n S.1 S.2.1 dL_law_458 rfl (lv_at hl 0 rfl) ?_
  refine lv_iload_n S.1 S.2.1 dL_law_459 rfl (lv_at hl 3 rfl) ?_
  refine lv_iconst (v := 1) S.1 S.2.1 dL_law_460 (by decide) ?_
  refine lv_iadd S.1 S.2.1 dL_law_461 ?_
  refine va_sld S.1 S.2.1 hX hbl hbA hS (el_in 1 (by decide) hi hL) dL_law_462 ?_
  refine el_k8 (ed_rV S hK hM (c_X8_correct _ D cy B (xs (nI i + 1).toNatClampNeg) μ r μ1 h1) (cwV 1 S.2.2.2.2 (ed_gV ed_w3_36 ed_w3_37 ed_w3_38 ed_w1_1 ed_w3_39) rfl rfl rfl hd_X8_correct ⟨Nat.le_of_ble_eq_true rfl, Nat.le_of_ble_eq_true rfl⟩) (ed_rc (q := (RX8, TX8, 6)) (r := (μ 7 14 0)) hK hM ed_v14 rfl (ed_e14 cy B 7 0 _) rfl) rfl hl.1 rfl (Nat.le_of_ble_eq_true rfl) dL_law_463 ⟨Nat.le_of_ble_eq_true rfl, Nat.le_of_ble_eq_true rfl⟩) hN hS (fun H locs hM hN hS => ?_)
  refine lv_aload_n S.1 S.2.1 dL_law_466 rfl (lv_at hl 2 rfl) ?_
  refine lv_aload_n S.1 S.2.1 dL_law_467 rfl (lv_at hl 0 rfl) ?_
  refine lv_iload_n S.1 S.2.1 dL_law_468 rfl (lv_at hl 3 rfl) ?_
  refine lv_iconst (v := 1) S.1 S.2.1 dL_law_469 (by decide) ?_
  refine lv_iadd S.1 S.2.1 dL_law_470 ?_
  refine va_sld S.1 S.2.1 hX hbl hbA hS (el_in 1 (by decide) hi hL) dL_law_471 ?_
  refine el_k9 (ed_rV S hK hN (c_X9_correct _ D cy (B + 1862) (xs (nI i + 1).toNatClampNeg) ν r ν1 h2) (cwV 1 S.2.2.2.2 (ed_gV ed_w4_180 ed_w4_181 ed_w4_182 ed_w1_10 ed_w4_183) rfl rfl rfl hd_X9_correct ⟨Nat.le_of_ble_eq_true rfl, Nat.le_of_ble_eq_true rfl⟩) (em_rc hK hN) rfl hl.1 rfl (Nat.le_of_ble_eq_true rfl) dL_law_472 ⟨Nat.le_of_ble_eq_true rfl, Nat.le_of_ble_eq_true rfl⟩) hM hS (fun H locs hN hM hS => ?_)
  refine lv_icmp_eq (tgt := 989) S.1 S.2.1 dL_law_475 (by decide) (fun _ => ?_) (fun q => absurd rfl q)
  exact kk _ _ _ _ _ hM hN hR hS hl
