/-! The law, from its entry. -/
theorem em_n0_f {i : Nat} (h : i ≠ 1) : em_n0 i = fun _ => 0 := by
  funext k
  exact em_n0_0 (fun q => h q.1)
theorem em_n0_1 : em_n0 1 = upd (fun _ => 0) (4 : Int32).toNatClampNeg 3 := by
  funext k
  have h4 : (4 : Int32).toNatClampNeg = 4 := by decide
  rw [h4, pr_upd]
  unfold em_n0
  by_cases hk : k = 4
  · rw [if_pos ⟨rfl, hk⟩, if_pos hk]
  · rw [if_neg (fun q => hk q.2), if_neg hk]
set_option maxHeartbeats 4000000 in
set_option maxRecDepth 100000 in
theorem whole_start {p : Program} {e : Env} {s : State} {m : MethodId} {below : List Frame} {meth : Method} {c : Code} (l : Launch) (hflags : l.flags = flags0) {b L : Nat} {xs : Nat → Int32} (hL : L ≤ 3072) (C0 : lw_At p s m meth c b L xs) : W p l e room_1 s m #[Value.ref b] below meth c s.heap [] 0 0 (lw_Z below #[Value.ref b] s) (entryFrame m ([Value.ref b] : List Value).toArray 4) := by
  obtain ⟨hx, hb, hr, hml, hown, hts, hX, hbl, hlocks, hgv⟩ := id C0
  have S : CallFix p m c cL_law 4 s #[Value.ref b] ed_ws RL := ⟨hx, hb, hml, hown, fun w hw => hts w (ed_ws_tbl hw)⟩
  obtain ⟨D, cy, hK⟩ := el_K hts
  have hAO := el_AO hts
  have hl := lv_entry ([.ref b]) (n := 4) (Nat.le_of_ble_eq_true rfl)
  rw [lg_entry_eq]
  generalize (lg_sl ([.ref b]) ++ List.replicate (4 - (lg_sl ([.ref b])).length) Slot.unset).toArray = ls at hl ⊢
  have hl : lv_has ls 4 [(0, .ref b)] := hl
  obtain ⟨B, hB⟩ : ∃ B : Nat, s.heap.size = B := ⟨_, rfl⟩
  have hM : ec_P D B 0 (fun _ => .inr (0, [])) s.heap := ⟨fun k q h => by simp [ec_w] at h, hB⟩
  have hS : va_S (ec_A B) s.heap s.heap [] := va_S.rf
  refine ec_new (ci := 8) (fs := [.null, .null, .null, .int 0, .null, .null]) S ed_uX8 tyX8 tyX8_ok ed_w1_13 ed_w1_14 ed_w1_1 hK hM hS rfl (fun j hj => by rcases (show j = 0 ∨ j = 1 ∨ j = 2 ∨ j = 3 ∨ j = 4 ∨ j = 5 by omega) with rfl | rfl | rfl | rfl | rfl | rfl <;> rfl) (Nat.le_of_ble_eq_true rfl) (Nat.le_of_ble_eq_true rfl) dL_law_0 (fun H hM hS => ?_)
  refine lv_dup S.1 S.2.1 dL_law_3 rfl ?_
  refine el_kI (ec_rI S hK hAO hM (c_X8_init _ D cy B 0 rfl _ (ec_eq _ _ _)) (cwI 0 S.2.2.2.2 (ed_gA ed_w1_17) rfl rfl rfl (S.2.2.2.2 _ ed_w1_1) (S.2.2.2.2 _ ed_w1_15) (S.2.2.2.2 _ ed_w1_16) rfl hn_X8_init ⟨Nat.le_of_ble_eq_true rfl, Nat.le_of_ble_eq_true rfl⟩) hl.1 rfl (Nat.le_of_ble_eq_true rfl) dL_law_4 ⟨Nat.le_of_ble_eq_true rfl, Nat.le_of_ble_eq_true rfl⟩) hS (fun H locs hM hS => ?_)
  refine lv_astore_n (lv' := [(1, .ref (B + 0)), (0, .ref b)]) S.1 S.2.1 dL_law_7 rfl hl (by decide) rfl (fun ls hl => ?_)
  refine va_forget (fun y hy => by rw [hB]; exact hS.2.2 y hy) ?_
  have hP8 := el_P8 hM
  have hz : H.size = B + 1862 := hM.2
  have hM2 : ec_P D (B + 1862) 0 (fun _ => .inr (0, [])) H := ⟨fun k q h => by simp [ec_w] at h, hz⟩
  have hS2 : va_S (ec_A (B + 1862)) H H [] := va_S.rf
  refine ec_new (H0 := H) (ci := 9) (fs := [.null, .null, .null, .int 0, .null, .int 0, .null, .int 0, .int 0, .null, .int 0]) S ed_uX9 tyX9 tyX9_ok ed_w4_27 ed_w4_28 ed_w1_10 hK hM2 hS2 rfl (fun j hj => by rcases (show j = 0 ∨ j = 1 ∨ j = 2 ∨ j = 3 ∨ j = 4 ∨ j = 5 ∨ j = 6 ∨ j = 7 ∨ j = 8 ∨ j = 9 ∨ j = 10 by omega) with rfl | rfl | rfl | rfl | rfl | rfl | rfl | rfl | rfl | rfl | rfl <;> rfl) (Nat.le_of_ble_eq_true rfl) (Nat.le_of_ble_eq_true rfl) dL_law_8 (fun H2 hM2 hS2 => ?_)
  refine lv_dup S.1 S.2.1 dL_law_11 rfl ?_
  refine el_kI (ec_rI S hK hAO hM2 (c_X9_init _ D cy (B + 1862) 0 _ (ec_eq _ _ _)) (cwI 0 S.2.2.2.2 (ed_gA ed_w4_31) rfl rfl rfl (S.2.2.2.2 _ ed_w1_10) (S.2.2.2.2 _ ed_w4_29) (S.2.2.2.2 _ ed_w4_30) rfl hn_X9_init ⟨Nat.le_of_ble_eq_true rfl, Nat.le_of_ble_eq_true rfl⟩) hl.1 rfl (Nat.le_of_ble_eq_true rfl) dL_law_12 ⟨Nat.le_of_ble_eq_true rfl, Nat.le_of_ble_eq_true rfl⟩) hS2 (fun H2 locs2 hM2 hS2 => ?_)
  have hN : em_P D cy (B + 1862) em_n0 H2 := el_P9 hM2 (fun x hx => by
    rcases (show x = 0 ∨ x = 1 ∨ x = 2 ∨ x = 3 ∨ x = 4 ∨ x = 5 ∨ x = 6 by omega) with rfl | rfl | rfl | rfl | rfl | rfl | rfl
    · rw [em_n0_f (by decide)]; rfl
    · rw [em_n0_1]; rfl
    · rw [em_n0_f (by decide)]; rfl
    · rw [em_n0_f (by decide)]; rfl
    · rw [em_n0_f (by decide)]; rfl
    · rw [em_n0_f (by decide)]; rfl
    · rw [em_n0_f (by decide)]; rfl)
  have hk : ∀ q : Nat, q < B + 1862 → H2[q]? = H[q]? := fun q hq => hS2.2.1 q (by rw [hz]; exact hq) (Nat.not_le.mpr hq)
  have hM : ed_P D cy B ed_m1 H2 := va_P.kept hP8 (fun k x hx => hk x.1 ((ed_w_D cy B ed_m1).2 k x hx).2)
  have hS : va_S (ec_A B) s.heap H2 locs2 := ⟨Nat.le_trans hS.1 hS2.1, fun q h1 h2 => (hk q (by omega)).trans (hS.2.1 q h1 h2), fun y hy => Nat.le_trans (Nat.le_add_right B 1862) (hS2.2.2 y hy)⟩
  refine lv_astore_n (lv' := [(2, .ref (B + 1862 + 0)), (1, .ref (B + 0)), (0, .ref b)]) S.1 S.2.1 dL_law_15 rfl hl (by decide) rfl (fun ls hl => ?_)
  refine lv_iconst (v := 0) S.1 S.2.1 dL_law_16 (by decide) ?_
  refine lv_istore_n (lv' := [(3, .int 0), (2, .ref (B + 1862 + 0)), (1, .ref (B + 0)), (0, .ref b)]) S.1 S.2.1 dL_law_17 rfl hl (by decide) rfl (fun ls hl => ?_)
  refine W.widen (k := 600000) (n := 7302250) (Nat.le_of_ble_eq_true rfl) (Nat.le_of_ble_eq_true rfl) ?_
  exact w_L_18 S hr hlocks hK hX hbl hB hL (L + 1) 0 (Nat.zero_le L) (by omega) ed_m1 em_n0 H2 locs2 ls hM hN el_R0 hS (lv_sub hl [3, 2, 1, 0] rfl)
