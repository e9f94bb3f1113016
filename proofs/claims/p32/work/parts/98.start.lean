section
variable {p : Program} {l : Launch} {e : Env} {R : Room} {s : State} {m : MethodId} {args : Array Value} {below : List Frame} {meth : Method} {c : Code} {H : Heap} {locs : List Loc} {cells slots mc ms : Nat} {Q : State → Prop}
variable {pc : Nat} {ls : Array Slot} {rest st0 : List Value} {a : Array Value} {A : Nat → Prop} {P1 : Heap → Prop} {H0 : Heap}
theorem el_kI (hr : va_Run p l e R s m args below meth c H locs cells slots mc ms (F0 m pc ls st0) rest (ed_qV A P1 a) A) (hS : va_S A H0 H locs) (kk : ∀ (H1 : Heap) (locs1 : List Loc), P1 H1 → va_S A H0 H1 locs1 → W p l e R s m args below meth c H1 locs1 (cells + mc) (slots + ms) Q (F0 m (pc + 3) ls rest)) : W p l e R s m args below meth c H locs cells slots Q (F0 m pc ls st0) := by
  refine va_callv hr hS (fun q _ h => h) (fun q h => h) (fun u t H1 locs1 ht _ _ hB _ _ hS1 => ?_)
  exact kk H1 locs1 (by rw [← ht]; exact hB) hS1
end
/-! The law, from its entry. -/
set_option maxHeartbeats 4000000 in
set_option maxRecDepth 100000 in
theorem whole_start {p : Program} {e : Env} {s : State} {m : MethodId} {below : List Frame} {meth : Method} {c : Code} (l : Launch) (hflags : l.flags = flags0) {b L : Nat} {xs : Nat → Int32} (hL : L ≤ 260) (C0 : lw_At p s m meth c b L xs) : W p l e room_1 s m #[Value.ref b] below meth c s.heap [] 0 0 (lw_Z below #[Value.ref b] s) (entryFrame m ([Value.ref b] : List Value).toArray 10) := by
  obtain ⟨hx, hb, hr, hml, hown, hts, hX, hbl, hlocks, hgv⟩ := id C0
  have S : CallFix p m c cL_law 10 s #[Value.ref b] ed_ws RL := ⟨hx, hb, hml, hown, fun w hw => hts w (ed_ws_tbl hw)⟩
  obtain ⟨D, cy, hK⟩ := el_K hts
  have hAO := el_AO hts
  have hl := lv_entry ([.ref b]) (n := 10) (Nat.le_of_ble_eq_true rfl)
  rw [lg_entry_eq]
  generalize (lg_sl ([.ref b]) ++ List.replicate (10 - (lg_sl ([.ref b])).length) Slot.unset).toArray = ls at hl ⊢
  have hl : lv_has ls 10 [(0, .ref b)] := hl
  obtain ⟨B, hB⟩ : ∃ B : Nat, s.heap.size = B := ⟨_, rfl⟩
  have hM : ec_P D B 0 (fun _ => .inr (0, [])) s.heap := ⟨fun k q h => by simp [ec_w] at h, hB⟩
  have hS : va_S (ec_A B) s.heap s.heap [] := va_S.rf
  refine ec_new (ci := 8) (fs := [.null, .null, .null, .int 0, .null, .null]) S ed_uX8 tyX8 tyX8_ok ed_w1_12 ed_w1_13 ed_w1_1 hK hM hS rfl (fun j hj => by rcases (show j = 0 ∨ j = 1 ∨ j = 2 ∨ j = 3 ∨ j = 4 ∨ j = 5 by omega) with rfl | rfl | rfl | rfl | rfl | rfl <;> rfl) (Nat.le_of_ble_eq_true rfl) (Nat.le_of_ble_eq_true rfl) dL_law_0 (fun H hM hS => ?_)
  refine lv_dup S.1 S.2.1 dL_law_3 rfl ?_
  refine el_kI (ec_rI S hK hAO hM (c_X8_init _ D cy B 0 rfl _ (ec_eq _ _ _)) (cwI 0 S.2.2.2.2 (ed_gA ed_w1_16) rfl rfl rfl (S.2.2.2.2 _ ed_w1_1) (S.2.2.2.2 _ ed_w1_14) (S.2.2.2.2 _ ed_w1_15) rfl hn_X8_init ⟨Nat.le_of_ble_eq_true rfl, Nat.le_of_ble_eq_true rfl⟩) hl.1 rfl (Nat.le_of_ble_eq_true rfl) dL_law_4 ⟨Nat.le_of_ble_eq_true rfl, Nat.le_of_ble_eq_true rfl⟩) hS (fun H locs hM hS => ?_)
  refine lv_astore_n (lv' := [(1, .ref (B + 0)), (0, .ref b)]) S.1 S.2.1 dL_law_7 rfl hl (by decide) rfl (fun ls hl => ?_)
  have hP8 := el_P8 hM
  refine W.widen (k := 1862) (n := 13796) (Nat.le_of_ble_eq_true rfl) (Nat.le_of_ble_eq_true rfl) ?_
  exact w_L_law_8 S hr hlocks hK hX hbl hB (by omega) ed_m1 (p_law xs L) H locs ls hP8 hS hl
