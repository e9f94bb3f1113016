/-! The constructor of History: its walk. -/
theorem ec_m16 (k : Nat) (hk : k < 4) : ed_oF ((ed_m1 7 16 0 k).toNatClampNeg % 7) 0 0 = 798 + 265 * k := by
  rcases (show k = 0 ∨ k = 1 ∨ k = 2 ∨ k = 3 by omega) with rfl | rfl | rfl | rfl <;> decide
set_option maxHeartbeats 1500000 in
set_option maxRecDepth 100000 in
theorem c_X2_init (l : Launch) (D : va_G) (cy : Nat → ClassId) (B n : Nat) (hn : n = 796) (f : Nat → va_E) (hf : f n = .inr (2, [.null, .int 0])) :
    Met l yX2_init wsX2_init { frames := 3, cells := 1061, slots := 7844, locals := 140 } (ec_pC D cy (ec_P D B (n + 1) f) [.ref (B + n)]) (ed_qV (ec_A B) (ec_P D B 1858 (fun x => if x < 796 then f x else ec_st cy B x))) 1061 7844 (ec_A B) := by
  refine Met.ofW (cc := cX2_init) (maxL := 2) (ret := none) (by decide) rfl ?_
  intro p e s m args below meth c s₁ B0 hml hv
  obtain ⟨rfl, hM, hK, hAO⟩ := hv
  have S : CallFix p m c cX2_init 2 s _ ed_ws RX2 := ⟨B0.exec, B0.bytes, hml, findClass_of_methodNamed B0.named, fun w hw => atoms_spec (ws := wsX2_init) B0.pre w (List.mem_cons_of_mem _ hw)⟩
  have hr := B0.returns
  have hlocks := B0.notSynchronized
  have hin : meth.name = "<init>" := (name_of_methodNamed B0.named B0.method).1
  have hS : va_S (ec_A B) s.heap s.heap [] := va_S.rf
  have hl := lv_entry ([.ref (B + n)]) (n := 2) (Nat.le_of_ble_eq_true rfl)
  rw [lg_entry_eq]
  generalize (lg_sl ([.ref (B + n)]) ++ List.replicate (2 - (lg_sl ([.ref (B + n)])).length) Slot.unset).toArray = ls at hl ⊢
  have hl : lv_has ls 2 [(0, .ref (B + n))] := hl
  refine lv_aload_n S.1 S.2.1 dX2_init_0 rfl (lv_at hl 0 rfl) ?_
  refine W.objInit S.1 S.2.1 S.2.2.2.1 (S.2.2.2.2 _ ed_w2_17) (S.2.2.2.2 _ ed_w1_18) (S.2.2.2.2 _ ed_w1_19) rfl (by rw [hml]; exact hl.1) rfl dX2_init_1 (Nat.le_of_ble_eq_true rfl) (Nat.le_of_ble_eq_true rfl) ?_
  refine W.eq (g2 := F0 m 4 ls []) rfl ?_
  refine lv_aload_n S.1 S.2.1 dX2_init_4 rfl (lv_at hl 0 rfl) ?_
  refine lv_iconst (v := 4) S.1 S.2.1 dX2_init_5 (by decide) ?_
  refine ec_newq (t := 5) S ed_w2_18 hAO.2.2.2.2 hK rfl hM hS (N := 4) (by decide) (by decide) (Nat.le_of_ble_eq_true rfl) (Nat.le_of_ble_eq_true rfl) (Nat.le_of_ble_eq_true rfl) dX2_init_6 (fun H hM hS => ?_)
  refine ec_putF (o := n) S ed_uX2 tyX2 tyX2_ok nmX2 hK hM hS (by omega) (by rw [ec_ne _ _ (by omega)]; exact hf) rfl 0 (by decide) ed_w2_21 rfl rfl hin rfl rfl rfl dX2_init_9 (fun H locs hM hS _ => ?_) (Nat.le_of_ble_eq_true rfl)
  generalize hG : ec_f _ n _ = G0 at hM
  have g0 : G0 796 = .inr (2, [.ref (B + 797), .int 0]) := by
    rw [← hG, ← hn, ec_eq, show 797 = n + 1 by omega]
    rfl
  have g1 : G0 797 = ec_Q (cy 5) 4 (fun k => if k < 0 then some (B + (798 + 265 * k)) else none) := by
    rw [← hG, show 797 = n + 1 by omega, ec_ne _ _ (by omega), ec_eq]
    rfl
  have gl : ∀ x, x < 796 → G0 x = f x := fun x hx => by rw [← hG, ec_ne _ _ (by omega), ec_ne _ _ (by omega)]
  have hM : ec_P D B (798 + 265 * 0) G0 H := by
    rw [hn] at hM
    exact hM
  refine lv_iconst (v := 0) S.1 S.2.1 dX2_init_12 (by decide) ?_
  refine lv_istore_n (lv' := [(1, .int 0), (0, .ref (B + n))]) S.1 S.2.1 dX2_init_13 rfl hl (by decide) rfl (fun ls hl => ?_)
  refine w_X2_init_14 S hK hAO ⟨Nat.le_of_ble_eq_true rfl, Nat.le_of_ble_eq_true rfl, Nat.le_of_ble_eq_true rfl, Nat.le_of_ble_eq_true rfl⟩ f hn (fun F H locs ls hM hI hS hl => ?_) 4 0 (by omega) G0 H locs ls hM ⟨gl, g0, g1, fun x h1 h2 => by omega⟩ hS (lv_sub hl [1, 0] rfl)
  have hM : ec_P D B 1858 F H := hM
  have hM1 := ec_q hM (by omega) hI.2.2.1 (g' := fun k => some (B + ed_oF ((ed_m1 7 16 0 k).toNatClampNeg % 7) 0 0)) (fun k hk => by rw [if_pos hk, ec_m16 k hk])
  have s15 : ec_st cy B 796 = ed_ent cy B 7 15 0 (ed_m1 7 15 0) := ec_st_at cy B ed_v15
  have s16 : ec_st cy B 797 = ed_ent cy B 7 16 0 (ed_m1 7 16 0) := ec_st_at cy B ed_v16
  refine ed_rv S hr hlocks (P1 := ec_P D B 1858 (fun x => if x < 796 then f x else ec_st cy B x)) (ec_cg hM1 (fun x hx => ?_)) hS dX2_init_42
  by_cases h1 : x < 796
  · rw [if_pos h1, ec_ne _ _ (by omega), hI.1 x h1]
  rw [if_neg h1]
  by_cases h2 : x = 796
  · subst h2
    rw [s15, ec_ne _ _ (by omega), hI.2.1]
    rfl
  by_cases h3 : x = 797
  · subst h3
    rw [s16, ec_eq]
    rfl
  · rw [ec_ne _ _ h3, hI.2.2.2 x (by omega) (by omega)]
