/-! The constructor of History. -/
def ec_Ih (cy : Nat → ClassId) (B : Nat) (f F : Nat → va_E) (i : Nat) : Prop := (∀ x, x < 796 → F x = f x) ∧ F 796 = .inr (2, [.ref (B + 797), .int 0]) ∧ F 797 = ec_Q (cy 5) 4 (fun k => if k < i then some (B + (798 + 265 * k)) else none) ∧ ∀ x, 798 ≤ x → x < 798 + 265 * i → F x = ec_st cy B x
set_option maxHeartbeats 1500000 in
set_option maxRecDepth 100000 in
theorem w_X2_init_14 {p : Program} {l : Launch} {e : Env} {R : Room} {s : State} {m : MethodId} {args : Array Value} {below : List Frame} {meth : Method} {c : Code} {D : va_G} {cy : Nat → ClassId} {B n : Nat} {Q : State → Prop} (S : CallFix p m c cX2_init 2 s args ed_ws RX2) (hK : ed_K D cy s) (hAO : ec_AO s) (hR : 3 ≤ R.frames ∧ 120 ≤ R.locals ∧ 1061 ≤ R.cells ∧ 7844 ≤ R.slots) (f : Nat → va_E) (hn : n = 796)
    (hnext : ∀ (F : Nat → va_E) (H : Heap) (locs : List Loc) (ls : Array Slot), ec_P D B (798 + 265 * 4) F H → ec_Ih cy B f F 4 → va_S (ec_A B) s.heap H locs → lv_has ls 2 [(0, .ref (B + n)), (1, .int (nI 4))] → W p l e R s m args below meth c H locs (1 + 265 * 4) (4 + 1960 * 4) Q (F0 m 42 ls [])) :
    ∀ (d i : Nat), i + d = 4 → ∀ (F : Nat → va_E) (H : Heap) (locs : List Loc) (ls : Array Slot), ec_P D B (798 + 265 * i) F H → ec_Ih cy B f F i → va_S (ec_A B) s.heap H locs → lv_has ls 2 [(0, .ref (B + n)), (1, .int (nI i))] → W p l e R s m args below meth c H locs (1 + 265 * i) (4 + 1960 * i) Q (F0 m 14 ls []) := by
  intro d
  induction d with
  | zero =>
    intro i hi F H locs ls hM hI hS hl
    obtain rfl : i = 4 := by omega
    have hF : F n = .inr (2, [.ref (B + 797), .int 0]) := by rw [hn]; exact hI.2.1
    refine lv_iload_n S.1 S.2.1 dX2_init_14 rfl (lv_at hl 1 rfl) ?_
    refine lv_aload_n S.1 S.2.1 dX2_init_15 rfl (lv_at hl 0 rfl) ?_
    refine ec_getf (o := n) S ed_uX2 hK hM (by omega) hF rfl 0 (by decide) ed_w2_21 rfl rfl dX2_init_16 ?_
    refine ec_len (o := 797) (t := 5) S hK hM (by omega) hI.2.2.1 rfl (v := nI 4) rfl dX2_init_19 ?_
    refine lv_icmp_ge (tgt := 42) S.1 S.2.1 dX2_init_20 (by decide) (fun c2 => ?_) (fun c2 => ?_)
    · exact hnext F H locs ls hM hI hS hl
    · exact absurd (by decide) c2
  | succ d ih =>
    intro i hi F H locs ls hM hI hS hl
    have hF : F n = .inr (2, [.ref (B + 797), .int 0]) := by rw [hn]; exact hI.2.1
    have e1 : nI i + 1 = nI (i + 1) := nI_add i 1
    refine lv_iload_n S.1 S.2.1 dX2_init_14 rfl (lv_at hl 1 rfl) ?_
    refine lv_aload_n S.1 S.2.1 dX2_init_15 rfl (lv_at hl 0 rfl) ?_
    refine ec_getf (o := n) S ed_uX2 hK hM (by omega) hF rfl 0 (by decide) ed_w2_21 rfl rfl dX2_init_16 ?_
    refine ec_len (o := 797) (t := 5) S hK hM (by omega) hI.2.2.1 rfl (v := nI 4) rfl dX2_init_19 ?_
    refine lv_icmp_ge (tgt := 42) S.1 S.2.1 dX2_init_20 (by decide) (fun c2 => ?_) (fun c2 => ?_)
    · rw [pr_le (by omega) (by omega)] at c2
      omega
    refine lv_aload_n S.1 S.2.1 dX2_init_23 rfl (lv_at hl 0 rfl) ?_
    refine ec_getf (o := n) S ed_uX2 hK hM (by omega) hF rfl 0 (by decide) ed_w2_21 rfl rfl dX2_init_24 ?_
    refine lv_iload_n S.1 S.2.1 dX2_init_27 rfl (lv_at hl 1 rfl) ?_
    refine ec_new (ci := 5) (fs := [.int 0, .int 0, .int 0, .int 0, .int 0, .int 0, .null, .null, .null, .null, .null]) S ed_uX5 tyX5 tyX5_ok ed_w2_18 ed_w1_21 ed_w1_2 hK hM hS rfl (fun j hj => by rcases (show j = 0 ∨ j = 1 ∨ j = 2 ∨ j = 3 ∨ j = 4 ∨ j = 5 ∨ j = 6 ∨ j = 7 ∨ j = 8 ∨ j = 9 ∨ j = 10 by omega) with rfl | rfl | rfl | rfl | rfl | rfl | rfl | rfl | rfl | rfl | rfl <;> rfl) (by omega) (by omega) dX2_init_28 (fun H hM hS => ?_)
    refine lv_dup S.1 S.2.1 dX2_init_31 rfl ?_
    have ho : ed_oS (3 + i) = 798 + 265 * i := by
      unfold ed_oS
      rw [if_neg (by omega), show 3 + i - 3 = i by omega]
    refine ec_kI (ec_rI S hK hAO hM (c_X5_init _ D cy B (3 + i) (798 + 265 * i) (by omega) ho _ (ec_eq _ _ _)) (cwI 0 S.2.2.2.2 (ed_gA ed_w1_24) rfl rfl rfl (S.2.2.2.2 _ ed_w1_2) (S.2.2.2.2 _ ed_w2_20) (S.2.2.2.2 _ ed_w1_23) rfl hn_X5_init ⟨hR.1, Nat.le_trans (Nat.le_of_ble_eq_true rfl) hR.2.1⟩) hl.1 rfl (Nat.le_of_ble_eq_true rfl) dX2_init_32 ⟨by omega, by omega⟩) hS (fun H locs hM hS => ?_)
    have st0 : ec_st cy B (798 + 265 * i) = ed_ent cy B (3 + i) 0 0 (ed_m1 (3 + i) 0 0) := by rw [← ho]; exact ec_st_at cy B (ed_v0 (by omega) 0)
    refine ec_astq (t := 5) (ci := 5) (o := 797) (o2 := 798 + 265 * i) S hK hM hS (by omega) (by rw [if_pos (by omega), ec_ne _ _ (by omega)]; exact hI.2.2.1) rfl (by omega) ((if_neg (by omega)).trans (st0.trans (ed_e0 cy B (3 + i) 0 _))) rfl (pr_in (by omega) (by omega)) dX2_init_35 (fun H locs hM hS => ?_)
    refine lv_iinc (v := nI i + 1) (lv' := [(1, .int (nI i + 1)), (0, .ref (B + n))]) S.1 S.2.1 dX2_init_36 hl (k := 1) rfl rfl (by decide) rfl (fun ls hl => ?_)
    refine lv_goto (tgt := 14) S.1 S.2.1 dX2_init_39 (by decide) ?_
    rw [e1] at hl
    have hl2 := lv_sub hl [1, 0] rfl
    rw [nI_clamp (by omega)] at hM
    generalize hG : ec_f _ 797 _ = G at hM
    have z := ih (i + 1) (by omega) G H locs ls hM ⟨fun x hx => ?_, ?_, ?_, fun x h1 h2 => ?_⟩ hS hl2
    · have ec : 1 + 265 * (i + 1) = 1 + 265 * i + 1 + 264 := by omega
      have es : 4 + 1960 * (i + 1) = 4 + 1960 * i + 11 + 1949 := by omega
      rw [ec, es] at z
      exact z
    · rw [← hG, ec_ne _ _ (by omega), if_pos (by omega), ec_ne _ _ (by omega)]
      exact hI.1 x hx
    · rw [← hG, ec_ne _ _ (by omega), if_pos (by omega), ec_ne _ _ (by omega)]
      exact hI.2.1
    · rw [← hG, ec_eq]
      unfold ec_Q
      congr 7
      funext k
      unfold va_up
      by_cases hk : k = i
      · subst hk
        rw [if_pos rfl, if_pos (by omega)]
      · rw [if_neg hk]
        by_cases hk2 : k < i
        · exact (if_pos hk2).trans (if_pos (by omega)).symm
        · exact (if_neg hk2).trans (if_neg (by omega)).symm
    · rw [← hG, ec_ne _ _ (by omega)]
      by_cases hx : x < 798 + 265 * i
      · rw [if_pos hx, ec_ne _ _ (by omega)]
        exact hI.2.2.2 x h1 hx
      · rw [if_neg hx]
