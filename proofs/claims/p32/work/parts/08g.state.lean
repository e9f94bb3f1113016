/-! The constructor of State. -/
def ec_Q (c N : Nat) (g : Nat → Option Nat) : va_E := .inl (c, N, .inr (.inr (.inr (.inr g))))
theorem ec_q {D : va_G} {B n o c N : Nat} {f : Nat → va_E} {H : Heap} {g g' : Nat → Option Nat} (h : ec_P D B n f H) (ho : o < n) (he : f o = ec_Q c N g) (hg : ∀ k, k < N → g' k = g k) : ec_P D B n (ec_f f o (ec_Q c N g')) H := by
  have hw : (ec_w B n f)[o]? = some (B + o, ec_Q c N g) := by rw [ec_at ho, he]
  refine ⟨?_, h.2⟩
  rw [← ec_set ho]
  refine h.1.set (ec_D B n f) hw ?_ (fun _ _ => rfl)
  have h1 : H[B + o]? = some (vp_cell c (N, .inr (.inr (.inr (.inr g))))) := h.1 o _ hw
  show H[B + o]? = some (vp_cell c (N, .inr (.inr (.inr (.inr g')))))
  rw [h1, vp_cell_q, vp_cell_q]
  unfold arrV
  congr 3
  funext j
  show va_rf (g j.val) = va_rf (g' j.val)
  rw [hg j.val j.isLt]
def ed_m1 : ed_CM := fun j K _ k => if j < 7 ∧ K = 0 ∧ k = 1 then 3 else if j = 7 ∧ K = 16 then nI (3 + k) else 0
def ec_st (cy : Nat → ClassId) (B : Nat) : Nat → va_E := fun x => ed_f cy B ed_m1 (B + x)
theorem ec_st_at (cy : Nat → ClassId) (B : Nat) {j K i : Nat} (h : ed_vd j K i = true) : ec_st cy B (ed_oF j K i) = ed_ent cy B j K i (ed_m1 j K i) := by
  unfold ec_st ed_f
  rw [Nat.add_sub_cancel_left, (ed_oF_spec h).2]
def ec_sE (B n : Nat) : va_E := .inr (5, [.int 0, .int 3, .int 0, .int 0, .int 0, .int 0, .ref (B + (n + 1)), .ref (B + (n + 1 + 1 + 1)), .ref (B + (n + 1 + 1 + 1 + 1)), .ref (B + (n + 1 + 1 + 1 + 1 + 1)), .ref (B + (n + 1 + 1 + 1 + 1 + 1 + 1))])
/-- what a round of the loop has made -/
def ec_I0 (cy : Nat → ClassId) (B n : Nat) (G0 F : Nat → va_E) (i : Nat) : Prop := (∀ x, x < n + 7 → x ≠ n + 3 → F x = G0 x) ∧ F (n + 3) = ec_Q (cy 1) 20 (fun k => if k < i then some (B + (n + 7 + 4 * k)) else none) ∧ ∀ k, k < i → F ((n + 7 + 4 * k)) = .inr (6, [.int 0, .int 0, .ref (B + ((n + 7 + 4 * k) + 1)), .int 0, .int 0, .ref (B + ((n + 7 + 4 * k) + 1 + 1)), .int 0, .int 0, .ref (B + ((n + 7 + 4 * k) + 1 + 1 + 1)), .int 0, .int 0]) ∧ F ((n + 7 + 4 * k) + 1) = .inl (cy 0, 3, .inl (fun _ => 0)) ∧ F ((n + 7 + 4 * k) + 1 + 1) = .inl (cy 0, 12, .inl (fun _ => 0)) ∧ F ((n + 7 + 4 * k) + 1 + 1 + 1) = .inl (cy 0, 6, .inl (fun _ => 0))
set_option maxHeartbeats 4000000 in
set_option maxRecDepth 100000 in
theorem w_X5_init_59 {p : Program} {l : Launch} {e : Env} {R : Room} {s : State} {m : MethodId} {args : Array Value} {below : List Frame} {meth : Method} {c : Code} {D : va_G} {cy : Nat → ClassId} {B n : Nat} {Q : State → Prop} (S : CallFix p m c cX5_init 2 s args ed_ws RX5) (hK : ed_K D cy s) (hAO : ec_AO s) (c0 s0 : Nat) (hR : 2 ≤ R.frames ∧ 60 ≤ R.locals ∧ c0 + 80 ≤ R.cells ∧ s0 + 640 ≤ R.slots) (G0 : Nat → va_E) (hf0 : G0 n = ec_sE B n)
    (hnext : ∀ (F : Nat → va_E) (H : Heap) (locs : List Loc) (ls : Array Slot), ec_P D B (n + 7 + 4 * 20) F H → ec_I0 cy B n G0 F 20 → va_S (ec_A B) s.heap H locs → lv_has ls 2 [(0, .ref (B + n)), (1, .int (nI 20))] → W p l e R s m args below meth c H locs (c0 + 4 * 20) (s0 + 32 * 20) Q (F0 m 87 ls [])) :
    ∀ (d i : Nat), i + d = 20 → ∀ (F : Nat → va_E) (H : Heap) (locs : List Loc) (ls : Array Slot), ec_P D B (n + 7 + 4 * i) F H → ec_I0 cy B n G0 F i → va_S (ec_A B) s.heap H locs → lv_has ls 2 [(0, .ref (B + n)), (1, .int (nI i))] → W p l e R s m args below meth c H locs (c0 + 4 * i) (s0 + 32 * i) Q (F0 m 59 ls []) := by
  intro d
  induction d with
  | zero =>
    intro i hi F H locs ls hM hI hS hl
    obtain rfl : i = 20 := by omega
    have hn : F n = ec_sE B n := (hI.1 n (by omega) (by omega)).trans hf0
    refine lv_iload_n S.1 S.2.1 dX5_init_59 rfl (lv_at hl 1 rfl) ?_
    refine lv_aload_n S.1 S.2.1 dX5_init_60 rfl (lv_at hl 0 rfl) ?_
    refine ec_getf (o := n) S ed_uX5 hK hM (by omega) hn rfl 7 (by decide) ed_w1_225 rfl rfl dX5_init_61 ?_
    refine ec_len (o := n + 3) (t := 1) S hK hM (by omega) hI.2.1 rfl (v := nI 20) rfl dX5_init_64 ?_
    refine lv_icmp_ge (tgt := 87) S.1 S.2.1 dX5_init_65 (by decide) (fun c2 => ?_) (fun c2 => ?_)
    · exact hnext F H locs ls hM hI hS hl
    · exact absurd (by decide) c2
  | succ d ih =>
    intro i hi F H locs ls hM hI hS hl
    have hn : F n = ec_sE B n := (hI.1 n (by omega) (by omega)).trans hf0
    have e1 : nI i + 1 = nI (i + 1) := nI_add i 1
    refine lv_iload_n S.1 S.2.1 dX5_init_59 rfl (lv_at hl 1 rfl) ?_
    refine lv_aload_n S.1 S.2.1 dX5_init_60 rfl (lv_at hl 0 rfl) ?_
    refine ec_getf (o := n) S ed_uX5 hK hM (by omega) hn rfl 7 (by decide) ed_w1_225 rfl rfl dX5_init_61 ?_
    refine ec_len (o := n + 3) (t := 1) S hK hM (by omega) hI.2.1 rfl (v := nI 20) rfl dX5_init_64 ?_
    refine lv_icmp_ge (tgt := 87) S.1 S.2.1 dX5_init_65 (by decide) (fun c2 => ?_) (fun c2 => ?_)
    · rw [pr_le (by omega) (by omega)] at c2
      omega
    refine lv_aload_n S.1 S.2.1 dX5_init_68 rfl (lv_at hl 0 rfl) ?_
    refine ec_getf (o := n) S ed_uX5 hK hM (by omega) hn rfl 7 (by decide) ed_w1_225 rfl rfl dX5_init_69 ?_
    refine lv_iload_n S.1 S.2.1 dX5_init_72 rfl (lv_at hl 1 rfl) ?_
    refine ec_new (ci := 6) (fs := [.int 0, .int 0, .null, .int 0, .int 0, .null, .int 0, .int 0, .null, .int 0, .int 0]) S ed_uX6 tyX6 tyX6_ok ed_w1_43 ed_w1_51 ed_w1_4 hK hM hS rfl (fun j hj => by rcases (show j = 0 ∨ j = 1 ∨ j = 2 ∨ j = 3 ∨ j = 4 ∨ j = 5 ∨ j = 6 ∨ j = 7 ∨ j = 8 ∨ j = 9 ∨ j = 10 by omega) with rfl | rfl | rfl | rfl | rfl | rfl | rfl | rfl | rfl | rfl | rfl <;> rfl) (by omega) (by omega) dX5_init_73 (fun H hM hS => ?_)
    refine lv_dup S.1 S.2.1 dX5_init_76 rfl ?_
    refine ec_kI (ec_rN S hK hAO hM (c_X6_init _ D cy B (n + 7 + 4 * i) _ (ec_eq _ _ _)) ⟨va_cnB 0 S.2.2.2.2 (ed_gA ed_w1_54) rfl rfl rfl (ed_n6 hK) (S.2.2.2.2 _ ed_w1_4) hn_X6_init ⟨hR.1, Nat.le_trans (Nat.le_of_ble_eq_true rfl) hR.2.1⟩, rfl, S.2.2.2.2 _ ed_w1_53⟩ hl.1 rfl (Nat.le_of_ble_eq_true rfl) dX5_init_77 ⟨by omega, by omega⟩) hS (fun H locs hM hS => ?_)
    refine ec_astq (t := 1) (ci := 6) (o := n + 3) (o2 := (n + 7 + 4 * i)) S hK hM hS (by omega) (by rw [ec_ne _ _ (by omega), ec_ne _ _ (by omega), ec_ne _ _ (by omega), ec_ne _ _ (by omega), ec_ne _ _ (by omega), ec_ne _ _ (by omega), ec_ne _ _ (by omega)]; exact hI.2.1) rfl (by omega) (ec_eq _ _ _) rfl (pr_in (by omega) (by omega)) dX5_init_80 (fun H locs hM hS => ?_)
    refine lv_iinc (v := nI i + 1) (lv' := [(1, .int (nI i + 1)), (0, .ref (B + n))]) S.1 S.2.1 dX5_init_81 hl (k := 1) rfl rfl (by decide) rfl (fun ls hl => ?_)
    refine lv_goto (tgt := 59) S.1 S.2.1 dX5_init_84 (by decide) ?_
    rw [e1] at hl
    have hl2 := lv_sub hl [1, 0] rfl
    rw [nI_clamp (by omega)] at hM
    generalize hG : ec_f _ (n + 3) _ = G at hM
    have go : ∀ x, x ≠ n + 3 → x < (n + 7 + 4 * i) → G x = F x := fun x h1 h2 => by
      rw [← hG, ec_ne _ _ h1, ec_ne _ _ (by omega), ec_ne _ _ (by omega), ec_ne _ _ (by omega), ec_ne _ _ (by omega), ec_ne _ _ (by omega), ec_ne _ _ (by omega), ec_ne _ _ (by omega)]
    have z := ih (i + 1) (by omega) G H locs ls hM ⟨fun x h1 h2 => (go x h2 (by omega)).trans (hI.1 x h1 h2), ?_, fun k hk => ?_⟩ hS hl2
    · have ec : c0 + 4 * (i + 1) = c0 + 4 * i + 1 + 3 := by omega
      have es : s0 + 32 * (i + 1) = s0 + 32 * i + 11 + 21 := by omega
      rw [ec, es] at z
      exact z
    · rw [← hG, ec_eq]
      unfold ec_Q
      congr 7
      funext k
      unfold va_up
      by_cases hk : k = i
      · subst hk
        rw [if_pos rfl, if_pos (by omega)]
      · rw [if_neg hk]
        by_cases hk2 : k < i
        · exact (if_pos hk2).trans (if_pos (by omega)).symm
        · exact (if_neg hk2).trans (if_neg (by omega)).symm
    · by_cases hk2 : k = i
      · subst hk2
        rw [← hG]
        refine ⟨?_, ?_, ?_, ?_⟩
        · rw [ec_ne _ _ (by omega), ec_eq]
        · rw [ec_ne _ _ (by omega), ec_ne _ _ (by omega), ec_ne _ _ (by omega), ec_ne _ _ (by omega), ec_ne _ _ (by omega), ec_ne _ _ (by omega), ec_eq]
        · rw [ec_ne _ _ (by omega), ec_ne _ _ (by omega), ec_ne _ _ (by omega), ec_ne _ _ (by omega), ec_eq]
        · rw [ec_ne _ _ (by omega), ec_ne _ _ (by omega), ec_eq]
      · refine ⟨?_, ?_, ?_, ?_⟩
        · rw [go _ (by omega) (by omega)]; exact (hI.2.2 k (by omega)).1
        · rw [go _ (by omega) (by omega)]; exact (hI.2.2 k (by omega)).2.1
        · rw [go _ (by omega) (by omega)]; exact (hI.2.2 k (by omega)).2.2.1
        · rw [go _ (by omega) (by omega)]; exact (hI.2.2 k (by omega)).2.2.2
/-- what a round of the loop has made -/
def ec_I1 (cy : Nat → ClassId) (B n : Nat) (G0 F : Nat → va_E) (i : Nat) : Prop := (∀ x, x < n + 87 → x ≠ n + 4 → F x = G0 x) ∧ F (n + 4) = ec_Q (cy 2) 8 (fun k => if k < i then some (B + (n + 87 + 1 * k)) else none) ∧ ∀ k, k < i → F ((n + 87 + 1 * k)) = .inr (0, [.int 0, .int 0, .int 0, .int 0, .int 0, .int 0, .int 0, .int 0, .int 0, .int 0])
set_option maxHeartbeats 4000000 in
set_option maxRecDepth 100000 in
theorem w_X5_init_89 {p : Program} {l : Launch} {e : Env} {R : Room} {s : State} {m : MethodId} {args : Array Value} {below : List Frame} {meth : Method} {c : Code} {D : va_G} {cy : Nat → ClassId} {B n : Nat} {Q : State → Prop} (S : CallFix p m c cX5_init 2 s args ed_ws RX5) (hK : ed_K D cy s) (hAO : ec_AO s) (c0 s0 : Nat) (hR : 2 ≤ R.frames ∧ 60 ≤ R.locals ∧ c0 + 8 ≤ R.cells ∧ s0 + 80 ≤ R.slots) (G0 : Nat → va_E) (hf0 : G0 n = ec_sE B n)
    (hnext : ∀ (F : Nat → va_E) (H : Heap) (locs : List Loc) (ls : Array Slot), ec_P D B (n + 87 + 1 * 8) F H → ec_I1 cy B n G0 F 8 → va_S (ec_A B) s.heap H locs → lv_has ls 2 [(0, .ref (B + n)), (1, .int (nI 8))] → W p l e R s m args below meth c H locs (c0 + 1 * 8) (s0 + 10 * 8) Q (F0 m 117 ls [])) :
    ∀ (d i : Nat), i + d = 8 → ∀ (F : Nat → va_E) (H : Heap) (locs : List Loc) (ls : Array Slot), ec_P D B (n + 87 + 1 * i) F H → ec_I1 cy B n G0 F i → va_S (ec_A B) s.heap H locs → lv_has ls 2 [(0, .ref (B + n)), (1, .int (nI i))] → W p l e R s m args below meth c H locs (c0 + 1 * i) (s0 + 10 * i) Q (F0 m 89 ls []) := by
  intro d
  induction d with
  | zero =>
    intro i hi F H locs ls hM hI hS hl
    obtain rfl : i = 8 := by omega
    have hn : F n = ec_sE B n := (hI.1 n (by omega) (by omega)).trans hf0
    refine lv_iload_n S.1 S.2.1 dX5_init_89 rfl (lv_at hl 1 rfl) ?_
    refine lv_aload_n S.1 S.2.1 dX5_init_90 rfl (lv_at hl 0 rfl) ?_
    refine ec_getf (o := n) S ed_uX5 hK hM (by omega) hn rfl 8 (by decide) ed_w1_226 rfl rfl dX5_init_91 ?_
    refine ec_len (o := n + 4) (t := 2) S hK hM (by omega) hI.2.1 rfl (v := nI 8) rfl dX5_init_94 ?_
    refine lv_icmp_ge (tgt := 117) S.1 S.2.1 dX5_init_95 (by decide) (fun c2 => ?_) (fun c2 => ?_)
    · exact hnext F H locs ls hM hI hS hl
    · exact absurd (by decide) c2
  | succ d ih =>
    intro i hi F H locs ls hM hI hS hl
    have hn : F n = ec_sE B n := (hI.1 n (by omega) (by omega)).trans hf0
    have e1 : nI i + 1 = nI (i + 1) := nI_add i 1
    refine lv_iload_n S.1 S.2.1 dX5_init_89 rfl (lv_at hl 1 rfl) ?_
    refine lv_aload_n S.1 S.2.1 dX5_init_90 rfl (lv_at hl 0 rfl) ?_
    refine ec_getf (o := n) S ed_uX5 hK hM (by omega) hn rfl 8 (by decide) ed_w1_226 rfl rfl dX5_init_91 ?_
    refine ec_len (o := n + 4) (t := 2) S hK hM (by omega) hI.2.1 rfl (v := nI 8) rfl dX5_init_94 ?_
    refine lv_icmp_ge (tgt := 117) S.1 S.2.1 dX5_init_95 (by decide) (fun c2 => ?_) (fun c2 => ?_)
    · rw [pr_le (by omega) (by omega)] at c2
      omega
    refine lv_aload_n S.1 S.2.1 dX5_init_98 rfl (lv_at hl 0 rfl) ?_
    refine ec_getf (o := n) S ed_uX5 hK hM (by omega) hn rfl 8 (by decide) ed_w1_226 rfl rfl dX5_init_99 ?_
    refine lv_iload_n S.1 S.2.1 dX5_init_102 rfl (lv_at hl 1 rfl) ?_
    refine ec_new (ci := 0) (fs := [.int 0, .int 0, .int 0, .int 0, .int 0, .int 0, .int 0, .int 0, .int 0, .int 0]) S ed_uX0 tyX0 tyX0_ok ed_w1_45 ed_w1_105 ed_w1_5 hK hM hS rfl (fun j hj => by rcases (show j = 0 ∨ j = 1 ∨ j = 2 ∨ j = 3 ∨ j = 4 ∨ j = 5 ∨ j = 6 ∨ j = 7 ∨ j = 8 ∨ j = 9 by omega) with rfl | rfl | rfl | rfl | rfl | rfl | rfl | rfl | rfl | rfl <;> rfl) (by omega) (by omega) dX5_init_103 (fun H hM hS => ?_)
    refine lv_dup S.1 S.2.1 dX5_init_106 rfl ?_
    refine ec_kI (ec_rN S hK hAO hM (c_X0_init _ D cy B (n + 87 + 1 * i) _) ⟨va_cnB 0 S.2.2.2.2 (ed_gA ed_w1_108) rfl rfl rfl (ed_n7 hK) (S.2.2.2.2 _ ed_w1_5) hn_X0_init ⟨hR.1, Nat.le_trans (Nat.le_of_ble_eq_true rfl) hR.2.1⟩, rfl, S.2.2.2.2 _ ed_w1_107⟩ hl.1 rfl (Nat.le_of_ble_eq_true rfl) dX5_init_107 ⟨by omega, by omega⟩) hS (fun H locs hM hS => ?_)
    refine ec_astq (t := 2) (ci := 0) (o := n + 4) (o2 := (n + 87 + 1 * i)) S hK hM hS (by omega) (by rw [ec_ne _ _ (by omega)]; exact hI.2.1) rfl (by omega) (ec_eq _ _ _) rfl (pr_in (by omega) (by omega)) dX5_init_110 (fun H locs hM hS => ?_)
    refine lv_iinc (v := nI i + 1) (lv' := [(1, .int (nI i + 1)), (0, .ref (B + n))]) S.1 S.2.1 dX5_init_111 hl (k := 1) rfl rfl (by decide) rfl (fun ls hl => ?_)
    refine lv_goto (tgt := 89) S.1 S.2.1 dX5_init_114 (by decide) ?_
    rw [e1] at hl
    have hl2 := lv_sub hl [1, 0] rfl
    rw [nI_clamp (by omega)] at hM
    generalize hG : ec_f _ (n + 4) _ = G at hM
    have go : ∀ x, x ≠ n + 4 → x < (n + 87 + 1 * i) → G x = F x := fun x h1 h2 => by
      rw [← hG, ec_ne _ _ h1, ec_ne _ _ (by omega)]
    have z := ih (i + 1) (by omega) G H locs ls hM ⟨fun x h1 h2 => (go x h2 (by omega)).trans (hI.1 x h1 h2), ?_, fun k hk => ?_⟩ hS hl2
    · have ec : c0 + 1 * (i + 1) = c0 + 1 * i + 1 + 0 := by omega
      have es : s0 + 10 * (i + 1) = s0 + 10 * i + 10 + 0 := by omega
      rw [ec, es] at z
      exact z
    · rw [← hG, ec_eq]
      unfold ec_Q
      congr 7
      funext k
      unfold va_up
      by_cases hk : k = i
      · subst hk
        rw [if_pos rfl, if_pos (by omega)]
      · rw [if_neg hk]
        by_cases hk2 : k < i
        · exact (if_pos hk2).trans (if_pos (by omega)).symm
        · exact (if_neg hk2).trans (if_neg (by omega)).symm
    · by_cases hk2 : k = i
      · subst hk2
        rw [← hG, ec_ne _ _ (by omega), ec_eq]
      · rw [go _ (by omega) (by omega)]; exact hI.2.2 k (by omega)
/-- what a round of the loop has made -/
def ec_I2 (cy : Nat → ClassId) (B n : Nat) (G0 F : Nat → va_E) (i : Nat) : Prop := (∀ x, x < n + 95 → x ≠ n + 5 → F x = G0 x) ∧ F (n + 5) = ec_Q (cy 3) 160 (fun k => if k < i then some (B + (n + 95 + 1 * k)) else none) ∧ ∀ k, k < i → F ((n + 95 + 1 * k)) = .inr (1, [.int 0, .int 0, .int 0, .int 0, .int 0, .int 0])
set_option maxHeartbeats 4000000 in
set_option maxRecDepth 100000 in
theorem w_X5_init_119 {p : Program} {l : Launch} {e : Env} {R : Room} {s : State} {m : MethodId} {args : Array Value} {below : List Frame} {meth : Method} {c : Code} {D : va_G} {cy : Nat → ClassId} {B n : Nat} {Q : State → Prop} (S : CallFix p m c cX5_init 2 s args ed_ws RX5) (hK : ed_K D cy s) (hAO : ec_AO s) (c0 s0 : Nat) (hR : 2 ≤ R.frames ∧ 60 ≤ R.locals ∧ c0 + 160 ≤ R.cells ∧ s0 + 960 ≤ R.slots) (G0 : Nat → va_E) (hf0 : G0 n = ec_sE B n)
    (hnext : ∀ (F : Nat → va_E) (H : Heap) (locs : List Loc) (ls : Array Slot), ec_P D B (n + 95 + 1 * 160) F H → ec_I2 cy B n G0 F 160 → va_S (ec_A B) s.heap H locs → lv_has ls 2 [(0, .ref (B + n)), (1, .int (nI 160))] → W p l e R s m args below meth c H locs (c0 + 1 * 160) (s0 + 6 * 160) Q (F0 m 147 ls [])) :
    ∀ (d i : Nat), i + d = 160 → ∀ (F : Nat → va_E) (H : Heap) (locs : List Loc) (ls : Array Slot), ec_P D B (n + 95 + 1 * i) F H → ec_I2 cy B n G0 F i → va_S (ec_A B) s.heap H locs → lv_has ls 2 [(0, .ref (B + n)), (1, .int (nI i))] → W p l e R s m args below meth c H locs (c0 + 1 * i) (s0 + 6 * i) Q (F0 m 119 ls []) := by
  intro d
  induction d with
  | zero =>
    intro i hi F H locs ls hM hI hS hl
    obtain rfl : i = 160 := by omega
    have hn : F n = ec_sE B n := (hI.1 n (by omega) (by omega)).trans hf0
    refine lv_iload_n S.1 S.2.1 dX5_init_119 rfl (lv_at hl 1 rfl) ?_
    refine lv_aload_n S.1 S.2.1 dX5_init_120 rfl (lv_at hl 0 rfl) ?_
    refine ec_getf (o := n) S ed_uX5 hK hM (by omega) hn rfl 9 (by decide) ed_w1_227 rfl rfl dX5_init_121 ?_
    refine ec_len (o := n + 5) (t := 3) S hK hM (by omega) hI.2.1 rfl (v := nI 160) rfl dX5_init_124 ?_
    refine lv_icmp_ge (tgt := 147) S.1 S.2.1 dX5_init_125 (by decide) (fun c2 => ?_) (fun c2 => ?_)
    · exact hnext F H locs ls hM hI hS hl
    · exact absurd (by decide) c2
  | succ d ih =>
    intro i hi F H locs ls hM hI hS hl
    have hn : F n = ec_sE B n := (hI.1 n (by omega) (by omega)).trans hf0
    have e1 : nI i + 1 = nI (i + 1) := nI_add i 1
    refine lv_iload_n S.1 S.2.1 dX5_init_119 rfl (lv_at hl 1 rfl) ?_
    refine lv_aload_n S.1 S.2.1 dX5_init_120 rfl (lv_at hl 0 rfl) ?_
    refine ec_getf (o := n) S ed_uX5 hK hM (by omega) hn rfl 9 (by decide) ed_w1_227 rfl rfl dX5_init_121 ?_
    refine ec_len (o := n + 5) (t := 3) S hK hM (by omega) hI.2.1 rfl (v := nI 160) rfl dX5_init_124 ?_
    refine lv_icmp_ge (tgt := 147) S.1 S.2.1 dX5_init_125 (by decide) (fun c2 => ?_) (fun c2 => ?_)
    · rw [pr_le (by omega) (by omega)] at c2
      omega
    refine lv_aload_n S.1 S.2.1 dX5_init_128 rfl (lv_at hl 0 rfl) ?_
    refine ec_getf (o := n) S ed_uX5 hK hM (by omega) hn rfl 9 (by decide) ed_w1_227 rfl rfl dX5_init_129 ?_
    refine lv_iload_n S.1 S.2.1 dX5_init_132 rfl (lv_at hl 1 rfl) ?_
    refine ec_new (ci := 1) (fs := [.int 0, .int 0, .int 0, .int 0, .int 0, .int 0]) S ed_uX1 tyX1 tyX1_ok ed_w1_47 ed_w1_159 ed_w1_6 hK hM hS rfl (fun j hj => by rcases (show j = 0 ∨ j = 1 ∨ j = 2 ∨ j = 3 ∨ j = 4 ∨ j = 5 by omega) with rfl | rfl | rfl | rfl | rfl | rfl <;> rfl) (by omega) (by omega) dX5_init_133 (fun H hM hS => ?_)
    refine lv_dup S.1 S.2.1 dX5_init_136 rfl ?_
    refine ec_kI (ec_rN S hK hAO hM (c_X1_init _ D cy B (n + 95 + 1 * i) _) ⟨va_cnB 0 S.2.2.2.2 (ed_gA ed_w1_162) rfl rfl rfl (ed_n8 hK) (S.2.2.2.2 _ ed_w1_6) hn_X1_init ⟨hR.1, Nat.le_trans (Nat.le_of_ble_eq_true rfl) hR.2.1⟩, rfl, S.2.2.2.2 _ ed_w1_161⟩ hl.1 rfl (Nat.le_of_ble_eq_true rfl) dX5_init_137 ⟨by omega, by omega⟩) hS (fun H locs hM hS => ?_)
    refine ec_astq (t := 3) (ci := 1) (o := n + 5) (o2 := (n + 95 + 1 * i)) S hK hM hS (by omega) (by rw [ec_ne _ _ (by omega)]; exact hI.2.1) rfl (by omega) (ec_eq _ _ _) rfl (pr_in (by omega) (by omega)) dX5_init_140 (fun H locs hM hS => ?_)
    refine lv_iinc (v := nI i + 1) (lv' := [(1, .int (nI i + 1)), (0, .ref (B + n))]) S.1 S.2.1 dX5_init_141 hl (k := 1) rfl rfl (by decide) rfl (fun ls hl => ?_)
    refine lv_goto (tgt := 119) S.1 S.2.1 dX5_init_144 (by decide) ?_
    rw [e1] at hl
    have hl2 := lv_sub hl [1, 0] rfl
    rw [nI_clamp (by omega)] at hM
    generalize hG : ec_f _ (n + 5) _ = G at hM
    have go : ∀ x, x ≠ n + 5 → x < (n + 95 + 1 * i) → G x = F x := fun x h1 h2 => by
      rw [← hG, ec_ne _ _ h1, ec_ne _ _ (by omega)]
    have z := ih (i + 1) (by omega) G H locs ls hM ⟨fun x h1 h2 => (go x h2 (by omega)).trans (hI.1 x h1 h2), ?_, fun k hk => ?_⟩ hS hl2
    · have ec : c0 + 1 * (i + 1) = c0 + 1 * i + 1 + 0 := by omega
      have es : s0 + 6 * (i + 1) = s0 + 6 * i + 6 + 0 := by omega
      rw [ec, es] at z
      exact z
    · rw [← hG, ec_eq]
      unfold ec_Q
      congr 7
      funext k
      unfold va_up
      by_cases hk : k = i
      · subst hk
        rw [if_pos rfl, if_pos (by omega)]
      · rw [if_neg hk]
        by_cases hk2 : k < i
        · exact (if_pos hk2).trans (if_pos (by omega)).symm
        · exact (if_neg hk2).trans (if_neg (by omega)).symm
    · by_cases hk2 : k = i
      · subst hk2
        rw [← hG, ec_ne _ _ (by omega), ec_eq]
      · rw [go _ (by omega) (by omega)]; exact hI.2.2 k (by omega)
/-- what a round of the loop has made -/
def ec_I3 (cy : Nat → ClassId) (B n : Nat) (G0 F : Nat → va_E) (i : Nat) : Prop := (∀ x, x < n + 255 → x ≠ n + 6 → F x = G0 x) ∧ F (n + 6) = ec_Q (cy 4) 10 (fun k => if k < i then some (B + (n + 255 + 1 * k)) else none) ∧ ∀ k, k < i → F ((n + 255 + 1 * k)) = .inr (4, [.int 0, .int 0])
set_option maxHeartbeats 4000000 in
set_option maxRecDepth 100000 in
theorem w_X5_init_149 {p : Program} {l : Launch} {e : Env} {R : Room} {s : State} {m : MethodId} {args : Array Value} {below : List Frame} {meth : Method} {c : Code} {D : va_G} {cy : Nat → ClassId} {B n : Nat} {Q : State → Prop} (S : CallFix p m c cX5_init 2 s args ed_ws RX5) (hK : ed_K D cy s) (hAO : ec_AO s) (c0 s0 : Nat) (hR : 2 ≤ R.frames ∧ 60 ≤ R.locals ∧ c0 + 10 ≤ R.cells ∧ s0 + 20 ≤ R.slots) (G0 : Nat → va_E) (hf0 : G0 n = ec_sE B n)
    (hnext : ∀ (F : Nat → va_E) (H : Heap) (locs : List Loc) (ls : Array Slot), ec_P D B (n + 255 + 1 * 10) F H → ec_I3 cy B n G0 F 10 → va_S (ec_A B) s.heap H locs → lv_has ls 2 [(0, .ref (B + n)), (1, .int (nI 10))] → W p l e R s m args below meth c H locs (c0 + 1 * 10) (s0 + 2 * 10) Q (F0 m 177 ls [])) :
    ∀ (d i : Nat), i + d = 10 → ∀ (F : Nat → va_E) (H : Heap) (locs : List Loc) (ls : Array Slot), ec_P D B (n + 255 + 1 * i) F H → ec_I3 cy B n G0 F i → va_S (ec_A B) s.heap H locs → lv_has ls 2 [(0, .ref (B + n)), (1, .int (nI i))] → W p l e R s m args below meth c H locs (c0 + 1 * i) (s0 + 2 * i) Q (F0 m 149 ls []) := by
  intro d
  induction d with
  | zero =>
    intro i hi F H locs ls hM hI hS hl
    obtain rfl : i = 10 := by omega
    have hn : F n = ec_sE B n := (hI.1 n (by omega) (by omega)).trans hf0
    refine lv_iload_n S.1 S.2.1 dX5_init_149 rfl (lv_at hl 1 rfl) ?_
    refine lv_aload_n S.1 S.2.1 dX5_init_150 rfl (lv_at hl 0 rfl) ?_
    refine ec_getf (o := n) S ed_uX5 hK hM (by omega) hn rfl 10 (by decide) ed_w1_228 rfl rfl dX5_init_151 ?_
    refine ec_len (o := n + 6) (t := 4) S hK hM (by omega) hI.2.1 rfl (v := nI 10) rfl dX5_init_154 ?_
    refine lv_icmp_ge (tgt := 177) S.1 S.2.1 dX5_init_155 (by decide) (fun c2 => ?_) (fun c2 => ?_)
    · exact hnext F H locs ls hM hI hS hl
    · exact absurd (by decide) c2
  | succ d ih =>
    intro i hi F H locs ls hM hI hS hl
    have hn : F n = ec_sE B n := (hI.1 n (by omega) (by omega)).trans hf0
    have e1 : nI i + 1 = nI (i + 1) := nI_add i 1
    refine lv_iload_n S.1 S.2.1 dX5_init_149 rfl (lv_at hl 1 rfl) ?_
    refine lv_aload_n S.1 S.2.1 dX5_init_150 rfl (lv_at hl 0 rfl) ?_
    refine ec_getf (o := n) S ed_uX5 hK hM (by omega) hn rfl 10 (by decide) ed_w1_228 rfl rfl dX5_init_151 ?_
    refine ec_len (o := n + 6) (t := 4) S hK hM (by omega) hI.2.1 rfl (v := nI 10) rfl dX5_init_154 ?_
    refine lv_icmp_ge (tgt := 177) S.1 S.2.1 dX5_init_155 (by decide) (fun c2 => ?_) (fun c2 => ?_)
    · rw [pr_le (by omega) (by omega)] at c2
      omega
    refine lv_aload_n S.1 S.2.1 dX5_init_158 rfl (lv_at hl 0 rfl) ?_
    refine ec_getf (o := n) S ed_uX5 hK hM (by omega) hn rfl 10 (by decide) ed_w1_228 rfl rfl dX5_init_159 ?_
    refine lv_iload_n S.1 S.2.1 dX5_init_162 rfl (lv_at hl 1 rfl) ?_
    refine ec_new (ci := 4) (fs := [.int 0, .int 0]) S ed_uX4 tyX4 tyX4_ok ed_w1_49 ed_w1_195 ed_w1_7 hK hM hS rfl (fun j hj => by rcases (show j = 0 ∨ j = 1 by omega) with rfl | rfl <;> rfl) (by omega) (by omega) dX5_init_163 (fun H hM hS => ?_)
    refine lv_dup S.1 S.2.1 dX5_init_166 rfl ?_
    refine ec_kI (ec_rN S hK hAO hM (c_X4_init _ D cy B (n + 255 + 1 * i) _) ⟨va_cnB 0 S.2.2.2.2 (ed_gA ed_w1_198) rfl rfl rfl (ed_n9 hK) (S.2.2.2.2 _ ed_w1_7) hn_X4_init ⟨hR.1, Nat.le_trans (Nat.le_of_ble_eq_true rfl) hR.2.1⟩, rfl, S.2.2.2.2 _ ed_w1_197⟩ hl.1 rfl (Nat.le_of_ble_eq_true rfl) dX5_init_167 ⟨by omega, by omega⟩) hS (fun H locs hM hS => ?_)
    refine ec_astq (t := 4) (ci := 4) (o := n + 6) (o2 := (n + 255 + 1 * i)) S hK hM hS (by omega) (by rw [ec_ne _ _ (by omega)]; exact hI.2.1) rfl (by omega) (ec_eq _ _ _) rfl (pr_in (by omega) (by omega)) dX5_init_170 (fun H locs hM hS => ?_)
    refine lv_iinc (v := nI i + 1) (lv' := [(1, .int (nI i + 1)), (0, .ref (B + n))]) S.1 S.2.1 dX5_init_171 hl (k := 1) rfl rfl (by decide) rfl (fun ls hl => ?_)
    refine lv_goto (tgt := 149) S.1 S.2.1 dX5_init_174 (by decide) ?_
    rw [e1] at hl
    have hl2 := lv_sub hl [1, 0] rfl
    rw [nI_clamp (by omega)] at hM
    generalize hG : ec_f _ (n + 6) _ = G at hM
    have go : ∀ x, x ≠ n + 6 → x < (n + 255 + 1 * i) → G x = F x := fun x h1 h2 => by
      rw [← hG, ec_ne _ _ h1, ec_ne _ _ (by omega)]
    have z := ih (i + 1) (by omega) G H locs ls hM ⟨fun x h1 h2 => (go x h2 (by omega)).trans (hI.1 x h1 h2), ?_, fun k hk => ?_⟩ hS hl2
    · have ec : c0 + 1 * (i + 1) = c0 + 1 * i + 1 + 0 := by omega
      have es : s0 + 2 * (i + 1) = s0 + 2 * i + 2 + 0 := by omega
      rw [ec, es] at z
      exact z
    · rw [← hG, ec_eq]
      unfold ec_Q
      congr 7
      funext k
      unfold va_up
      by_cases hk : k = i
      · subst hk
        rw [if_pos rfl, if_pos (by omega)]
      · rw [if_neg hk]
        by_cases hk2 : k < i
        · exact (if_pos hk2).trans (if_pos (by omega)).symm
        · exact (if_neg hk2).trans (if_neg (by omega)).symm
    · by_cases hk2 : k = i
      · subst hk2
        rw [← hG, ec_ne _ _ (by omega), ec_eq]
      · rw [go _ (by omega) (by omega)]; exact hI.2.2 k (by omega)
