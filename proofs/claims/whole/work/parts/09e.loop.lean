/-! The law's loop. -/
set_option maxHeartbeats 8000000 in
set_option maxRecDepth 100000 in
theorem w_L_18 {p : Program} {l : Launch} {e : Env} {s : State} {m : MethodId} {below : List Frame} {meth : Method} {c : Code} {b L B : Nat} {xs : Nat → Int32} {D : va_G} {cy : Nat → ClassId} (S : CallFix p m c cL_law 4 s #[Value.ref b] ed_ws RL) (hret : meth.sig.returnType = ret) (hlocks : meth.locks = false) (hK : ed_K D cy s) (hX : va_X b L xs s s.heap) (hbl : b < s.heap.size) (hB : s.heap.size = B) (hL : L ≤ 3072) :
    ∀ (n i : Nat), i ≤ L → L < i + n → ∀ (μ : ed_CM) (ν : em_MM) (H : Heap) (locs : List Loc) (ls : Array Slot), ed_P D cy B μ H → em_P D cy (B + 1862) ν H → r_REL μ ν → va_S (ec_A B) s.heap H locs → lv_has ls 4 (el_lv b B i) →
      W p l e room_1 s m #[Value.ref b] below meth c H locs 600000 7302250 (lw_Z below #[Value.ref b] s) (F0 m 18 ls []) := by
  have hB2 : b < B := by omega
  have hbA : ¬ ec_A B b := Nat.not_le.mpr hB2
  intro n
  induction n with
  | zero => intro i h1 h2; omega
  | succ n ih =>
  intro i hiL hn μ ν H locs ls hM hN hR hS hl
  refine lv_iload_n S.1 S.2.1 dL_law_18 rfl (lv_at hl 3 rfl) ?_
  refine lv_aload_n S.1 S.2.1 dL_law_19 rfl (lv_at hl 0 rfl) ?_
  refine va_slen S.1 S.2.1 hX hbl hbA hS dL_law_20 ?_
  refine lv_bipush (v := 6) S.1 S.2.1 dL_law_21 (by decide) ?_
  refine lv_isub S.1 S.2.1 dL_law_23 ?_
  have e6 : (Int32.ofNat L - 6).toInt = (L : Int) - 6 := by
    have h6 : (6 : Int32).toInt = 6 := by decide
    have hT : (Int32.ofNat L).toInt = (L : Int) := nI_toInt (n := L) (by omega)
    rw [pr_sub (by rw [hT, h6]; omega) (by rw [hT, h6]; omega), hT, h6]
  refine lv_icmp_gt (tgt := 995) S.1 S.2.1 dL_law_24 (by decide) (fun q => ?_) (fun q => ?_)
  · refine lv_iconst (v := 1) S.1 S.2.1 dL_law_995 (by decide) ?_
    refine va_forget (fun y hy => by rw [hB]; exact hS.2.2 y hy) ?_
    exact lw_ret S.1 S.2.1 hret hlocks dL_law_996
  have hi : i + 6 ≤ L := by
    rw [pr_iLt, e6, nI_toInt (by omega)] at q
    omega
  refine lv_aload_n S.1 S.2.1 dL_law_27 rfl (lv_at hl 0 rfl) ?_
  refine lv_iload_n S.1 S.2.1 dL_law_28 rfl (lv_at hl 3 rfl) ?_
  refine va_sld S.1 S.2.1 hX hbl hbA hS (vp_in_nI (by omega) (by omega)) dL_law_29 ?_
  refine lv_bipush (v := 31) S.1 S.2.1 dL_law_30 (by decide) ?_
  refine lv_iand S.1 S.2.1 dL_law_32 ?_
  obtain ⟨y1, y2⟩ := el_and (xs (nI i).toNatClampNeg)
  generalize xs (nI i).toNatClampNeg &&& 31 = y at y1 y2 ⊢
  obtain ⟨k, hk, hk31⟩ : ∃ k : Nat, y.toInt = (k : Int) ∧ k ≤ 31 := ⟨y.toInt.toNat, by omega, by omega⟩
  have kk : el_Go p l e s m b below meth c D cy B i (lw_Z below #[Value.ref b] s) := by
    intro μ ν H locs ls hM hN hR hS hl
    refine lv_iinc (v := nI (i + 6)) (lv' := [(3, .int (nI (i + 6))), (0, .ref b), (1, .ref (B + ed_oF 7 14 0)), (2, .ref (B + 1862 + 0))]) S.1 S.2.1 dL_law_989 hl (k := 3) rfl (nI_add i 6) (by decide) rfl (fun ls hl => ?_)
    refine lv_goto (tgt := 18) S.1 S.2.1 dL_law_992 (by decide) ?_
    exact ih (i + 6) (by omega) (by omega) μ ν H locs ls hM hN hR hS (lv_sub hl [1, 2, 3, 0] rfl)
  have hB := hB2
  rcases (show k = 0 ∨ k = 1 ∨ k = 2 ∨ k = 3 ∨ k = 4 ∨ k = 5 ∨ k = 6 ∨ k = 7 ∨ k = 8 ∨ k = 9 ∨ k = 10 ∨ k = 11 ∨ k = 12 ∨ k = 13 ∨ k = 14 ∨ k = 15 ∨ k = 16 ∨ k = 17 ∨ k = 18 ∨ k = 19 ∨ k = 20 ∨ k = 21 ∨ k = 22 ∨ k = 23 ∨ k = 24 ∨ k = 25 ∨ k = 26 ∨ k = 27 ∨ k = 28 ∨ 29 ≤ k by omega) with rfl | rfl | rfl | rfl | rfl | rfl | rfl | rfl | rfl | rfl | rfl | rfl | rfl | rfl | rfl | rfl | rfl | rfl | rfl | rfl | rfl | rfl | rfl | rfl | rfl | rfl | rfl | rfl | rfl | hk2
  · exact lv_tableIn (off := 131) (tgt := 164) S.1 S.2.1 dL_law_33 (by rw [hk]; decide) (by rw [hk]; decide) (by rw [hk]; rfl) (by decide) (w_L_164 S hK hX hbl hB hL hi kk hM hN hR hS hl)
  · exact lv_tableIn (off := 194) (tgt := 227) S.1 S.2.1 dL_law_33 (by rw [hk]; decide) (by rw [hk]; decide) (by rw [hk]; rfl) (by decide) (w_L_227 S hK hX hbl hB hL hi kk hM hN hR hS hl)
  · exact lv_tableIn (off := 227) (tgt := 260) S.1 S.2.1 dL_law_33 (by rw [hk]; decide) (by rw [hk]; decide) (by rw [hk]; rfl) (by decide) (w_L_260 S hK hX hbl hB hL hi kk hM hN hR hS hl)
  · exact lv_tableIn (off := 276) (tgt := 309) S.1 S.2.1 dL_law_33 (by rw [hk]; decide) (by rw [hk]; decide) (by rw [hk]; rfl) (by decide) (w_L_309 S hK hX hbl hB hL hi kk hM hN hR hS hl)
  · exact lv_tableIn (off := 299) (tgt := 332) S.1 S.2.1 dL_law_33 (by rw [hk]; decide) (by rw [hk]; decide) (by rw [hk]; rfl) (by decide) (w_L_332 S hK hX hbl hB hL hi kk hM hN hR hS hl)
  · exact lv_tableIn (off := 332) (tgt := 365) S.1 S.2.1 dL_law_33 (by rw [hk]; decide) (by rw [hk]; decide) (by rw [hk]; rfl) (by decide) (w_L_365 S hK hX hbl hB hL hi kk hM hN hR hS hl)
  · exact lv_tableIn (off := 345) (tgt := 378) S.1 S.2.1 dL_law_33 (by rw [hk]; decide) (by rw [hk]; decide) (by rw [hk]; rfl) (by decide) (w_L_378 S hK hX hbl hB hL hi kk hM hN hR hS hl)
  · exact lv_tableIn (off := 368) (tgt := 401) S.1 S.2.1 dL_law_33 (by rw [hk]; decide) (by rw [hk]; decide) (by rw [hk]; rfl) (by decide) (w_L_401 S hK hX hbl hB hL hi kk hM hN hR hS hl)
  · exact lv_tableIn (off := 391) (tgt := 424) S.1 S.2.1 dL_law_33 (by rw [hk]; decide) (by rw [hk]; decide) (by rw [hk]; rfl) (by decide) (w_L_424 S hK hX hbl hB hL hi kk hM hN hR hS hl)
  · exact lv_tableIn (off := 424) (tgt := 457) S.1 S.2.1 dL_law_33 (by rw [hk]; decide) (by rw [hk]; decide) (by rw [hk]; rfl) (by decide) (w_L_457 S hK hX hbl hB hL hi kk hM hN hR hS hl)
  · exact lv_tableIn (off := 447) (tgt := 480) S.1 S.2.1 dL_law_33 (by rw [hk]; decide) (by rw [hk]; decide) (by rw [hk]; rfl) (by decide) (w_L_480 S hK hX hbl hB hL hi kk hM hN hR hS hl)
  · exact lv_tableIn (off := 470) (tgt := 503) S.1 S.2.1 dL_law_33 (by rw [hk]; decide) (by rw [hk]; decide) (by rw [hk]; rfl) (by decide) (w_L_503 S hK hX hbl hB hL hi kk hM hN hR hS hl)
  · exact lv_tableIn (off := 493) (tgt := 526) S.1 S.2.1 dL_law_33 (by rw [hk]; decide) (by rw [hk]; decide) (by rw [hk]; rfl) (by decide) (w_L_526 S hK hX hbl hB hL hi kk hM hN hR hS hl)
  · exact lv_tableIn (off := 518) (tgt := 551) S.1 S.2.1 dL_law_33 (by rw [hk]; decide) (by rw [hk]; decide) (by rw [hk]; rfl) (by decide) (w_L_551 S hK hX hbl hB hL hi kk hM hN hR hS hl)
  · exact lv_tableIn (off := 531) (tgt := 564) S.1 S.2.1 dL_law_33 (by rw [hk]; decide) (by rw [hk]; decide) (by rw [hk]; rfl) (by decide) (w_L_564 S hK hX hbl hB hL hi kk hM hN hR hS hl)
  · exact lv_tableIn (off := 544) (tgt := 577) S.1 S.2.1 dL_law_33 (by rw [hk]; decide) (by rw [hk]; decide) (by rw [hk]; rfl) (by decide) (w_L_577 S hK hX hbl hB hL hi kk hM hN hR hS hl)
  · exact lv_tableIn (off := 557) (tgt := 590) S.1 S.2.1 dL_law_33 (by rw [hk]; decide) (by rw [hk]; decide) (by rw [hk]; rfl) (by decide) (w_L_590 S hK hX hbl hB hL hi kk hM hN hR hS hl)
  · exact lv_tableIn (off := 570) (tgt := 603) S.1 S.2.1 dL_law_33 (by rw [hk]; decide) (by rw [hk]; decide) (by rw [hk]; rfl) (by decide) (w_L_603 S hK hX hbl hB hL hi kk hM hN hR hS hl)
  · exact lv_tableIn (off := 603) (tgt := 636) S.1 S.2.1 dL_law_33 (by rw [hk]; decide) (by rw [hk]; decide) (by rw [hk]; rfl) (by decide) (w_L_636 S hK hX hbl hB hL hi kk hM hN hR hS hl)
  · exact lv_tableIn (off := 636) (tgt := 669) S.1 S.2.1 dL_law_33 (by rw [hk]; decide) (by rw [hk]; decide) (by rw [hk]; rfl) (by decide) (w_L_669 S hK hX hbl hB hL hi kk hM hN hR hS hl)
  · exact lv_tableIn (off := 669) (tgt := 702) S.1 S.2.1 dL_law_33 (by rw [hk]; decide) (by rw [hk]; decide) (by rw [hk]; rfl) (by decide) (w_L_702 S hK hX hbl hB hL hi kk hM hN hR hS hl)
  · exact lv_tableIn (off := 702) (tgt := 735) S.1 S.2.1 dL_law_33 (by rw [hk]; decide) (by rw [hk]; decide) (by rw [hk]; rfl) (by decide) (w_L_735 S hK hX hbl hB hL hi kk hM hN hR hS hl)
  · exact lv_tableIn (off := 735) (tgt := 768) S.1 S.2.1 dL_law_33 (by rw [hk]; decide) (by rw [hk]; decide) (by rw [hk]; rfl) (by decide) (w_L_768 S hK hX hbl hB hL hi kk hM hN hR hS hl)
  · exact lv_tableIn (off := 768) (tgt := 801) S.1 S.2.1 dL_law_33 (by rw [hk]; decide) (by rw [hk]; decide) (by rw [hk]; rfl) (by decide) (w_L_801 S hK hX hbl hB hL hi kk hM hN hR hS hl)
  · exact lv_tableIn (off := 811) (tgt := 844) S.1 S.2.1 dL_law_33 (by rw [hk]; decide) (by rw [hk]; decide) (by rw [hk]; rfl) (by decide) (w_L_844 S hK hX hbl hB hL hi kk hM hN hR hS hl)
  · exact lv_tableIn (off := 834) (tgt := 867) S.1 S.2.1 dL_law_33 (by rw [hk]; decide) (by rw [hk]; decide) (by rw [hk]; rfl) (by decide) (w_L_867 S hK hX hbl hB hL hi kk hM hN hR hS hl)
  · exact lv_tableIn (off := 867) (tgt := 900) S.1 S.2.1 dL_law_33 (by rw [hk]; decide) (by rw [hk]; decide) (by rw [hk]; rfl) (by decide) (w_L_900 S hK hX hbl hB hL hi kk hM hN hR hS hl)
  · exact lv_tableIn (off := 900) (tgt := 933) S.1 S.2.1 dL_law_33 (by rw [hk]; decide) (by rw [hk]; decide) (by rw [hk]; rfl) (by decide) (w_L_933 S hK hX hbl hB hL hi kk hM hN hR hS hl)
  · exact lv_tableIn (off := 933) (tgt := 966) S.1 S.2.1 dL_law_33 (by rw [hk]; decide) (by rw [hk]; decide) (by rw [hk]; rfl) (by decide) (w_L_966 S hK hX hbl hB hL hi kk hM hN hR hS hl)
  · exact lv_tableOut (tgt := 989) S.1 S.2.1 dL_law_33 (Or.inr (by rw [hk]; omega)) (by decide) (kk _ _ _ _ _ hM hN hR hS hl)
