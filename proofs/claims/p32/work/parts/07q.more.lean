/-! The methods, one by one: setUp, correct, addClient, pass. -/
theorem r_fitUp {σ : ed_SM} {v : Nat → Int32} {h nC nS nK e i : Nat} (hR : r_R σ v h nC nS nK e) (hi : i < nC) : r_seg (r_fitK σ (-1) (nI i) 0) nK 0 + r_seg (r_fitK σ (-1) (nI i) 1) nK 0 = r_seg (fun q => if v (687 + 6 * q + 1) = nI i then (if 1 < v (687 + 6 * q + 2) then 0 else 1) else 0) nK 0 := by
  obtain ⟨⟨q1, q2, q3, q4, q5, q6, q7, q8, q9, q10, b1, b2, b3, b4⟩, qC, qP, qS, qK, qL, qN⟩ := hR
  refine (r_seg_add nK 0 (fun q _ hq => ?_)).symm
  obtain ⟨s, c, -, -, -, -, -, g6, -⟩ := qK.2.1 q (by omega)
  obtain ⟨w, hw, hw2⟩ := pr_nn g6
  unfold r_fitK
  rw [r_fits, r_fits, r_fits, r_fits, qK.1 q 1 (by omega) (by omega), qK.1 q 2 (by omega) (by omega), if_pos rfl, if_neg (pr_neg1 i (by omega)), if_neg (show ¬ (1 : Int32) = 0 by decide), if_neg (show ¬ (0 : Int32) = -1 by decide), if_neg (show ¬ (1 : Int32) = -1 by decide)]
  by_cases h1 : v (687 + 6 * q + 1) = nI i
  · rw [if_pos h1.symm, if_pos h1, if_neg (show ¬ (1 : Int32) = 0 by decide), hw2]
    rcases (show w = 0 ∨ w = 1 ∨ 1 < w by omega) with rfl | rfl | h2
    · rfl
    · rfl
    · have t1 : (1 : Int32) < nI w := by show nI 1 < nI w; rw [pr_lt (by omega) hw]; exact h2
      have t2 : ¬ (0 : Int32) = nI w := by show ¬ nI 0 = nI w; rw [pr_eq (by omega) hw]; omega
      have t3 : ¬ (1 : Int32) = nI w := by show ¬ nI 1 = nI w; rw [pr_eq (by omega) hw]; omega
      rw [if_pos t1, if_neg t2, if_neg t3, if_pos rfl]
      rfl
  · rw [if_neg (show ¬ nI i = v (687 + 6 * q + 1) from fun g => h1 g.symm), if_neg h1, if_pos rfl]
    rfl
theorem m_setUp {μ : ed_CM} {ν : em_MM} (hR : r_REL μ ν) (x1 x2 : Int32) (hb : ed_bo x2) : r_ok (f_X8_setUp x1 x2 μ) (f_X9_setUp x1 x2 ν) := by
  obtain ⟨h, nC, nS, nK, hh, hX⟩ := id hR.1
  obtain ⟨⟨q1, q2, q3, q4, q5, q6, q7, q8, q9, q10, b1, b2, b3, b4⟩, qC, -⟩ := id hX
  unfold f_X8_setUp f_X9_setUp
  rcases pr_split x1 (n := nC) (by omega) with ⟨i, hi, rfl⟩ | hx
  · have x5 : (μ 0) 11 i 5 = ν 1 (7 + 10 * i + 5) := qC.1 i 5 hi (by omega)
    have e5 : f_X9_clientAt (nI i) 5 = nI (7 + 10 * i + 5) := pr_9c i 5
    rw [pr_clientAt q7 b1 hi, pr_b, pr_isC1 q8 b1 hi, pr_b, if_neg (show ¬ (1 : Int32) = 0 by decide)]
    show r_ok (ed_g _ _) _
    rw [pr_g (by omega), x5, e5]
    have core : ∀ y : Int32, ed_bo y → r_ok (if ν 1 (7 + 10 * i + 5) = y then some (-5, μ) else ed_b (f_X2_remember 0 μ) (fun μ3 => ed_g (ed_bo y) ( ed_t (ed_sJ μ3 0 (ed_up (μ3 0) 11 i 5 y)) (fun μ5 => ed_b (f_X5_copiesOf (-1) (nI i) 0 (μ5 0)) (fun r6 => ed_b (f_X5_copiesOf (-1) (nI i) 1 (μ5 0)) (fun r7 => (some ((r6 + r7), μ5)))))))) (ed_b2 (f_X9_becomes (nI (7 + 10 * i + 5)) y ν) (fun r5 ν5 => (if 0 ≤ r5 then f_X9_setUp_39 ed_N (nI i) 0 0 ν5 else some ((-5), ν5)))) := by
      intro y hy
      by_cases ho : ν 1 (7 + 10 * i + 5) = y
      · rw [if_pos ho, r_bec0 (by omega) ho, pr_b2, if_neg (show ¬ (0 : Int32) ≤ -5 by decide)]; exact r_ok.mk hR _
      · obtain ⟨μ1, ν', a1, a2, a3, a4, a5⟩ := r_bec1 hR (a := 7 + 10 * i + 5) (by omega) ho
        have r1 := hX.upD hi (k := 5) (by omega) y (fun _ => hy) (fun g => by omega) (fun g => by omega)
        have hpos : (0 : Int32) ≤ ν 1 (7 + 10 * i + 5) := by
          rcases (qC.2.1 i hi).1 with g | g <;> rw [g] <;> decide
        have p9 := r1.1.2.2.2.2.2.2.2.2.1
        have p10 := r1.1.2.2.2.2.2.2.2.2.2.1
        have k2 := r_setUp_L ν' (by rw [a4]; exact p10) b3 (nI i) nK 0 ed_N 0 (by omega) (by unfold ed_N; omega)
        have k2 : f_X9_setUp_39 ed_N (nI i) 0 0 ν' = _ := k2
        rw [if_neg ho, a1, a2, pr_b, pr_b2, pr_g hy, pr_t, a3, ed_sJ_self, r_copiesOf p9 b3, r_copiesOf p9 b3, pr_b, pr_b, if_pos hpos, k2, nI_add, r_fitUp r1 hi, a4, Nat.zero_add]
        exact r_ok.mk (a5 _ ⟨h, nC, nS, nK, hh, r1⟩) _
    rcases hb with rfl | rfl
    · rw [if_pos rfl]; exact core 0 (Or.inl rfl)
    · rw [if_neg (show ¬ (1 : Int32) = 0 by decide)]; exact core 1 (Or.inr rfl)
  · rw [pr_clientNo q7 b1 hx, pr_b, pr_isC0 q8 b1 hx, pr_b, if_pos rfl]
    exact r_ok.mk hR _
theorem r_S1.cor {σ : ed_SM} {v : Nat → Int32} {s h w : Nat} (hS : r_S1 σ v s h) (hw : v (107 + 29 * s + 7) = nI w) (hw6 : w < 6) (hh : h < 20000) : r_S1 (ed_up (ed_up σ 10 s w (nI h)) 7 s 7 (nI (w + 1))) (upd (upd v (107 + 29 * s + (10 + w)) (nI h)) (107 + 29 * s + 7) (nI (w + 1))) s h := by
  obtain ⟨⟨a1, a2, a3, a4, a5, a6, a7, a8⟩, ⟨m, b1, b2, b3, b4⟩, ⟨n, c1, c2, c3⟩, ⟨w', d1, d2, d3, d4⟩, e1, e2⟩ := hS
  have hww : w' = w := by
    rw [hw] at d2
    exact ((nI_eq (by omega) (by omega)).mp d2).symm
  subst hww
  have o7 : ∀ k, k ≠ 7 → ed_up (ed_up σ 10 s w' (nI h)) 7 s 7 (nI (w' + 1)) 7 s k = σ 7 s k := fun k h => by rw [pr_up_k _ _ h, pr_up_K _ _ (by decide)]
  have ov : ∀ k, k ≠ 7 → k ≠ 10 + w' → upd (upd v (107 + 29 * s + (10 + w')) (nI h)) (107 + 29 * s + 7) (nI (w' + 1)) (107 + 29 * s + k) = v (107 + 29 * s + k) := fun k h h2 => by rw [pr_une _ _ (by omega), pr_une _ _ (by omega)]
  have o0 : upd (upd v (107 + 29 * s + (10 + w')) (nI h)) (107 + 29 * s + 7) (nI (w' + 1)) (107 + 29 * s) = v (107 + 29 * s) := by rw [pr_une _ _ (by omega), pr_une _ _ (by omega)]
  have on : upd (upd v (107 + 29 * s + (10 + w')) (nI h)) (107 + 29 * s + 7) (nI (w' + 1)) (107 + 29 * s + (10 + w')) = nI h := by rw [pr_une _ _ (by omega), pr_ueq _ _ rfl]
  have oK : ∀ K, K ≠ 7 → K ≠ 10 → ed_up (ed_up σ 10 s w' (nI h)) 7 s 7 (nI (w' + 1)) K = σ K := fun K h1 h2 => by funext i; rw [pr_up_K _ _ h1, pr_up_K _ _ h2]
  have th : (nI h).toInt = h := nI_toInt (by omega)
  refine ⟨⟨by rw [o7 0 (by decide), o0]; exact a1, by rw [o7 1 (by decide), ov 1 (by omega) (by omega)]; exact a2, by rw [o7 3 (by decide), ov 5 (by omega) (by omega)]; exact a3, by rw [o7 4 (by decide), ov 16 (by omega) (by omega)]; exact a4, by rw [o7 6 (by decide), ov 6 (by omega) (by omega)]; exact a5, by rw [pr_up_same, pr_ueq _ _ rfl], by rw [o7 9 (by decide), ov 8 (by omega) (by omega)]; exact a7, by rw [o7 10 (by decide), ov 9 (by omega) (by omega)]; exact a8⟩, ⟨m, b1, b2, by rw [ov 1 (by omega) (by omega)]; exact b3, fun k hk => by rw [oK 8 (by decide) (by decide), ov (2 + k) (by omega) (by omega)]; exact b4 k hk⟩, ⟨n, c1, by rw [ov 16 (by omega) (by omega)]; exact c2, fun k hk => by rw [oK 9 (by decide) (by decide), ov (17 + k) (by omega) (by omega)]; exact c3 k hk⟩, ⟨w' + 1, by omega, by rw [pr_ueq _ _ rfl], fun k hk => ?_, fun k k' hk hk' => ?_⟩, by rw [ov 6 (by omega) (by omega)]; exact e1, by rw [ov 6 (by omega) (by omega), ov 8 (by omega) (by omega)]; exact e2⟩
  · rw [pr_up_K _ _ (by decide)]
    by_cases hkw : k = w'
    · subst hkw
      rw [pr_up_same, on, th]
      exact ⟨rfl, by omega, by omega⟩
    · rw [pr_up_k _ _ hkw, ov (10 + k) (by omega) (by omega)]
      exact d3 k (by omega)
  · by_cases hk1 : k' = w'
    · subst hk1
      rw [on, th]
      by_cases hk2 : k = k'
      · subst hk2
        rw [on, th]
        exact Int.le_refl _
      · rw [ov (10 + k) (by omega) (by omega)]
        exact (d3 k (by omega)).2.2
    · rw [ov (10 + k) (by omega) (by omega), ov (10 + k') (by omega) (by omega)]
      exact d4 k k' hk (by omega)
theorem m_correct {μ : ed_CM} {ν : em_MM} (hR : r_REL μ ν) (x1 : Int32) : r_ok (f_X8_correct x1 μ) (f_X9_correct x1 ν) := by
  obtain ⟨h, nC, nS, nK, hh, hX⟩ := id hR.1
  obtain ⟨⟨q1, q2, q3, q4, q5, q6, q7, q8, q9, q10, b1, b2, b3, b4⟩, qC, qP, qS, -⟩ := id hX
  unfold f_X8_correct f_X9_correct
  rcases pr_split x1 (n := nS) (by omega) with ⟨i, hi, rfl⟩ | hx
  · obtain ⟨⟨a1, -, a3, -, a5, a6, -⟩, -, -, ⟨w, d1, d2, -⟩, e1, e2⟩ := id (qS i hi)
    have o6 : f_X9_ofStory (nI i) 6 ν = some (ν 1 (107 + 29 * i + 6)) := pr_ofStory ν (i := i) (k := 6) (by omega)
    have o7 : ∀ ν' : em_MM, f_X9_ofStory (nI i) 7 ν' = some (ν' 1 (107 + 29 * i + 7)) := fun ν' => pr_ofStory ν' (i := i) (k := 7) (by omega)
    have i7 : f_X9_storyAt (nI i) 7 = nI (107 + 29 * i + 7) := pr_9s i 7
    have i10 : f_X9_storyAt (nI i) (10 + nI w) = nI (107 + 29 * i + (10 + w)) := by
      rw [show (10 : Int32) = nI 10 from rfl, nI_add, pr_9s]
    rw [pr_storyAt q5 b2 hi, pr_b, pr_isS1 q6 b2 hi, pr_b, if_neg (show ¬ (1 : Int32) = 0 by decide)]
    show r_ok (ed_g _ _) _
    rw [pr_g (by omega), a5, o6, pr_b]
    by_cases hz : ν 1 (107 + 29 * i + 6) = 2
    · rw [if_pos hz, if_pos hz, a6, o7, pr_b, d2]
      by_cases hw : w = 6
      · subst hw
        rw [if_neg (show ¬ nI 6 < 6 by decide), if_pos (show nI 6 = 6 from rfl)]
        exact r_ok.mk hR _
      · have c1 : nI w < 6 := by show nI w < nI 6; rw [pr_lt (by omega) (by omega)]; omega
        have c2 : ¬ nI w = 6 := by show ¬ nI w = nI 6; rw [pr_eq (by omega) (by omega)]; omega
        obtain ⟨μ1, ν1, g1, g2, g3, g4, g5, -⟩ := r_mem0 hR
        have e2 : f_X8_isPlace (nI w) 6 = 1 := by
          rw [pr_isPlace, if_neg (nI_pos (by omega)), if_neg]
          show ¬ nI 6 ≤ nI w
          rw [pr_le (by omega) (by omega)]; omega
        have w1 : nI w + 1 = nI (w + 1) := nI_add w 1
        have z7 : ed_up (μ 0) 10 i w (nI h) 7 i 7 = nI w := by rw [pr_up_K _ _ (by decide), a6, d2]
        have z0 : ed_up (ed_up (μ 0) 10 i w (nI h)) 7 i 7 (nI (w + 1)) 0 0 0 = nI h := by rw [pr_up_K _ _ (by decide), pr_up_K _ _ (by decide), q1]
        have u0 : upd (upd (ν 1) (107 + 29 * i + (10 + w)) (nI h)) (107 + 29 * i + 7) (nI (w + 1)) 0 = nI h := by rw [pr_une _ _ (by omega), pr_une _ _ (by omega), q2]
        have r1 : r_R (ed_up (ed_up (μ 0) 10 i w (nI h)) 7 i 7 (nI (w + 1))) (upd (upd (ν 1) (107 + 29 * i + (10 + w)) (nI h)) (107 + 29 * i + 7) (nI (w + 1))) h nC nS nK 160 := by
          refine hX.upS hi (fun K h1 _ _ h2 => ?_) (fun K j hj => ?_) (fun a ha => ?_) ((qS i hi).cor d2 (by omega) b4) (fun g => ?_) ?_
          · funext j; rw [pr_up_K _ _ h1, pr_up_K _ _ h2]
          · by_cases k7 : K = 7
            · subst k7; rw [pr_up_i _ _ hj, pr_up_K _ _ (by decide)]
            · rw [pr_up_K _ _ k7]
              by_cases k10 : K = 10
              · subst k10; rw [pr_up_i _ _ hj]
              · rw [pr_up_K _ _ k10]
          · rw [pr_une _ _ (by omega), pr_une _ _ (by omega)]
          · rw [pr_une _ _ (by omega), pr_une _ _ (by omega)]; exact g
          · rw [pr_ueq _ _ rfl, d2, nI_toInt (by omega), nI_toInt (by omega)]; omega
        obtain ⟨σ2, v2, l1, l2, l3, l4, l5⟩ := r_log ν1 _ _ 5 (nI h) (-5) i r1.2.2.2.2.2.1 (by omega) (Or.inl rfl) u0.symm
        have r3 := r1.lg l3 l4 l5
        have add : f_X6_addCorrection i (nI h) (μ 0) = some (ed_up (ed_up (μ 0) 10 i w (nI h)) 7 i 7 (nI (w + 1))) := by
          unfold f_X6_addCorrection
          rw [a6, d2, e2, if_neg (by decide), pr_gin (by omega) (by omega), pr_t, nI_clamp (by omega), z7, w1, pr_t]
        have s2 : σ2 7 i 7 = nI (w + 1) := by rw [l4 7 (by decide) (by decide), pr_up_same]
        have t2 : v2 (107 + 29 * i + 7) = nI (w + 1) := by rw [l5 _ (by omega) (by omega), pr_ueq _ _ rfl]
        have n0 : ν1 1 (0 : Int32).toNatClampNeg = nI h := by rw [g4, pr_cl 0 (by omega), q2]
        have n7 : em_up ν1 1 (107 + 29 * i + (10 + w)) (nI h) 1 (107 + 29 * i + 7) = nI w := by rw [em_same, pr_une _ _ (by omega), g4, d2]
        rw [if_pos c1, if_neg c2, g1, g2, pr_b, pr_b, g3, q1, add, pr_b, o7, pr_b, g4, d2, i10, pr_gN (by decide) (by decide), pr_gin (by omega) (by omega), pr_t, pr_t, i7, pr_gin (by omega) (by omega), pr_gin (by omega) (by omega), pr_t, nI_clamp (n := 107 + 29 * i + (10 + w)) (by omega), nI_clamp (n := 107 + 29 * i + 7) (by omega)]
        have k7 : upd (ν 1) (107 + 29 * i + (10 + w)) (nI h) (107 + 29 * i + 7) + 1 = nI (w + 1) := by rw [pr_une _ _ (by omega), d2, w1]
        rw [pr_cl 0 (by omega), q2, pr_emu ν1, g4, pr_sR1, k7, pr_sRu, l2, pr_b, o7, pr_b, pr_sR1, t2, ed_sJ_self, z0, l1, pr_b, pr_t, ed_sJ_sJ, ed_sJ_self, s2]
        exact r_ok.mk (g5 _ _ ⟨h, nC, nS, nK, hh, r3⟩) _
    · rw [if_neg hz, if_neg hz]; exact r_ok.mk hR _
  · rw [pr_storyNo q5 b2 hx, pr_b, pr_isS0 q6 b2 hx, pr_b, if_pos rfl]
    exact r_ok.mk hR _
theorem r_newC {σ : ed_SM} {v : Nat → Int32} {h nC nS nK : Nat} (hR : r_R σ v h nC nS nK 160) (h8 : nC < 8) {x1 x2 x3 x4 x5 : Int32} (h3 : 0 ≤ x3.toInt ∧ x3.toInt ≤ 24) (h5 : 0 ≤ x5.toInt) : ∃ σ', f_X0_begin nC x1 x2 x3 x4 x5 (ed_up σ 0 0 4 (nI (nC + 1))) = some σ' ∧ r_R σ' (upd (upd (upd (upd (upd (upd (upd v (7 + 10 * nC) x1) (7 + 10 * nC + 1) x2) (7 + 10 * nC + 2) x3) (7 + 10 * nC + 3) x4) (7 + 10 * nC + 4) x5) (7 + 10 * nC + 5) 1) 1 (nI (nC + 1))) h (nC + 1) nS nK 160 := by
  obtain ⟨⟨q1, q2, q3, q4, q5, q6, q7, q8, q9, q10, b1, b2, b3, b4⟩, qC, qP, qS, qK, qL, qN⟩ := hR
  unfold f_X0_begin
  simp only [pr_t]
  refine ⟨_, rfl, ?_⟩
  generalize hσ' : ed_up _ 11 nC 9 _ = σ'
  generalize hv' : upd _ 1 _ = v'
  have oK : ∀ K, K ≠ 0 → K ≠ 11 → σ' K = σ K := fun K g0 g1 => by
    rw [← hσ']; funext i
    rw [pr_up_K _ _ g1, pr_up_K _ _ g1, pr_up_K _ _ g1, pr_up_K _ _ g1, pr_up_K _ _ g1, pr_up_K _ _ g1, pr_up_K _ _ g1, pr_up_K _ _ g1, pr_up_K _ _ g1, pr_up_K _ _ g1, pr_up_K _ _ g0]
  have oi : ∀ c, c ≠ nC → σ' 11 c = σ 11 c := fun c hc => by
    rw [← hσ', pr_up_i _ _ hc, pr_up_i _ _ hc, pr_up_i _ _ hc, pr_up_i _ _ hc, pr_up_i _ _ hc, pr_up_i _ _ hc, pr_up_i _ _ hc, pr_up_i _ _ hc, pr_up_i _ _ hc, pr_up_i _ _ hc, pr_up_K _ _ (by decide)]
  have oH : ∀ k, k ≠ 4 → σ' 0 0 k = σ 0 0 k := fun k hk => by
    rw [← hσ', pr_up_K _ _ (by decide), pr_up_K _ _ (by decide), pr_up_K _ _ (by decide), pr_up_K _ _ (by decide), pr_up_K _ _ (by decide), pr_up_K _ _ (by decide), pr_up_K _ _ (by decide), pr_up_K _ _ (by decide), pr_up_K _ _ (by decide), pr_up_K _ _ (by decide), pr_up_k _ _ hk]
  have o4 : σ' 0 0 4 = nI (nC + 1) := by
    rw [← hσ', pr_up_K _ _ (by decide), pr_up_K _ _ (by decide), pr_up_K _ _ (by decide), pr_up_K _ _ (by decide), pr_up_K _ _ (by decide), pr_up_K _ _ (by decide), pr_up_K _ _ (by decide), pr_up_K _ _ (by decide), pr_up_K _ _ (by decide), pr_up_K _ _ (by decide), pr_up_same]
  have ov : ∀ a, a ≠ 1 → a < 7 + 10 * nC ∨ 7 + 10 * nC + 6 ≤ a → v' a = v a := fun a g0 g1 => by
    rw [← hv', pr_une _ _ g0, pr_une _ _ (by omega), pr_une _ _ (by omega), pr_une _ _ (by omega), pr_une _ _ (by omega), pr_une _ _ (by omega), pr_une _ _ (by omega)]
  have s0 : σ' 11 nC 0 = x1 := by rw [← hσ', pr_up_k _ _ (by decide), pr_up_k _ _ (by decide), pr_up_k _ _ (by decide), pr_up_k _ _ (by decide), pr_up_k _ _ (by decide), pr_up_k _ _ (by decide), pr_up_k _ _ (by decide), pr_up_k _ _ (by decide), pr_up_k _ _ (by decide), pr_up_same]
  have s1 : σ' 11 nC 1 = x2 := by rw [← hσ', pr_up_k _ _ (by decide), pr_up_k _ _ (by decide), pr_up_k _ _ (by decide), pr_up_k _ _ (by decide), pr_up_k _ _ (by decide), pr_up_k _ _ (by decide), pr_up_k _ _ (by decide), pr_up_k _ _ (by decide), pr_up_same]
  have s2 : σ' 11 nC 2 = x3 := by rw [← hσ', pr_up_k _ _ (by decide), pr_up_k _ _ (by decide), pr_up_k _ _ (by decide), pr_up_k _ _ (by decide), pr_up_k _ _ (by decide), pr_up_k _ _ (by decide), pr_up_k _ _ (by decide), pr_up_same]
  have s3 : σ' 11 nC 3 = x4 := by rw [← hσ', pr_up_k _ _ (by decide), pr_up_k _ _ (by decide), pr_up_k _ _ (by decide), pr_up_k _ _ (by decide), pr_up_k _ _ (by decide), pr_up_k _ _ (by decide), pr_up_same]
  have s4 : σ' 11 nC 4 = x5 := by rw [← hσ', pr_up_k _ _ (by decide), pr_up_k _ _ (by decide), pr_up_k _ _ (by decide), pr_up_k _ _ (by decide), pr_up_k _ _ (by decide), pr_up_same]
  have s5 : σ' 11 nC 5 = 1 := by rw [← hσ', pr_up_k _ _ (by decide), pr_up_k _ _ (by decide), pr_up_k _ _ (by decide), pr_up_k _ _ (by decide), pr_up_same]
  have s6 : σ' 11 nC 6 = 0 := by rw [← hσ', pr_up_k _ _ (by decide), pr_up_k _ _ (by decide), pr_up_k _ _ (by decide), pr_up_same]
  have s7 : σ' 11 nC 7 = 0 := by rw [← hσ', pr_up_k _ _ (by decide), pr_up_k _ _ (by decide), pr_up_same]
  have s8 : σ' 11 nC 8 = 0 := by rw [← hσ', pr_up_k _ _ (by decide), pr_up_same]
  have s9 : σ' 11 nC 9 = 0 := by rw [← hσ', pr_up_same]
  have t0 : v' (7 + 10 * nC) = x1 := by rw [← hv', pr_une _ _ (by omega), pr_une _ _ (by omega), pr_une _ _ (by omega), pr_une _ _ (by omega), pr_une _ _ (by omega), pr_une _ _ (by omega), pr_ueq _ _ rfl]
  have t1 : v' (7 + 10 * nC + 1) = x2 := by rw [← hv', pr_une _ _ (by omega), pr_une _ _ (by omega), pr_une _ _ (by omega), pr_une _ _ (by omega), pr_une _ _ (by omega), pr_ueq _ _ rfl]
  have t2 : v' (7 + 10 * nC + 2) = x3 := by rw [← hv', pr_une _ _ (by omega), pr_une _ _ (by omega), pr_une _ _ (by omega), pr_une _ _ (by omega), pr_ueq _ _ rfl]
  have t3 : v' (7 + 10 * nC + 3) = x4 := by rw [← hv', pr_une _ _ (by omega), pr_une _ _ (by omega), pr_une _ _ (by omega), pr_ueq _ _ rfl]
  have t4 : v' (7 + 10 * nC + 4) = x5 := by rw [← hv', pr_une _ _ (by omega), pr_une _ _ (by omega), pr_ueq _ _ rfl]
  have t5 : v' (7 + 10 * nC + 5) = 1 := by rw [← hv', pr_une _ _ (by omega), pr_ueq _ _ rfl]
  have t6 : v' (7 + 10 * nC + 6) = 0 := by rw [ov _ (by omega) (by omega)]; exact qC.2.2 nC 6 (by omega) h8 (by omega) (by omega)
  have t7 : v' (7 + 10 * nC + 7) = 0 := by rw [ov _ (by omega) (by omega)]; exact qC.2.2 nC 7 (by omega) h8 (by omega) (by omega)
  have t8 : v' (7 + 10 * nC + 8) = 0 := by rw [ov _ (by omega) (by omega)]; exact qC.2.2 nC 8 (by omega) h8 (by omega) (by omega)
  have t9 : v' (7 + 10 * nC + 9) = 0 := by rw [ov _ (by omega) (by omega)]; exact qC.2.2 nC 9 (by omega) h8 (by omega) (by omega)
  have v1 : v' 1 = nI (nC + 1) := by rw [← hv', pr_ueq _ _ rfl]
  refine ⟨⟨by rw [oH 0 (by decide)]; exact q1, by rw [ov 0 (by omega) (by omega)]; exact q2, by rw [oH 1 (by decide), ov 4 (by omega) (by omega)]; exact q3, by rw [oH 2 (by decide), ov 5 (by omega) (by omega)]; exact q4, by rw [oH 3 (by decide)]; exact q5, by rw [ov 2 (by omega) (by omega)]; exact q6, o4, v1, by rw [oH 5 (by decide)]; exact q9, by rw [ov 3 (by omega) (by omega)]; exact q10, by omega, b2, b3, b4⟩, ⟨fun c k hc hk => ?_, fun c hc => ?_, fun c k g1 g2 g3 g4 => ?_⟩, qP.cg (oK 13 (by decide) (by decide)) (fun a h1 h2 => ov a (by omega) (by omega)), qS.cg (oK 7 (by decide) (by decide)) (oK 8 (by decide) (by decide)) (oK 9 (by decide) (by decide)) (oK 10 (by decide) (by decide)) (fun a h1 h2 => ov a (by omega) (by omega)) (Nat.le_refl _) b2, ⟨fun q i hq hi => ?_, fun q hq => ?_, fun q q' h1 h2 h3 h4 => ?_⟩, qL.cg (oK 1 (by decide) (by decide)) (oK 2 (by decide) (by decide)) (ov 6 (by omega) (by omega)) (fun a h1 h2 => ov a (by omega) (by omega)), by rw [r_cnt_cg nS (fun s hs => ov _ (by omega) (by omega))]; exact qN⟩
  · by_cases hc2 : c = nC
    · subst hc2
      rcases (show k = 0 ∨ k = 1 ∨ k = 2 ∨ k = 3 ∨ k = 4 ∨ k = 5 ∨ k = 6 ∨ k = 7 ∨ k = 8 ∨ k = 9 by omega) with rfl | rfl | rfl | rfl | rfl | rfl | rfl | rfl | rfl | rfl
      · rw [s0, Nat.add_zero, t0]
      · rw [s1, t1]
      · rw [s2, t2]
      · rw [s3, t3]
      · rw [s4, t4]
      · rw [s5, t5]
      · rw [s6, t6]
      · rw [s7, t7]
      · rw [s8, t8]
      · rw [s9, t9]
    · rw [oi c hc2, ov _ (by omega) (by omega)]; exact qC.1 c k (by omega) hk
  · by_cases hc2 : c = nC
    · subst hc2
      rw [t5, t4, t6, t2]
      exact ⟨Or.inr rfl, h5, by decide, h3.1, h3.2⟩
    · rw [ov _ (by omega) (by omega), ov _ (by omega) (by omega), ov _ (by omega) (by omega), ov _ (by omega) (by omega)]
      exact qC.2.1 c (by omega)
  · rw [ov _ (by omega) (by omega)]; exact qC.2.2 c k (by omega) g2 g3 g4
  · rw [oK 12 (by decide) (by decide), ov _ (by omega) (by omega)]; exact qK.1 q i hq hi
  · obtain ⟨s, c, a1, a2, a3⟩ := qK.2.1 q hq
    refine ⟨s, c, a1, by omega, ?_⟩
    rw [ov _ (by omega) (by omega), ov _ (by omega) (by omega), ov _ (by omega) (by omega), ov _ (by omega) (by omega), ov _ (by omega) (by omega), ov _ (by omega) (by omega)]
    exact a3
  · rw [ov _ (by omega) (by omega), ov _ (by omega) (by omega)] at h3 h4
    exact qK.2.2 q q' h1 h2 h3 h4
theorem m_addClient {μ : ed_CM} {ν : em_MM} (hR : r_REL μ ν) (x1 x2 x3 x4 x5 : Int32) : r_ok (f_X8_addClient x1 x2 x3 x4 x5 μ) (f_X9_addClient x1 x2 x3 x4 x5 ν) := by
  obtain ⟨h, nC, nS, nK, hh, hX⟩ := id hR.1
  obtain ⟨⟨q1, q2, q3, q4, q5, q6, q7, q8, q9, q10, b1, b2, b3, b4⟩, qC, -⟩ := id hX
  unfold f_X8_addClient f_X9_addClient
  rw [pr_89, pr_89, pr_89, pr_89, pr_89]
  by_cases h1 : f_X9_in x1 1 255 = 0
  · rw [if_pos h1, if_pos h1]; exact r_ok.mk hR _
  rw [if_neg h1, if_neg h1]
  by_cases h2 : f_X9_in x2 0 48 = 0
  · rw [if_pos h2, if_pos h2]; exact r_ok.mk hR _
  rw [if_neg h2, if_neg h2]
  by_cases h3 : f_X9_in x3 0 24 = 0
  · rw [if_pos h3, if_pos h3]; exact r_ok.mk hR _
  rw [if_neg h3, if_neg h3]
  by_cases h4 : f_X9_in x4 1 9 = 0
  · rw [if_pos h4, if_pos h4]; exact r_ok.mk hR _
  rw [if_neg h4, if_neg h4]
  by_cases h5 : f_X9_in x5 0 2000000000 = 0
  · rw [if_pos h5, if_pos h5]; exact r_ok.mk hR _
  have v1 : ν 1 (1 : Int32).toNatClampNeg = nI nC := by rw [pr_cl 1 (by omega), q8]
  rw [if_neg h5, if_neg h5, pr_gN (by decide) (by decide), v1, q7]
  by_cases h8 : nC = 8
  · subst h8
    rw [if_neg (show ¬ nI 8 < 8 by decide), if_pos (show nI 8 = 8 from rfl)]; exact r_ok.mk hR _
  have c1 : nI nC < 8 := by show nI nC < nI 8; rw [pr_lt (by omega) (by omega)]; omega
  have c2 : ¬ nI nC = 8 := by show ¬ nI nC = nI 8; rw [pr_eq (by omega) (by omega)]; omega
  obtain ⟨μ1, ν1, g1, g2, g3, g4, g5, -⟩ := r_mem0 hR
  have e24 : (0 : Int32).toInt = 0 := by decide
  have e25 : (24 : Int32).toInt = 24 := by decide
  have w3 := pr_in2 h3
  have w5 := pr_in2 h5
  obtain ⟨σ', s1, s2⟩ := r_newC hX (x1 := x1) (x2 := x2) (x3 := x3) (x4 := x4) (x5 := x5) (by omega) (by omega) (by omega)
  have w1 : nI nC + 1 = nI (nC + 1) := nI_add nC 1
  have p4 : ed_up (μ 0) 0 0 4 (nI (nC + 1)) 0 0 4 = nI (nC + 1) := pr_up_same _ _ _ _ _
  have v2 : ν1 1 (1 : Int32).toNatClampNeg = nI nC := by rw [g4]; exact v1
  have i0 : f_X9_clientAt (nI nC) 0 = nI (7 + 10 * nC) := pr_9c nC 0
  have i1 : f_X9_clientAt (nI nC) 1 = nI (7 + 10 * nC + 1) := pr_9c nC 1
  have i2 : f_X9_clientAt (nI nC) 2 = nI (7 + 10 * nC + 2) := pr_9c nC 2
  have i3 : f_X9_clientAt (nI nC) 3 = nI (7 + 10 * nC + 3) := pr_9c nC 3
  have i4 : f_X9_clientAt (nI nC) 4 = nI (7 + 10 * nC + 4) := pr_9c nC 4
  have i5 : f_X9_clientAt (nI nC) 5 = nI (7 + 10 * nC + 5) := pr_9c nC 5
  rw [if_pos c1, if_neg c2, g1, g2, pr_b, pr_b, g3, q7, w1, pr_t, ed_sJ_self, pr_clientAt p4 (by omega) (by omega), pr_b]
  show r_ok (ed_g _ _) _
  rw [pr_g (by omega), s1, pr_b, pr_t, ed_sJ_sJ, pr_gN (by decide) (by decide), pr_t, v2, i0, i1, i2, i3, i4, i5, pr_gin (by omega) (by omega), pr_t, pr_gin (by omega) (by omega), pr_t, pr_gin (by omega) (by omega), pr_t, pr_gin (by omega) (by omega), pr_t, pr_gin (by omega) (by omega), pr_t, pr_gin (by omega) (by omega), pr_t, pr_gN (by decide) (by decide), pr_gN (by decide) (by decide), pr_t, nI_clamp (n := 7 + 10 * nC) (by omega), nI_clamp (n := 7 + 10 * nC + 1) (by omega), nI_clamp (n := 7 + 10 * nC + 2) (by omega), nI_clamp (n := 7 + 10 * nC + 3) (by omega), nI_clamp (n := 7 + 10 * nC + 4) (by omega), nI_clamp (n := 7 + 10 * nC + 5) (by omega), pr_cl 1 (by omega), pr_emu ν1, pr_sRu, pr_sRu, pr_sRu, pr_sRu, pr_sRu, pr_sR1, pr_sRu, g4]
  have k1 : (upd (upd (upd (upd (upd (upd (ν 1) (7 + 10 * nC) x1) (7 + 10 * nC + 1) x2) (7 + 10 * nC + 2) x3) (7 + 10 * nC + 3) x4) (7 + 10 * nC + 4) x5) (7 + 10 * nC + 5) 1 1) + 1 = nI (nC + 1) := by
    rw [pr_une _ _ (by omega), pr_une _ _ (by omega), pr_une _ _ (by omega), pr_une _ _ (by omega), pr_une _ _ (by omega), pr_une _ _ (by omega), q8, w1]
  rw [k1]
  exact r_ok.mk (g5 _ _ ⟨h, nC + 1, nS, nK, hh, s2⟩) _
theorem r_pass_L {μ1 : ed_CM} {ν1 : em_MM} {m nC nS : Nat} (hm : m ≤ 100) (T0 : Int32) : ∀ (d i n n' h nK : Nat) (cm : Int32) (σ : ed_SM) (v : Nat → Int32), i + d = m → d < n → d < n' → h + d ≤ 9999 → r_R σ v h nC nS nK 160 → r_sum v nC = T0 + cm → ∃ r σ' v', f_X8_pass_52 n (nI m) T0 (nI i) (ed_sJ μ1 0 σ) = some (r, ed_sJ μ1 0 σ') ∧ f_X9_pass_38 n' (nI m) cm (nI i) (em_sR ν1 1 v) = some (r, em_sR ν1 1 v') ∧ r_X σ' v' := by
  intro d
  induction d with
  | zero =>
    intro i n n' h nK cm σ v hi hn hn' hh hR hs
    obtain ⟨n, rfl⟩ : ∃ q, n = q + 1 := ⟨n - 1, by omega⟩
    obtain ⟨n', rfl⟩ : ∃ q, n' = q + 1 := ⟨n' - 1, by omega⟩
    have c : nI m ≤ nI i := by rw [pr_le (by omega) (by omega)]; omega
    rw [f_X8_pass_52, f_X9_pass_38, if_pos c, if_pos c, ed_sJ_self, r_came hR, pr_b, hs]
    refine ⟨cm, σ, v, ?_, rfl, h, nC, nS, nK, by omega, hR⟩
    rw [Int32.add_comm T0 cm, Int32.add_sub_cancel]
  | succ d ih =>
    intro i n n' h nK cm σ v hi hn hn' hh hR hs
    obtain ⟨n, rfl⟩ : ∃ q, n = q + 1 := ⟨n - 1, by omega⟩
    obtain ⟨n', rfl⟩ : ∃ q, n' = q + 1 := ⟨n' - 1, by omega⟩
    have c : ¬ nI m ≤ nI i := by rw [pr_le (by omega) (by omega)]; omega
    have e1 : nI i + 1 = nI (i + 1) := nI_add i 1
    obtain ⟨σ1, v1, nK1, cm1, y1, y2, y3, y4, y5, y6⟩ := r_hour ν1 hR (by omega)
    rw [f_X8_pass_52, f_X9_pass_38, if_neg c, if_neg c, ed_sJ_self, y1, pr_b, pr_t, ed_sJ_sJ, e1, y2, pr_b2]
    exact ih (i + 1) n n' (h + 1) nK1 (cm + cm1) σ1 v1 (by omega) (by omega) (by omega) (by omega) y3 (by rw [y6, hs, Int32.add_assoc])
theorem m_pass {μ : ed_CM} {ν : em_MM} (hR : r_REL μ ν) (x1 : Int32) : r_ok (f_X8_pass x1 μ) (f_X9_pass x1 ν) := by
  obtain ⟨h, nC, nS, nK, hh, hX⟩ := id hR.1
  obtain ⟨⟨q1, q2, q3, q4, q5, q6, q7, q8, q9, q10, b1, b2, b3, b4⟩, qC, -⟩ := id hX
  unfold f_X8_pass f_X9_pass
  rw [pr_89]
  by_cases hb : f_X9_in x1 1 100 = 0
  · rw [if_pos hb, if_pos hb]; exact r_ok.mk hR _
  have v0 : ν 1 (0 : Int32).toNatClampNeg = nI h := by rw [pr_cl 0 (by omega), q2]
  rw [if_neg hb, if_neg hb, pr_gN (by decide) (by decide), v0, q1]
  have w := pr_in2 hb
  have e1 : (1 : Int32).toInt = 1 := by decide
  have e2 : (100 : Int32).toInt = 100 := by decide
  obtain ⟨m, hm, rfl⟩ := pr_nn (x := x1) (by omega)
  rw [nI_toInt hm, e1, e2] at w
  rw [nI_add]
  by_cases h9 : nI (h + m) ≤ 9999
  · obtain ⟨μ1, ν1, g1, g2, g3, g4, g5, -⟩ := r_mem0 hR
    have h9' : nI (h + m) ≤ nI 9999 := h9
    rw [pr_le (by omega) (by omega)] at h9'
    have hX1 : r_R (μ1 0) (ν 1) h nC nS nK 160 := by rw [g3]; exact hX
    obtain ⟨r, σ', v', y1, y2, y3⟩ := r_pass_L (μ1 := μ1) (ν1 := ν1) (m := m) (by omega) (r_sum (ν 1) nC) m 0 ed_N ed_N h nK 0 (μ1 0) (ν 1) (by omega) (by unfold ed_N; omega) (by unfold ed_N; omega) (by omega) hX1 (Int32.add_zero _).symm
    rw [ed_sJ_eta] at y1
    have y2 : f_X9_pass_38 ed_N (nI m) 0 0 (em_sR ν1 1 (ν 1)) = _ := y2
    have y1 : f_X8_pass_52 ed_N (nI m) (r_sum (ν 1) nC) 0 μ1 = _ := y1
    rw [← g4, pr_sRe] at y2
    rw [if_pos h9, if_pos h9, g1, g2, pr_b, pr_b, r_came hX1, pr_b, y1, y2]
    exact r_ok.mk (g5 _ _ y3) _
  · rw [if_neg h9, if_neg h9]; exact r_ok.mk hR _
