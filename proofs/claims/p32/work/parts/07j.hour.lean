/-! an hour: the copies, the stories, the clients -/
theorem pr_une (f : Nat → Int32) {k j : Nat} (v : Int32) (h : j ≠ k) : upd f k v j = f j := by rw [pr_upd, if_neg h]
theorem pr_ueq (f : Nat → Int32) {k j : Nat} (v : Int32) (h : j = k) : upd f k v j = v := by rw [pr_upd, if_pos h]
theorem r_loopK (ν : em_MM) {h nC nS nK : Nat} : ∀ (d p n n' : Nat) (c0 : Int32) (σ : ed_SM) (v : Nat → Int32), p + d = nK → d < n → d < n' → r_R σ v h nC nS nK 160 → ∃ σ' v' came, f_X5_passHour_77 n (nI p) σ = some σ' ∧ f_X9_oneHour_105 n' c0 (nI p) (em_sR ν 1 v) = some (came, em_sR ν 1 v') ∧ r_R σ' v' h nC nS nK 160 ∧ r_fr v v' nK ∧ r_sum v' nC + c0 = r_sum v nC + came := by
  intro d
  induction d with
  | zero =>
    intro p n n' c0 σ v hp hn hn' hR
    obtain ⟨n, rfl⟩ : ∃ q, n = q + 1 := ⟨n - 1, by omega⟩
    obtain ⟨n', rfl⟩ : ∃ q, n' = q + 1 := ⟨n' - 1, by omega⟩
    obtain ⟨q1, q2, q3, q4, q5, q6, q7, q8, q9, q10, b1, b2, b3, b4⟩ := hR.1
    have v3 : em_sR ν 1 v 1 (3 : Int32).toNatClampNeg = nI nK := by rw [pr_sR1, pr_cl 3 (by omega), q10]
    rw [f_X5_passHour_77, f_X9_oneHour_105, pr_gN (by decide) (by decide), v3, q9, if_pos (by rw [pr_le (by omega) (by omega)]; omega), if_pos (by rw [pr_le (by omega) (by omega)]; omega)]
    exact ⟨σ, v, c0, rfl, rfl, hR, r_fr.rf v nK, rfl⟩
  | succ d ih =>
    intro p n n' c0 σ v hp hn hn' hR
    obtain ⟨n, rfl⟩ : ∃ q, n = q + 1 := ⟨n - 1, by omega⟩
    obtain ⟨n', rfl⟩ : ∃ q, n' = q + 1 := ⟨n' - 1, by omega⟩
    obtain ⟨q1, q2, q3, q4, q5, q6, q7, q8, q9, q10, b1, b2, b3, b4⟩ := hR.1
    have v3 : em_sR ν 1 v 1 (3 : Int32).toNatClampNeg = nI nK := by rw [pr_sR1, pr_cl 3 (by omega), q10]
    have np : ¬ nI nK ≤ nI p := by rw [pr_le (by omega) (by omega)]; omega
    have e1 : nI p + 1 = nI (p + 1) := nI_add p 1
    rw [f_X5_passHour_77, f_X9_oneHour_105, pr_gN (by decide) (by decide), v3, q9, if_neg np, if_neg np, pr_copyMade q9 b3 (by omega), pr_b]
    show ∃ σ' v' came, ed_g _ _ = some σ' ∧ _
    rw [pr_g (by omega), e1]
    obtain ⟨σ1, v1, cm, z1, z2, z3, z4, z5⟩ := r_goOn ν hR (p := p) (by omega)
    rw [z2, pr_b2]
    obtain ⟨σ2, v2, cm2, y1, y2, y3, y4, y5⟩ := ih (p + 1) n n' (c0 + cm) σ1 v1 (by omega) (by omega) (by omega) z3
    refine ⟨σ2, v2, cm2, ?_, y2, y3, z4.tr y4, ?_⟩
    · by_cases ho : f_X1_isOver p σ = 0
      · rw [if_pos ho] at z1
        rw [if_pos ho, z1, pr_b, y1]
      · rw [if_neg ho] at z1
        rw [if_neg ho]
        injection z1 with z1
        rw [z1, y1]
    · rw [Int32.add_zero] at z5
      rw [z5, ← Int32.add_assoc] at y5
      have y6 : r_sum v2 nC + c0 + cm = r_sum v nC + cm2 + cm := by
        rw [y5, Int32.add_assoc, Int32.add_assoc, Int32.add_comm cm cm2]
      exact (Int32.add_left_inj cm).mp y6
theorem r_cnt_mono {v v' : Nat → Int32} : ∀ (n : Nat), (∀ s, s < n → ¬ v (107 + 29 * s + 8) = -5 → ¬ v' (107 + 29 * s + 8) = -5) → r_cnt v n ≤ r_cnt v' n
  | 0, _ => Nat.le_refl 0
  | n + 1, h => by
    show r_cnt v n + _ ≤ r_cnt v' n + _
    have h1 := r_cnt_mono n (fun s hs => h s (by omega))
    by_cases h2 : v (107 + 29 * n + 8) = -5
    · rw [if_pos h2]; omega
    · rw [if_neg h2, if_neg (h n (by omega) h2)]; omega
theorem r_cnt_suc {v v' : Nat → Int32} {s : Nat} (h1 : v (107 + 29 * s + 8) = -5) (h2 : ¬ v' (107 + 29 * s + 8) = -5) : ∀ (n : Nat), (∀ q, q < n → q ≠ s → v' (107 + 29 * q + 8) = v (107 + 29 * q + 8)) → s < n → r_cnt v' n = r_cnt v n + 1
  | 0, _, hs => by omega
  | n + 1, h, hs => by
    show r_cnt v' n + _ = r_cnt v n + _ + 1
    by_cases h3 : s = n
    · subst h3
      rw [r_cnt_cg s (fun q hq => h q (by omega) (by omega)), if_neg h2, if_pos h1]
    · rw [r_cnt_suc h1 h2 n (fun q hq hq2 => h q (by omega) hq2) (by omega), h n (by omega) (by omega)]
      omega
/-- a story: what belongs to it may change -/
theorem r_R.upS {σ σ' : ed_SM} {v v' : Nat → Int32} {h nC nS nK s : Nat} (hR : r_R σ v h nC nS nK 160) (hs : s < nS) (h0 : ∀ K, K ≠ 7 → K ≠ 8 → K ≠ 9 → K ≠ 10 → σ' K = σ K) (h1 : ∀ K i, i ≠ s → σ' K i = σ K i) (h2 : ∀ a, a < 107 + 29 * s ∨ 107 + 29 * s + 29 ≤ a → v' a = v a) (hS : r_S1 σ' v' s h) (h8 : ¬ v (107 + 29 * s + 8) = -5 → ¬ v' (107 + 29 * s + 8) = -5) (h7 : (v (107 + 29 * s + 7)).toInt ≤ (v' (107 + 29 * s + 7)).toInt) : r_R σ' v' h nC nS nK 160 := by
  obtain ⟨qH, qC, qP, qS, qK, qL, qN⟩ := hR
  have b3 : nK ≤ 160 := qH.2.2.2.2.2.2.2.2.2.2.2.2.1
  have b2 : nS ≤ 20 := qH.2.2.2.2.2.2.2.2.2.2.2.1
  have b1 : nC ≤ 8 := qH.2.2.2.2.2.2.2.2.2.2.1
  refine ⟨qH.cg (fun k hk => by rw [h0 0 (by decide) (by decide) (by decide) (by decide)]) (fun a ha => h2 a (by omega)), qC.cg (h0 11 (by decide) (by decide) (by decide) (by decide)) (fun a h3 h4 => h2 a (by omega)) b1, qP.cg (h0 13 (by decide) (by decide) (by decide) (by decide)) (fun a h3 h4 => h2 a (by omega)), fun q hq => ?_, ⟨fun p k hp hk => ?_, fun p hp => ?_, fun p p' h3 h4 h5 h6 => ?_⟩, qL.cg (h0 1 (by decide) (by decide) (by decide) (by decide)) (h0 2 (by decide) (by decide) (by decide) (by decide)) (h2 6 (by omega)) (fun a h3 h4 => h2 a (by omega)), ?_⟩
  · by_cases hqs : q = s
    · subst hqs; exact hS
    · exact (qS q hq).cg (h1 7 q hqs) (h1 8 q hqs) (h1 9 q hqs) (h1 10 q hqs) (fun a h3 h4 => h2 a (by omega)) (Nat.le_refl _)
  · rw [h0 12 (by decide) (by decide) (by decide) (by decide), h2 _ (by omega)]; exact qK.1 p k hp hk
  · obtain ⟨s', c, a1, a2, a3, a4, a5, a6, a7⟩ := qK.2.1 p hp
    refine ⟨s', c, a1, a2, ?_, ?_, ?_, ?_, ?_⟩
    · rw [h2 _ (by omega)]; exact a3
    · rw [h2 _ (by omega)]; exact a4
    · by_cases hq : s' = s
      · subst hq; exact h8 a5
      · rw [h2 _ (by omega)]; exact a5
    · rw [h2 _ (by omega)]; exact a6
    · intro hne
      rw [h2 (687 + 6 * p + 2) (by omega), h2 (687 + 6 * p + 5) (by omega)]
      intro h3
      obtain ⟨w, g1, g2, g3⟩ := a7 hne h3
      refine ⟨w, g1, g2, ?_⟩
      by_cases hq : s' = s
      · subst hq; omega
      · rw [h2 _ (by omega)]; exact g3
  · rw [h2 _ (by omega), h2 _ (by omega)] at h5 h6
    exact qK.2.2 p p' h3 h4 h5 h6
  · have := r_cnt_mono (v := v) (v' := v') nS (fun q hq h3 => by
      by_cases hqs : q = s
      · subst hqs; exact h8 h3
      · rw [h2 _ (by omega)]; exact h3)
    omega
/-- a copy is planned -/
theorem r_plan {σ : ed_SM} {v : Nat → Int32} {h nC nS nK s c : Nat} (hR : r_R σ v h nC nS nK 160) (hs : s < nS) (hc : c < nC) (hK : nK < 160) (h8 : ¬ v (107 + 29 * s + 8) = -5) (hN : nK + 1 ≤ 8 * r_cnt v nS) (hu : ∀ p, p < nK → v (687 + 6 * p) = nI s → ¬ v (687 + 6 * p + 1) = nI c) (x : Int32) :
    ∃ σ', f_X5_planCopy (nI s) (nI c) x σ = some σ' ∧ r_R σ' (upd (upd (upd (upd (upd (upd (upd v (687 + 6 * nK) (nI s)) (687 + 6 * nK + 1) (nI c)) (687 + 6 * nK + 2) 0) (687 + 6 * nK + 3) x) (687 + 6 * nK + 4) (-5)) (687 + 6 * nK + 5) (-5)) 3 (nI (nK + 1))) h nC nS (nK + 1) 160 := by
  obtain ⟨⟨q1, q2, q3, q4, q5, q6, q7, q8, q9, q10, b1, b2, b3, b4⟩, qC, qP, qS, qK, qL, qN⟩ := hR
  have e1 : σ 0 0 5 + 1 = nI (nK + 1) := by rw [q9]; exact nI_add nK 1
  have e2 : nI (nK + 1) - 1 = nI nK := by
    have := pk_sub (a := nK + 1) (b := 1) (by omega)
    exact this
  have e3 : ed_up σ 0 0 5 (nI (nK + 1)) 0 0 5 = nI (nK + 1) := pr_up_same _ _ _ _ _
  unfold f_X5_planCopy
  rw [if_pos (show σ 0 0 5 < 160 by rw [q9]; show nI nK < nI 160; rw [pr_lt (by omega) (by omega)]; exact hK), e1, pr_t, e3, e2, pr_copyMade e3 (by omega) (by omega), pr_b]
  show ∃ σ', ed_g _ _ = some σ' ∧ _
  rw [pr_g (by omega)]
  unfold f_X1_begin
  simp only [pr_t, pr_b]
  refine ⟨_, rfl, ?_⟩
  generalize hσ' : ed_up _ 12 nK 5 _ = σ'
  generalize hv' : upd _ 3 _ = v'
  have oK : ∀ K, K ≠ 0 → K ≠ 12 → σ' K = σ K := fun K g0 g1 => by
    rw [← hσ']; funext i
    rw [pr_up_K _ _ g1, pr_up_K _ _ g1, pr_up_K _ _ g1, pr_up_K _ _ g1, pr_up_K _ _ g1, pr_up_K _ _ g1, pr_up_K _ _ g0]
  have ov : ∀ a, a ≠ 3 → a < 687 + 6 * nK ∨ 687 + 6 * nK + 6 ≤ a → v' a = v a := fun a g0 g1 => by
    rw [← hv', pr_une _ _ g0, pr_une _ _ (by omega), pr_une _ _ (by omega), pr_une _ _ (by omega), pr_une _ _ (by omega), pr_une _ _ (by omega), pr_une _ _ (by omega)]
  have w0 : v' (687 + 6 * nK) = nI s := by
    rw [← hv', pr_une _ _ (by omega), pr_une _ _ (by omega), pr_une _ _ (by omega), pr_une _ _ (by omega), pr_une _ _ (by omega), pr_une _ _ (by omega), pr_ueq _ _ (by omega)]
  have w1 : v' (687 + 6 * nK + 1) = nI c := by
    rw [← hv', pr_une _ _ (by omega), pr_une _ _ (by omega), pr_une _ _ (by omega), pr_une _ _ (by omega), pr_une _ _ (by omega), pr_ueq _ _ (by omega)]
  have w2 : v' (687 + 6 * nK + 2) = 0 := by
    rw [← hv', pr_une _ _ (by omega), pr_une _ _ (by omega), pr_une _ _ (by omega), pr_une _ _ (by omega), pr_ueq _ _ (by omega)]
  have w3v : v' (687 + 6 * nK + 3) = x := by
    rw [← hv', pr_une _ _ (by omega), pr_une _ _ (by omega), pr_une _ _ (by omega), pr_ueq _ _ (by omega)]
  have w4 : v' (687 + 6 * nK + 4) = -5 := by
    rw [← hv', pr_une _ _ (by omega), pr_une _ _ (by omega), pr_ueq _ _ (by omega)]
  have w5 : v' (687 + 6 * nK + 5) = -5 := by
    rw [← hv', pr_une _ _ (by omega), pr_ueq _ _ (by omega)]
  have w : ∀ k, k < 6 → σ' 12 nK k = v' (687 + 6 * nK + k) := fun k hk => by
    rcases (show k = 0 ∨ k = 1 ∨ k = 2 ∨ k = 3 ∨ k = 4 ∨ k = 5 by omega) with rfl | rfl | rfl | rfl | rfl | rfl
    · rw [Nat.add_zero, w0, ← hσ', pr_up_k _ _ (by omega), pr_up_k _ _ (by omega), pr_up_k _ _ (by omega), pr_up_k _ _ (by omega), pr_up_k _ _ (by omega), pr_up_same]
    · rw [w1, ← hσ', pr_up_k _ _ (by omega), pr_up_k _ _ (by omega), pr_up_k _ _ (by omega), pr_up_k _ _ (by omega), pr_up_same]
    · rw [w2, ← hσ', pr_up_k _ _ (by omega), pr_up_k _ _ (by omega), pr_up_k _ _ (by omega), pr_up_same]
    · rw [w3v, ← hσ', pr_up_k _ _ (by omega), pr_up_k _ _ (by omega), pr_up_same]
    · rw [w4, ← hσ', pr_up_k _ _ (by omega), pr_up_same]
    · rw [w5, ← hσ', pr_up_same]
  have w3 : v' 3 = nI (nK + 1) := by rw [← hv', pr_upd, if_pos rfl]
  have oH : ∀ k, k < 5 → σ' 0 0 k = σ 0 0 k := fun k hk => by
    rw [← hσ', pr_up_K _ _ (by decide), pr_up_K _ _ (by decide), pr_up_K _ _ (by decide), pr_up_K _ _ (by decide), pr_up_K _ _ (by decide), pr_up_K _ _ (by decide), pr_up_k _ _ (by omega)]
  have o5 : σ' 0 0 5 = nI (nK + 1) := by
    rw [← hσ', pr_up_K _ _ (by decide), pr_up_K _ _ (by decide), pr_up_K _ _ (by decide), pr_up_K _ _ (by decide), pr_up_K _ _ (by decide), pr_up_K _ _ (by decide), e3]
  have oi : ∀ p, p ≠ nK → σ' 12 p = σ 12 p := fun p hp => by
    rw [← hσ', pr_up_i _ _ hp, pr_up_i _ _ hp, pr_up_i _ _ hp, pr_up_i _ _ hp, pr_up_i _ _ hp, pr_up_i _ _ hp, pr_up_K _ _ (by decide)]
  refine ⟨?_, qC.cg (oK 11 (by decide) (by decide)) (fun a h1 h2 => ov a (by omega) (by omega)) b1, qP.cg (oK 13 (by decide) (by decide)) (fun a h1 h2 => ov a (by omega) (by omega)), qS.cg (oK 7 (by decide) (by decide)) (oK 8 (by decide) (by decide)) (oK 9 (by decide) (by decide)) (oK 10 (by decide) (by decide)) (fun a h1 h2 => ov a (by omega) (by omega)) (Nat.le_refl _) b2, ⟨fun q i hq hi => ?_, fun q hq => ?_, fun q q' h1 h2 h3 h4 => ?_⟩, qL.cg (oK 1 (by decide) (by decide)) (oK 2 (by decide) (by decide)) (ov 6 (by omega) (by omega)) (fun a h1 h2 => ov a (by omega) (by omega)), by rw [r_cnt_cg nS (fun s hs => ov _ (by omega) (by omega))]; exact hN⟩
  · exact ⟨by rw [oH 0 (by omega)]; exact q1, by rw [ov 0 (by omega) (by omega)]; exact q2, by rw [oH 1 (by omega), ov 4 (by omega) (by omega)]; exact q3, by rw [oH 2 (by omega), ov 5 (by omega) (by omega)]; exact q4, by rw [oH 3 (by omega)]; exact q5, by rw [ov 2 (by omega) (by omega)]; exact q6, by rw [oH 4 (by omega)]; exact q7, by rw [ov 1 (by omega) (by omega)]; exact q8, o5, w3, b1, b2, by omega, b4⟩
  · by_cases hq2 : q = nK
    · subst hq2; exact w i hi
    · rw [oi q hq2, ov _ (by omega) (by omega)]; exact qK.1 q i (by omega) hi
  · by_cases hq2 : q = nK
    · subst hq2
      refine ⟨s, c, hs, hc, w0, w1, by rw [ov _ (by omega) (by omega)]; exact h8, by rw [w2]; decide, fun _ h1 => ?_⟩
      rw [w2] at h1
      exact absurd h1 (by decide)
    · obtain ⟨s', c', a1, a2, a3⟩ := qK.2.1 q (by omega)
      refine ⟨s', c', a1, a2, ?_⟩
      rw [ov _ (by omega) (by omega), ov _ (by omega) (by omega), ov _ (by omega) (by omega), ov _ (by omega) (by omega), ov _ (by omega) (by omega), ov _ (by omega) (by omega)]
      exact a3
  · by_cases g1 : q = nK
    · by_cases g2 : q' = nK
      · omega
      · subst g1
        rw [w0, ov _ (by omega) (by omega)] at h3
        rw [w1, ov _ (by omega) (by omega)] at h4
        exact absurd h4.symm (hu q' (by omega) h3.symm)
    · by_cases g2 : q' = nK
      · subst g2
        rw [w0, ov _ (by omega) (by omega)] at h3
        rw [w1, ov _ (by omega) (by omega)] at h4
        exact absurd h4 (hu q (by omega) h3)
      · rw [ov _ (by omega) (by omega), ov _ (by omega) (by omega)] at h3 h4
        exact qK.2.2 q q' (by omega) (by omega) h3 h4
