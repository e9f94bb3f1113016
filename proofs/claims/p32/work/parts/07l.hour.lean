/-! an hour: put together -/
def r_fk (v v' : Nat → Int32) (nK : Nat) : Prop := ∀ q, q < nK → v' (687 + 6 * q) = v (687 + 6 * q) ∧ v' (687 + 6 * q + 1) = v (687 + 6 * q + 1)
theorem r_fk.tr {v v1 v2 : Nat → Int32} {n m : Nat} (h1 : r_fk v v1 n) (h2 : r_fk v1 v2 m) (h : n ≤ m) : r_fk v v2 n := fun q hq => ⟨(h2 q (by omega)).1.trans (h1 q hq).1, (h2 q (by omega)).2.trans (h1 q hq).2⟩
theorem r_publish (ν : em_MM) {σ : ed_SM} {v : Nat → Int32} {h nC nS nK s : Nat} (hR : r_R σ v h nC nS nK 160) (hs : s < nS) (h1 : v (107 + 29 * s + 6) = 1) : ∃ σ' v' nK', f_X5_publish s (nI s) σ = some σ' ∧ f_X9_publish (nI s) (em_sR ν 1 v) = some (em_sR ν 1 v') ∧ r_R σ' v' h nC nS nK' 160 ∧ nK ≤ nK' ∧ r_fk v v' nK ∧ r_T v v' := by
  obtain ⟨⟨q1, q2, q3, q4, q5, q6, q7, q8, q9, q10, b1, b2, b3, b4⟩, qC, qP, qS, qK, qL, qN⟩ := id hR
  have hout : v (107 + 29 * s + 8) = -5 := (qS s hs).2.2.2.2.2 (Or.inr h1)
  have hno : ∀ p, p < nK → ¬ v (687 + 6 * p) = nI s := fun p hp g => by
    obtain ⟨s', c, g1, g2, g3, g4, g5, -⟩ := qK.2.1 p hp
    rw [g] at g3
    have : s = s' := (nI_eq (by omega) (by omega)).mp g3
    subst this
    exact g5 hout
  have i6 : f_X9_storyAt (nI s) 6 = nI (107 + 29 * s + 6) := pr_9s s 6
  have i8 : f_X9_storyAt (nI s) 8 = nI (107 + 29 * s + 8) := pr_9s s 8
  have hh5 : ¬ nI h = -5 := pr_neg h (by omega)
  have r1 := hR.upF hs (kc := 6) (kv := 6) (Or.inl ⟨rfl, rfl⟩) 2 (fun _ => ⟨by decide, fun g => by rcases g with g | g <;> exact absurd g (by decide)⟩) (fun g => by omega)
  have r2 := r1.upF hs (kc := 9) (kv := 8) (Or.inr (Or.inr (Or.inl ⟨rfl, rfl⟩))) (nI h) (fun g => by omega) (fun _ => ⟨by rw [pr_ueq _ _ rfl]; decide, hh5⟩)
  have w0 : upd v (107 + 29 * s + 6) 2 0 = nI h := by rw [pr_une _ _ (by omega), q2]
  have z0 : ed_up σ 7 s 6 2 0 0 0 = nI h := by rw [pr_up_K _ _ (by decide), q1]
  have z1 : ed_up (ed_up σ 7 s 6 2) 7 s 9 (nI h) 0 0 0 = nI h := by rw [pr_up_K _ _ (by decide), z0]
  have w1 : upd (upd v (107 + 29 * s + 6) 2) (107 + 29 * s + 8) (nI h) 0 = nI h := by rw [pr_une _ _ (by omega), w0]
  unfold f_X5_publish f_X9_publish
  rw [i6, i8, pr_t, z0, pr_t, z1, pr_gin (by omega) (by omega), pr_t, pr_gN (by decide) (by decide), pr_gin (by omega) (by omega), pr_t, nI_clamp (n := 107 + 29 * s + 6) (by omega), nI_clamp (n := 107 + 29 * s + 8) (by omega), pr_cl 0 (by omega), pr_sRu, pr_sR1, w0, pr_sRu]
  obtain ⟨σ1, v1, g1, g2, g3, g4, g5⟩ := r_log ν _ _ 0 (nI h) (-5) s r2.2.2.2.2.2.1 (by omega) (Or.inl rfl) w1.symm
  rw [g1, g2, pr_b, pr_b]
  have r3 := r2.lg g3 g4 g5
  have ho : v1 (107 + 29 * s + 8) = nI h := by rw [g5 _ (by omega) (by omega), pr_ueq _ _ rfl]
  have hcnt : r_cnt v1 nS = r_cnt v nS + 1 := r_cnt_suc (s := s) hout (by rw [ho]; exact hh5) nS (fun q hq hqs => by rw [g5 _ (by omega) (by omega), pr_une _ _ (by omega), pr_une _ _ (by omega)]) hs
  have ck : ∀ a, 687 ≤ a → a < 1647 → v1 a = v a := fun a g6 g7 => by rw [g5 _ (by omega) (by omega), pr_une _ _ (by omega), pr_une _ _ (by omega)]
  obtain ⟨σ2, v2, nK2, y1, y2, y3, y4, y5, y6⟩ := r_pubL ν hs nC 0 ed_N ed_N nK σ1 v1 (by omega) (by unfold ed_N; omega) (by unfold ed_N; omega) r3 (by rw [ho]; exact hh5) (by omega) (fun p hp g => by
    rw [ck _ (by omega) (by omega)] at g
    exact absurd g (hno p hp))
  refine ⟨σ2, v2, nK2, y1, y2, y3, y4, fun q hq => ?_, fun a ha => ?_⟩
  · obtain ⟨g6, g7⟩ := y5.1 q hq
    rw [g6, g7, ck _ (by omega) (by omega), ck _ (by omega) (by omega)]
    exact ⟨rfl, rfl⟩
  · rw [y6 a ha, g5 _ (by omega) (by omega), pr_une _ _ (by omega), pr_une _ _ (by omega)]
theorem r_loopS (ν : em_MM) {h nC nS : Nat} : ∀ (d i n n' nK : Nat) (σ : ed_SM) (v : Nat → Int32), i + d = nS → d < n → d < n' → r_R σ v h nC nS nK 160 → ∃ σ' v' nK' came, f_X5_passHour_26 n (nI i) σ = some σ' ∧ f_X9_oneHour_54 n' (nI i) (em_sR ν 1 v) = some (came, em_sR ν 1 v') ∧ r_R σ' v' h nC nS nK' 160 ∧ nK ≤ nK' ∧ r_fk v v' nK ∧ r_sum v' nC = r_sum v nC + came := by
  intro d
  induction d with
  | zero =>
    intro i n n' nK σ v hi hn hn' hR
    obtain ⟨n, rfl⟩ : ∃ q, n = q + 1 := ⟨n - 1, by omega⟩
    obtain ⟨n', rfl⟩ : ∃ q, n' = q + 1 := ⟨n' - 1, by omega⟩
    obtain ⟨q1, q2, q3, q4, q5, q6, q7, q8, q9, q10, b1, b2, b3, b4⟩ := hR.1
    have v2 : em_sR ν 1 v 1 (2 : Int32).toNatClampNeg = nI nS := by rw [pr_sR1, pr_cl 2 (by omega), q6]
    rw [f_X5_passHour_26, f_X9_oneHour_54, pr_gN (by decide) (by decide), v2, q5, if_pos (by rw [pr_le (by omega) (by omega)]; omega), if_pos (by rw [pr_le (by omega) (by omega)]; omega)]
    obtain ⟨σ1, v1, cm, y1, y2, y3, y4, y5⟩ := r_loopK ν nK 0 ed_N ed_N 0 σ v (by omega) (by unfold ed_N; omega) (by unfold ed_N; omega) hR
    rw [Int32.add_zero] at y5
    exact ⟨σ1, v1, nK, cm, y1, y2, y3, Nat.le_refl _, fun q hq => y4.1 q hq, y5⟩
  | succ d ih =>
    intro i n n' nK σ v hi hn hn' hR
    obtain ⟨n, rfl⟩ : ∃ q, n = q + 1 := ⟨n - 1, by omega⟩
    obtain ⟨n', rfl⟩ : ∃ q, n' = q + 1 := ⟨n' - 1, by omega⟩
    obtain ⟨⟨q1, q2, q3, q4, q5, q6, q7, q8, q9, q10, b1, b2, b3, b4⟩, qC, qP, qS, qK, qL, qN⟩ := id hR
    obtain ⟨⟨-, -, a3, -, a5, -⟩, -⟩ := qS i (by omega)
    have v2 : em_sR ν 1 v 1 (2 : Int32).toNatClampNeg = nI nS := by rw [pr_sR1, pr_cl 2 (by omega), q6]
    have v0 : em_sR ν 1 v 1 (0 : Int32).toNatClampNeg = nI h := by rw [pr_sR1, pr_cl 0 (by omega), q2]
    have np : ¬ nI nS ≤ nI i := by rw [pr_le (by omega) (by omega)]; omega
    have e1 : nI i + 1 = nI (i + 1) := nI_add i 1
    have o6 : f_X9_ofStory (nI i) 6 (em_sR ν 1 v) = some (v (107 + 29 * i + 6)) := pr_s ν v (by omega) 6 (by omega)
    have o5 : f_X9_ofStory (nI i) 5 (em_sR ν 1 v) = some (v (107 + 29 * i + 5)) := pr_s ν v (by omega) 5 (by omega)
    have go := ih (i + 1) n n' nK σ v (by omega) (by omega) (by omega) hR
    rw [f_X5_passHour_26, f_X9_oneHour_54, pr_gN (by decide) (by decide), v2, q5, if_neg np, if_neg np, pr_storyAt q5 b2 (by omega), pr_b]
    show ∃ σ' v' nK' came, ed_g _ _ = some σ' ∧ _
    rw [pr_g (by omega), e1, o6, pr_b, a5]
    by_cases h1 : v (107 + 29 * i + 6) = 1
    · rw [if_pos h1, if_pos h1, o5, pr_b, pr_gN (by decide) (by decide), v0, q1, a3]
      by_cases h2 : nI h < v (107 + 29 * i + 5)
      · rw [if_pos h2, if_pos h2]; exact go
      · rw [if_neg h2, if_neg h2]
        obtain ⟨σ1, v1, nK1, y1, y2, y3, y4, y5, y6⟩ := r_publish ν hR (s := i) (by omega) h1
        rw [y1, y2, pr_b, pr_b]
        obtain ⟨σ2, v3, nK2, cm, z1, z2, z3, z4, z5, z6⟩ := ih (i + 1) n n' nK1 σ1 v1 (by omega) (by omega) (by omega) y3
        exact ⟨σ2, v3, nK2, cm, z1, z2, z3, by omega, y5.tr z5 y4, by rw [z6, r_sum_T y6 nC b1]⟩
    · rw [if_neg h1, if_neg h1]; exact go
theorem r_day (ν : em_MM) {h nC nS nK : Nat} (h24 : nI h - nI h / 24 * 24 = 0) : ∀ (d i n n' : Nat) (σ : ed_SM) (v : Nat → Int32), i + d = nC → d < n → d < n' → r_R σ v h nC nS nK 160 → ∃ σ' v', f_X5_startDay_2 n (nI i) σ = some σ' ∧ f_X9_oneHour_12 n' (nI i) (em_sR ν 1 v) = f_X9_oneHour_54 ed_N 0 (em_sR ν 1 v') ∧ r_R σ' v' h nC nS nK 160 ∧ r_fk v v' nK ∧ r_T v v' := by
  intro d
  induction d with
  | zero =>
    intro i n n' σ v hi hn hn' hR
    obtain ⟨n, rfl⟩ : ∃ q, n = q + 1 := ⟨n - 1, by omega⟩
    obtain ⟨n', rfl⟩ : ∃ q, n' = q + 1 := ⟨n' - 1, by omega⟩
    obtain ⟨q1, q2, q3, q4, q5, q6, q7, q8, q9, q10, b1, b2, b3, b4⟩ := hR.1
    have v1 : em_sR ν 1 v 1 (1 : Int32).toNatClampNeg = nI nC := by rw [pr_sR1, pr_cl 1 (by omega), q8]
    rw [f_X5_startDay_2, f_X9_oneHour_12, pr_gN (by decide) (by decide), v1, q7, if_pos (by rw [pr_le (by omega) (by omega)]; omega), if_pos (by rw [pr_le (by omega) (by omega)]; omega)]
    exact ⟨σ, v, rfl, rfl, hR, fun _ _ => ⟨rfl, rfl⟩, fun _ _ => rfl⟩
  | succ d ih =>
    intro i n n' σ v hi hn hn' hR
    obtain ⟨n, rfl⟩ : ∃ q, n = q + 1 := ⟨n - 1, by omega⟩
    obtain ⟨n', rfl⟩ : ∃ q, n' = q + 1 := ⟨n' - 1, by omega⟩
    obtain ⟨q1, q2, q3, q4, q5, q6, q7, q8, q9, q10, b1, b2, b3, b4⟩ := hR.1
    have v1 : em_sR ν 1 v 1 (1 : Int32).toNatClampNeg = nI nC := by rw [pr_sR1, pr_cl 1 (by omega), q8]
    have v0 : em_sR ν 1 v 1 (0 : Int32).toNatClampNeg = nI h := by rw [pr_sR1, pr_cl 0 (by omega), q2]
    have np : ¬ nI nC ≤ nI i := by rw [pr_le (by omega) (by omega)]; omega
    have e1 : nI i + 1 = nI (i + 1) := nI_add i 1
    have i7 : f_X9_clientAt (nI i) 7 = nI (7 + 10 * i + 7) := pr_9c i 7
    rw [f_X5_startDay_2, f_X9_oneHour_12, pr_gN (by decide) (by decide), v1, q7, if_neg np, if_neg np, pr_clientAt q7 b1 (by omega), pr_b]
    show ∃ σ' v', ed_g _ _ = some σ' ∧ _
    rw [pr_g (by omega), e1, pr_t, pr_gN (by decide) (by decide), v0, if_pos h24, i7, pr_gin (by omega) (by omega), pr_t, nI_clamp (n := 7 + 10 * i + 7) (by omega), pr_sRu]
    obtain ⟨σ2, v2, z1, z2, z3, z4, z5⟩ := ih (i + 1) n n' _ _ (by omega) (by omega) (by omega) (hR.upC (c := i) (k := 7) (by omega) (by omega) (by omega) 0 (fun g => by omega))
    refine ⟨σ2, v2, z1, z2, z3, fun q hq => ?_, fun a ha => ?_⟩
    · rw [(z4 q hq).1, (z4 q hq).2, pr_une _ _ (by omega), pr_une _ _ (by omega)]
      exact ⟨rfl, rfl⟩
    · rw [z5 a ha, pr_une _ _ (by omega)]
theorem r_R.hr {σ : ed_SM} {v : Nat → Int32} {h nC nS nK : Nat} (hR : r_R σ v h nC nS nK 160) (hh : h + 1 < 20000) : r_R (ed_up σ 0 0 0 (nI (h + 1))) (upd v 0 (nI (h + 1))) (h + 1) nC nS nK 160 := by
  obtain ⟨⟨q1, q2, q3, q4, q5, q6, q7, q8, q9, q10, b1, b2, b3, b4⟩, qC, qP, qS, qK, qL, qN⟩ := hR
  have oK : ∀ K, K ≠ 0 → ed_up σ 0 0 0 (nI (h + 1)) K = σ K := fun K hK => by funext i; rw [pr_up_K _ _ hK]
  have ov : ∀ a, a ≠ 0 → upd v 0 (nI (h + 1)) a = v a := fun a ha => pr_une _ _ ha
  refine ⟨?_, qC.cg (oK 11 (by decide)) (fun a h1 h2 => ov a (by omega)) b1, qP.cg (oK 13 (by decide)) (fun a h1 h2 => ov a (by omega)), qS.cg (oK 7 (by decide)) (oK 8 (by decide)) (oK 9 (by decide)) (oK 10 (by decide)) (fun a h1 h2 => ov a (by omega)) (by omega) b2, qK.cg (oK 12 (by decide)) (fun a h1 h2 => ov a (by omega)) b2 b3, qL.cg (oK 1 (by decide)) (oK 2 (by decide)) (ov 6 (by omega)) (fun a h1 h2 => ov a (by omega)), by rw [r_cnt_cg nS (fun s hs => ov _ (by omega))]; exact qN⟩
  unfold r_H
  rw [pr_up_same, pr_up_k _ _ (by decide), pr_up_k _ _ (by decide), pr_up_k _ _ (by decide), pr_up_k _ _ (by decide), pr_up_k _ _ (by decide), pr_ueq _ _ rfl, ov 1 (by decide), ov 2 (by decide), ov 3 (by decide), ov 4 (by decide), ov 5 (by decide)]
  exact ⟨rfl, rfl, q3, q4, q5, q6, q7, q8, q9, q10, b1, b2, b3, hh⟩
theorem r_hour (ν : em_MM) {σ : ed_SM} {v : Nat → Int32} {h nC nS nK : Nat} (hR : r_R σ v h nC nS nK 160) (hh : h + 1 < 20000) : ∃ σ' v' nK' came, f_X5_passHour σ = some σ' ∧ f_X9_oneHour (em_sR ν 1 v) = some (came, em_sR ν 1 v') ∧ r_R σ' v' (h + 1) nC nS nK' 160 ∧ nK ≤ nK' ∧ r_fk v v' nK ∧ r_sum v' nC = r_sum v nC + came := by
  obtain ⟨q1, q2, q3, q4, q5, q6, q7, q8, q9, q10, b1, b2, b3, b4⟩ := hR.1
  have hR1 := hR.hr hh
  have v0 : em_sR ν 1 v 1 (0 : Int32).toNatClampNeg = nI h := by rw [pr_sR1, pr_cl 0 (by omega), q2]
  have e1 : nI h + 1 = nI (h + 1) := nI_add h 1
  have f0 : r_fk v (upd v 0 (nI (h + 1))) nK := fun q _ => ⟨pr_une _ _ (by omega), pr_une _ _ (by omega)⟩
  have t0 : r_T v (upd v 0 (nI (h + 1))) := fun a _ => pr_une _ _ (by omega)
  unfold f_X5_passHour f_X9_oneHour
  rw [pr_gN (by decide) (by decide), pr_gN (by decide) (by decide), v0, q1, e1, pr_t, pr_t, pr_cl 0 (by omega), pr_sRu, hR1.1.1]
  by_cases h24 : nI (h + 1) - nI (h + 1) / 24 * 24 = 0
  · rw [if_pos h24]
    obtain ⟨σ1, v1, y1, y2, y3, y4, y5⟩ := r_day ν h24 nC 0 ed_N ed_N _ _ (by omega) (by unfold ed_N; omega) (by unfold ed_N; omega) hR1
    unfold f_X5_startDay
    have y1 : f_X5_startDay_2 ed_N 0 (ed_up σ 0 0 0 (nI (h + 1))) = some σ1 := y1
    have y2 : f_X9_oneHour_12 ed_N 0 (em_sR ν 1 (upd v 0 (nI (h + 1)))) = _ := y2
    rw [y1, y2, pr_b]
    obtain ⟨σ2, v2, nK2, cm, z1, z2, z3, z4, z5, z6⟩ := r_loopS ν nS 0 ed_N ed_N nK σ1 v1 (by omega) (by unfold ed_N; omega) (by unfold ed_N; omega) y3
    exact ⟨σ2, v2, nK2, cm, z1, z2, z3, z4, (f0.tr y4 (Nat.le_refl _)).tr z5 (Nat.le_refl _), by rw [z6, r_sum_T (t0.tr y5) nC b1]⟩
  · rw [if_neg h24]
    have v1 : em_sR ν 1 (upd v 0 (nI (h + 1))) 1 (1 : Int32).toNatClampNeg = nI nC := by rw [pr_sR1, pr_cl 1 (by omega), pr_une _ _ (by omega), q8]
    have v2 : em_sR ν 1 (upd v 0 (nI (h + 1))) 1 (0 : Int32).toNatClampNeg = nI (h + 1) := by rw [pr_sR1, pr_cl 0 (by omega), pr_ueq _ _ rfl]
    have y3 : ∀ n, f_X9_oneHour_12 (n + 1) 0 (em_sR ν 1 (upd v 0 (nI (h + 1)))) = f_X9_oneHour_54 ed_N 0 (em_sR ν 1 (upd v 0 (nI (h + 1)))) := fun n => by
      rw [f_X9_oneHour_12, pr_gN (by decide) (by decide), v1, pr_gN (by decide) (by decide), v2, if_neg h24]
      by_cases hz : nI nC ≤ 0
      · rw [if_pos hz]
      · rw [if_neg hz]
    have y2 : f_X9_oneHour_12 ed_N 0 (em_sR ν 1 (upd v 0 (nI (h + 1)))) = f_X9_oneHour_54 ed_N 0 (em_sR ν 1 (upd v 0 (nI (h + 1)))) := y3 9999
    rw [y2]
    obtain ⟨σ2, v3, nK2, cm, z1, z2, z3, z4, z5, z6⟩ := r_loopS ν nS 0 ed_N ed_N nK _ _ (by omega) (by unfold ed_N; omega) (by unfold ed_N; omega) hR1
    exact ⟨σ2, v3, nK2, cm, z1, z2, z3, z4, f0.tr z5 (Nat.le_refl _), by rw [z6, r_sum_T t0 nC b1]⟩
