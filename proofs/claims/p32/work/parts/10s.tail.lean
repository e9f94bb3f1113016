/-! The law's end: the snapshot, hours, undo, hours, the snapshot again. -/
theorem i_304 : ∀ (n : Nat) (x1 x2 x3 x5 : Int32) (ν : em_MM) (r : Int32) (ν' : em_MM), f_X9_goOn_304 n x1 x2 x3 x5 ν = some (r, ν') → r = x5 := by
  intro n
  induction n with
  | zero => intro x1 x2 x3 x5 ν r ν' hf; cases hf
  | succ n ih =>
    intro x1 x2 x3 x5 ν r ν' hf
    rw [f_X9_goOn_304] at hf
    obtain ⟨r16, -, hf⟩ := ed_b_e hf
    obtain ⟨r17, -, hf⟩ := ed_b_e hf
    split at hf
    · exact (ed_so hf).1.symm
    · obtain ⟨-, hf⟩ := ed_g_e hf
      obtain ⟨r20, -, hf⟩ := ed_b_e hf
      obtain ⟨r21, -, hf⟩ := ed_b_e hf
      split at hf
      · exact (ed_so hf).1.symm
      · obtain ⟨-, hf⟩ := ed_g_e hf
        obtain ⟨-, hf⟩ := ed_g_e hf
        obtain ⟨ν26, -, hf⟩ := ed_t_e hf
        obtain ⟨-, hf⟩ := ed_g_e hf
        obtain ⟨-, hf⟩ := ed_g_e hf
        obtain ⟨ν29, -, hf⟩ := ed_t_e hf
        obtain ⟨ν30, -, hf⟩ := ed_b_e hf
        exact ih _ _ _ _ _ _ _ hf
theorem i_242 {x1 x2 x3 x4 x5 : Int32} {ν : em_MM} {r : Int32} {ν' : em_MM} (hf : f_X9_goOn_242 x1 x2 x3 x4 x5 ν = some (r, ν')) : r = x5 := by
  unfold f_X9_goOn_242 at hf
  obtain ⟨r11, -, hf⟩ := ed_b_e hf
  split at hf
  · obtain ⟨r13, -, hf⟩ := ed_b_e hf
    split at hf
    · exact (ed_so hf).1.symm
    · split at hf
      · exact i_304 _ _ _ _ _ _ _ _ hf
      · obtain ⟨-, hf⟩ := ed_g_e hf
        obtain ⟨r32, -, hf⟩ := ed_b_e hf
        split at hf
        · exact i_304 _ _ _ _ _ _ _ _ hf
        · obtain ⟨-, hf⟩ := ed_g_e hf
          obtain ⟨ν36, -, hf⟩ := ed_t_e hf
          obtain ⟨ν37, -, hf⟩ := ed_b_e hf
          exact (ed_so hf).1.symm
  · exact (ed_so hf).1.symm
theorem i_200 {x1 x2 x3 x4 x5 : Int32} {ν : em_MM} {r : Int32} {ν' : em_MM} (hf : f_X9_goOn_200 x1 x2 x3 x4 x5 ν = some (r, ν')) : r = x5 := by
  unfold f_X9_goOn_200 at hf
  obtain ⟨r9, -, hf⟩ := ed_b_e hf
  split at hf
  · obtain ⟨-, hf⟩ := ed_g_e hf
    obtain ⟨r39, -, hf⟩ := ed_b_e hf
    split at hf
    · exact i_242 hf
    · obtain ⟨-, hf⟩ := ed_g_e hf
      obtain ⟨ν43, -, hf⟩ := ed_t_e hf
      obtain ⟨ν44, -, hf⟩ := ed_b_e hf
      exact i_242 hf
  · exact i_242 hf
theorem i_60 {x1 x2 x3 x4 x5 : Int32} {ν : em_MM} {r : Int32} {ν' : em_MM} (hf : f_X9_goOn_60 x1 x2 x3 x4 x5 ν = some (r, ν')) : r = x5 ∨ r = 1 := by
  unfold f_X9_goOn_60 at hf
  obtain ⟨r7, -, hf⟩ := ed_b_e hf
  split at hf
  · obtain ⟨-, hf⟩ := ed_g_e hf
    obtain ⟨r46, -, hf⟩ := ed_b_e hf
    split at hf
    · exact Or.inl (i_200 hf)
    · obtain ⟨r48, -, hf⟩ := ed_b_e hf
      split at hf
      · obtain ⟨r50, -, hf⟩ := ed_b_e hf
        obtain ⟨r51, -, hf⟩ := ed_b_e hf
        split at hf
        · exact Or.inl (i_200 hf)
        · obtain ⟨-, hf⟩ := ed_g_e hf
          obtain ⟨ν55, -, hf⟩ := ed_t_e hf
          obtain ⟨-, hf⟩ := ed_g_e hf
          obtain ⟨-, hf⟩ := ed_g_e hf
          obtain ⟨ν59, -, hf⟩ := ed_t_e hf
          obtain ⟨r61, -, hf⟩ := ed_b_e hf
          obtain ⟨-, hf⟩ := ed_g_e hf
          obtain ⟨ν63, -, hf⟩ := ed_t_e hf
          obtain ⟨-, hf⟩ := ed_g_e hf
          obtain ⟨-, hf⟩ := ed_g_e hf
          obtain ⟨ν67, -, hf⟩ := ed_t_e hf
          obtain ⟨-, hf⟩ := ed_g_e hf
          obtain ⟨-, hf⟩ := ed_g_e hf
          obtain ⟨ν71, -, hf⟩ := ed_t_e hf
          obtain ⟨ν72, -, hf⟩ := ed_b_e hf
          obtain ⟨ν73, -, hf⟩ := ed_b_e hf
          exact Or.inr (i_200 hf)
      · exact Or.inl (i_200 hf)
  · exact Or.inl (i_200 hf)
theorem i_go {x1 : Int32} {ν : em_MM} {r : Int32} {ν' : em_MM} (hf : f_X9_goOn x1 ν = some (r, ν')) : r = 0 ∨ r = 1 := by
  have k32 : ∀ x1 x2 x3 x4 ν, f_X9_goOn_32 x1 x2 x3 x4 ν = some (r, ν') → r = 0 ∨ r = 1 := by
    intro x1 x2 x3 x4 ν hf
    unfold f_X9_goOn_32 at hf
    obtain ⟨r5, -, hf⟩ := ed_b_e hf
    split at hf
    · split at hf
      · exact i_60 hf
      · obtain ⟨-, hf⟩ := ed_g_e hf
        obtain ⟨ν77, -, hf⟩ := ed_t_e hf
        exact i_60 hf
    · exact i_60 hf
  unfold f_X9_goOn at hf
  obtain ⟨r1, -, hf⟩ := ed_b_e hf
  obtain ⟨r2, -, hf⟩ := ed_b_e hf
  obtain ⟨r3, -, hf⟩ := ed_b_e hf
  split at hf
  · exact k32 _ _ _ _ _ hf
  · exact k32 _ _ _ _ _ hf
theorem i_105 : ∀ (n : Nat) (x1 x2 : Int32) (ν : em_MM) (r : Int32) (ν' : em_MM), f_X9_oneHour_105 n x1 x2 ν = some (r, ν') → ∃ m, m ≤ n ∧ r = x1 + nI m := by
  intro n
  induction n with
  | zero => intro x1 x2 ν r ν' hf; cases hf
  | succ n ih =>
    intro x1 x2 ν r ν' hf
    rw [f_X9_oneHour_105] at hf
    obtain ⟨-, hf⟩ := ed_g_e hf
    split at hf
    · refine ⟨0, by omega, ?_⟩
      rw [← (ed_so hf).1]
      exact (Int32.add_zero x1).symm
    · obtain ⟨r10, ν10, h10, hf⟩ := ed_b2_e hf
      obtain ⟨m, m1, m2⟩ := ih _ _ _ _ _ hf
      rcases i_go h10 with q | q
      · exact ⟨m, by omega, by rw [m2, q, Int32.add_zero]⟩
      · refine ⟨1 + m, by omega, ?_⟩
        rw [m2, q, Int32.add_assoc, show (1 : Int32) = nI 1 from rfl, nI_add]
theorem i_54 : ∀ (n : Nat) (x1 : Int32) (ν : em_MM) (r : Int32) (ν' : em_MM), f_X9_oneHour_54 n x1 ν = some (r, ν') → ∃ m, m ≤ 10000 ∧ r = nI m := by
  intro n
  induction n with
  | zero => intro x1 ν r ν' hf; cases hf
  | succ n ih =>
    intro x1 ν r ν' hf
    rw [f_X9_oneHour_54] at hf
    obtain ⟨-, hf⟩ := ed_g_e hf
    split at hf
    · obtain ⟨m, m1, m2⟩ := i_105 _ _ _ _ _ _ hf
      exact ⟨m, m1, by rw [m2, Int32.zero_add]⟩
    · obtain ⟨r11, -, hf⟩ := ed_b_e hf
      split at hf
      · obtain ⟨r13, -, hf⟩ := ed_b_e hf
        obtain ⟨-, hf⟩ := ed_g_e hf
        split at hf
        · exact ih _ _ _ _ hf
        · obtain ⟨ν16, -, hf⟩ := ed_b_e hf
          exact ih _ _ _ _ hf
      · exact ih _ _ _ _ hf
theorem i_12 : ∀ (n : Nat) (x1 : Int32) (ν : em_MM) (r : Int32) (ν' : em_MM), f_X9_oneHour_12 n x1 ν = some (r, ν') → ∃ m, m ≤ 10000 ∧ r = nI m := by
  intro n
  induction n with
  | zero => intro x1 ν r ν' hf; cases hf
  | succ n ih =>
    intro x1 ν r ν' hf
    rw [f_X9_oneHour_12] at hf
    obtain ⟨-, hf⟩ := ed_g_e hf
    split at hf
    · exact i_54 _ _ _ _ _ hf
    · obtain ⟨-, hf⟩ := ed_g_e hf
      split at hf
      · obtain ⟨-, hf⟩ := ed_g_e hf
        obtain ⟨ν21, -, hf⟩ := ed_t_e hf
        exact ih _ _ _ _ hf
      · exact i_54 _ _ _ _ _ hf
theorem i_hour {ν : em_MM} {r : Int32} {ν' : em_MM} (hf : f_X9_oneHour ν = some (r, ν')) : ∃ m, m ≤ 10000 ∧ r = nI m := by
  unfold f_X9_oneHour at hf
  obtain ⟨-, hf⟩ := ed_g_e hf
  obtain ⟨-, hf⟩ := ed_g_e hf
  obtain ⟨ν3, -, hf⟩ := ed_t_e hf
  exact i_12 _ _ _ _ _ hf
theorem hv_sum {σ : ed_SM} {v : Nat → Int32} {h nC nS nK : Nat} (hR : r_R σ v h nC nS nK 160) (hh : h + 1 < 20000) : ∃ m, m ≤ 10000 ∧ r_sum (hv v) nC = r_sum v nC + nI m := by
  obtain ⟨σ', v', nK', came, h1, h2, h3, h4, h5, h6⟩ := r_hour (fun _ _ => 0) hR hh
  have e : hv v = v' := by
    unfold hv
    rw [h2]
    exact pr_sR1 _ _
  obtain ⟨m, m1, m2⟩ := i_hour h2
  exact ⟨m, m1, by rw [e, h6, m2]⟩
theorem hvn_sum {nC nS : Nat} : ∀ (k h nK : Nat) (σ : ed_SM) (v : Nat → Int32), r_R σ v h nC nS nK 160 → h + k < 19999 → ∃ m, m ≤ 10000 * k ∧ r_sum (hvn k v) nC = r_sum v nC + nI m := by
  intro k
  induction k with
  | zero =>
    intro h nK σ v hR hh
    exact ⟨0, by omega, (Int32.add_zero _).symm⟩
  | succ k ih =>
    intro h nK σ v hR hh
    obtain ⟨σ', nK', g1, g2, g3, g4⟩ := j_hv hR (by omega)
    obtain ⟨m, m1, m2⟩ := hv_sum hR (by omega)
    obtain ⟨m', m3, m4⟩ := ih (h + 1) nK' σ' (hv v) g2 (by omega)
    refine ⟨m + m', by omega, ?_⟩
    show r_sum (hvn k (hv v)) nC = _
    rw [m4, m2, Int32.add_assoc, nI_add]
theorem i_3 (a b : Int32) : a + b - a = b := by
  rw [Int32.add_comm, Int32.add_sub_cancel]
/-- what is remembered is on top -/
theorem h_rem {μ : ed_CM} {ν : em_MM} (hR : r_REL μ ν) {v : Nat → Int32} (hX : r_X (μ 0) v) : ∃ μ1 z j, f_X2_remember 0 μ = some μ1 ∧ (∀ j, j < 3 → μ1 j = μ j) ∧ (∀ K, K ≠ 15 → K ≠ 16 → μ1 7 K = μ 7 K) ∧ z < 4 ∧ μ1 7 15 0 1 = nI (z + 1) ∧ μ1 7 16 0 z = nI j ∧ 3 ≤ j ∧ j ≤ 6 ∧ r_X (μ1 j) v := by
  obtain ⟨μ', ν', a1, -, -, a4, -, a6, -⟩ := r_mem hR
  obtain ⟨-, -, ⟨z, ρ, z1, z2, z3, z4, z5⟩, -⟩ := hR
  have a1' := a1
  unfold f_X2_remember at a1'
  by_cases h4 : z = 4
  · subst h4
    obtain ⟨μ1, d1, d2, d3, d4, d5⟩ := r_drop z4 z2
    obtain ⟨σ, μ2, p1, p2, p3, p4, p5, p6⟩ := r_push d5 d4 (by omega) (v := v) (by rw [d2 0 (by decide)]; exact hX)
    have n4 : ¬ μ 7 15 0 1 < 4 := by
      rw [z2]; show ¬ nI 4 < nI 4
      rw [pr_lt (by omega) (by omega)]; omega
    rw [if_neg n4, d1, pr_b, p1] at a1'
    obtain rfl := Option.some.inj a1'
    have r2 := d5.2.1 3 (by omega)
    refine ⟨μ2, 3, ρ ((3 + 1) % 4), a1, a4, a6, by omega, p6, ?_, r2.1, r2.2, ?_⟩
    · rw [p5 16 (by decide)]; exact d5.1 3 (by omega)
    · rw [p4]; exact p2
  · obtain ⟨σ, μ2, p1, p2, p3, p4, p5, p6⟩ := r_push z4 z2 (by omega) hX
    have n4 : μ 7 15 0 1 < 4 := by
      rw [z2]; show nI z < nI 4
      rw [pr_lt (by omega) (by omega)]; omega
    rw [if_pos n4, p1] at a1'
    obtain rfl := Option.some.inj a1'
    have r2 := z4.2.1 z (by omega)
    refine ⟨μ2, z, ρ z, a1, a4, a6, by omega, p6, ?_, r2.1, r2.2, ?_⟩
    · rw [p5 16 (by decide)]; exact z4.1 z (by omega)
    · rw [p4]; exact p2
theorem j_XR {σ σ2 : ed_SM} {v : Nat → Int32} {h nC nS nK : Nat} (hR : r_R σ v h nC nS nK 160) (hX : r_X σ2 v) : r_R σ2 v h nC nS nK 160 := by
  obtain ⟨h', nC', nS', nK', -, hX⟩ := hX
  obtain ⟨p1, p2, p3, p4, p5, p6, p7, p8, p9, p10, c1, c2, c3, c4⟩ := hR.1
  obtain ⟨q1, q2, q3, q4, q5, q6, q7, q8, q9, q10, d1, d2, d3, d4⟩ := hX.1
  have e1 : h' = h := (nI_eq (by omega) (by omega)).mp (q2.symm.trans p2)
  have e2 : nC' = nC := (nI_eq (by omega) (by omega)).mp (q8.symm.trans p8)
  have e3 : nS' = nS := (nI_eq (by omega) (by omega)).mp (q6.symm.trans p6)
  have e4 : nK' = nK := (nI_eq (by omega) (by omega)).mp (q10.symm.trans p10)
  subst e1; subst e2; subst e3; subst e4
  exact hX
theorem t_pass {μ : ed_CM} {ν : em_MM} {M pd : Int} {h nC nS nK m : Nat} (G : j_G μ M pd h nC nS nK) (hR : r_REL μ ν) {v : Nat → Int32} (hX : r_R (μ 0) v h nC nS nK 160) (hm : 1 ≤ m ∧ m ≤ 100) (hh : h + m ≤ 9999) (hM : M + 1600000 * m + 1 ≤ 2000000000) : ∃ r μ' z j, f_X8_pass (nI m) μ = some (r, μ') ∧ ¬ r < 0 ∧ (∃ ν', r_REL μ' ν') ∧ μ' 2 = μ 2 ∧ (∀ K, K ≠ 15 → K ≠ 16 → μ' 7 K = μ 7 K) ∧ z < 4 ∧ μ' 7 15 0 1 = nI (z + 1) ∧ μ' 7 16 0 z = nI j ∧ 3 ≤ j ∧ j ≤ 6 ∧ r_X (μ' j) v := by
  obtain ⟨⟨a0, a3, a4, a5, a6, a7, a8, a9⟩, C, P, S, K, m1, m2, m3⟩ := id G.2
  obtain ⟨μ1, z, j, r1, r2, r3, r4, r5, r6, r7, r8, r9⟩ := h_rem hR ⟨h, nC, nS, nK, a9, hX⟩
  obtain ⟨r, μ', ν', hf, h9, hR'⟩ := m_pass hR (nI m)
  have hf0 := hf
  have t1 : (1 : Int32).toInt = 1 := by decide
  have t100 : (100 : Int32).toInt = 100 := by decide
  have r20 : μ1 0 = μ 0 := r2 0 (by omega)
  unfold f_X8_pass at hf
  replace hf := ed_in_ (j_bet (by rw [nI_toInt (by omega)]; omega) (by rw [nI_toInt (by omega)]; omega)) hf
  rw [a0, nI_add] at hf
  replace hf := ed_ip (show nI (h + m) ≤ 9999 by show nI (h + m) ≤ nI 9999; rw [pr_le (by omega) (by omega)]; exact hh) hf
  rw [r1, pr_b] at hf
  have hX1 : r_R (μ1 0) v h nC nS nK 160 := by rw [r20]; exact hX
  rw [r_came hX1, pr_b] at hf
  obtain ⟨σ', nK', y1, y2, y3, y4, y5⟩ := j_pass52 (m := m) (r_sum v nC) hm.2 m 0 ed_N h nK M μ1 v (by omega) (by unfold ed_N; omega) hh hX1 (by rw [r20]; exact G.2) hM
  have y1 : f_X8_pass_52 ed_N (nI m) (r_sum v nC) 0 μ1 = _ := y1
  rw [y1] at hf
  obtain ⟨rfl, rfl⟩ := ed_so hf
  obtain ⟨q, q1, q2⟩ := hvn_sum m h nK (μ 0) v hX (by omega)
  have z7 : ed_sJ μ1 0 σ' 7 = μ1 7 := ed_sJ_ne μ1 σ' (by decide)
  refine ⟨_, _, z, j, hf0, ?_, ⟨ν', hR'⟩, ?_, ?_, r4, ?_, ?_, r7, r8, ?_⟩
  · rw [q2, i_3]
    exact nI_pos (by omega)
  · rw [ed_sJ_ne μ1 σ' (show 2 ≠ 0 by decide)]; exact r2 2 (by omega)
  · intro K h1 h2
    rw [z7]
    exact r3 K h1 h2
  · rw [z7]; exact r5
  · rw [z7]; exact r6
  · rw [ed_sJ_ne μ1 σ' (show j ≠ 0 by omega)]; exact r9
theorem t_undo {μ : ed_CM} {ν : em_MM} (hR : r_REL μ ν) {v : Nat → Int32} {z j : Nat} (hz : z < 4) (h1 : μ 7 15 0 1 = nI (z + 1)) (h2 : μ 7 16 0 z = nI j) (hj : 3 ≤ j ∧ j ≤ 6) (hX : r_X (μ j) v) : ∃ r μ', f_X8_undo μ = some (r, μ') ∧ ¬ r < 0 ∧ (∃ ν', r_REL μ' ν') ∧ μ' 2 = μ 2 ∧ (∀ K, K ≠ 15 → μ' 7 K = μ 7 K) ∧ r_X (μ' 0) v := by
  obtain ⟨r, μ', ν', hf, h9, hR'⟩ := m_undo hR
  have hf0 := hf
  unfold f_X8_undo at hf
  rw [h1] at hf
  replace hf := ed_in_ (nI_ne0 (by omega) (by omega)) hf
  obtain ⟨μ2, e2, hf⟩ := ed_b_e hf
  obtain ⟨rfl, rfl⟩ := ed_so hf
  have e20 := e2
  unfold f_X2_takeLatest at e2
  rw [h1, nI_pred] at e2
  have ip : ¬ f_X8_isPlace (nI z) 4 = 0 := by
    rw [pr_isPlace, if_neg (nI_pos (by omega)), if_neg (show ¬ (4 : Int32) ≤ nI z by show ¬ nI 4 ≤ nI z; rw [pr_le (by omega) (by omega)]; omega)]
    decide
  replace e2 := ed_in_ ip e2
  obtain ⟨-, e2⟩ := ed_g_e e2
  rw [nI_clamp (by omega), h2, r_mod j (by omega), pr_t] at e2
  obtain ⟨-, e2⟩ := ed_g_e e2
  obtain ⟨σ', c1, c2⟩ := hX.cp (μ 0)
  rw [c1, pr_b] at e2
  obtain ⟨μ7, e7, e2⟩ := ed_t_e e2
  obtain ⟨μ8, e8, e2⟩ := ed_t_e e2
  obtain rfl := Option.some.inj e2
  have z7 : μ7 7 = μ 7 := by rw [e7, ed_sJ_ne _ _ (by decide)]
  have v8 : μ8 7 15 0 1 = nI z := by rw [e8, ed_sJ_self, pr_up_same, z7, h1, nI_pred]
  refine ⟨_, μ8, hf0, by rw [v8]; exact nI_pos (by omega), ⟨ν', hR'⟩, by rw [e8, ed_sJ_ne _ _ (by decide), e7, ed_sJ_ne _ _ (by decide)], fun K hK => ?_, ?_⟩
  · rw [e8, ed_sJ_self]
    funext i
    rw [pr_up_K _ _ hK, z7]
  · rw [e8, ed_sJ_ne _ _ (by decide), e7, ed_sJ_self]
    exact c2
theorem t_keep {μ : ed_CM} {ν : em_MM} {h : Nat} (hR : r_REL μ ν) {v : Nat → Int32} (hX : r_X (μ 0) v) (a0 : μ 0 0 0 0 = nI h) : ∃ μ', f_X8_keep μ = some (nI h, μ') ∧ (∃ ν', r_REL μ' ν') ∧ μ' 0 = μ 0 ∧ r_X (μ' 2) v ∧ μ' 7 14 0 3 = 1 := by
  obtain ⟨r, μ', ν', hf, h9, hR'⟩ := m_keep hR
  have hf0 := hf
  unfold f_X8_keep at hf
  obtain ⟨σ', c1, c2⟩ := hX.cp (μ 2)
  rw [c1, pr_b] at hf
  obtain ⟨μ2, e2, hf⟩ := ed_t_e hf
  obtain ⟨μ3, e3, hf⟩ := ed_t_e hf
  obtain ⟨rfl, rfl⟩ := ed_so hf
  have z0 : μ3 0 = μ 0 := by rw [e3, ed_sJ_ne _ _ (by decide), e2, ed_sJ_ne _ _ (by decide)]
  rw [z0, a0] at hf0
  exact ⟨μ3, hf0, ⟨ν', hR'⟩, z0, by rw [e3, ed_sJ_ne _ _ (by decide), e2, ed_sJ_self]; exact c2, by rw [e3, ed_sJ_self, pr_up_same]⟩
theorem t_restore {μ : ed_CM} {ν : em_MM} {h nC nS nK : Nat} (hR : r_REL μ ν) {v : Nat → Int32} (hX : r_X (μ 2) v) (hV : v 0 = nI h) (h3 : μ 7 14 0 3 = 1) : ∃ μ', f_X8_restore μ = some (nI h, μ') ∧ (∃ ν', r_REL μ' ν') ∧ r_X (μ' 0) v := by
  obtain ⟨r, μ', ν', hf, h9, hR'⟩ := m_restore hR
  have hf0 := hf
  unfold f_X8_restore at hf
  rw [h3] at hf
  replace hf := ed_in_ (by decide) hf
  obtain ⟨μ1, ν1, r1, -, -, r4, -⟩ := r_mem hR
  rw [r1, pr_b, r4 2 (by omega)] at hf
  obtain ⟨σ', c1, c2⟩ := hX.cp (μ1 0)
  rw [c1, pr_b] at hf
  obtain ⟨μ4, e4, hf⟩ := ed_t_e hf
  obtain ⟨rfl, rfl⟩ := ed_so hf
  have z0 : μ4 0 = σ' := by rw [e4, ed_sJ_self]
  have v0 : μ4 0 0 0 0 = nI h := by
    obtain ⟨h', nC', nS', nK', -, hX'⟩ := id c2
    rw [z0, hX'.1.1, ← hX'.1.2.1, hV]
  rw [v0] at hf0
  exact ⟨μ4, hf0, ⟨ν', hR'⟩, by rw [z0]; exact c2⟩
theorem l_289 {xs : Nat → Int32} {L : Nat} {μ : ed_CM} {M pd : Int} {h nC nS nK : Nat} (G : j_G μ M pd h nC nS nK) (hh : h + 30 ≤ 9999) (hM : M + 1600000 * 30 + 1 ≤ 2000000000) {x4 : Int32} (hx : x4.toInt = pd) : f_L_law_289 xs L 1 x4 μ = some 1 := by
  obtain ⟨ν, hR, hX⟩ := G.R
  obtain ⟨⟨a0, a3, a4, a5, a6, a7, a8, a9⟩, -⟩ := id G.2
  have x0 : r_X (μ 0) (ν 1) := ⟨h, nC, nS, nK, a9, hX⟩
  have cnt : ∀ (μ' : ed_CM), r_R (μ' 0) (ν 1) h nC nS nK 160 → f_X8_count 5 μ' = some (nI (r_seg (r_fS (ν 1) 1) nK 0)) := fun μ' hX' => by
    rw [q_count5, r_copiesOf hX'.1.2.2.2.2.2.2.2.2.1 a8, r_stOf hX' 1 (by decide)]
  obtain ⟨μ9, k1, ⟨ν9, k2⟩, k3, k4, k5⟩ := t_keep hR x0 a0
  have hX9 : r_R (μ9 0) (ν 1) h nC nS nK 160 := by rw [k3]; exact hX
  have G9 : j_G μ9 M pd h nC nS nK := ⟨⟨ν9, k2⟩, by rw [k3]; exact G.2⟩
  obtain ⟨r11, μ11, z, j, p1, p2, ⟨ν11, p3⟩, p4, p5, p6, p7, p8, p9, p10, p11⟩ := t_pass (m := 30) G9 k2 hX9 (by omega) hh (by omega)
  obtain ⟨r13, μ13, u1, u2, ⟨ν13, u3⟩, u4, u5, u6⟩ := t_undo p3 p6 p7 p8 ⟨p9, p10⟩ p11
  have hX13 := j_XR hX u6
  have G13 : j_G μ13 M pd h nC nS nK := ⟨⟨ν13, u3⟩, j_tr hX hX13 G.2⟩
  obtain ⟨r17, μ17, z2, j2, w1, w2, ⟨ν17, w3⟩, w4, w5, -⟩ := t_pass (m := 2) G13 u3 hX13 (by omega) (by omega) (by omega)
  have x17 : r_X (μ17 2) (ν 1) := by rw [w4, u4, p4]; exact k4
  have y17 : μ17 7 14 0 3 = 1 := by rw [w5 14 (by decide) (by decide), u5 14 (by decide), p5 14 (by decide) (by decide)]; exact k5
  obtain ⟨μ19, s1, ⟨ν19, s2⟩, s3⟩ := t_restore (nC := nC) (nS := nS) (nK := nK) w3 x17 hX.1.2.1 y17
  have hX19 := j_XR hX s3
  have G19 : j_G μ19 M pd h nC nS nK := ⟨⟨ν19, s2⟩, j_tr hX hX19 G.2⟩
  have p1 : f_X8_pass 30 μ9 = some (r11, μ11) := p1
  have w1 : f_X8_pass 2 μ13 = some (r17, μ17) := w1
  unfold f_L_law_289
  rw [q_count0, pr_b, a0, cnt μ hX, pr_b, if_neg (by decide), k1, pr_b2, if_pos rfl, p1, pr_b2, if_neg p2, u1, pr_b2, if_neg u2, cnt μ13 hX13, pr_b, if_pos rfl, w1, pr_b2, if_neg w2, s1, pr_b2, if_pos rfl, cnt μ19 hX19, pr_b, if_pos rfl, l_copies G19, pr_b, if_neg (by decide), l_money G19 (by omega) hx, pr_b, if_neg (by decide)]
