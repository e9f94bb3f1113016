/-! The acts on stories. -/
theorem g_storyF {σ σ' : ed_SM} {M pd : Int} {h nC nS nK s : Nat} (H : j_J σ M pd h nC nS nK) (hs : s < nS) {x : Int32} (e : σ' = ed_up σ 7 s 6 x) (hx : 0 ≤ x.toInt ∧ x.toInt ≤ 3) (h9 : x = 0 ∨ x = 1 → σ 7 s 9 = -5) : j_J σ' M pd h nC nS nK := by
  obtain ⟨⟨a0, a3, a4, a5, a6, a7, a8, a9⟩, C, P, S, K, m1, m2, m3⟩ := id H
  subst e
  have z : ∀ k, k ≠ 6 → ed_up σ 7 s 6 x 7 s k = σ 7 s k := fun k hk => pr_up_k _ _ hk
  refine H.S (s := s) (fun K h1 h2 => by funext i; rw [pr_up_K _ _ h1]) (fun i hi => pr_up_i _ _ hi) (z 9 (by decide)) (by rw [z 7 (by decide)]; exact Int.le_refl _) (fun _ => ?_)
  obtain ⟨s1, s2, s3, s4, s5, s6, s7⟩ := S s hs
  unfold j_S1
  rw [z 1 (by decide), z 7 (by decide), z 9 (by decide), pr_up_same, pr_up_K _ _ (show 8 ≠ 7 by decide)]
  exact ⟨s1, s2, s3, hx.1, hx.2, s6, h9⟩
theorem g_clientsFor {σ : ed_SM} {M pd : Int} {h nC nS nK : Nat} (H : j_J σ M pd h nC nS nK) (x : Int32) : ∃ y, y ≤ 8 ∧ f_X5_clientsFor x σ = some (nI y) := by
  obtain ⟨⟨a0, a3, a4, a5, a6, a7, a8, a9⟩, -⟩ := H
  have y1 := r_clientsFor_L a4 a6 x nC 0 ed_N 0 (by omega) (by unfold ed_N; omega)
  have hle := r_seg_le (f := fun q => if (f_X0_hasTopic q x σ) = 0 then 0 else 1) (fun q => by
    show (if _ then 0 else 1) ≤ 1
    split <;> omega) nC 0
  exact ⟨_, by rw [Nat.zero_add]; exact Nat.le_trans hle a6, y1⟩
theorem g_release {μ : ed_CM} {M pd : Int} {h nC nS nK s : Nat} (G : j_G μ M pd h nC nS nK) (hs : s < nS) (h6 : μ 0 7 s 6 = 0) : ∃ r μ', f_X8_release (nI s) μ = some (r, μ') ∧ ¬ r < 0 ∧ j_G μ' M pd h nC nS nK ∧ μ' 0 7 s 6 = 1 := by
  obtain ⟨ν, hR, hX⟩ := G.R
  obtain ⟨⟨a0, a3, a4, a5, a6, a7, a8, a9⟩, C, P, S, K, m1, m2, m3⟩ := id G.2
  obtain ⟨μ1, r1, r2, r3⟩ := j_rem hR
  obtain ⟨r, μ', ν', hf, h9, hR'⟩ := m_release hR (nI s)
  have hf0 := hf
  unfold f_X8_release at hf
  rw [pr_storyAt a3 a7 hs, pr_b] at hf
  replace hf : ed_g (s < 20) _ = some (r, μ') := hf
  obtain ⟨-, hf⟩ := ed_g_e hf
  replace hf := ed_ip h6 hf
  rw [r1, pr_b] at hf
  obtain ⟨μ4, e4, hf⟩ := ed_t_e hf
  have s4 : μ4 0 = ed_up (μ 0) 7 s 6 1 := by rw [e4, ed_sJ_self, r2]
  have H4 := g_storyF G.2 hs s4 (by decide) (fun _ => (S s hs).2.2.2.2.2.2 (Or.inl h6))
  obtain ⟨y, y1, y2⟩ := g_clientsFor H4 (μ4 0 7 s 0)
  rw [y2, pr_b] at hf
  obtain ⟨rfl, rfl⟩ := ed_so hf
  exact ⟨_, μ4, hf0, nI_pos (by omega), ⟨⟨ν', hR'⟩, H4⟩, by rw [s4, pr_up_same]⟩
theorem g_release0 {μ : ed_CM} {M pd : Int} {h nC nS nK s : Nat} (G : j_G μ M pd h nC nS nK) (hs : s < nS) (h6 : ¬ μ 0 7 s 6 = 0) : f_X8_release (nI s) μ = some (-4, μ) := by
  obtain ⟨⟨a0, a3, a4, a5, a6, a7, a8, a9⟩, -⟩ := id G.2
  unfold f_X8_release
  rw [pr_storyAt a3 a7 hs, pr_b]
  show ed_g (s < 20) _ = _
  rw [pr_g (by omega), if_neg h6]
theorem g_hold {μ : ed_CM} {M pd : Int} {h nC nS nK s : Nat} (G : j_G μ M pd h nC nS nK) (hs : s < nS) (h6 : μ 0 7 s 6 = 1) : ∃ r μ', f_X8_hold (nI s) μ = some (r, μ') ∧ ¬ r < 0 ∧ j_G μ' M pd h nC nS nK ∧ μ' 0 7 s 6 = 0 := by
  obtain ⟨ν, hR, hX⟩ := G.R
  obtain ⟨⟨a0, a3, a4, a5, a6, a7, a8, a9⟩, C, P, S, K, m1, m2, m3⟩ := id G.2
  obtain ⟨μ1, r1, r2, r3⟩ := j_rem hR
  obtain ⟨r, μ', ν', hf, h9, hR'⟩ := m_hold hR (nI s)
  have hf0 := hf
  unfold f_X8_hold at hf
  rw [pr_storyAt a3 a7 hs, pr_b] at hf
  replace hf : ed_g (s < 20) _ = some (r, μ') := hf
  obtain ⟨-, hf⟩ := ed_g_e hf
  replace hf := ed_ip h6 hf
  rw [r1, pr_b] at hf
  obtain ⟨μ4, e4, hf⟩ := ed_t_e hf
  have s4 : μ4 0 = ed_up (μ 0) 7 s 6 0 := by rw [e4, ed_sJ_self, r2]
  have H4 := g_storyF G.2 hs s4 (by decide) (fun _ => (S s hs).2.2.2.2.2.2 (Or.inr h6))
  obtain ⟨rfl, rfl⟩ := ed_so hf
  refine ⟨_, μ4, hf0, ?_, ⟨⟨ν', hR'⟩, H4⟩, by rw [s4, pr_up_same]⟩
  split
  · decide
  · assumption
theorem g_kill {μ : ed_CM} {M pd : Int} {h nC nS nK s : Nat} (G : j_G μ M pd h nC nS nK) (hs : s < nS) (h6 : ¬ μ 0 7 s 6 = 3) : ∃ r μ', f_X8_kill (nI s) μ = some (r, μ') ∧ f_X5_copiesOf (nI s) (-1) 1 (μ' 0) = some r ∧ j_G μ' M pd h nC nS nK ∧ μ' 0 7 s 10 = μ' 0 0 0 0 := by
  obtain ⟨ν, hR, hX⟩ := G.R
  obtain ⟨⟨a0, a3, a4, a5, a6, a7, a8, a9⟩, C, P, S, K, m1, m2, m3⟩ := id G.2
  obtain ⟨μ1, r1, r2, r3⟩ := j_rem hR
  obtain ⟨r, μ', ν', hf, h9, hR'⟩ := m_kill hR (nI s)
  have hf0 := hf
  unfold f_X8_kill at hf
  rw [pr_storyAt a3 a7 hs, pr_b] at hf
  replace hf : ed_g (s < 20) _ = some (r, μ') := hf
  obtain ⟨-, hf⟩ := ed_g_e hf
  replace hf := ed_in_ h6 hf
  rw [r1, pr_b] at hf
  obtain ⟨μ4, e4, hf⟩ := ed_t_e hf
  obtain ⟨μ5, e5, hf⟩ := ed_t_e hf
  obtain ⟨σ6, e6, hf⟩ := ed_b_e hf
  obtain ⟨μ7, e7, hf⟩ := ed_t_e hf
  obtain ⟨r8, e8, hf⟩ := ed_b_e hf
  obtain ⟨rfl, rfl⟩ := ed_so hf
  have s4 : μ4 0 = ed_up (μ 0) 7 s 6 3 := by rw [e4, ed_sJ_self, r2]
  have H4 := g_storyF G.2 hs s4 (by decide) (fun q => by rcases q with q | q <;> exact absurd q (by decide))
  have s5 : μ5 0 = ed_up (μ4 0) 7 s 10 (μ4 0 0 0 0) := by rw [e5, ed_sJ_self]
  have k6 := j_add e6
  have s7 : μ7 0 = σ6 := by rw [e7, ed_sJ_self]
  have z : ∀ k, k ≠ 10 → μ5 0 7 s k = μ4 0 7 s k := fun k hk => by rw [s5, pr_up_k _ _ hk]
  have H5 : j_J (μ5 0) M pd h nC nS nK := by
    refine H4.S (s := s) (fun K h1 h2 => by rw [s5]; funext i; rw [pr_up_K _ _ h1]) (fun i hi => by rw [s5, pr_up_i _ _ hi]) (z 9 (by decide)) (by rw [z 7 (by decide)]; exact Int.le_refl _) (fun _ => ?_)
    obtain ⟨s1, s2, s3, s4, s5', s6, s7⟩ := H4.2.2.2.1 s hs
    unfold j_S1
    rw [z 1 (by decide), z 7 (by decide), z 9 (by decide), z 6 (by decide), s5, pr_up_K _ _ (show 8 ≠ 7 by decide)]
    exact ⟨s1, s2, s3, s4, s5', s6, s7⟩
  refine ⟨_, μ7, hf0, e8, ⟨⟨ν', hR'⟩, by rw [s7]; exact H5.lg k6⟩, ?_⟩
  rw [s7, k6 7 (by decide) (by decide), k6 0 (by decide) (by decide), s5, pr_up_same, pr_up_K _ _ (by decide)]
theorem g_kill0 {μ : ed_CM} {M pd : Int} {h nC nS nK s : Nat} (G : j_G μ M pd h nC nS nK) (hs : s < nS) (h6 : μ 0 7 s 6 = 3) : f_X8_kill (nI s) μ = some (-5, μ) := by
  obtain ⟨⟨a0, a3, a4, a5, a6, a7, a8, a9⟩, -⟩ := id G.2
  unfold f_X8_kill
  rw [pr_storyAt a3 a7 hs, pr_b]
  show ed_g (s < 20) _ = _
  rw [pr_g (by omega), if_pos h6]
theorem g_correct {μ : ed_CM} {M pd : Int} {h nC nS nK s w : Nat} (G : j_G μ M pd h nC nS nK) (hs : s < nS) (h6 : μ 0 7 s 6 = 2) (hw : μ 0 7 s 7 = nI w) (hw6 : w < 6) : ∃ μ', f_X8_correct (nI s) μ = some (nI (w + 1), μ') ∧ j_G μ' M pd h nC nS nK ∧ μ' 0 7 s 7 = nI (w + 1) ∧ μ' 0 10 s w = μ' 0 0 0 0 := by
  obtain ⟨ν, hR, hX⟩ := G.R
  obtain ⟨⟨a0, a3, a4, a5, a6, a7, a8, a9⟩, C, P, S, K, m1, m2, m3⟩ := id G.2
  obtain ⟨μ1, r1, r2, r3⟩ := j_rem hR
  obtain ⟨r, μ', ν', hf, h9, hR'⟩ := m_correct hR (nI s)
  have hf0 := hf
  unfold f_X8_correct at hf
  rw [pr_storyAt a3 a7 hs, pr_b] at hf
  replace hf : ed_g (s < 20) _ = some (r, μ') := hf
  obtain ⟨-, hf⟩ := ed_g_e hf
  replace hf := ed_ip h6 hf
  replace hf := ed_ip (show μ 0 7 s 7 < 6 by rw [hw]; show nI w < nI 6; rw [pr_lt (by omega) (by omega)]; exact hw6) hf
  rw [r1, pr_b] at hf
  obtain ⟨σ5, e5, hf⟩ := ed_b_e hf
  obtain ⟨μ6, e6, hf⟩ := ed_t_e hf
  obtain ⟨σ7, e7, hf⟩ := ed_b_e hf
  obtain ⟨μ8, e8, hf⟩ := ed_t_e hf
  obtain ⟨rfl, rfl⟩ := ed_so hf
  rw [r2] at e5
  unfold f_X6_addCorrection at e5
  have ip : ¬ f_X8_isPlace (μ 0 7 s 7) 6 = 0 := by
    rw [hw, pr_isPlace, if_neg (nI_pos (by omega)), if_neg (show ¬ (6 : Int32) ≤ nI w by show ¬ nI 6 ≤ nI w; rw [pr_le (by omega) (by omega)]; omega)]
    decide
  replace e5 := ed_in_ ip e5
  obtain ⟨-, e5⟩ := ed_g_e e5
  obtain ⟨σ4, f4, e5⟩ := ed_t_e e5
  obtain ⟨σ5', f5, e5⟩ := ed_t_e e5
  obtain rfl := Option.some.inj e5
  rw [hw, nI_clamp (by omega)] at f4
  have z47 : σ4 7 = μ 0 7 := by rw [f4]; funext i; rw [pr_up_K _ _ (by decide)]
  rw [z47, hw, nI_1] at f5
  have s6 : μ6 0 = σ5' := by rw [e6, ed_sJ_self]
  have s8 : μ8 0 = σ7 := by rw [e8, ed_sJ_self]
  have k7 := j_add e7
  rw [s6] at k7
  have z : ∀ k, k ≠ 7 → σ5' 7 s k = μ 0 7 s k := fun k hk => by rw [f5, pr_up_k _ _ hk, z47]
  have z7 : σ5' 7 s 7 = nI (w + 1) := by rw [f5, pr_up_same]
  have kK : ∀ K, K ≠ 7 → K ≠ 10 → σ5' K = μ 0 K := fun K h1 h2 => by
    rw [f5, f4]
    funext i
    rw [pr_up_K _ _ h1, pr_up_K _ _ h2]
  have H5 : j_J σ5' M pd h nC nS nK := by
    refine G.2.S (s := s) kK (fun i hi => by rw [f5, pr_up_i _ _ hi, z47]) (z 9 (by decide)) (by rw [z7, hw, nI_toInt (by omega), nI_toInt (by omega)]; omega) (fun _ => ?_)
    obtain ⟨s1, s2, s3, s4, s5', s6, s7⟩ := S s hs
    unfold j_S1
    rw [z 1 (by decide), z 9 (by decide), z 6 (by decide), z7, kK 8 (by decide) (by decide), nI_toInt (by omega)]
    exact ⟨s1, by omega, by omega, s4, s5', s6, s7⟩
  have v7 : μ8 0 7 s 7 = nI (w + 1) := by rw [s8, k7 7 (by decide) (by decide)]; exact z7
  rw [v7] at hf0
  refine ⟨μ8, hf0, ⟨⟨ν', hR'⟩, by rw [s8]; exact H5.lg k7⟩, v7, ?_⟩
  rw [s8, k7 10 (by decide) (by decide), k7 0 (by decide) (by decide), f5, pr_up_K _ _ (by decide), f4, pr_up_same, pr_up_K _ _ (by decide), pr_up_K _ _ (by decide)]
theorem g_correct4 {μ : ed_CM} {M pd : Int} {h nC nS nK s : Nat} (G : j_G μ M pd h nC nS nK) (hs : s < nS) (h6 : ¬ μ 0 7 s 6 = 2) : f_X8_correct (nI s) μ = some (-4, μ) := by
  obtain ⟨⟨a0, a3, a4, a5, a6, a7, a8, a9⟩, -⟩ := id G.2
  unfold f_X8_correct
  rw [pr_storyAt a3 a7 hs, pr_b]
  show ed_g (s < 20) _ = _
  rw [pr_g (by omega), if_neg h6]
theorem g_correct3 {μ : ed_CM} {M pd : Int} {h nC nS nK s : Nat} (G : j_G μ M pd h nC nS nK) (hs : s < nS) (h6 : μ 0 7 s 6 = 2) (hw : μ 0 7 s 7 = 6) : f_X8_correct (nI s) μ = some (-3, μ) := by
  obtain ⟨⟨a0, a3, a4, a5, a6, a7, a8, a9⟩, -⟩ := id G.2
  unfold f_X8_correct
  rw [pr_storyAt a3 a7 hs, pr_b]
  show ed_g (s < 20) _ = _
  rw [pr_g (by omega), if_pos h6, hw, if_neg (by decide)]
theorem g_pass {μ : ed_CM} {M pd : Int} {h nC nS nK m : Nat} {ν : em_MM} (G : j_G μ M pd h nC nS nK) (hR : r_REL μ ν) {v : Nat → Int32} (hX : r_R (μ 0) v h nC nS nK 160) (hm : 1 ≤ m ∧ m ≤ 100) (hh : h + m ≤ 9999) (hM : M + 1600000 * m + 1 ≤ 2000000000) : ∃ μ' nK', f_X8_pass (nI m) μ = some (r_sum (hvn m v) nC - r_sum v nC, μ') ∧ j_G μ' (M + 1600000 * m) pd (h + m) nC nS nK' ∧ r_R (μ' 0) (hvn m v) (h + m) nC nS nK' 160 ∧ nK ≤ nK' ∧ r_fk v (hvn m v) nK := by
  obtain ⟨⟨a0, a3, a4, a5, a6, a7, a8, a9⟩, C, P, S, K, m1, m2, m3⟩ := id G.2
  obtain ⟨μ1, r1, r2, r3⟩ := j_rem hR
  obtain ⟨r, μ', ν', hf, h9, hR'⟩ := m_pass hR (nI m)
  have hf0 := hf
  have t1 : (1 : Int32).toInt = 1 := by decide
  have t100 : (100 : Int32).toInt = 100 := by decide
  unfold f_X8_pass at hf
  replace hf := ed_in_ (j_bet (by rw [nI_toInt (by omega)]; omega) (by rw [nI_toInt (by omega)]; omega)) hf
  rw [a0, nI_add] at hf
  replace hf := ed_ip (show nI (h + m) ≤ 9999 by show nI (h + m) ≤ nI 9999; rw [pr_le (by omega) (by omega)]; exact hh) hf
  rw [r1, pr_b] at hf
  have hX1 : r_R (μ1 0) v h nC nS nK 160 := by rw [r2]; exact hX
  rw [r_came hX1, pr_b] at hf
  obtain ⟨σ', nK', y1, y2, y3, y4, y5⟩ := j_pass52 (m := m) (r_sum v nC) hm.2 m 0 ed_N h nK M μ1 v (by omega) (by unfold ed_N; omega) hh hX1 (by rw [r2]; exact G.2) hM
  have y1 : f_X8_pass_52 ed_N (nI m) (r_sum v nC) 0 μ1 = _ := y1
  rw [y1] at hf
  obtain ⟨rfl, rfl⟩ := ed_so hf
  exact ⟨_, nK', hf0, ⟨⟨ν', hR'⟩, by rw [ed_sJ_self]; exact y3⟩, by rw [ed_sJ_self]; exact y2, y4, y5⟩
