/-! The acts, one by one: what they answer, and that what holds goes on. -/
theorem j_bet {x y z : Int32} (h1 : y.toInt ≤ x.toInt) (h2 : x.toInt ≤ z.toInt) : ¬ f_X8_isBetween x y z = 0 := by
  rw [pr_8in, if_neg (by rw [pr_iLt]; omega), if_neg (by rw [pr_iLt]; omega)]
  decide
theorem j_begin0 {σ σ' : ed_SM} {i : Nat} {x1 x2 x3 x4 x5 : Int32} (hf : f_X0_begin i x1 x2 x3 x4 x5 σ = some σ') : (∀ K, K ≠ 11 → σ' K = σ K) ∧ (∀ q, q ≠ i → σ' 11 q = σ 11 q) ∧ σ' 11 i 1 = x2 ∧ σ' 11 i 2 = x3 ∧ σ' 11 i 3 = x4 ∧ σ' 11 i 4 = x5 ∧ σ' 11 i 5 = 1 ∧ σ' 11 i 6 = 0 ∧ σ' 11 i 7 = 0 ∧ σ' 11 i 8 = 0 ∧ σ' 11 i 9 = 0 := by
  unfold f_X0_begin at hf
  obtain ⟨σ1, e1, hf⟩ := ed_t_e hf
  obtain ⟨σ2, e2, hf⟩ := ed_t_e hf
  obtain ⟨σ3, e3, hf⟩ := ed_t_e hf
  obtain ⟨σ4, e4, hf⟩ := ed_t_e hf
  obtain ⟨σ5, e5, hf⟩ := ed_t_e hf
  obtain ⟨σ6, e6, hf⟩ := ed_t_e hf
  obtain ⟨σ7, e7, hf⟩ := ed_t_e hf
  obtain ⟨σ8, e8, hf⟩ := ed_t_e hf
  obtain ⟨σ9, e9, hf⟩ := ed_t_e hf
  obtain ⟨σ10, e10, hf⟩ := ed_t_e hf
  obtain rfl := Option.some.inj hf
  refine ⟨fun K hK => ?_, fun q hq => ?_, ?_, ?_, ?_, ?_, ?_, ?_, ?_, ?_, ?_⟩
  · rw [e10, e9, e8, e7, e6, e5, e4, e3, e2, e1]
    funext q
    rw [pr_up_K _ _ hK, pr_up_K _ _ hK, pr_up_K _ _ hK, pr_up_K _ _ hK, pr_up_K _ _ hK, pr_up_K _ _ hK, pr_up_K _ _ hK, pr_up_K _ _ hK, pr_up_K _ _ hK, pr_up_K _ _ hK]
  · rw [e10, e9, e8, e7, e6, e5, e4, e3, e2, e1, pr_up_i _ _ hq, pr_up_i _ _ hq, pr_up_i _ _ hq, pr_up_i _ _ hq, pr_up_i _ _ hq, pr_up_i _ _ hq, pr_up_i _ _ hq, pr_up_i _ _ hq, pr_up_i _ _ hq, pr_up_i _ _ hq]
  all_goals (rw [e10, e9, e8, e7, e6, e5, e4, e3, e2, e1]; simp [pr_up])
theorem g_addClient {μ : ed_CM} {M pd : Int} {h nC nS nK : Nat} (G : j_G μ M pd h nC nS nK) (h8 : nC < 8) {x1 x2 x3 x4 x5 : Int32} (b1 : 1 ≤ x1.toInt ∧ x1.toInt ≤ 255) (b2 : 0 ≤ x2.toInt ∧ x2.toInt ≤ 48) (b3 : 0 ≤ x3.toInt ∧ x3.toInt ≤ 24) (b4 : 1 ≤ x4.toInt ∧ x4.toInt ≤ 9) (b5 : 0 ≤ x5.toInt ∧ x5.toInt < 9000) : ∃ μ', f_X8_addClient x1 x2 x3 x4 x5 μ = some (nI nC, μ') ∧ j_G μ' M pd h (nC + 1) nS nK := by
  obtain ⟨ν, hR, hX⟩ := G.R
  obtain ⟨⟨a0, a3, a4, a5, a6, a7, a8, a9⟩, C, P, S, K, m1, m2, m3⟩ := id G.2
  obtain ⟨μ1, r1, r2, r3⟩ := j_rem hR
  obtain ⟨r, μ', ν', hf, h9, hR'⟩ := m_addClient hR x1 x2 x3 x4 x5
  have hf0 := hf
  have t0 : (0 : Int32).toInt = 0 := by decide
  have t1 : (1 : Int32).toInt = 1 := by decide
  have t9 : (9 : Int32).toInt = 9 := by decide
  have t24 : (24 : Int32).toInt = 24 := by decide
  have t48 : (48 : Int32).toInt = 48 := by decide
  have t255 : (255 : Int32).toInt = 255 := by decide
  have tM : (2000000000 : Int32).toInt = 2000000000 := by decide
  unfold f_X8_addClient at hf
  replace hf := ed_in_ (j_bet (by omega) (by omega)) hf
  replace hf := ed_in_ (j_bet (by omega) (by omega)) hf
  replace hf := ed_in_ (j_bet (by omega) (by omega)) hf
  replace hf := ed_in_ (j_bet (by omega) (by omega)) hf
  replace hf := ed_in_ (j_bet (by omega) (by omega)) hf
  rw [a4] at hf
  replace hf := ed_ip (show nI nC < 8 by show nI nC < nI 8; rw [pr_lt (by omega) (by omega)]; exact h8) hf
  rw [r1, pr_b] at hf
  obtain ⟨μ13, e13, hf⟩ := ed_t_e hf
  rw [r2, a4, nI_1] at e13
  have s13 : μ13 0 = ed_up (μ 0) 0 0 4 (nI (nC + 1)) := by rw [e13, ed_sJ_self]
  have f4 : μ13 0 0 0 4 = nI (nC + 1) := by rw [s13, pr_up_same]
  rw [r2, a4, pr_clientAt f4 (by omega) (show nC < nC + 1 by omega), pr_b] at hf
  replace hf : ed_g (nC < 8) _ = some (r, μ') := hf
  obtain ⟨-, hf⟩ := ed_g_e hf
  obtain ⟨σ15, e15, hf⟩ := ed_b_e hf
  obtain ⟨μ16, e16, hf⟩ := ed_t_e hf
  obtain ⟨rfl, rfl⟩ := ed_so hf
  refine ⟨μ16, hf0, ⟨ν', hR'⟩, ?_⟩
  have s16 : μ16 0 = σ15 := by rw [e16, ed_sJ_self]
  rw [s16]
  obtain ⟨c1, c2, d1, d2, d3, d4, d5, d6, d7, d8, d9⟩ := j_begin0 e15
  have kK : ∀ K, K ≠ 0 → K ≠ 11 → σ15 K = μ 0 K := fun K h1 h2 => by rw [c1 K h2, s13]; funext i; rw [pr_up_K _ _ h1]
  have k0 : ∀ k, k ≠ 4 → σ15 0 0 k = μ 0 0 0 k := fun k hk => by rw [c1 0 (by decide), s13, pr_up_k _ _ hk]
  have ki : ∀ i, i ≠ nC → σ15 11 i = μ 0 11 i := fun i hi => by rw [c2 i hi, s13, pr_up_K _ _ (by decide)]
  have eg : j_g σ15 = j_g (μ 0) := by unfold j_g; rw [kK 13 (by decide) (by decide)]
  have eo : j_s (j_o σ15) (nC + 1) = j_s (j_o (μ 0)) nC := by
    show j_s (j_o σ15) nC + (σ15 11 nC 6).toInt = _
    rw [j_s_cg (f := j_o (μ 0)) (g := j_o σ15) nC (fun k hk => by unfold j_o; rw [ki k (by omega)]), d6, t0]
    omega
  have hM : 0 ≤ M := Int.le_trans (j_s_nn (f := j_g (μ 0)) 10 (fun q hq => (P q hq).1)) m2
  refine ⟨⟨by rw [k0 0 (by decide)]; exact a0, by rw [k0 3 (by decide)]; exact a3, by rw [c1 0 (by decide)]; exact f4, by rw [k0 5 (by decide)]; exact a5, by omega, a7, a8, a9⟩, fun c hc => ?_, fun q hq => ?_, fun s hs => ?_, fun p hp => ?_, by rw [eg, eo]; exact m1, by rw [eg]; exact m2, m3⟩
  · by_cases he : c = nC
    · subst he
      unfold j_C1
      rw [d1, d2, d3, d4, d5, d6, d7, d8, d9, t0]
      exact ⟨Or.inr rfl, b2.1, b2.2, b3.1, b3.2, b4.2, b5.1, b5.2, by omega, by omega, by omega, by omega, hM, rfl⟩
    · unfold j_C1; rw [ki c he]; exact C c (by omega)
  · rw [kK 13 (by decide) (by decide)]; exact P q hq
  · unfold j_S1; rw [kK 7 (by decide) (by decide), kK 8 (by decide) (by decide)]; exact S s hs
  · obtain ⟨s, c, z1, z2, z3⟩ := K p hp
    refine ⟨s, c, z1, by omega, ?_⟩
    rw [kK 12 (by decide) (by decide), kK 7 (by decide) (by decide), ki c (by omega)]
    exact z3
theorem g_setUse {μ : ed_CM} {M pd : Int} {h nC nS nK : Nat} (G : j_G μ M pd h nC nS nK) {x : Int32} (b1 : 1 ≤ x.toInt ∧ x.toInt ≤ 9) (hu : ¬ μ 0 0 0 1 = -2) : ∃ r μ', f_X8_setUse x μ = some (r, μ') ∧ ¬ r = -2 ∧ j_G μ' M pd h nC nS nK := by
  obtain ⟨ν, hR, hX⟩ := G.R
  obtain ⟨μ1, r1, r2, r3⟩ := j_rem hR
  obtain ⟨r, μ', ν', hf, h9, hR'⟩ := m_setUse hR x
  have hf0 := hf
  have t1 : (1 : Int32).toInt = 1 := by decide
  have t9 : (9 : Int32).toInt = 9 := by decide
  unfold f_X8_setUse at hf
  replace hf := ed_in_ (j_bet (by omega) (by omega)) hf
  split at hf
  · obtain ⟨rfl, rfl⟩ := ed_so hf
    exact ⟨_, _, hf0, by decide, G⟩
  · rw [r1, pr_b] at hf
    obtain ⟨μ5, e5, hf⟩ := ed_t_e hf
    obtain ⟨rfl, rfl⟩ := ed_so hf
    refine ⟨_, _, hf0, by rw [r2]; exact hu, ⟨ν', hR'⟩, ?_⟩
    have s5 : μ5 0 = ed_up (μ 0) 0 0 1 x := by rw [e5, ed_sJ_self, r2]
    have kK : ∀ K, K ≠ 0 → μ5 0 K = μ 0 K := fun K hK => by rw [s5]; funext i; rw [pr_up_K _ _ hK]
    exact G.2.cg (fun k hk => by rw [s5, pr_up_k _ _ (by omega)]) (kK 7 (by decide)) (kK 8 (by decide)) (kK 11 (by decide)) (kK 12 (by decide)) (kK 13 (by decide))
theorem g_pay {μ : ed_CM} {M pd : Int} {h nC nS nK c : Nat} (G : j_G μ M pd h nC nS nK) (hc : c < nC) {x : Int32} (b1 : 1 ≤ x.toInt ∧ x.toInt ≤ 2000000000) (hx : x.toInt ≤ (μ 0 11 c 6).toInt) : ∃ μ', f_X8_pay (nI c) x μ = some (μ 0 11 c 6 - x, μ') ∧ j_G μ' M (pd + x.toInt) h nC nS nK := by
  obtain ⟨ν, hR, hX⟩ := G.R
  obtain ⟨⟨a0, a3, a4, a5, a6, a7, a8, a9⟩, C, P, S, K, m1, m2, m3⟩ := id G.2
  obtain ⟨μ1, r1, r2, r3⟩ := j_rem hR
  obtain ⟨r, μ', ν', hf, h9, hR'⟩ := m_pay hR (nI c) x
  have hf0 := hf
  have t1 : (1 : Int32).toInt = 1 := by decide
  have tM : (2000000000 : Int32).toInt = 2000000000 := by decide
  unfold f_X8_pay at hf
  rw [pr_clientAt a4 a6 hc, pr_b] at hf
  replace hf : ed_g (c < 8) _ = some (r, μ') := hf
  obtain ⟨-, hf⟩ := ed_g_e hf
  replace hf := ed_in_ (j_bet (by omega) (by omega)) hf
  replace hf := ed_ip (show x ≤ μ 0 11 c 6 by rw [pr_iLe]; exact hx) hf
  rw [r1, pr_b] at hf
  obtain ⟨μ6, e6, hf⟩ := ed_t_e hf
  obtain ⟨rfl, rfl⟩ := ed_so hf
  have s6 : μ6 0 = ed_up (μ 0) 11 c 6 (μ 0 11 c 6 - x) := by rw [e6, ed_sJ_self, r2]
  have f6 : μ6 0 11 c 6 = μ 0 11 c 6 - x := by rw [s6, pr_up_same]
  have z : ∀ k, k ≠ 6 → μ6 0 11 c k = μ 0 11 c k := fun k hk => by rw [s6, pr_up_k _ _ hk]
  obtain ⟨c1, c2, c3, c4, c5, c6, c7, c8, c9, c10, c11, c12, c13, c14⟩ := C c hc
  have o6 : (μ6 0 11 c 6).toInt = (μ 0 11 c 6).toInt - x.toInt := by
    have := pr_rng (μ 0 11 c 6)
    rw [f6, pr_sub (by omega) (by omega)]
  rw [f6] at hf0
  refine ⟨μ6, hf0, ⟨ν', hR'⟩, ?_⟩
  refine G.2.C (c := c) (fun K hK => by rw [s6]; funext i; rw [pr_up_K _ _ hK]) (fun i hi => by rw [s6, pr_up_i _ _ hi]) (z 1 (by decide)) (fun _ => ?_) (Int.le_refl _) ?_ (by omega)
  · unfold j_C1
    rw [z 5 (by decide), z 1 (by decide), z 2 (by decide), z 3 (by decide), z 4 (by decide), z 7 (by decide), z 8 (by decide), z 9 (by decide)]
    exact ⟨c1, c2, c3, c4, c5, c6, c7, c8, by omega, c10, c11, c12, c13, c14⟩
  · have := j_s_up (f := j_o (μ 0)) (g := j_o (μ6 0)) (i := c) (d := - x.toInt) (by show (μ6 0 11 c 6).toInt = (μ 0 11 c 6).toInt + - x.toInt; omega) (fun k hk => by unfold j_o; rw [s6, pr_up_i _ _ hk]) nC
    rw [if_pos hc] at this
    omega
theorem g_copiesOf {μ : ed_CM} {M pd : Int} {h nC nS nK : Nat} (H : j_J (μ 0) M pd h nC nS nK) (x1 x2 x3 : Int32) : ∃ y, y ≤ 160 ∧ f_X5_copiesOf x1 x2 x3 (μ 0) = some (nI y) := by
  obtain ⟨⟨a0, a3, a4, a5, a6, a7, a8, a9⟩, -⟩ := H
  have hle := r_seg_le (f := r_fitK (μ 0) x1 x2 x3) (fun q => by
    unfold r_fitK
    split
    · omega
    · split
      · omega
      · split <;> omega) nK 0
  exact ⟨_, Nat.le_trans hle a8, r_copiesOf a5 a8 x1 x2 x3⟩
theorem g_setUp {μ : ed_CM} {M pd : Int} {h nC nS nK c : Nat} (G : j_G μ M pd h nC nS nK) (hc : c < nC) {x : Int32} (hb : ed_bo x) (hx : ¬ μ 0 11 c 5 = x) : ∃ r μ', f_X8_setUp (nI c) x μ = some (r, μ') ∧ ¬ r < 0 ∧ j_G μ' M pd h nC nS nK ∧ μ' 0 11 c 5 = x := by
  obtain ⟨ν, hR, hX⟩ := G.R
  obtain ⟨⟨a0, a3, a4, a5, a6, a7, a8, a9⟩, C, P, S, K, m1, m2, m3⟩ := id G.2
  obtain ⟨μ1, r1, r2, r3⟩ := j_rem hR
  obtain ⟨r, μ', ν', hf, h9, hR'⟩ := m_setUp hR (nI c) x hb
  have hf0 := hf
  unfold f_X8_setUp at hf
  rw [pr_clientAt a4 a6 hc, pr_b] at hf
  replace hf : ed_g (c < 8) _ = some (r, μ') := hf
  obtain ⟨-, hf⟩ := ed_g_e hf
  replace hf := ed_in_ hx hf
  rw [r1, pr_b] at hf
  obtain ⟨-, hf⟩ := ed_g_e hf
  obtain ⟨μ5, e5, hf⟩ := ed_t_e hf
  have s5 : μ5 0 = ed_up (μ 0) 11 c 5 x := by rw [e5, ed_sJ_self, r2]
  have z : ∀ k, k ≠ 5 → μ5 0 11 c k = μ 0 11 c k := fun k hk => by rw [s5, pr_up_k _ _ hk]
  have z5 : μ5 0 11 c 5 = x := by rw [s5, pr_up_same]
  obtain ⟨c1, c2, c3, c4, c5, c6, c7, c8, c9, c10, c11, c12, c13, c14⟩ := C c hc
  have H5 : j_J (μ5 0) M pd h nC nS nK := by
    refine G.2.C (c := c) (fun K hK => by rw [s5]; funext i; rw [pr_up_K _ _ hK]) (fun i hi => by rw [s5, pr_up_i _ _ hi]) (z 1 (by decide)) (fun _ => ?_) (Int.le_refl _) ?_ m3
    · unfold j_C1
      rw [z5, z 1 (by decide), z 2 (by decide), z 3 (by decide), z 4 (by decide), z 6 (by decide), z 7 (by decide), z 8 (by decide), z 9 (by decide)]
      exact ⟨hb, c2, c3, c4, c5, c6, c7, c8, c9, c10, c11, c12, c13, c14⟩
    · have eo : j_o (μ5 0) = j_o (μ 0) := by
        funext q
        unfold j_o
        rw [s5, pr_up, if_neg (by omega)]
      rw [eo]
      exact m1
  obtain ⟨y1, y2, y3⟩ := g_copiesOf H5 (-1) (nI c) 0
  obtain ⟨y4, y5, y6⟩ := g_copiesOf H5 (-1) (nI c) 1
  rw [y3, pr_b, y6, pr_b] at hf
  obtain ⟨rfl, rfl⟩ := ed_so hf
  exact ⟨_, μ5, hf0, by rw [nI_add]; exact nI_pos (by omega), ⟨⟨ν', hR'⟩, H5⟩, z5⟩
