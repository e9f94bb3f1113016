/-! A new story from the text. -/
theorem r_clr : ∀ (d x n : Nat) (ν : em_MM), x + d = 29 → d < n → ∃ n' ν', f_X9_readText_7 n (nI x) ν = f_X9_readText_7 (n' + 1) (nI 29) ν' ∧ (∀ i, i ≠ 6 → ν' i = ν i) ∧ (∀ a, x ≤ a → a < 29 → ν' 6 a = 0) ∧ ∀ a, a < x → ν' 6 a = ν 6 a := by
  intro d
  induction d with
  | zero =>
    intro x n ν hx hn
    obtain ⟨n, rfl⟩ : ∃ q, n = q + 1 := ⟨n - 1, by omega⟩
    obtain rfl : x = 29 := by omega
    exact ⟨n, ν, rfl, fun _ _ => rfl, fun a h1 h2 => by omega, fun _ _ => rfl⟩
  | succ d ih =>
    intro x n ν hx hn
    obtain ⟨n, rfl⟩ : ∃ q, n = q + 1 := ⟨n - 1, by omega⟩
    have c : ¬ (29 : Int32) ≤ nI x := by
      show ¬ nI 29 ≤ nI x
      rw [pr_le (by omega) (by omega)]; omega
    have e1 : nI x + 1 = nI (x + 1) := nI_add x 1
    obtain ⟨n', ν', y1, y2, y3, y4⟩ := ih (x + 1) n (em_up ν 6 x 0) (by omega) (by omega)
    refine ⟨n', ν', ?_, fun i h0 => by rw [y2 i h0, em_ne _ _ _ h0], fun a h1 h2 => ?_, fun a ha => ?_⟩
    · rw [f_X9_readText_7, if_neg c, e1, pr_gin (by omega) (by omega), pr_t, nI_clamp (by omega)]
      exact y1
    · by_cases ha : a = x
      · subst ha
        rw [y4 _ (by omega), em_same, pr_ueq _ _ rfl]
      · exact y3 a (by omega) h2
    · rw [y4 a (by omega), em_same, pr_une _ _ (by omega)]
theorem r_42 {s : Nat} (hs : s < 20) : ∀ (d x n : Nat) (ν : em_MM), x + d = 29 → d < n → ∃ n' ν', f_X9_readStory_42 n (nI s) (nI x) ν = f_X9_readStory_42 (n' + 1) (nI s) (nI 29) ν' ∧ (∀ i, i ≠ 1 → ν' i = ν i) ∧ (∀ a, x ≤ a → a < 29 → ν' 1 (107 + 29 * s + a) = ν 6 a) ∧ ∀ b, b < 107 + 29 * s + x ∨ 107 + 29 * s + 29 ≤ b → ν' 1 b = ν 1 b := by
  intro d
  induction d with
  | zero =>
    intro x n ν hx hn
    obtain ⟨n, rfl⟩ : ∃ q, n = q + 1 := ⟨n - 1, by omega⟩
    obtain rfl : x = 29 := by omega
    exact ⟨n, ν, rfl, fun _ _ => rfl, fun a h1 h2 => by omega, fun _ _ => rfl⟩
  | succ d ih =>
    intro x n ν hx hn
    obtain ⟨n, rfl⟩ : ∃ q, n = q + 1 := ⟨n - 1, by omega⟩
    have c : ¬ (29 : Int32) ≤ nI x := by
      show ¬ nI 29 ≤ nI x
      rw [pr_le (by omega) (by omega)]; omega
    have e1 : nI x + 1 = nI (x + 1) := nI_add x 1
    obtain ⟨n', ν', y1, y2, y3, y4⟩ := ih (x + 1) n (em_up ν 1 (107 + 29 * s + x) (ν 6 x)) (by omega) (by omega)
    refine ⟨n', ν', ?_, fun i h0 => by rw [y2 i h0, em_ne _ _ _ h0], fun a h1 h2 => ?_, fun b hb => ?_⟩
    · rw [f_X9_readStory_42, if_neg c, e1, pr_9s, pr_gin (by omega) (by omega), pr_gin (by omega) (by omega), pr_t, nI_clamp (n := 107 + 29 * s + x) (by omega), nI_clamp (n := x) (by omega)]
      exact y1
    · by_cases ha : a = x
      · subst ha
        rw [y4 _ (by omega), em_same, pr_ueq _ _ rfl]
      · rw [y3 a (by omega) h2, em_ne _ _ _ (by decide)]
    · rw [y4 b (by omega), em_same, pr_une _ _ (by omega)]
theorem r_begin (τ σ : ed_SM) (s : Nat) : ∃ σ', f_X6_begin s τ σ = some σ' ∧ (σ' 7 s 0 = τ 17 0 3 ∧ σ' 7 s 1 = τ 17 0 4 ∧ σ' 7 s 3 = τ 17 0 6 ∧ σ' 7 s 4 = τ 17 0 7 ∧ σ' 7 s 6 = 0 ∧ σ' 7 s 7 = 0 ∧ σ' 7 s 9 = -5 ∧ σ' 7 s 10 = -5) ∧ (∀ k, k < 3 → σ' 8 s k = τ 19 0 k) ∧ (∀ k, k < 12 → σ' 9 s k = τ 20 0 k) ∧ (∀ K i, i ≠ s → σ' K i = σ K i) ∧ ∀ K, K ≠ 7 → K ≠ 8 → K ≠ 9 → K ≠ 10 → σ' K = σ K := by
  refine ⟨_, rfl, ⟨?_, ?_, ?_, ?_, ?_, ?_, ?_, ?_⟩, fun k hk => ?_, fun k hk => ?_, fun K i hi => ?_, fun K h7 h8 h9 h10 => ?_⟩
  all_goals (try simp [ed_up, ed_sR, upd, va_cpy]; try omega)
  · simp [hi]
  · funext i
    simp [ed_sR, h7, h8, h9, h10]
theorem r_newS {σ τ : ed_SM} {v ρ v' : Nat → Int32} {h nC nS nK : Nat} (hR : r_R σ v h nC nS nK 160) (h20 : nS < 20) {m n : Nat} (d0 : τ 17 0 3 = ρ 0) (m1 : 1 ≤ m) (m2 : m ≤ 3) (d1 : τ 17 0 4 = nI m) (d1' : ρ 1 = nI m) (d1k : ∀ k, k < m → τ 19 0 k = ρ (2 + k) ∧ ∃ q, q < 10 ∧ ρ (2 + k) = nI q) (d2 : τ 17 0 6 = ρ 5) (n1 : n ≤ 12) (d3 : τ 17 0 7 = nI n) (d3' : ρ 16 = nI n) (d3k : ∀ k, k < n → τ 20 0 k = ρ (17 + k)) (dz : ρ 7 = 0) (w2 : v' 2 = nI (nS + 1)) (w6 : v' (107 + 29 * nS + 6) = 0) (w8 : v' (107 + 29 * nS + 8) = -5) (w9 : v' (107 + 29 * nS + 9) = -5) (w : ∀ a, a < 29 → a ≠ 6 → a ≠ 8 → a ≠ 9 → v' (107 + 29 * nS + a) = ρ a) (wo : ∀ b, b ≠ 2 → b < 107 + 29 * nS ∨ 107 + 29 * nS + 29 ≤ b → v' b = v b) : ∃ σ', f_X6_begin nS τ (ed_up σ 0 0 3 (nI (nS + 1))) = some σ' ∧ r_R σ' v' h nC (nS + 1) nK 160 := by
  obtain ⟨⟨q1, q2, q3, q4, q5, q6, q7, q8, q9, q10, b1, b2, b3, b4⟩, qC, qP, qS, qK, qL, qN⟩ := hR
  obtain ⟨σ', g1, ⟨e0, e1, e3, e4, e6, e7, e9, e10⟩, e8, e9', ei, eK⟩ := r_begin τ (ed_up σ 0 0 3 (nI (nS + 1))) nS
  refine ⟨σ', g1, ?_⟩
  have oK : ∀ K, K ≠ 0 → K ≠ 7 → K ≠ 8 → K ≠ 9 → K ≠ 10 → σ' K = σ K := fun K h0 h7 h8 h9 h10 => by
    rw [eK K h7 h8 h9 h10]; funext i; rw [pr_up_K _ _ h0]
  have oi : ∀ K i, K ≠ 0 → i ≠ nS → σ' K i = σ K i := fun K i h0 hi => by rw [ei K i hi, pr_up_K _ _ h0]
  have oH : ∀ k, k ≠ 3 → σ' 0 0 k = σ 0 0 k := fun k hk => by
    rw [eK 0 (by decide) (by decide) (by decide) (by decide), pr_up_k _ _ hk]
  have o3 : σ' 0 0 3 = nI (nS + 1) := by rw [eK 0 (by decide) (by decide) (by decide) (by decide), pr_up_same]
  refine ⟨⟨by rw [oH 0 (by decide)]; exact q1, by rw [wo 0 (by omega) (by omega)]; exact q2, by rw [oH 1 (by decide), wo 4 (by omega) (by omega)]; exact q3, by rw [oH 2 (by decide), wo 5 (by omega) (by omega)]; exact q4, o3, w2, by rw [oH 4 (by decide)]; exact q7, by rw [wo 1 (by omega) (by omega)]; exact q8, by rw [oH 5 (by decide)]; exact q9, by rw [wo 3 (by omega) (by omega)]; exact q10, b1, by omega, b3, b4⟩, qC.cg (oK 11 (by decide) (by decide) (by decide) (by decide) (by decide)) (fun a h1 h2 => wo a (by omega) (by omega)) b1, qP.cg (oK 13 (by decide) (by decide) (by decide) (by decide) (by decide)) (fun a h1 h2 => wo a (by omega) (by omega)), fun s hs => ?_, ⟨fun q i hq hi => ?_, fun q hq => ?_, fun q q' h1 h2 h3 h4 => ?_⟩, qL.cg (oK 1 (by decide) (by decide) (by decide) (by decide) (by decide)) (oK 2 (by decide) (by decide) (by decide) (by decide) (by decide)) (wo 6 (by omega) (by omega)) (fun a h1 h2 => wo a (by omega) (by omega)), ?_⟩
  · by_cases hs2 : s = nS
    · subst hs2
      have w0 : v' (107 + 29 * s) = ρ 0 := w 0 (by omega) (by omega) (by omega) (by omega)
      refine ⟨⟨by rw [e0, w0]; exact d0, by rw [e1, w 1 (by omega) (by omega) (by omega) (by omega), d1, d1'], by rw [e3, w 5 (by omega) (by omega) (by omega) (by omega)]; exact d2, by rw [e4, w 16 (by omega) (by omega) (by omega) (by omega), d3, d3'], by rw [e6, w6], by rw [e7, w 7 (by omega) (by omega) (by omega) (by omega), dz], by rw [e9, w8], by rw [e10, w9]⟩, ⟨m, m1, m2, by rw [w 1 (by omega) (by omega) (by omega) (by omega), d1'], fun k hk => ?_⟩, ⟨n, n1, by rw [w 16 (by omega) (by omega) (by omega) (by omega), d3'], fun k hk => ?_⟩, ⟨0, by omega, by rw [w 7 (by omega) (by omega) (by omega) (by omega), dz]; rfl, fun k hk => by omega, fun k k' _ hk => by omega⟩, by rw [w6]; decide, fun _ => w8⟩
      · rw [e8 k (by omega), w (2 + k) (by omega) (by omega) (by omega) (by omega)]
        exact d1k k hk
      · rw [e9' k (by omega), w (17 + k) (by omega) (by omega) (by omega) (by omega)]
        exact d3k k hk
    · exact (qS s (by omega)).cg (oi 7 s (by decide) hs2) (oi 8 s (by decide) hs2) (oi 9 s (by decide) hs2) (oi 10 s (by decide) hs2) (fun a h1 h2 => wo a (by omega) (by omega)) (Nat.le_refl _)
  · rw [oK 12 (by decide) (by decide) (by decide) (by decide) (by decide), wo _ (by omega) (by omega)]; exact qK.1 q i hq hi
  · obtain ⟨s, c, a1, a2, a3⟩ := qK.2.1 q hq
    refine ⟨s, c, by omega, a2, ?_⟩
    rw [wo _ (by omega) (by omega), wo _ (by omega) (by omega), wo _ (by omega) (by omega), wo _ (by omega) (by omega), wo _ (by omega) (by omega), wo _ (by omega) (by omega)]
    exact a3
  · rw [wo _ (by omega) (by omega), wo _ (by omega) (by omega)] at h3 h4
    exact qK.2.2 q q' h1 h2 h3 h4
  · show nK ≤ 8 * (r_cnt v' nS + _)
    rw [r_cnt_cg nS (fun s hs => wo _ (by omega) (by omega))]
    omega
theorem m_readStory {μ : ed_CM} {ν : em_MM} (hR : r_REL μ ν) : r_ok (f_X8_readStory μ) (f_X9_readStory ν) := by
  obtain ⟨t, t1, t2, t3, t4⟩ := id hR.2.2.2
  unfold f_X8_readStory f_X9_readStory f_X7_parse f_X9_readText
  rw [pr_t, pr_t]
  have p0 : r_pos (ed_up (μ 7) 17 0 2 0) (em_up ν 0 8 0) t 0 := ⟨t1, by omega, by rw [pr_up_k _ _ (by decide)]; exact t2, by rw [em_same, pr_une _ _ (by decide)]; exact t3, fun k hk => by rw [pr_up_K _ _ (by decide), em_ne _ _ _ (by decide)]; exact t4 k hk, pr_up_same _ _ _ _ _, by rw [em_same, pr_ueq _ _ rfl]; rfl⟩
  obtain ⟨n', ν1, c1, c2, c3, -⟩ := r_clr 29 0 ed_N (em_up ν 0 8 0) (by omega) (by unfold ed_N; omega)
  have c1 : f_X9_readText_7 ed_N 0 (em_up ν 0 8 0) = _ := c1
  have p1 : r_pos (ed_up (μ 7) 17 0 2 0) ν1 t 0 := p0.st rfl rfl (by rw [c2 0 (by decide)]) (c2 5 (by decide)) p0.2.2.2.2.2.1 (by rw [c2 0 (by decide)]; exact p0.2.2.2.2.2.2) (by omega)
  obtain ⟨ok, σ2, ν2, pl, g1, g2, g3, g4, g5, g6⟩ := r_parse p1 (fun a ha => c3 a (by omega) ha) (n := n')
  rw [c1, g2, g3, pr_b2, pr_b2, pr_t]
  have hj : ∀ j, j ≠ 7 → ed_sJ μ 7 σ2 j = μ j := fun j h => ed_sJ_ne _ _ h
  have hK : ∀ K, K ≠ 17 → K ≠ 18 → K ≠ 19 → K ≠ 20 → ed_sJ μ 7 σ2 7 K = μ 7 K := fun K h1 h2 h3 h4 => by
    rw [ed_sJ_self, g5.1 K h1 h3 h4]; funext i; rw [pr_up_K _ _ h1]
  have hi : ∀ i, i ≠ 0 → i ≠ 5 → i ≠ 6 → ν2 i = ν i := fun i h1 h2 h3 => by rw [g5.2.1 i h1 h3, c2 i h3, em_ne _ _ _ h1]
  have h0 : ∀ k, k ≠ 7 → k ≠ 8 → k ≠ 10 → ν2 0 k = ν 0 k := fun k h1 h2 h3 => by rw [g5.2.2.1 k h2 h3, c2 0 (by decide), em_same, pr_une _ _ h2]
  have hT : r_text (ed_sJ μ 7 σ2) ν2 := ⟨t, t1, by rw [ed_sJ_self]; exact g4.2.2.1, g4.2.2.2.1, fun k hk => by rw [ed_sJ_self]; exact g4.2.2.2.2.1 k hk⟩
  have hR2 : r_REL (ed_sJ μ 7 σ2) ν2 := hR.tx hj hK hi h0 hT
  rcases g1 with rfl | rfl
  · have npl : ¬ nI pl = -1 := pr_neg1 pl (by have := g4.1; have := g4.2.1; omega)
    rw [if_pos rfl, if_neg (show ¬ (0 : Int32) = 1 by decide), if_neg npl, g4.2.2.2.2.2.2]
    exact r_ok.mk hR2 _
  · obtain ⟨D0, ⟨m, m1, m2, M1, M2, M3⟩, D2, ⟨n, n1, ⟨N1, N2⟩, N3⟩, DZ⟩ := g6 rfl
    obtain ⟨h, nC, nS, nK, hh, hX⟩ := id hR2.1
    obtain ⟨q1, q2, q3, q4, q5, q6, q7, q8, q9, q10, b1, b2, b3, b4⟩ := hX.1
    have v2 : ν2 1 (2 : Int32).toNatClampNeg = nI nS := by rw [pr_cl 2 (by omega), q6]
    rw [if_neg (show ¬ (1 : Int32) = 0 by decide), if_pos rfl, if_pos rfl, pr_gN (by decide) (by decide), v2, q5]
    by_cases h20 : nS = 20
    · subst h20
      rw [if_neg (show ¬ nI 20 < 20 by decide), if_pos (show nI 20 = 20 from rfl)]
      exact r_ok.mk hR2 _
    · have k1 : nI nS < 20 := by
        show nI nS < nI 20
        rw [pr_lt (by omega) (by omega)]; omega
      have k2 : ¬ nI nS = 20 := by
        show ¬ nI nS = nI 20
        rw [pr_eq (by omega) (by omega)]; exact h20
      obtain ⟨μ3, ν3, r1, r2, r3, r4, r5, r6, r7⟩ := r_mem0 hR2
      have e1 : nI nS + 1 = nI (nS + 1) := nI_add nS 1
      have s3 : ed_up (ed_sJ μ 7 σ2 0) 0 0 3 (nI (nS + 1)) 0 0 3 = nI (nS + 1) := pr_up_same _ _ _ _ _
      have m7 : ∀ x, ed_sJ μ3 0 x 7 = μ3 7 := fun x => ed_sJ_ne _ _ (by decide)
      have k17 : μ3 7 17 = σ2 17 := by rw [r6 17 (by decide) (by decide), ed_sJ_self]
      have k19 : μ3 7 19 = σ2 19 := by rw [r6 19 (by decide) (by decide), ed_sJ_self]
      have k20 : μ3 7 20 = σ2 20 := by rw [r6 20 (by decide) (by decide), ed_sJ_self]
      obtain ⟨n4, ν4, y1, y2, y3, y4⟩ := r_42 (s := nS) (by omega) 29 0 ed_N ν3 (by omega) (by unfold ed_N; omega)
      have y1 : f_X9_readStory_42 ed_N (nI nS) 0 ν3 = _ := y1
      have u2 : ν3 1 (2 : Int32).toNatClampNeg = nI nS := by rw [r4]; exact v2
      have i6 : f_X9_storyAt (nI nS) 6 = nI (107 + 29 * nS + 6) := pr_9s nS 6
      have i8 : f_X9_storyAt (nI nS) 8 = nI (107 + 29 * nS + 8) := pr_9s nS 8
      have i9 : f_X9_storyAt (nI nS) 9 = nI (107 + 29 * nS + 9) := pr_9s nS 9
      have hv4 : ν4 = em_sR ν3 1 (ν4 1) := by
        funext i
        by_cases h1 : i = 1
        · subst h1; rw [pr_sR1]
        · rw [pr_sRn _ _ h1, y2 i h1]
      have w4 : upd (upd (upd (ν4 1) (107 + 29 * nS + 6) 0) (107 + 29 * nS + 8) (-5)) (107 + 29 * nS + 9) (-5) 2 + 1 = nI (nS + 1) := by
        rw [pr_une _ _ (by omega), pr_une _ _ (by omega), pr_une _ _ (by omega), y4 2 (by omega), r4, q6, e1]
      have refEnd : f_X9_readStory_42 (n4 + 1) (nI nS) (nI 29) ν4 = some (nI nS, em_sR ν3 1 (upd (upd (upd (upd (ν4 1) (107 + 29 * nS + 6) 0) (107 + 29 * nS + 8) (-5)) (107 + 29 * nS + 9) (-5)) 2 (nI (nS + 1)))) := by
        rw [f_X9_readStory_42, if_pos (show 29 ≤ nI 29 by decide), i6, i8, i9, pr_gin (by omega) (by omega), pr_t, pr_gin (by omega) (by omega), pr_t, pr_gin (by omega) (by omega), pr_t, pr_gN (by decide) (by decide), pr_gN (by decide) (by decide), pr_t, nI_clamp (n := 107 + 29 * nS + 6) (by omega), nI_clamp (n := 107 + 29 * nS + 8) (by omega), nI_clamp (n := 107 + 29 * nS + 9) (by omega), pr_cl 2 (by omega), hv4, pr_sRu, pr_sRu, pr_sRu, pr_sR1, pr_sR1, w4, pr_sRu]
      obtain ⟨σ5, b5, X5⟩ := r_newS (τ := μ3 7) (ρ := ν2 6) (v' := upd (upd (upd (upd (ν4 1) (107 + 29 * nS + 6) 0) (107 + 29 * nS + 8) (-5)) (107 + 29 * nS + 9) (-5)) 2 (nI (nS + 1))) hX (by omega) (m := m) (n := n) (by rw [k17]; exact D0) m1 m2 (by rw [k17]; exact M1) M2 (fun k hk => by rw [k19]; exact M3 k hk) (by rw [k17]; exact D2) n1 (by rw [k17]; exact N1) N3 (fun k hk => by rw [k20]; exact N2 k hk) (DZ 7 (by omega) (by omega)) (pr_ueq _ _ rfl) (by rw [pr_une _ _ (by omega), pr_une _ _ (by omega), pr_une _ _ (by omega), pr_ueq _ _ rfl]) (by rw [pr_une _ _ (by omega), pr_une _ _ (by omega), pr_ueq _ _ rfl]) (by rw [pr_une _ _ (by omega), pr_ueq _ _ rfl]) (fun a h1 h2 h3 h4 => by rw [pr_une _ _ (by omega), pr_une _ _ (by omega), pr_une _ _ (by omega), pr_une _ _ (by omega), y3 a (by omega) h1, r7]) (fun b h1 h2 => by rw [pr_une _ _ h1, pr_une _ _ (by omega), pr_une _ _ (by omega), pr_une _ _ (by omega), y4 b (by omega), r4])
      rw [if_pos k1, if_neg k2, r1, r2, pr_b, pr_b, r3, q5, e1, pr_t, ed_sJ_self, pr_storyAt s3 (by omega) (by omega), pr_b]
      show r_ok (ed_g _ _) _
      rw [pr_g (by omega), m7, b5, pr_b, pr_t, ed_sJ_sJ, pr_gN (by decide) (by decide), pr_t, u2, y1, refEnd]
      exact r_ok.mk (r5 _ _ ⟨h, nC, nS + 1, nK, hh, X5⟩) _
