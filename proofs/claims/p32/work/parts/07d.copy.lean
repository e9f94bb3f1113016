/-! copyFrom: a state over another -/
def r_st (τ σ : ed_SM) (s : Nat) : Prop := (σ 7 s 0 = τ 7 s 0 ∧ σ 7 s 1 = τ 7 s 1 ∧ σ 7 s 3 = τ 7 s 3 ∧ σ 7 s 4 = τ 7 s 4 ∧ σ 7 s 6 = τ 7 s 6 ∧ σ 7 s 7 = τ 7 s 7 ∧ σ 7 s 9 = τ 7 s 9 ∧ σ 7 s 10 = τ 7 s 10) ∧ (∀ k, k < 3 → σ 8 s k = τ 8 s k) ∧ (∀ k, k < 12 → σ 9 s k = τ 9 s k) ∧ ∀ k, k < 6 → σ 10 s k = τ 10 s k
theorem r_cf6 (τ σ : ed_SM) (s : Nat) : ∃ σ', f_X6_copyFrom s s τ σ = some σ' ∧ r_st τ σ' s ∧ (∀ K i, i ≠ s → σ' K i = σ K i) ∧ ∀ K, K ≠ 7 → K ≠ 8 → K ≠ 9 → K ≠ 10 → σ' K = σ K := by
  refine ⟨_, rfl, ⟨⟨?_, ?_, ?_, ?_, ?_, ?_, ?_, ?_⟩, fun k hk => ?_, fun k hk => ?_, fun k hk => ?_⟩, fun K i hi => ?_, fun K h7 h8 h9 h10 => ?_⟩
  all_goals (try simp [ed_up, ed_sR, upd, va_cpy]; try omega)
  · simp [hi]
  · funext i
    simp [ed_sR, h7, h8, h9, h10]
theorem r_cfS (τ : ed_SM) (nS : Nat) (ht : τ 0 0 3 = nI nS) (hn : nS ≤ 20) : ∀ (d i n : Nat), i + d = nS → d < n → ∀ σ : ed_SM, σ 0 0 3 = nI nS → ∃ σ', f_X5_copyStories_10 τ n (nI i) σ = some σ' ∧ (∀ s, i ≤ s → s < nS → r_st τ σ' s) ∧ (∀ K s, s < i → σ' K s = σ K s) ∧ ∀ K, K ≠ 7 → K ≠ 8 → K ≠ 9 → K ≠ 10 → σ' K = σ K := by
  intro d
  induction d with
  | zero =>
    intro i n hi hd σ hs
    obtain ⟨n, rfl⟩ : ∃ q, n = q + 1 := ⟨n - 1, by omega⟩
    have c : nI nS ≤ nI i := by rw [pr_le (by omega) (by omega)]; omega
    refine ⟨σ, by rw [f_X5_copyStories_10, hs, if_pos c], fun s h1 h2 => absurd h2 (by omega), fun _ _ _ => rfl, fun _ _ _ _ _ => rfl⟩
  | succ d ih =>
    intro i n hi hd σ hs
    obtain ⟨n, rfl⟩ : ∃ q, n = q + 1 := ⟨n - 1, by omega⟩
    have c : ¬ nI nS ≤ nI i := by rw [pr_le (by omega) (by omega)]; omega
    obtain ⟨σ1, e1, e2, e3, e4⟩ := r_cf6 τ σ i
    obtain ⟨σ2, g1, g2, g3, g4⟩ := ih (i + 1) n (by omega) (by omega) σ1 (by rw [e4 0 (by decide) (by decide) (by decide) (by decide)]; exact hs)
    refine ⟨σ2, ?_, fun s h1 h2 => ?_, fun K s h1 => ?_, fun K h7 h8 h9 h10 => by rw [g4 K h7 h8 h9 h10, e4 K h7 h8 h9 h10]⟩
    · rw [f_X5_copyStories_10, hs, if_neg c, pr_storyAt hs hn (by omega), pr_b]
      show ed_g _ _ = _
      rw [pr_g (by omega), pr_storyAt ht hn (by omega), pr_b]
      show ed_g _ _ = _
      rw [pr_g (by omega), e1, pr_b, nI_1]
      exact g1
    · by_cases hq : s = i
      · subst hq
        unfold r_st
        rw [g3 7 s (by omega), g3 8 s (by omega), g3 9 s (by omega), g3 10 s (by omega)]
        exact e2
      · exact g2 s (by omega) h2
    · rw [g3 K s (by omega), e3 K s (by omega)]
theorem r_cf0 (τ σ : ed_SM) (s : Nat) (hb : ed_bo (τ 11 s 5)) : ∃ σ', f_X0_copyFrom s s τ σ = some σ' ∧ (∀ k, k < 10 → σ' 11 s k = τ 11 s k) ∧ (∀ K i, i ≠ s → σ' K i = σ K i) ∧ ∀ K, K ≠ 11 → σ' K = σ K := by
  refine ⟨_, by unfold f_X0_copyFrom; simp only [pr_t]; rw [pr_g hb], fun k hk => ?_, fun K i hi => ?_, fun K h => ?_⟩
  · rcases (show k = 0 ∨ k = 1 ∨ k = 2 ∨ k = 3 ∨ k = 4 ∨ k = 5 ∨ k = 6 ∨ k = 7 ∨ k = 8 ∨ k = 9 by omega) with rfl | rfl | rfl | rfl | rfl | rfl | rfl | rfl | rfl | rfl <;> simp [ed_up, ed_sR, upd]
  · simp [ed_up, ed_sR, hi]
  · funext i
    simp [ed_up, ed_sR, h]
theorem r_cfC (τ : ed_SM) (nC : Nat) (ht : τ 0 0 4 = nI nC) (hn : nC ≤ 8) (hb : ∀ c, c < nC → ed_bo (τ 11 c 5)) : ∀ (d i n : Nat), i + d = nC → d < n → ∀ σ : ed_SM, σ 0 0 4 = nI nC → ∃ σ', f_X5_copyClients_10 τ n (nI i) σ = some σ' ∧ (∀ c, i ≤ c → c < nC → ∀ k, k < 10 → σ' 11 c k = τ 11 c k) ∧ (∀ K c, c < i → σ' K c = σ K c) ∧ ∀ K, K ≠ 11 → σ' K = σ K := by
  intro d
  induction d with
  | zero =>
    intro i n hi hd σ hs
    obtain ⟨n, rfl⟩ : ∃ q, n = q + 1 := ⟨n - 1, by omega⟩
    have c : nI nC ≤ nI i := by rw [pr_le (by omega) (by omega)]; omega
    refine ⟨σ, by rw [f_X5_copyClients_10, hs, if_pos c], fun s h1 h2 => absurd h2 (by omega), fun _ _ _ => rfl, fun _ _ => rfl⟩
  | succ d ih =>
    intro i n hi hd σ hs
    obtain ⟨n, rfl⟩ : ∃ q, n = q + 1 := ⟨n - 1, by omega⟩
    have c : ¬ nI nC ≤ nI i := by rw [pr_le (by omega) (by omega)]; omega
    obtain ⟨σ1, e1, e2, e3, e4⟩ := r_cf0 τ σ i (hb i (by omega))
    obtain ⟨σ2, g1, g2, g3, g4⟩ := ih (i + 1) n (by omega) (by omega) σ1 (by rw [e4 0 (by decide)]; exact hs)
    refine ⟨σ2, ?_, fun s h1 h2 => ?_, fun K s h1 => ?_, fun K h => by rw [g4 K h, e4 K h]⟩
    · rw [f_X5_copyClients_10, hs, if_neg c, pr_clientAt hs hn (by omega), pr_b]
      show ed_g _ _ = _
      rw [pr_g (by omega), pr_clientAt ht hn (by omega), pr_b]
      show ed_g _ _ = _
      rw [pr_g (by omega), e1, pr_b, nI_1]
      exact g1
    · by_cases hq : s = i
      · subst hq
        rw [g3 11 s (by omega)]
        exact e2
      · exact g2 s (by omega) h2
    · rw [g3 K s (by omega), e3 K s (by omega)]
theorem r_cf1 (τ σ : ed_SM) (s : Nat) : ∃ σ', f_X1_copyFrom s s τ σ = some σ' ∧ (∀ k, k < 6 → σ' 12 s k = τ 12 s k) ∧ (∀ K i, i ≠ s → σ' K i = σ K i) ∧ ∀ K, K ≠ 12 → σ' K = σ K := by
  refine ⟨_, rfl, fun k hk => ?_, fun K i hi => ?_, fun K h => ?_⟩
  · rcases (show k = 0 ∨ k = 1 ∨ k = 2 ∨ k = 3 ∨ k = 4 ∨ k = 5 by omega) with rfl | rfl | rfl | rfl | rfl | rfl <;> simp [ed_up, ed_sR, upd]
  · simp [ed_up, ed_sR, hi]
  · funext i
    simp [ed_up, ed_sR, h]
theorem r_cfK (τ : ed_SM) (nK : Nat) (ht : τ 0 0 5 = nI nK) (hn : nK ≤ 160) : ∀ (d i n : Nat), i + d = nK → d < n → ∀ σ : ed_SM, σ 0 0 5 = nI nK → ∃ σ', f_X5_copyCopies_10 τ n (nI i) σ = some σ' ∧ (∀ c, i ≤ c → c < nK → ∀ k, k < 6 → σ' 12 c k = τ 12 c k) ∧ (∀ K c, c < i → σ' K c = σ K c) ∧ ∀ K, K ≠ 12 → σ' K = σ K := by
  intro d
  induction d with
  | zero =>
    intro i n hi hd σ hs
    obtain ⟨n, rfl⟩ : ∃ q, n = q + 1 := ⟨n - 1, by omega⟩
    have c : nI nK ≤ nI i := by rw [pr_le (by omega) (by omega)]; omega
    refine ⟨σ, by rw [f_X5_copyCopies_10, hs, if_pos c], fun s h1 h2 => absurd h2 (by omega), fun _ _ _ => rfl, fun _ _ => rfl⟩
  | succ d ih =>
    intro i n hi hd σ hs
    obtain ⟨n, rfl⟩ : ∃ q, n = q + 1 := ⟨n - 1, by omega⟩
    have c : ¬ nI nK ≤ nI i := by rw [pr_le (by omega) (by omega)]; omega
    obtain ⟨σ1, e1, e2, e3, e4⟩ := r_cf1 τ σ i
    obtain ⟨σ2, g1, g2, g3, g4⟩ := ih (i + 1) n (by omega) (by omega) σ1 (by rw [e4 0 (by decide)]; exact hs)
    refine ⟨σ2, ?_, fun s h1 h2 => ?_, fun K s h1 => ?_, fun K h => by rw [g4 K h, e4 K h]⟩
    · rw [f_X5_copyCopies_10, hs, if_neg c, pr_copyMade hs hn (by omega), pr_b]
      show ed_g _ _ = _
      rw [pr_g (by omega), pr_copyMade ht hn (by omega), pr_b]
      show ed_g _ _ = _
      rw [pr_g (by omega), e1, pr_b, nI_1]
      exact g1
    · by_cases hq : s = i
      · subst hq
        rw [g3 12 s (by omega)]
        exact e2
      · exact g2 s (by omega) h2
    · rw [g3 K s (by omega), e3 K s (by omega)]
theorem r_cfP (τ : ed_SM) : ∀ (d i n : Nat), i + d = 10 → d < n → ∀ σ : ed_SM, ∃ σ', f_X5_copyPersons_2 τ n (nI i) σ = some σ' ∧ (∀ c, i ≤ c → c < 10 → ∀ k, k < 2 → σ' 13 c k = τ 13 c k) ∧ (∀ K c, c < i → σ' K c = σ K c) ∧ ∀ K, K ≠ 13 → σ' K = σ K := by
  intro d
  induction d with
  | zero =>
    intro i n hi hd σ
    obtain ⟨n, rfl⟩ : ∃ q, n = q + 1 := ⟨n - 1, by omega⟩
    have c : (10 : Int32) ≤ nI i := by
      show nI 10 ≤ nI i
      rw [pr_le (by omega) (by omega)]; omega
    refine ⟨σ, by rw [f_X5_copyPersons_2, if_pos c], fun s h1 h2 => absurd h2 (by omega), fun _ _ _ => rfl, fun _ _ => rfl⟩
  | succ d ih =>
    intro i n hi hd σ
    obtain ⟨n, rfl⟩ : ∃ q, n = q + 1 := ⟨n - 1, by omega⟩
    have c : ¬ (10 : Int32) ≤ nI i := by
      show ¬ nI 10 ≤ nI i
      rw [pr_le (by omega) (by omega)]; omega
    obtain ⟨σ2, g1, g2, g3, g4⟩ := ih (i + 1) n (by omega) (by omega) (ed_up (ed_up σ 13 i 0 (τ 13 i 0)) 13 i 1 (τ 13 i 1))
    refine ⟨σ2, ?_, fun s h1 h2 => ?_, fun K s h1 => ?_, fun K h => by rw [g4 K h]; funext q; rw [pr_up_K _ _ h, pr_up_K _ _ h]⟩
    · rw [f_X5_copyPersons_2, if_neg c, pr_personAt (by omega), pr_b]
      show ed_g _ _ = _
      rw [pr_g (by omega), pr_personAt (by omega), pr_b]
      show ed_g _ _ = _
      rw [pr_g (by omega), pr_t, pr_t, nI_1]
      exact g1
    · by_cases hq : s = i
      · subst hq
        rw [g3 13 s (by omega)]
        intro k hk
        rcases (show k = 0 ∨ k = 1 by omega) with rfl | rfl
        · rw [pr_up_k _ _ (by decide), pr_up_same]
        · rw [pr_up_same]
      · exact g2 s (by omega) h2
    · rw [g3 K s (by omega)]
      simp [ed_up, ed_sR, show ¬ s = i by omega]
/-- the states agree where the relation looks -/
theorem r_R.of {τ σ : ed_SM} {v : Nat → Int32} {h nC nS nK e : Nat} (hR : r_R τ v h nC nS nK e) (h0 : ∀ k, k < 6 → σ 0 0 k = τ 0 0 k) (h1 : ∀ k, 1 ≤ k → k < 3 → σ 1 0 k = τ 1 0 k) (h2 : ∀ k, k < 48 → σ 2 0 k = τ 2 0 k) (hs : ∀ s, s < nS → r_st τ σ s) (hc : ∀ c, c < nC → ∀ k, k < 10 → σ 11 c k = τ 11 c k) (hk : ∀ c, c < nK → ∀ k, k < 6 → σ 12 c k = τ 12 c k) (hp : ∀ c, c < 10 → ∀ k, k < 2 → σ 13 c k = τ 13 c k) : r_R σ v h nC nS nK e := by
  obtain ⟨qH, qC, qP, qS, qK, qL, qN⟩ := hR
  refine ⟨?_, ⟨fun c k a b => by rw [hc c a k b]; exact qC.1 c k a b, qC.2⟩, ⟨fun c k a b => by rw [hp c a k b]; exact qP.1 c k a b, qP.2⟩, fun s hs2 => ?_, ⟨fun c k a b => by rw [hk c a k b]; exact qK.1 c k a b, qK.2⟩, ?_, qN⟩
  · unfold r_H at qH ⊢
    rw [h0 0 (by omega), h0 1 (by omega), h0 2 (by omega), h0 3 (by omega), h0 4 (by omega), h0 5 (by omega)]
    exact qH
  · obtain ⟨⟨a1, a2, a3, a4, a5, a6, a7, a8⟩, ⟨m, b1, b2, b3, b4⟩, ⟨n, c1, c2, c3⟩, ⟨w, d1, d2, d3, d4⟩, e1⟩ := qS s hs2
    obtain ⟨⟨f1, f2, f3, f4, f5, f6, f7, f8⟩, g1, g2, g3⟩ := hs s hs2
    refine ⟨⟨f1.trans a1, f2.trans a2, f3.trans a3, f4.trans a4, f5.trans a5, f6.trans a6, f7.trans a7, f8.trans a8⟩, ⟨m, b1, b2, b3, fun k hk2 => ⟨(g1 k (by omega)).trans (b4 k hk2).1, (b4 k hk2).2⟩⟩, ⟨n, c1, c2, fun k hk2 => (g2 k (by omega)).trans (c3 k hk2)⟩, ⟨w, d1, d2, fun k hk2 => ⟨(g3 k (by omega)).trans (d3 k hk2).1, (d3 k hk2).2⟩, d4⟩, e1⟩
  · obtain ⟨ne, sz, a1, a2, a3, a4, a5, a6⟩ := qL
    refine ⟨ne, sz, a1, a2, (h1 1 (by omega) (by omega)).trans a3, (h1 2 (by omega) (by omega)).trans a4, a5, fun b hb => ?_⟩
    rw [h2 _ (by omega), h2 _ (by omega), h2 _ (by omega), h2 _ (by omega)]
    exact a6 b hb
theorem r_copyFrom {τ : ed_SM} {v : Nat → Int32} {h nC nS nK e : Nat} (hR : r_R τ v h nC nS nK e) (σ : ed_SM) : ∃ σ', f_X5_copyFrom τ σ = some σ' ∧ r_R σ' v h nC nS nK e := by
  obtain ⟨⟨q1, q2, q3, q4, q5, q6, q7, q8, q9, q10, b1, b2, b3, b4⟩, qC, -⟩ := id hR
  have hb : ∀ c, c < nC → ed_bo (τ 11 c 5) := fun c hc => by rw [qC.1 c 5 hc (by omega)]; exact (qC.2.1 c hc).1
  unfold f_X5_copyFrom
  simp only [pr_t]
  have e3 : ∀ σ0, ∃ σ', f_X3_copyFrom τ σ0 = some σ' ∧ (∀ k, k < 48 → σ' 2 0 k = τ 2 0 k) ∧ (∀ k, 1 ≤ k → k < 3 → σ' 1 0 k = τ 1 0 k) ∧ ∀ K, K ≠ 1 → K ≠ 2 → σ' K = σ0 K := by
    intro σ0
    refine ⟨_, rfl, fun k hk => ?_, fun k h1 h2 => ?_, fun K h1 h2 => ?_⟩
    · simp [ed_up, ed_sR, va_cpy]
      intro; omega
    · rcases (show k = 1 ∨ k = 2 by omega) with rfl | rfl <;> simp [ed_up, ed_sR, upd]
    · funext i
      simp [ed_up, ed_sR, h1, h2]
  obtain ⟨s1, a1, a2, a3, a4⟩ := e3 (ed_up (ed_up (ed_up σ 0 0 0 (τ 0 0 0)) 0 0 1 (τ 0 0 1)) 0 0 2 (τ 0 0 2))
  rw [a1, pr_b]
  unfold f_X5_copyStories f_X5_copyClients f_X5_copyCopies f_X5_copyPersons
  simp only [pr_t]
  obtain ⟨s2, c1, c2, c3, c4⟩ := r_cfS τ nS q5 b2 nS 0 ed_N (by omega) (by unfold ed_N; omega) (ed_up s1 0 0 3 (τ 0 0 3)) (by rw [pr_up_same]; exact q5)
  have c1 : f_X5_copyStories_10 τ ed_N 0 (ed_up s1 0 0 3 (τ 0 0 3)) = some s2 := c1
  rw [c1, pr_b]
  obtain ⟨s3, d1, d2, d3, d4⟩ := r_cfC τ nC q7 b1 hb nC 0 ed_N (by omega) (by unfold ed_N; omega) (ed_up s2 0 0 4 (τ 0 0 4)) (by rw [pr_up_same]; exact q7)
  have d1 : f_X5_copyClients_10 τ ed_N 0 (ed_up s2 0 0 4 (τ 0 0 4)) = some s3 := d1
  rw [d1, pr_b]
  obtain ⟨s4, f1, f2, f3, f4⟩ := r_cfK τ nK q9 b3 nK 0 ed_N (by omega) (by unfold ed_N; omega) (ed_up s3 0 0 5 (τ 0 0 5)) (by rw [pr_up_same]; exact q9)
  have f1 : f_X5_copyCopies_10 τ ed_N 0 (ed_up s3 0 0 5 (τ 0 0 5)) = some s4 := f1
  rw [f1, pr_b]
  obtain ⟨s5, g1, g2, g3, g4⟩ := r_cfP τ 10 0 ed_N (by omega) (by unfold ed_N; omega) s4
  have g1 : f_X5_copyPersons_2 τ ed_N 0 s4 = some s5 := g1
  rw [g1, pr_b]
  refine ⟨s5, rfl, hR.of (fun k hk => ?_) (fun k h1 h2 => ?_) (fun k hk => ?_) (fun s hs => ?_) (fun c hc => ?_) (fun c hc => ?_) (fun c hc => g2 c (by omega) hc)⟩
  · rw [g4 0 (by decide), f4 0 (by decide)]
    rcases (show k = 0 ∨ k = 1 ∨ k = 2 ∨ k = 3 ∨ k = 4 ∨ k = 5 by omega) with rfl | rfl | rfl | rfl | rfl | rfl
    · rw [pr_up_k _ _ (by decide), d4 0 (by decide), pr_up_k _ _ (by decide), c4 0 (by decide) (by decide) (by decide) (by decide), pr_up_k _ _ (by decide), a4 0 (by decide) (by decide), pr_up_k _ _ (by decide), pr_up_k _ _ (by decide), pr_up_same]
    · rw [pr_up_k _ _ (by decide), d4 0 (by decide), pr_up_k _ _ (by decide), c4 0 (by decide) (by decide) (by decide) (by decide), pr_up_k _ _ (by decide), a4 0 (by decide) (by decide), pr_up_k _ _ (by decide), pr_up_same]
    · rw [pr_up_k _ _ (by decide), d4 0 (by decide), pr_up_k _ _ (by decide), c4 0 (by decide) (by decide) (by decide) (by decide), pr_up_k _ _ (by decide), a4 0 (by decide) (by decide), pr_up_same]
    · rw [pr_up_k _ _ (by decide), d4 0 (by decide), pr_up_k _ _ (by decide), c4 0 (by decide) (by decide) (by decide) (by decide), pr_up_same]
    · rw [pr_up_k _ _ (by decide), d4 0 (by decide), pr_up_same]
    · rw [pr_up_same]
  · rw [g4 1 (by decide), f4 1 (by decide), pr_up_K _ _ (by decide), d4 1 (by decide), pr_up_K _ _ (by decide), c4 1 (by decide) (by decide) (by decide) (by decide), pr_up_K _ _ (by decide)]
    exact a3 k h1 h2
  · rw [g4 2 (by decide), f4 2 (by decide), pr_up_K _ _ (by decide), d4 2 (by decide), pr_up_K _ _ (by decide), c4 2 (by decide) (by decide) (by decide) (by decide), pr_up_K _ _ (by decide)]
    exact a2 k hk
  · have z := c2 s (by omega) hs
    unfold r_st at z ⊢
    rw [g4 7 (by decide), f4 7 (by decide), pr_up_K _ _ (by decide), d4 7 (by decide), pr_up_K _ _ (by decide)]
    rw [g4 8 (by decide), f4 8 (by decide), pr_up_K _ _ (by decide), d4 8 (by decide), pr_up_K _ _ (by decide)]
    rw [g4 9 (by decide), f4 9 (by decide), pr_up_K _ _ (by decide), d4 9 (by decide), pr_up_K _ _ (by decide)]
    rw [g4 10 (by decide), f4 10 (by decide), pr_up_K _ _ (by decide), d4 10 (by decide), pr_up_K _ _ (by decide)]
    exact z
  · rw [g4 11 (by decide), f4 11 (by decide), pr_up_K _ _ (by decide)]
    exact d2 c (by omega) hc
  · rw [g4 12 (by decide)]
    exact f2 c (by omega) hc
