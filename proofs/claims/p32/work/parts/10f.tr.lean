/-! What holds of a state rests on its numbers alone; the desk's invariant. -/
theorem j_tr {σ σ2 : ed_SM} {v : Nat → Int32} {M pd : Int} {h nC nS nK : Nat} (hR : r_R σ v h nC nS nK 160) (hR2 : r_R σ2 v h nC nS nK 160) (H : j_J σ M pd h nC nS nK) : j_J σ2 M pd h nC nS nK := by
  obtain ⟨⟨p1, p2, p3, p4, p5, p6, p7, p8, p9, p10, -⟩, pC, pP, pS, pK, -⟩ := hR
  obtain ⟨⟨q1, q2, q3, q4, q5, q6, q7, q8, q9, q10, -⟩, qC, qP, qS, qK, -⟩ := hR2
  obtain ⟨⟨a0, a3, a4, a5, a6, a7, a8, a9⟩, C, P, S, K, m1, m2, m3⟩ := H
  have e11 : ∀ c k, c < nC → k < 10 → σ2 11 c k = σ 11 c k := fun c k hc hk => (qC.1 c k hc hk).trans (pC.1 c k hc hk).symm
  have e13 : ∀ q k, q < 10 → k < 2 → σ2 13 q k = σ 13 q k := fun q k hq hk => (qP.1 q k hq hk).trans (pP.1 q k hq hk).symm
  have e12 : ∀ p k, p < nK → k < 6 → σ2 12 p k = σ 12 p k := fun p k hp hk => (qK.1 p k hp hk).trans (pK.1 p k hp hk).symm
  have e7 : ∀ s, s < nS → σ2 7 s 1 = σ 7 s 1 ∧ σ2 7 s 6 = σ 7 s 6 ∧ σ2 7 s 7 = σ 7 s 7 ∧ σ2 7 s 9 = σ 7 s 9 := fun s hs => by
    obtain ⟨⟨x1, x2, x3, x4, x5, x6, x7, x8⟩, -⟩ := pS s hs
    obtain ⟨⟨y1, y2, y3, y4, y5, y6, y7, y8⟩, -⟩ := qS s hs
    exact ⟨y2.trans x2.symm, y5.trans x5.symm, y6.trans x6.symm, y7.trans x7.symm⟩
  have e8 : ∀ s, s < nS → ∀ m, m ≤ 3 → σ 7 s 1 = nI m → ∀ k, k < m → σ2 8 s k = σ 8 s k := fun s hs m hm h1 k hk => by
    obtain ⟨⟨x1, x2, -⟩, ⟨mx, x3, x4, x5, x6⟩, -⟩ := pS s hs
    obtain ⟨⟨y1, y2, -⟩, ⟨my, y3, y4, y5, y6⟩, -⟩ := qS s hs
    have g1 : mx = m := (nI_eq (by omega) (by omega)).mp (x5.symm.trans (x2.symm.trans h1))
    have g2 : my = m := (nI_eq (by omega) (by omega)).mp (y5.symm.trans (x2.symm.trans h1))
    exact ((y6 k (by omega)).1).trans ((x6 k (by omega)).1).symm
  have eg : j_s (j_g σ2) 10 = j_s (j_g σ) 10 := j_s_cg 10 (fun k hk => by unfold j_g; rw [e13 k 0 hk (by omega)])
  have eo : j_s (j_o σ2) nC = j_s (j_o σ) nC := j_s_cg nC (fun k hk => by unfold j_o; rw [e11 k 6 hk (by omega)])
  refine ⟨⟨q1, q5, q7, q9, a6, a7, a8, a9⟩, fun c hc => ?_, fun q hq => ?_, fun s hs => ?_, fun p hp => ?_, by rw [eg, eo]; exact m1, by rw [eg]; exact m2, m3⟩
  · unfold j_C1
    rw [e11 c 5 hc (by omega), e11 c 1 hc (by omega), e11 c 2 hc (by omega), e11 c 3 hc (by omega), e11 c 4 hc (by omega), e11 c 6 hc (by omega), e11 c 7 hc (by omega), e11 c 8 hc (by omega), e11 c 9 hc (by omega)]
    exact C c hc
  · rw [e13 q 0 hq (by omega), e13 q 1 hq (by omega)]
    exact P q hq
  · obtain ⟨⟨m, s1, s2, s3, s4, s5⟩, s6⟩ := S s hs
    obtain ⟨f1, f2, f3, f4⟩ := e7 s hs
    have f8 := e8 s hs m s2 s3
    unfold j_S1
    rw [f1, f2, f3, f4]
    refine ⟨⟨m, s1, s2, s3, fun k hk => ?_, fun k k' hk hk' => ?_⟩, s6⟩
    · rw [f8 k hk]; exact s4 k hk
    · rw [f8 k hk, f8 k' hk']; exact s5 k k' hk hk'
  · obtain ⟨s, c, b1, b2, b3⟩ := K p hp
    refine ⟨s, c, b1, b2, ?_⟩
    obtain ⟨f1, f2, f3, f4⟩ := e7 s b1
    rw [e12 p 0 hp (by omega), e12 p 1 hp (by omega), e12 p 2 hp (by omega), e12 p 3 hp (by omega), e12 p 4 hp (by omega), e12 p 5 hp (by omega), f3, f4, e11 c 1 b2 (by omega)]
    exact b3
/-- a story's row -/
theorem j_J.S {σ σ' : ed_SM} {M pd : Int} {h nC nS nK s : Nat} (H : j_J σ M pd h nC nS nK) (hK : ∀ K, K ≠ 7 → K ≠ 10 → σ' K = σ K) (hi : ∀ i, i ≠ s → σ' 7 i = σ 7 i) (h9 : σ' 7 s 9 = σ 7 s 9) (h7 : (σ 7 s 7).toInt ≤ (σ' 7 s 7).toInt) (hS : s < nS → j_S1 σ' s h) : j_J σ' M pd h nC nS nK := by
  obtain ⟨a, C, P, S, K, m1, m2, m3⟩ := H
  have eg : j_g σ' = j_g σ := by unfold j_g; rw [hK 13 (by decide) (by decide)]
  have eo : j_o σ' = j_o σ := by unfold j_o; rw [hK 11 (by decide) (by decide)]
  refine ⟨by unfold j_H; rw [hK 0 (by decide) (by decide)]; exact a, fun c hc => ?_, fun q hq => ?_, fun t ht => ?_, fun p hp => ?_, by rw [eg, eo]; exact m1, by rw [eg]; exact m2, m3⟩
  · unfold j_C1; rw [hK 11 (by decide) (by decide)]; exact C c hc
  · rw [hK 13 (by decide) (by decide)]; exact P q hq
  · by_cases he : t = s
    · subst he; exact hS ht
    · unfold j_S1; rw [hi t he, hK 8 (by decide) (by decide)]; exact S t ht
  · obtain ⟨t, c, b1, b2, b3, b4, b5, b6, b7⟩ := K p hp
    have f9 : σ' 7 t 9 = σ 7 t 9 := by
      by_cases he : t = s
      · subst he; exact h9
      · rw [hi t he]
    have f7 : (σ 7 t 7).toInt ≤ (σ' 7 t 7).toInt := by
      by_cases he : t = s
      · subst he; exact h7
      · rw [hi t he]; exact Int.le_refl _
    refine ⟨t, c, b1, b2, ?_⟩
    rw [f9, hK 11 (by decide) (by decide), hK 12 (by decide) (by decide)]
    refine ⟨b3, b4, b5, b6, ?_⟩
    rcases b7 with z | ⟨z1, z2, z3, z4⟩
    · exact Or.inl z
    · exact Or.inr ⟨z1, z2, z3, by omega⟩
def j_G (μ : ed_CM) (M pd : Int) (h nC nS nK : Nat) : Prop := (∃ ν, r_REL μ ν) ∧ j_J (μ 0) M pd h nC nS nK
theorem j_G.R {μ : ed_CM} {M pd : Int} {h nC nS nK : Nat} (G : j_G μ M pd h nC nS nK) : ∃ ν, r_REL μ ν ∧ r_R (μ 0) (ν 1) h nC nS nK 160 := by
  obtain ⟨⟨ν, hR⟩, H⟩ := G
  obtain ⟨h', nC', nS', nK', -, hX⟩ := id hR.1
  obtain ⟨e1, e2, e3, e4⟩ := j_RJ hX H
  subst e1; subst e2; subst e3; subst e4
  exact ⟨ν, hR, hX⟩
theorem j_rem {μ : ed_CM} {ν : em_MM} (hR : r_REL μ ν) : ∃ μ1, f_X2_remember 0 μ = some μ1 ∧ μ1 0 = μ 0 ∧ ∀ K, K ≠ 15 → K ≠ 16 → μ1 7 K = μ 7 K := by
  obtain ⟨μ1, ν1, h1, h2, h3, h4, h5, h6, h7⟩ := r_mem0 hR
  exact ⟨μ1, h1, h3, h6⟩
/-- what an act leaves of the relation -/
theorem r_ok.l {A : Option (Int32 × ed_CM)} {Bq : Option (Int32 × em_MM)} (h : r_ok A Bq) {r : Int32} {μ' : ed_CM} (hA : A = some (r, μ')) : ∃ ν', r_REL μ' ν' := by
  obtain ⟨r', μ'', ν', h1, h2, h3⟩ := h
  rw [hA] at h1
  cases h1
  exact ⟨ν', h3⟩
