/-! The law's act of a turn. -/
theorem l_story3 {μ : ed_CM} {M pd : Int} {h nC nS nK s : Nat} (G : j_G μ M pd h nC nS nK) (hs : s < nS) : f_X8_story (nI s) 3 μ = some (μ 0 7 s 6) := q_story3 G.2.1.2.1 G.2.1.2.2.2.2.2.1 hs
theorem l_acts {μ : ed_CM} {M pd : Int} {h nC nS nK y : Nat} (G : j_G μ M pd h nC nS nK) (hC : 2 ≤ nC) (hy : y < 2 ^ 31) (hh : h + 9 ≤ 9999) (hM : M + 1600000 * 9 + 1 ≤ 2000000000) : ∃ μ' m nS' nK', f_L_acts (nI y) μ = some (1, μ') ∧ m ≤ 9 ∧ j_G μ' (M + 1600000 * (m : Nat)) pd (h + m) nC nS' nK' := by
  obtain ⟨⟨a0, a3, a4, a5, a6, a7, a8, a9⟩, C, P, S, K, m1, m2, m3⟩ := id G.2
  have s3 : nI y >>> ((3 : Int32) &&& 31) = nI (y / 2 ^ 3) := pk_shrN hy _ 3 (by decide)
  have b3 : y / 2 ^ 3 < 2 ^ 31 := Nat.lt_of_le_of_lt (Nat.div_le_self _ _) hy
  obtain ⟨z, hz⟩ : ∃ z, y / 2 ^ 3 = z := ⟨_, rfl⟩
  rw [hz] at s3 b3
  have a7' : nI y &&& 7 = nI (y % 2 ^ 3) := pk_andN (by omega) 3 (by decide)
  obtain ⟨w, hw⟩ : ∃ w, y % 2 ^ 3 = w := ⟨_, rfl⟩
  have hw8 : w < 8 := by rw [← hw]; exact Nat.mod_lt _ (by omega)
  rw [hw] at a7'
  have done : ∀ (μ' : ed_CM), j_G μ' M pd h nC nS nK → ∃ μ'' m nS' nK', some ((1 : Int32), μ') = some (1, μ'') ∧ m ≤ 9 ∧ j_G μ'' (M + 1600000 * (m : Nat)) pd (h + m) nC nS' nK' := fun μ' G' =>
    ⟨μ', 0, nS, nK, rfl, by omega, by
      have e : M + 1600000 * ((0 : Nat) : Int) = M := by omega
      rw [e]
      exact G'⟩
  have main : ∀ s, (nS = 0 ∨ s < nS) → ∃ μ' m nS' nK', f_L_acts_23 (nI y) (nI z) (nI nS) (nI s) μ = some (1, μ') ∧ m ≤ 9 ∧ j_G μ' (M + 1600000 * (m : Nat)) pd (h + m) nC nS' nK' := by
    intro s hs
    obtain ⟨c, hc⟩ : ∃ c, z % nC = c := ⟨_, rfl⟩
    have hcn : c < nC := by rw [← hc]; exact Nat.mod_lt _ (by omega)
    have ec : nI z - nI z / nI nC * nI nC = nI c := by rw [pk_rem b3 (by omega) (by omega), hc]
    unfold f_L_acts_23
    rw [q_count1, pr_b, a4, pr_g (nI_ne0 (by omega) (by omega)), ec, pr_t, a7']
    generalize nI z >>> ((5 : Int32) &&& 31) &&& 3 = q5
    generalize nI z >>> ((4 : Int32) &&& 31) &&& 1 = q4
    rcases (show w = 0 ∨ w = 1 ∨ w = 2 ∨ w = 3 ∨ w = 4 ∨ 5 ≤ w by omega) with rfl | rfl | rfl | rfl | rfl | h5
    · rw [if_pos (by decide)]
      obtain ⟨μ', nS', r1, r2⟩ := l_reads G b3
      rw [r1, pr_b2, pr_g (Or.inr rfl)]
      refine ⟨μ', 0, nS', nK, rfl, by omega, ?_⟩
      have e : M + 1600000 * ((0 : Nat) : Int) = M := by omega
      rw [e]
      exact r2
    · rw [if_neg (by decide), if_pos (by decide)]
      by_cases h0 : nI nS = 0
      · rw [if_pos h0, if_pos h0]
        exact done μ G
      · have hs : s < nS := by
          rcases hs with q | q
          · exact absurd (by rw [q]; rfl) h0
          · exact q
        rw [if_neg h0, l_story3 G hs, pr_b, if_neg h0]
        by_cases h60 : μ 0 7 s 6 = 0
        · obtain ⟨r, μ', r1, r2, r3, r4⟩ := g_release G hs h60
          rw [if_pos h60, r1, pr_b2, if_neg r2, l_story3 r3 hs, pr_b, r4, if_pos rfl]
          exact done μ' r3
        · rw [if_neg h60]
          by_cases h61 : μ 0 7 s 6 = 1
          · rw [if_pos h61]
            by_cases hq : q5 = 0
            · obtain ⟨r, μ', r1, r2, r3, r4⟩ := g_hold G hs h61
              rw [if_pos hq, r1, pr_b2, if_neg r2, l_story3 r3 hs, pr_b, r4, if_pos rfl]
              exact done μ' r3
            · rw [if_neg hq, if_pos h61]
              exact done μ G
          · rw [if_neg h61, if_neg h61, g_release0 G hs h60, pr_b2, if_pos rfl]
            exact done μ G
    · rw [if_neg (by decide), if_neg (by decide), if_pos (by decide)]
      by_cases h0 : nI nS = 0
      · rw [if_pos h0, if_pos h0]
        exact done μ G
      · have hs : s < nS := by
          rcases hs with q | q
          · exact absurd (by rw [q]; rfl) h0
          · exact q
        rw [if_neg h0, q_story4 a3 a7 hs, pr_b, if_neg h0, l_story3 G hs, pr_b]
        by_cases h62 : μ 0 7 s 6 = 2
        · obtain ⟨-, v1, v2, -⟩ := S s hs
          obtain ⟨u, hu, eu⟩ := pr_nn v1
          rw [eu, nI_toInt hu] at v2
          rw [if_pos h62, eu]
          by_cases h6 : nI u = 6
          · rw [if_pos h6, g_correct3 G hs h62 (by rw [eu, h6]), pr_b2, if_pos rfl]
            exact done μ G
          · have hu6 : u < 6 := by
              rcases Nat.lt_or_ge u 6 with q | q
              · exact q
              · exact absurd (by rw [show u = 6 by omega]; rfl) h6
            obtain ⟨μ', r1, r2, r3, r4⟩ := g_correct G hs h62 eu hu6
            rw [if_neg h6, r1, pr_b2, if_pos (nI_1 u).symm, q_correction r2.2.1.2.1 a7 hs r3 (by omega) (by omega), pr_b, q_count0, pr_b, r4, if_pos rfl]
            exact done μ' r2
        · rw [if_neg h62, g_correct4 G hs h62, pr_b2, if_pos rfl]
          exact done μ G
    · rw [if_neg (by decide), if_neg (by decide), if_neg (by decide), if_pos (by decide), q_client5 a4 a6 hcn]
      by_cases h5 : μ 0 11 c 5 = 0
      · have go : ∃ r μ', f_X8_setUp (nI c) 1 μ = some (r, μ') ∧ ¬ r < 0 ∧ j_G μ' M pd h nC nS nK ∧ μ' 0 11 c 5 = 1 := g_setUp G hcn (Or.inr rfl) (by rw [h5]; decide)
        obtain ⟨r, μ', r1, r2, r3, r4⟩ := go
        have e5 : f_X8_client (nI c) 5 μ' = some 1 := by rw [q_client5 r3.2.1.2.2.1 a6 hcn, r4, if_neg (by decide)]
        rw [if_pos h5, pr_b, if_neg (by decide), r1, pr_b2, if_neg r2, e5, pr_b, if_pos rfl]
        by_cases hq : q4 = 1
        · rw [if_pos hq]
          exact done μ' r3
        · rw [if_neg hq]
          exact done μ' r3
      · rw [if_neg h5, pr_b, if_pos rfl]
        by_cases hq : q4 = 1
        · rw [if_pos hq]
          exact done μ G
        · rw [if_neg hq]
          have go : ∃ r μ', f_X8_setUp (nI c) 0 μ = some (r, μ') ∧ ¬ r < 0 ∧ j_G μ' M pd h nC nS nK ∧ μ' 0 11 c 5 = 0 := g_setUp G hcn (Or.inl rfl) h5
          obtain ⟨r, μ', r1, r2, r3, r4⟩ := go
          have e5 : f_X8_client (nI c) 5 μ' = some 0 := by rw [q_client5 r3.2.1.2.2.1 a6 hcn, r4, if_pos rfl]
          rw [r1, pr_b2, if_neg r2, e5, pr_b, if_pos rfl]
          exact done μ' r3
    · rw [if_neg (by decide), if_neg (by decide), if_neg (by decide), if_neg (by decide), if_pos (by decide)]
      by_cases h0 : nI nS = 0
      · rw [if_pos h0]
        exact done μ G
      · have hs : s < nS := by
          rcases hs with q | q
          · exact absurd (by rw [q]; rfl) h0
          · exact q
        rw [if_neg h0]
        by_cases hq : 0 < q5
        · rw [if_pos hq]
          exact done μ G
        · rw [if_neg hq, l_story3 G hs, pr_b]
          by_cases h63 : μ 0 7 s 6 = 3
          · rw [if_pos h63, g_kill0 G hs h63, pr_b2, if_pos rfl]
            exact done μ G
          · obtain ⟨r, μ', r1, r2, r3, r4⟩ := g_kill G hs h63
            rw [if_neg h63, r1, pr_b2, q_story9 r3.2.1.2.1 a7 hs, r2, pr_b, if_pos rfl, q_story6 r3.2.1.2.1 a7 hs, pr_b, q_count0, pr_b, r4, if_pos rfl]
            exact done μ' r3
    · rw [if_neg (show ¬ nI w = 0 from fun q => by have := (nI_eq (a := w) (b := 0) (by omega) (by omega)).mp q; omega), if_neg (show ¬ nI w = 1 from fun q => by have := (nI_eq (a := w) (b := 1) (by omega) (by omega)).mp q; omega), if_neg (show ¬ nI w = 2 from fun q => by have := (nI_eq (a := w) (b := 2) (by omega) (by omega)).mp q; omega), if_neg (show ¬ nI w = 3 from fun q => by have := (nI_eq (a := w) (b := 3) (by omega) (by omega)).mp q; omega), if_neg (show ¬ nI w = 4 from fun q => by have := (nI_eq (a := w) (b := 4) (by omega) (by omega)).mp q; omega)]
      obtain ⟨μ', m, nK', r1, r2, r3⟩ := l_passes G hC b3 hh hM
      rw [r1, pr_b2, pr_g (Or.inr rfl)]
      exact ⟨μ', m, nS, nK', rfl, r2, r3⟩
  unfold f_L_acts
  rw [s3, pr_t, q_count2, pr_b, a3]
  by_cases h0 : nS = 0
  · rw [if_pos (show nI nS = 0 by rw [h0]; rfl)]
    exact main 0 (Or.inl h0)
  · have k0 : ¬ nI nS = 0 := nI_ne0 (by omega) (by omega)
    rw [if_neg k0, pr_g k0, pk_rem b3 (by omega) (by omega), pr_t]
    exact main (z % nS) (Or.inr (Nat.mod_lt _ (by omega)))
