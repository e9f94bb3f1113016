/-! The law's look at the copies: the counts. -/
theorem l_sum5 {μ : ed_CM} {M pd : Int} {h nC nS nK : Nat} {v : Nat → Int32} (H : j_J (μ 0) M pd h nC nS nK) (hX : r_R (μ 0) v h nC nS nK 160) : ∀ k, k ≤ nK → r_seg (l_a0 (μ 0) 0) k 0 + r_seg (l_a0 (μ 0) 1) k 0 + r_seg (l_a0 (μ 0) 2) k 0 + r_seg (l_a0 (μ 0) 3) k 0 + r_seg (l_a0 (μ 0) 4) k 0 = k := by
  intro k
  induction k with
  | zero => intro _; rfl
  | succ k ih =>
    intro hk
    have h1 := ih (by omega)
    obtain ⟨s, c, F⟩ := l_at H hX (show k < nK by omega)
    obtain ⟨-, -, -, -, -, -, -, -, z, hz, ez⟩ := F
    rw [r_seg_snoc, r_seg_snoc, r_seg_snoc, r_seg_snoc, r_seg_snoc, Nat.zero_add]
    have h2 : l_a0 (μ 0) 0 k + l_a0 (μ 0) 1 k + l_a0 (μ 0) 2 k + l_a0 (μ 0) 3 k + l_a0 (μ 0) 4 k = 1 := by
      unfold l_a0
      rw [ez]
      rcases (show z = 0 ∨ z = 1 ∨ z = 2 ∨ z = 3 ∨ z = 4 by omega) with rfl | rfl | rfl | rfl | rfl <;> decide
    omega
theorem l_fitS {σ : ed_SM} {nK z : Nat} (hz : z ≤ 4) : r_seg (r_fitK σ (-1) (-1) (nI z)) nK 0 = r_seg (l_a0 σ z) nK 0 := by
  refine r_seg_cg nK 0 (fun q _ _ => ?_)
  unfold r_fitK l_a0
  rw [r_fits, r_fits, r_fits, if_pos rfl, if_neg (by decide), if_pos rfl, if_neg (by decide), if_neg (pr_neg1 z (by omega))]
  by_cases he : σ 12 q 2 = nI z
  · rw [if_pos he, if_pos he.symm, if_neg (by decide)]
  · rw [if_neg he, if_neg (show ¬ nI z = σ 12 q 2 from fun w => he w.symm), if_pos rfl]
theorem l_fitA {σ : ed_SM} {nK s : Nat} (hs : s < 20) : r_seg (r_fitK σ (nI s) (-1) (-1)) nK 0 = r_seg (l_a1 σ s) nK 0 := by
  refine r_seg_cg nK 0 (fun q _ _ => ?_)
  unfold r_fitK l_a1
  rw [r_fits, r_fits, r_fits, if_neg (pr_neg1 s (by omega)), if_pos rfl, if_pos rfl]
  by_cases he : σ 12 q 0 = nI s
  · rw [if_pos he, if_pos he.symm, if_neg (by decide)]
    rfl
  · rw [if_neg he, if_neg (show ¬ nI s = σ 12 q 0 from fun w => he w.symm), if_pos rfl]
theorem l_fitC {σ : ed_SM} {nK c : Nat} (hc : c < 8) : r_seg (r_fitK σ (-1) (nI c) 1) nK 0 = r_seg (l_a2 σ c) nK 0 := by
  refine r_seg_cg nK 0 (fun q _ _ => ?_)
  unfold r_fitK l_a2
  rw [r_fits, r_fits, r_fits, if_pos rfl, if_neg (by decide), if_neg (pr_neg1 c (by omega)), if_neg (show ¬ (1 : Int32) = -1 by decide)]
  by_cases he : σ 12 q 1 = nI c
  · rw [if_pos he, if_pos he.symm, if_neg (by decide)]
    by_cases h2 : σ 12 q 2 = 1
    · rw [if_pos h2, if_pos h2.symm, if_neg (by decide)]
    · rw [if_neg h2, if_neg (show ¬ 1 = σ 12 q 2 from fun w => h2 w.symm), if_pos rfl]
  · rw [if_neg he, if_neg (show ¬ nI c = σ 12 q 1 from fun w => he w.symm), if_pos rfl]
theorem l_637 {μ : ed_CM} {ν : em_MM} {M pd : Int} {h nC nS nK : Nat} (H : j_J (μ 0) M pd h nC nS nK) (hX : r_R (μ 0) (ν 1) h nC nS nK 160) {α : em_MM} (hA : l_A (μ 0) nK α) : ∀ (d i n : Nat), i + d = nC → d < n → f_L_copies_637 μ n (nI (r_seg (r_fD ν) nK 0)) 1 (nI i) α = some 1 := by
  obtain ⟨⟨a0, a3, a4, a5, a6, a7, a8, a9⟩, C, P, S, K, m1, m2, m3⟩ := id H
  intro d
  induction d with
  | zero =>
    intro i n hi hn
    obtain ⟨n, rfl⟩ : ∃ q, n = q + 1 := ⟨n - 1, by omega⟩
    have e9 : f_X5_copiesWithCorrectionsDue (μ 0) = some (nI (r_seg (r_fD ν) nK 0)) := by
      have := r_withDue_L hX nK 0 ed_N 0 (by omega) (by unfold ed_N; omega)
      rw [Nat.zero_add] at this
      exact this
    have e5 : nI nK = α 0 0 + α 0 1 + α 0 2 + α 0 3 + α 0 4 := by
      rw [hA.1 0 (by omega), hA.1 1 (by omega), hA.1 2 (by omega), hA.1 3 (by omega), hA.1 4 (by omega), nI_add, nI_add, nI_add, nI_add, l_sum5 H hX nK (Nat.le_refl _)]
    rw [f_L_copies_637, q_count1, pr_b, a4, if_pos (show nI nC ≤ nI i by rw [pr_le (by omega) (by omega)]; omega), if_neg (by decide), q_count9, e9, pr_b, if_pos rfl, q_count3, pr_b, pr_g (show ed_in 0 5 by decide), pr_g (show ed_in 1 5 by decide), pr_g (show ed_in 2 5 by decide), pr_g (show ed_in 3 5 by decide), pr_g (show ed_in 4 5 by decide), a5]
    exact if_pos e5
  | succ d ih =>
    intro i n hi hn
    obtain ⟨n, rfl⟩ : ∃ q, n = q + 1 := ⟨n - 1, by omega⟩
    obtain ⟨c1, c2, c3, c4, c5, c6, c7, c8, c9, c10, c11, c12, c13, c14⟩ := C i (by omega)
    have hi' : i < nC := by omega
    rw [f_L_copies_637, q_count1, pr_b, a4, if_neg (show ¬ nI nC ≤ nI i by rw [pr_le (by omega) (by omega)]; omega), if_neg (by decide), q_client9 a4 a6 hi', r_copiesOf a5 a8, pr_b, pr_gin (by omega) (by omega), nI_clamp (by omega), hA.2.2 i (by omega), l_fitC (by omega), if_pos rfl, q_client7 a4 a6 hi', pr_b, q_client3 a4 a6 hi', pr_b, if_neg (show ¬ μ 0 11 i 3 < μ 0 11 i 7 by rw [pr_iLt]; omega), pr_b, q_client8 a4 a6 hi', pr_b, if_neg (show ¬ μ 0 11 i 8 < μ 0 11 i 7 by rw [pr_iLt]; omega), nI_1]
    exact ih (i + 1) n (by omega) (by omega)
theorem l_01 {a b : Prop} {i : Decidable a} {j : Decidable b} : (@ite _ a i 0 (@ite _ b j 0 1)) ≤ (1 : Nat) := by
  split
  · omega
  · split <;> omega
theorem l_557 {μ : ed_CM} {ν : em_MM} {M pd : Int} {h nC nS nK : Nat} (H : j_J (μ 0) M pd h nC nS nK) (hX : r_R (μ 0) (ν 1) h nC nS nK 160) {α : em_MM} (hA : l_A (μ 0) nK α) : ∀ (d i n : Nat), i + d = nS → d < n → f_L_copies_557 μ n (nI (r_seg (r_fD ν) nK 0)) 1 (nI i) α = some 1 := by
  obtain ⟨⟨a0, a3, a4, a5, a6, a7, a8, a9⟩, C, P, S, K, m1, m2, m3⟩ := id H
  intro d
  induction d with
  | zero =>
    intro i n hi hn
    obtain ⟨n, rfl⟩ : ∃ q, n = q + 1 := ⟨n - 1, by omega⟩
    rw [f_L_copies_557, q_count2, pr_b, a3, if_pos (show nI nS ≤ nI i by rw [pr_le (by omega) (by omega)]; omega)]
    exact l_637 H hX hA nC 0 ed_N (by omega) (by unfold ed_N; omega)
  | succ d ih =>
    intro i n hi hn
    obtain ⟨n, rfl⟩ : ∃ q, n = q + 1 := ⟨n - 1, by omega⟩
    have hi' : i < nS := by omega
    have hle1 : r_seg (r_fitK (μ 0) (nI i) (-1) 1) nK 0 ≤ r_seg (l_a1 (μ 0) i) nK 0 := by
      refine r_seg_mono nK 0 (fun q _ _ => ?_)
      unfold r_fitK l_a1
      rw [r_fits (nI i), if_neg (pr_neg1 i (by omega))]
      by_cases he : μ 0 12 q 0 = nI i
      · rw [if_pos he, if_pos he.symm, if_neg (by decide)]
        exact l_01
      · rw [if_neg he, if_neg (show ¬ nI i = μ 0 12 q 0 from fun w => he w.symm), if_pos rfl]
        exact Nat.le_refl 0
    have hb : r_seg (l_a1 (μ 0) i) nK 0 ≤ nK := r_seg_le (fun q => by unfold l_a1; split <;> omega) nK 0
    have e10 := r_upTo_L hX hi' nK 0 ed_N 0 (by omega) (by unfold ed_N; omega)
    rw [Nat.zero_add] at e10
    have hle2 : r_seg (fun q => if ν 1 (687 + 6 * q) = nI i then (if ν 1 (687 + 6 * q + 2) = 1 then (if (1 : Int32) = 0 then 1 else if ν 1 (687 + 6 * q + 5) = ν 1 (107 + 29 * i + 7) then 1 else 0) else 0) else 0) nK 0 ≤ r_seg (r_fitK (μ 0) (nI i) (-1) 1) nK 0 := by
      rw [r_useOf hX (by omega)]
      refine r_seg_mono nK 0 (fun q _ _ => ?_)
      by_cases h1 : ν 1 (687 + 6 * q) = nI i
      · rw [if_pos h1, if_pos h1]
        by_cases h2 : ν 1 (687 + 6 * q + 2) = 1
        · rw [if_pos h2, if_pos h2, if_pos rfl, if_neg (by decide)]
          split <;> omega
        · rw [if_neg h2, if_neg h2]
          exact Nat.le_refl 0
      · rw [if_neg h1, if_neg h1]
        exact Nat.le_refl 0
    have e10 : f_X5_upToDateCopies (nI i) (μ 0) = _ := e10
    rw [f_L_copies_557, q_count2, pr_b, a3, if_neg (show ¬ nI nS ≤ nI i by rw [pr_le (by omega) (by omega)]; omega), if_neg (by decide), q_story8 a3 a7 hi', r_copiesOf a5 a8, pr_b, pr_gin (by omega) (by omega), if_pos (show nI (r_seg (r_fitK (μ 0) (nI i) (-1) (-1)) nK 0) = α 1 (nI i).toNatClampNeg by rw [nI_clamp (by omega), hA.2.1 i (by omega), l_fitA (by omega)]), q_story9 a3 a7 hi', r_copiesOf a5 a8, pr_b, pr_gin (by omega) (by omega), if_neg (show ¬ α 1 (nI i).toNatClampNeg < nI (r_seg (r_fitK (μ 0) (nI i) (-1) 1) nK 0) by rw [nI_clamp (by omega), hA.2.1 i (by omega), pr_lt (by omega) (by omega)]; omega), q_story10 a3 a7 hi', e10, pr_b, pr_b, if_neg (by rw [pr_lt (by omega) (by omega)]; omega), nI_1]
    exact ih (i + 1) n (by omega) (by omega)
theorem l_515 {μ : ed_CM} {ν : em_MM} {M pd : Int} {h nC nS nK : Nat} (H : j_J (μ 0) M pd h nC nS nK) (hX : r_R (μ 0) (ν 1) h nC nS nK 160) {α : em_MM} (hA : l_A (μ 0) nK α) : ∀ (d i n : Nat), i + d = 5 → d < n → f_L_copies_515 μ n (nI (r_seg (r_fD ν) nK 0)) 1 (nI i) α = some 1 := by
  obtain ⟨⟨a0, a3, a4, a5, a6, a7, a8, a9⟩, C, P, S, K, m1, m2, m3⟩ := id H
  intro d
  induction d with
  | zero =>
    intro i n hi hn
    obtain ⟨n, rfl⟩ : ∃ q, n = q + 1 := ⟨n - 1, by omega⟩
    rw [f_L_copies_515, if_pos (show (5 : Int32) ≤ nI i by show nI 5 ≤ nI i; rw [pr_le (by omega) (by omega)]; omega)]
    exact l_557 H hX hA nS 0 ed_N (by omega) (by unfold ed_N; omega)
  | succ d ih =>
    intro i n hi hn
    obtain ⟨n, rfl⟩ : ∃ q, n = q + 1 := ⟨n - 1, by omega⟩
    have e4 : f_X8_count (4 + nI i) μ = some (nI (r_seg (l_a0 (μ 0) i) nK 0)) := by
      rw [← l_fitS (by omega), ← r_copiesOf a5 a8]
      rcases (show i = 0 ∨ i = 1 ∨ i = 2 ∨ i = 3 ∨ i = 4 by omega) with rfl | rfl | rfl | rfl | rfl
      · exact q_countS0 μ
      · exact q_countS1 μ
      · exact q_countS2 μ
      · exact q_countS3 μ
      · exact q_countS4 μ
    rw [f_L_copies_515, if_neg (show ¬ (5 : Int32) ≤ nI i by show ¬ nI 5 ≤ nI i; rw [pr_le (by omega) (by omega)]; omega), if_neg (by decide), e4, pr_b, pr_gin (by omega) (by omega), nI_clamp (by omega), hA.1 i (by omega), if_pos rfl, nI_1]
    exact ih (i + 1) n (by omega) (by omega)
theorem l_copies {μ : ed_CM} {M pd : Int} {h nC nS nK : Nat} (G : j_G μ M pd h nC nS nK) : f_L_copies μ = some 1 := by
  obtain ⟨ν, hR, hX⟩ := G.R
  have a8 := G.2.1.2.2.2.2.2.2.1
  obtain ⟨α', hA, e⟩ := l_23 G.2 hX nK 0 ed_N (fun _ _ => 0) (by omega) (by unfold ed_N; omega) ⟨fun _ _ => rfl, fun _ _ => rfl, fun _ _ => rfl⟩
  have e : f_L_copies μ = f_L_copies_515 μ ed_N (nI (r_seg (r_fD ν) nK 0)) 1 0 α' := e
  rw [e]
  exact l_515 G.2 hX hA 5 0 ed_N (by omega) (by unfold ed_N; omega)
