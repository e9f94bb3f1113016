/-! The law's look at one copy. -/
/-- where a copy stands -/
def l_F (μ : ed_CM) (h nC nS nK p s c : Nat) : Prop := (μ 0 0 0 0 = nI h ∧ μ 0 0 0 3 = nI nS ∧ μ 0 0 0 4 = nI nC ∧ μ 0 0 0 5 = nI nK) ∧ (nC ≤ 8 ∧ nS ≤ 20 ∧ nK ≤ 160 ∧ h ≤ 9999) ∧ (p < nK ∧ s < nS ∧ c < nC) ∧ μ 0 12 p 0 = nI s ∧ μ 0 12 p 1 = nI c ∧ f_X5_copyFor (nI s) (nI c) (μ 0) = some (some p) ∧ j_Kx (μ 0) p s c ∧ j_S1 (μ 0) s h ∧ ∃ z, z ≤ 4 ∧ μ 0 12 p 2 = nI z
theorem l_at {μ : ed_CM} {M pd : Int} {h nC nS nK p : Nat} {v : Nat → Int32} (H : j_J (μ 0) M pd h nC nS nK) (hX : r_R (μ 0) v h nC nS nK 160) (hp : p < nK) : ∃ s c, l_F μ h nC nS nK p s c := by
  obtain ⟨⟨a0, a3, a4, a5, a6, a7, a8, a9⟩, C, P, S, K, m1, m2, m3⟩ := H
  obtain ⟨s, c, hs, hc, k0, k1, k2⟩ := K p hp
  have e0 : v (687 + 6 * p) = nI s := (hX.2.2.2.2.1.1 p 0 hp (by omega)).symm.trans k0
  have e1 : v (687 + 6 * p + 1) = nI c := (hX.2.2.2.2.1.1 p 1 hp (by omega)).symm.trans k1
  refine ⟨s, c, ⟨a0, a3, a4, a5⟩, ⟨a6, a7, a8, a9⟩, ⟨hp, hs, hc⟩, k0, k1, j_find hX hp e0 e1, k2, S s hs, ?_⟩
  rcases k2.2.2 with ⟨z | z, -⟩ | ⟨z | z | z, -⟩
  · exact ⟨0, by omega, z⟩
  · exact ⟨4, by omega, z⟩
  · exact ⟨1, by omega, z⟩
  · exact ⟨2, by omega, z⟩
  · exact ⟨3, by omega, z⟩
theorem l_missing {μ : ed_CM} {h nC nS nK p s c : Nat} (F : l_F μ h nC nS nK p s c) : f_X5_correctionsMissing p (μ 0) = some (if μ 0 12 p 2 = 1 then μ 0 7 s 7 - μ 0 12 p 5 else 0) := by
  obtain ⟨⟨a0, a3, a4, a5⟩, ⟨a6, a7, a8, a9⟩, ⟨hp, hs, hc⟩, k0, k1, kf, kx, ks, kz⟩ := F
  unfold f_X5_correctionsMissing
  rw [k0, pr_storyAt a3 a7 hs, pr_b]
  show ed_g (s < 20) _ = _
  rw [pr_g (by omega)]
  split <;> rfl
theorem l_kill {μ : ed_CM} {h nC nS nK p s c : Nat} (F : l_F μ h nC nS nK p s c) : f_X5_killNoticeAt p (μ 0) = some (if μ 0 7 s 6 = 3 then (if μ 0 12 p 2 = 1 then μ 0 7 s 10 + μ 0 11 c 2 / 2 else -5) else -5) := by
  obtain ⟨⟨a0, a3, a4, a5⟩, ⟨a6, a7, a8, a9⟩, ⟨hp, hs, hc⟩, k0, k1, kf, kx, ks, kz⟩ := F
  unfold f_X5_killNoticeAt
  rw [k0, pr_storyAt a3 a7 hs, pr_b]
  show ed_g (s < 20) _ = _
  rw [pr_g (by omega), k1, pr_clientAt a4 a6 hc, pr_b]
  show ed_g (c < 8) _ = _
  rw [pr_g (by omega)]
  split
  · split <;> rfl
  · rfl
theorem l_due0 {μ : ed_CM} {h nC nS nK p s c : Nat} (F : l_F μ h nC nS nK p s c) (h2 : ¬ μ 0 12 p 2 = 1) : f_X5_correctionsDue p (μ 0) = some 0 := by
  obtain ⟨⟨a0, a3, a4, a5⟩, ⟨a6, a7, a8, a9⟩, ⟨hp, hs, hc⟩, k0, k1, kf, kx, ks, kz⟩ := F
  unfold f_X5_correctionsDue
  rw [k0, pr_storyAt a3 a7 hs, pr_b]
  show ed_g (s < 20) _ = _
  rw [pr_g (by omega), k1, pr_clientAt a4 a6 hc, pr_b]
  show ed_g (c < 8) _ = _
  rw [pr_g (by omega), if_neg h2]
theorem l_next0 {μ : ed_CM} {h nC nS nK p s c : Nat} (F : l_F μ h nC nS nK p s c) (h2 : ¬ μ 0 12 p 2 = 1) : f_X5_nextCorrectionAt p (μ 0) = some (-5) := by
  have hm := l_missing F
  obtain ⟨⟨a0, a3, a4, a5⟩, ⟨a6, a7, a8, a9⟩, ⟨hp, hs, hc⟩, k0, k1, kf, kx, ks, kz⟩ := F
  unfold f_X5_nextCorrectionAt
  rw [k0, pr_storyAt a3 a7 hs, pr_b]
  show ed_g (s < 20) _ = _
  rw [pr_g (by omega), k1, pr_clientAt a4 a6 hc, pr_b]
  show ed_g (c < 8) _ = _
  rw [pr_g (by omega), hm, pr_b, if_neg h2, if_pos rfl]
/-- the version of a copy in use, and the story's -/
theorem l_ver {μ : ed_CM} {h nC nS nK p s c : Nat} (F : l_F μ h nC nS nK p s c) (h2 : μ 0 12 p 2 = 1) : ∃ u w, μ 0 12 p 5 = nI u ∧ μ 0 7 s 7 = nI w ∧ w ≤ 6 ∧ u ≤ w := by
  obtain ⟨⟨a0, a3, a4, a5⟩, ⟨a6, a7, a8, a9⟩, ⟨hp, hs, hc⟩, k0, k1, kf, ⟨-, -, kx⟩, ⟨-, s1, s2, -⟩, kz⟩ := F
  rcases kx with ⟨z, -⟩ | ⟨-, -, z1, z2⟩
  · rw [h2] at z
    exact absurd z (by decide)
  · obtain ⟨w, hw, ew⟩ := pr_nn s1
    obtain ⟨u, hu, eu⟩ := pr_nn z1
    rw [ew, nI_toInt hw] at s2
    rw [eu, nI_toInt hu, ew, nI_toInt hw] at z2
    exact ⟨u, w, eu, ew, by omega, by omega⟩
theorem l_next1 {μ : ed_CM} {h nC nS nK p s c u w : Nat} (F : l_F μ h nC nS nK p s c) (h2 : μ 0 12 p 2 = 1) (eu : μ 0 12 p 5 = nI u) (ew : μ 0 7 s 7 = nI w) (hw : w ≤ 6) (hu : u < w) : f_X5_nextCorrectionAt p (μ 0) = some (μ 0 10 s u + μ 0 11 c 2) := by
  have hm := l_missing F
  obtain ⟨⟨a0, a3, a4, a5⟩, ⟨a6, a7, a8, a9⟩, ⟨hp, hs, hc⟩, k0, k1, kf, kx, ks, kz⟩ := F
  unfold f_X5_nextCorrectionAt
  rw [k0, pr_storyAt a3 a7 hs, pr_b]
  show ed_g (s < 20) _ = _
  rw [pr_g (by omega), k1, pr_clientAt a4 a6 hc, pr_b]
  show ed_g (c < 8) _ = _
  rw [pr_g (by omega), hm, pr_b, if_pos h2, eu, ew, pk_sub (by omega), if_neg (nI_ne0 (by omega) (by omega)), pr_correctedAt ew hw hu, pr_b]
theorem l_447 {μ : ed_CM} {h nC nS nK p s c : Nat} (F : l_F μ h nC nS nK p s c) (k23 : Int32 → Int32 → Int32 → em_MM → Option Int32) (x4 x6 x12 : Int32) (α : em_MM) (h12 : x12 = if μ 0 12 p 2 = 1 then 1 else 0) : f_L_copies_447 k23 μ x4 1 x6 (nI s) (nI c) x12 α = k23 x4 1 (x6 + 1) α := by
  have hk := l_kill F
  obtain ⟨⟨a0, a3, a4, a5⟩, ⟨a6, a7, a8, a9⟩, ⟨hp, hs, hc⟩, k0, k1, kf, kx, ks, kz⟩ := F
  unfold f_L_copies_447 f_L_copies_506
  rw [if_neg (by decide)]
  by_cases h2 : μ 0 12 p 2 = 1
  · rw [if_pos h2] at h12 hk
    rw [h12, if_neg (by decide), q_story3 a3 a7 hs, pr_b]
    by_cases h3 : μ 0 7 s 6 = 3
    · rw [if_pos h3] at hk
      rw [if_pos h3, q_copy7 (by omega) kf, hk, pr_b, q_story6 a3 a7 hs, pr_b, q_client2 a4 a6 hc, pr_b, if_pos rfl]
    · rw [if_neg h3]
  · rw [if_neg h2] at h12
    rw [h12, if_pos rfl]
theorem l_389 {μ : ed_CM} {h nC nS nK p s c : Nat} (F : l_F μ h nC nS nK p s c) (k23 : Int32 → Int32 → Int32 → em_MM → Option Int32) (x4 x6 x12 : Int32) (α : em_MM) (h12 : x12 = if μ 0 12 p 2 = 1 then 1 else 0) : f_L_copies_389 k23 μ x4 1 x6 (nI s) (nI c) (μ 0 12 p 5) x12 α = k23 x4 1 (x6 + 1) α := by
  have z := l_447 F k23 x4 x6 x12 α h12
  have F0 := F
  obtain ⟨⟨a0, a3, a4, a5⟩, ⟨a6, a7, a8, a9⟩, ⟨hp, hs, hc⟩, k0, k1, kf, kx, ks, kz⟩ := F
  unfold f_L_copies_389
  rw [if_neg (by decide)]
  by_cases h2 : μ 0 12 p 2 = 1
  · rw [if_pos h2] at h12
    subst h12
    obtain ⟨u, w, eu, ew, hw, huw⟩ := l_ver F0 h2
    rw [if_neg (by decide), q_story4 a3 a7 hs, pr_b]
    by_cases h5 : μ 0 12 p 5 = μ 0 7 s 7
    · rw [if_pos h5]; exact z
    · have hlt : u < w := by
        rcases Nat.lt_or_ge u w with q | q
        · exact q
        · exact absurd (by rw [eu, ew, show u = w by omega]) h5
      rw [if_neg h5, q_copy6 (by omega) kf, l_next1 F0 h2 eu ew hw hlt, pr_b, eu, q_correction a3 a7 hs ew hw hlt, pr_b, q_client2 a4 a6 hc, pr_b, if_pos rfl]
      exact z
  · rw [if_neg h2] at h12
    subst h12
    rw [if_pos rfl]
    exact z
theorem l_253 {μ : ed_CM} {h nC nS nK p s c : Nat} (F : l_F μ h nC nS nK p s c) (k23 : Int32 → Int32 → Int32 → em_MM → Option Int32) (x4 x6 x12 : Int32) (α : em_MM) (h12 : x12 = if μ 0 12 p 2 = 1 then 1 else 0) : f_L_copies_253 k23 μ x4 1 x6 (nI s) (nI c) (μ 0 12 p 4) (μ 0 12 p 5) x12 α = k23 x4 1 (x6 + 1) α := by
  have z := l_389 F k23 x4 x6 x12 α h12
  have hk := l_kill F
  have hm := l_missing F
  have F0 := F
  obtain ⟨⟨a0, a3, a4, a5⟩, ⟨a6, a7, a8, a9⟩, ⟨hp, hs, hc⟩, k0, k1, kf, kx, ks, kz⟩ := F
  unfold f_L_copies_253
  rw [if_neg (by decide)]
  by_cases h2 : μ 0 12 p 2 = 1
  · rw [if_pos h2] at h12 hm
    subst h12
    have e8 : f_X5_useEndsAt p (μ 0) = μ 0 12 p 4 + 24 * μ 0 0 0 1 := by
      unfold f_X5_useEndsAt
      rw [if_pos h2, Int32.mul_comm]
    rw [if_neg (by decide), q_copy4 (by omega) kf, hm, pr_b, q_story4 a3 a7 hs, pr_b, if_pos rfl, q_copy8 (by omega) kf, pr_b, q_count12, pr_b, e8, if_pos rfl]
    exact z
  · rw [if_neg h2] at h12 hm hk
    subst h12
    have hk : f_X5_killNoticeAt p (μ 0) = some (-5) := by
      rw [hk]
      split <;> rfl
    have e8 : f_X5_useEndsAt p (μ 0) = -5 := by
      unfold f_X5_useEndsAt
      rw [if_neg h2]
    rw [if_pos rfl, q_copy4 (by omega) kf, hm, pr_b, if_pos rfl, q_copy5 (by omega) kf, l_due0 F0 h2, pr_b, if_pos rfl, q_copy6 (by omega) kf, l_next0 F0 h2, pr_b, if_pos rfl, q_copy7 (by omega) kf, hk, pr_b, if_pos rfl, q_copy8 (by omega) kf, pr_b, e8, if_pos rfl]
    exact z
theorem l_160 {μ : ed_CM} {h nC nS nK p s c : Nat} (F : l_F μ h nC nS nK p s c) (k23 : Int32 → Int32 → Int32 → em_MM → Option Int32) (x4 x6 x12 : Int32) (α : em_MM) (h12 : x12 = if μ 0 12 p 2 = 1 then 1 else 0) : f_L_copies_160 k23 μ x4 x6 (nI s) (nI c) (μ 0 12 p 2) (μ 0 12 p 4) (μ 0 12 p 5) x12 α = k23 x4 1 (x6 + 1) α := by
  have z := l_253 F k23 x4 x6 x12 α h12
  obtain ⟨⟨a0, a3, a4, a5⟩, ⟨a6, a7, a8, a9⟩, ⟨hp, hs, hc⟩, k0, k1, kf, ⟨b1, b2, b3⟩, ks, kz⟩ := F
  unfold f_L_copies_160
  rw [q_copy1 (by omega) kf, pr_b, q_story5 a3 a7 hs, pr_b, q_client1 a4 a6 hc, pr_b, b2, if_pos rfl]
  rcases b3 with ⟨y1, y2, y3⟩ | ⟨y1, y2, y3, y4⟩
  · rw [y2, y3] at z ⊢
    by_cases h0 : μ 0 12 p 2 = 0
    · rw [if_pos h0, if_pos rfl, if_pos rfl]
      exact z
    · have h4 : μ 0 12 p 2 = 4 := y1.resolve_left h0
      rw [if_neg h0, if_pos h4, if_pos rfl, if_pos rfl]
      exact z
  · have h0 : ¬ μ 0 12 p 2 = 0 := fun q => by rw [q] at y1; exact absurd y1 (by decide)
    have h4 : ¬ μ 0 12 p 2 = 4 := fun q => by rw [q] at y1; exact absurd y1 (by decide)
    have t0 : (0 : Int32).toInt = 0 := by decide
    rw [if_neg h0, if_neg h4, pr_b, if_neg (show ¬ μ 0 12 p 4 < μ 0 7 s 9 + μ 0 11 c 1 by rw [← b2, pr_iLt]; omega), if_neg (show ¬ μ 0 12 p 5 < 0 by rw [pr_iLt]; omega), q_story4 a3 a7 hs, pr_b, if_neg (show ¬ μ 0 7 s 7 < μ 0 12 p 5 by rw [pr_iLt]; omega)]
    exact z
theorem l_138 {μ : ed_CM} {ν : em_MM} {h nC nS nK p s c : Nat} (F : l_F μ h nC nS nK p s c) (hX : r_R (μ 0) (ν 1) h nC nS nK 160) (k23 : Int32 → Int32 → Int32 → em_MM → Option Int32) (x4 x6 x12 : Int32) (α : em_MM) (h12 : x12 = if μ 0 12 p 2 = 1 then 1 else 0) : f_L_copies_138 k23 μ x4 x6 (nI s) (nI c) (μ 0 12 p 2) (μ 0 12 p 4) (μ 0 12 p 5) x12 α = k23 (x4 + nI (r_fD ν p)) 1 (x6 + 1) α := by
  have z := fun y => l_160 F k23 y x6 x12 α h12
  obtain ⟨⟨a0, a3, a4, a5⟩, ⟨a6, a7, a8, a9⟩, ⟨hp, hs, hc⟩, k0, k1, kf, kx, ks, kz⟩ := F
  obtain ⟨y, hy, e1, e2⟩ := r_dueB hX hp
  unfold f_L_copies_138
  rw [q_copy5 (by omega) kf, e1, pr_b]
  rcases r_fD_due hy e2 with ⟨y0, d0, hle⟩ | ⟨d1, hle⟩
  · rw [if_pos hle, d0]
    exact z _
  · rw [if_neg hle, d1]
    exact z _
