/-! The questions. -/
theorem r_okI.mk (x : Int32) : r_okI (some x) (some x) := ⟨x, rfl, rfl⟩
theorem r_okI.ite {c : Prop} {i : Decidable c} {a a' b b' : Option Int32} (h1 : c → r_okI a a') (h2 : ¬ c → r_okI b b') : r_okI (@ite _ c i a b) (@ite _ c i a' b') := by
  by_cases h : c
  · rw [if_pos h, if_pos h]; exact h1 h
  · rw [if_neg h, if_neg h]; exact h2 h
theorem pr_sub0 {a b : Int32} : (a - b = 0) = (b = a) := by
  apply propext
  constructor
  · intro h
    have h2 := Int32.sub_add_cancel a b
    rw [h, Int32.zero_add] at h2
    exact h2
  · intro h
    rw [h, Int32.sub_self]
theorem r_missing {σ : ed_SM} {v : Nat → Int32} {h nC nS nK e p : Nat} (hR : r_R σ v h nC nS nK e) (hp : p < nK) {s : Nat} (hs : s < nS) (k0 : v (687 + 6 * p) = nI s) : f_X5_correctionsMissing p σ = some (if v (687 + 6 * p + 2) = 1 then v (107 + 29 * s + 7) - v (687 + 6 * p + 5) else 0) := by
  obtain ⟨⟨q1, q2, q3, q4, q5, q6, q7, q8, q9, q10, b1, b2, b3, b4⟩, qC, qP, qS, qK, qL, qN⟩ := hR
  obtain ⟨⟨-, -, -, -, -, a6, -⟩, -⟩ := qS s hs
  have x0 : σ 12 p 0 = nI s := (qK.1 p 0 hp (by omega)).trans k0
  unfold f_X5_correctionsMissing
  rw [x0, pr_storyAt q5 b2 hs, pr_b]
  show ed_g _ _ = _
  rw [pr_g (by omega), qK.1 p 2 hp (by omega), qK.1 p 5 hp (by omega), a6]
  by_cases h1 : v (687 + 6 * p + 2) = 1
  · rw [if_pos h1, if_pos h1]
  · rw [if_neg h1, if_neg h1]
theorem r_upTo_L {σ : ed_SM} {v : Nat → Int32} {h nC nS nK e s : Nat} (hR : r_R σ v h nC nS nK e) (hs : s < nS) : ∀ (d p n x : Nat), p + d = nK → d < n → f_X5_upToDateCopies_4 σ n (nI s) (nI x) (nI p) = some (nI (x + r_seg (fun q => if v (687 + 6 * q) = nI s then (if v (687 + 6 * q + 2) = 1 then (if (1 : Int32) = 0 then 1 else if v (687 + 6 * q + 5) = v (107 + 29 * s + 7) then 1 else 0) else 0) else 0) d p)) := by
  obtain ⟨⟨q1, q2, q3, q4, q5, q6, q7, q8, q9, q10, b1, b2, b3, b4⟩, qC, qP, qS, qK, qL, qN⟩ := id hR
  intro d
  induction d with
  | zero =>
    intro p n x hp hn
    obtain ⟨n, rfl⟩ : ∃ q, n = q + 1 := ⟨n - 1, by omega⟩
    rw [f_X5_upToDateCopies_4, q9, if_pos (by rw [pr_le (by omega) (by omega)]; omega)]
    rfl
  | succ d ih =>
    intro p n x hp hn
    obtain ⟨n, rfl⟩ : ∃ q, n = q + 1 := ⟨n - 1, by omega⟩
    have np : ¬ nI nK ≤ nI p := by rw [pr_le (by omega) (by omega)]; omega
    have e1 : nI p + 1 = nI (p + 1) := nI_add p 1
    have e2 : nI x + 1 = nI (x + 1) := nI_add x 1
    have i0 := ih (p + 1) n x (by omega) (by omega)
    have i1 := ih (p + 1) n (x + 1) (by omega) (by omega)
    rw [f_X5_upToDateCopies_4, q9, if_neg np, pr_copyMade q9 b3 (by omega), pr_b]
    show ed_g _ _ = _
    rw [pr_g (by omega), e1, e2, i0, i1, qK.1 p 0 (by omega) (by omega), qK.1 p 2 (by omega) (by omega), Nat.add_zero, r_seg]
    by_cases h1 : v (687 + 6 * p) = nI s
    · rw [if_pos h1, if_pos h1, r_missing hR (by omega) hs h1, pr_b]
      by_cases h2 : v (687 + 6 * p + 2) = 1
      · rw [if_pos h2, if_pos h2, if_pos h2, if_neg (show ¬ (1 : Int32) = 0 by decide)]
        by_cases h4 : v (687 + 6 * p + 5) = v (107 + 29 * s + 7)
        · rw [if_pos (pr_sub0.mpr h4), if_pos h4, Nat.add_assoc]
        · rw [if_neg (fun g => h4 (pr_sub0.mp g)), if_neg h4, Nat.zero_add]
      · rw [if_neg h2, if_neg h2, Nat.zero_add]
    · rw [if_neg h1, if_neg h1, Nat.zero_add]
theorem r_story_L (ν : em_MM) {nK s : Nat} (v3 : ν 1 3 = nI nK) (b3 : nK ≤ 160) (x2 : Int32) : ∀ (d p n x : Nat), p + d = nK → d < n → f_X9_story_15 ν n (nI s) x2 (nI x) (nI p) = f_X9_story_15 ν (0 + 1) (nI s) x2 (nI (x + r_seg (fun q => if ν 1 (687 + 6 * q) = nI s then 1 else 0) d p)) (nI nK) := by
  intro d
  induction d with
  | zero =>
    intro p n x hp hn
    obtain ⟨n, rfl⟩ : ∃ q, n = q + 1 := ⟨n - 1, by omega⟩
    obtain rfl : p = nK := by omega
    have c : nI p ≤ nI p := by rw [pr_le (by omega) (by omega)]; omega
    rw [f_X9_story_15, f_X9_story_15, pr_gN (by decide) (by decide), pr_gN (by decide) (by decide), pr_cl 3 (by omega), v3, if_pos c, if_pos c]
    rfl
  | succ d ih =>
    intro p n x hp hn
    obtain ⟨n, rfl⟩ : ∃ q, n = q + 1 := ⟨n - 1, by omega⟩
    have np : ¬ nI nK ≤ nI p := by rw [pr_le (by omega) (by omega)]; omega
    have e1 : nI p + 1 = nI (p + 1) := nI_add p 1
    have e2 : nI x + 1 = nI (x + 1) := nI_add x 1
    have o0 : f_X9_ofCopy (nI p) 0 ν = some (ν 1 (687 + 6 * p)) := pr_ofCopy ν (i := p) (k := 0) (by omega)
    have i0 := ih (p + 1) n x (by omega) (by omega)
    have i1 := ih (p + 1) n (x + 1) (by omega) (by omega)
    have v3' : ν 1 (3 : Int32).toNatClampNeg = nI nK := by rw [pr_cl 3 (by omega), v3]
    rw [f_X9_story_15, pr_gN (by decide) (by decide), v3', if_neg np, o0, pr_b, pr_z, e1, e2, i0, i1, r_seg]
    by_cases h1 : ν 1 (687 + 6 * p) = nI s
    · rw [if_pos h1, if_pos h1, Nat.add_assoc]
    · rw [if_neg h1, if_neg h1, Nat.zero_add (r_seg _ d (p + 1))]
theorem r_allOf {σ : ed_SM} {v : Nat → Int32} {h nC nS nK e s : Nat} (hR : r_R σ v h nC nS nK e) (hs : s < 20) : r_seg (r_fitK σ (nI s) (-1) (-1)) nK 0 = r_seg (fun q => if v (687 + 6 * q) = nI s then 1 else 0) nK 0 := by
  obtain ⟨qH, qC, qP, qS, qK, qL, qN⟩ := hR
  refine r_seg_cg nK 0 (fun q _ hq => ?_)
  unfold r_fitK
  rw [r_fits, r_fits, r_fits, qK.1 q 0 (by omega) (by omega), if_neg (pr_neg1 s (by omega)), if_pos rfl, if_pos rfl, if_neg (show ¬ (1 : Int32) = 0 by decide), if_neg (show ¬ (1 : Int32) = 0 by decide), Nat.add_zero]
  by_cases h1 : v (687 + 6 * q) = nI s
  · rw [if_pos h1.symm, if_pos h1, if_neg (show ¬ (1 : Int32) = 0 by decide)]
  · rw [if_neg (show ¬ nI s = v (687 + 6 * q) from fun g => h1 g.symm), if_neg h1, if_pos rfl]
theorem m_story {μ : ed_CM} {ν : em_MM} (hR : r_REL μ ν) (x1 x2 : Int32) : r_okI (f_X8_story x1 x2 μ) (f_X9_story x1 x2 ν) := by
  obtain ⟨h, nC, nS, nK, hh, hX⟩ := id hR.1
  obtain ⟨⟨q1, q2, q3, q4, q5, q6, q7, q8, q9, q10, b1, b2, b3, b4⟩, qC, qP, qS, -⟩ := id hX
  unfold f_X8_story f_X9_story
  rcases pr_split x1 (n := nS) (by omega) with ⟨s, hi, rfl⟩ | hx
  · obtain ⟨⟨a0, a1, a2, a3, a4, a5, a6, a7⟩, -⟩ := qS s hi
    have o : ∀ k, k < 29 → f_X9_ofStory (nI s) (nI k) ν = some (ν 1 (107 + 29 * s + k)) := fun k hk => pr_ofStory ν (i := s) (k := k) (by omega)
    have o0 : f_X9_ofStory (nI s) 0 ν = some (ν 1 (107 + 29 * s)) := o 0 (by omega)
    have o1 : f_X9_ofStory (nI s) 1 ν = some (ν 1 (107 + 29 * s + 1)) := o 1 (by omega)
    have o5 : f_X9_ofStory (nI s) 5 ν = some (ν 1 (107 + 29 * s + 5)) := o 5 (by omega)
    have o6 : f_X9_ofStory (nI s) 6 ν = some (ν 1 (107 + 29 * s + 6)) := o 6 (by omega)
    have o7 : f_X9_ofStory (nI s) 7 ν = some (ν 1 (107 + 29 * s + 7)) := o 7 (by omega)
    have o8 : f_X9_ofStory (nI s) 8 ν = some (ν 1 (107 + 29 * s + 8)) := o 8 (by omega)
    have o9 : f_X9_ofStory (nI s) 9 ν = some (ν 1 (107 + 29 * s + 9)) := o 9 (by omega)
    have o16 : f_X9_ofStory (nI s) 16 ν = some (ν 1 (107 + 29 * s + 16)) := o 16 (by omega)
    have lp := r_story_L ν (s := s) q10 b3 x2 nK 0 ed_N 0 (by omega) (by unfold ed_N; omega)
    have lp : f_X9_story_15 ν ed_N (nI s) x2 0 0 = _ := lp
    have c : nI nK ≤ nI nK := by rw [pr_le (by omega) (by omega)]; omega
    have up := r_upTo_L hX hi nK 0 ed_N 0 (by omega) (by unfold ed_N; omega)
    have up : f_X5_upToDateCopies (nI s) (μ 0) = _ := up
    rw [pr_storyAt q5 b2 hi, pr_b, pr_isS1 q6 b2 hi, pr_b, if_neg (show ¬ (1 : Int32) = 0 by decide)]
    show r_okI (ed_g _ _) _
    rw [pr_g (by omega), lp, f_X9_story_15, pr_gN (by decide) (by decide), pr_cl 3 (by omega), q10, if_pos c, a0, a1, a2, a3, a4, a5, a6, a7, o0, o1, o5, o6, o7, o8, o9, o16, r_copiesOf q9 b3, r_copiesOf q9 b3, r_useOf hX (by omega), r_allOf hX (by omega), up, r_inUse ν q10 b3 (by omega), r_inUse ν q10 b3 (by omega), Nat.zero_add, Nat.zero_add]
    simp only [pr_b]
    refine r_okI.ite (fun _ => r_okI.mk _) (fun _ => ?_)
    refine r_okI.ite (fun _ => r_okI.mk _) (fun _ => ?_)
    refine r_okI.ite (fun _ => r_okI.mk _) (fun _ => ?_)
    refine r_okI.ite (fun _ => r_okI.mk _) (fun _ => ?_)
    refine r_okI.ite (fun _ => r_okI.mk _) (fun _ => ?_)
    refine r_okI.ite (fun _ => r_okI.mk _) (fun _ => ?_)
    refine r_okI.ite (fun _ => r_okI.mk _) (fun _ => ?_)
    refine r_okI.ite (fun _ => r_okI.mk _) (fun _ => ?_)
    refine r_okI.ite (fun _ => r_okI.mk _) (fun _ => ?_)
    refine r_okI.ite (fun _ => r_okI.mk _) (fun _ => ?_)
    refine r_okI.ite (fun _ => r_okI.mk _) (fun _ => ?_)
    exact r_okI.mk _
  · rw [pr_storyNo q5 b2 hx, pr_b, pr_isS0 q6 b2 hx, pr_b, if_pos rfl]
    exact r_okI.mk _
/-- a row of a story -/
theorem r_row {μ : ed_CM} {ν : em_MM} {h nC nS nK : Nat} (hX : r_R (μ 0) (ν 1) h nC nS nK 160) (x1 x2 : Int32) (k3 k4 L : Nat) (hL : L ≤ 12) (hk : k3 < 29) (hk4 : k4 + L ≤ 29) (F : Nat → Int32 → ed_SM → Option Int32) (hF : ∀ s, s < nS → ∃ n, n ≤ L ∧ ν 1 (107 + 29 * s + k3) = nI n ∧ (∀ u, u < n → F s (nI u) (μ 0) = some (ν 1 (107 + 29 * s + (k4 + u)))) ∧ ∀ x, (x < 0 ∨ nI n ≤ x) → F s x (μ 0) = some (-5)) : r_okI (ed_b (f_X5_storyAt x1 (μ 0)) (fun o1 => (match o1 with | none => some (-1) | some n1q => ed_g (n1q < 20) ((if 0 ≤ x2 then ed_b (F n1q x2 (μ 0)) (fun r3 => (some r3)) else some (-2)))))) (ed_b (f_X9_rowOf x1 x2 (nI k3) (nI k4) ν) (fun r1 => (some r1))) := by
  obtain ⟨⟨q1, q2, q3, q4, q5, q6, q7, q8, q9, q10, b1, b2, b3, b4⟩, qC, qP, qS, -⟩ := id hX
  unfold f_X9_rowOf
  rcases pr_split x1 (n := nS) (by omega) with ⟨s, hi, rfl⟩ | hx
  · obtain ⟨n, n1, n2, n3, n4⟩ := hF s hi
    rw [pr_storyAt q5 b2 hi, pr_b, pr_isS1 q6 b2 hi, pr_b, if_neg (show ¬ (1 : Int32) = 0 by decide)]
    show r_okI (ed_g _ _) _
    rw [pr_g (by omega)]
    by_cases h0 : 0 ≤ x2
    · rw [if_pos h0, if_pos h0, pr_ofStory ν (i := s) (k := k3) (by omega), pr_b, n2]
      rcases pr_split x2 (n := n) (by omega) with ⟨u, hu, rfl⟩ | hx2
      · have c : ¬ nI n ≤ nI u := by rw [pr_le (by omega) (by omega)]; omega
        rw [if_neg c, n3 u hu, pr_b, nI_add, pr_ofStory ν (i := s) (k := k4 + u) (by omega), pr_b, pr_b]
        exact r_okI.mk _
      · have c : nI n ≤ x2 := by
          rcases hx2 with g | g
          · exact absurd g (Int32.not_lt.mpr h0)
          · exact g
        rw [n4 x2 hx2, if_pos c, pr_b]
        exact r_okI.mk _
    · rw [if_neg h0, if_neg h0, pr_b]; exact r_okI.mk _
  · rw [pr_storyNo q5 b2 hx, pr_b, pr_isS0 q6 b2 hx, pr_b, if_pos rfl, pr_b]
    exact r_okI.mk _
theorem m_byline {μ : ed_CM} {ν : em_MM} (hR : r_REL μ ν) (x1 x2 : Int32) : r_okI (f_X8_byline x1 x2 μ) (f_X9_byline x1 x2 ν) := by
  obtain ⟨h, nC, nS, nK, hh, hX⟩ := id hR.1
  refine r_row hX x1 x2 1 2 3 (by omega) (by omega) (by omega) f_X6_authorAt (fun s hs => ?_)
  obtain ⟨⟨a0, a1, -⟩, ⟨m, c1, c2, c3, c4⟩, -⟩ := hX.2.2.2.1 s hs
  exact ⟨m, c2, c3, fun u hu => by rw [pr_authorAt (a1.trans c3) c2 hu, (c4 u hu).1], fun x hx => pr_authorNo (a1.trans c3) c2 hx⟩
theorem pr_letterAt {σ : ed_SM} {s m i : Nat} (h : σ 7 s 4 = nI m) (hm : m ≤ 12) (hi : i < m) : f_X6_letterAt s (nI i) σ = some (σ 9 s i) := by
  unfold f_X6_letterAt
  rw [h]
  refine (pr_at_in (n := 12) (by omega) hm hi).trans ?_
  rw [nI_clamp (by omega)]
theorem pr_letterNo {σ : ed_SM} {s m : Nat} {x : Int32} (h : σ 7 s 4 = nI m) (hm : m ≤ 12) (hx : x < 0 ∨ nI m ≤ x) : f_X6_letterAt s x σ = some (-5) := by
  unfold f_X6_letterAt
  rw [h]
  exact pr_at_out (n := 12) (by omega) hm hx
theorem m_slugChar {μ : ed_CM} {ν : em_MM} (hR : r_REL μ ν) (x1 x2 : Int32) : r_okI (f_X8_slugChar x1 x2 μ) (f_X9_slugChar x1 x2 ν) := by
  obtain ⟨h, nC, nS, nK, hh, hX⟩ := id hR.1
  refine r_row hX x1 x2 16 17 12 (by omega) (by omega) (by omega) f_X6_letterAt (fun s hs => ?_)
  obtain ⟨⟨a0, a1, a2, a3, -⟩, -, ⟨m, c1, c2, c3⟩, -⟩ := hX.2.2.2.1 s hs
  exact ⟨m, c1, c2, fun u hu => by rw [pr_letterAt (a3.trans c2) c1 hu, c3 u hu], fun x hx => pr_letterNo (a3.trans c2) c1 hx⟩
theorem m_correction {μ : ed_CM} {ν : em_MM} (hR : r_REL μ ν) (x1 x2 : Int32) : r_okI (f_X8_correction x1 x2 μ) (f_X9_correction x1 x2 ν) := by
  obtain ⟨h, nC, nS, nK, hh, hX⟩ := id hR.1
  refine r_row hX x1 x2 7 10 6 (by omega) (by omega) (by omega) f_X6_correctedAt (fun s hs => ?_)
  obtain ⟨⟨a0, a1, a2, a3, a4, a5, -⟩, -, -, ⟨w, c1, c2, c3, -⟩, -⟩ := hX.2.2.2.1 s hs
  exact ⟨w, c1, c2, fun u hu => by rw [pr_correctedAt (a5.trans c2) c1 hu, (c3 u hu).1], fun x hx => pr_correctedNo (a5.trans c2) c1 hx⟩
theorem m_copyAt {μ : ed_CM} {ν : em_MM} (hR : r_REL μ ν) (x1 : Int32) : r_okI (f_X8_copyAt x1 μ) (f_X9_copyAt x1 ν) := by
  obtain ⟨h, nC, nS, nK, hh, hX⟩ := id hR.1
  obtain ⟨⟨q1, q2, q3, q4, q5, q6, q7, q8, q9, q10, b1, b2, b3, b4⟩, qC, qP, qS, qK, -⟩ := id hX
  unfold f_X8_copyAt f_X9_copyAt
  by_cases h0 : 0 ≤ x1
  · rw [if_pos h0, if_pos h0, pr_gN (by decide) (by decide), pr_cl 3 (by omega), q10]
    rcases pr_split x1 (n := nK) (by omega) with ⟨p, hp, rfl⟩ | hx
    · have c : ¬ nI nK ≤ nI p := by rw [pr_le (by omega) (by omega)]; omega
      have o0 : f_X9_ofCopy (nI p) 0 ν = some (ν 1 (687 + 6 * p)) := pr_ofCopy ν (i := p) (k := 0) (by omega)
      have o1 : f_X9_ofCopy (nI p) 1 ν = some (ν 1 (687 + 6 * p + 1)) := pr_ofCopy ν (i := p) (k := 1) (by omega)
      rw [pr_copyMade q9 b3 hp, pr_b, if_neg c, o0, pr_b, o1, pr_b]
      show r_okI (ed_g _ _) _
      rw [pr_g (by omega), qK.1 p 0 hp (by omega), qK.1 p 1 hp (by omega), Nat.add_zero]
      exact r_okI.mk _
    · have c : nI nK ≤ x1 := by
        rcases hx with g | g
        · exact absurd g (Int32.not_lt.mpr h0)
        · exact g
      rw [pr_copyNo q9 b3 hx, pr_b, if_pos c]
      exact r_okI.mk _
  · rw [if_neg h0, if_neg h0]; exact r_okI.mk _
