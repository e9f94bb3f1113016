/-! The questions: clients, the log, a copy. -/
theorem r_useFor_L (ν : em_MM) {nK : Nat} (v3 : ν 1 3 = nI nK) (b3 : nK ≤ 160) (x1 : Int32) : ∀ (d p n x : Nat), p + d = nK → d < n → f_X9_inUseFor_4 ν n x1 (nI x) (nI p) = some (nI (x + r_seg (fun q => if ν 1 (687 + 6 * q + 1) = x1 then (if ν 1 (687 + 6 * q + 2) = 1 then 1 else 0) else 0) d p)) := by
  intro d
  induction d with
  | zero =>
    intro p n x hp hn
    obtain ⟨n, rfl⟩ : ∃ q, n = q + 1 := ⟨n - 1, by omega⟩
    rw [f_X9_inUseFor_4, pr_gN (by decide) (by decide), pr_cl 3 (by omega), v3, if_pos (by rw [pr_le (by omega) (by omega)]; omega)]
    rfl
  | succ d ih =>
    intro p n x hp hn
    obtain ⟨n, rfl⟩ : ∃ q, n = q + 1 := ⟨n - 1, by omega⟩
    have np : ¬ nI nK ≤ nI p := by rw [pr_le (by omega) (by omega)]; omega
    have e1 : nI p + 1 = nI (p + 1) := nI_add p 1
    have e2 : nI x + 1 = nI (x + 1) := nI_add x 1
    have o1 : f_X9_ofCopy (nI p) 1 ν = some (ν 1 (687 + 6 * p + 1)) := pr_ofCopy ν (i := p) (k := 1) (by omega)
    have o2 : f_X9_ofCopy (nI p) 2 ν = some (ν 1 (687 + 6 * p + 2)) := pr_ofCopy ν (i := p) (k := 2) (by omega)
    have i0 := ih (p + 1) n x (by omega) (by omega)
    have i1 := ih (p + 1) n (x + 1) (by omega) (by omega)
    have v3' : ν 1 (3 : Int32).toNatClampNeg = nI nK := by rw [pr_cl 3 (by omega), v3]
    rw [f_X9_inUseFor_4, pr_gN (by decide) (by decide), v3', if_neg np, o1, pr_b, o2, pr_b, pr_z, e1, e2, i0, i1, r_seg]
    by_cases h1 : ν 1 (687 + 6 * p + 1) = x1
    · rw [if_pos h1, if_pos h1]
      by_cases h2 : ν 1 (687 + 6 * p + 2) = 1
      · rw [if_pos h2, if_pos h2, Nat.add_assoc]
      · rw [if_neg h2, if_neg h2, Nat.zero_add]
    · rw [if_neg h1, if_neg h1, Nat.zero_add]
theorem r_forOf {σ : ed_SM} {v : Nat → Int32} {h nC nS nK e i : Nat} (hR : r_R σ v h nC nS nK e) (hi : i < 8) : r_seg (r_fitK σ (-1) (nI i) 1) nK 0 = r_seg (fun q => if v (687 + 6 * q + 1) = nI i then (if v (687 + 6 * q + 2) = 1 then 1 else 0) else 0) nK 0 := by
  obtain ⟨qH, qC, qP, qS, qK, qL, qN⟩ := hR
  refine r_seg_cg nK 0 (fun q _ hq => ?_)
  unfold r_fitK
  rw [r_fits, r_fits, r_fits, qK.1 q 1 (by omega) (by omega), qK.1 q 2 (by omega) (by omega), if_pos rfl, if_neg (pr_neg1 i (by omega)), if_neg (show ¬ (1 : Int32) = 0 by decide), if_neg (show ¬ (1 : Int32) = -1 by decide)]
  by_cases h1 : v (687 + 6 * q + 1) = nI i
  · rw [if_pos h1.symm, if_pos h1, if_neg (show ¬ (1 : Int32) = 0 by decide)]
    by_cases h2 : v (687 + 6 * q + 2) = 1
    · rw [if_pos h2.symm, if_pos h2, if_neg (show ¬ (1 : Int32) = 0 by decide)]
    · rw [if_neg (show ¬ 1 = v (687 + 6 * q + 2) from fun g => h2 g.symm), if_neg h2, if_pos rfl]
  · rw [if_neg (show ¬ nI i = v (687 + 6 * q + 1) from fun g => h1 g.symm), if_neg h1, if_pos rfl]
theorem m_client {μ : ed_CM} {ν : em_MM} (hR : r_REL μ ν) (x1 x2 : Int32) : r_okI (f_X8_client x1 x2 μ) (f_X9_client x1 x2 ν) := by
  obtain ⟨h, nC, nS, nK, hh, hX⟩ := id hR.1
  obtain ⟨⟨q1, q2, q3, q4, q5, q6, q7, q8, q9, q10, b1, b2, b3, b4⟩, qC, qP, qS, -⟩ := id hX
  unfold f_X8_client f_X9_client
  rcases pr_split x1 (n := nC) (by omega) with ⟨i, hi, rfl⟩ | hx
  · have x : ∀ k, k < 10 → (μ 0) 11 i k = ν 1 (7 + 10 * i + k) := fun k hk => qC.1 i k hi hk
    have o : ∀ k, k < 10 → f_X9_ofClient (nI i) (nI k) ν = some (ν 1 (7 + 10 * i + k)) := fun k hk => pr_ofClient ν (i := i) (k := k) (by omega)
    have lp := r_useFor_L ν q10 b3 (nI i) nK 0 ed_N 0 (by omega) (by unfold ed_N; omega)
    rw [Nat.zero_add] at lp
    have lp : f_X9_inUseFor (nI i) ν = _ := lp
    rw [pr_clientAt q7 b1 hi, pr_b, pr_isC1 q8 b1 hi, pr_b, if_neg (show ¬ (1 : Int32) = 0 by decide)]
    show r_okI (ed_g _ _) _
    rw [pr_g (by omega)]
    rcases pr_split x2 (n := 11) (by omega) with ⟨u, hu, rfl⟩ | hx2
    · rcases (show u = 0 ∨ u = 1 ∨ u = 2 ∨ u = 3 ∨ u = 4 ∨ u = 5 ∨ u = 6 ∨ u = 7 ∨ u = 8 ∨ u = 9 ∨ u = 10 by omega) with rfl | rfl | rfl | rfl | rfl | rfl | rfl | rfl | rfl | rfl | rfl
      · rw [if_pos (show nI 0 = 0 from rfl), if_neg (show ¬ f_X9_in (nI 0) 0 10 = 0 by decide), if_neg (show ¬ 9 ≤ nI 0 by decide), o 0 (by omega), pr_b, x 0 (by omega)]
        exact r_okI.mk _
      · rw [if_neg (show ¬ nI 1 = 0 by decide), if_pos (show nI 1 = 1 from rfl), if_neg (show ¬ f_X9_in (nI 1) 0 10 = 0 by decide), if_neg (show ¬ 9 ≤ nI 1 by decide), o 1 (by omega), pr_b, x 1 (by omega)]
        exact r_okI.mk _
      · rw [if_neg (show ¬ nI 2 = 0 by decide), if_neg (show ¬ nI 2 = 1 by decide), if_pos (show nI 2 = 2 from rfl), if_neg (show ¬ f_X9_in (nI 2) 0 10 = 0 by decide), if_neg (show ¬ 9 ≤ nI 2 by decide), o 2 (by omega), pr_b, x 2 (by omega)]
        exact r_okI.mk _
      · rw [if_neg (show ¬ nI 3 = 0 by decide), if_neg (show ¬ nI 3 = 1 by decide), if_neg (show ¬ nI 3 = 2 by decide), if_pos (show nI 3 = 3 from rfl), if_neg (show ¬ f_X9_in (nI 3) 0 10 = 0 by decide), if_neg (show ¬ 9 ≤ nI 3 by decide), o 3 (by omega), pr_b, x 3 (by omega)]
        exact r_okI.mk _
      · rw [if_neg (show ¬ nI 4 = 0 by decide), if_neg (show ¬ nI 4 = 1 by decide), if_neg (show ¬ nI 4 = 2 by decide), if_neg (show ¬ nI 4 = 3 by decide), if_pos (show nI 4 = 4 from rfl), if_neg (show ¬ f_X9_in (nI 4) 0 10 = 0 by decide), if_neg (show ¬ 9 ≤ nI 4 by decide), o 4 (by omega), pr_b, x 4 (by omega)]
        exact r_okI.mk _
      · rw [if_neg (show ¬ nI 5 = 0 by decide), if_neg (show ¬ nI 5 = 1 by decide), if_neg (show ¬ nI 5 = 2 by decide), if_neg (show ¬ nI 5 = 3 by decide), if_neg (show ¬ nI 5 = 4 by decide), if_pos (show nI 5 = 5 from rfl), if_neg (show ¬ f_X9_in (nI 5) 0 10 = 0 by decide), if_neg (show ¬ 9 ≤ nI 5 by decide), o 5 (by omega), pr_b, x 5 (by omega)]
        rcases (qC.2.1 i hi).1 with g | g
        · rw [if_pos g, g]; exact r_okI.mk _
        · rw [if_neg (show ¬ ν 1 (7 + 10 * i + 5) = 0 by rw [g]; decide), g]; exact r_okI.mk _
      · rw [if_neg (show ¬ nI 6 = 0 by decide), if_neg (show ¬ nI 6 = 1 by decide), if_neg (show ¬ nI 6 = 2 by decide), if_neg (show ¬ nI 6 = 3 by decide), if_neg (show ¬ nI 6 = 4 by decide), if_neg (show ¬ nI 6 = 5 by decide), if_pos (show nI 6 = 6 from rfl), if_neg (show ¬ f_X9_in (nI 6) 0 10 = 0 by decide), if_neg (show ¬ 9 ≤ nI 6 by decide), o 6 (by omega), pr_b, x 6 (by omega)]
        exact r_okI.mk _
      · rw [if_neg (show ¬ nI 7 = 0 by decide), if_neg (show ¬ nI 7 = 1 by decide), if_neg (show ¬ nI 7 = 2 by decide), if_neg (show ¬ nI 7 = 3 by decide), if_neg (show ¬ nI 7 = 4 by decide), if_neg (show ¬ nI 7 = 5 by decide), if_neg (show ¬ nI 7 = 6 by decide), if_pos (show nI 7 = 7 from rfl), if_neg (show ¬ f_X9_in (nI 7) 0 10 = 0 by decide), if_neg (show ¬ 9 ≤ nI 7 by decide), o 7 (by omega), pr_b, x 7 (by omega)]
        exact r_okI.mk _
      · rw [if_neg (show ¬ nI 8 = 0 by decide), if_neg (show ¬ nI 8 = 1 by decide), if_neg (show ¬ nI 8 = 2 by decide), if_neg (show ¬ nI 8 = 3 by decide), if_neg (show ¬ nI 8 = 4 by decide), if_neg (show ¬ nI 8 = 5 by decide), if_neg (show ¬ nI 8 = 6 by decide), if_neg (show ¬ nI 8 = 7 by decide), if_pos (show nI 8 = 8 from rfl), if_neg (show ¬ f_X9_in (nI 8) 0 10 = 0 by decide), if_neg (show ¬ 9 ≤ nI 8 by decide), o 8 (by omega), pr_b, x 8 (by omega)]
        exact r_okI.mk _
      · rw [if_neg (show ¬ nI 9 = 0 by decide), if_neg (show ¬ nI 9 = 1 by decide), if_neg (show ¬ nI 9 = 2 by decide), if_neg (show ¬ nI 9 = 3 by decide), if_neg (show ¬ nI 9 = 4 by decide), if_neg (show ¬ nI 9 = 5 by decide), if_neg (show ¬ nI 9 = 6 by decide), if_neg (show ¬ nI 9 = 7 by decide), if_neg (show ¬ nI 9 = 8 by decide), if_pos (show nI 9 = 9 from rfl), if_neg (show ¬ f_X9_in (nI 9) 0 10 = 0 by decide), if_pos (show 9 ≤ nI 9 by decide), if_pos (show nI 9 = 9 from rfl), lp, r_copiesOf q9 b3, r_forOf hX (by omega), pr_b]
        exact r_okI.mk _
      · rw [if_neg (show ¬ nI 10 = 0 by decide), if_neg (show ¬ nI 10 = 1 by decide), if_neg (show ¬ nI 10 = 2 by decide), if_neg (show ¬ nI 10 = 3 by decide), if_neg (show ¬ nI 10 = 4 by decide), if_neg (show ¬ nI 10 = 5 by decide), if_neg (show ¬ nI 10 = 6 by decide), if_neg (show ¬ nI 10 = 7 by decide), if_neg (show ¬ nI 10 = 8 by decide), if_neg (show ¬ nI 10 = 9 by decide), if_pos (show nI 10 = 10 from rfl), if_neg (show ¬ f_X9_in (nI 10) 0 10 = 0 by decide), if_pos (show 9 ≤ nI 10 by decide), if_neg (show ¬ nI 10 = 9 by decide), show (9 : Int32) = nI 9 from rfl, o 9 (by omega), pr_b, x 9 (by omega)]
        exact r_okI.mk _
    · have ne : ∀ y : Int32, 0 ≤ y → y < nI 11 → ¬ x2 = y := fun y h1 h2 g => by
        subst g
        rcases hx2 with g | g
        · exact absurd g (Int32.not_lt.mpr h1)
        · exact absurd h2 (Int32.not_lt.mpr g)
      have out : f_X9_in x2 0 10 = 0 := by
        rw [pr_9in]
        rcases hx2 with g | g
        · rw [if_pos g]
        · by_cases h0 : x2 < 0
          · rw [if_pos h0]
          · rw [if_neg h0, if_pos]
            rw [pr_iLe, nI_toInt (by omega)] at g
            rw [pr_iLt]
            have : (10 : Int32).toInt = 10 := by decide
            omega
      rw [if_pos out, if_neg (ne 0 (by decide) (by decide)), if_neg (ne 1 (by decide) (by decide)), if_neg (ne 2 (by decide) (by decide)), if_neg (ne 3 (by decide) (by decide)), if_neg (ne 4 (by decide) (by decide)), if_neg (ne 5 (by decide) (by decide)), if_neg (ne 6 (by decide) (by decide)), if_neg (ne 7 (by decide) (by decide)), if_neg (ne 8 (by decide) (by decide)), if_neg (ne 9 (by decide) (by decide)), if_neg (ne 10 (by decide) (by decide))]
      exact r_okI.mk _
  · rw [pr_clientNo q7 b1 hx, pr_b, pr_isC0 q8 b1 hx, pr_b, if_pos rfl]
    exact r_okI.mk _
theorem m_event {μ : ed_CM} {ν : em_MM} (hR : r_REL μ ν) (x1 x2 : Int32) : r_okI (f_X8_event x1 x2 μ) (f_X9_event x1 x2 ν) := by
  obtain ⟨h, nC, nS, nK, hh, hX⟩ := id hR.1
  obtain ⟨ne, sz, l1, l2, l3, l4, l5, l6⟩ := hX.2.2.2.2.2.1
  unfold f_X8_event f_X9_event
  rw [pr_89]
  refine r_okI.ite (fun _ => r_okI.mk _) (fun h0 => r_okI.ite (fun _ => r_okI.mk _) (fun hb => ?_))
  have w := pr_in2 hb
  have e3 : (3 : Int32).toInt = 3 := by decide
  have e0 : (0 : Int32).toInt = 0 := by decide
  obtain ⟨u, hu, rfl⟩ := pr_nn (x := x2) (by omega)
  rw [nI_toInt hu, e3] at w
  have v6 : ν 1 (6 : Int32).toNatClampNeg = nI sz := by rw [pr_cl 6 (by omega), l5]
  unfold f_X3_part
  rw [pr_gN (by decide) (by decide), v6, l4, l3]
  rcases pr_split x1 (n := sz) (by omega) with ⟨b, hb, rfl⟩ | hx
  · have ip : f_X8_isPlace (nI b) (nI sz) = 1 := by
      rw [pr_isPlace, if_neg (nI_pos (by omega)), if_neg]
      rw [pr_le (by omega) (by omega)]; omega
    have a1 : nI ne - nI b + 12 = nI (ne + 12 - b) := by
      apply pr_toInt_inj
      have t12 : (12 : Int32).toInt = 12 := by decide
      have s1 : (nI ne - nI b).toInt = (ne : Int) - b := by
        rw [pr_sub (by rw [nI_toInt (by omega), nI_toInt (by omega)]; omega) (by rw [nI_toInt (by omega), nI_toInt (by omega)]; omega), nI_toInt (by omega), nI_toInt (by omega)]
      rw [pr_add (by rw [s1, t12]; omega) (by rw [s1, t12]; omega), s1, t12, nI_toInt (by omega)]
      omega
    have a2 : nI (ne + 12 - b) - nI (ne + 12 - b) / 12 * 12 = nI ((ne + 12 - b) % 12) := pk_rem (a := ne + 12 - b) (d := 12) (by omega) (by omega) (by omega)
    have a3 : nI ((ne + 12 - b) % 12) * 4 + nI u = nI ((ne + 12 - b) % 12 * 4 + u) := by
      rw [show (4 : Int32) = nI 4 from rfl, pk_mul, nI_add]
    have ip2 : f_X8_isPlace (nI ((ne + 12 - b) % 12 * 4 + u)) 48 = 1 := by
      rw [pr_isPlace, if_neg (nI_pos (by omega)), if_neg]
      show ¬ nI 48 ≤ _
      rw [pr_le (by omega) (by omega)]; omega
    have c1 : nI b < nI sz := by rw [pr_lt (by omega) (by omega)]; exact hb
    have m1 : (1647 : Int32) + 3 * nI b = nI (1647 + 3 * b) := by
      rw [show (3 : Int32) = nI 3 from rfl, show (1647 : Int32) = nI 1647 from rfl, pk_mul, nI_add]
    have m2 : nI (1647 + 3 * b) + 1 = nI (1647 + 3 * b + 1) := nI_add _ 1
    have m3 : nI (1647 + 3 * b) + 2 = nI (1647 + 3 * b + 2) := nI_add _ 2
    obtain ⟨g1, g2, s, g3, g4, g5⟩ := l6 b hb
    rw [ip, if_neg (show ¬ (1 : Int32) = 0 by decide), a1, a2, a3, pr_t, ip2, if_neg (show ¬ (1 : Int32) = 0 by decide), pr_gin (by omega) (by omega), nI_clamp (n := (ne + 12 - b) % 12 * 4 + u) (by omega), if_pos c1, m1, m2, m3, pr_gin (by omega) (by omega), pr_gin (by omega) (by omega), pr_gin (by omega) (by omega), pr_gin (by omega) (by omega), pr_t, nI_clamp (n := 1647 + 3 * b) (by omega), nI_clamp (n := 1647 + 3 * b + 1) (by omega), nI_clamp (n := 1647 + 3 * b + 2) (by omega), pr_b]
    have code : ∃ z, z ≤ 9 ∧ ν 1 (1647 + 3 * b + 1) = nI (10 * s + z) ∧ (μ 0) 2 0 ((ne + 12 - b) % 12 * 4 + 2) = if z = 9 then -5 else nI z := by
      rcases g5 with ⟨g6, g7⟩ | ⟨c, g6, g7, g8⟩
      · exact ⟨9, by omega, g7, by rw [g6, if_pos rfl]⟩
      · exact ⟨c, by omega, g8, by rw [g7, if_neg (by omega)]⟩
    obtain ⟨z, z1, z2, z3⟩ := code
    have d1 : nI (10 * s + z) / 10 = nI s := by
      have := pk_div (a := 10 * s + z) (d := 10) (by omega) (by omega)
      rw [show (10 * s + z) / 10 = s by omega] at this
      exact this (by omega)
    have d2 : nI (10 * s + z) - nI (10 * s + z) / 10 * 10 = nI z := by
      have := pk_rem (a := 10 * s + z) (d := 10) (by omega) (by omega) (by omega)
      rw [show (10 * s + z) % 10 = z by omega] at this
      exact this
    rw [z2, d2, d1]
    rcases (show u = 0 ∨ u = 1 ∨ u = 2 ∨ u = 3 by omega) with rfl | rfl | rfl | rfl
    · rw [if_pos (show nI 0 = 0 from rfl), Nat.add_zero, g1]; exact r_okI.mk _
    · rw [if_neg (show ¬ nI 1 = 0 by decide), if_pos (show nI 1 = 1 from rfl), g4]; exact r_okI.mk _
    · rw [if_neg (show ¬ nI 2 = 0 by decide), if_neg (show ¬ nI 2 = 1 by decide), if_pos (show nI 2 = 2 from rfl), z3]
      by_cases h9 : z = 9
      · subst h9
        rw [if_pos rfl, if_pos (show nI 9 = 9 from rfl)]; exact r_okI.mk _
      · have c9 : ¬ nI z = 9 := by show ¬ nI z = nI 9; rw [pr_eq (by omega) (by omega)]; exact h9
        rw [if_neg h9, if_neg c9]; exact r_okI.mk _
    · rw [if_neg (show ¬ nI 3 = 0 by decide), if_neg (show ¬ nI 3 = 1 by decide), if_neg (show ¬ nI 3 = 2 by decide), g2]; exact r_okI.mk _
  · have hx : nI sz ≤ x1 := by
      rcases hx with g | g
      · exact absurd g h0
      · exact g
    have ip : f_X8_isPlace x1 (nI sz) = 0 := by rw [pr_isPlace, if_neg h0, if_pos hx]
    rw [ip, if_pos rfl, if_neg (Int32.not_lt.mpr hx), pr_b]
    exact r_okI.mk _
