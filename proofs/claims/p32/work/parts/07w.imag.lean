/-! The imagined hours. -/
theorem r_REL.im {μ : ed_CM} {ν : em_MM} (hR : r_REL μ ν) {μ' : ed_CM} {ν' : em_MM} (hj : ∀ j, j ≠ 1 → μ' j = μ j) (hi : ∀ i, i ≠ 1 → i ≠ 2 → ν' i = ν i) (h1 : ∀ a, a < 1683 → ν' 1 a = ν 1 a) : r_REL μ' ν' := by
  obtain ⟨hX, hk, ⟨z, ρ, z1, z2, z3, z4, z5⟩, hT⟩ := hR
  refine ⟨by rw [hj 0 (by decide)]; exact hX.cgv h1, ?_, ⟨z, ρ, z1, by rw [hj 7 (by decide)]; exact z2, by rw [hi 0 (by decide) (by decide)]; exact z3, ⟨fun k hk => by rw [hj 7 (by decide)]; exact z4.1 k hk, z4.2⟩, fun k hk => ?_⟩, ?_⟩
  · unfold r_kept
    rw [hj 7 (by decide), hj 2 (by decide), hi 0 (by decide) (by decide), hi 4 (by decide) (by decide)]
    exact hk
  · have := z4.2.1 k (by omega)
    rw [hj _ (by omega), hi 3 (by decide) (by decide)]
    exact z5 k hk
  · unfold r_text
    rw [hj 7 (by decide), hi 0 (by decide) (by decide), hi 5 (by decide) (by decide)]
    exact hT
theorem r_ok.rw {A : Option (Int32 × ed_CM)} {Bq Bq' : Option (Int32 × em_MM)} (h : Bq = Bq') (h2 : r_ok A Bq') : r_ok A Bq := by rw [h]; exact h2
theorem r_carry_L (μ : ed_CM) (ν : em_MM) {p s nC nS h0 : Nat} : ∀ (d k n n' nK : Nat) (σ : ed_SM) (v : Nat → Int32), k + d = 100 → d + 1 < n → d + 2 < n' → h0 ≤ 9999 → r_R σ v (h0 + k) nC nS nK 160 → p < nK → s < nS → v (687 + 6 * p) = nI s → ∃ r σ' ν', (if (σ 12 p 2) = 1 then (if (σ 12 p 5) = (σ 7 s 7) then some (nI k, ed_sJ μ 1 σ) else f_X8_carriedIn_45 n p s (nI k + 1) (ed_sJ μ 1 σ)) else f_X8_carriedIn_45 n p s (nI k + 1) (ed_sJ μ 1 σ)) = some (r, ed_sJ μ 1 σ') ∧ f_X9_carriedIn_40 n' (nI s) (nI p) (nI k) (em_sR ν 1 v) = some (r, ν') ∧ (∀ i, i ≠ 1 → ν' i = ν i) ∧ ∀ a, a < 1683 → ν' 1 a = ν 2 a := by
  intro d
  induction d with
  | zero =>
    intro k n n' nK σ v hk hn hn' hh hR hp hs k0
    obtain rfl : k = 100 := by omega
    obtain ⟨⟨q1, q2, q3, q4, q5, q6, q7, q8, q9, q10, b1, b2, b3, b4⟩, qC, qP, qS, qK, qL, qN⟩ := id hR
    obtain ⟨s', c, hs', hc, g0, g1, t5, t6, t7⟩ := qK.2.1 p hp
    obtain rfl : s' = s := (nI_eq (by omega) (by omega)).mp (g0.symm.trans k0)
    obtain ⟨⟨-, -, -, -, -, a6, -⟩, -, -, ⟨w, d1, d2, -⟩, -⟩ := qS s' hs
    obtain ⟨n, rfl⟩ : ∃ q, n = q + 1 := ⟨n - 1, by omega⟩
    obtain ⟨n', rfl⟩ : ∃ q, n' = q + 1 + 1 := ⟨n' - 2, by omega⟩
    have o2 : f_X9_ofCopy (nI p) 2 (em_sR ν 1 v) = some (v (687 + 6 * p + 2)) := pr_k ν v (by omega) 2 (by omega)
    have o5 : f_X9_ofCopy (nI p) 5 (em_sR ν 1 v) = some (v (687 + 6 * p + 5)) := pr_k ν v (by omega) 5 (by omega)
    have o7 : f_X9_ofStory (nI s') 7 (em_sR ν 1 v) = some (v (107 + 29 * s' + 7)) := pr_s ν v (by omega) 7 (by omega)
    obtain ⟨σ1, v1, nK1, cm, y1, y2, -⟩ := r_hour ν hR (by omega)
    have e1 : nI 100 + 1 = nI 101 := nI_add 100 1
    have cl : ∀ τ : ed_SM, f_X8_carriedIn_45 (n + 1) p s' (nI 101) (ed_sJ μ 1 τ) = some (-5, ed_sJ μ 1 τ) := fun τ => by
      rw [f_X8_carriedIn_45, if_pos (show 100 < nI 101 by decide)]
    obtain ⟨ν2, u1, u2, u3⟩ := r_back (em_sR ν 1 v1)
    obtain ⟨ν3, u4, u5, u6⟩ := r_back (em_sR ν 1 v)
    have rf : f_X9_carriedIn_40 (n' + 1) (nI s') (nI p) (nI 101) (em_sR ν 1 v1) = some (-5, ν2) := by
      rw [f_X9_carriedIn_40, if_pos (show 101 ≤ nI 101 by decide), u1, pr_b, if_neg (show ¬ nI 101 ≤ 100 by decide)]
    have f2 : ∀ i, i ≠ 1 → ν2 i = ν i := fun i hi => by rw [u2 i hi, pr_sRn _ _ hi]
    have f3 : ∀ i, i ≠ 1 → ν3 i = ν i := fun i hi => by rw [u5 i hi, pr_sRn _ _ hi]
    have f4 : ∀ a, a < 1683 → ν2 1 a = ν 2 a := fun a ha => by rw [u3 a ha, pr_sRn _ _ (by decide)]
    have f5 : ∀ a, a < 1683 → ν3 1 a = ν 2 a := fun a ha => by rw [u6 a ha, pr_sRn _ _ (by decide)]
    rw [f_X9_carriedIn_40, if_neg (show ¬ 101 ≤ nI 100 by decide), o2, pr_b, o5, pr_b, o7, pr_b, y2, pr_b2, e1, rf, u4, pr_b, if_pos (show nI 100 ≤ 100 by decide), cl, qK.1 p 2 hp (by omega), qK.1 p 5 hp (by omega), a6]
    by_cases h1 : v (687 + 6 * p + 2) = 1
    · obtain ⟨u, w1, w2, w3⟩ := t7 (by omega) h1
      rw [d2, nI_toInt (by omega)] at w3
      rw [if_pos h1, if_pos h1, w1, d2]
      by_cases hwu : u = w
      · subst hwu
        rw [if_pos rfl, if_pos (by rw [pr_le (by omega) (by omega)]; omega)]
        exact ⟨_, σ, ν3, rfl, rfl, f3, f5⟩
      · rw [if_neg (show ¬ nI u = nI w by rw [pr_eq (by omega) (by omega)]; exact hwu), if_neg (by rw [pr_le (by omega) (by omega)]; omega)]
        exact ⟨_, σ, ν2, rfl, rfl, f2, f4⟩
    · rw [if_neg h1, if_neg h1]
      exact ⟨_, σ, ν2, rfl, rfl, f2, f4⟩
  | succ d ih =>
    intro k n n' nK σ v hk hn hn' hh hR hp hs k0
    obtain ⟨⟨q1, q2, q3, q4, q5, q6, q7, q8, q9, q10, b1, b2, b3, b4⟩, qC, qP, qS, qK, qL, qN⟩ := id hR
    obtain ⟨s', c, hs', hc, g0, g1, t5, t6, t7⟩ := qK.2.1 p hp
    obtain rfl : s' = s := (nI_eq (by omega) (by omega)).mp (g0.symm.trans k0)
    obtain ⟨⟨-, -, -, -, -, a6, -⟩, -, -, ⟨w, d1, d2, -⟩, -⟩ := qS s' hs
    obtain ⟨n, rfl⟩ : ∃ q, n = q + 1 := ⟨n - 1, by omega⟩
    obtain ⟨n', rfl⟩ : ∃ q, n' = q + 1 := ⟨n' - 1, by omega⟩
    have o2 : f_X9_ofCopy (nI p) 2 (em_sR ν 1 v) = some (v (687 + 6 * p + 2)) := pr_k ν v (by omega) 2 (by omega)
    have o5 : f_X9_ofCopy (nI p) 5 (em_sR ν 1 v) = some (v (687 + 6 * p + 5)) := pr_k ν v (by omega) 5 (by omega)
    have o7 : f_X9_ofStory (nI s') 7 (em_sR ν 1 v) = some (v (107 + 29 * s' + 7)) := pr_s ν v (by omega) 7 (by omega)
    obtain ⟨σ1, v1, nK1, cm, y1, y2, y3, y4, y5, y6⟩ := r_hour ν hR (by omega)
    have e1 : nI k + 1 = nI (k + 1) := nI_add k 1
    obtain ⟨ν3, u4, u5, u6⟩ := r_back (em_sR ν 1 v)
    have f3 : ∀ i, i ≠ 1 → ν3 i = ν i := fun i hi => by rw [u5 i hi, pr_sRn _ _ hi]
    have f5 : ∀ a, a < 1683 → ν3 1 a = ν 2 a := fun a ha => by rw [u6 a ha, pr_sRn _ _ (by decide)]
    have c1 : ¬ (100 : Int32) < nI (k + 1) := by
      show ¬ nI 100 < nI (k + 1)
      rw [pr_lt (by omega) (by omega)]; omega
    have c2 : ¬ nI (k + 1) ≤ 0 := by
      show ¬ nI (k + 1) ≤ nI 0
      rw [pr_le (by omega) (by omega)]; omega
    have c3 : ¬ (101 : Int32) ≤ nI k := by
      show ¬ nI 101 ≤ nI k
      rw [pr_le (by omega) (by omega)]; omega
    have c4 : nI k ≤ 100 := by
      show nI k ≤ nI 100
      rw [pr_le (by omega) (by omega)]; omega
    obtain ⟨r, σ2, ν2, z1, z2, z3, z4⟩ := ih (k + 1) n n' nK1 σ1 v1 (by omega) (by omega) (by omega) hh y3 (by omega) hs (by rw [(y5 p hp).1]; exact k0)
    have cl : f_X8_carriedIn_45 (n + 1) p s' (nI (k + 1)) (ed_sJ μ 1 σ) = some (r, ed_sJ μ 1 σ2) := by
      rw [f_X8_carriedIn_45, if_neg c1, if_neg c2, ed_sJ_self, y1, pr_b, pr_t, ed_sJ_sJ, ed_sJ_self]
      exact z1
    rw [f_X9_carriedIn_40, if_neg c3, o2, pr_b, o5, pr_b, o7, pr_b, y2, pr_b2, e1, z2, u4, pr_b, if_pos c4, cl, qK.1 p 2 hp (by omega), qK.1 p 5 hp (by omega), a6]
    by_cases h1 : v (687 + 6 * p + 2) = 1
    · obtain ⟨u, w1, w2, w3⟩ := t7 (by omega) h1
      rw [d2, nI_toInt (by omega)] at w3
      rw [if_pos h1, if_pos h1, w1, d2]
      by_cases hwu : u = w
      · subst hwu
        rw [if_pos rfl, if_pos (by rw [pr_le (by omega) (by omega)]; omega)]
        exact ⟨_, σ, ν3, rfl, rfl, f3, f5⟩
      · rw [if_neg (show ¬ nI u = nI w by rw [pr_eq (by omega) (by omega)]; exact hwu), if_neg (by rw [pr_le (by omega) (by omega)]; omega)]
        exact ⟨_, σ2, ν2, rfl, rfl, z3, z4⟩
    · rw [if_neg h1, if_neg h1]
      exact ⟨_, σ2, ν2, rfl, rfl, z3, z4⟩
theorem m_carriedIn {μ : ed_CM} {ν : em_MM} (hR : r_REL μ ν) (x1 x2 : Int32) : r_ok (f_X8_carriedIn x1 x2 μ) (f_X9_carriedIn x1 x2 ν) := by
  obtain ⟨h, nC, nS, nK, hh, hX⟩ := id hR.1
  obtain ⟨⟨q1, q2, q3, q4, q5, q6, q7, q8, q9, q10, b1, b2, b3, b4⟩, qC, qP, qS, qK, -⟩ := id hX
  obtain ⟨σ1, c1, c2⟩ := r_copyFrom hX (μ 1)
  have p5 : σ1 0 0 3 = nI nS := c2.1.2.2.2.2.1
  have im0 : r_REL (ed_sJ μ 1 σ1) ν := hR.im (fun j h => ed_sJ_ne _ _ h) (fun _ _ _ => rfl) (fun _ _ => rfl)
  unfold f_X8_carriedIn f_X9_carriedIn
  rw [c1, pr_b, pr_t, ed_sJ_self]
  rcases r_find c2 x1 x2 with ⟨p, hp, g1, g2, g3, g4⟩ | ⟨g1, g2⟩
  · obtain ⟨s, c, hs, hc, k0, k1, t5, t6, t7⟩ := c2.2.2.2.2.1.2.1 p hp
    have e1 : x1 = nI s := g1.symm.trans k0
    have e2 : x2 = nI c := g2.symm.trans k1
    subst e1
    subst e2
    obtain ⟨ν1, s1, s2, s3⟩ := r_aside ν
    have pos : (0 : Int32) ≤ nI p := by show nI 0 ≤ nI p; rw [pr_le (by omega) (by omega)]; omega
    rw [g3, pr_b, pr_isS1 q6 b2 hs, pr_b, if_neg (show ¬ (1 : Int32) = 0 by decide), pr_isC1 q8 b1 hc, pr_b, if_neg (show ¬ (1 : Int32) = 0 by decide), g4, pr_b, if_pos pos, s1, pr_b]
    show r_ok (ed_g _ _) _
    rw [pr_g (by omega), pr_storyAt p5 b2 hs, pr_b]
    show r_ok (ed_g _ _) _
    rw [pr_g (by omega)]
    have n1 : ν1 1 = ν 1 := s2 1 (by decide)
    have hX1 : r_R σ1 (ν1 1) (h + 0) nC nS nK 160 := by rw [n1]; exact c2
    obtain ⟨r, σ', ν', y1, y2, y3, y4⟩ := r_carry_L μ ν1 (p := p) (s := s) 100 0 9999 ed_N nK σ1 (ν1 1) (by omega) (by omega) (by unfold ed_N; omega) hh hX1 hp hs (by rw [n1]; exact k0)
    rw [pr_sRe] at y2
    have cl : f_X8_carriedIn_45 (9999 + 1) p s (nI 0) (ed_sJ μ 1 σ1) = some (r, ed_sJ μ 1 σ') := by
      rw [f_X8_carriedIn_45, if_neg (show ¬ 100 < nI 0 by decide), if_pos (show nI 0 ≤ 0 by decide), ed_sJ_self]
      exact y1
    have cl : f_X8_carriedIn_45 ed_N p s 0 (ed_sJ μ 1 σ1) = some (r, ed_sJ μ 1 σ') := cl
    have y2 : f_X9_carriedIn_40 ed_N (nI s) (nI p) 0 ν1 = some (r, ν') := y2
    rw [cl, y2]
    refine r_ok.mk (hR.im (fun j h => ed_sJ_ne _ _ h) (fun i g5 g6 => by rw [y3 i g5, s2 i g6]) (fun a ha => by rw [y4 a ha, s3 a ha])) _
  · have cls : r_ok (ed_b (f_X5_storyAt x1 σ1) (fun o4 => (match o4 with | none => some ((-1), ed_sJ μ 1 σ1) | some n4q => ed_g (n4q < 20) (some ((-1), ed_sJ μ 1 σ1))))) (some (-1, ν)) := by
      rcases pr_split x1 (n := nS) (by omega) with ⟨s, hs, rfl⟩ | hx
      · rw [pr_storyAt p5 b2 hs, pr_b]
        show r_ok (ed_g _ _) _
        rw [pr_g (by omega)]
        exact r_ok.mk im0 _
      · rw [pr_storyNo p5 b2 hx, pr_b]
        exact r_ok.mk im0 _
    have n5 : ¬ (0 : Int32) ≤ -1 := by decide
    rw [g1, g2]
    simp only [pr_b, if_neg n5]
    refine r_ok.rw ?_ cls
    rcases pr_split x1 (n := nS) (by omega) with ⟨s, hs, rfl⟩ | hx
    · rw [pr_isS1 q6 b2 hs, pr_b, if_neg (show ¬ (1 : Int32) = 0 by decide)]
      rcases pr_split x2 (n := nC) (by omega) with ⟨c, hc, rfl⟩ | hx
      · rw [pr_isC1 q8 b1 hc, pr_b, if_neg (show ¬ (1 : Int32) = 0 by decide)]
      · rw [pr_isC0 q8 b1 hx, pr_b, if_pos rfl]
    · rw [pr_isS0 q6 b2 hx, pr_b, if_pos rfl]
theorem r_would_L (μ : ed_CM) (ν : em_MM) {m c nC nS h0 : Nat} (T0 : Int32) (hm : m ≤ 100) (hh : h0 ≤ 9999) (hc : c < nC) (h2 : ν 2 (7 + 10 * c + 8) = T0) : ∀ (d k n n' nK : Nat) (σ : ed_SM) (v : Nat → Int32), k + d = m → d < n → d < n' → r_R σ v (h0 + k) nC nS nK 160 → ∃ r σ' ν', f_X8_wouldCome_48 n c (nI m) T0 (nI k) (ed_sJ μ 1 σ) = some (r, ed_sJ μ 1 σ') ∧ f_X9_wouldCome_29 n' (nI c) (nI m) (nI k) (em_sR ν 1 v) = some (r, ν') ∧ (∀ i, i ≠ 1 → ν' i = ν i) ∧ ∀ a, a < 1683 → ν' 1 a = ν 2 a := by
  intro d
  induction d with
  | zero =>
    intro k n n' nK σ v hk hn hn' hR
    obtain ⟨⟨q1, q2, q3, q4, q5, q6, q7, q8, q9, q10, b1, b2, b3, b4⟩, qC, -⟩ := id hR
    obtain ⟨n, rfl⟩ : ∃ q, n = q + 1 := ⟨n - 1, by omega⟩
    obtain ⟨n', rfl⟩ : ∃ q, n' = q + 1 := ⟨n' - 1, by omega⟩
    have cc : nI m ≤ nI k := by rw [pr_le (by omega) (by omega)]; omega
    have o8 : f_X9_ofClient (nI c) 8 (em_sR ν 1 v) = some (v (7 + 10 * c + 8)) := pr_c ν v (by omega) 8 (by omega)
    have i8 : f_X9_clientAt (nI c) 8 = nI (7 + 10 * c + 8) := pr_9c c 8
    obtain ⟨ν3, u4, u5, u6⟩ := r_back (em_sR ν 1 v)
    rw [f_X8_wouldCome_48, f_X9_wouldCome_29, if_pos cc, if_pos cc, ed_sJ_self, o8, pr_b, i8, pr_gin (by omega) (by omega), nI_clamp (by omega), pr_sRn _ _ (by decide), h2, pr_t, u4, pr_b, qC.1 c 8 hc (by omega)]
    exact ⟨_, σ, ν3, rfl, rfl, fun i hi => by rw [u5 i hi, pr_sRn _ _ hi], fun a ha => by rw [u6 a ha, pr_sRn _ _ (by decide)]⟩
  | succ d ih =>
    intro k n n' nK σ v hk hn hn' hR
    obtain ⟨n, rfl⟩ : ∃ q, n = q + 1 := ⟨n - 1, by omega⟩
    obtain ⟨n', rfl⟩ : ∃ q, n' = q + 1 := ⟨n' - 1, by omega⟩
    have cc : ¬ nI m ≤ nI k := by rw [pr_le (by omega) (by omega)]; omega
    have e1 : nI k + 1 = nI (k + 1) := nI_add k 1
    obtain ⟨σ1, v1, nK1, cm, y1, y2, y3, -⟩ := r_hour ν hR (by omega)
    rw [f_X8_wouldCome_48, f_X9_wouldCome_29, if_neg cc, if_neg cc, ed_sJ_self, y1, pr_b, pr_t, ed_sJ_sJ, y2, pr_b2, e1]
    exact ih (k + 1) n n' nK1 σ1 v1 (by omega) (by omega) (by omega) y3
theorem m_wouldCome {μ : ed_CM} {ν : em_MM} (hR : r_REL μ ν) (x1 x2 : Int32) : r_ok (f_X8_wouldCome x1 x2 μ) (f_X9_wouldCome x1 x2 ν) := by
  obtain ⟨h, nC, nS, nK, hh, hX⟩ := id hR.1
  obtain ⟨⟨q1, q2, q3, q4, q5, q6, q7, q8, q9, q10, b1, b2, b3, b4⟩, qC, qP, qS, qK, -⟩ := id hX
  obtain ⟨σ1, c1, c2⟩ := r_copyFrom hX (μ 1)
  have p7 : σ1 0 0 4 = nI nC := c2.1.2.2.2.2.2.2.1
  have im0 : r_REL (ed_sJ μ 1 σ1) ν := hR.im (fun j h => ed_sJ_ne _ _ h) (fun _ _ _ => rfl) (fun _ _ => rfl)
  unfold f_X8_wouldCome f_X9_wouldCome
  rw [c1, pr_b, pr_t, ed_sJ_self]
  rcases pr_split x1 (n := nC) (by omega) with ⟨c, hc, rfl⟩ | hx
  · rw [pr_clientAt p7 b1 hc, pr_b, pr_isC1 q8 b1 hc, pr_b, if_neg (show ¬ (1 : Int32) = 0 by decide)]
    show r_ok (ed_g _ _) _
    rw [pr_g (by omega), pr_89]
    by_cases hb : f_X9_in x2 1 100 = 0
    · rw [if_pos hb, if_pos hb]; exact r_ok.mk im0 _
    · have w := pr_in2 hb
      have e1 : (1 : Int32).toInt = 1 := by decide
      have e2 : (100 : Int32).toInt = 100 := by decide
      obtain ⟨m, hm, rfl⟩ := pr_nn (x := x2) (by omega)
      rw [nI_toInt hm, e1, e2] at w
      obtain ⟨ν1, s1, s2, s3⟩ := r_aside ν
      have n1 : ν1 1 = ν 1 := s2 1 (by decide)
      have hX1 : r_R σ1 (ν1 1) (h + 0) nC nS nK 160 := by rw [n1]; exact c2
      have t8 : σ1 11 c 8 = ν 1 (7 + 10 * c + 8) := c2.2.1.1 c 8 hc (by omega)
      obtain ⟨r, σ', ν', y1, y2, y3, y4⟩ := r_would_L μ ν1 (m := m) (c := c) (σ1 11 c 8) (by omega) hh hc (by rw [s3 _ (by omega), t8]) m 0 ed_N ed_N nK σ1 (ν1 1) (by omega) (by unfold ed_N; omega) (by unfold ed_N; omega) hX1
      rw [pr_sRe] at y2
      have y1 : f_X8_wouldCome_48 ed_N c (nI m) (σ1 11 c 8) 0 (ed_sJ μ 1 σ1) = _ := y1
      have y2 : f_X9_wouldCome_29 ed_N (nI c) (nI m) 0 ν1 = _ := y2
      rw [if_neg hb, if_neg hb, s1, pr_b, y1, y2]
      refine r_ok.mk (hR.im (fun j h => ed_sJ_ne _ _ h) (fun i g5 g6 => by rw [y3 i g5, s2 i g6]) (fun a ha => by rw [y4 a ha, s3 a ha])) _
  · rw [pr_clientNo p7 b1 hx, pr_b, pr_isC0 q8 b1 hx, pr_b, if_pos rfl]
    exact r_ok.mk im0 _
