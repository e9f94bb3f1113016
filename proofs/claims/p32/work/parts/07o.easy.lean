/-! The methods, one by one: what is set. -/
theorem pr_split (x : Int32) {n : Nat} (hn : n < 2 ^ 31) : (∃ i, i < n ∧ x = nI i) ∨ (x < 0 ∨ nI n ≤ x) := by
  by_cases h : x < 0
  · exact Or.inr (Or.inl h)
  · have h0 : 0 ≤ x.toInt := by
      rw [pr_iLt] at h
      have : (0 : Int32).toInt = 0 := by decide
      omega
    obtain ⟨i, hi, rfl⟩ := pr_nn h0
    by_cases h2 : i < n
    · exact Or.inl ⟨i, h2, rfl⟩
    · exact Or.inr (Or.inr (by rw [pr_le hn hi]; omega))
theorem pr_top {n : Nat} (hn : n < 2 ^ 31) : (nI n - 1).toInt = (n : Int) - 1 := by
  have h1 : (1 : Int32).toInt = 1 := by decide
  rw [pr_sub (by rw [nI_toInt hn, h1]; omega) (by rw [nI_toInt hn, h1]; omega), nI_toInt hn, h1]
theorem pr_in1 {n i : Nat} (hn : n < 2 ^ 31) (hi : i < n) : f_X9_in (nI i) 0 (nI n - 1) = 1 := by
  rw [pr_9in, if_neg (nI_pos (by omega)), if_neg]
  rw [pr_iLt, pr_top hn, nI_toInt (by omega)]
  omega
theorem pr_in0 {n : Nat} {x : Int32} (hn : n < 2 ^ 31) (hx : x < 0 ∨ nI n ≤ x) : f_X9_in x 0 (nI n - 1) = 0 := by
  rw [pr_9in]
  rcases hx with hx | hx
  · rw [if_pos hx]
  · by_cases h0 : x < 0
    · rw [if_pos h0]
    · rw [if_neg h0, if_pos]
      rw [pr_iLe, nI_toInt hn] at hx
      rw [pr_iLt, pr_top hn]
      omega
theorem pr_isC1 {ν : em_MM} {n i : Nat} (h : ν 1 1 = nI n) (hn : n ≤ 8) (hi : i < n) : f_X9_isClient (nI i) ν = some 1 := by
  unfold f_X9_isClient
  rw [pr_gN (by decide) (by decide), pr_cl 1 (by omega), h, pr_in1 (by omega) hi, pr_g (Or.inr rfl)]
theorem pr_isC0 {ν : em_MM} {n : Nat} {x : Int32} (h : ν 1 1 = nI n) (hn : n ≤ 8) (hx : x < 0 ∨ nI n ≤ x) : f_X9_isClient x ν = some 0 := by
  unfold f_X9_isClient
  rw [pr_gN (by decide) (by decide), pr_cl 1 (by omega), h, pr_in0 (by omega) hx, pr_g (Or.inl rfl)]
theorem pr_isS1 {ν : em_MM} {n i : Nat} (h : ν 1 2 = nI n) (hn : n ≤ 20) (hi : i < n) : f_X9_isStory (nI i) ν = some 1 := by
  unfold f_X9_isStory
  rw [pr_gN (by decide) (by decide), pr_cl 2 (by omega), h, pr_in1 (by omega) hi, pr_g (Or.inr rfl)]
theorem pr_isS0 {ν : em_MM} {n : Nat} {x : Int32} (h : ν 1 2 = nI n) (hn : n ≤ 20) (hx : x < 0 ∨ nI n ≤ x) : f_X9_isStory x ν = some 0 := by
  unfold f_X9_isStory
  rw [pr_gN (by decide) (by decide), pr_cl 2 (by omega), h, pr_in0 (by omega) hx, pr_g (Or.inl rfl)]
theorem pr_89 (x y z : Int32) : f_X8_isBetween x y z = f_X9_in x y z := by rw [pr_8in, pr_9in]
theorem pr_in2 {x y z : Int32} (h : ¬ f_X9_in x y z = 0) : y.toInt ≤ x.toInt ∧ x.toInt ≤ z.toInt := by
  rw [pr_9in] at h
  by_cases h1 : x < y
  · rw [if_pos h1] at h; exact absurd rfl h
  · rw [if_neg h1] at h
    by_cases h2 : z < x
    · rw [if_pos h2] at h; exact absurd rfl h
    · rw [pr_iLt] at h1 h2
      omega
theorem pr_emu (ν : em_MM) (a : Nat) (x : Int32) : em_up ν 1 a x = em_sR ν 1 (upd (ν 1) a x) := by
  have h := pr_sRu ν (ν 1) a x
  rw [pr_sRe] at h
  exact h
theorem r_C.up2 {σ : ed_SM} {v : Nat → Int32} {nC : Nat} (h : r_C σ v nC) (hn : nC ≤ 8) {c k : Nat} (hc : c < nC) (hk : k < 6) (x : Int32) (h5 : k = 5 → ed_bo x) (h4 : k = 4 → 0 ≤ x.toInt) (h2 : k = 2 → 0 ≤ x.toInt ∧ x.toInt ≤ 24) : r_C (ed_up σ 11 c k x) (upd v (7 + 10 * c + k) x) nC := by
  refine ⟨fun a i ha hi => ?_, fun a ha => ?_, fun a i g1 g2 g3 g4 => ?_⟩
  · rw [pr_up, pr_upd]
    by_cases hz : a = c ∧ i = k
    · rw [if_pos ⟨rfl, hz⟩, if_pos (by omega)]
    · rw [if_neg (fun z => hz z.2), if_neg (by omega)]
      exact h.1 a i ha hi
  · obtain ⟨g1, g2, g3, g4, g5⟩ := h.2.1 a ha
    rw [pr_upd, pr_upd, pr_upd, pr_upd]
    refine ⟨?_, ?_, ?_, ?_, ?_⟩
    · by_cases hz : 7 + 10 * a + 5 = 7 + 10 * c + k
      · rw [if_pos hz]; exact h5 (by omega)
      · rw [if_neg hz]; exact g1
    · by_cases hz : 7 + 10 * a + 4 = 7 + 10 * c + k
      · rw [if_pos hz]; exact h4 (by omega)
      · rw [if_neg hz]; exact g2
    · rw [if_neg (by omega)]; exact g3
    · by_cases hz : 7 + 10 * a + 2 = 7 + 10 * c + k
      · rw [if_pos hz]; exact (h2 (by omega)).1
      · rw [if_neg hz]; exact g4
    · by_cases hz : 7 + 10 * a + 2 = 7 + 10 * c + k
      · rw [if_pos hz]; exact (h2 (by omega)).2
      · rw [if_neg hz]; exact g5
  · rw [pr_une _ _ (by omega)]; exact h.2.2 a i g1 g2 g3 g4
theorem r_R.upD {σ : ed_SM} {v : Nat → Int32} {h nC nS nK e : Nat} (hR : r_R σ v h nC nS nK e) {c k : Nat} (hc : c < nC) (hk : k < 6) (x : Int32) (h5 : k = 5 → ed_bo x) (h4 : k = 4 → 0 ≤ x.toInt) (h2 : k = 2 → 0 ≤ x.toInt ∧ x.toInt ≤ 24) : r_R (ed_up σ 11 c k x) (upd v (7 + 10 * c + k) x) h nC nS nK e := by
  obtain ⟨qH, qC, qP, qS, qK, qL, qN⟩ := hR
  have b3 : nK ≤ 160 := qH.2.2.2.2.2.2.2.2.2.2.2.2.1
  have b2 : nS ≤ 20 := qH.2.2.2.2.2.2.2.2.2.2.2.1
  have b1 : nC ≤ 8 := qH.2.2.2.2.2.2.2.2.2.2.1
  have oK : ∀ K, K ≠ 11 → ed_up σ 11 c k x K = σ K := fun K hK => by funext i; rw [pr_up_K _ _ hK]
  have ov : ∀ a, a < 7 ∨ 87 ≤ a → upd v (7 + 10 * c + k) x a = v a := fun a ha => by rw [pr_upd, if_neg (by omega)]
  exact ⟨qH.cg (fun k hk => by rw [oK 0 (by decide)]) (fun a ha => ov a (by omega)), qC.up2 b1 hc hk x h5 h4 h2, qP.cg (oK 13 (by decide)) (fun a h1 h2 => ov a (by omega)), qS.cg (oK 7 (by decide)) (oK 8 (by decide)) (oK 9 (by decide)) (oK 10 (by decide)) (fun a h1 h2 => ov a (by omega)) (Nat.le_refl _) b2, qK.cg (oK 12 (by decide)) (fun a h1 h2 => ov a (by omega)) b2 b3, qL.cg (oK 1 (by decide)) (oK 2 (by decide)) (ov 6 (by omega)) (fun a h1 h2 => ov a (by omega)), by rw [r_cnt_cg nS (fun s hs => ov _ (by omega))]; exact qN⟩
/-- both remember, and one state each is changed -/
theorem r_mem0 {μ : ed_CM} {ν : em_MM} (hR : r_REL μ ν) : ∃ μ1 ν1, f_X2_remember 0 μ = some μ1 ∧ f_X9_record ν = some ν1 ∧ μ1 0 = μ 0 ∧ ν1 1 = ν 1 ∧ (∀ σ v, r_X σ v → r_REL (ed_sJ μ1 0 σ) (em_sR ν1 1 v)) ∧ (∀ K, K ≠ 15 → K ≠ 16 → μ1 7 K = μ 7 K) ∧ ν1 6 = ν 6 := by
  obtain ⟨μ1, ν1, a1, a2, a3, a4, a5, a6, a7⟩ := r_mem hR
  exact ⟨μ1, ν1, a1, a2, a4 0 (by omega), a5 1 (by decide) (by decide), fun σ v h => a3.s0 h, a6, a5 6 (by decide) (by decide)⟩
theorem r_bec0 {ν : em_MM} {a : Nat} (ha : a < 1683) {x : Int32} (h : ν 1 a = x) : f_X9_becomes (nI a) x ν = some (-5, ν) := by
  unfold f_X9_becomes
  have h : ν 1 (nI a).toNatClampNeg = x := by rw [nI_clamp (by omega)]; exact h
  rw [pr_gin (by omega) ha, if_pos h]
theorem r_bec1 {μ : ed_CM} {ν : em_MM} (hR : r_REL μ ν) {a : Nat} (ha : a < 1683) {x : Int32} (h : ¬ ν 1 a = x) : ∃ μ1 ν', f_X2_remember 0 μ = some μ1 ∧ f_X9_becomes (nI a) x ν = some (ν 1 a, ν') ∧ μ1 0 = μ 0 ∧ ν' 1 = upd (ν 1) a x ∧ ∀ σ, r_X σ (upd (ν 1) a x) → r_REL (ed_sJ μ1 0 σ) ν' := by
  obtain ⟨μ1, ν1, a1, a2, a3, a4, a5, -⟩ := r_mem0 hR
  refine ⟨μ1, em_sR ν1 1 (upd (ν 1) a x), a1, ?_, a3, pr_sR1 _ _, fun σ hX => a5 σ _ hX⟩
  unfold f_X9_becomes
  have h : ¬ ν 1 (nI a).toNatClampNeg = x := by rw [nI_clamp (by omega)]; exact h
  rw [pr_gin (by omega) ha, if_neg h, a2, pr_b, pr_gin (by omega) ha, pr_gin (by omega) ha, pr_t, nI_clamp (by omega), pr_emu, a4]
theorem r_ok.mk {μ' : ed_CM} {ν' : em_MM} (hR : r_REL μ' ν') (r : Int32) : r_ok (some (r, μ')) (some (r, ν')) := ⟨r, μ', ν', rfl, rfl, hR⟩
theorem m_setTopics {μ : ed_CM} {ν : em_MM} (hR : r_REL μ ν) (x1 x2 : Int32) : r_ok (f_X8_setTopics x1 x2 μ) (f_X9_setTopics x1 x2 ν) := by
  obtain ⟨h, nC, nS, nK, hh, hX⟩ := id hR.1
  obtain ⟨⟨q1, q2, q3, q4, q5, q6, q7, q8, q9, q10, b1, b2, b3, b4⟩, qC, -⟩ := id hX
  unfold f_X8_setTopics f_X9_setTopics
  rcases pr_split x1 (n := nC) (by omega) with ⟨i, hi, rfl⟩ | hx
  · have x0 : (μ 0) 11 i 0 = ν 1 (7 + 10 * i) := qC.1 i 0 hi (by omega)
    rw [pr_clientAt q7 b1 hi, pr_b, pr_isC1 q8 b1 hi, pr_b, if_neg (show ¬ (1 : Int32) = 0 by decide)]
    show r_ok (ed_g _ _) _
    rw [pr_g (by omega), pr_89, x0]
    by_cases hb : f_X9_in x2 1 255 = 0
    · rw [if_pos hb, if_pos hb]; exact r_ok.mk hR _
    · have e0 : f_X9_clientAt (nI i) 0 = nI (7 + 10 * i) := pr_9c i 0
      rw [if_neg hb, if_neg hb, e0]
      by_cases ho : ν 1 (7 + 10 * i) = x2
      · rw [if_pos ho, r_bec0 (by omega) ho, pr_b2]; exact r_ok.mk hR _
      · obtain ⟨μ1, ν', a1, a2, a3, a4, a5⟩ := r_bec1 hR (a := 7 + 10 * i) (by omega) ho
        rw [if_neg ho, a1, a2, pr_b, pr_b2, pr_t, a3, x0]
        exact r_ok.mk (a5 _ ⟨h, nC, nS, nK, hh, hX.upD hi (k := 0) (by omega) x2 (fun g => by omega) (fun g => by omega) (fun g => by omega)⟩) _
  · rw [pr_clientNo q7 b1 hx, pr_b, pr_isC0 q8 b1 hx, pr_b, if_pos rfl]
    exact r_ok.mk hR _
theorem m_setUse {μ : ed_CM} {ν : em_MM} (hR : r_REL μ ν) (x1 : Int32) : r_ok (f_X8_setUse x1 μ) (f_X9_setUse x1 ν) := by
  obtain ⟨h, nC, nS, nK, hh, hX⟩ := id hR.1
  have x0 : (μ 0) 0 0 1 = ν 1 4 := hX.1.2.2.1
  unfold f_X8_setUse f_X9_setUse
  rw [pr_89, x0]
  by_cases hb : f_X9_in x1 1 9 = 0
  · rw [if_pos hb, if_pos hb]; exact r_ok.mk hR _
  · rw [if_neg hb, if_neg hb, show (4 : Int32) = nI 4 from rfl]
    by_cases ho : ν 1 4 = x1
    · rw [if_pos ho, r_bec0 (by omega) ho, pr_b2]; exact r_ok.mk hR _
    · obtain ⟨μ1, ν', a1, a2, a3, a4, a5⟩ := r_bec1 hR (a := 4) (by omega) ho
      rw [if_neg ho, a1, a2, pr_b, pr_b2, pr_t, a3, x0]
      exact r_ok.mk (a5 _ ⟨h, nC, nS, nK, hh, hX.upU x1⟩) _
theorem m_pay {μ : ed_CM} {ν : em_MM} (hR : r_REL μ ν) (x1 x2 : Int32) : r_ok (f_X8_pay x1 x2 μ) (f_X9_pay x1 x2 ν) := by
  obtain ⟨h, nC, nS, nK, hh, hX⟩ := id hR.1
  obtain ⟨⟨q1, q2, q3, q4, q5, q6, q7, q8, q9, q10, b1, b2, b3, b4⟩, qC, -⟩ := id hX
  unfold f_X8_pay f_X9_pay
  rcases pr_split x1 (n := nC) (by omega) with ⟨i, hi, rfl⟩ | hx
  · have x6 : (μ 0) 11 i 6 = ν 1 (7 + 10 * i + 6) := qC.1 i 6 hi (by omega)
    have o6 : ∀ ν' : em_MM, f_X9_ofClient (nI i) 6 ν' = some (ν' 1 (7 + 10 * i + 6)) := fun ν' => pr_ofClient ν' (i := i) (k := 6) (by omega)
    rw [pr_clientAt q7 b1 hi, pr_b, pr_isC1 q8 b1 hi, pr_b, if_neg (show ¬ (1 : Int32) = 0 by decide)]
    show r_ok (ed_g _ _) _
    rw [pr_g (by omega), pr_89, x6]
    by_cases hb : f_X9_in x2 1 2000000000 = 0
    · rw [if_pos hb, if_pos hb]; exact r_ok.mk hR _
    · have hb2 := pr_in2 hb
      have e1 : (1 : Int32).toInt = 1 := by decide
      rw [if_neg hb, if_neg hb, o6, pr_b]
      by_cases ho : x2 ≤ ν 1 (7 + 10 * i + 6)
      · have ho2 := ho
        rw [pr_iLe] at ho2
        have hr := pr_rng (ν 1 (7 + 10 * i + 6))
        have e6 : f_X9_clientAt (nI i) 6 = nI (7 + 10 * i + 6) := pr_9c i 6
        obtain ⟨μ1, ν1, a1, a2, a3, a4, a5, -⟩ := r_mem0 hR
        rw [if_pos ho, if_pos ho, a1, a2, pr_b, pr_b, e6, pr_gin (by omega) (by omega), pr_gin (by omega) (by omega), pr_t, pr_t, nI_clamp (by omega), o6, pr_b, pr_emu, a3, x6, a4, pr_sR1, pr_ueq _ _ rfl, ed_sJ_self, pr_up_same]
        exact r_ok.mk (a5 _ _ ⟨h, nC, nS, nK, hh, hX.upC hi (k := 6) (by omega) (by omega) _ (fun _ => by rw [pr_sub (by omega) (by omega)]; omega)⟩) _
      · rw [if_neg ho, if_neg ho]; exact r_ok.mk hR _
  · rw [pr_clientNo q7 b1 hx, pr_b, pr_isC0 q8 b1 hx, pr_b, if_pos rfl]
    exact r_ok.mk hR _
theorem m_setEmbargo {μ : ed_CM} {ν : em_MM} (hR : r_REL μ ν) (x1 x2 : Int32) : r_ok (f_X8_setEmbargo x1 x2 μ) (f_X9_setEmbargo x1 x2 ν) := by
  obtain ⟨h, nC, nS, nK, hh, hX⟩ := id hR.1
  obtain ⟨⟨q1, q2, q3, q4, q5, q6, q7, q8, q9, q10, b1, b2, b3, b4⟩, qC, qP, qS, -⟩ := id hX
  unfold f_X8_setEmbargo f_X9_setEmbargo
  rcases pr_split x1 (n := nS) (by omega) with ⟨i, hi, rfl⟩ | hx
  · obtain ⟨⟨-, -, a3, -, a5, -⟩, -, -, -, e1, -⟩ := qS i hi
    have o6 : f_X9_ofStory (nI i) 6 ν = some (ν 1 (107 + 29 * i + 6)) := pr_ofStory ν (i := i) (k := 6) (by omega)
    rw [pr_storyAt q5 b2 hi, pr_b, pr_isS1 q6 b2 hi, pr_b, if_neg (show ¬ (1 : Int32) = 0 by decide)]
    show r_ok (ed_g _ _) _
    rw [pr_g (by omega), pr_89, a5, a3]
    by_cases hb : f_X9_in x2 0 999 = 0
    · rw [if_pos hb, if_pos hb]; exact r_ok.mk hR _
    · rw [if_neg hb, if_neg hb, o6, pr_b]
      have i5 : f_X9_storyAt (nI i) 5 = nI (107 + 29 * i + 5) := pr_9s i 5
      rw [i5]
      have core : r_ok (if ν 1 (107 + 29 * i + 5) = x2 then some (-5, μ) else ed_b (f_X2_remember 0 μ) (fun μ6 => ed_t (ed_sJ μ6 0 (ed_up (μ6 0) 7 i 3 x2)) (fun μ7 => (some ((μ6 0 7 i 3), μ7))))) (ed_b2 (f_X9_becomes (nI (107 + 29 * i + 5)) x2 ν) (fun r8 ν8 => (some (r8, ν8)))) := by
        by_cases ho : ν 1 (107 + 29 * i + 5) = x2
        · rw [if_pos ho, r_bec0 (by omega) ho, pr_b2]; exact r_ok.mk hR _
        · obtain ⟨μ1, ν', g1, g2, g3, g4, g5⟩ := r_bec1 hR (a := 107 + 29 * i + 5) (by omega) ho
          rw [if_neg ho, g1, g2, pr_b, pr_b2, pr_t, g3, a3]
          exact r_ok.mk (g5 _ ⟨h, nC, nS, nK, hh, hX.upF hi (kc := 3) (kv := 5) (Or.inr (Or.inl ⟨rfl, rfl⟩)) x2 (fun g => by omega) (fun g => by omega)⟩) _
      by_cases hz : ν 1 (107 + 29 * i + 6) = 0
      · rw [if_pos hz, if_pos (show ν 1 (107 + 29 * i + 6) ≤ 1 by rw [hz]; decide)]
        exact core
      · rw [if_neg hz]
        by_cases hz1 : ν 1 (107 + 29 * i + 6) = 1
        · rw [if_pos hz1, if_pos (show ν 1 (107 + 29 * i + 6) ≤ 1 by rw [hz1]; decide)]
          exact core
        · rw [if_neg hz1, if_neg]
          · exact r_ok.mk hR _
          · obtain ⟨w, hw, hw2⟩ := pr_nn e1
            rw [hw2] at hz hz1 ⊢
            have hz : ¬ nI w = nI 0 := hz
            have hz1 : ¬ nI w = nI 1 := hz1
            rw [pr_eq hw (by omega)] at hz hz1
            show ¬ nI w ≤ nI 1
            rw [pr_le hw (by omega)]
            omega
  · rw [pr_storyNo q5 b2 hx, pr_b, pr_isS0 q6 b2 hx, pr_b, if_pos rfl]
    exact r_ok.mk hR _
theorem m_hold {μ : ed_CM} {ν : em_MM} (hR : r_REL μ ν) (x1 : Int32) : r_ok (f_X8_hold x1 μ) (f_X9_hold x1 ν) := by
  obtain ⟨h, nC, nS, nK, hh, hX⟩ := id hR.1
  obtain ⟨⟨q1, q2, q3, q4, q5, q6, q7, q8, q9, q10, b1, b2, b3, b4⟩, qC, qP, qS, -⟩ := id hX
  unfold f_X8_hold f_X9_hold
  rcases pr_split x1 (n := nS) (by omega) with ⟨i, hi, rfl⟩ | hx
  · obtain ⟨⟨-, -, a3, -, a5, -⟩, -, -, -, e1, e2⟩ := qS i hi
    have o6 : f_X9_ofStory (nI i) 6 ν = some (ν 1 (107 + 29 * i + 6)) := pr_ofStory ν (i := i) (k := 6) (by omega)
    have o5 : ∀ ν' : em_MM, f_X9_ofStory (nI i) 5 ν' = some (ν' 1 (107 + 29 * i + 5)) := fun ν' => pr_ofStory ν' (i := i) (k := 5) (by omega)
    have i6 : f_X9_storyAt (nI i) 6 = nI (107 + 29 * i + 6) := pr_9s i 6
    rw [pr_storyAt q5 b2 hi, pr_b, pr_isS1 q6 b2 hi, pr_b, if_neg (show ¬ (1 : Int32) = 0 by decide)]
    show r_ok (ed_g _ _) _
    rw [pr_g (by omega), a5, o6, pr_b]
    by_cases hz : ν 1 (107 + 29 * i + 6) = 1
    · obtain ⟨μ1, ν1, g1, g2, g3, g4, g5, -⟩ := r_mem0 hR
      rw [if_pos hz, if_pos hz, g1, g2, pr_b, pr_b, i6, pr_gin (by omega) (by omega), pr_t, pr_t, nI_clamp (by omega), o5, pr_b, pr_gN (by decide) (by decide), pr_t, pr_emu, g4, pr_sR1, pr_une _ _ (by omega), pr_cl 0 (by omega), pr_une _ _ (by omega), q2, ed_sJ_self, g3, pr_up_k _ _ (by decide), pr_up_K _ _ (by decide), a3, q1]
      have fin := g5 _ _ ⟨h, nC, nS, nK, hh, hX.upF hi (kc := 6) (kv := 6) (Or.inl ⟨rfl, rfl⟩) 0 (fun _ => ⟨by decide, fun _ => e2 (Or.inr hz)⟩) (fun g => by omega)⟩
      by_cases h1 : ν 1 (107 + 29 * i + 5) - nI h < 0
      · rw [if_pos h1, if_pos (Int32.le_of_lt h1)]; exact r_ok.mk fin _
      · rw [if_neg h1]
        by_cases h2 : ν 1 (107 + 29 * i + 5) - nI h ≤ 0
        · rw [if_pos h2]
          have h3 : ν 1 (107 + 29 * i + 5) - nI h = 0 := Int32.le_antisymm h2 (Int32.not_lt.mp h1)
          rw [h3]
          exact r_ok.mk fin _
        · rw [if_neg h2]; exact r_ok.mk fin _
    · rw [if_neg hz, if_neg hz]; exact r_ok.mk hR _
  · rw [pr_storyNo q5 b2 hx, pr_b, pr_isS0 q6 b2 hx, pr_b, if_pos rfl]
    exact r_ok.mk hR _
theorem r_REL.tx {μ : ed_CM} {ν : em_MM} (hR : r_REL μ ν) {μ' : ed_CM} {ν' : em_MM} (hj : ∀ j, j ≠ 7 → μ' j = μ j) (hK : ∀ K, K ≠ 17 → K ≠ 18 → K ≠ 19 → K ≠ 20 → μ' 7 K = μ 7 K) (hi : ∀ i, i ≠ 0 → i ≠ 5 → i ≠ 6 → ν' i = ν i) (h0 : ∀ k, k ≠ 7 → k ≠ 8 → k ≠ 10 → ν' 0 k = ν 0 k) (hT : r_text μ' ν') : r_REL μ' ν' := by
  obtain ⟨hX, hk, ⟨z, ρ, z1, z2, z3, z4, z5⟩, -⟩ := hR
  refine ⟨by rw [hj 0 (by decide), hi 1 (by decide) (by decide) (by decide)]; exact hX, ?_, ⟨z, ρ, z1, by rw [hK 15 (by decide) (by decide) (by decide) (by decide)]; exact z2, by rw [h0 3 (by decide) (by decide) (by decide)]; exact z3, ⟨fun k hk => by rw [hK 16 (by decide) (by decide) (by decide) (by decide)]; exact z4.1 k hk, z4.2⟩, fun k hk => ?_⟩, hT⟩
  · unfold r_kept
    rw [hK 14 (by decide) (by decide) (by decide) (by decide), h0 5 (by decide) (by decide) (by decide), hj 2 (by decide), hi 4 (by decide) (by decide) (by decide)]
    exact hk
  · have := z4.2.1 k (by omega)
    rw [hj _ (by omega), hi 3 (by decide) (by decide) (by decide)]
    exact z5 k hk
theorem m_clearText {μ : ed_CM} {ν : em_MM} (hR : r_REL μ ν) : r_ok (f_X8_clearText μ) (f_X9_clearText ν) := by
  obtain ⟨t, t1, t2, t3, t4⟩ := id hR.2.2.2
  unfold f_X8_clearText f_X9_clearText
  rw [pr_t, pr_t, t2, t3]
  refine r_ok.mk (hR.tx (μ' := ed_sJ μ 7 (ed_up (μ 7) 17 0 1 0)) (ν' := em_up ν 0 7 0) (fun j h => ed_sJ_ne _ _ h) (fun K h _ _ _ => ?_) (fun i h _ _ => em_ne _ _ _ h) (fun k h _ _ => by rw [em_same, pr_une _ _ h]) ⟨0, by omega, by rw [ed_sJ_self, pr_up_same]; rfl, by rw [em_same, pr_ueq _ _ rfl]; rfl, fun k hk => by omega⟩) _
  rw [ed_sJ_self]
  funext i
  rw [pr_up_K _ _ h]
theorem m_type {μ : ed_CM} {ν : em_MM} (hR : r_REL μ ν) (x1 : Int32) : r_ok (f_X8_type x1 μ) (f_X9_type x1 ν) := by
  obtain ⟨t, t1, t2, t3, t4⟩ := id hR.2.2.2
  unfold f_X8_type f_X9_type
  rw [t2, t3]
  by_cases h : t = 40
  · subst h
    have c : ¬ nI 40 < 40 := by decide
    have c2 : nI 40 = 40 := rfl
    rw [if_neg c, if_pos c2]
    exact r_ok.mk hR _
  · have c : nI t < 40 := by
      show nI t < nI 40
      rw [pr_lt (by omega) (by omega)]; omega
    have c2 : ¬ nI t = 40 := by
      show ¬ nI t = nI 40
      rw [pr_eq (by omega) (by omega)]; omega
    have e2 : f_X8_isPlace (nI t) 40 = 1 := by
      rw [pr_isPlace, if_neg (nI_pos (by omega)), if_neg]
      show ¬ nI 40 ≤ nI t
      rw [pr_le (by omega) (by omega)]; omega
    have e1 : nI t + 1 = nI (t + 1) := nI_add t 1
    rw [if_pos c, if_neg c2]
    unfold f_X7_add
    have n3 : em_up ν 5 t x1 0 7 = nI t := by rw [em_ne _ _ _ (by decide)]; exact t3
    have w4 : ed_up (μ 7) 18 0 t x1 17 0 1 = nI t := by rw [pr_up_K _ _ (by decide)]; exact t2
    rw [t2, e2, if_neg (by decide), pr_gin (by omega) (by omega), pr_t, pr_gin (by omega) (by omega), pr_t, nI_clamp (by omega), w4, e1, pr_t, n3, e1, pr_t, pr_b, pr_t, em_same, pr_ueq _ _ rfl, ed_sJ_self, pr_up_same]
    refine r_ok.mk (hR.tx (μ' := ed_sJ μ 7 (ed_up (ed_up (μ 7) 18 0 t x1) 17 0 1 (nI (t + 1)))) (ν' := em_up (em_up ν 5 t x1) 0 7 (nI (t + 1))) (fun j h => ed_sJ_ne _ _ h) (fun K h h18 _ _ => ?_) (fun i h h5 _ => by rw [em_ne _ _ _ h, em_ne _ _ _ h5]) (fun k h _ _ => by rw [em_same, pr_une _ _ h, em_ne _ _ _ (by decide)]) ⟨t + 1, by omega, by rw [ed_sJ_self, pr_up_same], by rw [em_same, pr_ueq _ _ rfl], fun k hk => ?_⟩) _
    · rw [ed_sJ_self]
      funext i
      rw [pr_up_K _ _ h, pr_up_K _ _ h18]
    · rw [ed_sJ_self, pr_up_K _ _ (by decide), em_ne _ _ _ (by decide), em_same, pr_up, pr_upd]
      by_cases hk2 : k = t
      · rw [if_pos ⟨rfl, rfl, hk2⟩, if_pos hk2]
      · rw [if_neg (fun z => hk2 z.2.2), if_neg hk2]
        exact t4 k (by omega)
