/-! A story that is typed and read. -/
theorem l_parse {σ : ed_SM} {L : List Nat} {t pB pE m e : Nat} {g : Nat → Nat} (hT : σ 17 0 1 = nI L.length ∧ L.length ≤ 40 ∧ ∀ k a, L[k]? = some a → σ 18 0 k = nI a) (hL : L.length = pE + 2) (h0 : L[0]? = some (48 + t)) (ht : t ≤ 7) (h1 : L[1]? = some 32)
    (hB : ∀ σ, l_X σ L 2 → ∃ σ', f_X7_readByline σ = some (1, σ') ∧ l_X σ' L pB ∧ σ' 17 0 4 = nI m ∧ (∀ k, k < m → σ' 19 0 k = nI (g k)) ∧ σ' 17 0 3 = σ 17 0 3) (h2 : L[pB]? = some 32) (h3 : L[pB + 1]? = some 64)
    (hE : ∀ σ, l_X σ L (pB + 2) → ∃ σ', f_X7_readEmbargo σ = some (1, σ') ∧ l_X σ' L pE ∧ σ' 17 0 6 = nI e ∧ σ' 17 0 3 = σ 17 0 3 ∧ σ' 17 0 4 = σ 17 0 4 ∧ σ' 19 = σ 19) (h4 : L[pE]? = some 32) (h5 : L[pE + 1]? = some 110) :
    ∃ σ', f_X7_parse σ = some (-1, σ') ∧ σ' 17 0 3 = nI t ∧ σ' 17 0 4 = nI m ∧ (∀ k, k < m → σ' 19 0 k = nI (g k)) ∧ σ' 17 0 6 = nI e := by
  obtain ⟨t1, t2, t3⟩ := hT
  obtain ⟨σ1, e1⟩ : ∃ σ1, σ1 = ed_up σ 17 0 2 0 := ⟨_, rfl⟩
  have x1 : l_X σ1 L 0 := ⟨t2, Nat.zero_le _, by rw [e1, pr_up_k _ _ (by decide)]; exact t1, fun k a hk => by rw [e1, pr_up_K _ _ (by decide)]; exact t3 k a hk, by rw [e1, pr_up_same]; rfl⟩
  obtain ⟨σ2, a1, x2, a3⟩ := l_topic x1 h0 ht
  have b1 := l_rs1 x2 h1
  have b1 : f_X7_readSign 32 σ2 = some (1, ed_up σ2 17 0 2 (nI (0 + 1 + 1))) := b1
  have x4 := l_nx x2 (l_lt h1)
  obtain ⟨σ6, c1, x6, c3, c4, c5⟩ := hB _ x4
  have d1 := l_rs1 x6 h2
  have d1 : f_X7_readSign 32 σ6 = some (1, ed_up σ6 17 0 2 (nI (pB + 1))) := d1
  have x8 := l_nx x6 (l_lt h2)
  have d2 := l_rs1 x8 h3
  have d2 : f_X7_readSign 64 (ed_up σ6 17 0 2 (nI (pB + 1))) = some (1, ed_up (ed_up σ6 17 0 2 (nI (pB + 1))) 17 0 2 (nI (pB + 1 + 1))) := d2
  have x10 := l_nx x8 (l_lt h3)
  obtain ⟨σ12, f1, x12, f3, f4, f5, f6⟩ := hE _ x10
  have g1 := l_rs1 x12 h4
  have g1 : f_X7_readSign 32 σ12 = some (1, ed_up σ12 17 0 2 (nI (pE + 1))) := g1
  have x14 := l_nx x12 (l_lt h4)
  obtain ⟨σ16, k1, k2, k3, k4, k5⟩ := l_slug x14 h5 (by omega)
  refine ⟨σ16, ?_, ?_, ?_, fun k hk => ?_, ?_⟩
  · unfold f_X7_parse
    rw [← e1, pr_t, a1, pr_b2, if_neg (by decide), b1, pr_b2, if_neg (by decide), c1, pr_b2, if_neg (by decide), d1, pr_b2, if_neg (by decide), d2, pr_b2, if_neg (by decide), f1, pr_b2, if_neg (by decide), g1, pr_b2, if_neg (by decide), k1, pr_b2, if_neg (by decide)]
  · rw [k2, pr_up_k _ _ (by decide), f4, pr_up_k _ _ (by decide), pr_up_k _ _ (by decide), c5, pr_up_k _ _ (by decide)]
    exact a3
  · rw [k3, pr_up_k _ _ (by decide), f5, pr_up_k _ _ (by decide), pr_up_k _ _ (by decide)]
    exact c3
  · rw [k5, pr_up_K _ _ (by decide), f6, pr_up_K _ _ (by decide), pr_up_K _ _ (by decide)]
    exact c4 k hk
  · rw [k4, pr_up_k _ _ (by decide)]
    exact f3
theorem l_parse0 {σ : ed_SM} (h1 : σ 17 0 1 = 0) : ∃ σ', f_X7_parse σ = some (0, σ') := by
  obtain ⟨σ1, e1⟩ : ∃ σ1, σ1 = ed_up σ 17 0 2 0 := ⟨_, rfl⟩
  have x1 : l_X σ1 [] 0 := ⟨Nat.zero_le _, Nat.zero_le _, by rw [e1, pr_up_k _ _ (by decide)]; exact h1, fun k a hk => by simp at hk, by rw [e1, pr_up_same]; rfl⟩
  have s0 : f_X7_sign σ1 = some (-1) := l_sign0 (L := []) x1
  have d0 : f_X7_digit σ1 = some (-1) := by
    unfold f_X7_digit
    rw [s0, pr_b, if_pos (by decide)]
  have t0 : f_X7_readTopic σ1 = some (0, ed_up σ1 17 0 3 (-1)) := by
    unfold f_X7_readTopic
    rw [d0, pr_b, pr_t, pr_up_same, if_pos (by decide)]
  refine ⟨ed_up σ1 17 0 3 (-1), ?_⟩
  unfold f_X7_parse
  rw [← e1, pr_t, t0, pr_b2, if_pos rfl, pr_up_k _ _ (show 2 ≠ 3 by decide), x1.2.2.2.2]
  rfl
theorem i_drop : ∀ (n : Nat) (x : Int32) (μ μ' : ed_CM), f_X2_dropOldest_2 n x μ = some μ' → (∀ j, j ≠ 7 → μ' j = μ j) ∧ ∀ K, K ≠ 15 → K ≠ 16 → μ' 7 K = μ 7 K := by
  intro n
  induction n with
  | zero => intro x μ μ' hf; cases hf
  | succ n ih =>
    intro x μ μ' hf
    rw [f_X2_dropOldest_2] at hf
    split at hf
    · obtain ⟨μ2, e2, hf⟩ := ed_t_e hf
      obtain rfl := Option.some.inj hf
      exact ⟨fun j hj => by rw [e2, ed_sJ_ne _ _ hj], fun K h1 h2 => by rw [e2, ed_sJ_self]; funext i; rw [pr_up_K _ _ h1]⟩
    · obtain ⟨-, hf⟩ := ed_g_e hf
      obtain ⟨j4, e4, hf⟩ := ed_t_e hf
      obtain ⟨-, hf⟩ := ed_g_e hf
      obtain ⟨j6, e6, hf⟩ := ed_t_e hf
      obtain ⟨-, hf⟩ := ed_g_e hf
      obtain ⟨μ8, e8, hf⟩ := ed_t_e hf
      obtain ⟨-, hf⟩ := ed_g_e hf
      obtain ⟨μ10, e10, hf⟩ := ed_t_e hf
      obtain ⟨b1, b2⟩ := ih _ _ _ hf
      refine ⟨fun j hj => by rw [b1 j hj, e10, ed_sJ_ne _ _ hj, e8, ed_sJ_ne _ _ hj], fun K h1 h2 => ?_⟩
      rw [b2 K h1 h2, e10, ed_sJ_self]
      funext i
      rw [pr_up_K _ _ h2, e8, ed_sJ_self, pr_up_K _ _ h2]
theorem i_rem {μ μ' : ed_CM} (hf : f_X2_remember 0 μ = some μ') : μ' 0 = μ 0 ∧ ∀ K, K ≠ 15 → K ≠ 16 → μ' 7 K = μ 7 K := by
  have key : ∀ μ1 : ed_CM, (if (f_X8_isPlace (μ1 7 15 0 1) 4) = 0 then some μ1 else ed_g (ed_in (μ1 7 15 0 1) 4) ( ed_t ((μ1 7 16 0 ((μ1 7 15 0 1).toNatClampNeg)).toNatClampNeg % 7) (fun j5q => ed_g ((0 : Nat) ≠ j5q) ( ed_b (f_X5_copyFrom (μ1 0) (μ1 j5q)) (fun σ7 => ed_t (ed_sJ μ1 j5q σ7) (fun μ8 => ed_t (ed_sJ μ8 7 (ed_up (μ8 7) 15 0 1 ((μ8 7 15 0 1) + 1))) (fun μ9 => (some μ9)))))))) = some μ' → μ' 0 = μ1 0 ∧ ∀ K, K ≠ 15 → K ≠ 16 → μ' 7 K = μ1 7 K := by
    intro μ1 hf
    split at hf
    · obtain rfl := Option.some.inj hf
      exact ⟨rfl, fun _ _ _ => rfl⟩
    · obtain ⟨-, hf⟩ := ed_g_e hf
      obtain ⟨j5, e5, hf⟩ := ed_t_e hf
      obtain ⟨h5, hf⟩ := ed_g_e hf
      have h7 : j5 < 7 := by rw [e5]; exact Nat.mod_lt _ (by decide)
      obtain ⟨σ7, e7, hf⟩ := ed_b_e hf
      obtain ⟨μ8, e8, hf⟩ := ed_t_e hf
      obtain ⟨μ9, e9, hf⟩ := ed_t_e hf
      obtain rfl := Option.some.inj hf
      refine ⟨by rw [e9, ed_sJ_ne _ _ (by decide), e8, ed_sJ_ne _ _ h5], fun K h1 h2 => ?_⟩
      rw [e9, ed_sJ_self]
      funext i
      rw [pr_up_K _ _ h1, e8, ed_sJ_ne _ _ (show 7 ≠ j5 by omega)]
  unfold f_X2_remember at hf
  split at hf
  · exact key μ hf
  · obtain ⟨μ10, e10, hf⟩ := ed_b_e hf
    obtain ⟨b1, b2⟩ := i_drop _ _ _ _ e10
    obtain ⟨c1, c2⟩ := key μ10 hf
    exact ⟨by rw [c1, b1 0 (by decide)], fun K h1 h2 => by rw [c2 K h1 h2, b2 K h1 h2]⟩
/-- the text that was typed so far -/
def l_T (μ : ed_CM) (L : List Nat) : Prop := μ 7 17 0 1 = nI L.length ∧ L.length ≤ 40 ∧ ∀ k a, L[k]? = some a → μ 7 18 0 k = nI a
theorem g_type {μ : ed_CM} {M pd : Int} {h nC nS nK : Nat} (G : j_G μ M pd h nC nS nK) {L : List Nat} (T : l_T μ L) (hl : L.length < 40) (a : Nat) : ∃ μ', f_X8_type (nI a) μ = some (nI (L.length + 1), μ') ∧ j_G μ' M pd h nC nS nK ∧ l_T μ' (L ++ [a]) := by
  obtain ⟨⟨ν, hR⟩, H⟩ := G
  obtain ⟨t1, t2, t3⟩ := T
  obtain ⟨r, μ', ν', hf, h9, hR'⟩ := m_type hR (nI a)
  have hf0 := hf
  unfold f_X8_type at hf
  rw [t1] at hf
  replace hf := ed_ip (show nI L.length < 40 by show nI L.length < nI 40; rw [pr_lt (by omega) (by omega)]; exact hl) hf
  obtain ⟨σ2, e2, hf⟩ := ed_b_e hf
  obtain ⟨μ3, e3, hf⟩ := ed_t_e hf
  obtain ⟨rfl, rfl⟩ := ed_so hf
  unfold f_X7_add at e2
  have ip : ¬ f_X8_isPlace (μ 7 17 0 1) 40 = 0 := by
    rw [t1, pr_isPlace, if_neg (nI_pos (by omega)), if_neg (show ¬ (40 : Int32) ≤ nI L.length by show ¬ nI 40 ≤ nI L.length; rw [pr_le (by omega) (by omega)]; omega)]
    decide
  replace e2 := ed_in_ ip e2
  obtain ⟨-, e2⟩ := ed_g_e e2
  obtain ⟨σ4, f4, e2⟩ := ed_t_e e2
  obtain ⟨σ5, f5, e2⟩ := ed_t_e e2
  obtain rfl := Option.some.inj e2
  rw [t1, nI_clamp (by omega)] at f4
  have s3 : μ3 7 = σ5 := by rw [e3, ed_sJ_self]
  have z0 : μ3 0 = μ 0 := by rw [e3, ed_sJ_ne _ _ (by decide)]
  have v1 : μ3 7 17 0 1 = nI (L.length + 1) := by
    rw [s3, f5, pr_up_same, f4, pr_up_K _ _ (by decide), t1, nI_1]
  rw [v1] at hf0
  refine ⟨μ3, hf0, ⟨⟨ν', hR'⟩, by rw [z0]; exact H⟩, ?_, ?_, fun k b hk => ?_⟩
  · rw [v1, List.length_append]
    rfl
  · rw [List.length_append]
    show L.length + 1 ≤ 40
    omega
  · rw [s3, f5, pr_up_K _ _ (by decide), f4, pr_up]
    by_cases hkl : k = L.length
    · subst hkl
      rw [List.getElem?_append_right (Nat.le_refl _), Nat.sub_self] at hk
      rw [if_pos ⟨rfl, rfl, rfl⟩]
      exact congrArg nI (Option.some.inj hk)
    · rw [if_neg (fun q => hkl q.2.2)]
      have hlt := l_lt hk
      rw [List.length_append] at hlt
      have hlt : k < L.length := by
        have : k < L.length + 1 := hlt
        omega
      rw [List.getElem?_append_left hlt] at hk
      exact t3 k b hk
theorem g_clear {μ : ed_CM} {M pd : Int} {h nC nS nK : Nat} (G : j_G μ M pd h nC nS nK) : ∃ r μ', f_X8_clearText μ = some (r, μ') ∧ ¬ r < 0 ∧ j_G μ' M pd h nC nS nK ∧ l_T μ' [] := by
  obtain ⟨⟨ν, hR⟩, H⟩ := G
  obtain ⟨r, μ', ν', hf, h9, hR'⟩ := m_clearText hR
  have hf0 := hf
  obtain ⟨t, ht, t1, -⟩ := hR.2.2.2
  unfold f_X8_clearText at hf
  obtain ⟨μ1, e1, hf⟩ := ed_t_e hf
  obtain ⟨rfl, rfl⟩ := ed_so hf
  refine ⟨_, μ1, hf0, by rw [t1]; exact nI_pos (by omega), ⟨⟨ν', hR'⟩, by rw [e1, ed_sJ_ne _ _ (by decide)]; exact H⟩, by rw [e1, ed_sJ_self, pr_up_same]; rfl, Nat.zero_le _, fun k a hk => by simp at hk⟩
/-- what the text says -/
def l_Q (μ : ed_CM) (t m e : Nat) (g : Nat → Nat) : Prop := ∃ σ', f_X7_parse (μ 7) = some (-1, σ') ∧ σ' 17 0 3 = nI t ∧ σ' 17 0 4 = nI m ∧ (∀ k, k < m → σ' 19 0 k = nI (g k)) ∧ σ' 17 0 6 = nI e
theorem g_read20 {μ : ed_CM} {M pd : Int} {h nC nK t m e : Nat} {g : Nat → Nat} (G : j_G μ M pd h nC 20 nK) (Q : l_Q μ t m e g) : ∃ μ', f_X8_readStory μ = some (-3, μ') ∧ j_G μ' M pd h nC 20 nK := by
  obtain ⟨⟨ν, hR⟩, H⟩ := G
  obtain ⟨σ', p1, -⟩ := Q
  obtain ⟨⟨a0, a3, -⟩, -⟩ := id H
  obtain ⟨r, μ', ν', hf, h9, hR'⟩ := m_readStory hR
  have hf0 := hf
  unfold f_X8_readStory at hf
  rw [p1, pr_b2] at hf
  obtain ⟨μ2, e2, hf⟩ := ed_t_e hf
  have z0 : μ2 0 = μ 0 := by rw [e2, ed_sJ_ne _ _ (by decide)]
  replace hf := ed_ip rfl hf
  rw [z0, a3] at hf
  replace hf := ed_in_ (by decide) hf
  obtain ⟨rfl, rfl⟩ := ed_so hf
  exact ⟨μ2, hf0, ⟨ν', hR'⟩, by rw [z0]; exact H⟩
theorem g_readE {μ : ed_CM} {M pd : Int} {h nC nS nK : Nat} (G : j_G μ M pd h nC nS nK) (h1 : μ 7 17 0 1 = 0) : ∃ μ', f_X8_readStory μ = some (-100, μ') ∧ j_G μ' M pd h nC nS nK ∧ μ' 0 = μ 0 := by
  obtain ⟨⟨ν, hR⟩, H⟩ := G
  obtain ⟨σ', p1⟩ := l_parse0 h1
  obtain ⟨r, μ', ν', hf, h9, hR'⟩ := m_readStory hR
  have hf0 := hf
  unfold f_X8_readStory at hf
  rw [p1, pr_b2] at hf
  obtain ⟨μ2, e2, hf⟩ := ed_t_e hf
  have z0 : μ2 0 = μ 0 := by rw [e2, ed_sJ_ne _ _ (by decide)]
  replace hf := ed_in_ (by decide) hf
  obtain ⟨rfl, rfl⟩ := ed_so hf
  exact ⟨μ2, hf0, ⟨⟨ν', hR'⟩, by rw [z0]; exact H⟩, z0⟩
theorem g_read {μ : ed_CM} {M pd : Int} {h nC nS nK t m e : Nat} {g : Nat → Nat} (G : j_G μ M pd h nC nS nK) (h20 : nS < 20) (Q : l_Q μ t m e g) (hm : 1 ≤ m ∧ m ≤ 3) (hg : ∀ k, k < m → g k < 10) (hd : ∀ k k', k < m → k' < m → g k = g k' → k = k') : ∃ μ', f_X8_readStory μ = some (nI nS, μ') ∧ j_G μ' M pd h nC (nS + 1) nK ∧ μ' 0 7 nS 0 = nI t ∧ μ' 0 7 nS 1 = nI m ∧ μ' 0 7 nS 3 = nI e ∧ μ' 0 7 nS 6 = 0 ∧ μ' 0 8 nS 0 = nI (g 0) := by
  obtain ⟨⟨ν, hR⟩, H⟩ := G
  obtain ⟨σ', p1, p2, p3, p4, p5⟩ := Q
  obtain ⟨⟨a0, a3, a4, a5, a6, a7, a8, a9⟩, C, P, S, K, m1, m2, m3⟩ := id H
  obtain ⟨r, μ', ν', hf, h9, hR'⟩ := m_readStory hR
  have hf0 := hf
  unfold f_X8_readStory at hf
  rw [p1, pr_b2] at hf
  obtain ⟨μ2, e2, hf⟩ := ed_t_e hf
  have z0 : μ2 0 = μ 0 := by rw [e2, ed_sJ_ne _ _ (by decide)]
  have z7 : μ2 7 = σ' := by rw [e2, ed_sJ_self]
  replace hf := ed_ip rfl hf
  replace hf := ed_ip (show μ2 0 0 0 3 < 20 by rw [z0, a3]; show nI nS < nI 20; rw [pr_lt (by omega) (by omega)]; exact h20) hf
  obtain ⟨μ5, e5, hf⟩ := ed_b_e hf
  obtain ⟨w0, w7⟩ := i_rem e5
  rw [z0] at w0
  obtain ⟨μ6, e6, hf⟩ := ed_t_e hf
  rw [w0, a3, nI_1] at e6
  have s6 : μ6 0 = ed_up (μ 0) 0 0 3 (nI (nS + 1)) := by rw [e6, ed_sJ_self]
  have f6 : μ6 0 0 0 3 = nI (nS + 1) := by rw [s6, pr_up_same]
  have s67 : ∀ K, K ≠ 15 → K ≠ 16 → μ6 7 K = σ' K := fun K h1 h2 => by rw [e6, ed_sJ_ne _ _ (by decide), w7 K h1 h2, z7]
  rw [w0, a3, pr_storyAt f6 (by omega) (show nS < nS + 1 by omega), pr_b] at hf
  replace hf : ed_g (nS < 20) _ = some (r, μ') := hf
  obtain ⟨-, hf⟩ := ed_g_e hf
  obtain ⟨σ8, e8, hf⟩ := ed_b_e hf
  obtain ⟨μ9, e9, hf⟩ := ed_t_e hf
  obtain ⟨rfl, rfl⟩ := ed_so hf
  have s9 : μ9 0 = σ8 := by rw [e9, ed_sJ_self]
  obtain ⟨σb, q1, ⟨d0, d1, d3, d4, d6, d7, d9, d10⟩, q8, q9, qi, qK⟩ := r_begin (μ6 7) (μ6 0) nS
  rw [e8] at q1
  obtain rfl := Option.some.inj q1
  have g8 : ∀ k, k < m → σ8 8 nS k = nI (g k) := fun k hk => by rw [q8 k (by omega), s67 19 (by decide) (by decide)]; exact p4 k hk
  have kK : ∀ K, K ≠ 0 → K ≠ 7 → K ≠ 8 → K ≠ 9 → K ≠ 10 → σ8 K = μ 0 K := fun K h0 h1 h2 h3 h4 => by
    rw [qK K h1 h2 h3 h4, s6]
    funext i
    rw [pr_up_K _ _ h0]
  have ki : ∀ K i, K ≠ 0 → i ≠ nS → σ8 K i = μ 0 K i := fun K i h0 hi => by rw [qi K i hi, s6, pr_up_K _ _ h0]
  have k0 : ∀ k, k ≠ 3 → σ8 0 0 k = μ 0 0 0 k := fun k hk => by rw [qK 0 (by decide) (by decide) (by decide) (by decide), s6, pr_up_k _ _ hk]
  have v1 : σ8 7 nS 1 = nI m := by rw [d1, s67 17 (by decide) (by decide)]; exact p3
  have eg : j_g σ8 = j_g (μ 0) := by unfold j_g; rw [kK 13 (by decide) (by decide) (by decide) (by decide) (by decide)]
  have eo : j_o σ8 = j_o (μ 0) := by unfold j_o; rw [kK 11 (by decide) (by decide) (by decide) (by decide) (by decide)]
  have t0 : (0 : Int32).toInt = 0 := by decide
  refine ⟨μ9, hf0, ⟨⟨ν', hR'⟩, ?_⟩, ?_, ?_, ?_, ?_, ?_⟩
  · rw [s9]
    refine ⟨⟨by rw [k0 0 (by decide)]; exact a0, by rw [qK 0 (by decide) (by decide) (by decide) (by decide)]; exact f6, by rw [k0 4 (by decide)]; exact a4, by rw [k0 5 (by decide)]; exact a5, a6, by omega, a8, a9⟩, fun c hc => ?_, fun q hq => ?_, fun s hs => ?_, fun p hp => ?_, by rw [eg, eo]; exact m1, by rw [eg]; exact m2, m3⟩
    · unfold j_C1; rw [kK 11 (by decide) (by decide) (by decide) (by decide) (by decide)]; exact C c hc
    · rw [kK 13 (by decide) (by decide) (by decide) (by decide) (by decide)]; exact P q hq
    · by_cases he : s = nS
      · subst he
        unfold j_S1
        rw [d6, d7, d9, v1, t0]
        refine ⟨⟨m, hm.1, hm.2, rfl, fun k hk => ⟨g k, hg k hk, g8 k hk⟩, fun k k' hk hk' hkk => hd k k' hk hk' ?_⟩, by omega, by omega, by omega, by omega, Or.inl rfl, fun _ => rfl⟩
        rw [g8 k hk, g8 k' hk'] at hkk
        have h1 := hg k hk
        have h2 := hg k' hk'
        exact (nI_eq (by omega) (by omega)).mp hkk
      · unfold j_S1
        rw [ki 7 s (by decide) he, ki 8 s (by decide) he]
        exact S s (by omega)
    · obtain ⟨s, c, b1, b2, b3⟩ := K p hp
      refine ⟨s, c, by omega, b2, ?_⟩
      rw [ki 7 s (by decide) (by omega), kK 11 (by decide) (by decide) (by decide) (by decide) (by decide), kK 12 (by decide) (by decide) (by decide) (by decide) (by decide)]
      exact b3
  · rw [s9, d0, s67 17 (by decide) (by decide)]; exact p2
  · rw [s9]; exact v1
  · rw [s9, d3, s67 17 (by decide) (by decide)]; exact p5
  · rw [s9]; exact d6
  · rw [s9]; exact g8 0 (by omega)
