/-! The law types a story and reads it. -/
theorem l_ch {a : Nat} (ha : a < 65536) : ((nI a).toUInt32 % 65536).toInt32 = nI a := by
  rw [pk_char, pk_tn (by omega), Nat.mod_eq_of_lt ha]
theorem l_48 (a : Nat) : (48 : Int32) + nI a = nI (48 + a) := nI_add 48 a
theorem l_199 {μ : ed_CM} {M pd : Int} {h nC nS nK y f e b : Nat} {g : Nat → Nat} (G : j_G μ M pd h nC nS nK) (hy : y < 2 ^ 31) (hb : (y / 2 ^ 6) % 2 ^ 1 = b) (hb2 : b ≤ 1) (g0 : g 0 = f) (Q : l_Q μ (y % 3) (1 + b) e g) (hg : ∀ k, k < 1 + b → g k < 10) (hd : ∀ k k', k < 1 + b → k' < 1 + b → g k = g k' → k = k') : ∃ μ' nS', f_L_reads_199 (nI y) 1 (nI f) (nI e) μ = some (1, μ') ∧ j_G μ' M pd h nC nS' nK := by
  obtain ⟨⟨a0, a3, a4, a5, a6, a7, a8, a9⟩, -⟩ := id G.2
  have s6 : nI y >>> ((6 : Int32) &&& 31) = nI (y / 2 ^ 6) := pk_shrN hy _ 6 (by decide)
  have b6 : y / 2 ^ 6 < 2 ^ 31 := Nat.lt_of_le_of_lt (Nat.div_le_self _ _) hy
  have a1 : nI (y / 2 ^ 6) &&& 1 = nI b := by rw [pk_andN (by omega) 1 (by decide), hb]
  have e3 : nI y - nI y / 3 * 3 = nI (y % 3) := pk_rem (d := 3) hy (by omega) (by omega)
  unfold f_L_reads_199
  rw [q_count2, pr_b, a3, if_neg (by decide)]
  by_cases h20 : nS = 20
  · subst h20
    obtain ⟨μ', r1, r2⟩ := g_read20 G Q
    rw [if_pos (by decide), r1, pr_b2, if_pos rfl]
    exact ⟨μ', 20, rfl, r2⟩
  · obtain ⟨μ', r1, r2, r3, r4, r5, r6, r7⟩ := g_read G (by omega) Q (by omega) hg hd
    have c3 : μ' 0 0 0 3 = nI (nS + 1) := r2.2.1.2.1
    rw [if_neg (show ¬ nI nS = 20 by show ¬ nI nS = nI 20; rw [pr_eq (by omega) (by omega)]; omega), r1, pr_b2, if_pos rfl, q_story0 c3 (by omega) (by omega), pr_b, r3, e3, if_pos rfl, q_story2 c3 (by omega) (by omega), pr_b, r5, if_pos rfl]
    have qb := q_byline (k := 0) c3 (by omega) (show nS < nS + 1 by omega) r4 (by omega) (by omega)
    have qb : f_X8_byline (nI nS) 0 μ' = some (μ' 0 8 nS 0) := qb
    rw [qb, pr_b, r7, g0, if_pos rfl, q_story1 c3 (by omega) (by omega), pr_b, r4, s6, a1, if_pos (show nI (1 + b) = 1 + nI b from (nI_add 1 b).symm), q_story3 c3 (by omega) (by omega), pr_b, r6, if_pos rfl]
    exact ⟨μ', nS + 1, rfl, r2⟩
theorem l_159 {μ : ed_CM} {M pd : Int} {h nC nS nK y f e b : Nat} {g : Nat → Nat} (G : j_G μ M pd h nC nS nK) (hy : y < 2 ^ 31) (hb : (y / 2 ^ 6) % 2 ^ 1 = b) (hb2 : b ≤ 1) (g0 : g 0 = f) (he : e < 90) {L : List Nat} (T : l_T μ L) (hL : L.length ≤ 20) (Q : ∀ μ', l_T μ' (L ++ [48 + e % 10] ++ [32] ++ [110]) → l_Q μ' (y % 3) (1 + b) e g) (hg : ∀ k, k < 1 + b → g k < 10) (hd : ∀ k k', k < 1 + b → k' < 1 + b → g k = g k' → k = k') : ∃ μ' nS', f_L_reads_159 (nI y) (nI f) (nI e) μ = some (1, μ') ∧ j_G μ' M pd h nC nS' nK := by
  have e10 : nI e - nI e / 10 * 10 = nI (e % 10) := pk_rem (d := 10) (by omega) (by omega) (by omega)
  obtain ⟨μ1, r1, G1, T1⟩ := g_type G T (by omega) (48 + e % 10)
  have n1 : (L ++ [48 + e % 10]).length = L.length + 1 := by rw [List.length_append]; rfl
  obtain ⟨μ2, r2, G2, T2⟩ := g_type G1 T1 (by omega) 32
  have n2 : (L ++ [48 + e % 10] ++ [32]).length = L.length + 2 := by rw [List.length_append, n1]; rfl
  obtain ⟨μ3, r3, G3, T3⟩ := g_type G2 T2 (by omega) 110
  have r2 : f_X8_type 32 μ1 = some (nI ((L ++ [48 + e % 10]).length + 1), μ2) := r2
  have r3 : f_X8_type 110 μ2 = some (nI ((L ++ [48 + e % 10] ++ [32]).length + 1), μ3) := r3
  unfold f_L_reads_159
  rw [e10, l_48, l_ch (by omega), r1, pr_b2, if_neg (nI_nle (by omega) (by omega)), r2, pr_b2, if_neg (nI_nle (by omega) (by omega)), r3, pr_b2, if_neg (nI_nle (by omega) (by omega))]
  exact l_199 G3 hy hb hb2 g0 (Q μ3 T3) hg hd
theorem l_105r {μ : ed_CM} {M pd : Int} {h nC nS nK y f e b : Nat} {g : Nat → Nat} (G : j_G μ M pd h nC nS nK) (hy : y < 2 ^ 31) (hb : (y / 2 ^ 6) % 2 ^ 1 = b) (hb2 : b ≤ 1) (g0 : g 0 = f) (he : (y / 2 ^ 7) % 90 = e) {L : List Nat} (T : l_T μ L) (hL : L.length ≤ 5) (Q1 : e < 10 → ∀ μ', l_T μ' (L ++ [32] ++ [64] ++ [48 + e % 10] ++ [32] ++ [110]) → l_Q μ' (y % 3) (1 + b) e g) (Q2 : 10 ≤ e → ∀ μ', l_T μ' (L ++ [32] ++ [64] ++ [48 + e / 10] ++ [48 + e % 10] ++ [32] ++ [110]) → l_Q μ' (y % 3) (1 + b) e g) (hg : ∀ k, k < 1 + b → g k < 10) (hd : ∀ k k', k < 1 + b → k' < 1 + b → g k = g k' → k = k') : ∃ μ' nS', f_L_reads_105 (nI y) 1 (nI f) μ = some (1, μ') ∧ j_G μ' M pd h nC nS' nK := by
  have s7 : nI y >>> ((7 : Int32) &&& 31) = nI (y / 2 ^ 7) := pk_shrN hy _ 7 (by decide)
  have b7 : y / 2 ^ 7 < 2 ^ 31 := Nat.lt_of_le_of_lt (Nat.div_le_self _ _) hy
  have e90 : nI (y / 2 ^ 7) - nI (y / 2 ^ 7) / 90 * 90 = nI e := by rw [show (90 : Int32) = nI 90 from rfl, pk_rem b7 (by omega) (by omega), he]
  have he90 : e < 90 := by rw [← he]; exact Nat.mod_lt _ (by omega)
  have e10 : nI e / 10 = nI (e / 10) := pk_div (d := 10) (by omega) (by omega) (by omega)
  obtain ⟨μ1, r1, G1, T1⟩ := g_type G T (by omega) 32
  have n1 : (L ++ [32]).length = L.length + 1 := by rw [List.length_append]; rfl
  obtain ⟨μ2, r2, G2, T2⟩ := g_type G1 T1 (by omega) 64
  have n2 : (L ++ [32] ++ [64]).length = L.length + 2 := by rw [List.length_append, n1]; rfl
  have r1 : f_X8_type 32 μ = some (nI (L.length + 1), μ1) := r1
  have r2 : f_X8_type 64 μ1 = some (nI ((L ++ [32]).length + 1), μ2) := r2
  unfold f_L_reads_105
  rw [s7, e90, pr_t, if_neg (by decide), r1, pr_b2, if_neg (nI_nle (by omega) (by omega)), r2, pr_b2, if_neg (nI_nle (by omega) (by omega))]
  by_cases h10 : e < 10
  · rw [if_pos (show nI e < 10 by show nI e < nI 10; rw [pr_lt (by omega) (by omega)]; exact h10)]
    exact l_159 G2 hy hb hb2 g0 he90 T2 (by omega) (Q1 h10) hg hd
  · obtain ⟨μ3, r3, G3, T3⟩ := g_type G2 T2 (by omega) (48 + e / 10)
    have n3 : (L ++ [32] ++ [64] ++ [48 + e / 10]).length = L.length + 3 := by rw [List.length_append, n2]; rfl
    rw [if_neg (show ¬ nI e < 10 by show ¬ nI e < nI 10; rw [pr_lt (by omega) (by omega)]; exact h10), e10, l_48, l_ch (by omega), r3, pr_b2, if_neg (nI_nle (by omega) (by omega))]
    exact l_159 G3 hy hb hb2 g0 he90 T3 (by omega) (Q2 (by omega)) hg hd
theorem l_reads {μ : ed_CM} {M pd : Int} {h nC nS nK y : Nat} (G : j_G μ M pd h nC nS nK) (hy : y < 2 ^ 31) : ∃ μ' nS', f_L_reads (nI y) μ = some (1, μ') ∧ j_G μ' M pd h nC nS' nK := by
  have s2 : nI y >>> ((2 : Int32) &&& 31) = nI (y / 2 ^ 2) := pk_shrN hy _ 2 (by decide)
  have b2 : y / 2 ^ 2 < 2 ^ 31 := Nat.lt_of_le_of_lt (Nat.div_le_self _ _) hy
  have s6 : nI y >>> ((6 : Int32) &&& 31) = nI (y / 2 ^ 6) := pk_shrN hy _ 6 (by decide)
  have b6 : y / 2 ^ 6 < 2 ^ 31 := Nat.lt_of_le_of_lt (Nat.div_le_self _ _) hy
  have e3 : nI y - nI y / 3 * 3 = nI (y % 3) := pk_rem (d := 3) hy (by omega) (by omega)
  have t3 : y % 3 ≤ 2 := by omega
  generalize ht : y % 3 = t at e3 t3
  obtain ⟨f, hf⟩ : ∃ f, (y / 2 ^ 2) % 10 = f := ⟨_, rfl⟩
  have hf10 : f < 10 := by rw [← hf]; exact Nat.mod_lt _ (by omega)
  have ef : nI (y / 2 ^ 2) - nI (y / 2 ^ 2) / 10 * 10 = nI f := by rw [show (10 : Int32) = nI 10 from rfl, pk_rem b2 (by omega) (by omega), hf]
  obtain ⟨b, hb⟩ : ∃ b, (y / 2 ^ 6) % 2 ^ 1 = b := ⟨_, rfl⟩
  have hb2 : b ≤ 1 := by
    have : (y / 2 ^ 6) % 2 ^ 1 < 2 ^ 1 := Nat.mod_lt _ (by omega)
    omega
  have eb : nI (y / 2 ^ 6) &&& 1 = nI b := by rw [pk_andN (by omega) 1 (by decide), hb]
  obtain ⟨e, he⟩ : ∃ e, (y / 2 ^ 7) % 90 = e := ⟨_, rfl⟩
  have he90 : e < 90 := by rw [← he]; exact Nat.mod_lt _ (by omega)
  obtain ⟨r0, μ0, q0, q1, G0, T0⟩ := g_clear G
  obtain ⟨μ1, r1, G1, T1⟩ := g_type G0 T0 (Nat.le_of_ble_eq_true rfl) (48 + t)
  obtain ⟨μ2, r2, G2, T2⟩ := g_type G1 T1 (Nat.le_of_ble_eq_true rfl) 32
  obtain ⟨μ3, r3, G3, T3⟩ := g_type G2 T2 (Nat.le_of_ble_eq_true rfl) (48 + f)
  have r2 : f_X8_type 32 μ1 = some (2, μ2) := r2
  have r1 : f_X8_type (nI (48 + t)) μ0 = some (1, μ1) := r1
  have r3 : f_X8_type (nI (48 + f)) μ2 = some (3, μ3) := r3
  unfold f_L_reads
  rw [q0, pr_b2, if_neg q1, e3, l_48, l_ch (by omega), r1, pr_b2, if_pos rfl, r2, pr_b2, if_pos rfl]
  unfold f_L_reads_38
  rw [s2, ef, pr_t, if_neg (by decide), l_48, l_ch (by omega), r3, pr_b2, if_pos rfl, s6, eb]
  have emb1 : e < 10 → ∀ (L : List Nat) (p : Nat), L[p]? = some (48 + e % 10) → L[p + 1]? = some 32 → ∀ σ, l_X σ L p → ∃ σ', f_X7_readEmbargo σ = some (1, σ') ∧ l_X σ' L (p + 1) ∧ σ' 17 0 6 = nI e ∧ σ' 17 0 3 = σ 17 0 3 ∧ σ' 17 0 4 = σ 17 0 4 ∧ σ' 19 = σ 19 := fun h10 L p h1 h2 σ hx => by
    rw [show e % 10 = e by omega] at h1
    exact l_emb1 hx h1 (by omega) h2
  have emb2 : 10 ≤ e → ∀ (L : List Nat) (p : Nat), L[p]? = some (48 + e / 10) → L[p + 1]? = some (48 + e % 10) → L[p + 2]? = some 32 → ∀ σ, l_X σ L p → ∃ σ', f_X7_readEmbargo σ = some (1, σ') ∧ l_X σ' L (p + 2) ∧ σ' 17 0 6 = nI e ∧ σ' 17 0 3 = σ 17 0 3 ∧ σ' 17 0 4 = σ 17 0 4 ∧ σ' 19 = σ 19 := fun h10 L p h1 h2 h3 σ hx => by
    have := l_emb2 hx h1 (by omega) h2 (by omega) h3
    rw [show e / 10 * 10 + e % 10 = e by omega] at this
    exact this
  by_cases hb0 : b = 0
  · subst hb0
    rw [if_pos (show nI 0 = 0 from rfl)]
    have byl : ∀ (L : List Nat), L[2]? = some (48 + f) → L[3]? = some 32 → ∀ σ, l_X σ L 2 → ∃ σ', f_X7_readByline σ = some (1, σ') ∧ l_X σ' L 3 ∧ σ' 17 0 4 = nI (1 + 0) ∧ (∀ k, k < 1 + 0 → σ' 19 0 k = nI f) ∧ σ' 17 0 3 = σ 17 0 3 := fun L h1 h2 σ hx => by
      obtain ⟨σ', y1, y2, y3, y4, y5⟩ := l_byl1 hx h1 (by omega) h2
      exact ⟨σ', y1, y2, y3, fun k hk => by obtain rfl : k = 0 := by omega
                                            exact y4, y5⟩
    refine l_105r (b := 0) (g := fun _ => f) G3 hy hb hb2 rfl he T3 (Nat.le_of_ble_eq_true rfl) (fun h10 μ' T => ?_) (fun h10 μ' T => ?_) (fun _ _ => hf10) (fun k k' hk hk' _ => by omega)
    · rw [ht]
      exact l_parse (pB := 3) (pE := 6) (g := fun _ => f) T rfl rfl (by omega) rfl (byl _ rfl rfl) rfl rfl (emb1 h10 _ 5 rfl rfl) rfl rfl
    · rw [ht]
      exact l_parse (pB := 3) (pE := 7) (g := fun _ => f) T rfl rfl (by omega) rfl (byl _ rfl rfl) rfl rfl (emb2 h10 _ 5 rfl rfl rfl) rfl rfl
  · obtain rfl : b = 1 := by omega
    have eg : nI f + 3 - (nI f + 3) / 10 * 10 = nI ((f + 3) % 10) := by
      rw [show (3 : Int32) = nI 3 from rfl, nI_add, show (10 : Int32) = nI 10 from rfl, pk_rem (by omega) (by omega) (by omega)]
    obtain ⟨d, hd⟩ : ∃ d, (f + 3) % 10 = d := ⟨_, rfl⟩
    rw [hd] at eg
    have hd10 : d < 10 := by omega
    have hfd : ¬ f = d := by omega
    obtain ⟨μ4, r4, G4, T4⟩ := g_type G3 T3 (Nat.le_of_ble_eq_true rfl) 44
    obtain ⟨μ5, r5, G5, T5⟩ := g_type G4 T4 (Nat.le_of_ble_eq_true rfl) (48 + d)
    have r4 : f_X8_type 44 μ3 = some (4, μ4) := r4
    have r5 : f_X8_type (nI (48 + d)) μ4 = some (5, μ5) := r5
    rw [if_neg (show ¬ nI 1 = 0 by decide), r4, pr_b2, if_pos rfl, eg, l_48, l_ch (by omega), r5, pr_b2, if_pos rfl]
    have byl : ∀ (L : List Nat), L[2]? = some (48 + f) → L[3]? = some 44 → L[4]? = some (48 + d) → L[5]? = some 32 → ∀ σ, l_X σ L 2 → ∃ σ', f_X7_readByline σ = some (1, σ') ∧ l_X σ' L 5 ∧ σ' 17 0 4 = nI (1 + 1) ∧ (∀ k, k < 1 + 1 → σ' 19 0 k = nI (if k = 0 then f else d)) ∧ σ' 17 0 3 = σ 17 0 3 := fun L h1 h2 h3 h4 σ hx => by
      obtain ⟨σ', y1, y2, y3, y4, y5, y6⟩ := l_byl2 hx h1 (by omega) h2 h3 (by omega) hfd h4
      refine ⟨σ', y1, y2, y3, fun k hk => ?_, y6⟩
      rcases (show k = 0 ∨ k = 1 by omega) with rfl | rfl
      · exact y4
      · exact y5
    refine l_105r (b := 1) (g := fun k => if k = 0 then f else d) G5 hy hb hb2 rfl he T5 (Nat.le_of_ble_eq_true rfl) (fun h10 μ' T => ?_) (fun h10 μ' T => ?_) (fun k hk => ?_) (fun k k' hk hk' hkk => ?_)
    · rw [ht]
      exact l_parse (pB := 5) (pE := 8) (g := fun k => if k = 0 then f else d) T rfl rfl (by omega) rfl (byl _ rfl rfl rfl rfl) rfl rfl (emb1 h10 _ 7 rfl rfl) rfl rfl
    · rw [ht]
      exact l_parse (pB := 5) (pE := 9) (g := fun k => if k = 0 then f else d) T rfl rfl (by omega) rfl (byl _ rfl rfl rfl rfl) rfl rfl (emb2 h10 _ 7 rfl rfl rfl) rfl rfl
    · show (if k = 0 then f else d) < 10
      split <;> omega
    · have hkk : (if k = 0 then f else d) = (if k' = 0 then f else d) := hkk
      rcases (show k = 0 ∨ k = 1 by omega) with rfl | rfl <;> rcases (show k' = 0 ∨ k' = 1 by omega) with rfl | rfl
      · rfl
      · exact absurd hkk hfd
      · exact absurd hkk.symm hfd
      · rfl
