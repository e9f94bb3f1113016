/-! The history, the kept state: both alike. -/
theorem r_22 (z : Nat) : ∀ (d x n : Nat) (ν : em_MM), x + d = 1683 → d < n → z < 4 → ν 0 3 = nI z → ∃ ν', f_X9_undo_22 n (nI x) ν = f_X9_undo_22 (0 + 1) (nI 1683) ν' ∧ (∀ i, i ≠ 1 → ν' i = ν i) ∧ (∀ a, x ≤ a → a < 1683 → ν' 1 a = ν 3 (1683 * z + a)) ∧ ∀ a, a < x → ν' 1 a = ν 1 a := by
  intro d
  induction d with
  | zero =>
    intro x n ν hx hn hz h3
    obtain ⟨n, rfl⟩ : ∃ q, n = q + 1 := ⟨n - 1, by omega⟩
    have hx : x = 1683 := by omega
    subst hx
    have c : (1683 : Int32) ≤ nI 1683 := by decide
    refine ⟨ν, by rw [f_X9_undo_22, f_X9_undo_22, if_pos c, if_pos c], fun _ _ => rfl, fun a h1 h2 => by omega, fun _ _ => rfl⟩
  | succ d ih =>
    intro x n ν hx hn hz h3
    obtain ⟨n, rfl⟩ : ∃ q, n = q + 1 := ⟨n - 1, by omega⟩
    have c : ¬ (1683 : Int32) ≤ nI x := by
      show ¬ nI 1683 ≤ nI x
      rw [pr_le (by omega) (by omega)]; omega
    have e1 : nI x + 1 = nI (x + 1) := nI_add x 1
    have e2 : (1683 : Int32) * nI z + nI x = nI (1683 * z + x) := by
      rw [show (1683 : Int32) = nI 1683 from rfl, pk_mul, nI_add]
    obtain ⟨ν', y1, y2, y3, y4⟩ := ih (x + 1) n (em_up ν 1 x (ν 3 (1683 * z + x))) (by omega) (by omega) hz (by rw [em_ne _ _ _ (by decide)]; exact h3)
    refine ⟨ν', ?_, fun i h0 => by rw [y2 i h0, em_ne _ _ _ h0], fun a h1 h2 => ?_, fun a ha => ?_⟩
    · rw [f_X9_undo_22, if_neg c, h3, e1, e2, pr_gin (by omega) (by omega), pr_gin (by omega) (by omega), pr_t, nI_clamp (n := x) (by omega), nI_clamp (n := 1683 * z + x) (by omega)]
      exact y1
    · by_cases ha : a = x
      · subst ha
        rw [y4 _ (by omega), em_same, pr_ueq _ _ rfl]
      · rw [y3 a (by omega) h2, em_ne _ _ _ (by decide)]
    · rw [y4 a (by omega), em_same, pr_une _ _ (by omega)]
theorem r_k2 : ∀ (d x n : Nat) (ν : em_MM), x + d = 1683 → d < n → ∃ ν', f_X9_keep_2 n (nI x) ν = f_X9_keep_2 (0 + 1) (nI 1683) ν' ∧ (∀ i, i ≠ 4 → ν' i = ν i) ∧ (∀ a, x ≤ a → a < 1683 → ν' 4 a = ν 1 a) ∧ ∀ a, a < x → ν' 4 a = ν 4 a := by
  intro d
  induction d with
  | zero =>
    intro x n ν hx hn
    obtain ⟨n, rfl⟩ : ∃ q, n = q + 1 := ⟨n - 1, by omega⟩
    have hx : x = 1683 := by omega
    subst hx
    have c : (1683 : Int32) ≤ nI 1683 := by decide
    refine ⟨ν, by rw [f_X9_keep_2, f_X9_keep_2, if_pos c, if_pos c], fun _ _ => rfl, fun a h1 h2 => by omega, fun _ _ => rfl⟩
  | succ d ih =>
    intro x n ν hx hn
    obtain ⟨n, rfl⟩ : ∃ q, n = q + 1 := ⟨n - 1, by omega⟩
    have c : ¬ (1683 : Int32) ≤ nI x := by
      show ¬ nI 1683 ≤ nI x
      rw [pr_le (by omega) (by omega)]; omega
    have e1 : nI x + 1 = nI (x + 1) := nI_add x 1
    obtain ⟨ν', y1, y2, y3, y4⟩ := ih (x + 1) n (em_up ν 4 x (ν 1 x)) (by omega) (by omega)
    refine ⟨ν', ?_, fun i h0 => by rw [y2 i h0, em_ne _ _ _ h0], fun a h1 h2 => ?_, fun a ha => ?_⟩
    · rw [f_X9_keep_2, if_neg c, e1, pr_gin (by omega) (by omega), pr_gin (by omega) (by omega), pr_t, nI_clamp (by omega)]
      exact y1
    · by_cases ha : a = x
      · subst ha
        rw [y4 _ (by omega), em_same, pr_ueq _ _ rfl]
      · rw [y3 a (by omega) h2, em_ne _ _ _ (by decide)]
    · rw [y4 a (by omega), em_same, pr_une _ _ (by omega)]
theorem r_16 : ∀ (d x n : Nat) (ν : em_MM), x + d = 1683 → d < n → ∃ ν', f_X9_restore_16 n (nI x) ν = f_X9_restore_16 (0 + 1) (nI 1683) ν' ∧ (∀ i, i ≠ 1 → ν' i = ν i) ∧ (∀ a, x ≤ a → a < 1683 → ν' 1 a = ν 4 a) ∧ ∀ a, a < x → ν' 1 a = ν 1 a := by
  intro d
  induction d with
  | zero =>
    intro x n ν hx hn
    obtain ⟨n, rfl⟩ : ∃ q, n = q + 1 := ⟨n - 1, by omega⟩
    have hx : x = 1683 := by omega
    subst hx
    have c : (1683 : Int32) ≤ nI 1683 := by decide
    refine ⟨ν, by rw [f_X9_restore_16, f_X9_restore_16, if_pos c, if_pos c], fun _ _ => rfl, fun a h1 h2 => by omega, fun _ _ => rfl⟩
  | succ d ih =>
    intro x n ν hx hn
    obtain ⟨n, rfl⟩ : ∃ q, n = q + 1 := ⟨n - 1, by omega⟩
    have c : ¬ (1683 : Int32) ≤ nI x := by
      show ¬ nI 1683 ≤ nI x
      rw [pr_le (by omega) (by omega)]; omega
    have e1 : nI x + 1 = nI (x + 1) := nI_add x 1
    obtain ⟨ν', y1, y2, y3, y4⟩ := ih (x + 1) n (em_up ν 1 x (ν 4 x)) (by omega) (by omega)
    refine ⟨ν', ?_, fun i h0 => by rw [y2 i h0, em_ne _ _ _ h0], fun a h1 h2 => ?_, fun a ha => ?_⟩
    · rw [f_X9_restore_16, if_neg c, e1, pr_gin (by omega) (by omega), pr_gin (by omega) (by omega), pr_t, nI_clamp (by omega)]
      exact y1
    · by_cases ha : a = x
      · subst ha
        rw [y4 _ (by omega), em_same, pr_ueq _ _ rfl]
      · rw [y3 a (by omega) h2, em_ne _ _ _ (by decide)]
    · rw [y4 a (by omega), em_same, pr_une _ _ (by omega)]
theorem r_bb : ∀ (d x n : Nat) (ν : em_MM), x + d = 1683 → d < n → ∃ ν', f_X9_bringBack_2 n (nI x) ν = f_X9_bringBack_2 (0 + 1) (nI 1683) ν' ∧ (∀ i, i ≠ 1 → ν' i = ν i) ∧ (∀ a, x ≤ a → a < 1683 → ν' 1 a = ν 2 a) ∧ ∀ a, a < x → ν' 1 a = ν 1 a := by
  intro d
  induction d with
  | zero =>
    intro x n ν hx hn
    obtain ⟨n, rfl⟩ : ∃ q, n = q + 1 := ⟨n - 1, by omega⟩
    have hx : x = 1683 := by omega
    subst hx
    have c : (1683 : Int32) ≤ nI 1683 := by decide
    refine ⟨ν, by rw [f_X9_bringBack_2, f_X9_bringBack_2, if_pos c, if_pos c], fun _ _ => rfl, fun a h1 h2 => by omega, fun _ _ => rfl⟩
  | succ d ih =>
    intro x n ν hx hn
    obtain ⟨n, rfl⟩ : ∃ q, n = q + 1 := ⟨n - 1, by omega⟩
    have c : ¬ (1683 : Int32) ≤ nI x := by
      show ¬ nI 1683 ≤ nI x
      rw [pr_le (by omega) (by omega)]; omega
    have e1 : nI x + 1 = nI (x + 1) := nI_add x 1
    obtain ⟨ν', y1, y2, y3, y4⟩ := ih (x + 1) n (em_up ν 1 x (ν 2 x)) (by omega) (by omega)
    refine ⟨ν', ?_, fun i h0 => by rw [y2 i h0, em_ne _ _ _ h0], fun a h1 h2 => ?_, fun a ha => ?_⟩
    · rw [f_X9_bringBack_2, if_neg c, e1, pr_gin (by omega) (by omega), pr_gin (by omega) (by omega), pr_t, nI_clamp (by omega)]
      exact y1
    · by_cases ha : a = x
      · subst ha
        rw [y4 _ (by omega), em_same, pr_ueq _ _ rfl]
      · rw [y3 a (by omega) h2, em_ne _ _ _ (by decide)]
    · rw [y4 a (by omega), em_same, pr_une _ _ (by omega)]
theorem r_sa : ∀ (d x n : Nat) (ν : em_MM), x + d = 1683 → d < n → ∃ ν', f_X9_setAside_2 n (nI x) ν = f_X9_setAside_2 (0 + 1) (nI 1683) ν' ∧ (∀ i, i ≠ 2 → ν' i = ν i) ∧ (∀ a, x ≤ a → a < 1683 → ν' 2 a = ν 1 a) ∧ ∀ a, a < x → ν' 2 a = ν 2 a := by
  intro d
  induction d with
  | zero =>
    intro x n ν hx hn
    obtain ⟨n, rfl⟩ : ∃ q, n = q + 1 := ⟨n - 1, by omega⟩
    have hx : x = 1683 := by omega
    subst hx
    have c : (1683 : Int32) ≤ nI 1683 := by decide
    refine ⟨ν, by rw [f_X9_setAside_2, f_X9_setAside_2, if_pos c, if_pos c], fun _ _ => rfl, fun a h1 h2 => by omega, fun _ _ => rfl⟩
  | succ d ih =>
    intro x n ν hx hn
    obtain ⟨n, rfl⟩ : ∃ q, n = q + 1 := ⟨n - 1, by omega⟩
    have c : ¬ (1683 : Int32) ≤ nI x := by
      show ¬ nI 1683 ≤ nI x
      rw [pr_le (by omega) (by omega)]; omega
    have e1 : nI x + 1 = nI (x + 1) := nI_add x 1
    obtain ⟨ν', y1, y2, y3, y4⟩ := ih (x + 1) n (em_up ν 2 x (ν 1 x)) (by omega) (by omega)
    refine ⟨ν', ?_, fun i h0 => by rw [y2 i h0, em_ne _ _ _ h0], fun a h1 h2 => ?_, fun a ha => ?_⟩
    · rw [f_X9_setAside_2, if_neg c, e1, pr_gin (by omega) (by omega), pr_gin (by omega) (by omega), pr_t, nI_clamp (by omega)]
      exact y1
    · by_cases ha : a = x
      · subst ha
        rw [y4 _ (by omega), em_same, pr_ueq _ _ rfl]
      · rw [y3 a (by omega) h2, em_ne _ _ _ (by decide)]
    · rw [y4 a (by omega), em_same, pr_une _ _ (by omega)]
def r_ok (A : Option (Int32 × ed_CM)) (Bq : Option (Int32 × em_MM)) : Prop := ∃ r μ' ν', A = some (r, μ') ∧ Bq = some (r, ν') ∧ r_REL μ' ν'
def r_okI (A Bq : Option Int32) : Prop := ∃ r, A = some r ∧ Bq = some r
/-- both remember -/
theorem r_mem {μ : ed_CM} {ν : em_MM} (hR : r_REL μ ν) : ∃ μ' ν', f_X2_remember 0 μ = some μ' ∧ f_X9_record ν = some ν' ∧ r_REL μ' ν' ∧ (∀ j, j < 3 → μ' j = μ j) ∧ (∀ i, i ≠ 0 → i ≠ 3 → ν' i = ν i) ∧ (∀ K, K ≠ 15 → K ≠ 16 → μ' 7 K = μ 7 K) ∧ ∀ k, k ≠ 3 → ν' 0 k = ν 0 k := by
  obtain ⟨hX, hk, ⟨z, ρ, z1, z2, z3, z4, z5⟩, hT⟩ := hR
  have fin : ∀ (μ' : ed_CM) (ν' : em_MM) (ρ' : Nat → Nat) (z' : Nat), z' ≤ 4 → μ' 7 15 0 1 = nI z' → ν' 0 3 = nI z' → r_rows μ' ρ' → (∀ k, k < z' → r_X (μ' (ρ' k)) (fun a => ν' 3 (1683 * k + a))) → (∀ j, j < 3 → μ' j = μ j) → (∀ i, i ≠ 0 → i ≠ 3 → ν' i = ν i) → (∀ K, K ≠ 15 → K ≠ 16 → μ' 7 K = μ 7 K) → (∀ k, k ≠ 3 → ν' 0 k = ν 0 k) → r_REL μ' ν' := by
    intro μ' ν' ρ' z' g1 g2 g3 g4 g5 g6 g7 g8 g9
    refine ⟨by rw [g6 0 (by omega), g7 1 (by decide) (by decide)]; exact hX, ?_, ⟨z', ρ', g1, g2, g3, g4, g5⟩, ?_⟩
    · unfold r_kept
      rw [g8 14 (by decide) (by decide), g9 5 (by decide), g6 2 (by omega), g7 4 (by decide) (by decide)]
      exact hk
    · unfold r_text
      rw [g8 17 (by decide) (by decide), g8 18 (by decide) (by decide), g9 7 (by decide), g7 5 (by decide) (by decide)]
      exact hT
  unfold f_X2_remember f_X9_record
  by_cases h4 : z = 4
  · subst h4
    obtain ⟨μ1, d1, d2, d3, d4, d5⟩ := r_drop z4 z2
    obtain ⟨σ, μ2, p1, p2, p3, p4, p5, p6⟩ := r_push d5 d4 (by omega) (v := ν 1) (by rw [d2 0 (by decide)]; exact hX)
    obtain ⟨ν1, t1, t2, t3, t4, t5, t6⟩ := r_10 5049 0 ed_N ν (by omega) (by unfold ed_N; omega) z3
    obtain ⟨ν2, s1, s2, s3, s4, s5, s6⟩ := r_51 1683 0 ed_N 3 ν1 (by omega) (by unfold ed_N; omega) (by omega) t4
    have t1 : f_X9_record_10 ed_N 0 ν = f_X9_record_51 ed_N 0 ν1 := t1
    have s1 : f_X9_record_51 ed_N 0 ν1 = some ν2 := s1
    have n4 : ¬ μ 7 15 0 1 < 4 := by
      rw [z2]; show ¬ nI 4 < nI 4
      rw [pr_lt (by omega) (by omega)]; omega
    rw [if_neg n4, d1, pr_b, p1, if_pos (show ν 0 3 = 4 from z3), t1, s1]
    have hj : ∀ j, j < 3 → μ2 j = μ j := fun j hj => by
      have := (z4.2.1 ((3 + 1) % 4) (by omega)).1
      rw [p3 j (by omega) (by omega), d2 j (by omega)]
    have hi : ∀ i, i ≠ 0 → i ≠ 3 → ν2 i = ν i := fun i h0 h3 => by rw [s2 i h0 h3, t2 i h0 h3]
    have hK : ∀ K, K ≠ 15 → K ≠ 16 → μ2 7 K = μ 7 K := fun K h0 h3 => by rw [p5 K h0, d3 K h0 h3]
    have h0 : ∀ k, k ≠ 3 → ν2 0 k = ν 0 k := fun k h0 => by rw [s3 k h0, t3 k h0]
    refine ⟨μ2, ν2, rfl, rfl, fin μ2 ν2 _ 4 (by omega) p6 s4 ⟨fun k hk => by rw [p5 16 (by decide)]; exact d5.1 k hk, d5.2⟩ (fun k hk => ?_) hj hi hK h0, hj, hi, hK, h0⟩
    by_cases h3 : k = 3
    · subst h3
      rw [p4]
      refine p2.cgv (fun a ha => ?_)
      show ν2 3 (1683 * 3 + a) = ν 1 a
      rw [s5 a (by omega) ha, t2 1 (by decide) (by decide)]
    · have g := d5.2.1 k hk
      rw [p3 _ (by omega) (fun q => h3 (d5.2.2 k 3 hk (by omega) q)), d2 _ (by omega)]
      show r_X (μ (ρ ((k + 1) % 4))) _
      rw [show (k + 1) % 4 = k + 1 by omega]
      refine (z5 (k + 1) (by omega)).cgv (fun a ha => ?_)
      show ν2 3 (1683 * k + a) = ν 3 (1683 * (k + 1) + a)
      rw [s6 _ (by omega), t5 _ (by omega) (by omega), show 1683 * k + a + 1683 = 1683 * (k + 1) + a by omega]
  · have hz : z < 4 := by omega
    obtain ⟨σ, μ2, p1, p2, p3, p4, p5, p6⟩ := r_push z4 z2 hz hX
    obtain ⟨ν2, s1, s2, s3, s4, s5, s6⟩ := r_51 1683 0 ed_N z ν (by omega) (by unfold ed_N; omega) hz z3
    have s1 : f_X9_record_51 ed_N 0 ν = some ν2 := s1
    have n4 : μ 7 15 0 1 < 4 := by
      rw [z2]; show nI z < nI 4
      rw [pr_lt (by omega) (by omega)]; omega
    have n3 : ¬ ν 0 3 = 4 := by
      rw [z3]; show ¬ nI z = nI 4
      rw [pr_eq (by omega) (by omega)]; omega
    rw [if_pos n4, p1, if_neg n3, s1]
    have hj : ∀ j, j < 3 → μ2 j = μ j := fun j hj => by
      have := (z4.2.1 z hz).1
      rw [p3 j (by omega) (by omega)]
    have hK : ∀ K, K ≠ 15 → K ≠ 16 → μ2 7 K = μ 7 K := fun K h0 _ => p5 K h0
    refine ⟨μ2, ν2, rfl, rfl, fin μ2 ν2 ρ (z + 1) (by omega) p6 s4 ⟨fun k hk => by rw [p5 16 (by decide)]; exact z4.1 k hk, z4.2⟩ (fun k hk => ?_) hj s2 hK s3, hj, s2, hK, s3⟩
    by_cases h3 : k = z
    · subst h3
      rw [p4]
      refine p2.cgv (fun a ha => ?_)
      show ν2 3 (1683 * k + a) = ν 1 a
      rw [s5 a (by omega) ha]
    · have g := z4.2.1 k (by omega)
      rw [p3 _ (by omega) (fun q => h3 (z4.2.2 k z (by omega) hz q))]
      refine (z5 k (by omega)).cgv (fun a ha => ?_)
      show ν2 3 (1683 * k + a) = ν 3 (1683 * k + a)
      rw [s6 _ (by omega)]
theorem m_undo {μ : ed_CM} {ν : em_MM} (hR : r_REL μ ν) : r_ok (f_X8_undo μ) (f_X9_undo ν) := by
  obtain ⟨hX, hk, ⟨z, ρ, z1, z2, z3, z4, z5⟩, hT⟩ := id hR
  unfold f_X8_undo f_X9_undo
  by_cases h0 : z = 0
  · subst h0
    rw [if_pos (show μ 7 15 0 1 = 0 from z2), if_pos (show ν 0 3 = 0 from z3)]
    exact ⟨_, μ, ν, rfl, rfl, hR⟩
  · obtain ⟨y, rfl⟩ : ∃ y, z = y + 1 := ⟨z - 1, by omega⟩
    have n0 : ¬ nI (y + 1) = 0 := by
      show ¬ nI (y + 1) = nI 0
      rw [pr_eq (by omega) (by omega)]; omega
    have e1 : nI (y + 1) - 1 = nI y := pk_sub (a := y + 1) (b := 1) (by omega)
    have e2 : f_X8_isPlace (nI y) 4 = 1 := by
      rw [pr_isPlace, if_neg (nI_pos (by omega)), if_neg]
      show ¬ nI 4 ≤ nI y
      rw [pr_le (by omega) (by omega)]; omega
    have g := z4.2.1 y (by omega)
    obtain ⟨σ, c1, c2⟩ := (z5 y (by omega)).cp (μ 0)
    have m7 : ed_sJ μ 0 σ 7 = μ 7 := ed_sJ_ne μ σ (by decide)
    rw [z2, if_neg n0, z3, if_neg n0, e1, pr_t]
    unfold f_X2_takeLatest
    rw [z2, e1, e2, if_neg (by decide), pr_gin (by omega) (by omega), pr_t, nI_clamp (by omega), z4.1 y (by omega), r_mod _ (by omega), pr_g (show ρ y ≠ 0 by omega), c1, pr_b, pr_t, pr_t, pr_b, m7, z2, e1]
    obtain ⟨ν1, t1, t2, t3, -⟩ := r_22 y 1683 0 ed_N (em_up ν 0 3 (nI y)) (by omega) (by unfold ed_N; omega) (by omega) (by rw [em_same, pr_ueq _ _ rfl])
    have t1 : f_X9_undo_22 ed_N 0 (em_up ν 0 3 (nI y)) = _ := t1
    have c : (1683 : Int32) ≤ nI 1683 := by decide
    have u3 : ν1 0 3 = nI y := by rw [t2 0 (by decide), em_same, pr_ueq _ _ rfl]
    rw [t1, f_X9_undo_22, if_pos c, u3]
    have k7 : ∀ K, K ≠ 15 → ed_sJ (ed_sJ μ 0 σ) 7 (ed_up (μ 7) 15 0 1 (nI y)) 7 K = μ 7 K := fun K h => by
      rw [ed_sJ_self]; funext i; rw [pr_up_K _ _ h]
    have kj : ∀ j, j ≠ 7 → j ≠ 0 → ed_sJ (ed_sJ μ 0 σ) 7 (ed_up (μ 7) 15 0 1 (nI y)) j = μ j := fun j h1 h2 => by rw [ed_sJ_ne _ _ h1, ed_sJ_ne _ _ h2]
    have k15 : ed_sJ (ed_sJ μ 0 σ) 7 (ed_up (μ 7) 15 0 1 (nI y)) 7 15 0 1 = nI y := by rw [ed_sJ_self, pr_up_same]
    have k0 : ∀ k, k ≠ 3 → ν1 0 k = ν 0 k := fun k h => by rw [t2 0 (by decide), em_same, pr_une _ _ h]
    have ki : ∀ i, i ≠ 0 → i ≠ 1 → ν1 i = ν i := fun i h h1 => by rw [t2 i h1, em_ne _ _ _ h]
    refine ⟨nI y, _, ν1, by rw [k15], rfl, ?_, ?_, ⟨y, ρ, by omega, k15, u3, ⟨fun k hk => by rw [k7 16 (by decide)]; exact z4.1 k hk, z4.2⟩, fun k hk => ?_⟩, ?_⟩
    · rw [ed_sJ_ne _ _ (by decide), ed_sJ_self]
      refine c2.cgv (fun a ha => ?_)
      rw [t3 a (by omega) ha, em_ne _ _ _ (by decide)]
    · unfold r_kept
      rw [k7 14 (by decide), k0 5 (by decide), kj 2 (by decide) (by decide), ki 4 (by decide) (by decide)]
      exact hk
    · have := z4.2.1 k (by omega)
      rw [kj _ (by omega) (by omega), ki 3 (by decide) (by decide)]
      exact z5 k (by omega)
    · unfold r_text
      rw [k7 17 (by decide), k7 18 (by decide), k0 7 (by decide), ki 5 (by decide) (by decide)]
      exact hT
theorem m_keep {μ : ed_CM} {ν : em_MM} (hR : r_REL μ ν) : r_ok (f_X8_keep μ) (f_X9_keep ν) := by
  obtain ⟨hX, hk, ⟨z, ρ, z1, z2, z3, z4, z5⟩, hT⟩ := id hR
  obtain ⟨h, nC, nS, nK, hh, hRR⟩ := id hX
  obtain ⟨σ, c1, c2⟩ := hX.cp (μ 2)
  obtain ⟨ν1, t1, t2, t3, -⟩ := r_k2 1683 0 ed_N ν (by omega) (by unfold ed_N; omega)
  have t1 : f_X9_keep_2 ed_N 0 ν = _ := t1
  have c : (1683 : Int32) ≤ nI 1683 := by decide
  have n1 : em_up ν1 0 5 1 1 = ν 1 := by rw [em_ne _ _ _ (by decide), t2 1 (by decide)]
  unfold f_X8_keep f_X9_keep
  rw [c1, pr_b, pr_t, pr_t, t1, f_X9_keep_2, if_pos c, pr_t, pr_gN (by decide) (by decide), n1, pr_cl 0 (by omega), hRR.1.2.1]
  have m7 : ed_sJ μ 2 σ 7 = μ 7 := ed_sJ_ne μ σ (by decide)
  rw [m7]
  have k7 : ∀ K, K ≠ 14 → ed_sJ (ed_sJ μ 2 σ) 7 (ed_up (μ 7) 14 0 3 1) 7 K = μ 7 K := fun K h => by
    rw [ed_sJ_self]; funext i; rw [pr_up_K _ _ h]
  have kj : ∀ j, j ≠ 7 → j ≠ 2 → ed_sJ (ed_sJ μ 2 σ) 7 (ed_up (μ 7) 14 0 3 1) j = μ j := fun j h1 h2 => by rw [ed_sJ_ne _ _ h1, ed_sJ_ne _ _ h2]
  have k14 : ed_sJ (ed_sJ μ 2 σ) 7 (ed_up (μ 7) 14 0 3 1) 7 14 0 3 = 1 := by rw [ed_sJ_self, pr_up_same]
  have k0 : ∀ k, k ≠ 5 → em_up ν1 0 5 1 0 k = ν 0 k := fun k h => by rw [em_same, pr_une _ _ h, t2 0 (by decide)]
  have ki : ∀ i, i ≠ 0 → i ≠ 4 → em_up ν1 0 5 1 i = ν i := fun i h h1 => by rw [em_ne _ _ _ h, t2 i h1]
  refine ⟨nI h, _, _, by rw [kj 0 (by decide) (by decide), hRR.1.1], rfl, ?_, ?_, ⟨z, ρ, z1, by rw [k7 15 (by decide)]; exact z2, by rw [k0 3 (by decide)]; exact z3, ⟨fun k hk => by rw [k7 16 (by decide)]; exact z4.1 k hk, z4.2⟩, fun k hk => ?_⟩, ?_⟩
  · rw [kj 0 (by decide) (by decide), n1]; exact hX
  · refine Or.inr ⟨k14, by rw [em_same, pr_ueq _ _ rfl], ?_⟩
    rw [ed_sJ_ne _ _ (by decide), ed_sJ_self, em_ne _ _ _ (by decide)]
    exact c2.cgv (fun a ha => t3 a (by omega) ha)
  · have := z4.2.1 k (by omega)
    rw [kj _ (by omega) (by omega), ki 3 (by decide) (by decide)]
    exact z5 k (by omega)
  · unfold r_text
    rw [k7 17 (by decide), k7 18 (by decide), k0 7 (by decide), ki 5 (by decide) (by decide)]
    exact hT
theorem m_restore {μ : ed_CM} {ν : em_MM} (hR : r_REL μ ν) : r_ok (f_X8_restore μ) (f_X9_restore ν) := by
  unfold f_X8_restore f_X9_restore
  rcases id hR.2.1 with ⟨h1, h2⟩ | ⟨h1, h2, hX⟩
  · rw [if_pos h1, if_pos h2]
    exact ⟨_, μ, ν, rfl, rfl, hR⟩
  · rw [if_neg (show ¬ μ 7 14 0 3 = 0 by rw [h1]; decide), if_neg (show ¬ ν 0 5 = 0 by rw [h2]; decide)]
    obtain ⟨μ1, ν1, a1, a2, a3, a4, a5, a6, a7⟩ := r_mem hR
    rw [a1, a2, pr_b, pr_b, a4 2 (by omega)]
    obtain ⟨σ, c1, c2⟩ := hX.cp (μ1 0)
    obtain ⟨ν2, t1, t2, t3, -⟩ := r_16 1683 0 ed_N ν1 (by omega) (by unfold ed_N; omega)
    have t1 : f_X9_restore_16 ed_N 0 ν1 = _ := t1
    have c : (1683 : Int32) ≤ nI 1683 := by decide
    have hv : em_sR ν1 1 (ν2 1) = ν2 := by
      funext i
      by_cases hi : i = 1
      · subst hi; rw [pr_sR1]
      · rw [pr_sRn _ _ hi, t2 i hi]
    have c3 : r_X σ (ν2 1) := c2.cgv (fun a ha => by rw [t3 a (by omega) ha, a5 4 (by decide) (by decide)])
    have h3 := a3.s0 c3
    rw [hv] at h3
    obtain ⟨h, nC, nS, nK, hh, hRR⟩ := c3
    rw [c1, pr_b, pr_t, t1, f_X9_restore_16, if_pos c, pr_gN (by decide) (by decide), pr_cl 0 (by omega), hRR.1.2.1]
    exact ⟨nI h, _, ν2, by rw [ed_sJ_self, hRR.1.1], rfl, h3⟩
theorem r_aside (ν : em_MM) : ∃ ν', f_X9_setAside ν = some ν' ∧ (∀ i, i ≠ 2 → ν' i = ν i) ∧ ∀ a, a < 1683 → ν' 2 a = ν 1 a := by
  obtain ⟨ν1, t1, t2, t3, -⟩ := r_sa 1683 0 ed_N ν (by omega) (by unfold ed_N; omega)
  have t1 : f_X9_setAside_2 ed_N 0 ν = _ := t1
  have c : (1683 : Int32) ≤ nI 1683 := by decide
  unfold f_X9_setAside
  rw [t1, f_X9_setAside_2, if_pos c]
  exact ⟨ν1, rfl, t2, fun a ha => t3 a (by omega) ha⟩
theorem r_back (ν : em_MM) : ∃ ν', f_X9_bringBack ν = some ν' ∧ (∀ i, i ≠ 1 → ν' i = ν i) ∧ ∀ a, a < 1683 → ν' 1 a = ν 2 a := by
  obtain ⟨ν1, t1, t2, t3, -⟩ := r_bb 1683 0 ed_N ν (by omega) (by unfold ed_N; omega)
  have t1 : f_X9_bringBack_2 ed_N 0 ν = _ := t1
  have c : (1683 : Int32) ≤ nI 1683 := by decide
  unfold f_X9_bringBack
  rw [t1, f_X9_bringBack_2, if_pos c]
  exact ⟨ν1, rfl, t2, fun a ha => t3 a (by omega) ha⟩
