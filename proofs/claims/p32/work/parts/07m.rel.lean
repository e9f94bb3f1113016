/-! The relation of the two objects, and the history. -/
def r_X (σ : ed_SM) (v : Nat → Int32) : Prop := ∃ h nC nS nK, h ≤ 9999 ∧ r_R σ v h nC nS nK 160
theorem r_R.cgv {σ : ed_SM} {v v' : Nat → Int32} {h nC nS nK e : Nat} (hR : r_R σ v h nC nS nK e) (hv : ∀ a, a < 1683 → v' a = v a) : r_R σ v' h nC nS nK e := by
  obtain ⟨qH, qC, qP, qS, qK, qL, qN⟩ := hR
  have b3 : nK ≤ 160 := qH.2.2.2.2.2.2.2.2.2.2.2.2.1
  have b2 : nS ≤ 20 := qH.2.2.2.2.2.2.2.2.2.2.2.1
  have b1 : nC ≤ 8 := qH.2.2.2.2.2.2.2.2.2.2.1
  exact ⟨qH.cg (fun _ _ => rfl) (fun a _ => hv a (by omega)), qC.cg rfl (fun a _ _ => hv a (by omega)) b1, qP.cg rfl (fun a _ _ => hv a (by omega)), qS.cg rfl rfl rfl rfl (fun a _ _ => hv a (by omega)) (Nat.le_refl _) b2, qK.cg rfl (fun a _ _ => hv a (by omega)) b2 b3, qL.cg rfl rfl (hv 6 (by omega)) (fun a _ _ => hv a (by omega)), by rw [r_cnt_cg nS (fun s hs => hv _ (by omega))]; exact qN⟩
theorem r_X.cgv {σ : ed_SM} {v v' : Nat → Int32} (hX : r_X σ v) (hv : ∀ a, a < 1683 → v' a = v a) : r_X σ v' := by
  obtain ⟨h, nC, nS, nK, h1, h2⟩ := hX
  exact ⟨h, nC, nS, nK, h1, h2.cgv hv⟩
theorem r_X.cp {τ : ed_SM} {v : Nat → Int32} (hX : r_X τ v) (σ : ed_SM) : ∃ σ', f_X5_copyFrom τ σ = some σ' ∧ r_X σ' v := by
  obtain ⟨h, nC, nS, nK, h1, h2⟩ := hX
  obtain ⟨σ', g1, g2⟩ := r_copyFrom h2 σ
  exact ⟨σ', g1, h, nC, nS, nK, h1, g2⟩
def r_kept (μ : ed_CM) (ν : em_MM) : Prop := (μ 7 14 0 3 = 0 ∧ ν 0 5 = 0) ∨ (μ 7 14 0 3 = 1 ∧ ν 0 5 = 1 ∧ r_X (μ 2) (ν 4))
def r_rows (μ : ed_CM) (ρ : Nat → Nat) : Prop := (∀ k, k < 4 → μ 7 16 0 k = nI (ρ k)) ∧ (∀ k, k < 4 → 3 ≤ ρ k ∧ ρ k ≤ 6) ∧ ∀ k k', k < 4 → k' < 4 → ρ k = ρ k' → k = k'
def r_hist (μ : ed_CM) (ν : em_MM) : Prop := ∃ (z : Nat) (ρ : Nat → Nat), z ≤ 4 ∧ μ 7 15 0 1 = nI z ∧ ν 0 3 = nI z ∧ r_rows μ ρ ∧ ∀ k, k < z → r_X (μ (ρ k)) (fun a => ν 3 (1683 * k + a))
def r_text (μ : ed_CM) (ν : em_MM) : Prop := ∃ t, t ≤ 40 ∧ μ 7 17 0 1 = nI t ∧ ν 0 7 = nI t ∧ ∀ k, k < t → μ 7 18 0 k = ν 5 k
def r_REL (μ : ed_CM) (ν : em_MM) : Prop := r_X (μ 0) (ν 1) ∧ r_kept μ ν ∧ r_hist μ ν ∧ r_text μ ν
theorem em_same (ν : em_MM) (i k : Nat) (x : Int32) : em_up ν i k x i = upd (ν i) k x := by rw [pr_em, if_pos rfl]
theorem em_ne (ν : em_MM) {i i' : Nat} (k : Nat) (x : Int32) (h : i' ≠ i) : em_up ν i k x i' = ν i' := by rw [pr_em, if_neg h]
theorem r_REL.s0 {μ : ed_CM} {ν : em_MM} (hR : r_REL μ ν) {σ : ed_SM} {v : Nat → Int32} (hX : r_X σ v) : r_REL (ed_sJ μ 0 σ) (em_sR ν 1 v) := by
  obtain ⟨-, hk, ⟨z, ρ, z1, z2, z3, z4, z5⟩, ⟨t, t1, t2, t3, t4⟩⟩ := hR
  have m7 : ed_sJ μ 0 σ 7 = μ 7 := ed_sJ_ne μ σ (by decide)
  have n0 : em_sR ν 1 v 0 = ν 0 := pr_sRn ν v (by decide)
  refine ⟨by rw [ed_sJ_self, pr_sR1]; exact hX, ?_, ⟨z, ρ, z1, by rw [m7]; exact z2, by rw [n0]; exact z3, ⟨fun k hk => by rw [m7]; exact z4.1 k hk, z4.2⟩, fun k hk => ?_⟩, ⟨t, t1, by rw [m7]; exact t2, by rw [n0]; exact t3, fun k hk => by rw [m7, pr_sRn ν v (by decide)]; exact t4 k hk⟩⟩
  · unfold r_kept
    rw [m7, n0, pr_sRn ν v (by decide), ed_sJ_ne μ σ (show 2 ≠ 0 by decide)]
    exact hk
  · have := (z4.2.1 k (by omega)).1
    rw [ed_sJ_ne μ σ (show ρ k ≠ 0 by omega), pr_sRn ν v (by decide)]
    exact z5 k hk
/-! the rows of the class's history -/
def r_rw (μ : ed_CM) (k : Nat) (x : Int32) : ed_CM := ed_sJ μ 7 (ed_up (μ 7) 16 0 k x)
theorem r_rw_j (μ : ed_CM) (k : Nat) (x : Int32) {j : Nat} (h : j ≠ 7) : r_rw μ k x j = μ j := ed_sJ_ne μ _ h
theorem r_rw_K (μ : ed_CM) (k : Nat) (x : Int32) {K : Nat} (h : K ≠ 16) : r_rw μ k x 7 K = μ 7 K := by
  unfold r_rw
  rw [ed_sJ_self]
  funext i
  rw [pr_up_K _ _ h]
theorem r_rw_i (μ : ed_CM) (k : Nat) (x : Int32) (i : Nat) : r_rw μ k x 7 16 0 i = if i = k then x else μ 7 16 0 i := by
  unfold r_rw
  rw [ed_sJ_self, pr_up]
  simp
theorem r_mod (a : Nat) (h : a < 7) : (nI a).toNatClampNeg % 7 = a := by rw [nI_clamp (by omega), Nat.mod_eq_of_lt h]
theorem r_drop1 (n x a b : Nat) (hx : x < 3) {μ : ed_CM} (h1 : μ 7 16 0 x = nI a) (h2 : μ 7 16 0 (x + 1) = nI b) (ha : a < 7) (hb : b < 7) : f_X2_dropOldest_2 (n + 1) (nI x) μ = f_X2_dropOldest_2 n (nI (x + 1)) (r_rw (r_rw μ x (nI b)) (x + 1) (nI a)) := by
  have e1 : nI x + 1 = nI (x + 1) := nI_add x 1
  have e2 : ¬ (4 : Int32) ≤ nI (x + 1) := by
    show ¬ nI 4 ≤ nI (x + 1)
    rw [pr_le (by omega) (by omega)]; omega
  rw [f_X2_dropOldest_2, e1, if_neg e2, pr_gin (by omega) (by omega), pr_t, pr_gin (by omega) (by omega), pr_t, pr_gin (by omega) (by omega), pr_t, pr_gin (by omega) (by omega), pr_t, nI_clamp (n := x) (by omega), nI_clamp (n := x + 1) (by omega), h1, h2, r_mod a ha, r_mod b hb]
  rfl
theorem r_drop {μ : ed_CM} {ρ : Nat → Nat} (hρ : r_rows μ ρ) (hz : μ 7 15 0 1 = nI 4) : ∃ μ', f_X2_dropOldest μ = some μ' ∧ (∀ j, j ≠ 7 → μ' j = μ j) ∧ (∀ K, K ≠ 15 → K ≠ 16 → μ' 7 K = μ 7 K) ∧ μ' 7 15 0 1 = nI 3 ∧ r_rows μ' (fun k => ρ ((k + 1) % 4)) := by
  obtain ⟨r1, r2, r3⟩ := hρ
  have g0 := r2 0 (by omega)
  have g1 := r2 1 (by omega)
  have g2 := r2 2 (by omega)
  have g3 := r2 3 (by omega)
  have s1 := r_drop1 9999 0 (ρ 0) (ρ 1) (by omega) (r1 0 (by omega)) (r1 1 (by omega)) (by omega) (by omega)
  have h1 : r_rw (r_rw μ 0 (nI (ρ 1))) (0 + 1) (nI (ρ 0)) 7 16 0 1 = nI (ρ 0) := by rw [r_rw_i, if_pos rfl]
  have h2 : r_rw (r_rw μ 0 (nI (ρ 1))) (0 + 1) (nI (ρ 0)) 7 16 0 (1 + 1) = nI (ρ 2) := by rw [r_rw_i, if_neg (by omega), r_rw_i, if_neg (by omega)]; exact r1 2 (by omega)
  have s2 := r_drop1 9998 1 (ρ 0) (ρ 2) (by omega) h1 h2 (by omega) (by omega)
  have h3 : r_rw (r_rw (r_rw (r_rw μ 0 (nI (ρ 1))) (0 + 1) (nI (ρ 0))) 1 (nI (ρ 2))) (1 + 1) (nI (ρ 0)) 7 16 0 2 = nI (ρ 0) := by rw [r_rw_i, if_pos rfl]
  have h4 : r_rw (r_rw (r_rw (r_rw μ 0 (nI (ρ 1))) (0 + 1) (nI (ρ 0))) 1 (nI (ρ 2))) (1 + 1) (nI (ρ 0)) 7 16 0 (2 + 1) = nI (ρ 3) := by
    rw [r_rw_i, if_neg (by omega), r_rw_i, if_neg (by omega), r_rw_i, if_neg (by omega), r_rw_i, if_neg (by omega)]; exact r1 3 (by omega)
  have s3 := r_drop1 9997 2 (ρ 0) (ρ 3) (by omega) h3 h4 (by omega) (by omega)
  have s0 : f_X2_dropOldest μ = f_X2_dropOldest_2 (9999 + 1) (nI 0) μ := rfl
  rw [s0, s1, s2, s3]
  generalize hm : r_rw (r_rw (r_rw (r_rw (r_rw (r_rw μ 0 (nI (ρ 1))) (0 + 1) (nI (ρ 0))) 1 (nI (ρ 2))) (1 + 1) (nI (ρ 0))) 2 (nI (ρ 3))) (2 + 1) (nI (ρ 0)) = m
  have m7 : ∀ K, K ≠ 16 → m 7 K = μ 7 K := fun K h => by rw [← hm, r_rw_K _ _ _ h, r_rw_K _ _ _ h, r_rw_K _ _ _ h, r_rw_K _ _ _ h, r_rw_K _ _ _ h, r_rw_K _ _ _ h]
  have mj : ∀ j, j ≠ 7 → m j = μ j := fun j h => by rw [← hm, r_rw_j _ _ _ h, r_rw_j _ _ _ h, r_rw_j _ _ _ h, r_rw_j _ _ _ h, r_rw_j _ _ _ h, r_rw_j _ _ _ h]
  have mi : ∀ k, k < 4 → m 7 16 0 k = nI (ρ ((k + 1) % 4)) := fun k hk => by
    rw [← hm, r_rw_i, r_rw_i, r_rw_i, r_rw_i, r_rw_i, r_rw_i]
    rcases (show k = 0 ∨ k = 1 ∨ k = 2 ∨ k = 3 by omega) with rfl | rfl | rfl | rfl <;> rfl
  have e4 : (4 : Int32) ≤ nI (2 + 1) + 1 := by decide
  rw [f_X2_dropOldest_2, if_pos e4, pr_t, m7 15 (by decide), hz]
  refine ⟨_, rfl, fun j h => by rw [ed_sJ_ne _ _ h, mj j h], fun K h15 h16 => ?_, ?_, fun k hk => ?_, fun k hk => r2 _ (by omega), fun k k' hk hk' he => ?_⟩
  · rw [ed_sJ_self]
    funext i
    rw [pr_up_K _ _ h15, m7 K h16]
  · rw [ed_sJ_self, pr_up_same]
    exact pk_sub (a := 4) (b := 1) (by omega)
  · rw [ed_sJ_self, pr_up_K _ _ (by decide)]
    exact mi k hk
  · have := r3 _ _ (by omega) (by omega) he
    omega
theorem r_push {μ : ed_CM} {ρ : Nat → Nat} {z : Nat} (hρ : r_rows μ ρ) (hz : μ 7 15 0 1 = nI z) (h3 : z < 4) {v : Nat → Int32} (hX : r_X (μ 0) v) : ∃ σ, ∃ μ', (if (f_X8_isPlace (μ 7 15 0 1) 4) = 0 then some μ else ed_g (ed_in (μ 7 15 0 1) 4) ( ed_t ((μ 7 16 0 ((μ 7 15 0 1).toNatClampNeg)).toNatClampNeg % 7) (fun j5q => ed_g ((0 : Nat) ≠ j5q) ( ed_b (f_X5_copyFrom (μ 0) (μ j5q)) (fun σ7 => ed_t (ed_sJ μ j5q σ7) (fun μ8 => ed_t (ed_sJ μ8 7 (ed_up (μ8 7) 15 0 1 ((μ8 7 15 0 1) + 1))) (fun μ9 => (some μ9)))))))) = some μ' ∧ r_X σ v ∧ (∀ j, j ≠ 7 → j ≠ ρ z → μ' j = μ j) ∧ μ' (ρ z) = σ ∧ (∀ K, K ≠ 15 → μ' 7 K = μ 7 K) ∧ μ' 7 15 0 1 = nI (z + 1) := by
  obtain ⟨r1, r2, r3⟩ := hρ
  have g := r2 z h3
  obtain ⟨σ', c1, c2⟩ := hX.cp (μ (ρ z))
  have e1 : f_X8_isPlace (nI z) 4 = 1 := by
    rw [pr_isPlace, if_neg (nI_pos (by omega)), if_neg]
    show ¬ nI 4 ≤ nI z
    rw [pr_le (by omega) (by omega)]; omega
  rw [hz, e1, if_neg (by decide), pr_gin (by omega) (by omega), pr_t, nI_clamp (by omega), r1 z h3, r_mod _ (by omega), pr_g (show (0 : Nat) ≠ ρ z by omega), c1, pr_b, pr_t, pr_t]
  have m7 : ed_sJ μ (ρ z) σ' 7 = μ 7 := ed_sJ_ne μ σ' (by omega)
  rw [m7, hz]
  refine ⟨σ', _, rfl, c2, fun j h1 h2 => by rw [ed_sJ_ne _ _ h1, ed_sJ_ne _ _ h2], by rw [ed_sJ_ne _ _ (by omega), ed_sJ_self], fun K h => ?_, ?_⟩
  · rw [ed_sJ_self]
    funext i
    rw [pr_up_K _ _ h]
  · rw [ed_sJ_self, pr_up_same]
    exact nI_add z 1
/-! the reference's rows -/
theorem r_51 : ∀ (d x n z : Nat) (ν : em_MM), x + d = 1683 → d < n → z < 4 → ν 0 3 = nI z → ∃ ν', f_X9_record_51 n (nI x) ν = some ν' ∧ (∀ i, i ≠ 0 → i ≠ 3 → ν' i = ν i) ∧ (∀ k, k ≠ 3 → ν' 0 k = ν 0 k) ∧ ν' 0 3 = nI (z + 1) ∧ (∀ a, x ≤ a → a < 1683 → ν' 3 (1683 * z + a) = ν 1 a) ∧ ∀ b, b < 1683 * z + x ∨ 1683 * z + 1683 ≤ b → ν' 3 b = ν 3 b := by
  intro d
  induction d with
  | zero =>
    intro x n z ν hx hn hz h3
    obtain ⟨n, rfl⟩ : ∃ q, n = q + 1 := ⟨n - 1, by omega⟩
    have c : (1683 : Int32) ≤ nI x := by
      show nI 1683 ≤ nI x
      rw [pr_le (by omega) (by omega)]; omega
    rw [f_X9_record_51, if_pos c, pr_t, h3]
    refine ⟨_, rfl, fun i h0 h3 => em_ne _ _ _ h0, fun k hk => by rw [em_same, pr_une _ _ hk], by rw [em_same, pr_ueq _ _ rfl]; exact nI_add z 1, fun a h1 h2 => by omega, fun b hb => by rw [em_ne _ _ _ (by decide)]⟩
  | succ d ih =>
    intro x n z ν hx hn hz h3
    obtain ⟨n, rfl⟩ : ∃ q, n = q + 1 := ⟨n - 1, by omega⟩
    have c : ¬ (1683 : Int32) ≤ nI x := by
      show ¬ nI 1683 ≤ nI x
      rw [pr_le (by omega) (by omega)]; omega
    have e1 : nI x + 1 = nI (x + 1) := nI_add x 1
    have e2 : (1683 : Int32) * nI z + nI x = nI (1683 * z + x) := by
      rw [show (1683 : Int32) = nI 1683 from rfl, pk_mul, nI_add]
    rw [f_X9_record_51, if_neg c, h3, e1, e2, pr_gin (by omega) (by omega), pr_gin (by omega) (by omega), pr_t, nI_clamp (by omega), nI_clamp (by omega)]
    obtain ⟨ν', y1, y2, y3, y4, y5, y6⟩ := ih (x + 1) n z (em_up ν 3 (1683 * z + x) (ν 1 x)) (by omega) (by omega) hz (by rw [em_ne _ _ _ (by decide)]; exact h3)
    refine ⟨ν', y1, fun i h0 h3 => by rw [y2 i h0 h3, em_ne _ _ _ h3], fun k hk => by rw [y3 k hk, em_ne _ _ _ (by decide)], y4, fun a h1 h2 => ?_, fun b hb => ?_⟩
    · by_cases ha : a = x
      · subst ha
        rw [y6 _ (by omega), em_same, pr_ueq _ _ rfl]
      · rw [y5 a (by omega) h2, em_ne _ _ _ (by decide)]
    · rw [y6 b (by omega), em_same, pr_une _ _ (by omega)]
theorem r_10 : ∀ (d x n : Nat) (ν : em_MM), x + d = 5049 → d < n → ν 0 3 = nI 4 → ∃ ν', f_X9_record_10 n (nI x) ν = f_X9_record_51 ed_N 0 ν' ∧ (∀ i, i ≠ 0 → i ≠ 3 → ν' i = ν i) ∧ (∀ k, k ≠ 3 → ν' 0 k = ν 0 k) ∧ ν' 0 3 = nI 3 ∧ (∀ a, x ≤ a → a < 5049 → ν' 3 a = ν 3 (a + 1683)) ∧ ∀ b, b < x → ν' 3 b = ν 3 b := by
  intro d
  induction d with
  | zero =>
    intro x n ν hx hn h3
    obtain ⟨n, rfl⟩ : ∃ q, n = q + 1 := ⟨n - 1, by omega⟩
    have c : (5049 : Int32) ≤ nI x := by
      show nI 5049 ≤ nI x
      rw [pr_le (by omega) (by omega)]; omega
    rw [f_X9_record_10, if_pos c, pr_t, h3]
    refine ⟨_, rfl, fun i h0 h3 => em_ne _ _ _ h0, fun k hk => by rw [em_same, pr_une _ _ hk], by rw [em_same, pr_ueq _ _ rfl]; exact pk_sub (a := 4) (b := 1) (by omega), fun a h1 h2 => by omega, fun b hb => by rw [em_ne _ _ _ (by decide)]⟩
  | succ d ih =>
    intro x n ν hx hn h3
    obtain ⟨n, rfl⟩ : ∃ q, n = q + 1 := ⟨n - 1, by omega⟩
    have c : ¬ (5049 : Int32) ≤ nI x := by
      show ¬ nI 5049 ≤ nI x
      rw [pr_le (by omega) (by omega)]; omega
    have e1 : nI x + 1 = nI (x + 1) := nI_add x 1
    have e2 : nI x + (1683 : Int32) = nI (x + 1683) := nI_add x 1683
    rw [f_X9_record_10, if_neg c, e1, e2, pr_gin (by omega) (by omega), pr_gin (by omega) (by omega), pr_t, nI_clamp (by omega), nI_clamp (by omega)]
    obtain ⟨ν', y1, y2, y3, y4, y5, y6⟩ := ih (x + 1) n (em_up ν 3 x (ν 3 (x + 1683))) (by omega) (by omega) (by rw [em_ne _ _ _ (by decide)]; exact h3)
    refine ⟨ν', y1, fun i h0 h3 => by rw [y2 i h0 h3, em_ne _ _ _ h3], fun k hk => by rw [y3 k hk, em_ne _ _ _ (by decide)], y4, fun a h1 h2 => ?_, fun b hb => ?_⟩
    · by_cases ha : a = x
      · subst ha
        rw [y6 _ (by omega), em_same, pr_ueq _ _ rfl]
      · rw [y5 a (by omega) h2, em_same, pr_une _ _ (by omega)]
    · rw [y6 b (by omega), em_same, pr_une _ _ (by omega)]
