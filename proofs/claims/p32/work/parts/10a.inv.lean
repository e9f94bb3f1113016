/-! The property of the class's own: sums, and what holds of a state besides the relation. -/
def j_s (f : Nat → Int) : Nat → Int
  | 0 => 0
  | n + 1 => j_s f n + f n
theorem j_s_cg {f g : Nat → Int} : ∀ (n : Nat), (∀ k, k < n → g k = f k) → j_s g n = j_s f n
  | 0, _ => rfl
  | n + 1, h => by
    show j_s g n + g n = j_s f n + f n
    rw [j_s_cg n (fun k hk => h k (by omega)), h n (by omega)]
theorem j_s_up {f g : Nat → Int} {i : Nat} {d : Int} (hi : g i = f i + d) (h : ∀ k, k ≠ i → g k = f k) : ∀ (n : Nat), j_s g n = j_s f n + (if i < n then d else 0)
  | 0 => by
    rw [if_neg (by omega)]
    rfl
  | n + 1 => by
    show j_s g n + g n = j_s f n + f n + _
    rw [j_s_up hi h n]
    by_cases hn : n = i
    · subst hn
      rw [hi, if_neg (by omega), if_pos (by omega)]
      omega
    · rw [h n hn]
      by_cases h2 : i < n
      · rw [if_pos h2, if_pos (by omega)]
        omega
      · rw [if_neg h2, if_neg (by omega)]
        omega
theorem j_s_nn {f : Nat → Int} : ∀ (n : Nat), (∀ k, k < n → 0 ≤ f k) → 0 ≤ j_s f n
  | 0, _ => Int.le_refl 0
  | n + 1, h => by
    show 0 ≤ j_s f n + f n
    have h1 := j_s_nn n (fun k hk => h k (by omega))
    have h2 := h n (by omega)
    omega
theorem j_s_le {f : Nat → Int} {i : Nat} : ∀ (n : Nat), (∀ k, k < n → 0 ≤ f k) → i < n → f i ≤ j_s f n
  | 0, _, hi => absurd hi (Nat.not_lt_zero i)
  | n + 1, h, hi => by
    show f i ≤ j_s f n + f n
    have h2 := h n (by omega)
    by_cases hn : i = n
    · subst hn
      have h1 := j_s_nn (f := f) i (fun k hk => h k (by omega))
      omega
    · have h1 := j_s_le n (fun k hk => h k (by omega)) (show i < n by omega)
      omega
def j_C1 (σ : ed_SM) (c : Nat) (M : Int) : Prop :=
  ed_bo (σ 11 c 5) ∧ 0 ≤ (σ 11 c 1).toInt ∧ (σ 11 c 1).toInt ≤ 48 ∧ 0 ≤ (σ 11 c 2).toInt ∧ (σ 11 c 2).toInt ≤ 24 ∧ (σ 11 c 3).toInt ≤ 9 ∧ 0 ≤ (σ 11 c 4).toInt ∧ (σ 11 c 4).toInt < 9000 ∧ 0 ≤ (σ 11 c 6).toInt ∧ 0 ≤ (σ 11 c 7).toInt ∧ (σ 11 c 7).toInt ≤ (σ 11 c 3).toInt ∧ (σ 11 c 7).toInt ≤ (σ 11 c 8).toInt ∧ (σ 11 c 8).toInt ≤ M ∧ σ 11 c 9 = 0
def j_S1 (σ : ed_SM) (s h : Nat) : Prop :=
  (∃ m, 1 ≤ m ∧ m ≤ 3 ∧ σ 7 s 1 = nI m ∧ (∀ k, k < m → ∃ q, q < 10 ∧ σ 8 s k = nI q) ∧ ∀ k k', k < m → k' < m → σ 8 s k = σ 8 s k' → k = k') ∧
  0 ≤ (σ 7 s 7).toInt ∧ (σ 7 s 7).toInt ≤ 6 ∧ 0 ≤ (σ 7 s 6).toInt ∧ (σ 7 s 6).toInt ≤ 3 ∧ (σ 7 s 9 = -5 ∨ (0 ≤ (σ 7 s 9).toInt ∧ (σ 7 s 9).toInt ≤ h)) ∧ (σ 7 s 6 = 0 ∨ σ 7 s 6 = 1 → σ 7 s 9 = -5)
def j_K1 (σ : ed_SM) (p nC nS : Nat) : Prop := ∃ s c, s < nS ∧ c < nC ∧ σ 12 p 0 = nI s ∧ σ 12 p 1 = nI c ∧ ¬ σ 7 s 9 = -5 ∧ σ 12 p 3 = σ 7 s 9 + σ 11 c 1 ∧
  (((σ 12 p 2 = 0 ∨ σ 12 p 2 = 4) ∧ σ 12 p 4 = -5 ∧ σ 12 p 5 = -5) ∨ ((σ 12 p 2 = 1 ∨ σ 12 p 2 = 2 ∨ σ 12 p 2 = 3) ∧ (σ 12 p 3).toInt ≤ (σ 12 p 4).toInt ∧ 0 ≤ (σ 12 p 5).toInt ∧ (σ 12 p 5).toInt ≤ (σ 7 s 7).toInt))
def j_H (σ : ed_SM) (h nC nS nK : Nat) : Prop := σ 0 0 0 = nI h ∧ σ 0 0 3 = nI nS ∧ σ 0 0 4 = nI nC ∧ σ 0 0 5 = nI nK ∧ nC ≤ 8 ∧ nS ≤ 20 ∧ nK ≤ 160 ∧ h ≤ 9999
def j_g (σ : ed_SM) : Nat → Int := fun q => (σ 13 q 0).toInt
def j_o (σ : ed_SM) : Nat → Int := fun c => (σ 11 c 6).toInt
def j_J (σ : ed_SM) (M pd : Int) (h nC nS nK : Nat) : Prop := j_H σ h nC nS nK ∧ (∀ c, c < nC → j_C1 σ c M) ∧ (∀ q, q < 10 → 0 ≤ (σ 13 q 0).toInt ∧ σ 13 q 1 = 0) ∧ (∀ s, s < nS → j_S1 σ s h) ∧ (∀ p, p < nK → j_K1 σ p nC nS) ∧ j_s (j_g σ) 10 = j_s (j_o σ) nC + pd ∧ j_s (j_g σ) 10 ≤ M ∧ 0 ≤ pd
theorem j_J.cg {σ σ' : ed_SM} {M pd : Int} {h nC nS nK : Nat} (H : j_J σ M pd h nC nS nK) (h0 : ∀ k, k = 0 ∨ k = 3 ∨ k = 4 ∨ k = 5 → σ' 0 0 k = σ 0 0 k) (h7 : σ' 7 = σ 7) (h8 : σ' 8 = σ 8) (h11 : σ' 11 = σ 11) (h12 : σ' 12 = σ 12) (h13 : σ' 13 = σ 13) : j_J σ' M pd h nC nS nK := by
  obtain ⟨⟨a0, a3, a4, a5, a6⟩, C, P, S, K, m1, m2, m3⟩ := H
  have eg : j_g σ' = j_g σ := by unfold j_g; rw [h13]
  have eo : j_o σ' = j_o σ := by unfold j_o; rw [h11]
  refine ⟨⟨by rw [h0 0 (by omega)]; exact a0, by rw [h0 3 (by omega)]; exact a3, by rw [h0 4 (by omega)]; exact a4, by rw [h0 5 (by omega)]; exact a5, a6⟩, fun c hc => ?_, fun q hq => ?_, fun s hs => ?_, fun p hp => ?_, by rw [eg, eo]; exact m1, by rw [eg]; exact m2, m3⟩
  · unfold j_C1; rw [h11]; exact C c hc
  · rw [h13]; exact P q hq
  · unfold j_S1; rw [h7, h8]; exact S s hs
  · unfold j_K1; rw [h7, h11, h12]; exact K p hp
theorem j_J.mono {σ : ed_SM} {M M' pd : Int} {h nC nS nK : Nat} (H : j_J σ M pd h nC nS nK) (hM : M ≤ M') : j_J σ M' pd h nC nS nK := by
  obtain ⟨a, C, P, S, K, m1, m2, m3⟩ := H
  refine ⟨a, fun c hc => ?_, P, S, K, m1, Int.le_trans m2 hM, m3⟩
  obtain ⟨c1, c2, c3, c4, c5, c6, c7, c8, c9, c10, c11, c12, c13, c14⟩ := C c hc
  exact ⟨c1, c2, c3, c4, c5, c6, c7, c8, c9, c10, c11, c12, Int.le_trans c13 hM, c14⟩
/-- a copy's row -/
theorem j_J.K {σ σ' : ed_SM} {M pd : Int} {h nC nS nK p : Nat} (H : j_J σ M pd h nC nS nK) (hK : ∀ K, K ≠ 12 → σ' K = σ K) (hi : ∀ i, i ≠ p → σ' 12 i = σ 12 i) (hp : p < nK → j_K1 σ' p nC nS) : j_J σ' M pd h nC nS nK := by
  obtain ⟨a, C, P, S, K, m1, m2, m3⟩ := H
  have h7 := hK 7 (by decide)
  have h8 := hK 8 (by decide)
  have h11 := hK 11 (by decide)
  have h13 := hK 13 (by decide)
  have eg : j_g σ' = j_g σ := by unfold j_g; rw [h13]
  have eo : j_o σ' = j_o σ := by unfold j_o; rw [h11]
  refine ⟨by unfold j_H; rw [hK 0 (by decide)]; exact a, fun c hc => ?_, fun q hq => ?_, fun s hs => ?_, fun q hq => ?_, by rw [eg, eo]; exact m1, by rw [eg]; exact m2, m3⟩
  · unfold j_C1; rw [h11]; exact C c hc
  · rw [h13]; exact P q hq
  · unfold j_S1; rw [h7, h8]; exact S s hs
  · by_cases he : q = p
    · subst he; exact hp hq
    · unfold j_K1; rw [h7, h11, hi q he]; exact K q hq
/-- a client's row: what it owes, how many came -/
theorem j_J.C {σ σ' : ed_SM} {M M' pd pd' : Int} {h nC nS nK c : Nat} (H : j_J σ M pd h nC nS nK) (hK : ∀ K, K ≠ 11 → σ' K = σ K) (hi : ∀ i, i ≠ c → σ' 11 i = σ 11 i) (h1 : σ' 11 c 1 = σ 11 c 1) (hc : c < nC → j_C1 σ' c M') (hM : M ≤ M') (hm : j_s (j_g σ) 10 = j_s (j_o σ') nC + pd') (hpd : 0 ≤ pd') : j_J σ' M' pd' h nC nS nK := by
  obtain ⟨a, C, P, S, K, m1, m2, m3⟩ := H.mono hM
  have h7 := hK 7 (by decide)
  have h8 := hK 8 (by decide)
  have h12 := hK 12 (by decide)
  have h13 := hK 13 (by decide)
  have eg : j_g σ' = j_g σ := by unfold j_g; rw [h13]
  have e1 : ∀ i, σ' 11 i 1 = σ 11 i 1 := fun i => by
    by_cases he : i = c
    · subst he; exact h1
    · rw [hi i he]
  refine ⟨by unfold j_H; rw [hK 0 (by decide)]; exact a, fun i hic => ?_, fun q hq => ?_, fun s hs => ?_, fun q hq => ?_, by rw [eg]; exact hm, by rw [eg]; exact m2, hpd⟩
  · by_cases he : i = c
    · subst he; exact hc hic
    · unfold j_C1; rw [hi i he]; exact C i hic
  · rw [h13]; exact P q hq
  · unfold j_S1; rw [h7, h8]; exact S s hs
  · obtain ⟨s, c', b1, b2, b3, b4, b5, b6, b7⟩ := K q hq
    refine ⟨s, c', b1, b2, ?_⟩
    rw [h7, h12, e1]
    exact ⟨b3, b4, b5, b6, b7⟩
/-- a row of the log -/
theorem j_add {σ σ' : ed_SM} {x1 x2 x3 x4 : Int32} (hf : f_X3_add x1 x2 x3 x4 σ = some σ') : ∀ K, K ≠ 1 → K ≠ 2 → σ' K = σ K := by
  unfold f_X3_add at hf
  obtain ⟨σ1, e1, hf⟩ := ed_t_e hf
  obtain ⟨σ2, e2, hf⟩ := ed_t_e hf
  have k2 : ∀ K, K ≠ 1 → K ≠ 2 → σ2 K = σ K := fun K h1 h2 => by
    rw [e2, e1]
    funext i
    rw [pr_up_K _ _ h1, pr_up_K _ _ h1]
  split at hf
  · obtain rfl := Option.some.inj hf
    exact k2
  · obtain ⟨-, hf⟩ := ed_g_e hf
    obtain ⟨σ6, e6, hf⟩ := ed_t_e hf
    obtain ⟨-, hf⟩ := ed_g_e hf
    obtain ⟨σ8, e8, hf⟩ := ed_t_e hf
    obtain ⟨-, hf⟩ := ed_g_e hf
    obtain ⟨σ10, e10, hf⟩ := ed_t_e hf
    obtain ⟨-, hf⟩ := ed_g_e hf
    obtain ⟨σ12, e12, hf⟩ := ed_t_e hf
    obtain rfl := Option.some.inj hf
    intro K h1 h2
    rw [← k2 K h1 h2, e12, e10, e8, e6]
    funext i
    rw [pr_up_K _ _ h2, pr_up_K _ _ h2, pr_up_K _ _ h2, pr_up_K _ _ h2]
theorem j_J.lg {σ σ' : ed_SM} {M pd : Int} {h nC nS nK : Nat} (H : j_J σ M pd h nC nS nK) (hK : ∀ K, K ≠ 1 → K ≠ 2 → σ' K = σ K) : j_J σ' M pd h nC nS nK :=
  H.cg (fun k _ => by rw [hK 0 (by decide) (by decide)]) (hK 7 (by decide) (by decide)) (hK 8 (by decide) (by decide)) (hK 11 (by decide) (by decide)) (hK 12 (by decide) (by decide)) (hK 13 (by decide) (by decide))
