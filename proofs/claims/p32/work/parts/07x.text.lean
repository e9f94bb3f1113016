/-! The text: both read alike. -/
def r_pos (σ : ed_SM) (ν : em_MM) (t pl : Nat) : Prop := t ≤ 40 ∧ pl ≤ t ∧ σ 17 0 1 = nI t ∧ ν 0 7 = nI t ∧ (∀ k, k < t → σ 18 0 k = ν 5 k) ∧ σ 17 0 2 = nI pl ∧ ν 0 8 = nI pl
theorem r_pos.st {σ σ' : ed_SM} {ν ν' : em_MM} {t pl pl' : Nat} (h : r_pos σ ν t pl) (h1 : σ' 17 0 1 = σ 17 0 1) (h2 : σ' 18 = σ 18) (h3 : ν' 0 7 = ν 0 7) (h4 : ν' 5 = ν 5) (h5 : σ' 17 0 2 = nI pl') (h6 : ν' 0 8 = nI pl') (h7 : pl' ≤ t) : r_pos σ' ν' t pl' := by
  obtain ⟨a1, a2, a3, a4, a5, a6, a7⟩ := h
  exact ⟨a1, h7, by rw [h1]; exact a3, by rw [h3]; exact a4, fun k hk => by rw [h2, h4]; exact a5 k hk, h5, h6⟩
theorem r_sign1 {σ : ed_SM} {ν : em_MM} {t pl : Nat} (h : r_pos σ ν t pl) (hl : pl < t) : f_X7_sign σ = some (ν 5 pl) := by
  obtain ⟨a1, a2, a3, a4, a5, a6, a7⟩ := h
  unfold f_X7_sign
  rw [a3, a6]
  refine (pr_at_in (n := 40) (by omega) a1 hl).trans ?_
  rw [nI_clamp (by omega), a5 pl hl]
theorem r_sign0 {σ : ed_SM} {ν : em_MM} {t : Nat} (h : r_pos σ ν t t) : f_X7_sign σ = some (-1) := by
  obtain ⟨a1, a2, a3, a4, a5, a6, a7⟩ := h
  unfold f_X7_sign
  rw [a3, a6]
  exact pr_at_out (n := 40) (by omega) a1 (Or.inr (by rw [pr_le (by omega) (by omega)]; omega))
theorem r_ndig {x : Int32} (L : Nat) (hL : L ≤ 9) (h : ∀ q, q ≤ L → ¬ x = nI (48 + q)) : f_X9_in (x - 48) 0 (nI L) = 0 := by
  by_cases g : f_X9_in (x - 48) 0 (nI L) = 0
  · exact g
  · have w := pr_in2 g
    have e0 : (0 : Int32).toInt = 0 := by decide
    rw [e0, nI_toInt (by omega)] at w
    obtain ⟨q, hq, hq2⟩ := pr_nn (x := x - 48) w.1
    rw [hq2, nI_toInt hq] at w
    have : x = nI (48 + q) := by
      have h2 := Int32.sub_add_cancel x 48
      rw [← h2, hq2, Nat.add_comm, ← nI_add]
      rfl
    exact absurd this (h q (by omega))
theorem r_nbet {x : Int32} (h : ∀ q, q ≤ 9 → ¬ x = nI (48 + q)) : f_X8_isBetween x 48 57 = 0 := by
  by_cases g : f_X8_isBetween x 48 57 = 0
  · exact g
  · rw [pr_89] at g
    have w := pr_in2 g
    have e0 : (48 : Int32).toInt = 48 := by decide
    have e1 : (57 : Int32).toInt = 57 := by decide
    rw [e0, e1] at w
    obtain ⟨q, hq, hq2⟩ := pr_nn (x := x) (by omega)
    rw [hq2, nI_toInt hq] at w
    exact absurd (by rw [hq2, show 48 + (q - 48) = q by omega]) (h (q - 48) (by omega))
theorem r_digit {σ : ed_SM} {ν : em_MM} {t pl : Nat} (hp : r_pos σ ν t pl) {L : Nat} (hL : L ≤ 9) : (∃ q, q ≤ L ∧ pl < t ∧ f_X7_digit σ = some (nI q) ∧ ν 5 pl = nI (48 + q) ∧ f_X9_digitTo (nI L) ν = some (1, em_up (em_up ν 0 10 (nI q)) 0 8 (nI (pl + 1)))) ∨ (∃ x ν', f_X7_digit σ = some x ∧ (x = -1 ∨ ∃ q, L < q ∧ q ≤ 9 ∧ x = nI q) ∧ f_X9_digitTo (nI L) ν = some (0, ν') ∧ ν' 0 8 = nI pl ∧ (∀ i, i ≠ 0 → ν' i = ν i) ∧ ∀ k, k ≠ 8 → k ≠ 10 → ν' 0 k = ν 0 k) := by
  obtain ⟨a1, a2, a3, a4, a5, a6, a7⟩ := id hp
  unfold f_X7_digit f_X9_digitTo
  by_cases hl : pl < t
  · have c : ¬ nI t ≤ nI pl := by rw [pr_le (by omega) (by omega)]; omega
    have n5 : ν 5 (nI pl).toNatClampNeg = ν 5 pl := by rw [nI_clamp (by omega)]
    rw [r_sign1 hp hl, pr_b, a4, a7, if_neg c, pr_gin (by omega) (by omega), pr_t, pr_t, n5, em_same, pr_ueq _ _ rfl, pr_une _ _ (by omega), a7]
    by_cases hd : ∃ q, q ≤ 9 ∧ ν 5 pl = nI (48 + q)
    · obtain ⟨q, hq, hq2⟩ := hd
      have b1 : f_X8_isBetween (ν 5 pl) 48 57 = 1 := by
        rw [pr_89, pr_9in, hq2, if_neg, if_neg]
        · show ¬ nI 57 < nI (48 + q)
          rw [pr_lt (by omega) (by omega)]; omega
        · show ¬ nI (48 + q) < nI 48
          rw [pr_lt (by omega) (by omega)]; omega
      have b2 : ν 5 pl - 48 = nI q := by
        rw [hq2]
        have := pk_sub (a := 48 + q) (b := 48) (by omega)
        rw [show 48 + q - 48 = q by omega] at this
        exact this
      rw [b1, if_neg (show ¬ (1 : Int32) = 0 by decide), b2, pr_b]
      by_cases hqL : q ≤ L
      · have c2 : f_X9_in (nI q) 0 (nI L) = 1 := by
          rw [pr_9in, if_neg (nI_pos (by omega)), if_neg]
          rw [pr_lt (by omega) (by omega)]; omega
        refine Or.inl ⟨q, hqL, hl, by rw [b2], hq2, ?_⟩
        have e1 : nI pl + 1 = nI (pl + 1) := nI_add pl 1
        rw [c2, if_neg (show ¬ (1 : Int32) = 0 by decide), pr_t, pr_g (Or.inr rfl), e1]
      · have c2 : f_X9_in (nI q) 0 (nI L) = 0 := by
          rw [pr_9in, if_neg (nI_pos (by omega)), if_pos]
          rw [pr_lt (by omega) (by omega)]; omega
        refine Or.inr ⟨nI q, em_up (em_up ν 0 10 (nI q)) 0 8 (nI pl), by rw [b2], Or.inr ⟨q, by omega, hq, rfl⟩, ?_, ?_, fun i hi => ?_, fun k h8 h10 => ?_⟩
        · rw [c2, if_pos rfl, pr_t, pr_g (Or.inl rfl), pr_z]
        · rw [em_same, pr_ueq _ _ rfl]
        · rw [em_ne _ _ _ hi, em_ne _ _ _ hi]
        · rw [em_same, pr_une _ _ h8, em_same, pr_une _ _ h10]
    · have hd : ∀ q, q ≤ 9 → ¬ ν 5 pl = nI (48 + q) := fun q hq g => hd ⟨q, hq, g⟩
      have c2 := r_ndig L hL (fun q hq => hd q (by omega))
      refine Or.inr ⟨-1, em_up (em_up ν 0 10 (ν 5 pl - 48)) 0 8 (nI pl), ?_, Or.inl rfl, ?_, ?_, fun i hi => ?_, fun k h8 h10 => ?_⟩
      · rw [r_nbet hd, if_pos rfl]
      · rw [c2, if_pos rfl, pr_t, pr_g (Or.inl rfl), pr_z]
      · rw [em_same, pr_ueq _ _ rfl]
      · rw [em_ne _ _ _ hi, em_ne _ _ _ hi]
      · rw [em_same, pr_une _ _ h8, em_same, pr_une _ _ h10]
  · obtain rfl : pl = t := by omega
    have c : nI pl ≤ nI pl := by rw [pr_le (by omega) (by omega)]; omega
    have c2 : f_X9_in (-1) 0 (nI L) = 0 := by rw [pr_9in, if_pos (by decide)]
    refine Or.inr ⟨-1, em_up (em_up ν 0 10 (-1)) 0 8 (nI pl), ?_, Or.inl rfl, ?_, ?_, fun i hi => ?_, fun k h8 h10 => ?_⟩
    · rw [r_sign0 hp, pr_b, if_pos (by decide)]
    · rw [a4, a7, if_pos c, pr_t, em_same, pr_ueq _ _ rfl, pr_une _ _ (by omega), a7, c2, if_pos rfl, pr_t, pr_g (Or.inl rfl), pr_z]
    · rw [em_same, pr_ueq _ _ rfl]
    · rw [em_ne _ _ _ hi, em_ne _ _ _ hi]
    · rw [em_same, pr_une _ _ h8, em_same, pr_une _ _ h10]
/-- a sign, both -/
theorem r_rsign {σ : ed_SM} {ν : em_MM} {t pl : Nat} (hp : r_pos σ ν t pl) {x : Int32} (hx : ¬ (-1 : Int32) = x) : (pl < t ∧ f_X7_readSign x σ = some (1, ed_up σ 17 0 2 (nI (pl + 1))) ∧ f_X9_sign x ν = some (1, em_up ν 0 8 (nI (pl + 1)))) ∨ (f_X7_readSign x σ = some (0, σ) ∧ f_X9_sign x ν = some (0, ν)) := by
  obtain ⟨a1, a2, a3, a4, a5, a6, a7⟩ := id hp
  unfold f_X7_readSign f_X9_sign
  have same : em_up ν 0 8 (nI pl) = ν := by
    funext i
    rw [pr_em]
    by_cases hi : i = 0
    · subst hi
      rw [if_pos rfl]
      funext k
      rw [pr_upd]
      by_cases hk : k = 8
      · subst hk; rw [if_pos rfl, a7]
      · rw [if_neg hk]
    · rw [if_neg hi]
  have e1 : nI pl + 1 = nI (pl + 1) := nI_add pl 1
  by_cases hl : pl < t
  · have c : ¬ nI t ≤ nI pl := by rw [pr_le (by omega) (by omega)]; omega
    have n5 : ν 5 (nI pl).toNatClampNeg = ν 5 pl := by rw [nI_clamp (by omega)]
    rw [r_sign1 hp hl, pr_b, a4, a7, if_neg c, pr_gin (by omega) (by omega), n5, a6]
    by_cases g : ν 5 pl = x
    · rw [if_pos g, if_pos g, pr_t, pr_t, e1]
      exact Or.inl ⟨hl, rfl, rfl⟩
    · rw [if_neg g, if_neg g, pr_t, pr_z, same]
      exact Or.inr ⟨rfl, rfl⟩
  · obtain rfl : pl = t := by omega
    have c : nI pl ≤ nI pl := by rw [pr_le (by omega) (by omega)]; omega
    rw [r_sign0 hp, pr_b, a4, a7, if_pos c, if_neg hx, pr_t, pr_z, same]
    exact Or.inr ⟨rfl, rfl⟩
/-- what reading leaves -/
def r_kp (σ σ' : ed_SM) (ν ν' : em_MM) : Prop := (∀ K, K ≠ 17 → K ≠ 19 → K ≠ 20 → σ' K = σ K) ∧ (∀ i, i ≠ 0 → i ≠ 6 → ν' i = ν i) ∧ (∀ k, k ≠ 8 → k ≠ 10 → ν' 0 k = ν 0 k) ∧ σ' 17 0 1 = σ 17 0 1
theorem r_kp.rf (σ : ed_SM) (ν : em_MM) : r_kp σ σ ν ν := ⟨fun _ _ _ _ => rfl, fun _ _ _ => rfl, fun _ _ _ => rfl, rfl⟩
theorem r_kp.tr {σ σ1 σ2 : ed_SM} {ν ν1 ν2 : em_MM} (h1 : r_kp σ σ1 ν ν1) (h2 : r_kp σ1 σ2 ν1 ν2) : r_kp σ σ2 ν ν2 := ⟨fun K a b c => (h2.1 K a b c).trans (h1.1 K a b c), fun i a b => (h2.2.1 i a b).trans (h1.2.1 i a b), fun k a b => (h2.2.2.1 k a b).trans (h1.2.2.1 k a b), h2.2.2.2.trans h1.2.2.2⟩
theorem r_kp.s2 (σ : ed_SM) (ν : em_MM) (x : Int32) : r_kp σ (ed_up σ 17 0 2 x) ν (em_up ν 0 8 x) := ⟨fun K h _ _ => by funext i; rw [pr_up_K _ _ h], fun i h _ => em_ne _ _ _ h, fun k h _ => by rw [em_same, pr_une _ _ h], pr_up_k _ _ (by decide)⟩
