/-! The text: hour and slug. -/
theorem r_hourEnd (ν : em_MM) {st pl e : Nat} (h8 : ν 0 8 = nI pl) (hs : st < pl) (hp : pl ≤ 40) : (ed_g (ed_in 5 29) ( ed_t (em_up ν 6 (5 : Int32).toNatClampNeg (nI e)) (fun ν3 => (if (ν3 0 8) ≤ nI st then some ((0 : Int32), ν3) else some (1, ν3))))) = some (1, em_up ν 6 5 (nI e)) := by
  have n8 : em_up ν 6 5 (nI e) 0 8 = nI pl := by rw [em_ne _ _ _ (by decide), h8]
  rw [pr_gN (by decide) (by decide), pr_t, pr_cl 5 (by omega), n8, if_neg]
  rw [pr_le (by omega) (by omega)]; omega
theorem r_emb_L {t st : Nat} : ∀ (d j n n' e : Nat) (σ : ed_SM) (ν : em_MM), j + d = 3 → 1 ≤ j → d < n → d < n' → e < 1000 → r_pos σ ν t (st + j) → σ 17 0 6 = nI e → (e = 0 ↔ ν 5 st = 48) → (j = 1 → e < 10) → (j = 2 → e < 100) → ∃ σ' ν' pl', f_X7_readEmbargo_30 n (nI j) σ = some (1, σ') ∧ f_X9_readHour_7 n' (nI e) (nI st) ν = some (1, ν') ∧ r_pos σ' ν' t pl' ∧ r_kp σ σ' ν ν' ∧ (∀ k, k ≠ 2 → k ≠ 6 → σ' 17 0 k = σ 17 0 k) ∧ (∀ K, K ≠ 17 → σ' K = σ K) ∧ (∀ a, a ≠ 5 → ν' 6 a = ν 6 a) ∧ σ' 17 0 6 = ν' 6 5 := by
  intro d
  induction d with
  | zero =>
    intro j n n' e σ ν hj hj1 hn hn' he hp h6 hz _ _
    obtain rfl : j = 3 := by omega
    obtain ⟨n, rfl⟩ : ∃ q, n = q + 1 := ⟨n - 1, by omega⟩
    obtain ⟨n', rfl⟩ : ∃ q, n' = q + 1 := ⟨n' - 1, by omega⟩
    obtain ⟨a1, a2, a3, a4, a5, a6, a7⟩ := id hp
    have c : nI st + 3 ≤ ν 0 8 := by
      rw [a7, show nI st + 3 = nI (st + 3) from nI_add st 3, pr_le (by omega) (by omega)]; omega
    rw [f_X7_readEmbargo_30, if_pos (show 3 ≤ nI 3 by decide), f_X9_readHour_7, if_pos c, r_hourEnd ν a7 (by omega) (by omega)]
    exact ⟨σ, _, st + 3, rfl, rfl, hp.st rfl rfl (by rw [em_ne _ _ _ (by decide)]) (em_ne _ _ _ (by decide)) a6 (by rw [em_ne _ _ _ (by decide)]; exact a7) a2, ⟨fun _ _ _ _ => rfl, fun i _ h => em_ne _ _ _ h, fun k _ _ => by rw [em_ne _ _ _ (by decide)], rfl⟩, fun _ _ _ => rfl, fun _ _ => rfl, fun a ha => by rw [em_same, pr_une _ _ ha], by rw [em_same, pr_ueq _ _ rfl]; exact h6⟩
  | succ d ih =>
    intro j n n' e σ ν hj hj1 hn hn' he hp h6 hz h1 h2
    obtain ⟨n, rfl⟩ : ∃ q, n = q + 1 := ⟨n - 1, by omega⟩
    obtain ⟨n', rfl⟩ : ∃ q, n' = q + 1 := ⟨n' - 1, by omega⟩
    obtain ⟨a1, a2, a3, a4, a5, a6, a7⟩ := id hp
    have c3 : ¬ (3 : Int32) ≤ nI j := by
      show ¬ nI 3 ≤ nI j
      rw [pr_le (by omega) (by omega)]; omega
    have c : ¬ nI st + 3 ≤ ν 0 8 := by
      rw [a7, show nI st + 3 = nI (st + 3) from nI_add st 3, pr_le (by omega) (by omega)]; omega
    have cs : ¬ ν 0 8 = nI st := by rw [a7, pr_eq (by omega) (by omega)]; omega
    have n5 : ν 5 (nI st).toNatClampNeg = ν 5 st := by rw [nI_clamp (by omega)]
    have stop : ∀ ν1 : em_MM, ν1 0 8 = nI (st + j) → (∀ i, i ≠ 0 → ν1 i = ν i) → (∀ k, k ≠ 8 → k ≠ 10 → ν1 0 k = ν 0 k) → ∃ σ' ν' pl', some ((1 : Int32), σ) = some (1, σ') ∧ some ((1 : Int32), em_up ν1 6 5 (nI e)) = some (1, ν') ∧ r_pos σ' ν' t pl' ∧ r_kp σ σ' ν ν' ∧ (∀ k, k ≠ 2 → k ≠ 6 → σ' 17 0 k = σ 17 0 k) ∧ (∀ K, K ≠ 17 → σ' K = σ K) ∧ (∀ a, a ≠ 5 → ν' 6 a = ν 6 a) ∧ σ' 17 0 6 = ν' 6 5 := by
      intro ν1 g1 g2 g3
      exact ⟨σ, _, st + j, rfl, rfl, hp.st rfl rfl (by rw [em_ne _ _ _ (by decide), g3 7 (by decide) (by decide)]) (by rw [em_ne _ _ _ (by decide), g2 5 (by decide)]) a6 (by rw [em_ne _ _ _ (by decide)]; exact g1) a2, ⟨fun _ _ _ _ => rfl, fun i h0 h => by rw [em_ne _ _ _ h, g2 i h0], fun k h8 h10 => by rw [em_ne _ _ _ (by decide), g3 k h8 h10], rfl⟩, fun _ _ _ => rfl, fun _ _ => rfl, fun a ha => by rw [em_same, pr_une _ _ ha, g2 6 (by decide)], by rw [em_same, pr_ueq _ _ rfl]; exact h6⟩
    rw [f_X7_readEmbargo_30, if_neg c3, f_X9_readHour_7, if_neg c, if_neg cs, pr_gin (by omega) (by omega), n5, h6]
    by_cases e0 : e = 0
    · have z := hz.mp e0
      rw [if_pos (show nI e = 0 by rw [e0]; rfl), if_pos z, r_hourEnd ν a7 (by omega) (by omega)]
      exact stop ν a7 (fun _ _ => rfl) (fun _ _ _ => rfl)
    · have z : ¬ ν 5 st = 48 := fun g => e0 (hz.mpr g)
      have ne : ¬ nI e = 0 := by
        show ¬ nI e = nI 0
        rw [pr_eq (by omega) (by omega)]; exact e0
      rw [if_neg ne, if_neg z]
      rcases r_digit hp (L := 9) (by omega) with ⟨q, hq, hl, g1, g2, g3⟩ | ⟨x, ν1, g1, g2, g3, g4, g5, g6⟩
      · have g3 : f_X9_digitTo 9 ν = _ := g3
        generalize hν1 : em_up (em_up ν 0 10 (nI q)) 0 8 (nI (st + j + 1)) = ν1 at g3
        have vi : ∀ i, i ≠ 0 → ν1 i = ν i := fun i hi => by rw [← hν1, em_ne _ _ _ hi, em_ne _ _ _ hi]
        have v10 : ν1 0 10 = nI q := by rw [← hν1, em_same, pr_une _ _ (by decide), em_same, pr_ueq _ _ rfl]
        have v8 : ν1 0 8 = nI (st + j + 1) := by rw [← hν1, em_same, pr_ueq _ _ rfl]
        have v0 : ∀ k, k ≠ 8 → k ≠ 10 → ν1 0 k = ν 0 k := fun k h8 h10 => by rw [← hν1, em_same, pr_une _ _ h8, em_same, pr_une _ _ h10]
        have m1 : nI e * 10 + nI q = nI (10 * e + q) := by
          rw [show (10 : Int32) = nI 10 from rfl, pk_mul, nI_add, Nat.mul_comm]
        have m2 : (10 : Int32) * nI e + nI q = nI (10 * e + q) := by
          rw [show (10 : Int32) = nI 10 from rfl, pk_mul, nI_add]
        have m3 : nI (st + j) + 1 = nI (st + j + 1) := nI_add _ 1
        have m4 : nI j + 1 = nI (j + 1) := nI_add j 1
        have k2 : ed_up σ 17 0 6 (nI (10 * e + q)) 17 0 2 = nI (st + j) := by rw [pr_up_k _ _ (by decide), a6]
        rw [g1, g3, pr_b, if_neg (pr_neg1 q (by omega)), pr_b, m1, pr_t, k2, m3, pr_t, pr_b2, if_neg (show ¬ (1 : Int32) = 0 by decide), v10, m2, m4]
        generalize hσ2 : ed_up (ed_up σ 17 0 6 (nI (10 * e + q))) 17 0 2 (nI (st + j + 1)) = σ2
        have wK : ∀ K, K ≠ 17 → σ2 K = σ K := fun K h1 => by rw [← hσ2]; funext i; rw [pr_up_K _ _ h1, pr_up_K _ _ h1]
        have w17 : ∀ k, k ≠ 2 → k ≠ 6 → σ2 17 0 k = σ 17 0 k := fun k h1 h2 => by rw [← hσ2, pr_up_k _ _ h1, pr_up_k _ _ h2]
        have w2 : σ2 17 0 2 = nI (st + j + 1) := by rw [← hσ2, pr_up_same]
        have w6 : σ2 17 0 6 = nI (10 * e + q) := by rw [← hσ2, pr_up_k _ _ (by decide), pr_up_same]
        have hp2 : r_pos σ2 ν1 t (st + (j + 1)) := hp.st (w17 1 (by decide) (by decide)) (wK 18 (by decide)) (v0 7 (by decide) (by decide)) (vi 5 (by decide)) w2 v8 (by omega)
        have hk2 : r_kp σ σ2 ν ν1 := ⟨fun K h1 _ _ => wK K h1, fun i h1 _ => vi i h1, v0, w17 1 (by decide) (by decide)⟩
        obtain ⟨σ', ν', pl', u1, u2, u3, u4, u5, u6, u7, u8⟩ := ih (j + 1) n n' (10 * e + q) σ2 ν1 (by omega) (by omega) (by omega) (by omega) (by
          rcases (show j = 1 ∨ j = 2 by omega) with hj | hj
          · have := h1 hj; omega
          · have := h2 hj; omega) hp2 w6 (by rw [vi 5 (by decide)]; constructor
                                             · intro g; omega
                                             · intro g; exact absurd g z) (fun g => by omega) (fun g => by have := h1 (by omega); omega)
        refine ⟨σ', ν', pl', u1, u2, u3, hk2.tr u4, fun k h1 h2 => by rw [u5 k h1 h2, w17 k h1 h2], fun K h => by rw [u6 K h, wK K h], fun a ha => by rw [u7 a ha, vi 6 (by decide)], u8⟩
      · have g3 : f_X9_digitTo 9 ν = _ := g3
        have hx : x = -1 := by
          rcases g2 with g2 | ⟨q, h1, h2, -⟩
          · exact g2
          · omega
        subst hx
        rw [g1, g3, pr_b, if_pos rfl, pr_b2, if_pos rfl, r_hourEnd ν1 g4 (by omega) (by omega)]
        exact stop ν1 g4 g5 g6
theorem r_emb {σ : ed_SM} {ν : em_MM} {t pl : Nat} (hp : r_pos σ ν t pl) : ∃ r σ' ν' pl', f_X7_readEmbargo σ = some (r, σ') ∧ f_X9_readHour ν = some (r, ν') ∧ ed_bo r ∧ r_pos σ' ν' t pl' ∧ r_kp σ σ' ν ν' ∧ (∀ k, k ≠ 2 → k ≠ 6 → σ' 17 0 k = σ 17 0 k) ∧ (∀ K, K ≠ 17 → σ' K = σ K) ∧ (∀ a, a ≠ 5 → ν' 6 a = ν 6 a) ∧ (r = 1 → σ' 17 0 6 = ν' 6 5) := by
  obtain ⟨a1, a2, a3, a4, a5, a6, a7⟩ := id hp
  have c : ¬ nI pl + 3 ≤ nI pl := by
    rw [show nI pl + 3 = nI (pl + 3) from nI_add pl 3, pr_le (by omega) (by omega)]; omega
  unfold f_X7_readEmbargo f_X9_readHour
  have st : ∀ n, f_X9_readHour_7 (n + 1) 0 (nI pl) ν = ed_b2 (f_X9_digitTo 9 ν) (fun r6 ν6 => (if r6 = 0 then ed_g (ed_in 5 29) ( ed_t (em_up ν6 6 (5 : Int32).toNatClampNeg 0) (fun ν9 => (if (ν9 0 8) ≤ nI pl then some (0, ν9) else some (1, ν9)))) else f_X9_readHour_7 n ((10 * 0) + (ν6 0 10)) (nI pl) ν6)) := fun n => by
    rw [f_X9_readHour_7, a7, if_neg c, if_pos rfl]
  have st : f_X9_readHour_7 ed_N 0 (nI pl) ν = _ := st 9999
  rw [a7, st]
  rcases r_digit hp (L := 9) (by omega) with ⟨q, hq, hl, g1, g2, g3⟩ | ⟨x, ν1, g1, g2, g3, g4, g5, g6⟩
  · have g3 : f_X9_digitTo 9 ν = _ := g3
    generalize hν1 : em_up (em_up ν 0 10 (nI q)) 0 8 (nI (pl + 1)) = ν1 at g3
    have vi : ∀ i, i ≠ 0 → ν1 i = ν i := fun i hi => by rw [← hν1, em_ne _ _ _ hi, em_ne _ _ _ hi]
    have v10 : ν1 0 10 = nI q := by rw [← hν1, em_same, pr_une _ _ (by decide), em_same, pr_ueq _ _ rfl]
    have v8 : ν1 0 8 = nI (pl + 1) := by rw [← hν1, em_same, pr_ueq _ _ rfl]
    have v0 : ∀ k, k ≠ 8 → k ≠ 10 → ν1 0 k = ν 0 k := fun k h8 h10 => by rw [← hν1, em_same, pr_une _ _ h8, em_same, pr_une _ _ h10]
    have m2 : (10 : Int32) * 0 + nI q = nI q := by
      rw [show (10 : Int32) * 0 = 0 from by decide, Int32.zero_add]
    have m3 : nI pl + 1 = nI (pl + 1) := nI_add _ 1
    have k6 : ed_up σ 17 0 6 (nI q) 17 0 6 = nI q := pr_up_same _ _ _ _ _
    have k2 : ed_up σ 17 0 6 (nI q) 17 0 2 = nI pl := by rw [pr_up_k _ _ (by decide), a6]
    rw [g1, g3, pr_b, pr_t, k6, if_neg (pr_neg1 q (by omega)), k2, m3, pr_t, pr_b2, if_neg (show ¬ (1 : Int32) = 0 by decide), v10, m2]
    generalize hσ2 : ed_up (ed_up σ 17 0 6 (nI q)) 17 0 2 (nI (pl + 1)) = σ2
    have wK : ∀ K, K ≠ 17 → σ2 K = σ K := fun K h1 => by rw [← hσ2]; funext i; rw [pr_up_K _ _ h1, pr_up_K _ _ h1]
    have w17 : ∀ k, k ≠ 2 → k ≠ 6 → σ2 17 0 k = σ 17 0 k := fun k h1 h2 => by rw [← hσ2, pr_up_k _ _ h1, pr_up_k _ _ h2]
    have w2 : σ2 17 0 2 = nI (pl + 1) := by rw [← hσ2, pr_up_same]
    have w6 : σ2 17 0 6 = nI q := by rw [← hσ2, pr_up_k _ _ (by decide), pr_up_same]
    have hp2 : r_pos σ2 ν1 t (pl + 1) := hp.st (w17 1 (by decide) (by decide)) (wK 18 (by decide)) (v0 7 (by decide) (by decide)) (vi 5 (by decide)) w2 v8 (by omega)
    have hk2 : r_kp σ σ2 ν ν1 := ⟨fun K h1 _ _ => wK K h1, fun i h1 _ => vi i h1, v0, w17 1 (by decide) (by decide)⟩
    obtain ⟨σ', ν', pl', u1, u2, u3, u4, u5, u6, u7, u8⟩ := r_emb_L (st := pl) 2 1 ed_N 9999 q σ2 ν1 (by omega) (by omega) (by unfold ed_N; omega) (by omega) (by omega) hp2 w6 (by
      rw [vi 5 (by decide), g2]
      show q = 0 ↔ nI (48 + q) = nI 48
      rw [pr_eq (by omega) (by omega)]
      omega) (fun _ => by omega) (fun g => by omega)
    exact ⟨1, σ', ν', pl', u1, u2, Or.inr rfl, u3, hk2.tr u4, fun k h1 h2 => by rw [u5 k h1 h2, w17 k h1 h2], fun K h => by rw [u6 K h, wK K h], fun a ha => by rw [u7 a ha, vi 6 (by decide)], fun _ => u8⟩
  · have g3 : f_X9_digitTo 9 ν = _ := g3
    have hx : x = -1 := by
      rcases g2 with g2 | ⟨q, h1, h2, -⟩
      · exact g2
      · omega
    subst hx
    have n8 : em_up ν1 6 5 0 0 8 = nI pl := by rw [em_ne _ _ _ (by decide), g4]
    have k6 : ed_up σ 17 0 6 (-1) 17 0 6 = -1 := pr_up_same _ _ _ _ _
    have cp : nI pl ≤ nI pl := by rw [pr_le (by omega) (by omega)]; omega
    rw [g1, g3, pr_b, pr_t, k6, if_pos rfl, pr_b2, if_pos rfl, pr_gN (by decide) (by decide), pr_t, pr_cl 5 (by omega), n8, if_pos cp]
    refine ⟨0, _, _, pl, rfl, rfl, Or.inl rfl, hp.st (pr_up_k _ _ (by decide)) (by funext i; rw [pr_up_K _ _ (by decide)]) (by rw [em_ne _ _ _ (by decide), g6 7 (by decide) (by decide)]) (by rw [em_ne _ _ _ (by decide), g5 5 (by decide)]) (by rw [pr_up_k _ _ (by decide)]; exact a6) n8 a2, ⟨fun K h _ _ => by funext i; rw [pr_up_K _ _ h], fun i h1 h2 => by rw [em_ne _ _ _ h2, g5 i h1], fun k h1 h2 => by rw [em_ne _ _ _ (by decide), g6 k h1 h2], pr_up_k _ _ (by decide)⟩, fun k _ h => pr_up_k _ _ h, fun K h => by funext i; rw [pr_up_K _ _ h], fun a ha => by rw [em_same, pr_une _ _ ha, g5 6 (by decide)], fun g => absurd g (by decide)⟩
def r_D3 (σ : ed_SM) (ν : em_MM) (n : Nat) : Prop := σ 17 0 7 = nI n ∧ ∀ k, k < n → σ 20 0 k = ν 6 (17 + k)
theorem r_slug_L {t : Nat} : ∀ (d k n n' pl : Nat) (σ : ed_SM) (ν : em_MM), k + d = 12 → d < n → d < n' → r_pos σ ν t pl → r_D3 σ ν k → ∃ k' pl' σ' ν', k' ≤ 12 ∧ f_X7_readSlug_7 n (nI k) σ = some (if k' = 0 then 0 else if pl' = t then 1 else 0, σ') ∧ f_X9_readSlug_2 n' (nI k) ν = some (if k' = 0 then 0 else 1, ν') ∧ r_pos σ' ν' t pl' ∧ r_kp σ σ' ν ν' ∧ (∀ k, k ≠ 2 → k ≠ 7 → σ' 17 0 k = σ 17 0 k) ∧ (∀ K, K ≠ 17 → K ≠ 20 → σ' K = σ K) ∧ (∀ a, a < 16 → ν' 6 a = ν 6 a) ∧ r_D3 σ' ν' k' ∧ ν' 6 16 = nI k' := by
  have stop : ∀ (k pl : Nat) (σ : ed_SM) (ν : em_MM), k ≤ 12 → r_pos σ ν t pl → r_D3 σ ν k → ∃ k' pl' σ' ν', k' ≤ 12 ∧ (if (σ 17 0 7) ≤ 0 then some (0, σ) else (if (σ 17 0 2) = (σ 17 0 1) then some (1, σ) else some (0, σ))) = some (if k' = 0 then (0 : Int32) else if pl' = t then 1 else 0, σ') ∧ (ed_g (ed_in 16 29) ( ed_t (em_up ν 6 (16 : Int32).toNatClampNeg (nI k)) (fun ν3 => (if nI k ≤ 0 then some (0, ν3) else some (1, ν3))))) = some (if k' = 0 then (0 : Int32) else 1, ν') ∧ r_pos σ' ν' t pl' ∧ r_kp σ σ' ν ν' ∧ (∀ k, k ≠ 2 → k ≠ 7 → σ' 17 0 k = σ 17 0 k) ∧ (∀ K, K ≠ 17 → K ≠ 20 → σ' K = σ K) ∧ (∀ a, a < 16 → ν' 6 a = ν 6 a) ∧ r_D3 σ' ν' k' ∧ ν' 6 16 = nI k' := by
    intro k pl σ ν hk hp hD
    obtain ⟨a1, a2, a3, a4, a5, a6, a7⟩ := id hp
    refine ⟨k, pl, σ, em_up ν 6 16 (nI k), hk, ?_, ?_, hp.st rfl rfl (by rw [em_ne _ _ _ (by decide)]) (em_ne _ _ _ (by decide)) a6 (by rw [em_ne _ _ _ (by decide)]; exact a7) a2, ⟨fun _ _ _ _ => rfl, fun i _ h => em_ne _ _ _ h, fun k _ _ => by rw [em_ne _ _ _ (by decide)], rfl⟩, fun _ _ _ => rfl, fun _ _ _ => rfl, fun a ha => by rw [em_same, pr_une _ _ (by omega)], ⟨hD.1, fun i hi => by rw [em_same, pr_une _ _ (by omega)]; exact hD.2 i hi⟩, by rw [em_same, pr_ueq _ _ rfl]⟩
    · rw [hD.1, a6, a3]
      by_cases h0 : k = 0
      · subst h0
        rw [if_pos (show nI 0 ≤ 0 by decide), if_pos rfl]
      · have c : ¬ nI k ≤ 0 := by
          show ¬ nI k ≤ nI 0
          rw [pr_le (by omega) (by omega)]; omega
        rw [if_neg c, if_neg h0]
        by_cases hpt : pl = t
        · rw [if_pos (by rw [hpt]), if_pos hpt]
        · rw [if_neg (by rw [pr_eq (by omega) (by omega)]; exact hpt), if_neg hpt]
    · rw [pr_gN (by decide) (by decide), pr_t, pr_cl 16 (by omega)]
      by_cases h0 : k = 0
      · subst h0
        rw [if_pos (show nI 0 ≤ 0 by decide), if_pos rfl]
      · have c : ¬ nI k ≤ 0 := by
          show ¬ nI k ≤ nI 0
          rw [pr_le (by omega) (by omega)]; omega
        rw [if_neg c, if_neg h0]
  intro d
  induction d with
  | zero =>
    intro k n n' pl σ ν hk hn hn' hp hD
    obtain rfl : k = 12 := by omega
    obtain ⟨n, rfl⟩ : ∃ q, n = q + 1 := ⟨n - 1, by omega⟩
    obtain ⟨n', rfl⟩ : ∃ q, n' = q + 1 := ⟨n' - 1, by omega⟩
    rw [f_X7_readSlug_7, f_X9_readSlug_2, if_pos (show 12 ≤ nI 12 by decide), if_pos (show 12 ≤ nI 12 by decide)]
    exact stop 12 pl σ ν (by omega) hp hD
  | succ d ih =>
    intro k n n' pl σ ν hk hn hn' hp hD
    obtain ⟨n, rfl⟩ : ∃ q, n = q + 1 := ⟨n - 1, by omega⟩
    obtain ⟨n', rfl⟩ : ∃ q, n' = q + 1 := ⟨n' - 1, by omega⟩
    obtain ⟨a1, a2, a3, a4, a5, a6, a7⟩ := id hp
    have c12 : ¬ (12 : Int32) ≤ nI k := by
      show ¬ nI 12 ≤ nI k
      rw [pr_le (by omega) (by omega)]; omega
    rw [f_X7_readSlug_7, f_X9_readSlug_2, if_neg c12, if_neg c12, a4, a7]
    by_cases hl : pl < t
    · have c : ¬ nI t ≤ nI pl := by rw [pr_le (by omega) (by omega)]; omega
      have n5 : ν 5 (nI pl).toNatClampNeg = ν 5 pl := by rw [nI_clamp (by omega)]
      rw [r_sign1 hp hl, pr_b, if_neg c, pr_gin (by omega) (by omega), n5, pr_89]
      by_cases hz : f_X9_in (ν 5 pl) 97 122 = 0
      · rw [if_pos hz, if_pos hz]
        exact stop k pl σ ν (by omega) hp hD
      · have e1 : nI k + 1 = nI (k + 1) := nI_add k 1
        have e2 : nI pl + 1 = nI (pl + 1) := nI_add pl 1
        have e17 : (17 : Int32) + nI k = nI (17 + k) := nI_add 17 k
        have k7 : ed_up σ 20 0 k (ν 5 pl) 17 0 7 = nI k := by rw [pr_up_K _ _ (by decide), hD.1]
        have k2 : ed_up (ed_up σ 20 0 k (ν 5 pl)) 17 0 7 (nI (k + 1)) 17 0 2 = nI pl := by rw [pr_up_k _ _ (by decide), pr_up_K _ _ (by decide), a6]
        have v8 : em_up ν 6 (17 + k) (ν 5 pl) 0 8 = nI pl := by rw [em_ne _ _ _ (by decide), a7]
        rw [if_neg hz, if_neg hz, pr_b, pr_gin (by omega) (by omega), pr_t, nI_clamp (n := k) (by omega), k7, e1, pr_t, k2, e2, pr_t, pr_gin (by omega) (by omega), e17, pr_gin (by omega) (by omega), pr_t, nI_clamp (n := 17 + k) (by omega), v8, e2, pr_t]
        generalize hσ2 : ed_up (ed_up (ed_up σ 20 0 k (ν 5 pl)) 17 0 7 (nI (k + 1))) 17 0 2 (nI (pl + 1)) = σ2
        generalize hν2 : em_up (em_up ν 6 (17 + k) (ν 5 pl)) 0 8 (nI (pl + 1)) = ν2
        have wK : ∀ K, K ≠ 17 → K ≠ 20 → σ2 K = σ K := fun K h1 h2 => by rw [← hσ2]; funext i; rw [pr_up_K _ _ h1, pr_up_K _ _ h1, pr_up_K _ _ h2]
        have w17 : ∀ k, k ≠ 2 → k ≠ 7 → σ2 17 0 k = σ 17 0 k := fun k h1 h2 => by rw [← hσ2, pr_up_k _ _ h1, pr_up_k _ _ h2, pr_up_K _ _ (by decide)]
        have w2 : σ2 17 0 2 = nI (pl + 1) := by rw [← hσ2, pr_up_same]
        have w7 : σ2 17 0 7 = nI (k + 1) := by rw [← hσ2, pr_up_k _ _ (by decide), pr_up_same]
        have w20 : ∀ i, σ2 20 0 i = if i = k then ν 5 pl else σ 20 0 i := fun i => by
          rw [← hσ2, pr_up_K _ _ (by decide), pr_up_K _ _ (by decide), pr_up]
          by_cases hk : i = k
          · rw [if_pos ⟨rfl, rfl, hk⟩, if_pos hk]
          · rw [if_neg (fun z => hk z.2.2), if_neg hk]
        have zi : ∀ i, i ≠ 0 → i ≠ 6 → ν2 i = ν i := fun i h h6 => by rw [← hν2, em_ne _ _ _ h, em_ne _ _ _ h6]
        have z0 : ∀ k, k ≠ 8 → ν2 0 k = ν 0 k := fun k h => by rw [← hν2, em_same, pr_une _ _ h, em_ne _ _ _ (by decide)]
        have z8 : ν2 0 8 = nI (pl + 1) := by rw [← hν2, em_same, pr_ueq _ _ rfl]
        have z6 : ∀ a, ν2 6 a = if a = 17 + k then ν 5 pl else ν 6 a := fun a => by rw [← hν2, em_ne _ _ _ (by decide), em_same, pr_upd]
        have hp2 : r_pos σ2 ν2 t (pl + 1) := hp.st (w17 1 (by decide) (by decide)) (wK 18 (by decide) (by decide)) (z0 7 (by decide)) (zi 5 (by decide) (by decide)) w2 z8 (by omega)
        have hk2 : r_kp σ σ2 ν ν2 := ⟨fun K h1 _ h2 => wK K h1 h2, zi, fun k h1 _ => z0 k h1, w17 1 (by decide) (by decide)⟩
        have hD2 : r_D3 σ2 ν2 (k + 1) := ⟨w7, fun i hi => by
          rw [w20, z6]
          by_cases hik : i = k
          · rw [if_pos hik, if_pos (by omega)]
          · rw [if_neg hik, if_neg (by omega)]
            exact hD.2 i (by omega)⟩
        obtain ⟨k', pl', σ', ν', u0, u1, u2, u3, u4, u5, u6, u7, u8, u9⟩ := ih (k + 1) n n' (pl + 1) σ2 ν2 (by omega) (by omega) (by omega) hp2 hD2
        exact ⟨k', pl', σ', ν', u0, u1, u2, u3, hk2.tr u4, fun k h1 h2 => by rw [u5 k h1 h2, w17 k h1 h2], fun K h1 h2 => by rw [u6 K h1 h2, wK K h1 h2], fun a ha => by rw [u7 a ha, z6, if_neg (by omega)], u8, u9⟩
    · obtain rfl : pl = t := by omega
      have c : nI pl ≤ nI pl := by rw [pr_le (by omega) (by omega)]; omega
      have b : f_X8_isBetween (-1) 97 122 = 0 := by decide
      rw [r_sign0 hp, pr_b, if_pos c, b, if_pos rfl]
      exact stop k pl σ ν (by omega) hp hD
