/-! The text: byline, hour, slug. -/
def r_has (v : Nat → Int32) (x : Int32) : Nat → Nat → Nat
  | 0, _ => 0
  | d + 1, k => if v (2 + k) = x then 1 else r_has v x d (k + 1)
theorem r_has_01 (v : Nat → Int32) (x : Int32) : ∀ d k, r_has v x d k = 0 ∨ r_has v x d k = 1
  | 0, _ => Or.inl rfl
  | d + 1, k => by
    show (if v (2 + k) = x then 1 else r_has v x d (k + 1)) = 0 ∨ (if v (2 + k) = x then 1 else r_has v x d (k + 1)) = 1
    by_cases g : v (2 + k) = x
    · rw [if_pos g]; exact Or.inr rfl
    · rw [if_neg g]; exact r_has_01 v x d (k + 1)
theorem r_isIn_L {σ : ed_SM} {v : Nat → Int32} {m : Nat} (h4 : σ 17 0 4 = nI m) (hm : m ≤ 3) (hv : ∀ k, k < m → σ 19 0 k = v (2 + k)) (x : Int32) : ∀ (d k n : Nat), k + d = m → d < n → f_X7_isInByline_2 σ n x (nI k) = some (nI (r_has v x d k)) := by
  intro d
  induction d with
  | zero =>
    intro k n hk hn
    obtain ⟨n, rfl⟩ : ∃ q, n = q + 1 := ⟨n - 1, by omega⟩
    rw [f_X7_isInByline_2, h4, if_pos (by rw [pr_le (by omega) (by omega)]; omega)]
    rfl
  | succ d ih =>
    intro k n hk hn
    obtain ⟨n, rfl⟩ : ∃ q, n = q + 1 := ⟨n - 1, by omega⟩
    have c : ¬ nI m ≤ nI k := by rw [pr_le (by omega) (by omega)]; omega
    have c3 : ¬ (3 : Int32) ≤ nI k := by
      show ¬ nI 3 ≤ nI k
      rw [pr_le (by omega) (by omega)]; omega
    have e1 : nI k + 1 = nI (k + 1) := nI_add k 1
    have n9 : σ 19 0 (nI k).toNatClampNeg = v (2 + k) := by rw [nI_clamp (by omega)]; exact hv k (by omega)
    rw [f_X7_isInByline_2, h4, if_neg c, if_neg c3, pr_gin (by omega) (by omega), n9, e1, ih (k + 1) n (by omega) (by omega), r_has]
    by_cases g : v (2 + k) = x
    · rw [if_pos g, if_pos g]; rfl
    · rw [if_neg g, if_neg g]
def r_cont (k9 : Int32 → em_MM → Option (Int32 × em_MM)) (ν : em_MM) (m : Nat) : Option (Int32 × em_MM) := if 3 ≤ nI (m + 1) then k9 0 (em_up (em_up ν 6 (2 + m) (ν 0 10)) 6 1 (nI (m + 1))) else ed_b2 (f_X9_sign 44 (em_up (em_up ν 6 (2 + m) (ν 0 10)) 6 1 (nI (m + 1)))) (fun r16 ν16 => (if r16 = 0 then k9 0 ν16 else k9 1 ν16))
theorem r_28_L (k9 : Int32 → em_MM → Option (Int32 × em_MM)) {ν : em_MM} {m : Nat} (h1 : ν 6 1 = nI m) (hm : m ≤ 2) (x2 : Int32) : ∀ (d k n : Nat), k + d = m → d < n → f_X9_readPersons_28 k9 n x2 0 (nI k) ν = some (0, em_up ν 0 8 x2) ∧ f_X9_readPersons_28 k9 n x2 1 (nI k) ν = (if r_has (ν 6) (ν 0 10) d k = 0 then r_cont k9 ν m else some (0, em_up ν 0 8 x2)) := by
  have v1 : ν 6 (1 : Int32).toNatClampNeg = nI m := by rw [pr_cl 1 (by omega), h1]
  intro d
  induction d with
  | zero =>
    intro k n hk hn
    obtain ⟨n, rfl⟩ : ∃ q, n = q + 1 := ⟨n - 1, by omega⟩
    have c : nI m ≤ nI k := by rw [pr_le (by omega) (by omega)]; omega
    have e2 : (2 : Int32) + nI m = nI (2 + m) := nI_add 2 m
    constructor
    · rw [f_X9_readPersons_28, pr_gN (by decide) (by decide), v1, if_pos c, if_pos rfl, pr_t]
    · have u1 : em_up ν 6 (2 + m) (ν 0 10) 6 1 + 1 = nI (m + 1) := by
        rw [em_same, pr_une _ _ (by omega), h1]; exact nI_add m 1
      have u2 : em_up (em_up ν 6 (2 + m) (ν 0 10)) 6 1 (nI (m + 1)) 6 1 = nI (m + 1) := by rw [em_same, pr_ueq _ _ rfl]
      rw [f_X9_readPersons_28, pr_gN (by decide) (by decide), v1, if_pos c, if_neg (show ¬ (1 : Int32) = 0 by decide), pr_gN (by decide) (by decide), e2, pr_gin (by omega) (by omega), pr_t, nI_clamp (n := 2 + m) (by omega), pr_gN (by decide) (by decide), pr_gN (by decide) (by decide), pr_t, pr_gN (by decide) (by decide), pr_cl 1 (by omega), u1, u2]
      rfl
  | succ d ih =>
    intro k n hk hn
    obtain ⟨n, rfl⟩ : ∃ q, n = q + 1 := ⟨n - 1, by omega⟩
    have c : ¬ nI m ≤ nI k := by rw [pr_le (by omega) (by omega)]; omega
    have e1 : nI k + 1 = nI (k + 1) := nI_add k 1
    have e2 : (2 : Int32) + nI k = nI (2 + k) := nI_add 2 k
    obtain ⟨i0, i1⟩ := ih (k + 1) n (by omega) (by omega)
    constructor
    · rw [f_X9_readPersons_28, pr_gN (by decide) (by decide), v1, if_neg c, if_pos rfl, e1, i0]
    · have n6 : ν 6 (nI (2 + k)).toNatClampNeg = ν 6 (2 + k) := by rw [nI_clamp (by omega)]
      rw [f_X9_readPersons_28, pr_gN (by decide) (by decide), v1, if_neg c, if_neg (show ¬ (1 : Int32) = 0 by decide), e2, pr_gin (by omega) (by omega), n6, e1, i0, i1, r_has]
      by_cases g : ν 6 (2 + k) = ν 0 10
      · rw [if_pos g, if_pos g, if_neg (show ¬ 1 = 0 by omega)]
      · rw [if_neg g, if_neg g]
def r_D1 (σ : ed_SM) (ν : em_MM) (m : Nat) : Prop := σ 17 0 4 = nI m ∧ ν 6 1 = nI m ∧ ∀ k, k < m → σ 19 0 k = ν 6 (2 + k) ∧ ∃ q, q < 10 ∧ ν 6 (2 + k) = nI q
theorem r_byL {t : Nat} : ∀ (d m n n' pl : Nat) (σ : ed_SM) (ν : em_MM), m + d = 2 → d + 1 < n → d + 1 < n' → r_pos σ ν t pl → r_D1 σ ν m → ∃ r σ' ν' pl', ed_b2 (f_X7_readPerson σ) (fun r8 σ8 => (if r8 = 0 then some (0, σ8) else f_X7_readByline_7 n (nI m + 1) σ8)) = some (r, σ') ∧ f_X9_readPersons_9 n' 1 ν = some (r, ν') ∧ ed_bo r ∧ r_pos σ' ν' t pl' ∧ r_kp σ σ' ν ν' ∧ (∀ k, k ≠ 2 → k ≠ 4 → σ' 17 0 k = σ 17 0 k) ∧ (∀ a, a < 1 ∨ 5 ≤ a → ν' 6 a = ν 6 a) ∧ (r = 1 → ∃ m', 1 ≤ m' ∧ m' ≤ 3 ∧ r_D1 σ' ν' m') := by
  intro d
  induction d using Nat.strongRecOn with
  | _ d ih =>
    intro m n n' pl σ ν hm hn hn' hp hD
    obtain ⟨n, rfl⟩ : ∃ q, n = q + 1 := ⟨n - 1, by omega⟩
    obtain ⟨n', rfl⟩ : ∃ q, n' = q + 1 + 1 := ⟨n' - 2, by omega⟩
    obtain ⟨a1, a2, a3, a4, a5, a6, a7⟩ := id hp
    obtain ⟨D4, D1, Dk⟩ := hD
    have e1 : nI m + 1 = nI (m + 1) := nI_add m 1
    have e2 : nI pl + 1 = nI (pl + 1) := nI_add pl 1
    have k0 : ∀ ν', f_X9_readPersons_9 (n' + 1) 0 ν' = some (1, ν') := fun ν' => by rw [f_X9_readPersons_9, if_pos rfl]
    rw [e1]
    rw [f_X9_readPersons_9, if_neg (show ¬ (1 : Int32) = 0 by decide)]
    unfold f_X7_readPerson
    rcases r_digit hp (L := 9) (by omega) with ⟨q, hq, hl, g1, g2, g3⟩ | ⟨x, ν1, g1, g2, g3, g4, g5, g6⟩
    · have g3 : f_X9_digitTo 9 ν = _ := g3
      have cls := r_isIn_L (σ := σ) (v := ν 6) D4 (by omega) (fun k hk => (Dk k hk).1) (nI q) m 0 ed_N (by omega) (by unfold ed_N; omega)
      have cls : f_X7_isInByline (nI q) σ = some (nI (r_has (ν 6) (nI q) m 0)) := cls
      generalize hν1 : em_up (em_up ν 0 10 (nI q)) 0 8 (nI (pl + 1)) = ν1 at g3
      have v6 : ν1 6 = ν 6 := by rw [← hν1, em_ne _ _ _ (by decide), em_ne _ _ _ (by decide)]
      have vi : ∀ i, i ≠ 0 → ν1 i = ν i := fun i hi => by rw [← hν1, em_ne _ _ _ hi, em_ne _ _ _ hi]
      have v10 : ν1 0 10 = nI q := by rw [← hν1, em_same, pr_une _ _ (by decide), em_same, pr_ueq _ _ rfl]
      have v8 : ν1 0 8 = nI (pl + 1) := by rw [← hν1, em_same, pr_ueq _ _ rfl]
      have v0 : ∀ k, k ≠ 8 → k ≠ 10 → ν1 0 k = ν 0 k := fun k h8 h10 => by rw [← hν1, em_same, pr_une _ _ h8, em_same, pr_une _ _ h10]
      have lp := (r_28_L (fun a0 a1 => f_X9_readPersons_9 (n' + 1) a0 a1) (ν := ν1) (m := m) (by rw [v6]; exact D1) (by omega) (ν 0 8) m 0 ed_N (by omega) (by unfold ed_N; omega)).2
      have lp : f_X9_readPersons_28 (fun a0 a1 => f_X9_readPersons_9 (n' + 1) a0 a1) ed_N (ν 0 8) 1 0 ν1 = _ := lp
      rw [v6, v10] at lp
      rw [g1, g3, pr_b, pr_b2, if_neg (pr_neg1 q (by omega)), cls, pr_b, lp]
      rcases r_has_01 (ν 6) (nI q) m 0 with h0 | h0
      · rw [h0, if_pos (show nI 0 = 0 from rfl), if_pos rfl]
        have ip : f_X8_isPlace (nI m) 3 = 1 := by
          rw [pr_isPlace, if_neg (nI_pos (by omega)), if_neg]
          show ¬ nI 3 ≤ nI m
          rw [pr_le (by omega) (by omega)]; omega
        have s4 : ed_up σ 19 0 m (nI q) 17 0 4 = nI m := by rw [pr_up_K _ _ (by decide), D4]
        have s2 : ed_up (ed_up σ 19 0 m (nI q)) 17 0 4 (nI (m + 1)) 17 0 2 = nI pl := by rw [pr_up_k _ _ (by decide), pr_up_K _ _ (by decide), a6]
        rw [D4, ip, if_neg (show ¬ (1 : Int32) = 0 by decide), pr_gin (by omega) (by omega), pr_t, nI_clamp (by omega), s4, e1, pr_t, s2, e2, pr_t, pr_b2, if_neg (show ¬ (1 : Int32) = 0 by decide)]
        unfold r_cont
        rw [v10]
        generalize hσ2 : ed_up (ed_up (ed_up σ 19 0 m (nI q)) 17 0 4 (nI (m + 1))) 17 0 2 (nI (pl + 1)) = σ2
        generalize hν2 : em_up (em_up ν1 6 (2 + m) (nI q)) 6 1 (nI (m + 1)) = ν2
        have wK : ∀ K, K ≠ 17 → K ≠ 19 → σ2 K = σ K := fun K h1 h2 => by rw [← hσ2]; funext i; rw [pr_up_K _ _ h1, pr_up_K _ _ h1, pr_up_K _ _ h2]
        have w17 : ∀ k, k ≠ 2 → k ≠ 4 → σ2 17 0 k = σ 17 0 k := fun k h1 h2 => by rw [← hσ2, pr_up_k _ _ h1, pr_up_k _ _ h2, pr_up_K _ _ (by decide)]
        have w2 : σ2 17 0 2 = nI (pl + 1) := by rw [← hσ2, pr_up_same]
        have w4 : σ2 17 0 4 = nI (m + 1) := by rw [← hσ2, pr_up_k _ _ (by decide), pr_up_same]
        have w19 : ∀ k, σ2 19 0 k = if k = m then nI q else σ 19 0 k := fun k => by
          rw [← hσ2, pr_up_K _ _ (by decide), pr_up_K _ _ (by decide), pr_up]
          by_cases hk : k = m
          · rw [if_pos ⟨rfl, rfl, hk⟩, if_pos hk]
          · rw [if_neg (fun z => hk z.2.2), if_neg hk]
        have zi : ∀ i, i ≠ 6 → ν2 i = ν1 i := fun i h => by rw [← hν2, em_ne _ _ _ h, em_ne _ _ _ h]
        have z1 : ν2 6 1 = nI (m + 1) := by rw [← hν2, em_same, pr_ueq _ _ rfl]
        have z6 : ∀ a, a ≠ 1 → ν2 6 a = if a = 2 + m then nI q else ν 6 a := fun a ha => by
          rw [← hν2, em_same, pr_une _ _ ha, em_same, pr_upd, v6]
        have hp2 : r_pos σ2 ν2 t (pl + 1) := hp.st (w17 1 (by decide) (by decide)) (wK 18 (by decide) (by decide)) (by rw [zi 0 (by decide), v0 7 (by decide) (by decide)]) (by rw [zi 5 (by decide), vi 5 (by decide)]) w2 (by rw [zi 0 (by decide), v8]) (by omega)
        have hD2 : r_D1 σ2 ν2 (m + 1) := ⟨w4, z1, fun k hk => by
          rw [w19, z6 (2 + k) (by omega)]
          by_cases hkm : k = m
          · rw [if_pos hkm, if_pos (by omega)]
            exact ⟨rfl, q, by omega, rfl⟩
          · rw [if_neg hkm, if_neg (by omega)]
            exact Dk k (by omega)⟩
        have hk2 : r_kp σ σ2 ν ν2 := ⟨fun K h1 h2 _ => wK K h1 h2, fun i h1 h2 => by rw [zi i h2, vi i h1], fun k h1 h2 => by rw [zi 0 (by decide), v0 k h1 h2], w17 1 (by decide) (by decide)⟩
        have h62 : ∀ a, a < 1 ∨ 5 ≤ a → ν2 6 a = ν 6 a := fun a ha => by rw [z6 a (by omega), if_neg (by omega)]
        by_cases hd : d = 0
        · subst hd
          obtain rfl : m = 2 := by omega
          rw [if_pos (show 3 ≤ nI (2 + 1) by decide), f_X7_readByline_7, if_pos (show 3 ≤ nI (2 + 1) by decide)]
          exact ⟨1, σ2, ν2, pl + 1, rfl, k0 ν2, Or.inr rfl, hp2, hk2, w17, h62, fun _ => ⟨3, by omega, by omega, hD2⟩⟩
        · have c3 : ¬ (3 : Int32) ≤ nI (m + 1) := by
            show ¬ nI 3 ≤ nI (m + 1)
            rw [pr_le (by omega) (by omega)]; omega
          have c0 : ¬ nI (m + 1) ≤ 0 := by
            show ¬ nI (m + 1) ≤ nI 0
            rw [pr_le (by omega) (by omega)]; omega
          rw [if_neg c3, f_X7_readByline_7, if_neg c3, if_neg c0]
          rcases r_rsign hp2 (x := 44) (by decide) with ⟨y0, y1, y2⟩ | ⟨y1, y2⟩
          · rw [y1, y2, pr_b2, pr_b2, if_neg (show ¬ (1 : Int32) = 0 by decide), if_neg (show ¬ (1 : Int32) = 0 by decide)]
            have hp3 : r_pos (ed_up σ2 17 0 2 (nI (pl + 1 + 1))) (em_up ν2 0 8 (nI (pl + 1 + 1))) t (pl + 1 + 1) := hp2.st (pr_up_k _ _ (by decide)) (by funext i; rw [pr_up_K _ _ (by decide)]) (by rw [em_same, pr_une _ _ (by decide)]) (em_ne _ _ _ (by decide)) (pr_up_same _ _ _ _ _) (by rw [em_same, pr_ueq _ _ rfl]) (by omega)
            have hD3 : r_D1 (ed_up σ2 17 0 2 (nI (pl + 1 + 1))) (em_up ν2 0 8 (nI (pl + 1 + 1))) (m + 1) := ⟨by rw [pr_up_k _ _ (by decide)]; exact hD2.1, by rw [em_ne _ _ _ (by decide)]; exact hD2.2.1, fun k hk => by rw [pr_up_K _ _ (by decide), em_ne _ _ _ (by decide)]; exact hD2.2.2 k hk⟩
            obtain ⟨r, σ', ν', pl', u1, u2, u3, u4, u5, u6, u7, u8⟩ := ih (d - 1) (by omega) (m + 1) n (n' + 1) (pl + 1 + 1) _ _ (by omega) (by omega) (by omega) hp3 hD3
            refine ⟨r, σ', ν', pl', u1, u2, u3, u4, (hk2.tr (r_kp.s2 σ2 ν2 _)).tr u5, fun k h1 h2 => ?_, fun a ha => ?_, u8⟩
            · rw [u6 k h1 h2, pr_up_k _ _ h1, w17 k h1 h2]
            · rw [u7 a ha, em_ne _ _ _ (by decide), h62 a ha]
          · rw [y1, y2, pr_b2, pr_b2, if_pos rfl, if_pos rfl]
            exact ⟨1, σ2, ν2, pl + 1, rfl, k0 ν2, Or.inr rfl, hp2, hk2, w17, h62, fun _ => ⟨m + 1, by omega, by omega, hD2⟩⟩
      · rw [h0, if_neg (show ¬ nI 1 = 0 by decide), if_neg (show ¬ 1 = 0 by omega), pr_b2, if_pos rfl]
        refine ⟨0, σ, _, pl, rfl, rfl, Or.inl rfl, hp.st rfl rfl ?_ ?_ a6 ?_ a2, ⟨fun _ _ _ _ => rfl, fun i h1 h2 => ?_, fun k h1 h2 => ?_, rfl⟩, fun _ _ _ => rfl, fun a ha => ?_, fun g => absurd g (by decide)⟩
        · rw [em_same, pr_une _ _ (by decide), v0 7 (by decide) (by decide)]
        · rw [em_ne _ _ _ (by decide), vi 5 (by decide)]
        · rw [em_same, pr_ueq _ _ rfl, a7]
        · rw [em_ne _ _ _ h1, vi i h1]
        · rw [em_same, pr_une _ _ h1, v0 k h1 h2]
        · rw [em_ne _ _ _ (by decide), v6]
    · have g3 : f_X9_digitTo 9 ν = _ := g3
      have hx : x = -1 := by
        rcases g2 with g2 | ⟨q, h1, h2, -⟩
        · exact g2
        · omega
      subst hx
      have lp := (r_28_L (fun a0 a1 => f_X9_readPersons_9 (n' + 1) a0 a1) (ν := ν1) (m := m) (by rw [g5 6 (by decide)]; exact D1) (by omega) (ν 0 8) m 0 ed_N (by omega) (by unfold ed_N; omega)).1
      have lp : f_X9_readPersons_28 (fun a0 a1 => f_X9_readPersons_9 (n' + 1) a0 a1) ed_N (ν 0 8) 0 0 ν1 = _ := lp
      rw [g1, g3, pr_b, pr_b2, if_pos rfl, pr_b2, if_pos rfl, lp]
      refine ⟨0, σ, _, pl, rfl, rfl, Or.inl rfl, hp.st rfl rfl ?_ ?_ a6 ?_ a2, ⟨fun _ _ _ _ => rfl, fun i h1 h2 => ?_, fun k h1 h2 => ?_, rfl⟩, fun _ _ _ => rfl, fun a ha => ?_, fun g => absurd g (by decide)⟩
      · rw [em_same, pr_une _ _ (by decide), g6 7 (by decide) (by decide)]
      · rw [em_ne _ _ _ (by decide), g5 5 (by decide)]
      · rw [em_same, pr_ueq _ _ rfl, a7]
      · rw [em_ne _ _ _ h1, g5 i h1]
      · rw [em_same, pr_une _ _ h1, g6 k h1 h2]
      · rw [em_ne _ _ _ (by decide), g5 6 (by decide)]
