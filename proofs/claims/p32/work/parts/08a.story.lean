/-! The text as a whole, and a new story. -/
def r_data (σ : ed_SM) (ν : em_MM) : Prop := σ 17 0 3 = ν 6 0 ∧ (∃ m, 1 ≤ m ∧ m ≤ 3 ∧ r_D1 σ ν m) ∧ σ 17 0 6 = ν 6 5 ∧ (∃ n, n ≤ 12 ∧ r_D3 σ ν n ∧ ν 6 16 = nI n) ∧ ∀ a, 6 ≤ a → a < 16 → ν 6 a = 0
def r_G (A : Option (Int32 × ed_SM)) (Bq : Option (Int32 × em_MM)) (σ : ed_SM) (ν : em_MM) (t : Nat) : Prop := ∃ (ok : Int32) (σ' : ed_SM) (ν' : em_MM) (pl : Nat), ed_bo ok ∧ A = some (if ok = 1 then -1 else nI pl, σ') ∧ Bq = some (ok, ν') ∧ r_pos σ' ν' t pl ∧ r_kp σ σ' ν ν' ∧ (ok = 1 → r_data σ' ν')
theorem r_G.fail {σ : ed_SM} {ν : em_MM} {t pl : Nat} (hp : r_pos σ ν t pl) : r_G (some (σ 17 0 2, σ)) (some (0, ν)) σ ν t := ⟨0, σ, ν, pl, Or.inl rfl, by rw [hp.2.2.2.2.2.1, if_neg (show ¬ (0 : Int32) = 1 by decide)], rfl, hp, r_kp.rf σ ν, fun g => absurd g (by decide)⟩
theorem r_G.tr {A : Option (Int32 × ed_SM)} {Bq : Option (Int32 × em_MM)} {σ σ1 : ed_SM} {ν ν1 : em_MM} {t : Nat} (h1 : r_kp σ σ1 ν ν1) (h : r_G A Bq σ1 ν1 t) : r_G A Bq σ ν t := by
  obtain ⟨ok, σ', ν', pl, a1, a2, a3, a4, a5, a6⟩ := h
  exact ⟨ok, σ', ν', pl, a1, a2, a3, a4, h1.tr a5, a6⟩
theorem r_pos.nx {σ : ed_SM} {ν : em_MM} {t pl : Nat} (hp : r_pos σ ν t pl) (hl : pl < t) : r_pos (ed_up σ 17 0 2 (nI (pl + 1))) (em_up ν 0 8 (nI (pl + 1))) t (pl + 1) := hp.st (pr_up_k _ _ (by decide)) (by funext i; rw [pr_up_K _ _ (by decide)]) (by rw [em_same, pr_une _ _ (by decide)]) (em_ne _ _ _ (by decide)) (pr_up_same _ _ _ _ _) (by rw [em_same, pr_ueq _ _ rfl]) (by omega)
theorem r_G.sg {σ : ed_SM} {ν : em_MM} {t pl : Nat} (hp : r_pos σ ν t pl) {x : Int32} (hx : ¬ (-1 : Int32) = x) {kA : ed_SM → Option (Int32 × ed_SM)} {kB : em_MM → Option (Int32 × em_MM)} (hk : ∀ σ' ν', r_pos σ' ν' t (pl + 1) → (∀ k, k ≠ 2 → σ' 17 0 k = σ 17 0 k) → (∀ K, K ≠ 17 → σ' K = σ K) → ν' 6 = ν 6 → r_G (kA σ') (kB ν') σ' ν' t) : r_G (ed_b2 (f_X7_readSign x σ) (fun r σ' => (if r = 0 then some (σ' 17 0 2, σ') else kA σ'))) (ed_b2 (f_X9_sign x ν) (fun r ν' => (if r = 0 then some (0, ν') else kB ν'))) σ ν t := by
  rcases r_rsign hp hx with ⟨y0, y1, y2⟩ | ⟨y1, y2⟩
  · rw [y1, y2, pr_b2, pr_b2, if_neg (show ¬ (1 : Int32) = 0 by decide), if_neg (show ¬ (1 : Int32) = 0 by decide)]
    exact (hk _ _ (hp.nx y0) (fun k h => pr_up_k _ _ h) (fun K h => by funext i; rw [pr_up_K _ _ h]) (em_ne _ _ _ (by decide))).tr (r_kp.s2 σ ν _)
  · rw [y1, y2, pr_b2, pr_b2, if_pos rfl, if_pos rfl]
    exact r_G.fail hp
theorem r_parse {σ : ed_SM} {ν : em_MM} {t pl : Nat} (hp : r_pos σ ν t pl) (hz : ∀ a, a < 29 → ν 6 a = 0) {n : Nat} : r_G (ed_b2 (f_X7_readTopic σ) (fun r2 σ2 => (if r2 = 0 then some ((σ2 17 0 2), σ2) else ed_b2 (f_X7_readSign 32 σ2) (fun r4 σ4 => (if r4 = 0 then some ((σ4 17 0 2), σ4) else ed_b2 (f_X7_readByline σ4) (fun r6 σ6 => (if r6 = 0 then some ((σ6 17 0 2), σ6) else ed_b2 (f_X7_readSign 32 σ6) (fun r8 σ8 => (if r8 = 0 then some ((σ8 17 0 2), σ8) else ed_b2 (f_X7_readSign 64 σ8) (fun r10 σ10 => (if r10 = 0 then some ((σ10 17 0 2), σ10) else ed_b2 (f_X7_readEmbargo σ10) (fun r12 σ12 => (if r12 = 0 then some ((σ12 17 0 2), σ12) else ed_b2 (f_X7_readSign 32 σ12) (fun r14 σ14 => (if r14 = 0 then some ((σ14 17 0 2), σ14) else ed_b2 (f_X7_readSlug σ14) (fun r16 σ16 => (if r16 = 0 then some ((σ16 17 0 2), σ16) else some ((-1), σ16)))))))))))))))))) (f_X9_readText_7 (n + 1) (nI 29) ν) σ ν t := by
  obtain ⟨a1, a2, a3, a4, a5, a6, a7⟩ := id hp
  rw [f_X9_readText_7, if_pos (show 29 ≤ nI 29 by decide)]
  unfold f_X7_readTopic
  rcases r_digit hp (L := 7) (by omega) with ⟨q, hq, hl, g1, g2, g3⟩ | ⟨x, ν1, g1, g2, g3, g4, g5, g6⟩
  · have g3 : f_X9_digitTo 7 ν = _ := g3
    have e1 : nI pl + 1 = nI (pl + 1) := nI_add pl 1
    have k3 : ed_up σ 17 0 3 (nI q) 17 0 3 = nI q := pr_up_same _ _ _ _ _
    have k2 : ed_up σ 17 0 3 (nI q) 17 0 2 = nI pl := by rw [pr_up_k _ _ (by decide), a6]
    have b1 : f_X8_isBetween (nI q) 0 7 = 1 := by
      rw [pr_89, pr_9in, if_neg (nI_pos (by omega)), if_neg]
      show ¬ nI 7 < nI q
      rw [pr_lt (by omega) (by omega)]; omega
    have v10 : em_up (em_up ν 0 10 (nI q)) 0 8 (nI (pl + 1)) 0 10 = nI q := by rw [em_same, pr_une _ _ (by decide), em_same, pr_ueq _ _ rfl]
    rw [g1, g3, pr_b, pr_t, k3, b1, if_neg (show ¬ (1 : Int32) = 0 by decide), k2, e1, pr_t, pr_b2, if_neg (show ¬ (1 : Int32) = 0 by decide), pr_b2, pr_gN (by decide) (by decide), pr_t, v10, pr_cl 0 (by omega), if_neg (show ¬ (1 : Int32) = 0 by decide)]
    generalize hσ2 : ed_up (ed_up σ 17 0 3 (nI q)) 17 0 2 (nI (pl + 1)) = σ2
    generalize hν2 : em_up (em_up (em_up ν 0 10 (nI q)) 0 8 (nI (pl + 1))) 6 0 (nI q) = ν2
    have wK : ∀ K, K ≠ 17 → σ2 K = σ K := fun K h1 => by rw [← hσ2]; funext i; rw [pr_up_K _ _ h1, pr_up_K _ _ h1]
    have w17 : ∀ k, k ≠ 2 → k ≠ 3 → σ2 17 0 k = σ 17 0 k := fun k h1 h2 => by rw [← hσ2, pr_up_k _ _ h1, pr_up_k _ _ h2]
    have w2 : σ2 17 0 2 = nI (pl + 1) := by rw [← hσ2, pr_up_same]
    have w3 : σ2 17 0 3 = nI q := by rw [← hσ2, pr_up_k _ _ (by decide), pr_up_same]
    have zi : ∀ i, i ≠ 0 → i ≠ 6 → ν2 i = ν i := fun i h h6 => by rw [← hν2, em_ne _ _ _ h6, em_ne _ _ _ h, em_ne _ _ _ h]
    have z0 : ∀ k, k ≠ 8 → k ≠ 10 → ν2 0 k = ν 0 k := fun k h h2 => by rw [← hν2, em_ne _ _ _ (by decide), em_same, pr_une _ _ h, em_same, pr_une _ _ h2]
    have z8 : ν2 0 8 = nI (pl + 1) := by rw [← hν2, em_ne _ _ _ (by decide), em_same, pr_ueq _ _ rfl]
    have z6 : ∀ a, ν2 6 a = if a = 0 then nI q else ν 6 a := fun a => by rw [← hν2, em_same, pr_upd, em_ne _ _ _ (by decide), em_ne _ _ _ (by decide)]
    have hp2 : r_pos σ2 ν2 t (pl + 1) := hp.st (w17 1 (by decide) (by decide)) (wK 18 (by decide)) (z0 7 (by decide) (by decide)) (zi 5 (by decide) (by decide)) w2 z8 (by omega)
    have hk2 : r_kp σ σ2 ν ν2 := ⟨fun K h1 _ _ => wK K h1, zi, z0, w17 1 (by decide) (by decide)⟩
    refine r_G.tr hk2 (r_G.sg hp2 (by decide) (fun σ3 ν3 p3 s17 sK n6 => ?_))
    obtain ⟨b1, b2, b3, b4, b5, b6, b7⟩ := id p3
    -- the byline
    have p4 : r_pos (ed_up σ3 17 0 4 0) (em_up ν3 6 1 0) t (pl + 1 + 1) := p3.st (pr_up_k _ _ (by decide)) (by funext i; rw [pr_up_K _ _ (by decide)]) (by rw [em_ne _ _ _ (by decide)]) (em_ne _ _ _ (by decide)) (by rw [pr_up_k _ _ (by decide)]; exact b6) (by rw [em_ne _ _ _ (by decide)]; exact b7) b2
    have k4 : r_kp σ3 (ed_up σ3 17 0 4 0) ν3 (em_up ν3 6 1 0) := ⟨fun K h _ _ => by funext i; rw [pr_up_K _ _ h], fun i _ h => em_ne _ _ _ h, fun k _ _ => by rw [em_ne _ _ _ (by decide)], pr_up_k _ _ (by decide)⟩
    obtain ⟨r, σ5, ν5, pl5, u1, u2, u3, u4, u5, u6, u7, u8⟩ := r_byL (t := t) 2 0 9999 ed_N (pl + 1 + 1) (ed_up σ3 17 0 4 0) (em_up ν3 6 1 0) (by omega) (by omega) (by unfold ed_N; omega) p4 ⟨pr_up_same _ _ _ _ _, by rw [em_same, pr_ueq _ _ rfl]; rfl, fun k hk => by omega⟩
    have rb : f_X7_readByline σ3 = some (r, σ5) := by
      have st : f_X7_readByline_7 (9999 + 1) 0 (ed_up σ3 17 0 4 0) = some (r, σ5) := by
        rw [f_X7_readByline_7, if_neg (show ¬ (3 : Int32) ≤ 0 by decide), if_pos (show (0 : Int32) ≤ 0 by decide)]
        exact u1
      have st : f_X7_readByline_7 ed_N 0 (ed_up σ3 17 0 4 0) = some (r, σ5) := st
      unfold f_X7_readByline
      rw [pr_t]
      exact st
    have rp : f_X9_readPersons ν3 = some (r, ν5) := by
      unfold f_X9_readPersons
      rw [pr_gN (by decide) (by decide), pr_t, pr_cl 1 (by omega)]
      exact u2
    have k5 := k4.tr u5
    refine r_G.tr k5 ?_
    rw [rb, rp, pr_b2, pr_b2]
    rcases u3 with rfl | rfl
    · rw [if_pos rfl, if_pos rfl]
      exact r_G.fail u4
    obtain ⟨m, m1, m2, mD⟩ := u8 rfl
    rw [if_neg (show ¬ (1 : Int32) = 0 by decide), if_neg (show ¬ (1 : Int32) = 0 by decide)]
    have t3 : σ5 17 0 3 = ν5 6 0 := by
      rw [u6 3 (by decide) (by decide), pr_up_k _ _ (by decide), s17 3 (by decide), w3, u7 0 (by omega), em_same, pr_une _ _ (by decide), n6, z6, if_pos rfl]
    have tz : ∀ a, 5 ≤ a → a < 29 → ν5 6 a = 0 := fun a h1 h2 => by
      rw [u7 a (by omega), em_same, pr_une _ _ (by omega), n6, z6, if_neg (by omega), hz a h2]
    refine r_G.sg u4 (by decide) (fun σ6 ν6 p6 s6 sK6 n66 => ?_)
    refine r_G.sg p6 (by decide) (fun σ7 ν7 p7 s7 sK7 n67 => ?_)
    obtain ⟨r, σ8, ν8, pl8, v1, v2, v3, v4, v5, v6, v7, v8, v9⟩ := r_emb p7
    refine r_G.tr v5 ?_
    rw [v1, v2, pr_b2, pr_b2]
    rcases v3 with rfl | rfl
    · rw [if_pos rfl, if_pos rfl]
      exact r_G.fail v4
    rw [if_neg (show ¬ (1 : Int32) = 0 by decide), if_neg (show ¬ (1 : Int32) = 0 by decide)]
    refine r_G.sg v4 (by decide) (fun σ9 ν9 p9 s9 sK9 n69 => ?_)
    obtain ⟨c1, c2, c3, c4, c5, c6, c7⟩ := id p9
    have p10 : r_pos (ed_up σ9 17 0 7 0) ν9 t (pl8 + 1) := p9.st (pr_up_k _ _ (by decide)) (by funext i; rw [pr_up_K _ _ (by decide)]) rfl rfl (by rw [pr_up_k _ _ (by decide)]; exact c6) c7 c2
    obtain ⟨k', plE, σE, νE, x0, x1, x2, x3, x4, x5, x6, x7, x8, x9⟩ := r_slug_L (t := t) 12 0 ed_N ed_N (pl8 + 1) (ed_up σ9 17 0 7 0) ν9 (by omega) (by unfold ed_N; omega) (by unfold ed_N; omega) p10 ⟨pr_up_same _ _ _ _ _, fun k hk => by omega⟩
    have rs : f_X7_readSlug σ9 = some (if k' = 0 then 0 else if plE = t then 1 else 0, σE) := by
      have x1 : f_X7_readSlug_7 ed_N 0 (ed_up σ9 17 0 7 0) = _ := x1
      unfold f_X7_readSlug
      rw [pr_t]
      exact x1
    have rr : f_X9_readSlug ν9 = some (if k' = 0 then 0 else 1, νE) := x2
    have kE : r_kp σ9 σE ν9 νE := ⟨fun K h1 h2 h3 => by rw [x4.1 K h1 h2 h3]; funext i; rw [pr_up_K _ _ h1], x4.2.1, x4.2.2.1, by rw [x4.2.2.2, pr_up_k _ _ (by decide)]⟩
    refine r_G.tr kE ?_
    rw [rs, rr, pr_b2, pr_b2]
    obtain ⟨f1, f2, f3, f4, f5, f6, f7⟩ := id x3
    by_cases h0 : k' = 0
    · rw [if_pos h0, if_pos h0, if_pos rfl, if_pos rfl]
      exact r_G.fail x3
    · rw [if_neg h0, if_neg h0, if_neg (show ¬ (1 : Int32) = 0 by decide), f7, f4]
      by_cases ht : plE = t
      · rw [if_pos ht, if_neg (show ¬ (1 : Int32) = 0 by decide), if_pos (by rw [ht])]
        refine ⟨1, σE, νE, plE, Or.inr rfl, by rw [if_pos rfl], rfl, x3, r_kp.rf _ _, fun _ => ⟨?_, ⟨m, m1, m2, ?_, ?_, fun k hk => ?_⟩, ?_, ⟨k', x0, x8, x9⟩, fun a g5 g6 => ?_⟩⟩
        · rw [x5 3 (by decide) (by decide), pr_up_k _ _ (by decide), s9 3 (by decide), v6 3 (by decide) (by decide), s7 3 (by decide), s6 3 (by decide), t3, x7 0 (by omega), n69, v8 0 (by decide), n67, n66]
        · rw [x5 4 (by decide) (by decide), pr_up_k _ _ (by decide), s9 4 (by decide), v6 4 (by decide) (by decide), s7 4 (by decide), s6 4 (by decide)]
          exact mD.1
        · rw [x7 1 (by omega), n69, v8 1 (by decide), n67, n66]
          exact mD.2.1
        · rw [x6 19 (by decide) (by decide), pr_up_K _ _ (by decide), sK9 19 (by decide), v7 19 (by decide), sK7 19 (by decide), sK6 19 (by decide), x7 (2 + k) (by omega), n69, v8 (2 + k) (by omega), n67, n66]
          exact mD.2.2 k hk
        · rw [x5 6 (by decide) (by decide), pr_up_k _ _ (by decide), s9 6 (by decide), v9 rfl, x7 5 (by omega), n69]
        · rw [x7 a (by omega), n69, v8 a (by omega), n67, n66]
          exact tz a (by omega) (by omega)
      · rw [if_neg ht, if_pos rfl, if_neg (by rw [pr_eq (by omega) (by omega)]; exact ht)]
        exact r_G.fail x3
  · have g3 : f_X9_digitTo 7 ν = _ := g3
    have k3 : ed_up σ 17 0 3 x 17 0 3 = x := pr_up_same _ _ _ _ _
    have b0 : f_X8_isBetween x 0 7 = 0 := by
      rw [pr_89, pr_9in]
      rcases g2 with rfl | ⟨q, h1, h2, rfl⟩
      · rw [if_pos (by decide)]
      · rw [if_neg (nI_pos (by omega)), if_pos]
        show nI 7 < nI q
        rw [pr_lt (by omega) (by omega)]; omega
    rw [g1, g3, pr_b, pr_t, k3, b0, if_pos rfl, pr_b2, if_pos rfl, pr_b2, pr_gN (by decide) (by decide), pr_t, pr_cl 0 (by omega), if_pos rfl]
    have pF : r_pos (ed_up σ 17 0 3 x) (em_up ν1 6 0 (ν1 0 10)) t pl := hp.st (pr_up_k _ _ (by decide)) (by funext i; rw [pr_up_K _ _ (by decide)]) (by rw [em_ne _ _ _ (by decide), g6 7 (by decide) (by decide)]) (by rw [em_ne _ _ _ (by decide), g5 5 (by decide)]) (by rw [pr_up_k _ _ (by decide)]; exact a6) (by rw [em_ne _ _ _ (by decide)]; exact g4) a2
    have kF : r_kp σ (ed_up σ 17 0 3 x) ν (em_up ν1 6 0 (ν1 0 10)) := ⟨fun K h _ _ => by funext i; rw [pr_up_K _ _ h], fun i h1 h2 => by rw [em_ne _ _ _ h2, g5 i h1], fun k h1 h2 => by rw [em_ne _ _ _ (by decide), g6 k h1 h2], pr_up_k _ _ (by decide)⟩
    exact r_G.tr kF (r_G.fail pF)
