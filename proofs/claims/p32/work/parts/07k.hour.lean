/-! an hour: publishing, the day, the hour -/
def r_pl (v : Nat → Int32) (nK s c : Nat) (x : Int32) : Nat → Int32 := upd (upd (upd (upd (upd (upd (upd v (687 + 6 * nK) (nI s)) (687 + 6 * nK + 1) (nI c)) (687 + 6 * nK + 2) 0) (687 + 6 * nK + 3) x) (687 + 6 * nK + 4) (-5)) (687 + 6 * nK + 5) (-5)) 3 (nI (nK + 1))
theorem r_pl_o (v : Nat → Int32) (nK s c : Nat) (x : Int32) {a : Nat} (h3 : a ≠ 3) (h : a < 687 + 6 * nK ∨ 687 + 6 * nK + 6 ≤ a) : r_pl v nK s c x a = v a := by
  unfold r_pl
  rw [pr_une _ _ h3, pr_une _ _ (by omega), pr_une _ _ (by omega), pr_une _ _ (by omega), pr_une _ _ (by omega), pr_une _ _ (by omega), pr_une _ _ (by omega)]
theorem r_pl_0 (v : Nat → Int32) (nK s c : Nat) (x : Int32) : r_pl v nK s c x (687 + 6 * nK) = nI s := by
  unfold r_pl
  rw [pr_une _ _ (by omega), pr_une _ _ (by omega), pr_une _ _ (by omega), pr_une _ _ (by omega), pr_une _ _ (by omega), pr_une _ _ (by omega), pr_ueq _ _ rfl]
theorem r_pl_1 (v : Nat → Int32) (nK s c : Nat) (x : Int32) : r_pl v nK s c x (687 + 6 * nK + 1) = nI c := by
  unfold r_pl
  rw [pr_une _ _ (by omega), pr_une _ _ (by omega), pr_une _ _ (by omega), pr_une _ _ (by omega), pr_une _ _ (by omega), pr_ueq _ _ rfl]
theorem r_wants (ν : em_MM) (v : Nat → Int32) {c s : Nat} (hc : c < 8) (hs : s < 20) : f_X9_wants (nI c) (nI s) (em_sR ν 1 v) = some (if ((v (7 + 10 * c) >>> (v (107 + 29 * s) &&& 31)) &&& 1) = 1 then 1 else 0) := by
  unfold f_X9_wants
  have o0 : f_X9_ofClient (nI c) 0 (em_sR ν 1 v) = some (v (7 + 10 * c)) := pr_c ν v hc 0 (by omega)
  have o1 : f_X9_ofStory (nI s) 0 (em_sR ν 1 v) = some (v (107 + 29 * s)) := pr_s ν v hs 0 (by omega)
  rw [o0, pr_b, o1, pr_b]
  by_cases h : ((v (7 + 10 * c) >>> (v (107 + 29 * s) &&& 31)) &&& 1) = 1
  · rw [if_pos h, if_pos h]
  · rw [if_neg h, if_neg h]
theorem r_pubL (ν : em_MM) {h nC nS s : Nat} (hs : s < nS) : ∀ (d i n n' nK : Nat) (σ : ed_SM) (v : Nat → Int32), i + d = nC → d < n → d < n' → r_R σ v h nC nS nK 160 → ¬ v (107 + 29 * s + 8) = -5 → nK + 8 ≤ 8 * r_cnt v nS + i → (∀ p, p < nK → v (687 + 6 * p) = nI s → ∃ c, c < i ∧ v (687 + 6 * p + 1) = nI c) → ∃ σ' v' nK', f_X5_publish_30 s n (nI s) (nI i) σ = some σ' ∧ f_X9_publish_39 n' (nI s) (nI i) (em_sR ν 1 v) = some (em_sR ν 1 v') ∧ r_R σ' v' h nC nS nK' 160 ∧ nK ≤ nK' ∧ r_fr v v' nK ∧ r_T v v' := by
  intro d
  induction d with
  | zero =>
    intro i n n' nK σ v hi hn hn' hR _ _ _
    obtain ⟨n, rfl⟩ : ∃ q, n = q + 1 := ⟨n - 1, by omega⟩
    obtain ⟨n', rfl⟩ : ∃ q, n' = q + 1 := ⟨n' - 1, by omega⟩
    obtain ⟨q1, q2, q3, q4, q5, q6, q7, q8, q9, q10, b1, b2, b3, b4⟩ := hR.1
    have v1 : em_sR ν 1 v 1 (1 : Int32).toNatClampNeg = nI nC := by rw [pr_sR1, pr_cl 1 (by omega), q8]
    rw [f_X5_publish_30, f_X9_publish_39, pr_gN (by decide) (by decide), v1, q7, if_pos (by rw [pr_le (by omega) (by omega)]; omega), if_pos (by rw [pr_le (by omega) (by omega)]; omega)]
    exact ⟨σ, v, nK, rfl, rfl, hR, Nat.le_refl _, r_fr.rf v nK, fun _ _ => rfl⟩
  | succ d ih =>
    intro i n n' nK σ v hi hn hn' hR h8 hN hu
    obtain ⟨n, rfl⟩ : ∃ q, n = q + 1 := ⟨n - 1, by omega⟩
    obtain ⟨n', rfl⟩ : ∃ q, n' = q + 1 := ⟨n' - 1, by omega⟩
    obtain ⟨⟨q1, q2, q3, q4, q5, q6, q7, q8, q9, q10, b1, b2, b3, b4⟩, qC, qP, qS, qK, qL, qN⟩ := id hR
    obtain ⟨⟨a1, -⟩, -⟩ := qS s hs
    have x0 := qC.1 i 0 (by omega) (by omega)
    have x1 := qC.1 i 1 (by omega) (by omega)
    have v1 : em_sR ν 1 v 1 (1 : Int32).toNatClampNeg = nI nC := by rw [pr_sR1, pr_cl 1 (by omega), q8]
    have v3 : em_sR ν 1 v 1 (3 : Int32).toNatClampNeg = nI nK := by rw [pr_sR1, pr_cl 3 (by omega), q10]
    have np : ¬ nI nC ≤ nI i := by rw [pr_le (by omega) (by omega)]; omega
    have e1 : nI i + 1 = nI (i + 1) := nI_add i 1
    rw [f_X5_publish_30, f_X9_publish_39, pr_gN (by decide) (by decide), v1, q7, if_neg np, if_neg np, pr_clientAt q7 b1 (by omega), pr_b]
    show ∃ σ' v' nK', ed_g _ _ = some σ' ∧ _
    rw [pr_g (by omega), e1, r_wants ν v (by omega) (by omega), pr_b]
    have eh : f_X0_hasTopic i (σ 7 s 0) σ = if ((v (7 + 10 * i) >>> (v (107 + 29 * s) &&& 31)) &&& 1) = 1 then 1 else 0 := by
      unfold f_X0_hasTopic
      rw [a1, x0, Nat.add_zero]
    rw [eh]
    by_cases hz : ((v (7 + 10 * i) >>> (v (107 + 29 * s) &&& 31)) &&& 1) = 1
    · have hc := r_cnt_le v nS
      rw [if_pos hz, if_neg (show ¬ (1 : Int32) = 0 by decide), if_neg (show ¬ (1 : Int32) = 0 by decide), pr_gN (by decide) (by decide), pr_t, v3, q1]
      obtain ⟨σ1, m1, m2⟩ := r_plan hR hs (c := i) (by omega) (by omega) h8 (by omega) (fun p hp g1 g2 => by
        obtain ⟨c, g3, g4⟩ := hu p hp g1
        rw [g2] at g4
        have := (nI_eq (by omega) (by omega)).mp g4
        omega) (nI h + σ 11 i 1)
      rw [m1, pr_b]
      have i0 : f_X9_atCopy (nI nK) 0 = nI (687 + 6 * nK) := pr_9k nK 0
      have i1 : f_X9_atCopy (nI nK) 1 = nI (687 + 6 * nK + 1) := pr_9k nK 1
      have i2 : f_X9_atCopy (nI nK) 2 = nI (687 + 6 * nK + 2) := pr_9k nK 2
      have i3 : f_X9_atCopy (nI nK) 3 = nI (687 + 6 * nK + 3) := pr_9k nK 3
      have i4 : f_X9_atCopy (nI nK) 4 = nI (687 + 6 * nK + 4) := pr_9k nK 4
      have i5 : f_X9_atCopy (nI nK) 5 = nI (687 + 6 * nK + 5) := pr_9k nK 5
      rw [i0, i1, i2, i3, i4, i5]
      rw [pr_gin (by omega) (by omega), pr_t, pr_gin (by omega) (by omega), pr_t, pr_gin (by omega) (by omega), pr_t, pr_gN (by decide) (by decide), nI_clamp (n := 687 + 6 * nK) (by omega), nI_clamp (n := 687 + 6 * nK + 1) (by omega), nI_clamp (n := 687 + 6 * nK + 2) (by omega), pr_sRu, pr_sRu, pr_sRu]
      have c1 : f_X9_ofClient (nI i) 1 (em_sR ν 1 (upd (upd (upd v (687 + 6 * nK) (nI s)) (687 + 6 * nK + 1) (nI i)) (687 + 6 * nK + 2) 0)) = some (σ 11 i 1) := by
        rw [show (1 : Int32) = nI 1 from rfl, pr_c ν _ (by omega) 1 (by omega), pr_une _ _ (by omega), pr_une _ _ (by omega), pr_une _ _ (by omega), x1]
      rw [c1, pr_b, pr_gin (by omega) (by omega), pr_t, pr_gin (by omega) (by omega), pr_t, pr_gin (by omega) (by omega), pr_t, pr_gN (by decide) (by decide), pr_gN (by decide) (by decide), pr_t, nI_clamp (n := 687 + 6 * nK + 3) (by omega), nI_clamp (n := 687 + 6 * nK + 4) (by omega), nI_clamp (n := 687 + 6 * nK + 5) (by omega), pr_cl 0 (by omega), pr_cl 3 (by omega), pr_sR1, pr_sRu, pr_sRu, pr_sRu, pr_sR1, pr_sRu]
      have w0 : upd (upd (upd v (687 + 6 * nK) (nI s)) (687 + 6 * nK + 1) (nI i)) (687 + 6 * nK + 2) 0 0 = nI h := by
        rw [pr_une _ _ (by omega), pr_une _ _ (by omega), pr_une _ _ (by omega), q2]
      rw [w0]
      have w3 : (upd (upd (upd (upd (upd (upd v (687 + 6 * nK) (nI s)) (687 + 6 * nK + 1) (nI i)) (687 + 6 * nK + 2) 0) (687 + 6 * nK + 3) (nI h + σ 11 i 1)) (687 + 6 * nK + 4) (-5)) (687 + 6 * nK + 5) (-5) 3) + 1 = nI (nK + 1) := by
        rw [pr_une _ _ (by omega), pr_une _ _ (by omega), pr_une _ _ (by omega), pr_une _ _ (by omega), pr_une _ _ (by omega), pr_une _ _ (by omega), q10]
        exact nI_add nK 1
      rw [w3]
      have m2 : r_R σ1 (r_pl v nK s i (nI h + σ 11 i 1)) h nC nS (nK + 1) 160 := m2
      show ∃ σ' v' nK', _ ∧ f_X9_publish_39 n' (nI s) (nI (i + 1)) (em_sR ν 1 (r_pl v nK s i (nI h + σ 11 i 1))) = _ ∧ _
      have hcn : r_cnt (r_pl v nK s i (nI h + σ 11 i 1)) nS = r_cnt v nS := r_cnt_cg nS (fun q hq => r_pl_o v nK s i _ (by omega) (by omega))
      obtain ⟨σ2, v2, nK2, y1, y2, y3, y4, y5, y6⟩ := ih (i + 1) n n' (nK + 1) σ1 _ (by omega) (by omega) (by omega) m2 (by rw [r_pl_o v nK s i _ (by omega) (by omega)]; exact h8) (by rw [hcn]; omega) (fun p hp g1 => by
        by_cases g2 : p = nK
        · subst g2
          exact ⟨i, by omega, r_pl_1 v p s i _⟩
        · rw [r_pl_o v nK s i _ (by omega) (by omega)] at g1
          obtain ⟨c, g3, g4⟩ := hu p (by omega) g1
          exact ⟨c, by omega, by rw [r_pl_o v nK s i _ (by omega) (by omega)]; exact g4⟩)
      refine ⟨σ2, v2, nK2, y1, y2, y3, by omega, ⟨fun q hq => ?_, fun a g1 g2 => ?_, fun a k g1 g2 => ?_⟩, fun a ha => ?_⟩
      · obtain ⟨g1, g2⟩ := y5.1 q (by omega)
        rw [g1, g2, r_pl_o v nK s i _ (by omega) (by omega), r_pl_o v nK s i _ (by omega) (by omega)]
        exact ⟨rfl, rfl⟩
      · rw [y5.2.1 a g1 g2, r_pl_o v nK s i _ (by omega) (by omega)]
      · rw [y5.2.2 a k g1 g2, r_pl_o v nK s i _ (by omega) (by omega)]
      · rw [y6 a ha, r_pl_o v nK s i _ (by omega) (by omega)]
    · rw [if_neg hz, if_pos rfl, if_pos rfl]
      exact ih (i + 1) n n' nK σ v (by omega) (by omega) (by omega) hR h8 (by omega) (fun p hp g1 => by
        obtain ⟨c, g3, g4⟩ := hu p hp g1
        exact ⟨c, by omega, g4⟩)
/-- a story's field -/
def r_fp (kc kv : Nat) : Prop := (kc = 6 ∧ kv = 6) ∨ (kc = 3 ∧ kv = 5) ∨ (kc = 9 ∧ kv = 8) ∨ (kc = 10 ∧ kv = 9)
theorem r_S1.up {σ : ed_SM} {v : Nat → Int32} {s h kc kv : Nat} (hS : r_S1 σ v s h) (hp : r_fp kc kv) (x : Int32) (h6 : kv = 6 → 0 ≤ x.toInt ∧ (x = 0 ∨ x = 1 → v (107 + 29 * s + 8) = -5)) (h8 : kv = 8 → ¬ v (107 + 29 * s + 6) = 0 ∧ ¬ v (107 + 29 * s + 6) = 1) : r_S1 (ed_up σ 7 s kc x) (upd v (107 + 29 * s + kv) x) s h := by
  obtain ⟨⟨a1, a2, a3, a4, a5, a6, a7, a8⟩, ⟨m, b1, b2, b3, b4⟩, ⟨n, c1, c2, c3⟩, ⟨w, d1, d2, d3, d4⟩, e1, e2⟩ := hS
  have hk : kv = 6 ∨ kv = 5 ∨ kv = 8 ∨ kv = 9 := by unfold r_fp at hp; omega
  have o7 : ∀ k, k ≠ kc → ed_up σ 7 s kc x 7 s k = σ 7 s k := fun k h => pr_up_k _ _ h
  have ov : ∀ k, k ≠ kv → upd v (107 + 29 * s + kv) x (107 + 29 * s + k) = v (107 + 29 * s + k) := fun k h => pr_une _ _ (by omega)
  have o0 : upd v (107 + 29 * s + kv) x (107 + 29 * s) = v (107 + 29 * s) := pr_une _ _ (by omega)
  have oK : ∀ K, K ≠ 7 → ed_up σ 7 s kc x K = σ K := fun K hK => by funext i; rw [pr_up_K _ _ hK]
  refine ⟨?_, ⟨m, b1, b2, by rw [ov 1 (by omega)]; exact b3, fun k hk => by rw [oK 8 (by decide), ov (2 + k) (by omega)]; exact b4 k hk⟩, ⟨n, c1, by rw [ov 16 (by omega)]; exact c2, fun k hk => by rw [oK 9 (by decide), ov (17 + k) (by omega)]; exact c3 k hk⟩, ⟨w, d1, by rw [ov 7 (by omega)]; exact d2, fun k hk => by rw [oK 10 (by decide), ov (10 + k) (by omega)]; exact d3 k hk, fun k k' hk hk' => by rw [ov (10 + k) (by omega), ov (10 + k') (by omega)]; exact d4 k k' hk hk'⟩, ?_, ?_⟩
  · rw [o0, ov 1 (by omega), ov 16 (by omega), ov 7 (by omega)]
    rcases hp with ⟨rfl, rfl⟩ | ⟨rfl, rfl⟩ | ⟨rfl, rfl⟩ | ⟨rfl, rfl⟩
    · rw [o7 0 (by decide), o7 1 (by decide), o7 3 (by decide), o7 4 (by decide), pr_up_same, o7 7 (by decide), o7 9 (by decide), o7 10 (by decide), ov 5 (by decide), pr_ueq _ _ rfl, ov 8 (by decide), ov 9 (by decide)]
      exact ⟨a1, a2, a3, a4, rfl, a6, a7, a8⟩
    · rw [o7 0 (by decide), o7 1 (by decide), pr_up_same, o7 4 (by decide), o7 6 (by decide), o7 7 (by decide), o7 9 (by decide), o7 10 (by decide), ov 6 (by decide), pr_ueq _ _ rfl, ov 8 (by decide), ov 9 (by decide)]
      exact ⟨a1, a2, rfl, a4, a5, a6, a7, a8⟩
    · rw [o7 0 (by decide), o7 1 (by decide), o7 3 (by decide), o7 4 (by decide), o7 6 (by decide), o7 7 (by decide), pr_up_same, o7 10 (by decide), ov 5 (by decide), ov 6 (by decide), pr_ueq _ _ rfl, ov 9 (by decide)]
      exact ⟨a1, a2, a3, a4, a5, a6, rfl, a8⟩
    · rw [o7 0 (by decide), o7 1 (by decide), o7 3 (by decide), o7 4 (by decide), o7 6 (by decide), o7 7 (by decide), o7 9 (by decide), pr_up_same, ov 5 (by decide), ov 6 (by decide), ov 8 (by decide), pr_ueq _ _ rfl]
      exact ⟨a1, a2, a3, a4, a5, a6, a7, rfl⟩
  · by_cases h1 : kv = 6
    · subst h1; rw [pr_ueq _ _ rfl]; exact (h6 rfl).1
    · rw [ov 6 (by omega)]; exact e1
  · by_cases h1 : kv = 6
    · subst h1; rw [pr_ueq _ _ rfl, ov 8 (by omega)]; exact (h6 rfl).2
    · rw [ov 6 (by omega)]
      by_cases h2 : kv = 8
      · intro h3
        have := h8 h2
        rcases h3 with h3 | h3
        · exact absurd h3 this.1
        · exact absurd h3 this.2
      · rw [ov 8 (by omega)]; exact e2
theorem r_R.upF {σ : ed_SM} {v : Nat → Int32} {h nC nS nK s kc kv : Nat} (hR : r_R σ v h nC nS nK 160) (hs : s < nS) (hp : r_fp kc kv) (x : Int32) (h6 : kv = 6 → 0 ≤ x.toInt ∧ (x = 0 ∨ x = 1 → v (107 + 29 * s + 8) = -5)) (h8 : kv = 8 → (¬ v (107 + 29 * s + 6) = 0 ∧ ¬ v (107 + 29 * s + 6) = 1) ∧ ¬ x = -5) : r_R (ed_up σ 7 s kc x) (upd v (107 + 29 * s + kv) x) h nC nS nK 160 := by
  have hk : kv = 6 ∨ kv = 5 ∨ kv = 8 ∨ kv = 9 := by unfold r_fp at hp; omega
  refine hR.upS hs (fun K h1 _ _ _ => by funext i; rw [pr_up_K _ _ h1]) (fun K i hi => ?_) (fun a ha => pr_une _ _ (by omega)) ((hR.2.2.2.1 s hs).up hp x h6 (fun q => (h8 q).1)) (fun q => ?_) ?_
  · by_cases h1 : K = 7
    · subst h1; rw [pr_up_i _ _ hi]
    · rw [pr_up_K _ _ h1]
  · by_cases h2 : kv = 8
    · rw [pr_ueq _ _ (by omega)]; exact (h8 h2).2
    · rw [pr_une _ _ (by omega)]; exact q
  · rw [pr_une _ _ (by omega)]; exact Int.le_refl _
