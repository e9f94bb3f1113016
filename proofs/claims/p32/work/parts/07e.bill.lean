/-! what is billed -/
theorem pr_cmp {a b : Int32} : (lg_cmp (a.toInt64 + b.toInt64) 2147483647 ≤ 0) ↔ a.toInt + b.toInt ≤ 2147483647 := by
  have h1 := pr_rng a
  have h2 := pr_rng b
  rw [lg_cmp_le, Int64.le_iff_toInt_le, Int64.toInt_add, Int32.toInt_toInt64, Int32.toInt_toInt64, Int.bmod_eq_of_le (by omega) (by omega), show (2147483647 : Int64).toInt = 2147483647 by decide]
theorem pr_max {a b : Int32} (h0 : 0 ≤ a.toInt) : (b ≤ 2147483647 - a) ↔ a.toInt + b.toInt ≤ 2147483647 := by
  have h1 := pr_rng a
  have e : (2147483647 : Int32).toInt = 2147483647 := by decide
  rw [Int32.le_iff_toInt_le, pr_sub (by rw [e]; omega) (by rw [e]; omega), e]
  omega
theorem r_share (ν : em_MM) {σ : ed_SM} {v : Nat → Int32} (hP : r_P σ v) {q : Nat} (hq : q < 10) {x : Int32} (hx : 0 ≤ x.toInt) : ∃ σ' v', f_X4_addShare q x σ = some σ' ∧ f_X9_share (nI q) x (em_sR ν 1 v) = some (em_sR ν 1 v') ∧ r_P σ' v' ∧ (∀ K, K ≠ 13 → σ' K = σ K) ∧ ∀ a, a < 87 ∨ 107 ≤ a → v' a = v a := by
  have e0 : σ 13 q 0 = v (87 + 2 * q) := hP.1 q 0 hq (by omega)
  have e1 : σ 13 q 1 = v (87 + 2 * q + 1) := hP.1 q 1 hq (by omega)
  have hg := hP.2 q hq
  have hi : (87 : Int32) + 2 * nI q = nI (87 + 2 * q) := by rw [show (87 : Int32) = nI 87 from rfl, show (2 : Int32) = nI 2 from rfl, pk_mul, nI_add]
  have hi1 : nI (87 + 2 * q) + 1 = nI (87 + 2 * q + 1) := nI_1 _
  unfold f_X4_addShare f_X9_share
  simp (disch := omega) only [hi, hi1, pr_gin, pr_sR1, nI_clamp, e0, e1, pr_t, pr_sRu]
  by_cases hc : (v (87 + 2 * q)).toInt + x.toInt ≤ 2147483647
  · rw [if_pos (pr_cmp.mpr hc), if_pos ((pr_max hg).mpr hc)]
    refine ⟨_, _, rfl, rfl, ⟨fun a k ha hk => ?_, fun a ha => ?_⟩, fun K hK => ?_, fun a ha => ?_⟩
    · rw [pr_up, pr_upd]
      by_cases hz : a = q ∧ k = 0
      · rw [if_pos ⟨rfl, hz⟩, if_pos (by omega)]
      · rw [if_neg (fun z => hz z.2), if_neg (by omega)]
        exact hP.1 a k ha hk
    · rw [pr_upd]
      by_cases hz : a = q
      · rw [if_pos (by omega), pr_add (by omega) (by omega)]; omega
      · rw [if_neg (by omega)]; exact hP.2 a ha
    · funext i; rw [pr_up_K _ _ hK]
    · rw [pr_upd, if_neg (by omega)]
  · rw [if_neg (fun z => hc (pr_cmp.mp z)), if_neg (fun z => hc ((pr_max hg).mp z))]
    refine ⟨_, _, rfl, rfl, ⟨fun a k ha hk => ?_, fun a ha => ?_⟩, fun K hK => ?_, fun a ha => ?_⟩
    · rw [pr_up, pr_upd]
      by_cases hz : a = q ∧ k = 1
      · rw [if_pos ⟨rfl, hz⟩, if_pos (by omega)]
      · rw [if_neg (fun z => hz z.2), if_neg (by omega)]
        exact hP.1 a k ha hk
    · rw [pr_upd, if_neg (by omega)]; exact hP.2 a ha
    · funext i; rw [pr_up_K _ _ hK]
    · rw [pr_upd, if_neg (by omega)]
theorem pr_authorAt {σ : ed_SM} {s m i : Nat} (h : σ 7 s 1 = nI m) (hm : m ≤ 3) (hi : i < m) : f_X6_authorAt s (nI i) σ = some (σ 8 s i) := by
  unfold f_X6_authorAt
  rw [h]
  refine (pr_at_in (n := 3) (by omega) hm hi).trans ?_
  rw [nI_clamp (by omega)]
theorem pr_authorNo {σ : ed_SM} {s m : Nat} {x : Int32} (h : σ 7 s 1 = nI m) (hm : m ≤ 3) (hx : x < 0 ∨ nI m ≤ x) : f_X6_authorAt s x σ = some (-5) := by
  unfold f_X6_authorAt
  rw [h]
  exact pr_at_out (n := 3) (by omega) hm hx
theorem r_shares (ν : em_MM) (s c m : Nat) (hm1 : 1 ≤ m) (hm : m ≤ 3) (hs : s < 20) (fee y5 y7 : Int32) (h5 : y5 = fee / nI m) (h7 : y7 = fee - fee / nI m * nI m) (p5 : 0 ≤ y5.toInt) (p57 : 0 ≤ (y5 + y7).toInt) : ∀ (d i n n' : Nat), i + d = m → d < n → d < n' → ∀ (σ : ed_SM) (v : Nat → Int32), r_P σ v → σ 7 s 1 = nI m → v (107 + 29 * s + 1) = nI m → (∀ k, k < m → σ 8 s k = v (107 + 29 * s + (2 + k)) ∧ ∃ q, q < 10 ∧ v (107 + 29 * s + (2 + k)) = nI q) → ∃ σ' v', f_X5_bill_74 s c n y5 y7 (nI i) σ = some σ' ∧ f_X9_bill_63 n' (nI s) fee (nI m) (nI i) (em_sR ν 1 v) = some (em_sR ν 1 v') ∧ r_P σ' v' ∧ (∀ K, K ≠ 13 → σ' K = σ K) ∧ ∀ a, a < 87 ∨ 107 ≤ a → v' a = v a := by
  intro d
  induction d with
  | zero =>
    intro i n n' hi hn hn' σ v hP h1 h2 ha
    obtain ⟨n, rfl⟩ : ∃ q, n = q + 1 := ⟨n - 1, by omega⟩
    obtain ⟨n', rfl⟩ : ∃ q, n' = q + 1 := ⟨n' - 1, by omega⟩
    have cc : nI m ≤ nI i := by rw [pr_le (by omega) (by omega)]; omega
    refine ⟨σ, v, by rw [f_X5_bill_74, h1, if_pos cc], by rw [f_X9_bill_63, if_pos cc], hP, fun _ _ => rfl, fun _ _ => rfl⟩
  | succ d ih =>
    intro i n n' hi hn hn' σ v hP h1 h2 ha
    obtain ⟨n, rfl⟩ : ∃ q, n = q + 1 := ⟨n - 1, by omega⟩
    obtain ⟨n', rfl⟩ : ∃ q, n' = q + 1 := ⟨n' - 1, by omega⟩
    have cc : ¬ nI m ≤ nI i := by rw [pr_le (by omega) (by omega)]; omega
    obtain ⟨ha1, q, hq, ha2⟩ := ha i (by omega)
    have hz : ¬ nI m = 0 := nI_ne0 (by omega) (by omega)
    have e2 : (2 : Int32) + nI i = nI (2 + i) := nI_add 2 i
    rw [f_X5_bill_74, f_X9_bill_63, h1, if_neg cc, if_neg cc, e2, pr_ofStory _ (by omega), pr_b, pr_authorAt h1 hm (by omega), pr_b, ha1, pr_sR1, ha2, pr_personAt hq, pr_b, pr_g hz]
    show ∃ σ' v', ed_g _ _ = _ ∧ _
    rw [pr_g hq]
    by_cases h0 : i = 0
    · subst h0
      rw [if_pos nI_0, if_pos nI_0, pr_g hz]
      obtain ⟨σ1, v1, g1, g2, g3, g4, g5⟩ := r_share ν hP hq p57
      have g2 : f_X9_share (nI q) (fee / nI m + (fee - fee / nI m * nI m)) (em_sR ν 1 v) = some (em_sR ν 1 v1) := by rw [← h7, ← h5]; exact g2
      rw [g1, g2, pr_b, pr_b, nI_1]
      obtain ⟨σ2, v2, k1, k2, k3, k4, k5⟩ := ih (0 + 1) n n' (by omega) (by omega) (by omega) σ1 v1 g3 (by rw [g4 7 (by decide)]; exact h1) (by rw [g5 _ (by omega)]; exact h2) (fun k hk => by rw [g4 8 (by decide), g5 _ (by omega)]; exact ha k hk)
      exact ⟨σ2, v2, k1, k2, k3, fun K hK => by rw [k4 K hK, g4 K hK], fun a ha => by rw [k5 a ha, g5 a ha]⟩
    · have hn0 : ¬ nI i = 0 := nI_ne0 (by omega) (by omega)
      rw [if_neg hn0, if_neg hn0]
      obtain ⟨σ1, v1, g1, g2, g3, g4, g5⟩ := r_share ν hP hq p5
      have g2 : f_X9_share (nI q) (fee / nI m + 0) (em_sR ν 1 v) = some (em_sR ν 1 v1) := by rw [Int32.add_zero, ← h5]; exact g2
      rw [g1, g2, pr_b, pr_b, nI_1]
      obtain ⟨σ2, v2, k1, k2, k3, k4, k5⟩ := ih (i + 1) n n' (by omega) (by omega) (by omega) σ1 v1 g3 (by rw [g4 7 (by decide)]; exact h1) (by rw [g5 _ (by omega)]; exact h2) (fun k hk => by rw [g4 8 (by decide), g5 _ (by omega)]; exact ha k hk)
      exact ⟨σ2, v2, k1, k2, k3, fun K hK => by rw [k4 K hK, g4 K hK], fun a ha => by rw [k5 a ha, g5 a ha]⟩
/-- a field of a client, from 6 on, on both sides -/
theorem r_C.up {σ : ed_SM} {v : Nat → Int32} {nC : Nat} (h : r_C σ v nC) (hn : nC ≤ 8) {c k : Nat} (hc : c < nC) (hk : k < 10) (hk6 : 6 ≤ k) (x : Int32) (hx : k = 6 → 0 ≤ x.toInt) : r_C (ed_up σ 11 c k x) (upd v (7 + 10 * c + k) x) nC := by
  refine ⟨fun a b ha hb => ?_, fun a ha => ?_, fun a b h1 h2 h3 h4 => ?_⟩
  · rw [pr_up, pr_upd]
    by_cases hz : a = c ∧ b = k
    · rw [if_pos ⟨rfl, hz⟩, if_pos (by omega)]
    · rw [if_neg (fun z => hz z.2), if_neg (by omega)]
      exact h.1 a b ha hb
  · obtain ⟨f1, f2, f3, f4, f5⟩ := h.2.1 a ha
    rw [pr_upd, if_neg (by omega), pr_upd, if_neg (by omega), pr_upd, pr_upd, if_neg (show ¬ 7 + 10 * a + 2 = 7 + 10 * c + k by omega)]
    refine ⟨f1, f2, ?_, f4, f5⟩
    by_cases hz : 7 + 10 * a + 6 = 7 + 10 * c + k
    · rw [if_pos hz]; exact hx (by omega)
    · rw [if_neg hz]; exact f3
  · rw [pr_upd, if_neg (by omega)]
    exact h.2.2 a b h1 h2 h3 h4
theorem pr_nn {x : Int32} (h : 0 ≤ x.toInt) : ∃ n, n < 2 ^ 31 ∧ x = nI n := by
  have hr := pr_rng x
  refine ⟨x.toInt.toNat, by omega, pr_toInt_inj ?_⟩
  rw [nI_toInt (by omega)]
  omega
theorem r_bill (ν : em_MM) {σ : ed_SM} {v : Nat → Int32} {nC h s c : Nat} (hC : r_C σ v nC) (hn : nC ≤ 8) (hP : r_P σ v) (hS : r_S1 σ v s h) (hs : s < 20) (hc : c < nC) : ∃ σ' v', f_X5_bill s c σ = some σ' ∧ f_X9_bill (nI s) (nI c) (em_sR ν 1 v) = some (em_sR ν 1 v') ∧ r_C σ' v' nC ∧ r_P σ' v' ∧ (∀ K, K ≠ 11 → K ≠ 13 → σ' K = σ K) ∧ (∀ a, a < 7 ∨ 107 ≤ a → v' a = v a) ∧ ∀ a k, a < 8 → k < 10 → k ≠ 6 → k ≠ 9 → v' (7 + 10 * a + k) = v (7 + 10 * a + k) := by
  obtain ⟨f1, f2, f3, f4, f5⟩ := hC.2.1 c hc
  have e4 := hC.1 c 4 hc (by omega)
  have e6 := hC.1 c 6 hc (by omega)
  have e9 := hC.1 c 9 hc (by omega)
  obtain ⟨⟨-, a2, -⟩, ⟨m, b1, b2, b3, b4⟩, -⟩ := hS
  unfold f_X5_bill f_X9_bill
  have o4 : f_X9_ofClient (nI c) 4 (em_sR ν 1 v) = some (v (7 + 10 * c + 4)) := by rw [show (4 : Int32) = nI 4 from rfl, pr_ofClient _ (by omega), pr_sR1]
  have o6 : f_X9_ofClient (nI c) 6 (em_sR ν 1 v) = some (v (7 + 10 * c + 6)) := by rw [show (6 : Int32) = nI 6 from rfl, pr_ofClient _ (by omega), pr_sR1]
  have i6 : f_X9_clientAt (nI c) 6 = nI (7 + 10 * c + 6) := pr_9c c 6
  have i9 : f_X9_clientAt (nI c) 9 = nI (7 + 10 * c + 9) := pr_9c c 9
  simp (disch := omega) only [o4, o6, pr_b, i6, i9, e4, e6, e9, pr_gin, pr_sR1, nI_clamp, pr_t, pr_sRu]
  by_cases hc2 : (v (7 + 10 * c + 6)).toInt + (v (7 + 10 * c + 4)).toInt ≤ 2147483647
  · rw [if_pos (pr_cmp.mpr hc2), if_pos ((pr_max f3).mpr hc2)]
    have hC1 := hC.up hn hc (k := 6) (by omega) (by omega) (v (7 + 10 * c + 6) + v (7 + 10 * c + 4)) (fun _ => by rw [pr_add (by omega) (by omega)]; omega)
    have u7 : ed_up σ 11 c 6 (v (7 + 10 * c + 6) + v (7 + 10 * c + 4)) 7 s 1 = nI m := by rw [pr_up_K _ _ (by decide), a2, b3]
    have u4 : ed_up σ 11 c 6 (v (7 + 10 * c + 6) + v (7 + 10 * c + 4)) 11 c 4 = v (7 + 10 * c + 4) := by rw [pr_up_k _ _ (by decide), e4]
    have o1 : f_X9_ofStory (nI s) 1 (em_sR ν 1 (upd v (7 + 10 * c + 6) (v (7 + 10 * c + 6) + v (7 + 10 * c + 4)))) = some (nI m) := by rw [show (1 : Int32) = nI 1 from rfl, pr_ofStory _ (by omega), pr_sR1, pr_upd, if_neg (by omega), b3]
    rw [u7, u4, o1, pr_b]
    have hz : ¬ nI m = 0 := nI_ne0 (by omega) (by omega)
    have hz2 : (0 : Int32) < nI m := by
      show nI 0 < nI m
      rw [pr_lt (by omega) (by omega)]; omega
    rw [if_pos hz2, pr_g hz, pr_g hz]
    obtain ⟨f, hf, hfe⟩ := pr_nn f2
    have hdl : f / m ≤ f := Nat.div_le_self f m
    have hsum : f / m + f % m ≤ f := by
      have h1 := Nat.div_add_mod f m
      have h2 : f / m ≤ m * (f / m) := Nat.le_mul_of_pos_left _ (by omega)
      omega
    have hd : v (7 + 10 * c + 4) / nI m = nI (f / m) := by rw [hfe]; exact pk_div hf (by omega) (by omega)
    have hr : v (7 + 10 * c + 4) - v (7 + 10 * c + 4) / nI m * nI m = nI (f % m) := by rw [hfe]; exact pk_rem hf (by omega) (by omega)
    generalize f / m = f1 at hdl hsum hd
    generalize f % m = f2 at hsum hr
    obtain ⟨σ1, v1, g1, g2, g3, g4, g5⟩ := r_shares ν s c m b1 b2 hs (v (7 + 10 * c + 4)) _ _ rfl rfl (by rw [hd, nI_toInt (by omega)]; omega) (by rw [hr, hd, nI_add, nI_toInt (by omega)]; omega) m 0 ed_N ed_N (by omega) (by unfold ed_N; omega) (by unfold ed_N; omega) (ed_up σ 11 c 6 (v (7 + 10 * c + 6) + v (7 + 10 * c + 4))) (upd v (7 + 10 * c + 6) (v (7 + 10 * c + 6) + v (7 + 10 * c + 4)))
      (hP.cg (by funext i; rw [pr_up_K _ _ (by decide)]) (fun a h1 h2 => by rw [pr_upd, if_neg (by omega)])) u7 (by rw [pr_upd, if_neg (by omega), b3]) (fun k hk => by
        rw [pr_up_K _ _ (by decide), pr_upd, if_neg (by omega)]
        exact b4 k hk)
    rw [nI_0] at g1 g2
    refine ⟨σ1, v1, g1, g2, hC1.cg (g4 11 (by decide)) (fun a h1 h2 => g5 a (by omega)) hn, g3, fun K h1 h2 => ?_, fun a ha => ?_, fun a k ha hk hk6 hk9 => ?_⟩
    · rw [g4 K h2]; funext i; rw [pr_up_K _ _ h1]
    · by_cases h1 : a < 7
      · rw [g5 a (by omega), pr_upd, if_neg (by omega)]
      · rw [g5 a (by omega), pr_upd, if_neg (by omega)]
    · rw [g5 _ (by omega), pr_upd, if_neg (by omega)]
  · rw [if_neg (fun z => hc2 (pr_cmp.mp z)), if_neg (fun z => hc2 ((pr_max f3).mp z))]
    refine ⟨_, _, rfl, rfl, hC.up hn hc (by omega) (by omega) _ (fun z => absurd z (by decide)), hP.cg (by funext i; rw [pr_up_K _ _ (by decide)]) (fun a h1 h2 => by rw [pr_upd, if_neg (by omega)]), fun K h1 h2 => ?_, fun a ha => ?_, fun a k ha hk hk6 hk9 => ?_⟩
    · funext i; rw [pr_up_K _ _ h1]
    · rw [pr_upd, if_neg (by omega)]
    · rw [pr_upd, if_neg (by omega)]
