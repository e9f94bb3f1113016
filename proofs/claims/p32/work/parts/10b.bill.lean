/-! what is billed: the sums -/
theorem j_share {σ σ' : ed_SM} {q : Nat} {x : Int32} (hb : (σ 13 q 0).toInt + x.toInt ≤ 2147483647) (h0 : 0 ≤ (σ 13 q 0).toInt) (hx : 0 ≤ x.toInt) (hf : f_X4_addShare q x σ = some σ') : (∀ K, K ≠ 13 → σ' K = σ K) ∧ (∀ i, σ' 13 i 1 = σ 13 i 1) ∧ (σ' 13 q 0).toInt = (σ 13 q 0).toInt + x.toInt ∧ ∀ i, i ≠ q → σ' 13 i 0 = σ 13 i 0 := by
  unfold f_X4_addShare at hf
  replace hf := ed_ip (pr_cmp.mpr hb) hf
  obtain ⟨σ2, e2, hf⟩ := ed_t_e hf
  obtain rfl := Option.some.inj hf
  subst e2
  refine ⟨fun K h => ?_, fun i => ?_, ?_, fun i h => ?_⟩
  · funext i; rw [pr_up_K _ _ h]
  · rw [pr_up, if_neg (by omega)]
  · rw [pr_up_same, pr_add (by omega) (by omega)]
  · rw [pr_up, if_neg (by omega)]
theorem j_bill74 {s c m : Nat} {y5 y7 : Int32} (hm : m ≤ 3) (p5 : 0 ≤ y5.toInt) (p57 : (y5 + y7).toInt = y5.toInt + y7.toInt) (p7 : 0 ≤ y7.toInt) : ∀ (d i n : Nat) (σ σ' : ed_SM), i + d = m → f_X5_bill_74 s c n y5 y7 (nI i) σ = some σ' → σ 7 s 1 = nI m → (∀ k, k < m → ∃ q, q < 10 ∧ σ 8 s k = nI q) → (∀ q, q < 10 → 0 ≤ (σ 13 q 0).toInt) → j_s (j_g σ) 10 + d * y5.toInt + (if i = 0 then y7.toInt else 0) ≤ 2147483647 →
    (∀ K, K ≠ 13 → σ' K = σ K) ∧ (∀ q, σ' 13 q 1 = σ 13 q 1) ∧ (∀ q, q < 10 → 0 ≤ (σ' 13 q 0).toInt) ∧ j_s (j_g σ') 10 = j_s (j_g σ) 10 + d * y5.toInt + (if i = 0 ∧ 0 < d then y7.toInt else 0) := by
  intro d
  induction d with
  | zero =>
    intro i n σ σ' hi hf h1 ha h0 hb
    cases n with
    | zero => cases hf
    | succ n =>
    rw [f_X5_bill_74, h1] at hf
    replace hf := ed_ip (show nI m ≤ nI i by rw [pr_le (by omega) (by omega)]; omega) hf
    obtain rfl := Option.some.inj hf
    refine ⟨fun _ _ => rfl, fun _ => rfl, h0, ?_⟩
    rw [if_neg (by omega)]
    omega
  | succ d ih =>
    intro i n σ σ' hi hf h1 ha h0 hb
    cases n with
    | zero => cases hf
    | succ n =>
    obtain ⟨q, hq, eq⟩ := ha i (by omega)
    have hgq : (σ 13 q 0).toInt ≤ j_s (j_g σ) 10 := j_s_le (f := j_g σ) 10 (fun k hk => h0 k hk) hq
    have hd : 0 ≤ (d : Int) * y5.toInt := Int.mul_nonneg (Int.natCast_nonneg d) p5
    have hds : ((d + 1 : Nat) : Int) * y5.toInt = d * y5.toInt + y5.toInt := by
      rw [Int.natCast_add, Int.add_mul, Int.natCast_one, Int.one_mul]
    rw [hds] at hb
    rw [f_X5_bill_74, h1] at hf
    replace hf := ed_in_ (show ¬ nI m ≤ nI i by rw [pr_le (by omega) (by omega)]; omega) hf
    rw [pr_authorAt h1 hm (by omega), pr_b, eq, pr_personAt hq, pr_b] at hf
    replace hf : ed_g (q < 10) _ = some σ' := hf
    obtain ⟨-, hf⟩ := ed_g_e hf
    have key : ∀ (x : Int32) (e : Int), x.toInt = e → 0 ≤ e → e ≤ y5.toInt + y7.toInt → ∀ σ1, f_X4_addShare q x σ = some σ1 → f_X5_bill_74 s c n y5 y7 (nI i + 1) σ1 = some σ' → (i = 0 ∧ e = y5.toInt + y7.toInt) ∨ (i ≠ 0 ∧ e = y5.toInt) → (∀ K, K ≠ 13 → σ' K = σ K) ∧ (∀ q, σ' 13 q 1 = σ 13 q 1) ∧ (∀ q, q < 10 → 0 ≤ (σ' 13 q 0).toInt) ∧ j_s (j_g σ') 10 = j_s (j_g σ) 10 + ((d + 1 : Nat) : Int) * y5.toInt + (if i = 0 ∧ 0 < d + 1 then y7.toInt else 0) := by
      intro x e hx he1 he2 σ1 hs hf hce
      obtain ⟨a1, a2, a3, a4⟩ := j_share (by
        rcases hce with ⟨z1, z2⟩ | ⟨z1, z2⟩
        · rw [if_pos z1] at hb; omega
        · rw [if_neg z1] at hb; omega) (h0 q hq) (by omega) hs
      have es : j_s (j_g σ1) 10 = j_s (j_g σ) 10 + e := by
        have := j_s_up (f := j_g σ) (g := j_g σ1) (i := q) (d := e) (by show (σ1 13 q 0).toInt = (σ 13 q 0).toInt + e; omega) (fun k hk => by show (σ1 13 k 0).toInt = (σ 13 k 0).toInt; rw [a4 k hk]) 10
        rw [if_pos hq] at this
        exact this
      rw [nI_1] at hf
      obtain ⟨b1, b2, b3, b4⟩ := ih (i + 1) n σ1 σ' (by omega) hf (by rw [a1 7 (by decide)]; exact h1) (fun k hk => by rw [a1 8 (by decide)]; exact ha k hk) (fun k hk => by
        by_cases hkq : k = q
        · subst hkq; have := h0 k hk; omega
        · rw [a4 k hkq]; exact h0 k hk) (by
        rw [if_neg (by omega), es]
        rcases hce with ⟨z1, z2⟩ | ⟨z1, z2⟩
        · rw [if_pos z1] at hb; omega
        · rw [if_neg z1] at hb; omega)
      refine ⟨fun K h => (b1 K h).trans (a1 K h), fun k => (b2 k).trans (a2 k), b3, ?_⟩
      rw [b4, es, hds, if_neg (by omega)]
      rcases hce with ⟨z1, z2⟩ | ⟨z1, z2⟩
      · rw [if_pos (by omega)]; omega
      · rw [if_neg (by omega)]; omega
    by_cases hi0 : i = 0
    · replace hf := ed_ip (show nI i = 0 by rw [hi0]; rfl) hf
      obtain ⟨σ1, hs, hf⟩ := ed_b_e hf
      exact key (y5 + y7) (y5.toInt + y7.toInt) p57 (by omega) (by omega) σ1 hs hf (Or.inl ⟨hi0, rfl⟩)
    · replace hf := ed_in_ (nI_ne0 (by omega) (by omega)) hf
      obtain ⟨σ1, hs, hf⟩ := ed_b_e hf
      exact key y5 y5.toInt rfl p5 (by omega) σ1 hs hf (Or.inr ⟨hi0, rfl⟩)
theorem j_bill {σ σ' : ed_SM} {M pd : Int} {h nC nS nK s c : Nat} (H : j_J σ M pd h nC nS nK) (hs : s < nS) (hc : c < nC) (hM : M + 10000 ≤ 2000000000) (hf : f_X5_bill s c σ = some σ') : j_J σ' (M + 9000) pd h nC nS nK ∧ (∀ K, K ≠ 11 → K ≠ 13 → σ' K = σ K) := by
  obtain ⟨a, C, P, S, K, m1, m2, m3⟩ := id H
  obtain ⟨c1, c2, c3, c4, c5, c6, c7, c8, c9, c10, c11, c12, c13, c14⟩ := C c hc
  obtain ⟨⟨m, w1, w2, w3, w4, w5⟩, -⟩ := S s hs
  have hoc : (σ 11 c 6).toInt ≤ j_s (j_o σ) nC := j_s_le (f := j_o σ) nC (fun k hk => (C k hk).2.2.2.2.2.2.2.2.1) hc
  unfold f_X5_bill at hf
  replace hf := ed_ip (pr_cmp.mpr (show (σ 11 c 6).toInt + (σ 11 c 4).toInt ≤ 2147483647 by omega)) hf
  obtain ⟨σ2, e2, hf⟩ := ed_t_e hf
  have k2 : ∀ K, K ≠ 11 → σ2 K = σ K := fun K hK => by rw [e2]; funext i; rw [pr_up_K _ _ hK]
  have f2 : ∀ i k, ¬ (i = c ∧ k = 6) → σ2 11 i k = σ 11 i k := fun i k h => by rw [e2, pr_up, if_neg (fun q => h q.2)]
  have g2 : σ2 11 c 6 = σ 11 c 6 + σ 11 c 4 := by rw [e2, pr_up_same]
  have o2 : (σ2 11 c 6).toInt = (σ 11 c 6).toInt + (σ 11 c 4).toInt := by rw [g2, pr_add (by omega) (by omega)]
  have h71 : σ2 7 s 1 = nI m := by rw [k2 7 (by decide)]; exact w3
  rw [h71, f2 c 4 (by omega)] at hf
  replace hf := ed_ip (show (0 : Int32) < nI m by show nI 0 < nI m; rw [pr_lt (by omega) (by omega)]; omega) hf
  obtain ⟨-, hf⟩ := ed_g_e hf
  obtain ⟨y5, e5, hf⟩ := ed_t_e hf
  obtain ⟨-, hf⟩ := ed_g_e hf
  obtain ⟨y7, e7, hf⟩ := ed_t_e hf
  obtain ⟨fe, hfe, efe⟩ := pr_nn c7
  have hfe9 : fe < 9000 := by
    rw [efe, nI_toInt hfe] at c8
    omega
  rw [efe, pk_div hfe (by omega) (by omega)] at e5
  rw [efe, pk_rem hfe (by omega) (by omega)] at e7
  have hq1 : fe / m ≤ fe := Nat.div_le_self _ _
  have hq2 : fe % m < m := Nat.mod_lt _ (by omega)
  have hq3 : m * (fe / m) + fe % m = fe := Nat.div_add_mod fe m
  generalize fe / m = Q at e5 hq1 hq3
  generalize fe % m = T at e7 hq2 hq3
  have t5 : y5.toInt = (Q : Int) := by rw [e5, nI_toInt (by omega)]
  have t7 : y7.toInt = (T : Int) := by rw [e7, nI_toInt (by omega)]
  have t57 : (y5 + y7).toInt = y5.toInt + y7.toInt := pr_add (by omega) (by omega)
  have eg2 : j_g σ2 = j_g σ := by unfold j_g; rw [k2 13 (by decide)]
  have hmul : (m : Int) * y5.toInt + y7.toInt = fe := by
    rw [t5, t7, ← Int.natCast_mul, ← Int.natCast_add, hq3]
  obtain ⟨b1, b2, b3, b4⟩ := j_bill74 (s := s) (c := c) (m := m) w2 (by omega) t57 (by omega) m 0 ed_N σ2 σ' (by omega) hf h71 (fun k hk => by rw [k2 8 (by decide)]; exact w4 k hk) (fun q hq => by rw [k2 13 (by decide)]; exact (P q hq).1) (by rw [eg2, if_pos rfl]; omega)
  rw [if_pos (by omega), eg2] at b4
  have c4e : (σ 11 c 4).toInt = (fe : Int) := by rw [efe, nI_toInt hfe]
  have so : j_s (j_o σ2) nC = j_s (j_o σ) nC + (fe : Int) := by
    have := j_s_up (f := j_o σ) (g := j_o σ2) (i := c) (d := (fe : Int)) (by show (σ2 11 c 6).toInt = (σ 11 c 6).toInt + fe; omega) (fun k hk => by show (σ2 11 k 6).toInt = (σ 11 k 6).toInt; rw [f2 k 6 (by omega)]) nC
    rw [if_pos hc] at this
    exact this
  have eo : j_o σ' = j_o σ2 := by unfold j_o; rw [b1 11 (by decide)]
  have z11 : ∀ i k, ¬ (i = c ∧ k = 6) → σ' 11 i k = σ 11 i k := fun i k h => by rw [b1 11 (by decide), f2 i k h]
  have zK : ∀ K, K ≠ 11 → K ≠ 13 → σ' K = σ K := fun K h1 h2 => by rw [b1 K h2, k2 K h1]
  refine ⟨⟨by unfold j_H; rw [zK 0 (by decide) (by decide)]; exact a, fun i hi => ?_, fun q hq => ⟨b3 q hq, by rw [b2 q, k2 13 (by decide)]; exact (P q hq).2⟩, fun s hs => ?_, fun p hp => ?_, by rw [eo, so, b4]; omega, by rw [b4]; omega, m3⟩, zK⟩
  · obtain ⟨d1, d2, d3, d4, d5, d6, d7, d8, d9, d10, d11, d12, d13, d14⟩ := C i hi
    have e6 : 0 ≤ (σ' 11 i 6).toInt := by
      by_cases hic : i = c
      · subst hic
        rw [b1 11 (by decide)]
        omega
      · rw [z11 i 6 (by omega)]; exact d9
    unfold j_C1
    rw [z11 i 5 (by omega), z11 i 1 (by omega), z11 i 2 (by omega), z11 i 3 (by omega), z11 i 4 (by omega), z11 i 7 (by omega), z11 i 8 (by omega), z11 i 9 (by omega)]
    exact ⟨d1, d2, d3, d4, d5, d6, d7, d8, e6, d10, d11, d12, by omega, d14⟩
  · unfold j_S1; rw [zK 7 (by decide) (by decide), zK 8 (by decide) (by decide)]; exact S s hs
  · obtain ⟨s', c', b1', b2', b3', b4', b5', b6', b7'⟩ := K p hp
    refine ⟨s', c', b1', b2', ?_⟩
    rw [zK 12 (by decide) (by decide), zK 7 (by decide) (by decide), z11 c' 1 (by omega)]
    exact ⟨b3', b4', b5', b6', b7'⟩
