/-! an hour, put together -/
theorem j_loopK {pd : Int} {h nC nS nK : Nat} : ∀ (d p n : Nat) (M : Int) (σ σ' : ed_SM), p + d = nK → j_J σ M pd h nC nS nK → M + 10000 * d + 1 ≤ 2000000000 → f_X5_passHour_77 n (nI p) σ = some σ' → j_J σ' (M + 10000 * d) pd h nC nS nK := by
  intro d
  induction d with
  | zero =>
    intro p n M σ σ' hp H hM hf
    obtain ⟨⟨a0, a3, a4, a5, a6, a7, a8, a9⟩, -⟩ := id H
    cases n with
    | zero => cases hf
    | succ n =>
    rw [f_X5_passHour_77, a5] at hf
    replace hf := ed_ip (show nI nK ≤ nI p by rw [pr_le (by omega) (by omega)]; omega) hf
    obtain rfl := Option.some.inj hf
    exact H.mono (by omega)
  | succ d ih =>
    intro p n M σ σ' hp H hM hf
    obtain ⟨⟨a0, a3, a4, a5, a6, a7, a8, a9⟩, -⟩ := id H
    cases n with
    | zero => cases hf
    | succ n =>
    rw [f_X5_passHour_77, pr_copyMade a5 a8 (show p < nK by omega), pr_b, a5] at hf
    replace hf := ed_in_ (show ¬ nI nK ≤ nI p by rw [pr_le (by omega) (by omega)]; omega) hf
    replace hf : ed_g (p < 160) _ = some σ' := hf
    obtain ⟨-, hf⟩ := ed_g_e hf
    rw [nI_1] at hf
    split at hf
    · obtain ⟨σ8, e8, hf⟩ := ed_b_e hf
      exact (ih (p + 1) n (M + 10000) σ8 σ' (by omega) (j_moveOn H (by omega) (by omega) e8) (by omega) hf).mono (by omega)
    · exact (ih (p + 1) n M σ σ' (by omega) H (by omega) hf).mono (by omega)
theorem j_begin {σ σ' : ed_SM} {i : Nat} {x1 x2 x3 : Int32} (hf : f_X1_begin i x1 x2 x3 σ = some σ') : (∀ K, K ≠ 12 → σ' K = σ K) ∧ (∀ q, q ≠ i → σ' 12 q = σ 12 q) ∧ σ' 12 i 0 = x1 ∧ σ' 12 i 1 = x2 ∧ σ' 12 i 2 = 0 ∧ σ' 12 i 3 = x3 ∧ σ' 12 i 4 = -5 ∧ σ' 12 i 5 = -5 := by
  unfold f_X1_begin at hf
  obtain ⟨σ1, e1, hf⟩ := ed_t_e hf
  obtain ⟨σ2, e2, hf⟩ := ed_t_e hf
  obtain ⟨σ3, e3, hf⟩ := ed_t_e hf
  obtain ⟨σ4, e4, hf⟩ := ed_t_e hf
  obtain ⟨σ5, e5, hf⟩ := ed_t_e hf
  obtain ⟨σ6, e6, hf⟩ := ed_t_e hf
  obtain rfl := Option.some.inj hf
  refine ⟨fun K hK => ?_, fun q hq => ?_, ?_, ?_, ?_, ?_, ?_, ?_⟩
  · rw [e6, e5, e4, e3, e2, e1]
    funext q
    rw [pr_up_K _ _ hK, pr_up_K _ _ hK, pr_up_K _ _ hK, pr_up_K _ _ hK, pr_up_K _ _ hK, pr_up_K _ _ hK]
  · rw [e6, e5, e4, e3, e2, e1, pr_up_i _ _ hq, pr_up_i _ _ hq, pr_up_i _ _ hq, pr_up_i _ _ hq, pr_up_i _ _ hq, pr_up_i _ _ hq]
  all_goals (rw [e6, e5, e4, e3, e2, e1]; simp [pr_up])
theorem j_plan {σ σ' : ed_SM} {M pd : Int} {h nC nS nK s c : Nat} {x : Int32} (H : j_J σ M pd h nC nS nK) (hs : s < nS) (hc : c < nC) (h9 : ¬ σ 7 s 9 = -5) (hx : x = σ 7 s 9 + σ 11 c 1) (hf : f_X5_planCopy (nI s) (nI c) x σ = some σ') : ∃ nK', nK ≤ nK' ∧ j_J σ' M pd h nC nS nK' ∧ ∀ K, K ≠ 0 → K ≠ 12 → σ' K = σ K := by
  obtain ⟨⟨a0, a3, a4, a5, a6, a7, a8, a9⟩, C, P, S, K, m1, m2, m3⟩ := id H
  unfold f_X5_planCopy at hf
  rw [a5] at hf
  split at hf
  · rename_i hlt
    have hlt : nK < 160 := by
      have z : nI nK < nI 160 := hlt
      rw [pr_lt (by omega) (by omega)] at z
      exact z
    obtain ⟨σ2, e2, hf⟩ := ed_t_e hf
    rw [nI_1] at e2
    have f5 : σ2 0 0 5 = nI (nK + 1) := by rw [e2, pr_up_same]
    have k2 : ∀ K, K ≠ 0 → σ2 K = σ K := fun K hK => by rw [e2]; funext i; rw [pr_up_K _ _ hK]
    have z2 : ∀ k, k ≠ 5 → σ2 0 0 k = σ 0 0 k := fun k hk => by rw [e2, pr_up_k _ _ hk]
    rw [f5, nI_pred, pr_copyMade f5 (by omega) (show nK < nK + 1 by omega), pr_b] at hf
    replace hf : ed_g (nK < 160) _ = some σ' := hf
    obtain ⟨-, hf⟩ := ed_g_e hf
    obtain ⟨σ4, e4, hf⟩ := ed_b_e hf
    obtain rfl := Option.some.inj hf
    obtain ⟨b0, b1, b2, b3, b4, b5, b6, b7⟩ := j_begin e4
    have kK : ∀ K, K ≠ 0 → K ≠ 12 → σ4 K = σ K := fun K h1 h2 => by rw [b0 K h2, k2 K h1]
    have eg : j_g σ4 = j_g σ := by unfold j_g; rw [kK 13 (by decide) (by decide)]
    have eo : j_o σ4 = j_o σ := by unfold j_o; rw [kK 11 (by decide) (by decide)]
    refine ⟨nK + 1, by omega, ⟨⟨by rw [b0 0 (by decide), z2 0 (by decide)]; exact a0, by rw [b0 0 (by decide), z2 3 (by decide)]; exact a3, by rw [b0 0 (by decide), z2 4 (by decide)]; exact a4, by rw [b0 0 (by decide)]; exact f5, a6, a7, by omega, a9⟩, fun i hi => ?_, fun q hq => ?_, fun t ht => ?_, fun p hp => ?_, by rw [eg, eo]; exact m1, by rw [eg]; exact m2, m3⟩, kK⟩
    · unfold j_C1; rw [kK 11 (by decide) (by decide)]; exact C i hi
    · rw [kK 13 (by decide) (by decide)]; exact P q hq
    · unfold j_S1; rw [kK 7 (by decide) (by decide), kK 8 (by decide) (by decide)]; exact S t ht
    · by_cases hpn : p = nK
      · subst hpn
        refine ⟨s, c, hs, hc, b2, b3, ?_, ?_, Or.inl ⟨Or.inl b4, b6, b7⟩⟩
        · rw [kK 7 (by decide) (by decide)]; exact h9
        · rw [b5, kK 7 (by decide) (by decide), kK 11 (by decide) (by decide)]; exact hx
      · unfold j_K1
        rw [b1 p hpn, k2 12 (by decide), kK 7 (by decide) (by decide), kK 11 (by decide) (by decide)]
        exact K p (by omega)
  · obtain rfl := Option.some.inj hf
    exact ⟨nK, Nat.le_refl _, H, fun _ _ _ => rfl⟩
theorem j_pub30 {M pd : Int} {h nC nS s : Nat} (hs : s < nS) : ∀ (d i n nK : Nat) (σ σ' : ed_SM), i + d = nC → j_J σ M pd h nC nS nK → σ 7 s 9 = nI h → f_X5_publish_30 s n (nI s) (nI i) σ = some σ' → ∃ nK', nK ≤ nK' ∧ j_J σ' M pd h nC nS nK' := by
  intro d
  induction d with
  | zero =>
    intro i n nK σ σ' hi H h9 hf
    obtain ⟨⟨a0, a3, a4, a5, a6, a7, a8, a9⟩, -⟩ := id H
    cases n with
    | zero => cases hf
    | succ n =>
    rw [f_X5_publish_30, a4] at hf
    replace hf := ed_ip (show nI nC ≤ nI i by rw [pr_le (by omega) (by omega)]; omega) hf
    obtain rfl := Option.some.inj hf
    exact ⟨nK, Nat.le_refl _, H⟩
  | succ d ih =>
    intro i n nK σ σ' hi H h9 hf
    obtain ⟨⟨a0, a3, a4, a5, a6, a7, a8, a9⟩, -⟩ := id H
    cases n with
    | zero => cases hf
    | succ n =>
    rw [f_X5_publish_30, pr_clientAt a4 a6 (show i < nC by omega), pr_b, a4] at hf
    replace hf := ed_in_ (show ¬ nI nC ≤ nI i by rw [pr_le (by omega) (by omega)]; omega) hf
    replace hf : ed_g (i < 8) _ = some σ' := hf
    obtain ⟨-, hf⟩ := ed_g_e hf
    rw [nI_1] at hf
    split at hf
    · exact ih (i + 1) n nK σ σ' (by omega) H h9 hf
    · obtain ⟨σ8, e8, hf⟩ := ed_b_e hf
      obtain ⟨nK1, g1, g2, g3⟩ := j_plan H hs (show i < nC by omega) (by rw [h9]; exact pr_neg h (by omega)) (by rw [a0, h9]) e8
      obtain ⟨nK2, g4, g5⟩ := ih (i + 1) n nK1 σ8 σ' (by omega) g2 (by rw [g3 7 (by decide) (by decide)]; exact h9) hf
      exact ⟨nK2, by omega, g5⟩
theorem j_publish {σ σ' : ed_SM} {M pd : Int} {h nC nS nK s : Nat} (H : j_J σ M pd h nC nS nK) (hs : s < nS) (h6 : σ 7 s 6 = 1) (hf : f_X5_publish s (nI s) σ = some σ') : ∃ nK', nK ≤ nK' ∧ j_J σ' M pd h nC nS nK' := by
  obtain ⟨⟨a0, a3, a4, a5, a6, a7, a8, a9⟩, C, P, S, K, m1, m2, m3⟩ := id H
  unfold f_X5_publish at hf
  obtain ⟨σ1, e1, hf⟩ := ed_t_e hf
  obtain ⟨σ2, e2, hf⟩ := ed_t_e hf
  obtain ⟨σ3, e3, hf⟩ := ed_b_e hf
  have r2 : ∀ i k, σ2 7 i k = if i = s ∧ k = 9 then nI h else if i = s ∧ k = 6 then 2 else σ 7 i k := fun i k => by
    rw [e2, e1]
    simp [pr_up, a0]
  have k2 : ∀ K, K ≠ 7 → σ2 K = σ K := fun K hK => by
    rw [e2, e1]
    funext i
    rw [pr_up_K _ _ hK, pr_up_K _ _ hK]
  have h9 : σ 7 s 9 = -5 := (S s hs).2.2.2.2.2.2 (Or.inr h6)
  have eg : j_g σ2 = j_g σ := by unfold j_g; rw [k2 13 (by decide)]
  have eo : j_o σ2 = j_o σ := by unfold j_o; rw [k2 11 (by decide)]
  have H2 : j_J σ2 M pd h nC nS nK := by
    refine ⟨by unfold j_H; rw [k2 0 (by decide)]; exact ⟨a0, a3, a4, a5, a6, a7, a8, a9⟩, fun i hi => ?_, fun q hq => ?_, fun t ht => ?_, fun p hp => ?_, by rw [eg, eo]; exact m1, by rw [eg]; exact m2, m3⟩
    · unfold j_C1; rw [k2 11 (by decide)]; exact C i hi
    · rw [k2 13 (by decide)]; exact P q hq
    · obtain ⟨s1, s2, s3, s4, s5, s6, s7⟩ := S t ht
      by_cases hts : t = s
      · subst hts
        have z : ∀ k, k ≠ 9 → k ≠ 6 → σ2 7 t k = σ 7 t k := fun k h1 h2 => by rw [r2, if_neg (by omega), if_neg (by omega)]
        have z9 : σ2 7 t 9 = nI h := by rw [r2, if_pos ⟨rfl, rfl⟩]
        have z6 : σ2 7 t 6 = 2 := by rw [r2, if_neg (by omega), if_pos ⟨rfl, rfl⟩]
        unfold j_S1
        rw [z 1 (by decide) (by decide), z 7 (by decide) (by decide), z9, z6, k2 8 (by decide)]
        refine ⟨s1, s2, s3, by decide, by decide, Or.inr (by rw [nI_toInt (by omega)]; omega), fun q => ?_⟩
        rcases q with q | q <;> exact absurd q (by decide)
      · have z : ∀ k, σ2 7 t k = σ 7 t k := fun k => by rw [r2, if_neg (by omega), if_neg (by omega)]
        unfold j_S1
        rw [z, z, z, z, k2 8 (by decide)]
        exact ⟨s1, s2, s3, s4, s5, s6, s7⟩
    · obtain ⟨t, c, b1, b2, b3, b4, b5, b6, b7⟩ := K p hp
      have hts : t ≠ s := fun q => b5 (by rw [q]; exact h9)
      have z : ∀ k, σ2 7 t k = σ 7 t k := fun k => by rw [r2, if_neg (by omega), if_neg (by omega)]
      refine ⟨t, c, b1, b2, ?_⟩
      rw [z, z, k2 11 (by decide), k2 12 (by decide)]
      exact ⟨b3, b4, b5, b6, b7⟩
  have k3 := j_add e3
  exact j_pub30 hs nC 0 ed_N nK σ3 σ' (by omega) (H2.lg k3) (by rw [k3 7 (by decide) (by decide), r2, if_pos ⟨rfl, rfl⟩]) hf
theorem j_loopS {M pd : Int} {h nC nS : Nat} (hM : M + 1600001 ≤ 2000000000) : ∀ (d i n nK : Nat) (σ σ' : ed_SM), i + d = nS → j_J σ M pd h nC nS nK → f_X5_passHour_26 n (nI i) σ = some σ' → ∃ nK', nK ≤ nK' ∧ j_J σ' (M + 1600000) pd h nC nS nK' := by
  intro d
  induction d with
  | zero =>
    intro i n nK σ σ' hi H hf
    obtain ⟨⟨a0, a3, a4, a5, a6, a7, a8, a9⟩, -⟩ := id H
    cases n with
    | zero => cases hf
    | succ n =>
    rw [f_X5_passHour_26, a3] at hf
    replace hf := ed_ip (show nI nS ≤ nI i by rw [pr_le (by omega) (by omega)]; omega) hf
    exact ⟨nK, Nat.le_refl _, (j_loopK nK 0 ed_N M σ σ' (by omega) H (by omega) hf).mono (by omega)⟩
  | succ d ih =>
    intro i n nK σ σ' hi H hf
    obtain ⟨⟨a0, a3, a4, a5, a6, a7, a8, a9⟩, -⟩ := id H
    cases n with
    | zero => cases hf
    | succ n =>
    rw [f_X5_passHour_26, pr_storyAt a3 a7 (show i < nS by omega), pr_b, a3] at hf
    replace hf := ed_in_ (show ¬ nI nS ≤ nI i by rw [pr_le (by omega) (by omega)]; omega) hf
    replace hf : ed_g (i < 20) _ = some σ' := hf
    obtain ⟨-, hf⟩ := ed_g_e hf
    rw [nI_1] at hf
    split at hf
    · rename_i h6
      split at hf
      · exact ih (i + 1) n nK σ σ' (by omega) H hf
      · obtain ⟨σ12, e12, hf⟩ := ed_b_e hf
        obtain ⟨nK1, g1, g2⟩ := j_publish H (by omega) h6 e12
        obtain ⟨nK2, g3, g4⟩ := ih (i + 1) n nK1 σ12 σ' (by omega) g2 hf
        exact ⟨nK2, by omega, g4⟩
    · exact ih (i + 1) n nK σ σ' (by omega) H hf
theorem j_day {M pd : Int} {h nC nS nK : Nat} : ∀ (d i n : Nat) (σ σ' : ed_SM), i + d = nC → j_J σ M pd h nC nS nK → f_X5_startDay_2 n (nI i) σ = some σ' → j_J σ' M pd h nC nS nK := by
  intro d
  induction d with
  | zero =>
    intro i n σ σ' hi H hf
    obtain ⟨⟨a0, a3, a4, a5, a6, a7, a8, a9⟩, -⟩ := id H
    cases n with
    | zero => cases hf
    | succ n =>
    rw [f_X5_startDay_2, a4] at hf
    replace hf := ed_ip (show nI nC ≤ nI i by rw [pr_le (by omega) (by omega)]; omega) hf
    obtain rfl := Option.some.inj hf
    exact H
  | succ d ih =>
    intro i n σ σ' hi H hf
    obtain ⟨⟨a0, a3, a4, a5, a6, a7, a8, a9⟩, C, P, S, K, m1, m2, m3⟩ := id H
    cases n with
    | zero => cases hf
    | succ n =>
    rw [f_X5_startDay_2, pr_clientAt a4 a6 (show i < nC by omega), pr_b, a4] at hf
    replace hf := ed_in_ (show ¬ nI nC ≤ nI i by rw [pr_le (by omega) (by omega)]; omega) hf
    replace hf : ed_g (i < 8) _ = some σ' := hf
    obtain ⟨-, hf⟩ := ed_g_e hf
    obtain ⟨σ3, e3, hf⟩ := ed_t_e hf
    rw [nI_1] at hf
    have f3 : ∀ k, σ3 11 i k = if k = 7 then 0 else σ 11 i k := fun k => by rw [e3]; simp [pr_up]
    have H3 : j_J σ3 M pd h nC nS nK := by
      refine H.C (c := i) (fun K hK => by rw [e3]; funext q; rw [pr_up_K _ _ hK]) (fun q hq => by rw [e3, pr_up_i _ _ hq]) (f3 1) (fun hic => ?_) (Int.le_refl _) ?_ m3
      · obtain ⟨c1, c2, c3, c4, c5, c6, c7, c8, c9, c10, c11, c12, c13, c14⟩ := C i hic
        unfold j_C1
        rw [f3 5, f3 1, f3 2, f3 3, f3 4, f3 6, f3 7, f3 8, f3 9]
        have z : (0 : Int32).toInt = 0 := by decide
        simp only [show ((7 : Nat) = 7) = True from eq_self 7, if_true, show ((5 : Nat) = 7) = False by decide, show ((1 : Nat) = 7) = False by decide, show ((2 : Nat) = 7) = False by decide, show ((3 : Nat) = 7) = False by decide, show ((4 : Nat) = 7) = False by decide, show ((6 : Nat) = 7) = False by decide, show ((8 : Nat) = 7) = False by decide, show ((9 : Nat) = 7) = False by decide, if_false, z]
        exact ⟨c1, c2, c3, c4, c5, c6, c7, c8, c9, by omega, by omega, by omega, c13, c14⟩
      · have eo : j_o σ3 = j_o σ := by
          funext q
          unfold j_o
          rw [e3, pr_up, if_neg (by omega)]
        rw [eo]
        exact m1
    exact ih (i + 1) n σ3 σ' (by omega) H3 hf
theorem j_hour {σ σ' : ed_SM} {M pd : Int} {h nC nS nK : Nat} (H : j_J σ M pd h nC nS nK) (hM : M + 1600001 ≤ 2000000000) (hh : h + 1 ≤ 9999) (hf : f_X5_passHour σ = some σ') : ∃ nK', nK ≤ nK' ∧ j_J σ' (M + 1600000) pd (h + 1) nC nS nK' := by
  obtain ⟨⟨a0, a3, a4, a5, a6, a7, a8, a9⟩, C, P, S, K, m1, m2, m3⟩ := id H
  unfold f_X5_passHour at hf
  obtain ⟨σ1, e1, hf⟩ := ed_t_e hf
  rw [a0, nI_1] at e1
  have k1 : ∀ K, K ≠ 0 → σ1 K = σ K := fun K hK => by rw [e1]; funext i; rw [pr_up_K _ _ hK]
  have z1 : ∀ k, k ≠ 0 → σ1 0 0 k = σ 0 0 k := fun k hk => by rw [e1, pr_up_k _ _ hk]
  have eg : j_g σ1 = j_g σ := by unfold j_g; rw [k1 13 (by decide)]
  have eo : j_o σ1 = j_o σ := by unfold j_o; rw [k1 11 (by decide)]
  have H1 : j_J σ1 M pd (h + 1) nC nS nK := by
    refine ⟨⟨by rw [e1, pr_up_same], by rw [z1 3 (by decide)]; exact a3, by rw [z1 4 (by decide)]; exact a4, by rw [z1 5 (by decide)]; exact a5, a6, a7, a8, hh⟩, fun i hi => ?_, fun q hq => ?_, fun t ht => ?_, fun p hp => ?_, by rw [eg, eo]; exact m1, by rw [eg]; exact m2, m3⟩
    · unfold j_C1; rw [k1 11 (by decide)]; exact C i hi
    · rw [k1 13 (by decide)]; exact P q hq
    · obtain ⟨s1, s2, s3, s4, s5, s6, s7⟩ := S t ht
      unfold j_S1
      rw [k1 7 (by decide), k1 8 (by decide)]
      refine ⟨s1, s2, s3, s4, s5, ?_, s7⟩
      rcases s6 with q | ⟨q1, q2⟩
      · exact Or.inl q
      · exact Or.inr ⟨q1, by omega⟩
    · unfold j_K1; rw [k1 7 (by decide), k1 11 (by decide), k1 12 (by decide)]; exact K p hp
  split at hf
  · obtain ⟨σ13, e13, hf⟩ := ed_b_e hf
    exact j_loopS hM nS 0 ed_N nK σ13 σ' (by omega) (j_day nC 0 ed_N σ1 σ13 (by omega) H1 e13) hf
  · exact j_loopS hM nS 0 ed_N nK σ1 σ' (by omega) H1 hf
