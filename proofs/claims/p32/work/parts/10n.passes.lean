/-! Hours that pass, what was imagined of them, and what came. -/
theorem i_1 (a b t : Int32) : a - t + b = a + b - t := by
  rw [Int32.sub_eq_add_neg, Int32.sub_eq_add_neg, Int32.add_assoc, Int32.add_comm (-t) b, ← Int32.add_assoc]
theorem i_2 (a b : Int32) : a + (b - a) = b := by
  rw [Int32.add_comm, Int32.sub_add_cancel]
theorem j_G.im {μ : ed_CM} {M pd : Int} {h nC nS nK : Nat} (G : j_G μ M pd h nC nS nK) (σ : ed_SM) : j_G (ed_sJ μ 1 σ) M pd h nC nS nK := by
  obtain ⟨⟨ν, hR⟩, H⟩ := G
  exact ⟨⟨ν, hR.im (fun j hj => ed_sJ_ne _ _ hj) (fun _ _ _ => rfl) (fun _ _ => rfl)⟩, by rw [ed_sJ_ne μ σ (show 0 ≠ 1 by decide)]; exact H⟩
theorem l_156 {μ : ed_CM} {w : Nat → Int32} {M pd : Int} {h nC nS nK : Nat} (G : j_G μ M pd h nC nS nK) (hX : r_R (μ 0) w h nC nS nK 160) (T x2 x3 x5 x6 x7 x8 x9 : Int32) {R : Option (Int32 × ed_CM)} (hR : (if r_sum w nC - T = r_sum w nC - T then ed_b (f_X8_client x3 8 μ) (fun r21 => (if r21 = (x8 + x7) then (if x9 < x2 then f_L_passes_228 x2 x5 x6 x9 μ else ed_b2 (f_X8_carriedIn x5 x6 μ) (fun r29 μ29 => (if r29 = (x9 - x2) then f_L_passes_228 x2 x5 x6 x9 μ29 else some (0, μ29)))) else some (0, μ))) else some (0, μ)) = R) : ∀ (d i n : Nat), i + d = nC → d < n → f_L_passes_156 n x2 x3 x5 x6 x7 x8 x9 (r_sum w i - T) (r_sum w nC - T) (nI i) μ = R := by
  obtain ⟨⟨a0, a3, a4, a5, a6, a7, a8, a9⟩, -⟩ := id G.2
  intro d
  induction d with
  | zero =>
    intro i n hi hn
    obtain ⟨n, rfl⟩ : ∃ q, n = q + 1 := ⟨n - 1, by omega⟩
    have e : i = nC := by omega
    subst e
    rw [f_L_passes_156, q_count1, pr_b, a4, if_pos (show nI i ≤ nI i by rw [pr_le (by omega) (by omega)]; omega)]
    exact hR
  | succ d ih =>
    intro i n hi hn
    obtain ⟨n, rfl⟩ : ∃ q, n = q + 1 := ⟨n - 1, by omega⟩
    have hi' : i < nC := by omega
    have e8 : μ 0 11 i 8 = w (7 + 10 * i + 8) := hX.2.1.1 i 8 hi' (by omega)
    rw [f_L_passes_156, q_count1, pr_b, a4, if_neg (show ¬ nI nC ≤ nI i by rw [pr_le (by omega) (by omega)]; omega), q_client8 a4 a6 hi', pr_b, e8, i_1, nI_1]
    exact ih (i + 1) n (by omega) (by omega)
theorem l_117 {μ : ed_CM} {v : Nat → Int32} {M pd : Int} {h nC nS nK : Nat} (G : j_G μ M pd h nC nS nK) (hX : r_R (μ 0) v h nC nS nK 160) (x2 x3 x5 x6 x7 x8 x9 : Int32) {R : Option (Int32 × ed_CM)} (hR : ed_b2 (f_X8_pass x2 μ) (fun r17 μ17 => (f_L_passes_156 ed_N x2 x3 x5 x6 x7 x8 x9 (0 - r_sum v nC) r17 0 μ17)) = R) : ∀ (d i n : Nat), i + d = nC → d < n → f_L_passes_117 n x2 x3 x5 x6 x7 x8 x9 (0 - r_sum v i) (nI i) μ = R := by
  obtain ⟨⟨a0, a3, a4, a5, a6, a7, a8, a9⟩, -⟩ := id G.2
  intro d
  induction d with
  | zero =>
    intro i n hi hn
    obtain ⟨n, rfl⟩ : ∃ q, n = q + 1 := ⟨n - 1, by omega⟩
    have e : i = nC := by omega
    subst e
    rw [f_L_passes_117, q_count1, pr_b, a4, if_pos (show nI i ≤ nI i by rw [pr_le (by omega) (by omega)]; omega)]
    exact hR
  | succ d ih =>
    intro i n hi hn
    obtain ⟨n, rfl⟩ : ∃ q, n = q + 1 := ⟨n - 1, by omega⟩
    have hi' : i < nC := by omega
    have e8 : μ 0 11 i 8 = v (7 + 10 * i + 8) := hX.2.1.1 i 8 hi' (by omega)
    rw [f_L_passes_117, q_count1, pr_b, a4, if_neg (show ¬ nI nC ≤ nI i by rw [pr_le (by omega) (by omega)]; omega), q_client8 a4 a6 hi', pr_b, e8, Int32.sub_sub, nI_1]
    exact ih (i + 1) n (by omega) (by omega)
/-- the hours, with what was imagined ahead of them -/
theorem l_111 {μ : ed_CM} {ν : em_MM} {M pd : Int} {h nC nS nK m c : Nat} (G : j_G μ M pd h nC nS nK) (hR : r_REL μ ν) {v : Nat → Int32} (hX : r_R (μ 0) v h nC nS nK 160) (hm : 1 ≤ m ∧ m ≤ 9) (hh : h + m ≤ 9999) (hM : M + 1600000 * m + 1 ≤ 2000000000) (hc : c < nC) (x5 x6 x9 : Int32)
    (h9 : (x9 = -5) ∨ ∃ p s c', p < nK ∧ s < nS ∧ v (687 + 6 * p) = nI s ∧ v (687 + 6 * p + 1) = nI c' ∧ x5 = nI s ∧ x6 = nI c' ∧ x9 = j_car p s 100 0 v) :
    ∃ μ' nK', f_L_passes_111 (nI m) (nI c) x5 x6 (hvn m v (7 + 10 * c + 8) - v (7 + 10 * c + 8)) (v (7 + 10 * c + 8)) x9 μ = some (1, μ') ∧ j_G μ' (M + 1600000 * m) pd (h + m) nC nS nK' := by
  obtain ⟨μ17, nK', p1, p2, p3, p4, p5⟩ := g_pass G hR hX ⟨hm.1, by omega⟩ hh hM
  obtain ⟨⟨a0, a3, a4, a5, a6, a7, a8, a9⟩, -⟩ := id p2.2
  have e8 : μ17 0 11 c 8 = hvn m v (7 + 10 * c + 8) := p3.2.1.1 c 8 hc (by omega)
  have t0 : ¬ nI m < 0 := nI_pos (by omega)
  have dead : ∀ x, x = -5 → f_L_passes_228 (nI m) x5 x6 x μ17 = some (1, μ17) := fun x hx => by
    unfold f_L_passes_228
    rw [hx, if_pos (by decide)]
  have lt5 : (-5 : Int32) < nI m := by
    rw [pr_iLt, nI_toInt (by omega), show (-5 : Int32).toInt = -5 by decide]
    omega
  have main : ∃ μ', (if x9 < nI m then f_L_passes_228 (nI m) x5 x6 x9 μ17 else ed_b2 (f_X8_carriedIn x5 x6 μ17) (fun r29 μ29 => (if r29 = (x9 - nI m) then f_L_passes_228 (nI m) x5 x6 x9 μ29 else some (0, μ29)))) = some (1, μ') ∧ j_G μ' (M + 1600000 * m) pd (h + m) nC nS nK' := by
    rcases h9 with h9 | ⟨p, s, c', hp, hs, k0, k1, e5, e6, h9⟩
    · rw [h9, if_pos lt5]
      exact ⟨μ17, dead _ rfl, p2⟩
    · rcases j_least (fun j => j_cd p s (hvn j v)) 100 with ⟨j, hj, c1, c2⟩ | hno
      · have h9 : x9 = nI j := by rw [h9, j_car_hit p s 100 0 j v hj c1 c2, Nat.zero_add]
        subst h9
        by_cases hjm : j < m
        · rw [if_pos (by rw [pr_lt (by omega) (by omega)]; exact hjm)]
          refine ⟨μ17, ?_, p2⟩
          unfold f_L_passes_228
          rw [if_neg (nI_pos (by omega)), if_neg (by rw [pr_eq (by omega) (by omega)]; omega)]
        · rw [if_neg (by rw [pr_lt (by omega) (by omega)]; exact hjm)]
          obtain ⟨q0, q1⟩ := p5 p hp
          have hit : ∀ i, j_cd p s (hvn i (hvn m v)) ↔ j_cd p s (hvn (m + i) v) := fun i => by rw [hvn_add]
          have g1 : j_car p s 100 0 (hvn m v) = nI (j - m) := by
            have := j_car_hit p s 100 0 (j - m) (hvn m v) (by omega) ((hit (j - m)).mpr (by rw [show m + (j - m) = j by omega]; exact c1)) (fun i hi w => c2 (m + i) (by omega) ((hit i).mp w))
            rw [this, Nat.zero_add]
          obtain ⟨σ', g2⟩ := j_carried p3 (by omega) (show p < nK' by omega) hs (q0.trans k0) (q1.trans k1)
          rw [e5, e6, g2, pr_b2, g1, pk_sub (by omega), if_pos rfl]
          refine ⟨ed_sJ μ17 1 σ', ?_, p2.im σ'⟩
          unfold f_L_passes_228
          rw [if_neg (nI_pos (by omega))]
          by_cases hjm2 : j = m
          · subst hjm2
            have z0 : ed_sJ μ17 1 σ' 0 = μ17 0 := ed_sJ_ne μ17 σ' (by decide)
            have v5 : μ17 0 12 p 5 = hvn j v (687 + 6 * p + 5) := p3.2.2.2.2.1.1 p 5 (by omega) (by omega)
            have v7 : μ17 0 7 s 7 = hvn j v (107 + 29 * s + 7) := (p3.2.2.2.1 s hs).1.2.2.2.2.2.1
            rw [if_pos rfl, q_copy3 (show p < 160 by omega) (by rw [z0]; exact j_find p3 (show p < nK' by omega) (q0.trans k0) (q1.trans k1)), pr_b, q_story4 (by rw [z0]; exact a3) a7 hs, pr_b, z0, v5, v7, if_pos c1.2]
          · rw [if_neg (by rw [pr_eq (by omega) (by omega)]; omega)]
      · have h9 : x9 = -5 := by rw [h9, j_car_none p s 100 0 v hno]
        rw [h9, if_pos lt5]
        exact ⟨μ17, dead _ rfl, p2⟩
  obtain ⟨μ', m1, m2⟩ := main
  refine ⟨μ', nK', ?_, m2⟩
  have inner := l_156 p2 p3 (r_sum v nC) (nI m) (nI c) x5 x6 (hvn m v (7 + 10 * c + 8) - v (7 + 10 * c + 8)) (v (7 + 10 * c + 8)) x9 rfl nC 0 ed_N (by omega) (by unfold ed_N; omega)
  rw [if_pos rfl, q_client8 a4 a6 hc, pr_b, e8, i_2, if_pos rfl, m1, show r_sum (hvn m v) 0 = 0 from rfl, show nI 0 = (0 : Int32) from rfl] at inner
  have outer := l_117 G hX (nI m) (nI c) x5 x6 (hvn m v (7 + 10 * c + 8) - v (7 + 10 * c + 8)) (v (7 + 10 * c + 8)) x9 rfl nC 0 ed_N (by omega) (by unfold ed_N; omega)
  rw [p1, pr_b2, show r_sum v 0 = 0 from rfl, Int32.sub_zero, show nI 0 = (0 : Int32) from rfl] at outer
  unfold f_L_passes_111
  rw [outer]
  exact inner
theorem l_passes {μ : ed_CM} {M pd : Int} {h nC nS nK y : Nat} (G : j_G μ M pd h nC nS nK) (hC : 2 ≤ nC) (hy : y < 2 ^ 31) (hh : h + 9 ≤ 9999) (hM : M + 1600000 * 9 + 1 ≤ 2000000000) : ∃ μ' m nK', f_L_passes (nI y) μ = some (1, μ') ∧ m ≤ 9 ∧ j_G μ' (M + 1600000 * (m : Nat)) pd (h + m) nC nS nK' := by
  obtain ⟨ν, hR, hX⟩ := G.R
  obtain ⟨⟨a0, a3, a4, a5, a6, a7, a8, a9⟩, -⟩ := id G.2
  have s4 : nI y >>> ((4 : Int32) &&& 31) = nI (y / 2 ^ 4) := pk_shrN hy _ 4 (by decide)
  have s7 : nI y >>> ((7 : Int32) &&& 31) = nI (y / 2 ^ 7) := pk_shrN hy _ 7 (by decide)
  have b4 : y / 2 ^ 4 < 2 ^ 31 := Nat.lt_of_le_of_lt (Nat.div_le_self _ _) hy
  have b7 : y / 2 ^ 7 < 2 ^ 31 := Nat.lt_of_le_of_lt (Nat.div_le_self _ _) hy
  have em : (1 : Int32) + (nI y - nI y / 9 * 9) = nI (1 + y % 9) := by
    rw [show (9 : Int32) = nI 9 from rfl, pk_rem hy (by omega) (by omega), show (1 : Int32) = nI 1 from rfl, nI_add]
  obtain ⟨m, hm⟩ : ∃ m, 1 + y % 9 = m := ⟨_, rfl⟩
  rw [hm] at em
  have hm1 : 1 ≤ m ∧ m ≤ 9 := by omega
  obtain ⟨c, hc⟩ : ∃ c, (y / 2 ^ 4) % nC = c := ⟨_, rfl⟩
  have hcn : c < nC := by rw [← hc]; exact Nat.mod_lt _ (by omega)
  have ec : nI (y / 2 ^ 4) - nI (y / 2 ^ 4) / nI nC * nI nC = nI c := by rw [pk_rem b4 (by omega) (by omega), hc]
  obtain ⟨σ1, w1⟩ := j_would (μ := μ) (c := c) (m := m) hX (by omega) hcn ⟨hm1.1, by omega⟩
  have e8 : μ 0 11 c 8 = ν 1 (7 + 10 * c + 8) := hX.2.1.1 c 8 hcn (by omega)
  have z1 : ed_sJ μ 1 σ1 0 = μ 0 := ed_sJ_ne μ σ1 (by decide)
  unfold f_L_passes
  rw [em, pr_t, q_count1, pr_b, a4, pr_g (nI_ne0 (by omega) (by omega)), s4, ec, pr_t, q_count3, pr_b, a5]
  by_cases hK : nK = 0
  · have k0 : nI nK = 0 := by rw [hK]; rfl
    rw [if_pos k0]
    unfold f_L_passes_49
    rw [if_pos k0]
    unfold f_L_passes_74
    rw [w1, pr_b2, q_client8 (by rw [z1]; exact a4) a6 hcn, pr_b, z1, e8, if_pos k0]
    obtain ⟨μ', nK', y1, y2⟩ := l_111 (G.im σ1) (hR.im (fun j hj => ed_sJ_ne _ _ hj) (fun _ _ _ => rfl) (fun _ _ => rfl)) (v := ν 1) (by rw [z1]; exact hX) hm1 (by omega) (by omega) hcn (-1) (-1) (-5) (Or.inl rfl)
    exact ⟨μ', m, nK', y1, hm1.2, y2⟩
  · have k0 : ¬ nI nK = 0 := nI_ne0 (by omega) (by omega)
    obtain ⟨p, hp⟩ : ∃ p, (y / 2 ^ 7) % nK = p := ⟨_, rfl⟩
    have hpn : p < nK := by rw [← hp]; exact Nat.mod_lt _ (by omega)
    have ep : nI (y / 2 ^ 7) - nI (y / 2 ^ 7) / nI nK * nI nK = nI p := by rw [pk_rem b7 (by omega) (by omega), hp]
    obtain ⟨s, c', F⟩ := l_at G.2 hX hpn
    obtain ⟨-, -, ⟨-, hs, hc'⟩, f0, f1, -⟩ := F
    have eat : f_X8_copyAt (nI p) μ = some (nI (10 * s + c')) := by
      rw [q_copyAt a5 a8 hpn, f0, f1, show (10 : Int32) = nI 10 from rfl, pk_mul, nI_add]
    have d1 : nI (10 * s + c') / 10 = nI s := by
      rw [show (10 : Int32) = nI 10 from rfl, pk_div (by omega) (by omega) (by omega), show (10 * s + c') / 10 = s by omega]
    have d2 : nI (10 * s + c') - nI (10 * s + c') / 10 * 10 = nI c' := by
      rw [show (10 : Int32) = nI 10 from rfl, pk_rem (by omega) (by omega) (by omega), show (10 * s + c') % 10 = c' by omega]
    have v0 : ν 1 (687 + 6 * p) = nI s := (hX.2.2.2.2.1.1 p 0 hpn (by omega)).symm.trans f0
    have v1 : ν 1 (687 + 6 * p + 1) = nI c' := (hX.2.2.2.2.1.1 p 1 hpn (by omega)).symm.trans f1
    obtain ⟨σ2, w2⟩ := j_carried (μ := ed_sJ μ 1 σ1) (v := ν 1) (by rw [z1]; exact hX) (by omega) hpn hs v0 v1
    rw [if_neg k0, pr_g k0, s7, ep, eat, pr_b]
    unfold f_L_passes_49
    rw [if_neg k0, pr_g k0, s7, ep, eat, pr_b, d2, d1, pr_t]
    unfold f_L_passes_74
    rw [w1, pr_b2, q_client8 (by rw [z1]; exact a4) a6 hcn, pr_b, z1, e8, if_neg k0, w2, pr_b2]
    have z2 : ed_sJ (ed_sJ μ 1 σ1) 1 σ2 0 = μ 0 := by rw [ed_sJ_ne _ σ2 (by decide), z1]
    obtain ⟨μ', nK', y1, y2⟩ := l_111 ((G.im σ1).im σ2) ((hR.im (fun j hj => ed_sJ_ne _ _ hj) (fun _ _ _ => rfl) (fun _ _ => rfl)).im (fun j hj => ed_sJ_ne _ _ hj) (fun _ _ _ => rfl) (fun _ _ => rfl)) (v := ν 1) (by rw [z2]; exact hX) hm1 (by omega) (by omega) hcn (nI s) (nI c') (j_car p s 100 0 (ν 1)) (Or.inr ⟨p, s, c', hpn, hs, v0, v1, rfl, rfl, rfl⟩)
    exact ⟨μ', m, nK', y1, hm1.2, y2⟩
