/-! an hour: a copy, put together -/
theorem pr_gN {β : Type} {n m : Nat} {i : Decidable (ed_in (OfNat.ofNat n : Int32) m)} {k : Option β} (ha : n < 2 ^ 31) (h : n < m) : @ed_g β (ed_in (OfNat.ofNat n : Int32) m) i k = k := pr_g (pr_in ha h)
/-- how many copies came: the totals -/
def r_sum (v : Nat → Int32) : Nat → Int32
  | 0 => 0
  | n + 1 => r_sum v n + v (7 + 10 * n + 8)
theorem r_sum_T {v v' : Nat → Int32} (h : r_T v v') : ∀ n, n ≤ 8 → r_sum v' n = r_sum v n
  | 0, _ => rfl
  | n + 1, hn => by
    show r_sum v' n + _ = r_sum v n + _
    rw [r_sum_T h n (by omega), h n (by omega)]
theorem r_sum_1 {v v' : Nat → Int32} {c : Nat} (h : ∀ a, a < 8 → v' (7 + 10 * a + 8) = v (7 + 10 * a + 8) + (if a = c then 1 else 0)) : ∀ n, n ≤ 8 → r_sum v' n = r_sum v n + (if c < n then 1 else 0)
  | 0, _ => by
    rw [if_neg (by omega)]
    exact (Int32.add_zero _).symm
  | n + 1, hn => by
    show r_sum v' n + v' (7 + 10 * n + 8) = r_sum v n + v (7 + 10 * n + 8) + _
    rw [r_sum_1 h n (by omega), h n (by omega)]
    by_cases h1 : n = c
    · subst h1
      rw [if_neg (by omega), if_pos rfl, if_pos (by omega), Int32.add_zero, Int32.add_assoc]
    · by_cases h2 : c < n
      · rw [if_pos h2, if_neg h1, if_pos (by omega), Int32.add_zero, Int32.add_assoc, Int32.add_comm 1, ← Int32.add_assoc]
      · rw [if_neg h2, if_neg h1, if_neg (by omega), Int32.add_zero, Int32.add_zero, Int32.add_zero]
def r_go (ν : em_MM) (σ : ed_SM) (v : Nat → Int32) (h nC nS nK : Nat) (A : Option ed_SM) (Bq : Option (Int32 × em_MM)) (c0 : Int32) : Prop := ∃ σ' v' came, A = some σ' ∧ Bq = some (came, em_sR ν 1 v') ∧ r_R σ' v' h nC nS nK 160 ∧ r_fr v v' nK ∧ r_sum v' nC + c0 = r_sum v nC + came
theorem r_go.of75 {ν : em_MM} {σ : ed_SM} {v : Nat → Int32} {h nC nS nK p s c : Nat} (hR : r_R σ v h nC nS nK 160) (hp : p < nK) (hs : s < nS) (hc : c < nC) (k0 : v (687 + 6 * p) = nI s) (k1 : v (687 + 6 * p + 1) = nI c) (dd : Int32) (hdd : dd = if v (107 + 29 * s + 6) = 3 then 1 else 0) : r_go ν σ v h nC nS nK (f_X5_moveOn_75 p s c σ) (f_X9_goOn_200 (nI p) (nI s) (nI c) dd 0 (em_sR ν 1 v)) 0 := by
  obtain ⟨σ', v', a1, a2, a3, a4, a5⟩ := r_75 ν hR hp hs hc k0 k1 dd 0 hdd
  have b1 : nC ≤ 8 := hR.1.2.2.2.2.2.2.2.2.2.2.1
  exact ⟨σ', v', 0, a1, a2, a3, a4, by rw [r_sum_T a5 nC b1]⟩
theorem r_go60 (ν : em_MM) {σ : ed_SM} {v : Nat → Int32} {h nC nS nK p s c : Nat} (hR : r_R σ v h nC nS nK 160) (hp : p < nK) (hs : s < nS) (hc : c < nC) (k0 : v (687 + 6 * p) = nI s) (k1 : v (687 + 6 * p + 1) = nI c) (dd : Int32) (hdd : dd = if v (107 + 29 * s + 6) = 3 then 1 else 0) : r_go ν σ v h nC nS nK (if (σ 12 p 2) = 0 then (if (σ 0 0 0) < (σ 12 p 3) then f_X5_moveOn_75 p s c σ else (if (f_X0_canGetCopy c σ) = 0 then f_X5_moveOn_75 p s c σ else ed_b (f_X5_startUse p s c σ) (fun σ17 => (f_X5_moveOn_75 p s c σ17)))) else f_X5_moveOn_75 p s c σ) (f_X9_goOn_60 (nI p) (nI s) (nI c) dd 0 (em_sR ν 1 v)) 0 := by
  obtain ⟨⟨q1, q2, q3, q4, q5, q6, q7, q8, q9, q10, b1, b2, b3, b4⟩, qC, qP, qS, qK, qL, qN⟩ := id hR
  have x2 := qK.1 p 2 hp (by omega)
  have x3 := qK.1 p 3 hp (by omega)
  have y5 := qC.1 c 5 hc (by omega)
  have y7 := qC.1 c 7 hc (by omega)
  have y3 := qC.1 c 3 hc (by omega)
  have o2 : f_X9_ofCopy (nI p) 2 (em_sR ν 1 v) = some (v (687 + 6 * p + 2)) := pr_k ν v (by omega) 2 (by omega)
  have o3 : f_X9_ofCopy (nI p) 3 (em_sR ν 1 v) = some (v (687 + 6 * p + 3)) := pr_k ν v (by omega) 3 (by omega)
  have c5 : f_X9_ofClient (nI c) 5 (em_sR ν 1 v) = some (v (7 + 10 * c + 5)) := pr_c ν v (by omega) 5 (by omega)
  have c7 : f_X9_ofClient (nI c) 7 (em_sR ν 1 v) = some (v (7 + 10 * c + 7)) := pr_c ν v (by omega) 7 (by omega)
  have c3 : f_X9_ofClient (nI c) 3 (em_sR ν 1 v) = some (v (7 + 10 * c + 3)) := pr_c ν v (by omega) 3 (by omega)
  have g0 : ed_in 0 1683 := ⟨by decide, by decide⟩
  have e0 : (0 : Int32).toNatClampNeg = 0 := by decide
  have v0 : em_sR ν 1 v 1 (0 : Int32).toNatClampNeg = nI h := by rw [pr_sR1, e0, q2]
  have base := r_go.of75 (ν := ν) hR hp hs hc k0 k1 dd hdd
  unfold f_X9_goOn_60
  rw [x2, o2, pr_b]
  by_cases h1 : v (687 + 6 * p + 2) = 0
  · rw [if_pos h1, if_pos h1, x3, pr_g g0, o3, pr_b, q1, v0]
    by_cases h2 : nI h < v (687 + 6 * p + 3)
    · rw [if_pos h2, if_pos h2]; exact base
    · rw [if_neg h2, if_neg h2, c5, pr_b]
      have ec : f_X0_canGetCopy c σ = if v (7 + 10 * c + 5) = 0 then 0 else if v (7 + 10 * c + 3) ≤ v (7 + 10 * c + 7) then 0 else 1 := by
        unfold f_X0_canGetCopy
        rw [y5, y3, y7]
      rw [ec]
      rcases (qC.2.1 c hc).1 with h3 | h3
      · rw [if_pos h3, if_pos rfl, if_neg (show ¬ v (7 + 10 * c + 5) = 1 by rw [h3]; decide)]; exact base
      · rw [if_neg (show ¬ v (7 + 10 * c + 5) = 0 by rw [h3]; decide), if_pos h3, c7, pr_b, c3, pr_b]
        by_cases h4 : v (7 + 10 * c + 3) ≤ v (7 + 10 * c + 7)
        · rw [if_pos h4, if_pos h4, if_pos rfl]; exact base
        · rw [if_neg h4, if_neg h4, if_neg (show ¬ (1 : Int32) = 0 by decide)]
          have i2 : f_X9_atCopy (nI p) 2 = nI (687 + 6 * p + 2) := pr_9k p 2
          have i4 : f_X9_atCopy (nI p) 4 = nI (687 + 6 * p + 4) := pr_9k p 4
          have i5 : f_X9_atCopy (nI p) 5 = nI (687 + 6 * p + 5) := pr_9k p 5
          have i7 : f_X9_clientAt (nI c) 7 = nI (7 + 10 * c + 7) := pr_9c c 7
          have i8 : f_X9_clientAt (nI c) 8 = nI (7 + 10 * c + 8) := pr_9c c 8
          rw [i2, i4, i5, i7, i8]
          simp (disch := omega) only [pr_gin, pr_gN, pr_t, nI_clamp, e0, pr_sRu, pr_sR1]
          rw [show upd v (687 + 6 * p + 2) 1 0 = nI h by rw [pr_upd, if_neg (by omega), q2]]
          have o7 : f_X9_ofStory (nI s) 7 (em_sR ν 1 (upd (upd v (687 + 6 * p + 2) 1) (687 + 6 * p + 4) (nI h))) = some (v (107 + 29 * s + 7)) := by
            rw [show (7 : Int32) = nI 7 from rfl, pr_s ν _ (by omega) 7 (by omega), pr_upd, if_neg (by omega), pr_upd, if_neg (by omega)]
          rw [o7, pr_b]
          have u7 : upd (upd (upd v (687 + 6 * p + 2) 1) (687 + 6 * p + 4) (nI h)) (687 + 6 * p + 5) (v (107 + 29 * s + 7)) (7 + 10 * c + 7) = v (7 + 10 * c + 7) := by
            simp only [pr_upd]; rw [if_neg (by omega), if_neg (by omega), if_neg (by omega)]
          rw [u7]
          have u8 : upd (upd (upd (upd v (687 + 6 * p + 2) 1) (687 + 6 * p + 4) (nI h)) (687 + 6 * p + 5) (v (107 + 29 * s + 7))) (7 + 10 * c + 7) (v (7 + 10 * c + 7) + 1) (7 + 10 * c + 8) = v (7 + 10 * c + 8) := by
            simp only [pr_upd]; rw [if_neg (by omega), if_neg (by omega), if_neg (by omega), if_neg (by omega)]
          rw [u8]
          obtain ⟨σ1, v4, v5, m1, m2, m3, m4, m5, m6⟩ := r_start ν hR hp hs hc k0 k1 rfl
          rw [m1, m2, pr_b, pr_b, m3, pr_b]
          obtain ⟨σ2, v6, n1, n2, n3, n4, n5⟩ := r_75 ν m4 hp hs hc (by rw [(m5.1 p hp).1]; exact k0) (by rw [(m5.1 p hp).2]; exact k1) dd 1 (by rw [m5.2.1 _ (by omega) (by omega)]; exact hdd)
          refine ⟨σ2, v6, 1, n1, n2, n3, m5.tr n4, ?_⟩
          rw [r_sum_T n5 nC b1, r_sum_1 m6 nC b1, if_pos hc, Int32.add_zero]
  · rw [if_neg h1, if_neg h1]; exact base
theorem r_goOn (ν : em_MM) {σ : ed_SM} {v : Nat → Int32} {h nC nS nK p : Nat} (hR : r_R σ v h nC nS nK 160) (hp : p < nK) : r_go ν σ v h nC nS nK (if (f_X1_isOver p σ) = 0 then f_X5_moveOn p σ else some σ) (f_X9_goOn (nI p) (em_sR ν 1 v)) 0 := by
  obtain ⟨⟨q1, q2, q3, q4, q5, q6, q7, q8, q9, q10, b1, b2, b3, b4⟩, qC, qP, qS, qK, qL, qN⟩ := id hR
  obtain ⟨s, c, hs, hc, k0, k1, t5, t6, t7⟩ := qK.2.1 p hp
  obtain ⟨⟨-, -, -, -, a5, -⟩, -⟩ := qS s hs
  have x0 : σ 12 p 0 = nI s := (qK.1 p 0 hp (by omega)).trans k0
  have x1 : σ 12 p 1 = nI c := (qK.1 p 1 hp (by omega)).trans k1
  have x2 := qK.1 p 2 hp (by omega)
  have o0 : f_X9_ofCopy (nI p) 0 (em_sR ν 1 v) = some (nI s) := by rw [show (0 : Int32) = nI 0 from rfl, pr_k ν v (by omega) 0 (by omega), Nat.add_zero, k0]
  have o1 : f_X9_ofCopy (nI p) 1 (em_sR ν 1 v) = some (nI c) := by rw [show (1 : Int32) = nI 1 from rfl, pr_k ν v (by omega) 1 (by omega), k1]
  have o2 : f_X9_ofCopy (nI p) 2 (em_sR ν 1 v) = some (v (687 + 6 * p + 2)) := pr_k ν v (by omega) 2 (by omega)
  have o6 : f_X9_ofStory (nI s) 6 (em_sR ν 1 v) = some (v (107 + 29 * s + 6)) := pr_s ν v (by omega) 6 (by omega)
  have em : f_X9_goOn (nI p) (em_sR ν 1 v) = f_X9_goOn_32 (nI p) (nI s) (nI c) (if v (107 + 29 * s + 6) = 3 then 1 else 0) (em_sR ν 1 v) := by
    unfold f_X9_goOn
    rw [o0, pr_b, o1, pr_b, o6, pr_b]
    by_cases hz : v (107 + 29 * s + 6) = 3
    · rw [if_pos hz, if_pos hz]
    · rw [if_neg hz, if_neg hz]
  rw [em]
  unfold f_X9_goOn_32 f_X1_isOver
  rw [o2, pr_b, x2]
  by_cases h1 : v (687 + 6 * p + 2) = 0
  · rw [if_pos h1, if_pos h1, if_pos rfl]
    unfold f_X5_moveOn
    rw [x0, pr_storyAt q5 b2 hs, pr_b]
    show r_go ν σ v h nC nS nK (ed_g _ _) _ 0
    rw [pr_g (by omega), x1, pr_clientAt q7 b1 hc, pr_b]
    show r_go ν σ v h nC nS nK (ed_g _ _) _ 0
    rw [pr_g (by omega), x2, if_pos h1, a5]
    by_cases h3 : v (107 + 29 * s + 6) = 3
    · have i2 : f_X9_atCopy (nI p) 2 = nI (687 + 6 * p + 2) := pr_9k p 2
      rw [if_pos h3, if_pos h3, if_neg (show ¬ (1 : Int32) = 0 by decide), pr_t, i2, pr_gin (by omega) (by omega), pr_t, nI_clamp (by omega), pr_sRu]
      have hR1 := hR.upK hp (k := 2) (by omega) (by omega) 4 (fun _ => by decide) (Or.inr (Or.inl ⟨rfl, by decide⟩))
      have f1 : r_fr v (upd v (687 + 6 * p + 2) 4) nK := r_fr.upK v nK p 2 4 (by omega) (by omega)
      have j0 : upd v (687 + 6 * p + 2) 4 (687 + 6 * p) = nI s := by rw [(f1.1 p hp).1]; exact k0
      have j1 : upd v (687 + 6 * p + 2) 4 (687 + 6 * p + 1) = nI c := by rw [(f1.1 p hp).2]; exact k1
      have z := r_go60 ν hR1 hp hs hc j0 j1 1 (by rw [f1.2.1 _ (by omega) (by omega), if_pos h3])
      rw [pr_up_same, if_neg (show ¬ (4 : Int32) = 0 by decide)] at z
      obtain ⟨σ2, v2, cm, z1, z2, z3, z4, z5⟩ := z
      exact ⟨σ2, v2, cm, z1, z2, z3, f1.tr z4, by rw [z5, r_sum_T (r_T.upK v p 2 4) nC b1]⟩
    · rw [if_neg h3, if_neg h3, if_pos rfl]
      have z := r_go60 ν hR hp hs hc k0 k1 0 (by rw [if_neg h3])
      rw [x2, if_pos h1] at z
      exact z
  · rw [if_neg h1, if_neg h1]
    have z := r_go60 ν hR hp hs hc k0 k1 (if v (107 + 29 * s + 6) = 3 then 1 else 0) rfl
    rw [x2, if_neg h1] at z
    by_cases h2 : v (687 + 6 * p + 2) = 1
    · rw [if_pos h2, if_pos rfl]
      unfold f_X5_moveOn
      rw [x0, pr_storyAt q5 b2 hs, pr_b]
      show r_go ν σ v h nC nS nK (ed_g _ _) _ 0
      rw [pr_g (by omega), x1, pr_clientAt q7 b1 hc, pr_b]
      show r_go ν σ v h nC nS nK (ed_g _ _) _ 0
      rw [pr_g (by omega), x2, if_neg h1]
      exact z
    · rw [if_neg h2, if_neg (show ¬ (1 : Int32) = 0 by decide)]
      have y : f_X5_moveOn_75 p s c σ = some σ := by
        unfold f_X5_moveOn_75 f_X5_moveOn_120
        rw [x2, if_neg h2, if_neg h2]
      rw [y] at z
      exact z
