/-! a copy in an hour -/
theorem pr_k (ν : em_MM) (v : Nat → Int32) {p : Nat} (hp : p < 160) (k : Nat) (hk : k < 6) : f_X9_ofCopy (nI p) (nI k) (em_sR ν 1 v) = some (v (687 + 6 * p + k)) := by rw [pr_ofCopy _ (by omega), pr_sR1]
theorem pr_s (ν : em_MM) (v : Nat → Int32) {s : Nat} (hs : s < 20) (k : Nat) (hk : k < 29) : f_X9_ofStory (nI s) (nI k) (em_sR ν 1 v) = some (v (107 + 29 * s + k)) := by rw [pr_ofStory _ (by omega), pr_sR1]
theorem pr_c (ν : em_MM) (v : Nat → Int32) {c : Nat} (hc : c < 8) (k : Nat) (hk : k < 10) : f_X9_ofClient (nI c) (nI k) (em_sR ν 1 v) = some (v (7 + 10 * c + k)) := by rw [pr_ofClient _ (by omega), pr_sR1]
theorem r_killDue (ν : em_MM) (v : Nat → Int32) {p s c : Nat} (hp : p < 160) (hs : s < 20) (hc : c < 8) (k0 : v (687 + 6 * p) = nI s) (k1 : v (687 + 6 * p + 1) = nI c) : f_X9_killDue (nI p) (em_sR ν 1 v) = some (v (107 + 29 * s + 9) + v (7 + 10 * c + 2) / 2) := by
  unfold f_X9_killDue
  rw [show (0 : Int32) = nI 0 from rfl, pr_k ν v hp 0 (by omega), pr_b, Nat.add_zero, k0, show (9 : Int32) = nI 9 from rfl, pr_s ν v hs 9 (by omega), pr_b, show (1 : Int32) = nI 1 from rfl, pr_k ν v hp 1 (by omega), pr_b, k1, show (2 : Int32) = nI 2 from rfl, pr_c ν v hc 2 (by omega), pr_b]
theorem r_correctionDue (ν : em_MM) (v : Nat → Int32) {p s c u : Nat} (hp : p < 160) (hs : s < 20) (hc : c < 8) (hu : u < 6) (k0 : v (687 + 6 * p) = nI s) (k1 : v (687 + 6 * p + 1) = nI c) : f_X9_correctionDue (nI p) (nI u) (em_sR ν 1 v) = some (v (107 + 29 * s + (10 + u)) + v (7 + 10 * c + 2)) := by
  unfold f_X9_correctionDue
  rw [show (0 : Int32) = nI 0 from rfl, pr_k ν v hp 0 (by omega), pr_b, Nat.add_zero, k0, show (10 : Int32) = nI 10 from rfl, nI_add, pr_s ν v hs (10 + u) (by omega), pr_b, show (1 : Int32) = nI 1 from rfl, pr_k ν v hp 1 (by omega), pr_b, k1, show (2 : Int32) = nI 2 from rfl, pr_c ν v hc 2 (by omega), pr_b]
theorem r_useEnds (ν : em_MM) (v : Nat → Int32) {p : Nat} (hp : p < 160) : f_X9_useEnds (nI p) (em_sR ν 1 v) = some (v (687 + 6 * p + 4) + v 4 * 24) := by
  unfold f_X9_useEnds
  have g4 : ed_in 4 1683 := ⟨by decide, by decide⟩
  have e4 : (4 : Int32).toNatClampNeg = 4 := by decide
  have o4 : f_X9_ofCopy (nI p) 4 (em_sR ν 1 v) = some (v (687 + 6 * p + 4)) := pr_k ν v hp 4 (by omega)
  rw [o4, pr_b, pr_g g4, e4, pr_sR1]
theorem r_kill8 {σ : ed_SM} {v : Nat → Int32} {h nC nS nK e p s c : Nat} (hR : r_R σ v h nC nS nK e) (hp : p < nK) (hs : s < nS) (hc : c < nC) (k0 : v (687 + 6 * p) = nI s) (k1 : v (687 + 6 * p + 1) = nI c) : f_X5_killNoticeAt p σ = some (if v (107 + 29 * s + 6) = 3 then (if v (687 + 6 * p + 2) = 1 then v (107 + 29 * s + 9) + v (7 + 10 * c + 2) / 2 else -5) else -5) := by
  obtain ⟨⟨q1, q2, q3, q4, q5, q6, q7, q8, q9, q10, b1, b2, b3, b4⟩, qC, qP, qS, qK, qL, qN⟩ := hR
  obtain ⟨⟨-, -, -, -, a5, -, -, a8⟩, -⟩ := qS s hs
  have x0 : σ 12 p 0 = nI s := (qK.1 p 0 hp (by omega)).trans k0
  have x1 : σ 12 p 1 = nI c := (qK.1 p 1 hp (by omega)).trans k1
  have x2 := qK.1 p 2 hp (by omega)
  have y2 := qC.1 c 2 hc (by omega)
  unfold f_X5_killNoticeAt
  rw [x0, pr_storyAt q5 b2 hs, pr_b]
  show ed_g _ _ = _
  rw [pr_g (by omega), x1, pr_clientAt q7 b1 hc, pr_b]
  show ed_g _ _ = _
  rw [pr_g (by omega), a5, a8, x2, y2]
  by_cases h1 : v (107 + 29 * s + 6) = 3
  · rw [if_pos h1, if_pos h1]
    by_cases h2 : v (687 + 6 * p + 2) = 1
    · rw [if_pos h2, if_pos h2]
    · rw [if_neg h2, if_neg h2]
  · rw [if_neg h1, if_neg h1]
theorem r_duec {σ : ed_SM} {v : Nat → Int32} {h nC nS nK e p s c u w : Nat} (hR : r_R σ v h nC nS nK e) (hp : p < nK) (hs : s < nS) (hc : c < nC) (k0 : v (687 + 6 * p) = nI s) (k1 : v (687 + 6 * p + 1) = nI c) (k2 : v (687 + 6 * p + 2) = 1) (k5 : v (687 + 6 * p + 5) = nI u) (kw : v (107 + 29 * s + 7) = nI w) (hw : w ≤ 6) (hu : u ≤ w) : f_X5_correctionsDue p σ = some (nI (r_du v s c h (w - u) u)) := by
  obtain ⟨⟨q1, q2, q3, q4, q5, q6, q7, q8, q9, q10, b1, b2, b3, b4⟩, qC, qP, qS, qK, qL, qN⟩ := id hR
  have x0 : σ 12 p 0 = nI s := (qK.1 p 0 hp (by omega)).trans k0
  have x1 : σ 12 p 1 = nI c := (qK.1 p 1 hp (by omega)).trans k1
  have x2 : σ 12 p 2 = 1 := (qK.1 p 2 hp (by omega)).trans k2
  have x5 : σ 12 p 5 = nI u := (qK.1 p 5 hp (by omega)).trans k5
  unfold f_X5_correctionsDue
  rw [x0, pr_storyAt q5 b2 hs, pr_b]
  show ed_g _ _ = _
  rw [pr_g (by omega), x1, pr_clientAt q7 b1 hc, pr_b]
  show ed_g _ _ = _
  have z := r_due8 hR hs hc kw hw p (w - u) u ed_N 0 (by omega) (by unfold ed_N; omega)
  rw [nI_0, Nat.zero_add] at z
  rw [pr_g (by omega), if_pos x2, x5, z]
theorem r_due0 {σ : ed_SM} {v : Nat → Int32} {h nC nS nK e p s c : Nat} (hR : r_R σ v h nC nS nK e) (hp : p < nK) (hs : s < nS) (hc : c < nC) (k0 : v (687 + 6 * p) = nI s) (k1 : v (687 + 6 * p + 1) = nI c) (k2 : ¬ v (687 + 6 * p + 2) = 1) : f_X5_correctionsDue p σ = some 0 := by
  obtain ⟨⟨q1, q2, q3, q4, q5, q6, q7, q8, q9, q10, b1, b2, b3, b4⟩, qC, qP, qS, qK, qL, qN⟩ := id hR
  have x0 : σ 12 p 0 = nI s := (qK.1 p 0 hp (by omega)).trans k0
  have x1 : σ 12 p 1 = nI c := (qK.1 p 1 hp (by omega)).trans k1
  have x2 : ¬ σ 12 p 2 = 1 := by rw [qK.1 p 2 hp (by omega)]; exact k2
  unfold f_X5_correctionsDue
  rw [x0, pr_storyAt q5 b2 hs, pr_b]
  show ed_g _ _ = _
  rw [pr_g (by omega), x1, pr_clientAt q7 b1 hc, pr_b]
  show ed_g _ _ = _
  rw [pr_g (by omega), if_neg x2]
/-- a copy's state that isn't 'in use', and its log row -/
theorem r_end (ν : em_MM) {σ : ed_SM} {v : Nat → Int32} {h nC nS nK p s c : Nat} (hR : r_R σ v h nC nS nK 160) (hp : p < nK) (hs : s < nS) (hc : c < nC) (k0 : v (687 + 6 * p) = nI s) (k1 : v (687 + 6 * p + 1) = nI c) (x kd : Int32) (hx : 0 ≤ x.toInt) (hx1 : ¬ x = 1) : ∃ σ' v', f_X3_add kd (ed_up σ 12 p 2 x 12 p 0) (ed_up σ 12 p 2 x 12 p 1) (ed_up σ 12 p 2 x 0 0 0) (ed_up σ 12 p 2 x) = some σ' ∧ f_X9_log kd (nI s) (nI c) (em_sR ν 1 (upd v (687 + 6 * p + 2) x)) = some (em_sR ν 1 v') ∧ r_R σ' v' h nC nS nK 160 ∧ r_fr v v' nK ∧ r_T v v' := by
  obtain ⟨⟨q1, q2, q3, q4, q5, q6, q7, q8, q9, q10, b1, b2, b3, b4⟩, qC, qP, qS, qK, qL, qN⟩ := id hR
  have hR1 := hR.upK hp (k := 2) (by omega) (by omega) x (fun _ => hx) (Or.inr (Or.inl ⟨rfl, hx1⟩))
  have x0 : ed_up σ 12 p 2 x 12 p 0 = nI s := by rw [pr_up_k _ _ (by decide), ← k0]; exact qK.1 p 0 hp (by omega)
  have x1 : ed_up σ 12 p 2 x 12 p 1 = nI c := by rw [pr_up_k _ _ (by decide), ← k1]; exact qK.1 p 1 hp (by omega)
  have x2 : ed_up σ 12 p 2 x 0 0 0 = upd v (687 + 6 * p + 2) x 0 := by rw [pr_up_K _ _ (by decide), pr_upd, if_neg (by omega), q1, q2]
  rw [x0, x1, x2]
  obtain ⟨σ3, v3, m1, m2, m3, m4, m5⟩ := r_log ν _ (upd v (687 + 6 * p + 2) x) kd _ (nI c) s hR1.2.2.2.2.2.1 (by omega) (Or.inr ⟨c, by omega, rfl⟩) rfl
  exact ⟨σ3, v3, m1, m2, hR1.lg m3 m4 m5, (r_fr.upK v nK p 2 _ (by omega) (by omega)).tr (r_fr.lg b3 m5), (r_T.upK v p 2 _).tr (r_T.lg m5)⟩
theorem r_120 (ν : em_MM) {σ : ed_SM} {v : Nat → Int32} {h nC nS nK p s c : Nat} (hR : r_R σ v h nC nS nK 160) (hp : p < nK) (hs : s < nS) (hc : c < nC) (k0 : v (687 + 6 * p) = nI s) (k1 : v (687 + 6 * p + 1) = nI c) (dd came : Int32) (hdd : dd = if v (107 + 29 * s + 6) = 3 then 1 else 0) : ∃ σ' v', f_X5_moveOn_120 p s c σ = some σ' ∧ f_X9_goOn_242 (nI p) (nI s) (nI c) dd came (em_sR ν 1 v) = some (came, em_sR ν 1 v') ∧ r_R σ' v' h nC nS nK 160 ∧ r_fr v v' nK ∧ r_T v v' := by
  obtain ⟨⟨q1, q2, q3, q4, q5, q6, q7, q8, q9, q10, b1, b2, b3, b4⟩, qC, qP, qS, qK, qL, qN⟩ := id hR
  obtain ⟨⟨-, -, -, -, a5, -, -, a8⟩, -, -, ⟨w, d1, d2, d3, d4⟩, -⟩ := qS s hs
  have x2 := qK.1 p 2 hp (by omega)
  have y5 := qC.1 c 5 hc (by omega)
  unfold f_X5_moveOn_120 f_X9_goOn_242
  have o2 : f_X9_ofCopy (nI p) 2 (em_sR ν 1 v) = some (v (687 + 6 * p + 2)) := pr_k ν v (by omega) 2 (by omega)
  have o5 : f_X9_ofClient (nI c) 5 (em_sR ν 1 v) = some (v (7 + 10 * c + 5)) := pr_c ν v (by omega) 5 (by omega)
  rw [x2, o2, pr_b]
  by_cases h1 : v (687 + 6 * p + 2) = 1
  · rw [if_pos h1, if_pos h1, y5, o5, pr_b]
    by_cases h2 : v (7 + 10 * c + 5) = 0
    · rw [if_pos h2, if_pos h2]
      exact ⟨σ, v, rfl, rfl, hR, r_fr.rf v nK, fun _ _ => rfl⟩
    · rw [if_neg h2, if_neg h2]
      obtain ⟨s', c', t1, t2, t3, t4, t5, t6, t7⟩ := qK.2.1 p hp
      have hss : s' = s := (nI_eq (by omega) (by omega)).mp (t3.symm.trans k0)
      subst hss
      obtain ⟨u, u1, u2, u3⟩ := t7 (by omega) h1
      have hu : u ≤ w := by
        rw [d2, nI_toInt (by omega)] at u3
        omega
      obtain ⟨σ1, v1, z1, z2, z3, z4, z5⟩ := r_reach ν came hp hs hc d1 (w - u) u (by omega) ed_N ed_N 0 σ v (by unfold ed_N; omega) (by unfold ed_N; omega) (by omega) hR k0 k1 u1 d2
      rw [Nat.zero_add, nI_0] at z1
      have ed := r_duec hR hp hs hc k0 k1 h1 u1 d2 d1 hu
      unfold f_X5_reach
      rw [a5]
      by_cases h3 : v (107 + 29 * s' + 6) = 3
      · rw [if_pos h3] at hdd
        subst hdd
        have g0 : ed_in 0 1683 := ⟨by decide, by decide⟩
        have e0 : (0 : Int32).toNatClampNeg = 0 := by decide
        rw [if_pos h3, if_neg (show ¬ (1 : Int32) = 0 by decide), pr_g g0, e0, pr_sR1, r_kill8 hR hp hs hc k0 k1, pr_b, if_pos h3, if_pos h1, r_killDue ν v (by omega) (by omega) (by omega) k0 k1, pr_b, q1, q2]
        by_cases h4 : nI h < v (107 + 29 * s' + 9) + v (7 + 10 * c + 2) / 2
        · rw [if_pos h4, if_pos h4, ed, pr_b, z1, pr_b]
          exact ⟨σ1, v1, rfl, z2, z3, z4, z5⟩
        · have i2 : f_X9_atCopy (nI p) 2 = nI (687 + 6 * p + 2) := pr_9k p 2
          rw [if_neg h4, if_neg h4, pr_t, i2, pr_gin (by omega) (by omega), pr_t, nI_clamp (by omega), pr_sRu]
          obtain ⟨σ2, v2, m1, m2, m3, m4, m5⟩ := r_end ν hR hp hs hc k0 k1 2 3 (by decide) (by decide)
          rw [m1, m2, pr_b, pr_b, pr_b]
          exact ⟨σ2, v2, rfl, rfl, m3, m4, m5⟩
      · rw [if_neg h3] at hdd
        subst hdd
        rw [if_neg h3, if_pos rfl, ed, pr_b, z1, pr_b]
        exact ⟨σ1, v1, rfl, z2, z3, z4, z5⟩
  · rw [if_neg h1, if_neg h1]
    exact ⟨σ, v, rfl, rfl, hR, r_fr.rf v nK, fun _ _ => rfl⟩
theorem r_75 (ν : em_MM) {σ : ed_SM} {v : Nat → Int32} {h nC nS nK p s c : Nat} (hR : r_R σ v h nC nS nK 160) (hp : p < nK) (hs : s < nS) (hc : c < nC) (k0 : v (687 + 6 * p) = nI s) (k1 : v (687 + 6 * p + 1) = nI c) (dd came : Int32) (hdd : dd = if v (107 + 29 * s + 6) = 3 then 1 else 0) : ∃ σ' v', f_X5_moveOn_75 p s c σ = some σ' ∧ f_X9_goOn_200 (nI p) (nI s) (nI c) dd came (em_sR ν 1 v) = some (came, em_sR ν 1 v') ∧ r_R σ' v' h nC nS nK 160 ∧ r_fr v v' nK ∧ r_T v v' := by
  obtain ⟨⟨q1, q2, q3, q4, q5, q6, q7, q8, q9, q10, b1, b2, b3, b4⟩, qC, qP, qS, qK, qL, qN⟩ := id hR
  have x2 := qK.1 p 2 hp (by omega)
  have x4 := qK.1 p 4 hp (by omega)
  unfold f_X5_moveOn_75 f_X9_goOn_200
  have o2 : f_X9_ofCopy (nI p) 2 (em_sR ν 1 v) = some (v (687 + 6 * p + 2)) := pr_k ν v (by omega) 2 (by omega)
  rw [x2, o2, pr_b]
  by_cases h1 : v (687 + 6 * p + 2) = 1
  · have eu : f_X5_useEndsAt p σ = v (687 + 6 * p + 4) + v 4 * 24 := by
      unfold f_X5_useEndsAt
      rw [x2, if_pos h1, x4, q3]
    have g0 : ed_in 0 1683 := ⟨by decide, by decide⟩
    have e0 : (0 : Int32).toNatClampNeg = 0 := by decide
    rw [if_pos h1, if_pos h1, eu, pr_g g0, e0, pr_sR1, r_useEnds ν v (by omega), pr_b, q1, q2]
    by_cases h2 : nI h < v (687 + 6 * p + 4) + v 4 * 24
    · rw [if_pos h2, if_pos h2]
      exact r_120 ν hR hp hs hc k0 k1 dd came hdd
    · have i2 : f_X9_atCopy (nI p) 2 = nI (687 + 6 * p + 2) := pr_9k p 2
      rw [if_neg h2, if_neg h2, pr_t, i2, pr_gin (by omega) (by omega), pr_t, nI_clamp (by omega), pr_sRu]
      obtain ⟨σ2, v2, m1, m2, m3, m4, m5⟩ := r_end ν hR hp hs hc k0 k1 3 4 (by decide) (by decide)
      rw [m1, m2, pr_b, pr_b]
      obtain ⟨σ3, v3, n1, n2, n3, n4, n5⟩ := r_120 ν m3 hp hs hc (by rw [(m4.1 p hp).1]; exact k0) (by rw [(m4.1 p hp).2]; exact k1) dd came (by rw [m4.2.1 _ (by omega) (by omega)]; exact hdd)
      exact ⟨σ3, v3, n1, n2, n3, m4.tr n4, m5.tr n5⟩
  · rw [if_neg h1, if_neg h1]
    exact r_120 ν hR hp hs hc k0 k1 dd came hdd
theorem r_start (ν : em_MM) {σ : ed_SM} {v : Nat → Int32} {h nC nS nK p s c : Nat} (hR : r_R σ v h nC nS nK 160) (hp : p < nK) (hs : s < nS) (hc : c < nC) (k0 : v (687 + 6 * p) = nI s) (k1 : v (687 + 6 * p + 1) = nI c) {V : Nat → Int32} (hV : V = upd (upd (upd (upd (upd v (687 + 6 * p + 2) 1) (687 + 6 * p + 4) (nI h)) (687 + 6 * p + 5) (v (107 + 29 * s + 7))) (7 + 10 * c + 7) (v (7 + 10 * c + 7) + 1)) (7 + 10 * c + 8) (v (7 + 10 * c + 8) + 1)) :
    ∃ σ' v4 v', f_X5_startUse p s c σ = some σ' ∧ f_X9_bill (nI s) (nI c) (em_sR ν 1 V) = some (em_sR ν 1 v4) ∧ f_X9_log 1 (nI s) (nI c) (em_sR ν 1 v4) = some (em_sR ν 1 v') ∧ r_R σ' v' h nC nS nK 160 ∧ r_fr v v' nK ∧ ∀ a, a < 8 → v' (7 + 10 * a + 8) = v (7 + 10 * a + 8) + (if a = c then 1 else 0) := by
  obtain ⟨⟨q1, q2, q3, q4, q5, q6, q7, q8, q9, q10, b1, b2, b3, b4⟩, qC, qP, qS, qK, qL, qN⟩ := id hR
  obtain ⟨⟨-, -, -, -, a5, a6, -, a8⟩, -, -, ⟨w, d1, d2, d3, d4⟩, -⟩ := qS s hs
  have y7 := qC.1 c 7 hc (by omega)
  have y8 := qC.1 c 8 hc (by omega)
  unfold f_X5_startUse
  simp only [pr_t]
  have z1 : ed_up σ 12 p 2 1 0 0 0 = nI h := by rw [pr_up_K _ _ (by decide), q1]
  rw [z1]
  have z2 : ed_up (ed_up σ 12 p 2 1) 12 p 4 (nI h) 7 s 7 = v (107 + 29 * s + 7) := by rw [pr_up_K _ _ (by decide), pr_up_K _ _ (by decide), a6]
  rw [z2]
  have z3 : ed_up (ed_up (ed_up σ 12 p 2 1) 12 p 4 (nI h)) 12 p 5 (v (107 + 29 * s + 7)) 11 c 7 = v (7 + 10 * c + 7) := by rw [pr_up_K _ _ (by decide), pr_up_K _ _ (by decide), pr_up_K _ _ (by decide), y7]
  rw [z3]
  have z4 : ed_up (ed_up (ed_up (ed_up σ 12 p 2 1) 12 p 4 (nI h)) 12 p 5 (v (107 + 29 * s + 7))) 11 c 7 (v (7 + 10 * c + 7) + 1) 11 c 8 = v (7 + 10 * c + 8) := by rw [pr_up_k _ _ (by decide), pr_up_K _ _ (by decide), pr_up_K _ _ (by decide), pr_up_K _ _ (by decide), y8]
  rw [z4]
  have hR5 : r_R (ed_up (ed_up (ed_up (ed_up (ed_up σ 12 p 2 1) 12 p 4 (nI h)) 12 p 5 (v (107 + 29 * s + 7))) 11 c 7 (v (7 + 10 * c + 7) + 1)) 11 c 8 (v (7 + 10 * c + 8) + 1)) V h nC nS nK p := by
    rw [hV]
    exact (((((hR.opn (e := p)).upK hp (k := 2) (by omega) (by omega) 1 (fun _ => by decide) (Or.inl rfl)).upK hp (k := 4) (by omega) (by omega) (nI h) (fun z => absurd z (by decide)) (Or.inl rfl)).upK hp (k := 5) (by omega) (by omega) (v (107 + 29 * s + 7)) (fun z => absurd z (by decide)) (Or.inl rfl)).upC hc (k := 7) (by omega) (by omega) _ (fun z => absurd z (by decide))).upC hc (k := 8) (by omega) (by omega) _ (fun z => absurd z (by decide))
  have hV0 : V 0 = nI h := by rw [hV]; simp only [pr_upd]; rw [if_neg (by omega), if_neg (by omega), if_neg (by omega), if_neg (by omega), if_neg (by omega), q2]
  have hfr : r_fr v V nK := by
    rw [hV]
    refine ⟨fun q hq => ⟨?_, ?_⟩, fun a _ _ => ?_, fun a k _ _ => ?_⟩ <;> simp only [pr_upd] <;> rw [if_neg (by omega), if_neg (by omega), if_neg (by omega), if_neg (by omega), if_neg (by omega)]
  have hV5 : V (687 + 6 * p + 5) = nI w := by
    rw [hV]; simp only [pr_upd]
    rw [if_neg (by omega), if_neg (by omega), if_pos trivial, d2]
  have hV8 : ∀ a, a < 8 → V (7 + 10 * a + 8) = v (7 + 10 * a + 8) + (if a = c then 1 else 0) := by
    intro a ha
    rw [hV]; simp only [pr_upd]
    by_cases hz : a = c
    · rw [if_pos (by omega), if_pos hz, hz]
    · rw [if_neg (by omega), if_neg (by omega), if_neg (by omega), if_neg (by omega), if_neg (by omega), if_neg hz, Int32.add_zero]
  generalize ed_up (ed_up (ed_up (ed_up (ed_up σ 12 p 2 1) 12 p 4 (nI h)) 12 p 5 (v (107 + 29 * s + 7))) 11 c 7 (v (7 + 10 * c + 7) + 1)) 11 c 8 (v (7 + 10 * c + 8) + 1) = σ5 at hR5 ⊢
  obtain ⟨⟨w1, -⟩, wC, wP, wS, wK, wL, -⟩ := id hR5
  have x0 : σ5 12 p 0 = nI s := (wK.1 p 0 hp (by omega)).trans ((hfr.1 p hp).1.trans k0)
  have x1 : σ5 12 p 1 = nI c := (wK.1 p 1 hp (by omega)).trans ((hfr.1 p hp).2.trans k1)
  rw [x0, x1, w1]
  obtain ⟨σ6, v6, m1, m2, m3, m4, m5⟩ := r_log ν σ5 V 1 (nI h) (nI c) s wL (by omega) (Or.inr ⟨c, by omega, rfl⟩) hV0.symm
  rw [m1, pr_b]
  obtain ⟨σ7, v7, n1, n2, n3, n4, n5, n6, n7⟩ := r_bill ν (wC.cg (m4 11 (by decide) (by decide)) (fun _ _ _ => rfl) b1) b1 (wP.cg (m4 13 (by decide) (by decide)) (fun _ _ _ => rfl)) ((wS s hs).cg (by rw [m4 7 (by decide) (by decide)]) (by rw [m4 8 (by decide) (by decide)]) (by rw [m4 9 (by decide) (by decide)]) (by rw [m4 10 (by decide) (by decide)]) (fun _ _ _ => rfl) (Nat.le_refl h)) (by omega) hc
  rw [n1, pr_b]
  obtain ⟨σ8, v8, o1, o2, o3, o4, o5⟩ := r_log ν σ5 v7 1 (nI h) (nI c) s (wL.cg rfl rfl (n6 6 (by omega)) (fun a h1 _ => n6 a (by omega))) (by omega) (Or.inr ⟨c, by omega, rfl⟩) (by rw [n6 0 (by omega)]; exact hV0.symm)
  have e86 : σ8 = σ6 := Option.some.inj (o1.symm.trans m1)
  subst e86
  refine ⟨σ7, v7, v8, rfl, n2, o2, ?_, ?_, fun a ha => ?_⟩
  · have hv87 : ∀ a, a ≠ 6 → a < 1647 → a < 7 ∨ 107 ≤ a → v8 a = V a := fun a h1 h2 h3 => by rw [o5 a h1 h2, n6 a h3]
    have hRp : r_R σ7 v8 h nC nS nK p := by
      obtain ⟨uH, uC, uP, uS, uK, uL, uN⟩ := hR5
      refine ⟨uH.cg (fun k hk => by rw [n5 0 (by decide) (by decide), m4 0 (by decide) (by decide)]) (fun a ha => hv87 a (by omega) (by omega) (by omega)), n3.cg rfl (fun a h1 h2 => o5 a (by omega) (by omega)) b1, n4.cg rfl (fun a h1 h2 => o5 a (by omega) (by omega)), uS.cg (by rw [n5 7 (by decide) (by decide), m4 7 (by decide) (by decide)]) (by rw [n5 8 (by decide) (by decide), m4 8 (by decide) (by decide)]) (by rw [n5 9 (by decide) (by decide), m4 9 (by decide) (by decide)]) (by rw [n5 10 (by decide) (by decide), m4 10 (by decide) (by decide)]) (fun a h1 h2 => hv87 a (by omega) (by omega) (by omega)) (Nat.le_refl _) b2, uK.cg (by rw [n5 12 (by decide) (by decide), m4 12 (by decide) (by decide)]) (fun a h1 h2 => hv87 a (by omega) (by omega) (by omega)) b2 b3, o3.cg (n5 1 (by decide) (by decide)) (n5 2 (by decide) (by decide)) rfl (fun _ _ _ => rfl), by rw [r_cnt_cg nS (fun s hs => hv87 _ (by omega) (by omega) (by omega))]; exact uN⟩
    exact hRp.clo (s := s) (w := w) (by rw [hv87 _ (by omega) (by omega) (by omega), (hfr.1 p hp).1]; exact k0) (by omega) (by rw [hv87 _ (by omega) (by omega) (by omega)]; exact hV5) d1 (by rw [hv87 _ (by omega) (by omega) (by omega), hfr.2.1 _ (by omega) (by omega), d2, nI_toInt (by omega)]; omega)
  · refine hfr.tr ⟨fun q hq => ⟨?_, ?_⟩, fun a h1 h2 => ?_, fun a k h1 h2 => ?_⟩
    · rw [o5 _ (by omega) (by omega), n6 _ (by omega)]
    · rw [o5 _ (by omega) (by omega), n6 _ (by omega)]
    · rw [o5 _ (by omega) (by omega), n6 _ (by omega)]
    · rw [o5 _ (by omega) (by omega), n7 a k h1 (by omega) (by omega) (by omega)]
  · rw [o5 _ (by omega) (by omega), n7 a 8 ha (by omega) (by omega) (by omega), hV8 a ha]
