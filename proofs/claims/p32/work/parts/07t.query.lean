/-! The questions: a copy. -/
theorem r_find_L {σ : ed_SM} {v : Nat → Int32} {h nC nS nK e : Nat} (hR : r_R σ v h nC nS nK e) (x1 x2 : Int32) : ∀ (d p n : Nat), p + d = nK → d < n → ((∃ q, p ≤ q ∧ q < nK ∧ v (687 + 6 * q) = x1 ∧ v (687 + 6 * q + 1) = x2 ∧ f_X5_copyFor_2 σ n x1 x2 (nI p) = some (some q)) ∨ ((∀ q, p ≤ q → q < nK → ¬ (v (687 + 6 * q) = x1 ∧ v (687 + 6 * q + 1) = x2)) ∧ f_X5_copyFor_2 σ n x1 x2 (nI p) = some none)) := by
  obtain ⟨⟨q1, q2, q3, q4, q5, q6, q7, q8, q9, q10, b1, b2, b3, b4⟩, qC, qP, qS, qK, qL, qN⟩ := hR
  intro d
  induction d with
  | zero =>
    intro p n hp hn
    obtain ⟨n, rfl⟩ : ∃ q, n = q + 1 := ⟨n - 1, by omega⟩
    refine Or.inr ⟨fun q h1 h2 => by omega, ?_⟩
    rw [f_X5_copyFor_2, q9, if_pos (by rw [pr_le (by omega) (by omega)]; omega)]
  | succ d ih =>
    intro p n hp hn
    obtain ⟨n, rfl⟩ : ∃ q, n = q + 1 := ⟨n - 1, by omega⟩
    have np : ¬ nI nK ≤ nI p := by rw [pr_le (by omega) (by omega)]; omega
    have e1 : nI p + 1 = nI (p + 1) := nI_add p 1
    have st : f_X5_copyFor_2 σ (n + 1) x1 x2 (nI p) = if v (687 + 6 * p) = x1 then (if v (687 + 6 * p + 1) = x2 then some (some p) else f_X5_copyFor_2 σ n x1 x2 (nI (p + 1))) else f_X5_copyFor_2 σ n x1 x2 (nI (p + 1)) := by
      rw [f_X5_copyFor_2, q9, if_neg np, pr_copyMade q9 b3 (by omega), pr_b]
      show ed_g _ _ = _
      rw [pr_g (by omega), e1, qK.1 p 0 (by omega) (by omega), qK.1 p 1 (by omega) (by omega), Nat.add_zero]
    rw [st]
    by_cases h12 : v (687 + 6 * p) = x1 ∧ v (687 + 6 * p + 1) = x2
    · rw [if_pos h12.1, if_pos h12.2]
      exact Or.inl ⟨p, Nat.le_refl _, by omega, h12.1, h12.2, rfl⟩
    · have z : (if v (687 + 6 * p) = x1 then (if v (687 + 6 * p + 1) = x2 then some (some p) else f_X5_copyFor_2 σ n x1 x2 (nI (p + 1))) else f_X5_copyFor_2 σ n x1 x2 (nI (p + 1))) = f_X5_copyFor_2 σ n x1 x2 (nI (p + 1)) := by
        by_cases h1 : v (687 + 6 * p) = x1
        · rw [if_pos h1, if_neg (fun g => h12 ⟨h1, g⟩)]
        · rw [if_neg h1]
      rw [z]
      rcases ih (p + 1) n (by omega) (by omega) with ⟨q, g1, g2, g3, g4, g5⟩ | ⟨g1, g2⟩
      · exact Or.inl ⟨q, by omega, g2, g3, g4, g5⟩
      · refine Or.inr ⟨fun q g3 g4 => ?_, g2⟩
        by_cases hq : q = p
        · subst hq; exact h12
        · exact g1 q (by omega) g4
theorem r_findN_L (ν : em_MM) {nK : Nat} (v3 : ν 1 3 = nI nK) (b3 : nK ≤ 160) (x1 x2 x : Int32) : ∀ (d p n : Nat), p + d = nK → d < n → (∀ q, p ≤ q → q < nK → ¬ (ν 1 (687 + 6 * q) = x1 ∧ ν 1 (687 + 6 * q + 1) = x2)) → f_X9_copyOf_5 ν n x1 x2 x (nI p) = some x := by
  have v3' : ν 1 (3 : Int32).toNatClampNeg = nI nK := by rw [pr_cl 3 (by omega), v3]
  intro d
  induction d with
  | zero =>
    intro p n hp hn _
    obtain ⟨n, rfl⟩ : ∃ q, n = q + 1 := ⟨n - 1, by omega⟩
    rw [f_X9_copyOf_5, pr_gN (by decide) (by decide), v3', if_pos (by rw [pr_le (by omega) (by omega)]; omega)]
  | succ d ih =>
    intro p n hp hn hno
    obtain ⟨n, rfl⟩ : ∃ q, n = q + 1 := ⟨n - 1, by omega⟩
    have np : ¬ nI nK ≤ nI p := by rw [pr_le (by omega) (by omega)]; omega
    have e1 : nI p + 1 = nI (p + 1) := nI_add p 1
    have o0 : f_X9_ofCopy (nI p) 0 ν = some (ν 1 (687 + 6 * p)) := pr_ofCopy ν (i := p) (k := 0) (by omega)
    have o1 : f_X9_ofCopy (nI p) 1 ν = some (ν 1 (687 + 6 * p + 1)) := pr_ofCopy ν (i := p) (k := 1) (by omega)
    have i0 := ih (p + 1) n (by omega) (by omega) (fun q g1 g2 => hno q (by omega) g2)
    rw [f_X9_copyOf_5, pr_gN (by decide) (by decide), v3', if_neg np, o0, pr_b, o1, pr_b, e1, i0]
    by_cases h1 : ν 1 (687 + 6 * p) = x1
    · rw [if_pos h1, if_neg (fun g => hno p (by omega) (by omega) ⟨h1, g⟩)]
    · rw [if_neg h1]
theorem r_findY_L (ν : em_MM) {nK q : Nat} (v3 : ν 1 3 = nI nK) (b3 : nK ≤ 160) (x1 x2 : Int32) (hq : q < nK) (h1 : ν 1 (687 + 6 * q) = x1) (h2 : ν 1 (687 + 6 * q + 1) = x2) (hu : ∀ q', q' < nK → ν 1 (687 + 6 * q') = x1 → ν 1 (687 + 6 * q' + 1) = x2 → q' = q) : ∀ (d p n : Nat) (x : Int32), p + d = nK → d < n → p ≤ q → f_X9_copyOf_5 ν n x1 x2 x (nI p) = some (nI q) := by
  have v3' : ν 1 (3 : Int32).toNatClampNeg = nI nK := by rw [pr_cl 3 (by omega), v3]
  intro d
  induction d with
  | zero => intro p n x hp hn hpq; omega
  | succ d ih =>
    intro p n x hp hn hpq
    obtain ⟨n, rfl⟩ : ∃ q, n = q + 1 := ⟨n - 1, by omega⟩
    have np : ¬ nI nK ≤ nI p := by rw [pr_le (by omega) (by omega)]; omega
    have e1 : nI p + 1 = nI (p + 1) := nI_add p 1
    have o0 : f_X9_ofCopy (nI p) 0 ν = some (ν 1 (687 + 6 * p)) := pr_ofCopy ν (i := p) (k := 0) (by omega)
    have o1 : f_X9_ofCopy (nI p) 1 ν = some (ν 1 (687 + 6 * p + 1)) := pr_ofCopy ν (i := p) (k := 1) (by omega)
    rw [f_X9_copyOf_5, pr_gN (by decide) (by decide), v3', if_neg np, o0, pr_b, o1, pr_b, e1]
    by_cases hpq2 : p = q
    · subst hpq2
      rw [if_pos h1, if_pos h2]
      exact r_findN_L ν v3 b3 x1 x2 (nI p) d (p + 1) n (by omega) (by omega) (fun q' g1 g2 g3 => by
        have := hu q' g2 g3.1 g3.2
        omega)
    · have i0 := ih (p + 1) n x (by omega) (by omega) (by omega)
      rw [i0]
      by_cases g1 : ν 1 (687 + 6 * p) = x1
      · rw [if_pos g1, if_neg (fun g => hpq2 (hu p (by omega) g1 g))]
      · rw [if_neg g1]
/-- a copy is found by both, or by none -/
theorem r_find {σ : ed_SM} {ν : em_MM} {h nC nS nK : Nat} (hR : r_R σ (ν 1) h nC nS nK 160) (x1 x2 : Int32) : (∃ p, p < nK ∧ ν 1 (687 + 6 * p) = x1 ∧ ν 1 (687 + 6 * p + 1) = x2 ∧ f_X5_copyFor x1 x2 σ = some (some p) ∧ f_X9_copyOf x1 x2 ν = some (nI p)) ∨ (f_X5_copyFor x1 x2 σ = some none ∧ f_X9_copyOf x1 x2 ν = some (-1)) := by
  obtain ⟨q1, q2, q3, q4, q5, q6, q7, q8, q9, q10, b1, b2, b3, b4⟩ := hR.1
  rcases r_find_L hR x1 x2 nK 0 ed_N (by omega) (by unfold ed_N; omega) with ⟨p, g1, g2, g3, g4, g5⟩ | ⟨g1, g2⟩
  · refine Or.inl ⟨p, g2, g3, g4, g5, ?_⟩
    exact r_findY_L ν q10 b3 x1 x2 g2 g3 g4 (fun q' g6 g7 g8 => hR.2.2.2.2.1.2.2 q' p g6 g2 (g7.trans g3.symm) (g8.trans g4.symm)) nK 0 ed_N (-1) (by omega) (by unfold ed_N; omega) (by omega)
  · refine Or.inr ⟨g2, ?_⟩
    exact r_findN_L ν q10 b3 x1 x2 (-1) nK 0 ed_N (by omega) (by unfold ed_N; omega) g1
theorem r_due9_L (ν : em_MM) {p s c w h : Nat} (hp : p < 160) (hs : s < 20) (hc : c < 8) (k0 : ν 1 (687 + 6 * p) = nI s) (k1 : ν 1 (687 + 6 * p + 1) = nI c) (k2 : ν 1 (687 + 6 * p + 2) = 1) (hw : ν 1 (107 + 29 * s + 7) = nI w) (hw6 : w ≤ 6) (q2 : ν 1 0 = nI h) (hh : h < 20000) : ∀ (d u n x : Nat), u + d = w → d < n → f_X9_dueNow_9 ν n (nI p) (nI x) (nI u) = some (nI (x + r_du (ν 1) s c h d u)) := by
  have v0 : ν 1 (0 : Int32).toNatClampNeg = nI h := by rw [pr_cl 0 (by omega), q2]
  have o0 : f_X9_ofCopy (nI p) 0 ν = some (nI s) := by rw [show (0 : Int32) = nI 0 from rfl, pr_ofCopy ν (i := p) (k := 0) (by omega), Nat.add_zero, k0]
  have o2 : f_X9_ofCopy (nI p) 2 ν = some 1 := by rw [show (2 : Int32) = nI 2 from rfl, pr_ofCopy ν (i := p) (k := 2) (by omega), k2]
  have o7 : f_X9_ofStory (nI s) 7 ν = some (nI w) := by rw [show (7 : Int32) = nI 7 from rfl, pr_ofStory ν (i := s) (k := 7) (by omega), hw]
  intro d
  induction d with
  | zero =>
    intro u n x hu hn
    obtain ⟨n, rfl⟩ : ∃ q, n = q + 1 := ⟨n - 1, by omega⟩
    rw [f_X9_dueNow_9, o2, pr_b, if_pos rfl, o0, pr_b, o7, pr_b, if_pos (by rw [pr_le (by omega) (by omega)]; omega)]
    rfl
  | succ d ih =>
    intro u n x hu hn
    obtain ⟨n, rfl⟩ : ∃ q, n = q + 1 := ⟨n - 1, by omega⟩
    have nu : ¬ nI w ≤ nI u := by rw [pr_le (by omega) (by omega)]; omega
    have e1 : nI u + 1 = nI (u + 1) := nI_add u 1
    have e2 : nI x + 1 = nI (x + 1) := nI_add x 1
    have i0 := ih (u + 1) n x (by omega) (by omega)
    have i1 := ih (u + 1) n (x + 1) (by omega) (by omega)
    have cd := r_correctionDue ν (ν 1) (u := u) hp hs hc (by omega) k0 k1
    rw [pr_sRe] at cd
    rw [f_X9_dueNow_9, o2, pr_b, if_pos rfl, o0, pr_b, o7, pr_b, if_neg nu, pr_gN (by decide) (by decide), cd, pr_b, v0, pr_z, e1, e2, i0, i1, r_du]
    by_cases hd : (ν 1 (107 + 29 * s + (10 + u)) + ν 1 (7 + 10 * c + 2)).toInt ≤ h
    · have : ¬ nI h < ν 1 (107 + 29 * s + (10 + u)) + ν 1 (7 + 10 * c + 2) := by rw [pr_hLt (by omega)]; exact fun g => g hd
      rw [if_neg this, if_pos hd, Nat.add_assoc]
    · have : nI h < ν 1 (107 + 29 * s + (10 + u)) + ν 1 (7 + 10 * c + 2) := by rw [pr_hLt (by omega)]; exact hd
      rw [if_pos this, if_neg hd, Nat.zero_add]
/-- what is due for a copy: both alike -/
theorem r_dueB {σ : ed_SM} {ν : em_MM} {h nC nS nK p : Nat} (hR : r_R σ (ν 1) h nC nS nK 160) (hp : p < nK) : ∃ y, y ≤ 6 ∧ f_X5_correctionsDue p σ = some (nI y) ∧ f_X9_dueNow (nI p) ν = some (nI y) := by
  obtain ⟨⟨q1, q2, q3, q4, q5, q6, q7, q8, q9, q10, b1, b2, b3, b4⟩, qC, qP, qS, qK, qL, qN⟩ := id hR
  obtain ⟨s, c, hs, hc, k0, k1, t5, t6, t7⟩ := qK.2.1 p hp
  obtain ⟨-, -, -, ⟨w, d1, d2, -⟩, -⟩ := qS s hs
  have o5 : f_X9_ofCopy (nI p) 5 ν = some (ν 1 (687 + 6 * p + 5)) := pr_ofCopy ν (i := p) (k := 5) (by omega)
  have o2 : f_X9_ofCopy (nI p) 2 ν = some (ν 1 (687 + 6 * p + 2)) := pr_ofCopy ν (i := p) (k := 2) (by omega)
  unfold f_X9_dueNow
  rw [o5, pr_b]
  by_cases h1 : ν 1 (687 + 6 * p + 2) = 1
  · obtain ⟨u, u1, u2, u3⟩ := t7 (by omega) h1
    rw [d2, nI_toInt (by omega)] at u3
    have g := r_due9_L ν (by omega) (by omega) (by omega) k0 k1 h1 d2 d1 q2 b4 (w - u) u ed_N 0 (by omega) (by unfold ed_N; omega)
    rw [Nat.zero_add] at g
    refine ⟨r_du (ν 1) s c h (w - u) u, ?_, r_duec hR hp hs hc k0 k1 h1 u1 d2 d1 (by omega), ?_⟩
    · have := r_du_le (ν 1) s c h (w - u) u
      omega
    · rw [u1]; exact g
  · refine ⟨0, by omega, r_due0 hR hp hs hc k0 k1 h1, ?_⟩
    have y : ∀ n, f_X9_dueNow_9 ν (n + 1) (nI p) 0 (ν 1 (687 + 6 * p + 5)) = some (nI 0) := fun n => by
      rw [f_X9_dueNow_9, o2, pr_b, if_neg h1]
      rfl
    exact y 9999
theorem m_copy {μ : ed_CM} {ν : em_MM} (hR : r_REL μ ν) (x1 x2 x3 : Int32) : r_okI (f_X8_copy x1 x2 x3 μ) (f_X9_copy x1 x2 x3 ν) := by
  obtain ⟨h, nC, nS, nK, hh, hX⟩ := id hR.1
  obtain ⟨⟨q1, q2, q3, q4, q5, q6, q7, q8, q9, q10, b1, b2, b3, b4⟩, qC, qP, qS, qK, -⟩ := id hX
  unfold f_X8_copy f_X9_copy
  have none' : f_X5_copyFor x1 x2 (μ 0) = some none → r_okI (some (-1)) (ed_b (f_X9_isStory x1 ν) (fun r1 => if r1 = 0 then some (-1) else (ed_b (f_X9_isClient x2 ν) (fun r3 => if r3 = 0 then some (-1) else some (-1))))) := by
    intro _
    rcases pr_split x1 (n := nS) (by omega) with ⟨s, hs, rfl⟩ | hx
    · rw [pr_isS1 q6 b2 hs, pr_b, if_neg (show ¬ (1 : Int32) = 0 by decide)]
      rcases pr_split x2 (n := nC) (by omega) with ⟨c, hc, rfl⟩ | hx
      · rw [pr_isC1 q8 b1 hc, pr_b, if_neg (show ¬ (1 : Int32) = 0 by decide)]; exact r_okI.mk _
      · rw [pr_isC0 q8 b1 hx, pr_b, if_pos rfl]; exact r_okI.mk _
    · rw [pr_isS0 q6 b2 hx, pr_b, if_pos rfl]; exact r_okI.mk _
  rcases r_find hX x1 x2 with ⟨p, hp, g1, g2, g3, g4⟩ | ⟨g1, g2⟩
  · obtain ⟨s, c, hs, hc, k0, k1, t5, t6, t7⟩ := qK.2.1 p hp
    obtain ⟨⟨-, -, -, -, -, a6, -⟩, -, -, ⟨w, d1, d2, d3, -⟩, -⟩ := qS s hs
    have e1 : x1 = nI s := g1.symm.trans k0
    have e2 : x2 = nI c := g2.symm.trans k1
    subst e1
    subst e2
    have o : ∀ k, k < 6 → f_X9_ofCopy (nI p) (nI k) ν = some (ν 1 (687 + 6 * p + k)) := fun k hk => pr_ofCopy ν (i := p) (k := k) (by omega)
    have o2 : f_X9_ofCopy (nI p) 2 ν = some (ν 1 (687 + 6 * p + 2)) := o 2 (by omega)
    have o3 : f_X9_ofCopy (nI p) 3 ν = some (ν 1 (687 + 6 * p + 3)) := o 3 (by omega)
    have o4 : f_X9_ofCopy (nI p) 4 ν = some (ν 1 (687 + 6 * p + 4)) := o 4 (by omega)
    have o5 : f_X9_ofCopy (nI p) 5 ν = some (ν 1 (687 + 6 * p + 5)) := o 5 (by omega)
    have o6 : f_X9_ofStory (nI s) 6 ν = some (ν 1 (107 + 29 * s + 6)) := pr_ofStory ν (i := s) (k := 6) (by omega)
    have o7 : f_X9_ofStory (nI s) 7 ν = some (ν 1 (107 + 29 * s + 7)) := pr_ofStory ν (i := s) (k := 7) (by omega)
    have kd := r_killDue ν (ν 1) (p := p) (s := s) (c := c) (by omega) (by omega) (by omega) k0 k1
    have ud := r_useEnds ν (ν 1) (p := p) (by omega)
    rw [pr_sRe] at kd ud
    obtain ⟨y, y1, y2, y3⟩ := r_dueB hX hp
    have ms := r_missing hX hp hs k0
    have kl := r_kill8 hX hp hs hc k0 k1
    have pos : (0 : Int32) ≤ nI p := by show nI 0 ≤ nI p; rw [pr_le (by omega) (by omega)]; omega
    rw [g3, pr_b, pr_isS1 q6 b2 hs, pr_b, if_neg (show ¬ (1 : Int32) = 0 by decide), pr_isC1 q8 b1 hc, pr_b, if_neg (show ¬ (1 : Int32) = 0 by decide), g4, pr_b, if_pos pos]
    show r_okI (ed_g _ _) _
    rw [pr_g (by omega), qK.1 p 2 hp (by omega), qK.1 p 3 hp (by omega), qK.1 p 4 hp (by omega), qK.1 p 5 hp (by omega), ms, y2, kl, o2, o3, o4, o5, o7, o6, y3, kd, ud, pr_b, pr_b]
    have nx : f_X5_nextCorrectionAt p (μ 0) = ed_b (some (if ν 1 (687 + 6 * p + 2) = 1 then ν 1 (107 + 29 * s + 7) - ν 1 (687 + 6 * p + 5) else 0)) (fun r4 => (if r4 = 0 then some (-5) else ed_b (f_X6_correctedAt s (ν 1 (687 + 6 * p + 5)) (μ 0)) (fun r6 => (some (r6 + ν 1 (7 + 10 * c + 2)))))) := by
      unfold f_X5_nextCorrectionAt
      rw [qK.1 p 0 hp (by omega), Nat.add_zero, k0, pr_storyAt q5 b2 hs, pr_b]
      show ed_g _ _ = _
      rw [pr_g (by omega), qK.1 p 1 hp (by omega), k1, pr_clientAt q7 b1 hc, pr_b]
      show ed_g _ _ = _
      rw [pr_g (by omega), ms, qK.1 p 5 hp (by omega), qC.1 c 2 hc (by omega)]
    have us : f_X5_useEndsAt p (μ 0) = if ν 1 (687 + 6 * p + 2) = 1 then ν 1 (687 + 6 * p + 4) + ν 1 4 * 24 else -5 := by
      unfold f_X5_useEndsAt
      rw [qK.1 p 2 hp (by omega), qK.1 p 4 hp (by omega), q3]
    rw [nx, us]
    by_cases h1 : ν 1 (687 + 6 * p + 2) = 1
    · obtain ⟨u, u1, u2, u3⟩ := t7 (by omega) h1
      rw [d2, nI_toInt (by omega)] at u3
      simp only [if_pos h1, pr_b]
      refine r_okI.ite (fun _ => r_okI.mk _) (fun _ => r_okI.ite (fun _ => r_okI.mk _) (fun _ => r_okI.ite (fun _ => r_okI.mk _) (fun _ => r_okI.ite (fun _ => r_okI.mk _) (fun _ => r_okI.ite (fun _ => r_okI.mk _) (fun _ => r_okI.ite (fun _ => r_okI.mk _) (fun _ => r_okI.ite (fun _ => ?_) (fun _ => r_okI.ite (fun _ => ?_) (fun _ => r_okI.ite (fun _ => r_okI.mk _) (fun _ => r_okI.mk _)))))))))
      · rw [u1, d2]
        have sb : nI w - nI u = nI (w - u) := pk_sub (a := w) (b := u) (by omega)
        rw [sb]
        by_cases hwu : w = u
        · subst hwu
          rw [Nat.sub_self, if_pos (show nI 0 = 0 from rfl), if_pos (show nI 0 ≤ 0 by decide)]
          exact r_okI.mk _
        · have c1 : ¬ nI (w - u) = 0 := by show ¬ nI (w - u) = nI 0; rw [pr_eq (by omega) (by omega)]; omega
          have c2 : ¬ nI (w - u) ≤ 0 := by show ¬ nI (w - u) ≤ nI 0; rw [pr_le (by omega) (by omega)]; omega
          have cd := r_correctionDue ν (ν 1) (u := u) (by omega) (by omega) (by omega) (by omega) k0 k1
          rw [pr_sRe] at cd
          rw [if_neg c1, if_neg c2, cd, pr_correctedAt (a6.trans d2) d1 (by omega), (d3 u (by omega)).1, pr_b, pr_b]
          exact r_okI.mk _
      · by_cases h3 : ν 1 (107 + 29 * s + 6) = 3
        · rw [if_pos h3, if_pos h3]; exact r_okI.mk _
        · rw [if_neg h3, if_neg h3]; exact r_okI.mk _
    · simp only [if_neg h1, pr_b]
      refine r_okI.ite (fun _ => r_okI.mk _) (fun _ => r_okI.ite (fun _ => r_okI.mk _) (fun _ => r_okI.ite (fun _ => r_okI.mk _) (fun _ => r_okI.ite (fun _ => r_okI.mk _) (fun _ => r_okI.ite (fun _ => r_okI.mk _) (fun _ => r_okI.ite (fun _ => r_okI.mk _) (fun _ => r_okI.ite (fun _ => ?_) (fun _ => r_okI.ite (fun _ => ?_) (fun _ => r_okI.ite (fun _ => r_okI.mk _) (fun _ => r_okI.mk _)))))))))
      · rw [if_pos trivial, pr_b]; exact r_okI.mk _
      · by_cases h3 : ν 1 (107 + 29 * s + 6) = 3
        · rw [if_pos h3]; exact r_okI.mk _
        · rw [if_neg h3]; exact r_okI.mk _
  · have := none' g1
    rw [g1, g2]
    simp only [pr_b] at this ⊢
    exact this
