/-! Hours, one after the other, in a state's numbers: what hours do depends on these alone. -/
def hv (v : Nat → Int32) : Nat → Int32 := match f_X9_oneHour (em_sR (fun _ _ => 0) 1 v) with
  | some (_, ν') => ν' 1
  | none => v
def hvn : Nat → (Nat → Int32) → (Nat → Int32)
  | 0, v => v
  | n + 1, v => hvn n (hv v)
theorem hvn_add : ∀ (m k : Nat) (v : Nat → Int32), hvn (m + k) v = hvn k (hvn m v)
  | 0, k, v => by
    rw [Nat.zero_add]
    rfl
  | m + 1, k, v => by
    rw [show m + 1 + k = (m + k) + 1 by omega]
    exact hvn_add m k (hv v)
theorem j_hv {σ : ed_SM} {v : Nat → Int32} {h nC nS nK : Nat} (hR : r_R σ v h nC nS nK 160) (hh : h + 1 < 20000) : ∃ σ' nK', f_X5_passHour σ = some σ' ∧ r_R σ' (hv v) (h + 1) nC nS nK' 160 ∧ nK ≤ nK' ∧ r_fk v (hv v) nK := by
  obtain ⟨σ', v', nK', came, h1, h2, h3, h4, h5, h6⟩ := r_hour (fun _ _ => 0) hR hh
  have e : hv v = v' := by
    unfold hv
    rw [h2]
    exact pr_sR1 _ _
  rw [e]
  exact ⟨σ', nK', h1, h3, h4, h5⟩
theorem j_RJ {σ : ed_SM} {v : Nat → Int32} {M pd : Int} {h nC nS nK h' nC' nS' nK' e : Nat} (hR : r_R σ v h nC nS nK e) (H : j_J σ M pd h' nC' nS' nK') : h = h' ∧ nC = nC' ∧ nS = nS' ∧ nK = nK' := by
  obtain ⟨⟨q1, q2, q3, q4, q5, q6, q7, q8, q9, q10, b1, b2, b3, b4⟩, -⟩ := hR
  obtain ⟨⟨a0, a3, a4, a5, a6, a7, a8, a9⟩, -⟩ := H
  exact ⟨(nI_eq (by omega) (by omega)).mp (q1.symm.trans a0), (nI_eq (by omega) (by omega)).mp (q7.symm.trans a4), (nI_eq (by omega) (by omega)).mp (q5.symm.trans a3), (nI_eq (by omega) (by omega)).mp (q9.symm.trans a5)⟩
theorem j_pass52 {m nC nS : Nat} (T : Int32) (hm : m ≤ 100) {pd : Int} : ∀ (d i n h nK : Nat) (M : Int) (μ : ed_CM) (v : Nat → Int32), i + d = m → d < n → h + d ≤ 9999 → r_R (μ 0) v h nC nS nK 160 → j_J (μ 0) M pd h nC nS nK → M + 1600000 * d + 1 ≤ 2000000000 → ∃ σ' nK', f_X8_pass_52 n (nI m) T (nI i) μ = some (r_sum (hvn d v) nC - T, ed_sJ μ 0 σ') ∧ r_R σ' (hvn d v) (h + d) nC nS nK' 160 ∧ j_J σ' (M + 1600000 * d) pd (h + d) nC nS nK' ∧ nK ≤ nK' ∧ r_fk v (hvn d v) nK := by
  intro d
  induction d with
  | zero =>
    intro i n h nK M μ v hi hn hh hR H hM
    obtain ⟨n, rfl⟩ : ∃ q, n = q + 1 := ⟨n - 1, by omega⟩
    refine ⟨μ 0, nK, ?_, hR, H.mono (by omega), Nat.le_refl _, fun q _ => ⟨rfl, rfl⟩⟩
    rw [f_X8_pass_52, if_pos (show nI m ≤ nI i by rw [pr_le (by omega) (by omega)]; omega), r_came hR, pr_b, ed_sJ_eta]
    rfl
  | succ d ih =>
    intro i n h nK M μ v hi hn hh hR H hM
    obtain ⟨n, rfl⟩ : ∃ q, n = q + 1 := ⟨n - 1, by omega⟩
    obtain ⟨σ1, nK1, g1, g2, g3, g4⟩ := j_hv hR (by omega)
    obtain ⟨nK2, g5, g6⟩ := j_hour H (by omega) (by omega) g1
    obtain ⟨-, -, -, e2⟩ := j_RJ g2 g6
    subst e2
    obtain ⟨σ', nK3, y1, y2, y3, y4, y5⟩ := ih (i + 1) n (h + 1) nK1 (M + 1600000) (ed_sJ μ 0 σ1) (hv v) (by omega) (by omega) (by omega) (by rw [ed_sJ_self]; exact g2) (by rw [ed_sJ_self]; exact g6) (by omega)
    refine ⟨σ', nK3, ?_, ?_, ?_, by omega, g4.tr y5 g3⟩
    · rw [f_X8_pass_52, if_neg (show ¬ nI m ≤ nI i by rw [pr_le (by omega) (by omega)]; omega), g1, pr_b, pr_t, nI_1, y1, ed_sJ_sJ]
      rfl
    · rw [show h + (d + 1) = h + 1 + d by omega]; exact y2
    · rw [show h + (d + 1) = h + 1 + d by omega]; exact y3.mono (by omega)
theorem j_would48 {m c nC nS : Nat} (T : Int32) (hm : m ≤ 100) (hc : c < nC) : ∀ (d i n h nK : Nat) (μ : ed_CM) (v : Nat → Int32), i + d = m → d < n → h + d < 19999 → r_R (μ 1) v h nC nS nK 160 → ∃ σ', f_X8_wouldCome_48 n c (nI m) T (nI i) μ = some (hvn d v (7 + 10 * c + 8) - T, ed_sJ μ 1 σ') := by
  intro d
  induction d with
  | zero =>
    intro i n h nK μ v hi hn hh hR
    obtain ⟨n, rfl⟩ : ∃ q, n = q + 1 := ⟨n - 1, by omega⟩
    refine ⟨μ 1, ?_⟩
    rw [f_X8_wouldCome_48, if_pos (show nI m ≤ nI i by rw [pr_le (by omega) (by omega)]; omega), ed_sJ_eta, hR.2.1.1 c 8 hc (by omega)]
    rfl
  | succ d ih =>
    intro i n h nK μ v hi hn hh hR
    obtain ⟨n, rfl⟩ : ∃ q, n = q + 1 := ⟨n - 1, by omega⟩
    obtain ⟨σ1, nK1, g1, g2, g3, g4⟩ := j_hv hR (by omega)
    obtain ⟨σ', y1⟩ := ih (i + 1) n (h + 1) nK1 (ed_sJ μ 1 σ1) (hv v) (by omega) (by omega) (by omega) (by rw [ed_sJ_self]; exact g2)
    refine ⟨σ', ?_⟩
    rw [f_X8_wouldCome_48, if_neg (show ¬ nI m ≤ nI i by rw [pr_le (by omega) (by omega)]; omega), g1, pr_b, pr_t, nI_1, y1, ed_sJ_sJ]
    rfl
theorem j_would {μ : ed_CM} {v : Nat → Int32} {h nC nS nK c m : Nat} (hR : r_R (μ 0) v h nC nS nK 160) (hh : h ≤ 9999) (hc : c < nC) (hm : 1 ≤ m ∧ m ≤ 100) : ∃ σ', f_X8_wouldCome (nI c) (nI m) μ = some (hvn m v (7 + 10 * c + 8) - v (7 + 10 * c + 8), ed_sJ μ 1 σ') := by
  obtain ⟨σ1, c1, c2⟩ := r_copyFrom hR (μ 1)
  obtain ⟨⟨q1, q2, q3, q4, q5, q6, q7, q8, q9, q10, b1, b2, b3, b4⟩, qC, -⟩ := id c2
  have hb : ¬ f_X8_isBetween (nI m) 1 100 = 0 := by
    rw [pr_8in, if_neg (show ¬ nI m < 1 by show ¬ nI m < nI 1; rw [pr_lt (by omega) (by omega)]; omega), if_neg (show ¬ 100 < nI m by show ¬ nI 100 < nI m; rw [pr_lt (by omega) (by omega)]; omega)]
    decide
  obtain ⟨σ', y1⟩ := j_would48 (nC := nC) (nS := nS) (v (7 + 10 * c + 8)) hm.2 hc m 0 ed_N h nK (ed_sJ μ 1 σ1) v (by omega) (by unfold ed_N; omega) (by omega) (by rw [ed_sJ_self]; exact c2)
  refine ⟨σ', ?_⟩
  unfold f_X8_wouldCome
  rw [c1, pr_b, pr_t, ed_sJ_self, pr_clientAt q7 b1 hc, pr_b]
  show ed_g (c < 8) _ = _
  rw [pr_g (by omega), if_neg hb, qC.1 c 8 hc (by omega)]
  have y2 : f_X8_wouldCome_48 ed_N c (nI m) (v (7 + 10 * c + 8)) 0 (ed_sJ μ 1 σ1) = _ := y1
  rw [y2, ed_sJ_sJ]
/-- after how many hours a copy carries all corrections -/
def j_car (p s : Nat) : Nat → Nat → (Nat → Int32) → Int32
  | 0, k, w => if w (687 + 6 * p + 2) = 1 then (if w (687 + 6 * p + 5) = w (107 + 29 * s + 7) then nI k else -5) else -5
  | d + 1, k, w => if w (687 + 6 * p + 2) = 1 then (if w (687 + 6 * p + 5) = w (107 + 29 * s + 7) then nI k else j_car p s d (k + 1) (hv w)) else j_car p s d (k + 1) (hv w)
theorem j_car45 {p s nC nS : Nat} (hs : s < nS) : ∀ (d k n h nK : Nat) (μ : ed_CM) (w : Nat → Int32), k + d = 100 → d + 1 < n → h + d < 19999 → r_R (μ 1) w h nC nS nK 160 → p < nK → ∃ σ', (if (μ 1 12 p 2) = 1 then (if (μ 1 12 p 5) = (μ 1 7 s 7) then some (nI k, μ) else f_X8_carriedIn_45 n p s (nI k + 1) μ) else f_X8_carriedIn_45 n p s (nI k + 1) μ) = some (j_car p s d k w, ed_sJ μ 1 σ') := by
  intro d
  induction d with
  | zero =>
    intro k n h nK μ w hk hn hh hR hp
    obtain ⟨n, rfl⟩ : ∃ q, n = q + 1 := ⟨n - 1, by omega⟩
    have e2 : μ 1 12 p 2 = w (687 + 6 * p + 2) := hR.2.2.2.2.1.1 p 2 hp (by omega)
    have e5 : μ 1 12 p 5 = w (687 + 6 * p + 5) := hR.2.2.2.2.1.1 p 5 hp (by omega)
    have e7 : μ 1 7 s 7 = w (107 + 29 * s + 7) := (hR.2.2.2.1 s hs).1.2.2.2.2.2.1
    have last : f_X8_carriedIn_45 (n + 1) p s (nI k + 1) μ = some (-5, μ) := by
      rw [nI_1, f_X8_carriedIn_45, if_pos (show 100 < nI (k + 1) by show nI 100 < nI (k + 1); rw [pr_lt (by omega) (by omega)]; omega)]
    refine ⟨μ 1, ?_⟩
    rw [ed_sJ_eta, e2, e5, e7, last, j_car]
    split
    · split <;> rfl
    · rfl
  | succ d ih =>
    intro k n h nK μ w hk hn hh hR hp
    obtain ⟨n, rfl⟩ : ∃ q, n = q + 1 := ⟨n - 1, by omega⟩
    have e2 : μ 1 12 p 2 = w (687 + 6 * p + 2) := hR.2.2.2.2.1.1 p 2 hp (by omega)
    have e5 : μ 1 12 p 5 = w (687 + 6 * p + 5) := hR.2.2.2.2.1.1 p 5 hp (by omega)
    have e7 : μ 1 7 s 7 = w (107 + 29 * s + 7) := (hR.2.2.2.1 s hs).1.2.2.2.2.2.1
    obtain ⟨σ1, nK1, g1, g2, g3, g4⟩ := j_hv hR (by omega)
    obtain ⟨σ', y1⟩ := ih (k + 1) n (h + 1) nK1 (ed_sJ μ 1 σ1) (hv w) (by omega) (by omega) (by omega) (by rw [ed_sJ_self]; exact g2) (by omega)
    have step : f_X8_carriedIn_45 (n + 1) p s (nI k + 1) μ = some (j_car p s d (k + 1) (hv w), ed_sJ μ 1 σ') := by
      rw [nI_1, f_X8_carriedIn_45, if_neg (show ¬ 100 < nI (k + 1) by show ¬ nI 100 < nI (k + 1); rw [pr_lt (by omega) (by omega)]; omega), if_neg (show ¬ nI (k + 1) ≤ 0 by show ¬ nI (k + 1) ≤ nI 0; rw [pr_le (by omega) (by omega)]; omega), g1, pr_b, pr_t]
      rw [ed_sJ_sJ] at y1
      exact y1
    rw [e2, e5, e7, step, j_car]
    by_cases h1 : w (687 + 6 * p + 2) = 1
    · rw [if_pos h1, if_pos h1]
      by_cases h2 : w (687 + 6 * p + 5) = w (107 + 29 * s + 7)
      · rw [if_pos h2, if_pos h2]
        exact ⟨μ 1, by rw [ed_sJ_eta]⟩
      · rw [if_neg h2, if_neg h2]
        exact ⟨σ', rfl⟩
    · rw [if_neg h1, if_neg h1]
      exact ⟨σ', rfl⟩
theorem j_find {σ : ed_SM} {v : Nat → Int32} {h nC nS nK p : Nat} {x1 x2 : Int32} (hR : r_R σ v h nC nS nK 160) (hp : p < nK) (k0 : v (687 + 6 * p) = x1) (k1 : v (687 + 6 * p + 1) = x2) : f_X5_copyFor x1 x2 σ = some (some p) := by
  have b3 : nK ≤ 160 := hR.1.2.2.2.2.2.2.2.2.2.2.2.2.1
  rcases r_find_L hR x1 x2 nK 0 ed_N (by omega) (by unfold ed_N; omega) with ⟨q, -, hq, z1, z2, z3⟩ | ⟨z1, -⟩
  · have e : q = p := hR.2.2.2.2.1.2.2 q p hq hp (z1.trans k0.symm) (z2.trans k1.symm)
    subst e
    exact z3
  · exact absurd ⟨k0, k1⟩ (z1 p (Nat.zero_le _) hp)
theorem j_carried {μ : ed_CM} {v : Nat → Int32} {h nC nS nK p s c : Nat} (hR : r_R (μ 0) v h nC nS nK 160) (hh : h ≤ 9999) (hp : p < nK) (hs : s < nS) (k0 : v (687 + 6 * p) = nI s) (k1 : v (687 + 6 * p + 1) = nI c) : ∃ σ', f_X8_carriedIn (nI s) (nI c) μ = some (j_car p s 100 0 v, ed_sJ μ 1 σ') := by
  obtain ⟨σ1, c1, c2⟩ := r_copyFrom hR (μ 1)
  obtain ⟨⟨q1, q2, q3, q4, q5, q6, q7, q8, q9, q10, b1, b2, b3, b4⟩, -⟩ := id c2
  obtain ⟨σ', y1⟩ := j_car45 (nC := nC) (p := p) hs 100 0 9999 h nK (ed_sJ μ 1 σ1) v (by omega) (by omega) (by omega) (by rw [ed_sJ_self]; exact c2) hp
  refine ⟨σ', ?_⟩
  unfold f_X8_carriedIn
  rw [c1, pr_b, pr_t, ed_sJ_self, j_find c2 hp k0 k1, pr_b]
  show ed_g (p < 160) _ = _
  rw [pr_g (by omega), pr_storyAt q5 b2 hs, pr_b]
  show ed_g (s < 20) _ = _
  rw [pr_g (by omega)]
  show f_X8_carriedIn_45 (9999 + 1) p s (nI 0) _ = _
  rw [f_X8_carriedIn_45, if_neg (show ¬ 100 < nI 0 by decide), if_pos (show nI 0 ≤ 0 by decide), y1, ed_sJ_sJ]
def j_cd (p s : Nat) (w : Nat → Int32) : Prop := w (687 + 6 * p + 2) = 1 ∧ w (687 + 6 * p + 5) = w (107 + 29 * s + 7)
theorem j_car_hit (p s : Nat) : ∀ (d k j : Nat) (w : Nat → Int32), j ≤ d → j_cd p s (hvn j w) → (∀ i, i < j → ¬ j_cd p s (hvn i w)) → j_car p s d k w = nI (k + j) := by
  intro d
  induction d with
  | zero =>
    intro k j w hj h1 h2
    obtain rfl : j = 0 := by omega
    have h1 : j_cd p s w := h1
    rw [j_car, if_pos h1.1, if_pos h1.2]
    rfl
  | succ d ih =>
    intro k j w hj h1 h2
    cases j with
    | zero =>
      have h1 : j_cd p s w := h1
      rw [j_car, if_pos h1.1, if_pos h1.2]
      rfl
    | succ j =>
      have h3 : ¬ j_cd p s w := h2 0 (by omega)
      have h4 := ih (k + 1) j (hv w) (by omega) h1 (fun i hi => h2 (i + 1) (by omega))
      rw [j_car, h4, show k + 1 + j = k + (j + 1) by omega]
      split
      · split
        · rename_i z1 z2
          exact absurd ⟨z1, z2⟩ h3
        · rfl
      · rfl
theorem j_car_none (p s : Nat) : ∀ (d k : Nat) (w : Nat → Int32), (∀ i, i ≤ d → ¬ j_cd p s (hvn i w)) → j_car p s d k w = -5 := by
  intro d
  induction d with
  | zero =>
    intro k w h2
    have h3 : ¬ j_cd p s w := h2 0 (by omega)
    rw [j_car]
    split
    · split
      · rename_i z1 z2
        exact absurd ⟨z1, z2⟩ h3
      · rfl
    · rfl
  | succ d ih =>
    intro k w h2
    have h3 : ¬ j_cd p s w := h2 0 (by omega)
    have h4 := ih (k + 1) (hv w) (fun i hi => h2 (i + 1) (by omega))
    rw [j_car, h4]
    split
    · split
      · rename_i z1 z2
        exact absurd ⟨z1, z2⟩ h3
      · rfl
    · rfl
theorem j_least (P : Nat → Prop) : ∀ (d : Nat), (∃ j, j ≤ d ∧ P j ∧ ∀ i, i < j → ¬ P i) ∨ ∀ i, i ≤ d → ¬ P i := by
  intro d
  induction d with
  | zero =>
    by_cases h : P 0
    · exact Or.inl ⟨0, Nat.le_refl 0, h, fun i hi => absurd hi (Nat.not_lt_zero i)⟩
    · exact Or.inr (fun i hi => by
        obtain rfl : i = 0 := by omega
        exact h)
  | succ d ih =>
    rcases ih with ⟨j, h1, h2, h3⟩ | ih
    · exact Or.inl ⟨j, by omega, h2, h3⟩
    · by_cases h : P (d + 1)
      · exact Or.inl ⟨d + 1, Nat.le_refl _, h, fun i hi => ih i (by omega)⟩
      · refine Or.inr (fun i hi => ?_)
        by_cases he : i = d + 1
        · rw [he]; exact h
        · exact ih i (by omega)
