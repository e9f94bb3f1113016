/-! Counting. -/
def r_seg (f : Nat → Nat) : Nat → Nat → Nat
  | 0, _ => 0
  | d + 1, p => f p + r_seg f d (p + 1)
theorem r_seg_cg {f g : Nat → Nat} : ∀ (d p : Nat), (∀ q, p ≤ q → q < p + d → f q = g q) → r_seg f d p = r_seg g d p
  | 0, _, _ => rfl
  | d + 1, p, h => by
    show f p + r_seg f d (p + 1) = g p + r_seg g d (p + 1)
    rw [h p (by omega) (by omega), r_seg_cg d (p + 1) (fun q h1 h2 => h q (by omega) (by omega))]
theorem r_seg_add {f g k : Nat → Nat} : ∀ (d p : Nat), (∀ q, p ≤ q → q < p + d → k q = f q + g q) → r_seg k d p = r_seg f d p + r_seg g d p
  | 0, _, _ => rfl
  | d + 1, p, h => by
    show k p + r_seg k d (p + 1) = f p + r_seg f d (p + 1) + (g p + r_seg g d (p + 1))
    rw [h p (by omega) (by omega), r_seg_add (f := f) (g := g) d (p + 1) (fun q h1 h2 => h q (by omega) (by omega))]
    omega
theorem r_seg_le {f : Nat → Nat} (h : ∀ q, f q ≤ 1) : ∀ (d p : Nat), r_seg f d p ≤ d
  | 0, _ => Nat.le_refl 0
  | d + 1, p => by
    show f p + r_seg f d (p + 1) ≤ d + 1
    have := r_seg_le h d (p + 1)
    have := h p
    omega
theorem pr_z (x : Nat) : nI x + 0 = nI x := Int32.add_zero _
def r_fitK (σ : ed_SM) (x1 x2 x3 : Int32) (p : Nat) : Nat := if (f_X5_fits x1 (σ 12 p 0)) = 0 then 0 else if (f_X5_fits x2 (σ 12 p 1)) = 0 then 0 else if (f_X5_fits x3 (σ 12 p 2)) = 0 then 0 else 1
theorem r_copiesOf_L {σ : ed_SM} {nK : Nat} (q9 : σ 0 0 5 = nI nK) (b3 : nK ≤ 160) (x1 x2 x3 : Int32) : ∀ (d p n x : Nat), p + d = nK → d < n → f_X5_copiesOf_6 σ n x1 x2 x3 (nI x) (nI p) = some (nI (x + r_seg (r_fitK σ x1 x2 x3) d p)) := by
  intro d
  induction d with
  | zero =>
    intro p n x hp hn
    obtain ⟨n, rfl⟩ : ∃ q, n = q + 1 := ⟨n - 1, by omega⟩
    rw [f_X5_copiesOf_6, q9, if_pos (by rw [pr_le (by omega) (by omega)]; omega)]
    rfl
  | succ d ih =>
    intro p n x hp hn
    obtain ⟨n, rfl⟩ : ∃ q, n = q + 1 := ⟨n - 1, by omega⟩
    have np : ¬ nI nK ≤ nI p := by rw [pr_le (by omega) (by omega)]; omega
    have e1 : nI p + 1 = nI (p + 1) := nI_add p 1
    have e2 : nI x + 1 = nI (x + 1) := nI_add x 1
    rw [f_X5_copiesOf_6, q9, if_neg np, pr_copyMade q9 b3 (by omega), pr_b]
    show ed_g _ _ = some (nI (x + (r_fitK σ x1 x2 x3 p + r_seg (r_fitK σ x1 x2 x3) d (p + 1))))
    have i0 := ih (p + 1) n x (by omega) (by omega)
    have i1 := ih (p + 1) n (x + 1) (by omega) (by omega)
    rw [pr_g (by omega), e1, e2, i0, i1]
    unfold r_fitK
    by_cases h1 : (f_X5_fits x1 (σ 12 p 0)) = 0
    · rw [if_pos h1, if_pos h1, Nat.zero_add]
    · rw [if_neg h1, if_neg h1]
      by_cases h2 : (f_X5_fits x2 (σ 12 p 1)) = 0
      · rw [if_pos h2, if_pos h2, Nat.zero_add]
      · rw [if_neg h2, if_neg h2]
        by_cases h3 : (f_X5_fits x3 (σ 12 p 2)) = 0
        · rw [if_pos h3, if_pos h3, Nat.zero_add]
        · rw [if_neg h3, if_neg h3, Nat.add_assoc]
theorem r_copiesOf {σ : ed_SM} {nK : Nat} (q9 : σ 0 0 5 = nI nK) (b3 : nK ≤ 160) (x1 x2 x3 : Int32) : f_X5_copiesOf x1 x2 x3 σ = some (nI (r_seg (r_fitK σ x1 x2 x3) nK 0)) := by
  have h := r_copiesOf_L q9 b3 x1 x2 x3 nK 0 ed_N 0 (by omega) (by unfold ed_N; omega)
  rw [Nat.zero_add] at h
  exact h
theorem r_fits (x y : Int32) : f_X5_fits x y = if x = -1 then 1 else if x = y then 1 else 0 := rfl
theorem r_setUp_L (ν : em_MM) {nK : Nat} (v3 : ν 1 3 = nI nK) (b3 : nK ≤ 160) (x1 : Int32) : ∀ (d p n x : Nat), p + d = nK → d < n → f_X9_setUp_39 n x1 (nI x) (nI p) ν = some (nI (x + r_seg (fun q => if ν 1 (687 + 6 * q + 1) = x1 then (if 1 < ν 1 (687 + 6 * q + 2) then 0 else 1) else 0) d p), ν) := by
  intro d
  induction d with
  | zero =>
    intro p n x hp hn
    obtain ⟨n, rfl⟩ : ∃ q, n = q + 1 := ⟨n - 1, by omega⟩
    rw [f_X9_setUp_39, pr_gN (by decide) (by decide), pr_cl 3 (by omega), v3, if_pos (by rw [pr_le (by omega) (by omega)]; omega)]
    rfl
  | succ d ih =>
    intro p n x hp hn
    obtain ⟨n, rfl⟩ : ∃ q, n = q + 1 := ⟨n - 1, by omega⟩
    have np : ¬ nI nK ≤ nI p := by rw [pr_le (by omega) (by omega)]; omega
    have e1 : nI p + 1 = nI (p + 1) := nI_add p 1
    have e2 : nI x + 1 = nI (x + 1) := nI_add x 1
    have o1 : f_X9_ofCopy (nI p) 1 ν = some (ν 1 (687 + 6 * p + 1)) := pr_ofCopy ν (i := p) (k := 1) (by omega)
    have o2 : f_X9_ofCopy (nI p) 2 ν = some (ν 1 (687 + 6 * p + 2)) := pr_ofCopy ν (i := p) (k := 2) (by omega)
    have i0 := ih (p + 1) n x (by omega) (by omega)
    have i1 := ih (p + 1) n (x + 1) (by omega) (by omega)
    rw [f_X9_setUp_39, pr_gN (by decide) (by decide), pr_cl 3 (by omega), v3, if_neg np, o1, pr_b, o2, pr_b, pr_z, e1, e2, i0, i1, r_seg]
    by_cases h1 : ν 1 (687 + 6 * p + 1) = x1
    · rw [if_pos h1, if_pos h1]
      by_cases h2 : 1 < ν 1 (687 + 6 * p + 2)
      · rw [if_pos h2, if_pos h2, Nat.zero_add]
      · rw [if_neg h2, if_neg h2, Nat.add_assoc]
    · rw [if_neg h1, if_neg h1, Nat.zero_add]
theorem r_inUse_L (ν : em_MM) {nK s : Nat} (v3 : ν 1 3 = nI nK) (b3 : nK ≤ 160) (hs : s < 20) (x2 : Int32) : ∀ (d p n x : Nat), p + d = nK → d < n → f_X9_inUse_5 ν n (nI s) x2 (nI x) (nI p) = some (nI (x + r_seg (fun q => if ν 1 (687 + 6 * q) = nI s then (if ν 1 (687 + 6 * q + 2) = 1 then (if x2 = 0 then 1 else if ν 1 (687 + 6 * q + 5) = ν 1 (107 + 29 * s + 7) then 1 else 0) else 0) else 0) d p)) := by
  intro d
  induction d with
  | zero =>
    intro p n x hp hn
    obtain ⟨n, rfl⟩ : ∃ q, n = q + 1 := ⟨n - 1, by omega⟩
    rw [f_X9_inUse_5, pr_gN (by decide) (by decide), pr_cl 3 (by omega), v3, if_pos (by rw [pr_le (by omega) (by omega)]; omega)]
    rfl
  | succ d ih =>
    intro p n x hp hn
    obtain ⟨n, rfl⟩ : ∃ q, n = q + 1 := ⟨n - 1, by omega⟩
    have np : ¬ nI nK ≤ nI p := by rw [pr_le (by omega) (by omega)]; omega
    have e1 : nI p + 1 = nI (p + 1) := nI_add p 1
    have e2 : nI x + 1 = nI (x + 1) := nI_add x 1
    have o0 : f_X9_ofCopy (nI p) 0 ν = some (ν 1 (687 + 6 * p)) := pr_ofCopy ν (i := p) (k := 0) (by omega)
    have o2 : f_X9_ofCopy (nI p) 2 ν = some (ν 1 (687 + 6 * p + 2)) := pr_ofCopy ν (i := p) (k := 2) (by omega)
    have o5 : f_X9_ofCopy (nI p) 5 ν = some (ν 1 (687 + 6 * p + 5)) := pr_ofCopy ν (i := p) (k := 5) (by omega)
    have o7 : f_X9_ofStory (nI s) 7 ν = some (ν 1 (107 + 29 * s + 7)) := pr_ofStory ν (i := s) (k := 7) (by omega)
    have i0 := ih (p + 1) n x (by omega) (by omega)
    have i1 := ih (p + 1) n (x + 1) (by omega) (by omega)
    rw [f_X9_inUse_5, pr_gN (by decide) (by decide), pr_cl 3 (by omega), v3, if_neg np, o0, pr_b, o2, pr_b, o5, pr_b, o7, pr_b, pr_z, e1, e2, i0, i1, r_seg]
    by_cases h1 : ν 1 (687 + 6 * p) = nI s
    · rw [if_pos h1, if_pos h1]
      by_cases h2 : ν 1 (687 + 6 * p + 2) = 1
      · rw [if_pos h2, if_pos h2]
        by_cases h3 : x2 = 0
        · rw [if_pos h3, if_pos h3, Nat.add_assoc]
        · rw [if_neg h3, if_neg h3]
          by_cases h4 : ν 1 (687 + 6 * p + 5) = ν 1 (107 + 29 * s + 7)
          · rw [if_pos h4, if_pos h4, Nat.add_assoc]
          · rw [if_neg h4, if_neg h4, Nat.zero_add]
      · rw [if_neg h2, if_neg h2, Nat.zero_add]
    · rw [if_neg h1, if_neg h1, Nat.zero_add]
theorem r_inUse (ν : em_MM) {nK s : Nat} (v3 : ν 1 3 = nI nK) (b3 : nK ≤ 160) (hs : s < 20) (x2 : Int32) : f_X9_inUse (nI s) x2 ν = some (nI (r_seg (fun q => if ν 1 (687 + 6 * q) = nI s then (if ν 1 (687 + 6 * q + 2) = 1 then (if x2 = 0 then 1 else if ν 1 (687 + 6 * q + 5) = ν 1 (107 + 29 * s + 7) then 1 else 0) else 0) else 0) nK 0)) := by
  have h := r_inUse_L ν v3 b3 hs x2 nK 0 ed_N 0 (by omega) (by unfold ed_N; omega)
  rw [Nat.zero_add] at h
  exact h
theorem r_clientsFor_L {σ : ed_SM} {nC : Nat} (q7 : σ 0 0 4 = nI nC) (b1 : nC ≤ 8) (x1 : Int32) : ∀ (d p n x : Nat), p + d = nC → d < n → f_X5_clientsFor_4 σ n x1 (nI x) (nI p) = some (nI (x + r_seg (fun q => if (f_X0_hasTopic q x1 σ) = 0 then 0 else 1) d p)) := by
  intro d
  induction d with
  | zero =>
    intro p n x hp hn
    obtain ⟨n, rfl⟩ : ∃ q, n = q + 1 := ⟨n - 1, by omega⟩
    rw [f_X5_clientsFor_4, q7, if_pos (by rw [pr_le (by omega) (by omega)]; omega)]
    rfl
  | succ d ih =>
    intro p n x hp hn
    obtain ⟨n, rfl⟩ : ∃ q, n = q + 1 := ⟨n - 1, by omega⟩
    have np : ¬ nI nC ≤ nI p := by rw [pr_le (by omega) (by omega)]; omega
    have e1 : nI p + 1 = nI (p + 1) := nI_add p 1
    have e2 : nI x + 1 = nI (x + 1) := nI_add x 1
    have i0 := ih (p + 1) n x (by omega) (by omega)
    have i1 := ih (p + 1) n (x + 1) (by omega) (by omega)
    rw [f_X5_clientsFor_4, q7, if_neg np, pr_clientAt q7 b1 (by omega), pr_b]
    show ed_g _ _ = some (nI (x + ((if (f_X0_hasTopic p x1 σ) = 0 then 0 else 1) + r_seg _ d (p + 1))))
    rw [pr_g (by omega), e1, e2, i0, i1]
    by_cases h1 : (f_X0_hasTopic p x1 σ) = 0
    · rw [if_pos h1, if_pos h1, Nat.zero_add]
    · rw [if_neg h1, if_neg h1, Nat.add_assoc]
theorem r_release_L (ν : em_MM) {nC s : Nat} (v1 : ν 1 1 = nI nC) (b1 : nC ≤ 8) (hs : s < 20) : ∀ (d p n x : Nat), p + d = nC → d < n → f_X9_release_43 n (nI s) (nI x) (nI p) ν = some (nI (x + r_seg (fun q => if ((ν 1 (7 + 10 * q) >>> (ν 1 (107 + 29 * s) &&& 31)) &&& 1) = 1 then 1 else 0) d p), ν) := by
  intro d
  induction d with
  | zero =>
    intro p n x hp hn
    obtain ⟨n, rfl⟩ : ∃ q, n = q + 1 := ⟨n - 1, by omega⟩
    rw [f_X9_release_43, pr_gN (by decide) (by decide), pr_cl 1 (by omega), v1, if_pos (by rw [pr_le (by omega) (by omega)]; omega)]
    rfl
  | succ d ih =>
    intro p n x hp hn
    obtain ⟨n, rfl⟩ : ∃ q, n = q + 1 := ⟨n - 1, by omega⟩
    have np : ¬ nI nC ≤ nI p := by rw [pr_le (by omega) (by omega)]; omega
    have e1 : nI p + 1 = nI (p + 1) := nI_add p 1
    have e2 : nI x + 1 = nI (x + 1) := nI_add x 1
    have i0 := ih (p + 1) n x (by omega) (by omega)
    have i1 := ih (p + 1) n (x + 1) (by omega) (by omega)
    have w := r_wants ν (ν 1) (c := p) (s := s) (by omega) hs
    rw [pr_sRe] at w
    rw [f_X9_release_43, pr_gN (by decide) (by decide), pr_cl 1 (by omega), v1, if_neg np, w, pr_b, pr_z, e1, e2, i0, i1, r_seg]
    by_cases h1 : ((ν 1 (7 + 10 * p) >>> (ν 1 (107 + 29 * s) &&& 31)) &&& 1) = 1
    · rw [if_pos h1, if_neg (show ¬ (1 : Int32) = 0 by decide), if_pos h1, Nat.add_assoc]
    · rw [if_neg h1, if_pos rfl, if_neg h1, Nat.zero_add]
theorem r_came_L {σ : ed_SM} {v : Nat → Int32} {nC : Nat} (q7 : σ 0 0 4 = nI nC) (b1 : nC ≤ 8) (qC : ∀ c k, c < nC → k < 10 → σ 11 c k = v (7 + 10 * c + k)) : ∀ (d p n : Nat), p + d = nC → d < n → f_X5_copiesThatCame_4 σ n (r_sum v p) (nI p) = some (r_sum v nC) := by
  intro d
  induction d with
  | zero =>
    intro p n hp hn
    obtain ⟨n, rfl⟩ : ∃ q, n = q + 1 := ⟨n - 1, by omega⟩
    obtain rfl : p = nC := by omega
    rw [f_X5_copiesThatCame_4, q7, if_pos (by rw [pr_le (by omega) (by omega)]; omega)]
  | succ d ih =>
    intro p n hp hn
    obtain ⟨n, rfl⟩ : ∃ q, n = q + 1 := ⟨n - 1, by omega⟩
    have np : ¬ nI nC ≤ nI p := by rw [pr_le (by omega) (by omega)]; omega
    have e1 : nI p + 1 = nI (p + 1) := nI_add p 1
    rw [f_X5_copiesThatCame_4, q7, if_neg np, pr_clientAt q7 b1 (by omega), pr_b]
    show ed_g _ _ = _
    rw [pr_g (by omega), e1, qC p 8 (by omega) (by omega)]
    exact ih (p + 1) n (by omega) (by omega)
theorem r_came {σ : ed_SM} {v : Nat → Int32} {h nC nS nK e : Nat} (hR : r_R σ v h nC nS nK e) : f_X5_copiesThatCame σ = some (r_sum v nC) := by
  obtain ⟨⟨q1, q2, q3, q4, q5, q6, q7, q8, q9, q10, b1, b2, b3, b4⟩, qC, -⟩ := hR
  exact r_came_L q7 b1 qC.1 nC 0 ed_N (by omega) (by unfold ed_N; omega)
theorem m_release {μ : ed_CM} {ν : em_MM} (hR : r_REL μ ν) (x1 : Int32) : r_ok (f_X8_release x1 μ) (f_X9_release x1 ν) := by
  obtain ⟨h, nC, nS, nK, hh, hX⟩ := id hR.1
  obtain ⟨⟨q1, q2, q3, q4, q5, q6, q7, q8, q9, q10, b1, b2, b3, b4⟩, qC, qP, qS, -⟩ := id hX
  unfold f_X8_release f_X9_release
  rcases pr_split x1 (n := nS) (by omega) with ⟨i, hi, rfl⟩ | hx
  · obtain ⟨⟨a1, -, a3, -, a5, -⟩, -, -, -, e1, e2⟩ := qS i hi
    have o6 : f_X9_ofStory (nI i) 6 ν = some (ν 1 (107 + 29 * i + 6)) := pr_ofStory ν (i := i) (k := 6) (by omega)
    have i6 : f_X9_storyAt (nI i) 6 = nI (107 + 29 * i + 6) := pr_9s i 6
    rw [pr_storyAt q5 b2 hi, pr_b, pr_isS1 q6 b2 hi, pr_b, if_neg (show ¬ (1 : Int32) = 0 by decide)]
    show r_ok (ed_g _ _) _
    rw [pr_g (by omega), a5, o6, pr_b]
    by_cases hz : ν 1 (107 + 29 * i + 6) = 0
    · obtain ⟨μ1, ν1, g1, g2, g3, g4, g5, -⟩ := r_mem0 hR
      rw [if_pos hz, if_pos hz, g1, g2, pr_b, pr_b, i6, pr_gin (by omega) (by omega), pr_t, pr_t, nI_clamp (by omega), pr_emu, g3, g4, ed_sJ_self]
      have s1 : ed_up (μ 0) 7 i 6 1 0 0 4 = nI nC := by rw [pr_up_K _ _ (by decide), q7]
      have s2 : em_sR ν1 1 (upd (ν 1) (107 + 29 * i + 6) 1) 1 1 = nI nC := by rw [pr_sR1, pr_une _ _ (by omega), q8]
      have k1 := r_clientsFor_L s1 b1 (ed_up (μ 0) 7 i 6 1 7 i 0) nC 0 ed_N 0 (by omega) (by unfold ed_N; omega)
      have k2 := r_release_L _ s2 b1 (s := i) (by omega) nC 0 ed_N 0 (by omega) (by unfold ed_N; omega)
      have k1 : f_X5_clientsFor (ed_up (μ 0) 7 i 6 1 7 i 0) (ed_up (μ 0) 7 i 6 1) = _ := k1
      have k2 : f_X9_release_43 ed_N (nI i) 0 0 (em_sR ν1 1 (upd (ν 1) (107 + 29 * i + 6) 1)) = _ := k2
      rw [k1, k2, pr_b]
      have sg : r_seg (fun q => if (f_X0_hasTopic q (ed_up (μ 0) 7 i 6 1 7 i 0) (ed_up (μ 0) 7 i 6 1)) = 0 then 0 else 1) nC 0 = r_seg (fun q => if ((em_sR ν1 1 (upd (ν 1) (107 + 29 * i + 6) 1) 1 (7 + 10 * q) >>> (em_sR ν1 1 (upd (ν 1) (107 + 29 * i + 6) 1) 1 (107 + 29 * i) &&& 31)) &&& 1) = 1 then 1 else 0) nC 0 := by
        refine r_seg_cg nC 0 (fun q _ hq => ?_)
        unfold f_X0_hasTopic
        rw [pr_sR1, pr_une _ _ (by omega), pr_une _ _ (by omega), pr_up_k _ _ (by decide), pr_up_K _ _ (by decide), a1, qC.1 q 0 (by omega) (by omega), Nat.add_zero]
        by_cases hz : ((ν 1 (7 + 10 * q) >>> (ν 1 (107 + 29 * i) &&& 31)) &&& 1) = 1
        · rw [if_pos hz, if_pos hz, if_neg (by decide)]
        · rw [if_neg hz, if_neg hz, if_pos rfl]
      rw [sg]
      exact r_ok.mk (g5 _ _ ⟨h, nC, nS, nK, hh, hX.upF hi (kc := 6) (kv := 6) (Or.inl ⟨rfl, rfl⟩) 1 (fun _ => ⟨by decide, fun _ => e2 (Or.inl hz)⟩) (fun g => by omega)⟩) _
    · rw [if_neg hz, if_neg hz]; exact r_ok.mk hR _
  · rw [pr_storyNo q5 b2 hx, pr_b, pr_isS0 q6 b2 hx, pr_b, if_pos rfl]
    exact r_ok.mk hR _
theorem r_useOf {σ : ed_SM} {v : Nat → Int32} {h nC nS nK e s : Nat} (hR : r_R σ v h nC nS nK e) (hs : s < 20) : r_seg (r_fitK σ (nI s) (-1) 1) nK 0 = r_seg (fun q => if v (687 + 6 * q) = nI s then (if v (687 + 6 * q + 2) = 1 then (if (0 : Int32) = 0 then 1 else if v (687 + 6 * q + 5) = v (107 + 29 * s + 7) then 1 else 0) else 0) else 0) nK 0 := by
  obtain ⟨qH, qC, qP, qS, qK, qL, qN⟩ := hR
  refine r_seg_cg nK 0 (fun q _ hq => ?_)
  unfold r_fitK
  rw [r_fits, r_fits, r_fits, qK.1 q 0 (by omega) (by omega), qK.1 q 2 (by omega) (by omega), if_neg (pr_neg1 s (by omega)), if_pos rfl, if_neg (show ¬ (1 : Int32) = -1 by decide), if_neg (show ¬ (1 : Int32) = 0 by decide), Nat.add_zero]
  by_cases h1 : v (687 + 6 * q) = nI s
  · rw [if_pos h1.symm, if_pos h1, if_neg (show ¬ (1 : Int32) = 0 by decide)]
    by_cases h2 : v (687 + 6 * q + 2) = 1
    · rw [if_pos h2.symm, if_pos h2, if_neg (show ¬ (1 : Int32) = 0 by decide), if_pos rfl]
    · rw [if_neg (show ¬ 1 = v (687 + 6 * q + 2) from fun g => h2 g.symm), if_neg h2, if_pos rfl]
  · rw [if_neg (show ¬ nI s = v (687 + 6 * q) from fun g => h1 g.symm), if_neg h1, if_pos rfl]
theorem m_kill {μ : ed_CM} {ν : em_MM} (hR : r_REL μ ν) (x1 : Int32) : r_ok (f_X8_kill x1 μ) (f_X9_kill x1 ν) := by
  obtain ⟨h, nC, nS, nK, hh, hX⟩ := id hR.1
  obtain ⟨⟨q1, q2, q3, q4, q5, q6, q7, q8, q9, q10, b1, b2, b3, b4⟩, qC, qP, qS, -⟩ := id hX
  unfold f_X8_kill f_X9_kill
  rcases pr_split x1 (n := nS) (by omega) with ⟨i, hi, rfl⟩ | hx
  · obtain ⟨⟨a1, -, a3, -, a5, -⟩, -, -, -, e1, e2⟩ := qS i hi
    have o6 : f_X9_ofStory (nI i) 6 ν = some (ν 1 (107 + 29 * i + 6)) := pr_ofStory ν (i := i) (k := 6) (by omega)
    have i6 : f_X9_storyAt (nI i) 6 = nI (107 + 29 * i + 6) := pr_9s i 6
    have i9 : f_X9_storyAt (nI i) 9 = nI (107 + 29 * i + 9) := pr_9s i 9
    rw [pr_storyAt q5 b2 hi, pr_b, pr_isS1 q6 b2 hi, pr_b, if_neg (show ¬ (1 : Int32) = 0 by decide)]
    show r_ok (ed_g _ _) _
    rw [pr_g (by omega), a5, o6, pr_b]
    by_cases hz : ν 1 (107 + 29 * i + 6) = 3
    · rw [if_pos hz, if_pos hz]; exact r_ok.mk hR _
    · obtain ⟨μ1, ν1, g1, g2, g3, g4, g5, -⟩ := r_mem0 hR
      have r1 := hX.upF hi (kc := 6) (kv := 6) (Or.inl ⟨rfl, rfl⟩) 3 (fun _ => ⟨by decide, fun g => by rcases g with g | g <;> exact absurd g (by decide)⟩) (fun g => by omega)
      have r2 := r1.upF hi (kc := 10) (kv := 9) (Or.inr (Or.inr (Or.inr ⟨rfl, rfl⟩))) (nI h) (fun g => by omega) (fun g => by omega)
      have w0 : upd (ν 1) (107 + 29 * i + 6) 3 0 = nI h := by rw [pr_une _ _ (by omega), q2]
      have w1 : upd (upd (ν 1) (107 + 29 * i + 6) 3) (107 + 29 * i + 9) (nI h) 0 = nI h := by rw [pr_une _ _ (by omega), w0]
      have z0 : ed_up (μ 0) 7 i 6 3 0 0 0 = nI h := by rw [pr_up_K _ _ (by decide), q1]
      have z1 : ed_up (ed_up (μ 0) 7 i 6 3) 7 i 10 (nI h) 0 0 0 = nI h := by rw [pr_up_K _ _ (by decide), z0]
      obtain ⟨σ2, v2, l1, l2, l3, l4, l5⟩ := r_log ν1 _ _ 6 (nI h) (-5) i r2.2.2.2.2.2.1 (by omega) (Or.inl rfl) w1.symm
      have r3 := r2.lg l3 l4 l5
      obtain ⟨-, -, -, -, -, -, -, -, p9, p10, -⟩ := id r3.1
      rw [if_neg hz, if_neg hz, g1, g2, pr_b, pr_b, i6, i9, pr_t, pr_t, pr_gin (by omega) (by omega), pr_t, pr_gN (by decide) (by decide), pr_gin (by omega) (by omega), pr_t, nI_clamp (n := 107 + 29 * i + 6) (by omega), nI_clamp (n := 107 + 29 * i + 9) (by omega), pr_emu ν1, g4, pr_sR1, pr_cl 0 (by omega), w0, pr_sRu, l2, pr_b, g3, ed_sJ_sJ, ed_sJ_self μ1 0 (ed_up (μ 0) 7 i 6 3), z0, ed_sJ_self, z1, l1, pr_b, pr_t, ed_sJ_sJ, ed_sJ_self, r_copiesOf p9 b3, r_inUse (em_sR ν1 1 v2) (by rw [pr_sR1]; exact p10) b3 (by omega), pr_b, pr_b, r_useOf r3 (by omega), pr_sR1]
      exact r_ok.mk (g5 _ _ ⟨h, nC, nS, nK, hh, r3⟩) _
  · rw [pr_storyNo q5 b2 hx, pr_b, pr_isS0 q6 b2 hx, pr_b, if_pos rfl]
    exact r_ok.mk hR _
