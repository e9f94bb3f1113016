/-! The law's look at the copies, put together. -/
theorem r_seg_snoc (f : Nat → Nat) : ∀ (d p : Nat), r_seg f (d + 1) p = r_seg f d p + f (p + d)
  | 0, p => by
    show f p + 0 = 0 + f (p + 0)
    rw [Nat.add_zero, Nat.zero_add, Nat.add_zero]
  | d + 1, p => by
    show f p + r_seg f (d + 1) (p + 1) = f p + r_seg f d (p + 1) + f (p + (d + 1))
    rw [r_seg_snoc f d (p + 1), show p + 1 + d = p + (d + 1) by omega]
    omega
theorem r_seg_mono {f g : Nat → Nat} : ∀ (d p : Nat), (∀ q, p ≤ q → q < p + d → f q ≤ g q) → r_seg f d p ≤ r_seg g d p
  | 0, _, _ => Nat.le_refl 0
  | d + 1, p, h => by
    show f p + r_seg f d (p + 1) ≤ g p + r_seg g d (p + 1)
    have h1 := h p (Nat.le_refl p) (by omega)
    have h2 := r_seg_mono d (p + 1) (fun q h3 h4 => h q (by omega) (by omega))
    omega
def l_a0 (σ : ed_SM) (z q : Nat) : Nat := if σ 12 q 2 = nI z then 1 else 0
def l_a1 (σ : ed_SM) (s q : Nat) : Nat := if σ 12 q 0 = nI s then 1 else 0
def l_a2 (σ : ed_SM) (c q : Nat) : Nat := if σ 12 q 1 = nI c then (if σ 12 q 2 = 1 then 1 else 0) else 0
def l_A (σ : ed_SM) (k : Nat) (α : em_MM) : Prop := (∀ z, z < 5 → α 0 z = nI (r_seg (l_a0 σ z) k 0)) ∧ (∀ s, s < 20 → α 1 s = nI (r_seg (l_a1 σ s) k 0)) ∧ ∀ c, c < 8 → α 2 c = nI (r_seg (l_a2 σ c) k 0)
def l_st (α : em_MM) (z s c : Nat) (x : Int32) : em_MM := em_up (em_up (em_up α 0 z (α 0 z + 1)) 1 s (α 1 s + 1)) 2 c (α 2 c + x)
theorem l_st_0 (α : em_MM) (z s c : Nat) (x : Int32) : l_st α z s c x 0 = upd (α 0) z (α 0 z + 1) := by
  unfold l_st
  rw [em_ne _ _ _ (by decide), em_ne _ _ _ (by decide), em_same]
theorem l_st_1 (α : em_MM) (z s c : Nat) (x : Int32) : l_st α z s c x 1 = upd (α 1) s (α 1 s + 1) := by
  unfold l_st
  rw [em_ne _ _ _ (by decide), em_same, em_ne _ _ _ (by decide)]
theorem l_st_2 (α : em_MM) (z s c : Nat) (x : Int32) : l_st α z s c x 2 = upd (α 2) c (α 2 c + x) := by
  unfold l_st
  rw [em_same, em_ne _ _ _ (by decide), em_ne _ _ _ (by decide)]
theorem l_A.step {μ : ed_CM} {h nC nS nK p s c z : Nat} (F : l_F μ h nC nS nK p s c) (hz : z ≤ 4) (ez : μ 0 12 p 2 = nI z) {α : em_MM} (hA : l_A (μ 0) p α) {x : Int32} (hx : x = if μ 0 12 p 2 = 1 then 1 else 0) : l_A (μ 0) (p + 1) (l_st α z s c x) := by
  obtain ⟨⟨a0, a3, a4, a5⟩, ⟨a6, a7, a8, a9⟩, ⟨hp, hs, hc⟩, k0, k1, kf, kx, ks, kz⟩ := F
  obtain ⟨A0, A1, A2⟩ := hA
  refine ⟨fun y hy => ?_, fun y hy => ?_, fun y hy => ?_⟩
  · rw [l_st_0, pr_upd, r_seg_snoc, Nat.zero_add]
    unfold l_a0
    by_cases he : y = z
    · subst he
      rw [if_pos rfl, A0 y hy, if_pos ez, nI_1]
      rfl
    · rw [if_neg he, A0 y hy, ez, if_neg (show ¬ nI z = nI y by rw [pr_eq (by omega) (by omega)]; omega)]
      rfl
  · rw [l_st_1, pr_upd, r_seg_snoc, Nat.zero_add]
    unfold l_a1
    by_cases he : y = s
    · subst he
      rw [if_pos rfl, A1 y hy, if_pos k0, nI_1]
      rfl
    · rw [if_neg he, A1 y hy, k0, if_neg (show ¬ nI s = nI y by rw [pr_eq (by omega) (by omega)]; omega)]
      rfl
  · rw [l_st_2, pr_upd, r_seg_snoc, Nat.zero_add]
    unfold l_a2
    by_cases he : y = c
    · subst he
      rw [if_pos rfl, A2 y hy, if_pos k1, hx]
      by_cases h2 : μ 0 12 p 2 = 1
      · rw [if_pos h2, if_pos h2, nI_1]
        rfl
      · rw [if_neg h2, if_neg h2, Int32.add_zero]
        rfl
    · rw [if_neg he, A2 y hy, k1, if_neg (show ¬ nI c = nI y by rw [pr_eq (by omega) (by omega)]; omega)]
      rfl
theorem l_105 {μ : ed_CM} {ν : em_MM} {h nC nS nK p s c z : Nat} (F : l_F μ h nC nS nK p s c) (hX : r_R (μ 0) (ν 1) h nC nS nK 160) (hz : z ≤ 4) (ez : μ 0 12 p 2 = nI z) (k23 : Int32 → Int32 → Int32 → em_MM → Option Int32) (x4 x6 x12 : Int32) (α : em_MM) (h12 : x12 = if μ 0 12 p 2 = 1 then 1 else 0) : f_L_copies_105 k23 μ x4 x6 (nI s) (nI c) (nI z) (μ 0 12 p 4) (μ 0 12 p 5) x12 α = k23 (x4 + nI (r_fD ν p)) 1 (x6 + 1) (l_st α z s c x12) := by
  have zz := fun β => l_138 F hX k23 x4 x6 x12 β h12
  obtain ⟨⟨a0, a3, a4, a5⟩, ⟨a6, a7, a8, a9⟩, ⟨hp, hs, hc⟩, k0, k1, kf, kx, ks, kz⟩ := F
  rw [ez] at zz
  unfold f_L_copies_105
  have e1 : em_up α 0 z (α 0 z + 1) 1 s = α 1 s := by rw [em_ne _ _ _ (by decide)]
  have e2 : em_up (em_up α 0 z (α 0 z + 1)) 1 s (α 1 s + 1) 2 c = α 2 c := by rw [em_ne _ _ _ (by decide), em_ne _ _ _ (by decide)]
  rw [pr_gin (by omega) (by omega), pr_gin (by omega) (by omega), pr_t, pr_gin (by omega) (by omega), pr_gin (by omega) (by omega), pr_t, pr_gin (by omega) (by omega)]
  by_cases h2 : nI z = 1
  · rw [← ez] at h2
    rw [if_pos h2] at h12
    subst h12
    rw [if_neg (by decide), pr_gin (by omega) (by omega), pr_t, nI_clamp (n := z) (by omega), nI_clamp (n := s) (by omega), nI_clamp (n := c) (by omega), e1, e2]
    exact zz _
  · rw [← ez] at h2
    rw [if_neg h2] at h12
    subst h12
    rw [if_pos rfl, pr_gin (by omega) (by omega), pr_t, nI_clamp (n := z) (by omega), nI_clamp (n := s) (by omega), nI_clamp (n := c) (by omega), e1, e2]
    exact zz _
theorem l_23 {μ : ed_CM} {ν : em_MM} {M pd : Int} {h nC nS nK : Nat} (H : j_J (μ 0) M pd h nC nS nK) (hX : r_R (μ 0) (ν 1) h nC nS nK 160) : ∀ (d p n : Nat) (α : em_MM), p + d = nK → d < n → l_A (μ 0) p α → ∃ α', l_A (μ 0) nK α' ∧ f_L_copies_23 μ n (nI (r_seg (r_fD ν) p 0)) 1 (nI p) α = f_L_copies_515 μ ed_N (nI (r_seg (r_fD ν) nK 0)) 1 0 α' := by
  obtain ⟨⟨a0, a3, a4, a5, a6, a7, a8, a9⟩, -⟩ := id H
  intro d
  induction d with
  | zero =>
    intro p n α hp hn hA
    obtain ⟨n, rfl⟩ : ∃ q, n = q + 1 := ⟨n - 1, by omega⟩
    have e : p = nK := by omega
    subst e
    refine ⟨α, hA, ?_⟩
    rw [f_L_copies_23, q_copyAt0 a5 a8 (Nat.le_refl _) (by omega), pr_b, if_pos (by decide)]
  | succ d ih =>
    intro p n α hp hn hA
    obtain ⟨n, rfl⟩ : ∃ q, n = q + 1 := ⟨n - 1, by omega⟩
    obtain ⟨s, c, F⟩ := l_at H hX (show p < nK by omega)
    obtain ⟨-, -, ⟨hpK, hs, hc⟩, k0, k1, kf, kx, ks, z, hz, ez⟩ := id F
    have eat : f_X8_copyAt (nI p) μ = some (nI (10 * s + c)) := by
      rw [q_copyAt a5 a8 hpK, k0, k1, show (10 : Int32) = nI 10 from rfl, pk_mul, nI_add]
    have d1 : nI (10 * s + c) / 10 = nI s := by
      rw [show (10 : Int32) = nI 10 from rfl, pk_div (by omega) (by omega) (by omega), show (10 * s + c) / 10 = s by omega]
    have d2 : nI (10 * s + c) - nI s * 10 = nI c := by
      rw [← d1, show (10 : Int32) = nI 10 from rfl, pk_rem (by omega) (by omega) (by omega), show (10 * s + c) % 10 = c by omega]
    obtain ⟨α', hA', e'⟩ := ih (p + 1) n (l_st α z s c (if μ 0 12 p 2 = 1 then 1 else 0)) (by omega) (by omega) (hA.step F hz ez rfl)
    refine ⟨α', hA', ?_⟩
    rw [← e', f_L_copies_23, eat, pr_b, if_neg (nI_pos (by omega)), if_neg (by decide), pr_b, pr_b, d1, d2, pr_t, q_copy0 (by omega) kf, pr_b, q_copy2 (by omega) kf, pr_b, q_copy3 (by omega) kf, pr_b, ez]
    rw [r_seg_snoc, Nat.zero_add, ← nI_add, ← nI_1]
    by_cases h2 : nI z = 1
    · rw [if_pos h2, if_pos h2]
      exact l_105 F hX hz ez _ _ _ _ _ (by rw [ez, if_pos h2])
    · rw [if_neg h2, if_neg h2]
      exact l_105 F hX hz ez _ _ _ _ _ (by rw [ez, if_neg h2])
