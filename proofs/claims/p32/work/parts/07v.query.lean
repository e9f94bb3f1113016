/-! The questions: counts. -/
def r_fP (v : Nat → Int32) (nS q : Nat) : Nat := if r_seg (r_fB v (nI q)) nS 0 = 0 then 0 else 1
theorem r_authors_L {σ : ed_SM} {ν : em_MM} {h nC nS nK : Nat} (hR : r_R σ (ν 1) h nC nS nK 160) : ∀ (d q n x : Nat), q + d = 10 → d < n → f_X5_authors_4 σ n (nI x) (nI q) = some (nI (x + r_seg (r_fP (ν 1) nS) d q)) := by
  have b2 : nS ≤ 20 := hR.1.2.2.2.2.2.2.2.2.2.2.2.1
  intro d
  induction d with
  | zero =>
    intro q n x hq hn
    obtain ⟨n, rfl⟩ : ∃ q, n = q + 1 := ⟨n - 1, by omega⟩
    obtain rfl : q = 10 := by omega
    rw [f_X5_authors_4, if_pos (show 10 ≤ nI 10 by decide)]
    rfl
  | succ d ih =>
    intro q n x hq hn
    obtain ⟨n, rfl⟩ : ∃ q, n = q + 1 := ⟨n - 1, by omega⟩
    have nq : ¬ (10 : Int32) ≤ nI q := by
      show ¬ nI 10 ≤ nI q
      rw [pr_le (by omega) (by omega)]; omega
    have e1 : nI q + 1 = nI (q + 1) := nI_add q 1
    have e2 : nI x + 1 = nI (x + 1) := nI_add x 1
    have i0 := ih (q + 1) n x (by omega) (by omega)
    have i1 := ih (q + 1) n (x + 1) (by omega) (by omega)
    have sb := r_storiesBy_L hR (nI q) nS 0 ed_N 0 (by omega) (by unfold ed_N; omega)
    rw [Nat.zero_add] at sb
    have sb : f_X5_storiesBy (nI q) σ = _ := sb
    have bd : r_seg (r_fB (ν 1) (nI q)) nS 0 ≤ nS := r_seg_le (fun s => by unfold r_fB; split <;> omega) nS 0
    rw [f_X5_authors_4, if_neg nq, sb, pr_b, e1, e2, i0, i1, r_seg]
    unfold r_fP
    by_cases g : r_seg (r_fB (ν 1) (nI q)) nS 0 = 0
    · rw [if_pos g, g, if_pos (show nI 0 ≤ 0 by decide), Nat.zero_add]
    · have c : ¬ nI (r_seg (r_fB (ν 1) (nI q)) nS 0) ≤ 0 := by
        show ¬ nI _ ≤ nI 0
        rw [pr_le (by omega) (by omega)]; omega
      rw [if_neg g, if_neg c, Nat.add_assoc]
theorem r_all_L {σ : ed_SM} {ν : em_MM} {h nC nS nK : Nat} (hR : r_R σ (ν 1) h nC nS nK 160) (k4 : Int32 → Int32 → Option Int32) (x q : Int32) : ∀ (d p n : Nat), p + d = nS → d < n → f_X9_personsOfAll_15 k4 ν n x q 0 (nI p) = (if r_seg (r_fB (ν 1) q) d p = 0 then k4 (x + 0) (q + 1) else k4 (x + 1) (q + 1)) ∧ f_X9_personsOfAll_15 k4 ν n x q 1 (nI p) = k4 (x + 1) (q + 1) := by
  obtain ⟨q1, q2, q3, q4, q5, q6, q7, q8, q9, q10, b1, b2, b3, b4⟩ := hR.1
  have v2 : ν 1 (2 : Int32).toNatClampNeg = nI nS := by rw [pr_cl 2 (by omega), q6]
  intro d
  induction d with
  | zero =>
    intro p n hp hn
    obtain ⟨n, rfl⟩ : ∃ q, n = q + 1 := ⟨n - 1, by omega⟩
    have c : nI nS ≤ nI p := by rw [pr_le (by omega) (by omega)]; omega
    constructor
    · rw [f_X9_personsOfAll_15, pr_gN (by decide) (by decide), v2, if_pos c, if_pos rfl, r_seg, if_pos rfl]
    · rw [f_X9_personsOfAll_15, pr_gN (by decide) (by decide), v2, if_pos c, if_neg (show ¬ (1 : Int32) = 0 by decide)]
  | succ d ih =>
    intro p n hp hn
    obtain ⟨n, rfl⟩ : ∃ q, n = q + 1 := ⟨n - 1, by omega⟩
    have np : ¬ nI nS ≤ nI p := by rw [pr_le (by omega) (by omega)]; omega
    have e1 : nI p + 1 = nI (p + 1) := nI_add p 1
    obtain ⟨i0, i1⟩ := ih (p + 1) n (by omega) (by omega)
    constructor
    · rw [f_X9_personsOfAll_15, pr_gN (by decide) (by decide), v2, if_neg np, if_pos rfl, (r_isBy hR (s := p) (by omega) q).2, pr_b, e1, i0, i1, r_seg]
      by_cases g : r_byS (ν 1) q p = 0
      · have g1 : r_fB (ν 1) q p = 0 := by unfold r_fB; rw [if_pos g]
        rw [if_pos g, g1, Nat.zero_add]
      · have g1 : r_fB (ν 1) q p = 1 := by unfold r_fB; rw [if_neg g]
        rw [if_neg g, g1, if_neg (show ¬ 1 + r_seg (r_fB (ν 1) q) d (p + 1) = 0 by omega)]
    · rw [f_X9_personsOfAll_15, pr_gN (by decide) (by decide), v2, if_neg np, if_neg (show ¬ (1 : Int32) = 0 by decide), e1, i1]
theorem r_all4_L {σ : ed_SM} {ν : em_MM} {h nC nS nK : Nat} (hR : r_R σ (ν 1) h nC nS nK 160) : ∀ (d q n x : Nat), q + d = 10 → d < n → f_X9_personsOfAll_4 ν n (nI x) (nI q) = some (nI (x + r_seg (r_fP (ν 1) nS) d q)) := by
  have b2 : nS ≤ 20 := hR.1.2.2.2.2.2.2.2.2.2.2.2.1
  intro d
  induction d with
  | zero =>
    intro q n x hq hn
    obtain ⟨n, rfl⟩ : ∃ q, n = q + 1 := ⟨n - 1, by omega⟩
    obtain rfl : q = 10 := by omega
    rw [f_X9_personsOfAll_4, if_pos (show 10 ≤ nI 10 by decide)]
    rfl
  | succ d ih =>
    intro q n x hq hn
    obtain ⟨n, rfl⟩ : ∃ q, n = q + 1 := ⟨n - 1, by omega⟩
    have nq : ¬ (10 : Int32) ≤ nI q := by
      show ¬ nI 10 ≤ nI q
      rw [pr_le (by omega) (by omega)]; omega
    have e1 : nI q + 1 = nI (q + 1) := nI_add q 1
    have e2 : nI x + 1 = nI (x + 1) := nI_add x 1
    have i0 := ih (q + 1) n x (by omega) (by omega)
    have i1 := ih (q + 1) n (x + 1) (by omega) (by omega)
    have lp := (r_all_L hR (fun a0 a1 => f_X9_personsOfAll_4 ν n a0 a1) (nI x) (nI q) nS 0 ed_N (by omega) (by unfold ed_N; omega)).1
    have lp : f_X9_personsOfAll_15 (fun a0 a1 => f_X9_personsOfAll_4 ν n a0 a1) ν ed_N (nI x) (nI q) 0 0 = _ := lp
    rw [f_X9_personsOfAll_4, if_neg nq, lp, pr_z, e1, e2, i0, i1, r_seg]
    unfold r_fP
    by_cases g : r_seg (r_fB (ν 1) (nI q)) nS 0 = 0
    · rw [if_pos g, if_pos g, Nat.zero_add]
    · rw [if_neg g, if_neg g, Nat.add_assoc]
def r_fS (v : Nat → Int32) (y : Int32) (q : Nat) : Nat := if v (687 + 6 * q + 2) = y then 1 else 0
def r_fD (ν : em_MM) (q : Nat) : Nat := if f_X9_dueNow (nI q) ν = some (nI 0) then 0 else 1
theorem r_stOf {σ : ed_SM} {v : Nat → Int32} {h nC nS nK e : Nat} (hR : r_R σ v h nC nS nK e) (y : Int32) (hy : ¬ y = -1) : r_seg (r_fitK σ (-1) (-1) y) nK 0 = r_seg (r_fS v y) nK 0 := by
  obtain ⟨qH, qC, qP, qS, qK, qL, qN⟩ := hR
  refine r_seg_cg nK 0 (fun q _ hq => ?_)
  unfold r_fitK r_fS
  rw [r_fits, r_fits, r_fits, qK.1 q 2 (by omega) (by omega), if_pos rfl, if_pos rfl, if_neg (show ¬ (1 : Int32) = 0 by decide), if_neg (show ¬ (1 : Int32) = 0 by decide), if_neg hy]
  by_cases h2 : v (687 + 6 * q + 2) = y
  · rw [if_pos h2.symm, if_pos h2, if_neg (show ¬ (1 : Int32) = 0 by decide)]
  · rw [if_neg (show ¬ y = v (687 + 6 * q + 2) from fun g => h2 g.symm), if_neg h2, if_pos rfl]
theorem r_fD_due {ν : em_MM} {p y : Nat} (hy : y ≤ 6) (h : f_X9_dueNow (nI p) ν = some (nI y)) : (y = 0 ∧ r_fD ν p = 0 ∧ nI y ≤ 0) ∨ (r_fD ν p = 1 ∧ ¬ nI y ≤ 0) := by
  by_cases g : y = 0
  · subst g
    exact Or.inl ⟨rfl, by unfold r_fD; rw [if_pos h], by decide⟩
  · refine Or.inr ⟨?_, ?_⟩
    · unfold r_fD
      rw [h, if_neg]
      intro k
      injection k with k
      exact g ((nI_eq (by omega) (by omega)).mp k)
    · show ¬ nI y ≤ nI 0
      rw [pr_le (by omega) (by omega)]; omega
theorem r_withDue_L {σ : ed_SM} {ν : em_MM} {h nC nS nK : Nat} (hR : r_R σ (ν 1) h nC nS nK 160) : ∀ (d p n x : Nat), p + d = nK → d < n → f_X5_copiesWithCorrectionsDue_4 σ n (nI x) (nI p) = some (nI (x + r_seg (r_fD ν) d p)) := by
  obtain ⟨q1, q2, q3, q4, q5, q6, q7, q8, q9, q10, b1, b2, b3, b4⟩ := hR.1
  intro d
  induction d with
  | zero =>
    intro p n x hp hn
    obtain ⟨n, rfl⟩ : ∃ q, n = q + 1 := ⟨n - 1, by omega⟩
    rw [f_X5_copiesWithCorrectionsDue_4, q9, if_pos (by rw [pr_le (by omega) (by omega)]; omega)]
    rfl
  | succ d ih =>
    intro p n x hp hn
    obtain ⟨n, rfl⟩ : ∃ q, n = q + 1 := ⟨n - 1, by omega⟩
    have np : ¬ nI nK ≤ nI p := by rw [pr_le (by omega) (by omega)]; omega
    have e1 : nI p + 1 = nI (p + 1) := nI_add p 1
    have e2 : nI x + 1 = nI (x + 1) := nI_add x 1
    have i0 := ih (p + 1) n x (by omega) (by omega)
    have i1 := ih (p + 1) n (x + 1) (by omega) (by omega)
    obtain ⟨y, y1, y2, y3⟩ := r_dueB hR (p := p) (by omega)
    rw [f_X5_copiesWithCorrectionsDue_4, q9, if_neg np, pr_copyMade q9 b3 (by omega), pr_b]
    show ed_g _ _ = _
    rw [pr_g (by omega), y2, pr_b, e1, e2, i0, i1, r_seg]
    rcases r_fD_due y1 y3 with ⟨-, g2, g3⟩ | ⟨g2, g3⟩
    · rw [if_pos g3, g2, Nat.zero_add]
    · rw [if_neg g3, g2, Nat.add_assoc]
theorem r_count_L {σ : ed_SM} {ν : em_MM} {h nC nS nK : Nat} (hR : r_R σ (ν 1) h nC nS nK 160) (x1 : Int32) : ∀ (d p n a b : Nat), p + d = nK → d < n → f_X9_count_7 ν n x1 (nI a) (nI b) (nI p) = f_X9_count_7 ν (0 + 1) x1 (nI (a + r_seg (r_fS (ν 1) (x1 - 4)) d p)) (nI (b + r_seg (r_fD ν) d p)) (nI nK) := by
  obtain ⟨q1, q2, q3, q4, q5, q6, q7, q8, q9, q10, b1, b2, b3, b4⟩ := hR.1
  have v3 : ν 1 (3 : Int32).toNatClampNeg = nI nK := by rw [pr_cl 3 (by omega), q10]
  intro d
  induction d with
  | zero =>
    intro p n a b hp hn
    obtain ⟨n, rfl⟩ : ∃ q, n = q + 1 := ⟨n - 1, by omega⟩
    obtain rfl : p = nK := by omega
    have c : nI p ≤ nI p := by rw [pr_le (by omega) (by omega)]; omega
    rw [f_X9_count_7, f_X9_count_7, pr_gN (by decide) (by decide), pr_gN (by decide) (by decide), v3, if_pos c, if_pos c]
    rfl
  | succ d ih =>
    intro p n a b hp hn
    obtain ⟨n, rfl⟩ : ∃ q, n = q + 1 := ⟨n - 1, by omega⟩
    have np : ¬ nI nK ≤ nI p := by rw [pr_le (by omega) (by omega)]; omega
    have e1 : nI p + 1 = nI (p + 1) := nI_add p 1
    have e2 : nI a + 1 = nI (a + 1) := nI_add a 1
    have e3 : nI b + 1 = nI (b + 1) := nI_add b 1
    have o2 : f_X9_ofCopy (nI p) 2 ν = some (ν 1 (687 + 6 * p + 2)) := pr_ofCopy ν (i := p) (k := 2) (by omega)
    obtain ⟨y, y1, y2, y3⟩ := r_dueB hR (p := p) (by omega)
    rw [f_X9_count_7, pr_gN (by decide) (by decide), v3, if_neg np, o2, pr_b, y3, pr_b, pr_b, e1, e2, e3, pr_z, pr_z, ih (p + 1) n a b (by omega) (by omega), ih (p + 1) n (a + 1) b (by omega) (by omega), ih (p + 1) n a (b + 1) (by omega) (by omega), ih (p + 1) n (a + 1) (b + 1) (by omega) (by omega)]
    show _ = f_X9_count_7 ν (0 + 1) x1 (nI (a + (r_fS (ν 1) (x1 - 4) p + r_seg (r_fS (ν 1) (x1 - 4)) d (p + 1)))) (nI (b + (r_fD ν p + r_seg (r_fD ν) d (p + 1)))) (nI nK)
    by_cases h1 : ν 1 (687 + 6 * p + 2) = x1 - 4
    · have g1 : r_fS (ν 1) (x1 - 4) p = 1 := by unfold r_fS; rw [if_pos h1]
      rw [if_pos h1, g1, ← Nat.add_assoc]
      rcases r_fD_due y1 y3 with ⟨-, g2, g3⟩ | ⟨g2, g3⟩
      · rw [if_pos g3, g2, Nat.zero_add (r_seg (r_fD ν) d (p + 1))]
      · rw [if_neg g3, g2, ← Nat.add_assoc]
    · have g1 : r_fS (ν 1) (x1 - 4) p = 0 := by unfold r_fS; rw [if_neg h1]
      rw [if_neg h1, g1, Nat.zero_add (r_seg (r_fS (ν 1) (x1 - 4)) d (p + 1))]
      rcases r_fD_due y1 y3 with ⟨-, g2, g3⟩ | ⟨g2, g3⟩
      · rw [if_pos g3, g2, Nat.zero_add (r_seg (r_fD ν) d (p + 1))]
      · rw [if_neg g3, g2, ← Nat.add_assoc]
theorem m_count {μ : ed_CM} {ν : em_MM} (hR : r_REL μ ν) (x1 : Int32) : r_okI (f_X8_count x1 μ) (f_X9_count x1 ν) := by
  obtain ⟨h, nC, nS, nK, hh, hX⟩ := id hR.1
  obtain ⟨⟨q1, q2, q3, q4, q5, q6, q7, q8, q9, q10, b1, b2, b3, b4⟩, qC, qP, qS, -⟩ := id hX
  obtain ⟨t, t1, t2, t3, t4⟩ := id hR.2.2.2
  obtain ⟨z, ρ, z1, z2, z3, z4, z5⟩ := id hR.2.2.1
  have v3 : ν 1 (3 : Int32).toNatClampNeg = nI nK := by rw [pr_cl 3 (by omega), q10]
  have c : nI nK ≤ nI nK := by rw [pr_le (by omega) (by omega)]; omega
  have lp := r_count_L hX x1 nK 0 ed_N 0 0 (by omega) (by unfold ed_N; omega)
  have lp : f_X9_count_7 ν ed_N x1 0 0 0 = _ := lp
  have wd := r_withDue_L hX nK 0 ed_N 0 (by omega) (by unfold ed_N; omega)
  have wd : f_X5_copiesWithCorrectionsDue (μ 0) = _ := wd
  have au := r_authors_L hX 10 0 ed_N 0 (by omega) (by unfold ed_N; omega)
  have au : f_X5_authors (μ 0) = _ := au
  have al := r_all4_L hX 10 0 ed_N 0 (by omega) (by unfold ed_N; omega)
  have al : f_X9_personsOfAll ν = _ := al
  have st : ∀ y : Int32, y = 4 ∨ y = 5 ∨ y = 6 ∨ y = 7 ∨ y = 8 → f_X5_copiesOf (-1) (-1) (y - 4) (μ 0) = some (nI (0 + r_seg (r_fS (ν 1) (y - 4)) nK 0)) := fun y hy => by
    rw [r_copiesOf q9 b3, r_stOf hX, Nat.zero_add]
    rcases hy with rfl | rfl | rfl | rfl | rfl <;> decide
  unfold f_X8_count f_X9_count
  rw [lp, f_X9_count_7, pr_gN (by decide) (by decide), v3, if_pos c]
  refine r_okI.ite (fun g => ?_) (fun _ => ?_)
  · subst g
    rw [pr_gN (by decide) (by decide), pr_cl 0 (by omega), q2, q1]; exact r_okI.mk _
  refine r_okI.ite (fun g => ?_) (fun _ => ?_)
  · subst g
    rw [pr_gN (by decide) (by decide), pr_cl 1 (by omega), q8, q7]; exact r_okI.mk _
  refine r_okI.ite (fun g => ?_) (fun _ => ?_)
  · subst g
    rw [pr_gN (by decide) (by decide), pr_cl 2 (by omega), q6, q5]; exact r_okI.mk _
  refine r_okI.ite (fun g => ?_) (fun _ => ?_)
  · subst g
    rw [pr_gN (by decide) (by decide), pr_cl 3 (by omega), q10, q9]; exact r_okI.mk _
  refine r_okI.ite (fun g => ?_) (fun _ => ?_)
  · rw [st x1 (Or.inl g), pr_b]; exact r_okI.mk _
  refine r_okI.ite (fun g => ?_) (fun _ => ?_)
  · rw [st x1 (Or.inr (Or.inl g)), pr_b]; exact r_okI.mk _
  refine r_okI.ite (fun g => ?_) (fun _ => ?_)
  · rw [st x1 (Or.inr (Or.inr (Or.inl g))), pr_b]; exact r_okI.mk _
  refine r_okI.ite (fun g => ?_) (fun _ => ?_)
  · rw [st x1 (Or.inr (Or.inr (Or.inr (Or.inl g)))), pr_b]; exact r_okI.mk _
  refine r_okI.ite (fun g => ?_) (fun _ => ?_)
  · rw [st x1 (Or.inr (Or.inr (Or.inr (Or.inr (g))))), pr_b]; exact r_okI.mk _
  refine r_okI.ite (fun g => ?_) (fun _ => ?_)
  · rw [wd, pr_b]; exact r_okI.mk _
  refine r_okI.ite (fun g => ?_) (fun _ => ?_)
  · rw [pr_gN (by decide) (by decide), pr_cl 5 (by omega), q4]; exact r_okI.mk _
  refine r_okI.ite (fun g => ?_) (fun _ => ?_)
  · rw [au, al, pr_b]; exact r_okI.mk _
  refine r_okI.ite (fun g => ?_) (fun _ => ?_)
  · rw [pr_gN (by decide) (by decide), pr_cl 4 (by omega), q3]; exact r_okI.mk _
  refine r_okI.ite (fun g => ?_) (fun _ => ?_)
  · rw [z2, z3]; exact r_okI.mk _
  refine r_okI.ite (fun g => ?_) (fun _ => r_okI.mk _)
  · rw [t2, t3]; exact r_okI.mk _
