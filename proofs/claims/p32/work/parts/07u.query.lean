/-! The questions: persons, counts. -/
def r_by (v : Nat → Int32) (s : Nat) (x : Int32) : Nat → Nat → Int32
  | 0, _ => 0
  | d + 1, k => if v (107 + 29 * s + (2 + k)) = x then 1 else r_by v s x d (k + 1)
def r_byS (v : Nat → Int32) (x : Int32) (s : Nat) : Int32 := r_by v s x (v (107 + 29 * s + 1)).toNatClampNeg 0
theorem r_isBy_L {σ : ed_SM} {v : Nat → Int32} {s m : Nat} (h1 : σ 7 s 1 = nI m) (hm : m ≤ 3) (hv : ∀ k, k < m → σ 8 s k = v (107 + 29 * s + (2 + k))) (x : Int32) : ∀ (d k n : Nat), k + d = m → d < n → f_X6_isBy_2 s σ n x (nI k) = some (r_by v s x d k) := by
  intro d
  induction d with
  | zero =>
    intro k n hk hn
    obtain ⟨n, rfl⟩ : ∃ q, n = q + 1 := ⟨n - 1, by omega⟩
    rw [f_X6_isBy_2, h1, if_pos (by rw [pr_le (by omega) (by omega)]; omega)]
    rfl
  | succ d ih =>
    intro k n hk hn
    obtain ⟨n, rfl⟩ : ∃ q, n = q + 1 := ⟨n - 1, by omega⟩
    have nk : ¬ nI m ≤ nI k := by rw [pr_le (by omega) (by omega)]; omega
    have e1 : nI k + 1 = nI (k + 1) := nI_add k 1
    rw [f_X6_isBy_2, h1, if_neg nk, pr_authorAt h1 hm (by omega), pr_b, hv k (by omega), e1, ih (k + 1) n (by omega) (by omega), r_by]
    by_cases g : v (107 + 29 * s + (2 + k)) = x
    · rw [if_pos g, if_pos g]
    · rw [if_neg g, if_neg g]
theorem r_wrote_L (ν : em_MM) {s m : Nat} (hs : s < 20) (h1 : ν 1 (107 + 29 * s + 1) = nI m) (hm : m ≤ 3) (x : Int32) : ∀ (d k n : Nat), k + d = m → d < n → f_X9_wrote_5 ν n x (nI s) 0 (nI k) = some (r_by (ν 1) s x d k) ∧ f_X9_wrote_5 ν n x (nI s) 1 (nI k) = some 1 := by
  have o1 : f_X9_ofStory (nI s) 1 ν = some (nI m) := by rw [show (1 : Int32) = nI 1 from rfl, pr_ofStory ν (i := s) (k := 1) (by omega), h1]
  intro d
  induction d with
  | zero =>
    intro k n hk hn
    obtain ⟨n, rfl⟩ : ∃ q, n = q + 1 := ⟨n - 1, by omega⟩
    have c : nI m ≤ nI k := by rw [pr_le (by omega) (by omega)]; omega
    constructor
    · rw [f_X9_wrote_5, o1, pr_b, if_pos c, pr_g (Or.inl rfl)]
      rfl
    · rw [f_X9_wrote_5, o1, pr_b, if_pos c, pr_g (Or.inr rfl)]
  | succ d ih =>
    intro k n hk hn
    obtain ⟨n, rfl⟩ : ∃ q, n = q + 1 := ⟨n - 1, by omega⟩
    have nk : ¬ nI m ≤ nI k := by rw [pr_le (by omega) (by omega)]; omega
    have e1 : nI k + 1 = nI (k + 1) := nI_add k 1
    have e2 : (2 : Int32) + nI k = nI (2 + k) := nI_add 2 k
    obtain ⟨i0, i1⟩ := ih (k + 1) n (by omega) (by omega)
    constructor
    · rw [f_X9_wrote_5, o1, pr_b, if_neg nk, if_pos rfl, e2, pr_ofStory ν (i := s) (k := 2 + k) (by omega), pr_b, e1, i0, i1, r_by]
      by_cases g : ν 1 (107 + 29 * s + (2 + k)) = x
      · rw [if_pos g, if_pos g]
      · rw [if_neg g, if_neg g]
    · rw [f_X9_wrote_5, o1, pr_b, if_neg nk, if_neg (show ¬ (1 : Int32) = 0 by decide), e1, i1]
theorem r_isBy {σ : ed_SM} {ν : em_MM} {h nC nS nK s : Nat} (hR : r_R σ (ν 1) h nC nS nK 160) (hs : s < nS) (x : Int32) : f_X6_isBy s x σ = some (r_byS (ν 1) x s) ∧ f_X9_wrote x (nI s) ν = some (r_byS (ν 1) x s) := by
  have b2 : nS ≤ 20 := hR.1.2.2.2.2.2.2.2.2.2.2.2.1
  obtain ⟨⟨a0, a1, -⟩, ⟨m, c1, c2, c3, c4⟩, -⟩ := hR.2.2.2.1 s hs
  unfold r_byS
  rw [c3, nI_clamp (by omega)]
  exact ⟨r_isBy_L (a1.trans c3) c2 (fun k hk => (c4 k hk).1) x m 0 ed_N (by omega) (by unfold ed_N; omega), (r_wrote_L ν (by omega) c3 c2 x m 0 ed_N (by omega) (by unfold ed_N; omega)).1⟩
def r_fB (v : Nat → Int32) (x : Int32) (s : Nat) : Nat := if r_byS v x s = 0 then 0 else 1
def r_use (v : Nat → Int32) (nK s : Nat) : Nat := r_seg (fun q => if v (687 + 6 * q) = nI s then (if v (687 + 6 * q + 2) = 1 then (if (0 : Int32) = 0 then 1 else if v (687 + 6 * q + 5) = v (107 + 29 * s + 7) then 1 else 0) else 0) else 0) nK 0
def r_fU (v : Nat → Int32) (nK : Nat) (x : Int32) (s : Nat) : Nat := if r_byS v x s = 0 then 0 else r_use v nK s
theorem r_storiesBy_L {σ : ed_SM} {ν : em_MM} {h nC nS nK : Nat} (hR : r_R σ (ν 1) h nC nS nK 160) (x1 : Int32) : ∀ (d p n x : Nat), p + d = nS → d < n → f_X5_storiesBy_4 σ n x1 (nI x) (nI p) = some (nI (x + r_seg (r_fB (ν 1) x1) d p)) := by
  obtain ⟨q1, q2, q3, q4, q5, q6, q7, q8, q9, q10, b1, b2, b3, b4⟩ := hR.1
  intro d
  induction d with
  | zero =>
    intro p n x hp hn
    obtain ⟨n, rfl⟩ : ∃ q, n = q + 1 := ⟨n - 1, by omega⟩
    rw [f_X5_storiesBy_4, q5, if_pos (by rw [pr_le (by omega) (by omega)]; omega)]
    rfl
  | succ d ih =>
    intro p n x hp hn
    obtain ⟨n, rfl⟩ : ∃ q, n = q + 1 := ⟨n - 1, by omega⟩
    have np : ¬ nI nS ≤ nI p := by rw [pr_le (by omega) (by omega)]; omega
    have e1 : nI p + 1 = nI (p + 1) := nI_add p 1
    have e2 : nI x + 1 = nI (x + 1) := nI_add x 1
    have i0 := ih (p + 1) n x (by omega) (by omega)
    have i1 := ih (p + 1) n (x + 1) (by omega) (by omega)
    rw [f_X5_storiesBy_4, q5, if_neg np, pr_storyAt q5 b2 (by omega), pr_b]
    show ed_g _ _ = _
    rw [pr_g (by omega), (r_isBy hR (s := p) (by omega) x1).1, pr_b, e1, e2, i0, i1, r_seg]
    unfold r_fB
    by_cases g : r_byS (ν 1) x1 p = 0
    · rw [if_pos g, if_pos g, Nat.zero_add]
    · rw [if_neg g, if_neg g, Nat.add_assoc]
theorem r_usesBy_L {σ : ed_SM} {ν : em_MM} {h nC nS nK : Nat} (hR : r_R σ (ν 1) h nC nS nK 160) (x1 : Int32) : ∀ (d p n x : Nat), p + d = nS → d < n → f_X5_copiesInUseBy_4 σ n x1 (nI x) (nI p) = some (nI (x + r_seg (r_fU (ν 1) nK x1) d p)) := by
  obtain ⟨q1, q2, q3, q4, q5, q6, q7, q8, q9, q10, b1, b2, b3, b4⟩ := hR.1
  intro d
  induction d with
  | zero =>
    intro p n x hp hn
    obtain ⟨n, rfl⟩ : ∃ q, n = q + 1 := ⟨n - 1, by omega⟩
    rw [f_X5_copiesInUseBy_4, q5, if_pos (by rw [pr_le (by omega) (by omega)]; omega)]
    rfl
  | succ d ih =>
    intro p n x hp hn
    obtain ⟨n, rfl⟩ : ∃ q, n = q + 1 := ⟨n - 1, by omega⟩
    have np : ¬ nI nS ≤ nI p := by rw [pr_le (by omega) (by omega)]; omega
    have e1 : nI p + 1 = nI (p + 1) := nI_add p 1
    have i0 := ih (p + 1) n x (by omega) (by omega)
    have i1 := ih (p + 1) n (x + r_use (ν 1) nK p) (by omega) (by omega)
    rw [f_X5_copiesInUseBy_4, q5, if_neg np, pr_storyAt q5 b2 (by omega), pr_b]
    show ed_g _ _ = _
    rw [pr_g (by omega), (r_isBy hR (s := p) (by omega) x1).1, pr_b, r_copiesOf q9 b3, r_useOf hR (by omega), pr_b, e1]
    show (if _ then _ else f_X5_copiesInUseBy_4 σ n x1 (nI x + nI (r_use (ν 1) nK p)) (nI (p + 1))) = _
    rw [nI_add, i0, i1, r_seg]
    unfold r_fU
    by_cases g : r_byS (ν 1) x1 p = 0
    · rw [if_pos g, if_pos g, Nat.zero_add]
    · rw [if_neg g, if_neg g, Nat.add_assoc]
theorem r_person_L {σ : ed_SM} {ν : em_MM} {h nC nS nK : Nat} (hR : r_R σ (ν 1) h nC nS nK 160) (x1 x2 : Int32) : ∀ (d p n a b : Nat), p + d = nS → d < n → f_X9_person_32 ν n x1 x2 (nI a) (nI b) (nI p) = f_X9_person_32 ν (0 + 1) x1 x2 (nI (a + r_seg (r_fB (ν 1) x1) d p)) (nI (b + r_seg (r_fU (ν 1) nK x1) d p)) (nI nS) := by
  obtain ⟨q1, q2, q3, q4, q5, q6, q7, q8, q9, q10, b1, b2, b3, b4⟩ := hR.1
  have v2 : ν 1 (2 : Int32).toNatClampNeg = nI nS := by rw [pr_cl 2 (by omega), q6]
  intro d
  induction d with
  | zero =>
    intro p n a b hp hn
    obtain ⟨n, rfl⟩ : ∃ q, n = q + 1 := ⟨n - 1, by omega⟩
    obtain rfl : p = nS := by omega
    have c : nI p ≤ nI p := by rw [pr_le (by omega) (by omega)]; omega
    rw [f_X9_person_32, f_X9_person_32, pr_gN (by decide) (by decide), pr_gN (by decide) (by decide), v2, if_pos c, if_pos c]
    rfl
  | succ d ih =>
    intro p n a b hp hn
    obtain ⟨n, rfl⟩ : ∃ q, n = q + 1 := ⟨n - 1, by omega⟩
    have np : ¬ nI nS ≤ nI p := by rw [pr_le (by omega) (by omega)]; omega
    have e1 : nI p + 1 = nI (p + 1) := nI_add p 1
    have e2 : nI a + 1 = nI (a + 1) := nI_add a 1
    have i0 := ih (p + 1) n a b (by omega) (by omega)
    have i1 := ih (p + 1) n (a + 1) (b + r_use (ν 1) nK p) (by omega) (by omega)
    have iu : f_X9_inUse (nI p) 0 ν = some (nI (r_use (ν 1) nK p)) := r_inUse ν q10 b3 (by omega) 0
    rw [f_X9_person_32, pr_gN (by decide) (by decide), v2, if_neg np, (r_isBy hR (s := p) (by omega) x1).2, pr_b, pr_b, pr_b, iu, pr_b, e1]
    by_cases g : r_byS (ν 1) x1 p = 0
    · have g1 : r_fB (ν 1) x1 p = 0 := by unfold r_fB; rw [if_pos g]
      have g2 : r_fU (ν 1) nK x1 p = 0 := by unfold r_fU; rw [if_pos g]
      rw [if_pos g, if_pos g, pr_z, pr_z, i0]
      show _ = f_X9_person_32 ν (0 + 1) x1 x2 (nI (a + (r_fB (ν 1) x1 p + r_seg (r_fB (ν 1) x1) d (p + 1)))) (nI (b + (r_fU (ν 1) nK x1 p + r_seg (r_fU (ν 1) nK x1) d (p + 1)))) (nI nS)
      rw [g1, g2, Nat.zero_add (r_seg (r_fB (ν 1) x1) d (p + 1)), Nat.zero_add (r_seg (r_fU (ν 1) nK x1) d (p + 1))]
    · have g1 : r_fB (ν 1) x1 p = 1 := by unfold r_fB; rw [if_neg g]
      have g2 : r_fU (ν 1) nK x1 p = r_use (ν 1) nK p := by unfold r_fU; rw [if_neg g]
      rw [if_neg g, if_neg g, e2, pr_b, nI_add, i1]
      show _ = f_X9_person_32 ν (0 + 1) x1 x2 (nI (a + (r_fB (ν 1) x1 p + r_seg (r_fB (ν 1) x1) d (p + 1)))) (nI (b + (r_fU (ν 1) nK x1 p + r_seg (r_fU (ν 1) nK x1) d (p + 1)))) (nI nS)
      rw [g1, g2, Nat.add_assoc, Nat.add_assoc]
theorem m_person {μ : ed_CM} {ν : em_MM} (hR : r_REL μ ν) (x1 x2 : Int32) : r_okI (f_X8_person x1 x2 μ) (f_X9_person x1 x2 ν) := by
  obtain ⟨h, nC, nS, nK, hh, hX⟩ := id hR.1
  obtain ⟨⟨q1, q2, q3, q4, q5, q6, q7, q8, q9, q10, b1, b2, b3, b4⟩, qC, qP, qS, -⟩ := id hX
  have v2 : ν 1 (2 : Int32).toNatClampNeg = nI nS := by rw [pr_cl 2 (by omega), q6]
  unfold f_X8_person f_X9_person
  have e9 : (9 : Int32) = nI 10 - 1 := by decide
  rcases pr_split x1 (n := 10) (by omega) with ⟨q, hq, rfl⟩ | hx
  · have in1 : f_X9_in (nI q) 0 9 = 1 := by rw [e9]; exact pr_in1 (by omega) hq
    have sb := r_storiesBy_L hX (nI q) nS 0 ed_N 0 (by omega) (by unfold ed_N; omega)
    have ub := r_usesBy_L hX (nI q) nS 0 ed_N 0 (by omega) (by unfold ed_N; omega)
    have sb : f_X5_storiesBy (nI q) (μ 0) = _ := sb
    have ub : f_X5_copiesInUseBy (nI q) (μ 0) = _ := ub
    have lp := r_person_L hX (nI q) x2 nS 0 ed_N 0 0 (by omega) (by unfold ed_N; omega)
    have lp : f_X9_person_32 ν ed_N (nI q) x2 0 0 0 = _ := lp
    have c : nI nS ≤ nI nS := by rw [pr_le (by omega) (by omega)]; omega
    have m0 : (87 : Int32) + 2 * nI q = nI (87 + 2 * q) := by
      rw [show (2 : Int32) = nI 2 from rfl, show (87 : Int32) = nI 87 from rfl, pk_mul, nI_add]
    rw [pr_personAt hq, pr_b, in1, if_neg (show ¬ (1 : Int32) = 0 by decide)]
    show r_okI (ed_g _ _) _
    rw [pr_g (by omega), lp, f_X9_person_32, pr_gN (by decide) (by decide), v2, if_pos c, m0, qP.1 q 0 hq (by omega), qP.1 q 1 hq (by omega), sb, ub, pr_b, pr_b]
    rcases pr_split x2 (n := 4) (by omega) with ⟨u, hu, rfl⟩ | hx2
    · rw [nI_add]
      rcases (show u = 0 ∨ u = 1 ∨ u = 2 ∨ u = 3 by omega) with rfl | rfl | rfl | rfl
      · rw [if_pos (show nI 0 = 0 from rfl), if_neg (show ¬ f_X9_in (nI 0) 0 3 = 0 by decide), if_neg (show ¬ 2 ≤ nI 0 by decide), pr_gin (by omega) (by omega), nI_clamp (by omega)]
        exact r_okI.mk _
      · rw [if_neg (show ¬ nI 1 = 0 by decide), if_pos (show nI 1 = 1 from rfl), if_neg (show ¬ f_X9_in (nI 1) 0 3 = 0 by decide), if_neg (show ¬ 2 ≤ nI 1 by decide), pr_gin (by omega) (by omega), nI_clamp (by omega)]
        exact r_okI.mk _
      · rw [if_neg (show ¬ nI 2 = 0 by decide), if_neg (show ¬ nI 2 = 1 by decide), if_pos (show nI 2 = 2 from rfl), if_neg (show ¬ f_X9_in (nI 2) 0 3 = 0 by decide), if_pos (show 2 ≤ nI 2 by decide)]
        exact r_okI.mk _
      · rw [if_neg (show ¬ nI 3 = 0 by decide), if_neg (show ¬ nI 3 = 1 by decide), if_neg (show ¬ nI 3 = 2 by decide), if_pos (show nI 3 = 3 from rfl), if_neg (show ¬ f_X9_in (nI 3) 0 3 = 0 by decide), if_pos (show 2 ≤ nI 3 by decide), if_neg (show ¬ nI 3 = 2 by decide)]
        exact r_okI.mk _
    · have ne : ∀ y : Int32, 0 ≤ y → y < nI 4 → ¬ x2 = y := fun y h1 h2 g => by
        subst g
        rcases hx2 with g | g
        · exact absurd g (Int32.not_lt.mpr h1)
        · exact absurd h2 (Int32.not_lt.mpr g)
      have e3 : (3 : Int32) = nI 4 - 1 := by decide
      have out : f_X9_in x2 0 3 = 0 := by rw [e3]; exact pr_in0 (by omega) hx2
      rw [if_pos out, if_neg (ne 0 (by decide) (by decide)), if_neg (ne 1 (by decide) (by decide)), if_neg (ne 2 (by decide) (by decide)), if_neg (ne 3 (by decide) (by decide))]
      exact r_okI.mk _
  · have in0 : f_X9_in x1 0 9 = 0 := by rw [e9]; exact pr_in0 (by omega) hx
    rw [pr_personNo hx, pr_b, in0, if_pos rfl]
    exact r_okI.mk _
