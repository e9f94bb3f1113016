/-! The law's look at the money. -/
theorem j_s_mono {f : Nat → Int} {i : Nat} : ∀ (e : Nat), (∀ k, k < i + e → 0 ≤ f k) → j_s f i ≤ j_s f (i + e)
  | 0, _ => Int.le_refl _
  | e + 1, h => by
    have h1 := j_s_mono (f := f) (i := i) e (fun k hk => h k (by omega))
    have h2 := h (i + e) (by omega)
    have h4 : j_s f (i + (e + 1)) = j_s f (i + e) + f (i + e) := rfl
    omega
theorem l_one {a : Nat} (ha : a < 10) : r_seg (fun q => if q = a then 1 else 0) 10 0 = 1 := by
  rcases (show a = 0 ∨ a = 1 ∨ a = 2 ∨ a = 3 ∨ a = 4 ∨ a = 5 ∨ a = 6 ∨ a = 7 ∨ a = 8 ∨ a = 9 by omega) with rfl | rfl | rfl | rfl | rfl | rfl | rfl | rfl | rfl | rfl <;> rfl
theorem l_by0 {v : Nat → Int32} {s : Nat} {x : Int32} : ∀ (d k : Nat), (∀ j, k ≤ j → j < k + d → ¬ v (107 + 29 * s + (2 + j)) = x) → r_by v s x d k = 0
  | 0, _, _ => rfl
  | d + 1, k, h => by
    rw [r_by, if_neg (h k (Nat.le_refl k) (by omega))]
    exact l_by0 d (k + 1) (fun j h1 h2 => h j (by omega) (by omega))
theorem l_byM {v : Nat → Int32} {s m : Nat} (ha : ∀ k, k < m → ∃ q, q < 10 ∧ v (107 + 29 * s + (2 + k)) = nI q) (hd : ∀ k k', k < m → k' < m → v (107 + 29 * s + (2 + k)) = v (107 + 29 * s + (2 + k')) → k = k') : ∀ (d k : Nat), k + d = m → r_seg (fun q => if r_by v s (nI q) d k = 0 then 0 else 1) 10 0 = d := by
  intro d
  induction d with
  | zero => intro k hk; rfl
  | succ d ih =>
    intro k hk
    obtain ⟨a, ha10, ea⟩ := ha k (by omega)
    have h1 := ih (k + 1) (by omega)
    have h2 : r_seg (fun q => if r_by v s (nI q) (d + 1) k = 0 then 0 else 1) 10 0 = r_seg (fun q => if q = a then 1 else 0) 10 0 + r_seg (fun q => if r_by v s (nI q) d (k + 1) = 0 then 0 else 1) 10 0 := by
      refine r_seg_add 10 0 (fun q _ hq => ?_)
      show (if r_by v s (nI q) (d + 1) k = 0 then 0 else 1) = (if q = a then 1 else 0) + (if r_by v s (nI q) d (k + 1) = 0 then 0 else 1)
      by_cases he : q = a
      · subst he
        rw [r_by, if_pos ea, if_neg (by decide), if_pos rfl, l_by0 d (k + 1) (fun j h3 h4 h5 => ?_), if_pos rfl]
        have := hd k j (by omega) (by omega) (ea.trans h5.symm)
        omega
      · rw [r_by, ea, if_neg (show ¬ nI a = nI q by rw [pr_eq (by omega) (by omega)]; omega), if_neg he, Nat.zero_add]
    rw [h2, l_one ha10, h1]
    omega
theorem l_swap (F : Nat → Nat → Nat) : ∀ (n : Nat), r_seg (fun q => r_seg (F q) n 0) 10 0 = r_seg (fun s => r_seg (fun q => F q s) 10 0) n 0
  | 0 => rfl
  | n + 1 => by
    rw [r_seg_snoc (fun s => r_seg (fun q => F q s) 10 0), ← l_swap F n, Nat.zero_add]
    refine r_seg_add 10 0 (fun q _ _ => ?_)
    show r_seg (F q) (n + 1) 0 = r_seg (F q) n 0 + F q n
    rw [r_seg_snoc, Nat.zero_add]
/-- the persons in a story's byline, a number -/
def l_m (v : Nat → Int32) (s : Nat) : Nat := (v (107 + 29 * s + 1)).toNatClampNeg
theorem l_bylines {μ : ed_CM} {v : Nat → Int32} {M pd : Int} {h nC nS nK : Nat} (H : j_J (μ 0) M pd h nC nS nK) (hX : r_R (μ 0) v h nC nS nK 160) : r_seg (fun q => r_seg (r_fB v (nI q)) nS 0) 10 0 = r_seg (l_m v) nS 0 := by
  rw [l_swap (fun q => r_fB v (nI q)) nS]
  refine r_seg_cg nS 0 (fun s _ hs => ?_)
  have hs : s < nS := by omega
  obtain ⟨⟨x1, x2, -⟩, ⟨m, y1, y2, y3, y4⟩, -⟩ := hX.2.2.2.1 s hs
  obtain ⟨⟨m', w1, w2, w3, w4, w5⟩, -⟩ := H.2.2.2.1 s hs
  have em : m' = m := (nI_eq (by omega) (by omega)).mp (w3.symm.trans (x2.trans y3))
  subst em
  have e1 : l_m v s = m' := by unfold l_m; rw [y3, nI_clamp (by omega)]
  have e2 : ∀ q, r_fB v (nI q) s = if r_by v s (nI q) m' 0 = 0 then 0 else 1 := fun q => by
    unfold r_fB r_byS
    rw [y3, nI_clamp (by omega)]
  rw [e1]
  have e3 := l_byM (v := v) (s := s) (m := m') (fun k hk => (y4 k hk).2) (fun k k' hk hk' he => w5 k k' hk hk' (by rw [(y4 k hk).1, (y4 k' hk').1]; exact he)) m' 0 (by omega)
  refine Eq.trans ?_ e3
  exact r_seg_cg 10 0 (fun q _ _ => e2 q)
theorem l_126 {μ : ed_CM} {v : Nat → Int32} {M pd : Int} {h nC nS nK : Nat} (H : j_J (μ 0) M pd h nC nS nK) (hX : r_R (μ 0) v h nC nS nK 160) (x : Int32) : ∀ (d i n : Nat), i + d = nS → d < n → f_L_money_126 μ n x x (nI (r_seg (l_m v) nS 0) - nI (r_seg (l_m v) i 0)) 1 (nI i) = some 1 := by
  obtain ⟨⟨a0, a3, a4, a5, a6, a7, a8, a9⟩, C, P, S, K, m1, m2, m3⟩ := id H
  intro d
  induction d with
  | zero =>
    intro i n hi hn
    obtain ⟨n, rfl⟩ : ∃ q, n = q + 1 := ⟨n - 1, by omega⟩
    have e : i = nS := by omega
    subst e
    rw [f_L_money_126, q_count2, pr_b, a3, if_pos (show nI i ≤ nI i by rw [pr_le (by omega) (by omega)]; omega), if_neg (by decide), if_pos rfl, pk_sub (Nat.le_refl _), Nat.sub_self]
    rfl
  | succ d ih =>
    intro i n hi hn
    obtain ⟨n, rfl⟩ : ∃ q, n = q + 1 := ⟨n - 1, by omega⟩
    have hi' : i < nS := by omega
    obtain ⟨⟨x1, x2, -⟩, ⟨m, y1, y2, y3, y4⟩, -⟩ := hX.2.2.2.1 i hi'
    have e1 : μ 0 7 i 1 = nI (l_m v i) := by
      rw [x2, y3]
      unfold l_m
      rw [y3, nI_clamp (by omega)]
    have e2 : nI (r_seg (l_m v) nS 0) - nI (r_seg (l_m v) i 0) - nI (l_m v i) = nI (r_seg (l_m v) nS 0) - nI (r_seg (l_m v) (i + 1) 0) := by
      rw [r_seg_snoc, Nat.zero_add, ← nI_add, Int32.sub_sub]
    rw [f_L_money_126, q_count2, pr_b, a3, if_neg (show ¬ nI nS ≤ nI i by rw [pr_le (by omega) (by omega)]; omega), q_story1 a3 a7 hi', pr_b, e1, e2, nI_1]
    exact ih (i + 1) n (by omega) (by omega)
theorem l_73 {μ : ed_CM} {v : Nat → Int32} {M pd : Int} {h nC nS nK : Nat} (H : j_J (μ 0) M pd h nC nS nK) (hX : r_R (μ 0) v h nC nS nK 160) (hM : M ≤ 2000000000) (x2 : Int32) (hx2 : x2.toInt = j_s (j_g (μ 0)) 10) : ∀ (d i n : Nat) (x3 : Int32), i + d = nC → d < n → x3.toInt = j_s (j_o (μ 0)) i + pd → f_L_money_73 μ n x2 x3 (nI (r_seg (l_m v) nS 0)) 1 (nI i) = some 1 := by
  obtain ⟨⟨a0, a3, a4, a5, a6, a7, a8, a9⟩, C, P, S, K, m1, m2, m3⟩ := id H
  intro d
  induction d with
  | zero =>
    intro i n x3 hi hn h3
    obtain ⟨n, rfl⟩ : ∃ q, n = q + 1 := ⟨n - 1, by omega⟩
    have e : i = nC := by omega
    subst e
    have e23 : x2 = x3 := pr_toInt_inj (by omega)
    subst e23
    rw [f_L_money_73, q_count1, pr_b, a4, if_pos (show nI i ≤ nI i by rw [pr_le (by omega) (by omega)]; omega)]
    have := l_126 H hX x2 nS 0 ed_N (by omega) (by unfold ed_N; omega)
    rw [show r_seg (l_m v) 0 0 = 0 from rfl, show nI 0 = (0 : Int32) from rfl, Int32.sub_zero] at this
    exact this
  | succ d ih =>
    intro i n x3 hi hn h3
    obtain ⟨n, rfl⟩ : ∃ q, n = q + 1 := ⟨n - 1, by omega⟩
    have hi' : i < nC := by omega
    obtain ⟨c1, c2, c3, c4, c5, c6, c7, c8, c9, c10, c11, c12, c13, c14⟩ := C i hi'
    have hnn : ∀ k, k < nC → 0 ≤ j_o (μ 0) k := fun k hk => (C k hk).2.2.2.2.2.2.2.2.1
    have hs0 : 0 ≤ j_s (j_o (μ 0)) i := j_s_nn i (fun k hk => hnn k (by omega))
    have h5 : j_s (j_o (μ 0)) (i + 1) = j_s (j_o (μ 0)) i + (μ 0 11 i 6).toInt := rfl
    have h6 := j_s_mono (f := j_o (μ 0)) (i := i + 1) (nC - (i + 1)) (fun k hk => hnn k (by omega))
    rw [show i + 1 + (nC - (i + 1)) = nC by omega] at h6
    have h7 : (μ 0 11 i 6).toInt ≤ j_s (j_o (μ 0)) nC := j_s_le (f := j_o (μ 0)) nC hnn hi'
    rw [f_L_money_73, q_count1, pr_b, a4, if_neg (show ¬ nI nC ≤ nI i by rw [pr_le (by omega) (by omega)]; omega), q_client6 a4 a6 hi', pr_b, if_neg (by decide), q_client10 a4 a6 hi', pr_b, c14, if_pos rfl, nI_1]
    exact ih (i + 1) n (x3 + μ 0 11 i 6) (by omega) (by omega) (by rw [pr_add (by omega) (by omega)]; omega)
theorem l_13 {μ : ed_CM} {ν : em_MM} {M pd : Int} {h nC nS nK : Nat} (H : j_J (μ 0) M pd h nC nS nK) (hX : r_R (μ 0) (ν 1) h nC nS nK 160) (hM : M ≤ 2000000000) (x3 : Int32) (hx3 : x3.toInt = pd) : ∀ (d i n : Nat) (x2 : Int32), i + d = 10 → d < n → x2.toInt = j_s (j_g (μ 0)) i → f_L_money_13 μ n x2 x3 (nI (r_seg (fun q => r_seg (r_fB (ν 1) (nI q)) nS 0) i 0)) 1 (nI i) = some 1 := by
  obtain ⟨⟨a0, a3, a4, a5, a6, a7, a8, a9⟩, C, P, S, K, m1, m2, m3⟩ := id H
  intro d
  induction d with
  | zero =>
    intro i n x2 hi hn h2
    obtain ⟨n, rfl⟩ : ∃ q, n = q + 1 := ⟨n - 1, by omega⟩
    have e : i = 10 := by omega
    subst e
    rw [f_L_money_13, if_pos (show (10 : Int32) ≤ nI 10 by decide), l_bylines H hX]
    exact l_73 H hX hM x2 h2 nC 0 ed_N x3 (by omega) (by unfold ed_N; omega) (by rw [hx3]; exact (Int.zero_add pd).symm)
  | succ d ih =>
    intro i n x2 hi hn h2
    obtain ⟨n, rfl⟩ : ∃ q, n = q + 1 := ⟨n - 1, by omega⟩
    have hi' : i < 10 := by omega
    have hnn : ∀ k, k < 10 → 0 ≤ j_g (μ 0) k := fun k hk => (P k hk).1
    have hs0 : 0 ≤ j_s (j_g (μ 0)) i := j_s_nn i (fun k hk => hnn k (by omega))
    have h5 : j_s (j_g (μ 0)) (i + 1) = j_s (j_g (μ 0)) i + (μ 0 13 i 0).toInt := rfl
    have h6 := j_s_mono (f := j_g (μ 0)) (i := i + 1) (10 - (i + 1)) (fun k hk => hnn k (by omega))
    rw [show i + 1 + (10 - (i + 1)) = 10 by omega] at h6
    have h7 : (μ 0 13 i 0).toInt ≤ j_s (j_g (μ 0)) 10 := j_s_le (f := j_g (μ 0)) 10 hnn hi'
    have h8 := hnn i hi'
    have h8 : 0 ≤ (μ 0 13 i 0).toInt := h8
    have sb := r_storiesBy_L hX (nI i) nS 0 ed_N 0 (by omega) (by unfold ed_N; omega)
    rw [Nat.zero_add] at sb
    have sb : f_X5_storiesBy (nI i) (μ 0) = _ := sb
    rw [f_L_money_13, if_neg (show ¬ (10 : Int32) ≤ nI i by show ¬ nI 10 ≤ nI i; rw [pr_le (by omega) (by omega)]; omega), q_person0 hi', pr_b, q_person2 hi', sb, pr_b, if_neg (by decide), q_person1 hi', pr_b, (P i hi').2, if_pos rfl, nI_add, nI_1]
    have e9 : r_seg (fun q => r_seg (r_fB (ν 1) (nI q)) nS 0) (i + 1) 0 = r_seg (fun q => r_seg (r_fB (ν 1) (nI q)) nS 0) i 0 + r_seg (r_fB (ν 1) (nI i)) nS 0 := by
      rw [r_seg_snoc, Nat.zero_add]
    rw [← e9]
    exact ih (i + 1) n (x2 + μ 0 13 i 0) (by omega) (by omega) (by rw [pr_add (by omega) (by omega)]; omega)
theorem l_money {μ : ed_CM} {M pd : Int} {h nC nS nK : Nat} (G : j_G μ M pd h nC nS nK) (hM : M ≤ 2000000000) {x : Int32} (hx : x.toInt = pd) : f_L_money x μ = some 1 := by
  obtain ⟨ν, hR, hX⟩ := G.R
  exact l_13 G.2 hX hM x hx 10 0 ed_N 0 (by omega) (by unfold ed_N; omega) rfl
