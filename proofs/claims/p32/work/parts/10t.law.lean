/-! The law, from its first number to its answer. -/
theorem l_cell (xs : Nat → Int32) (L : Nat) {k : Nat} (hk : k < 2 ^ 31) : ∃ y, y < 2 ^ 31 ∧ f_L_cell xs L (nI k) = some (nI y) := by
  obtain ⟨j, j1, j2⟩ := pk_andE (if nI L ≤ nI k then 15566531 * nI k + 2003 else xs (nI k).toNatClampNeg) (m := 2147483647) 31 (by decide)
  exact ⟨j, j1, by unfold f_L_cell; rw [pr_g (nI_pos hk), j2]⟩
theorem l_pd {μ : ed_CM} {M pd : Int} {h nC nS nK : Nat} (G : j_G μ M pd h nC nS nK) : 0 ≤ pd ∧ pd ≤ M := by
  obtain ⟨A, C, P, S, K, m1, m2, m3⟩ := id G.2
  have := j_s_nn (f := j_o (μ 0)) nC (fun c hc => (C c hc).2.2.2.2.2.2.2.2.1)
  exact ⟨m3, by omega⟩
theorem l_248 {k139 : Int32 → Int32 → Int32 → ed_CM → Option Int32} {xs : Nat → Int32} {L : Nat} {μ : ed_CM} {M pd : Int} {h nC nS nK y : Nat} (G : j_G μ M pd h nC nS nK) (hC : 2 ≤ nC) (hy : y < 2 ^ 31) (hh : h + 9 ≤ 9999) (hM : M + 1600000 * 9 + 1 ≤ 2000000000) {x4 : Int32} (hx : x4.toInt = pd) (x5 : Int32) : ∃ μ' m nS' nK', f_L_law_248 k139 xs L 1 x4 x5 (nI y) μ = k139 1 x4 (x5 + 1) μ' ∧ m ≤ 9 ∧ j_G μ' (M + 1600000 * (m : Nat)) pd (h + m) nC nS' nK' := by
  obtain ⟨μ', m, nS', nK', r1, r2, r3⟩ := l_acts G hC hy hh hM
  refine ⟨μ', m, nS', nK', ?_, r2, r3⟩
  unfold f_L_law_248
  rw [if_neg (by decide), r1, pr_b2, if_neg (by decide), l_copies r3, pr_b, if_neg (by decide), l_money r3 (by omega) hx, pr_b, if_neg (by decide)]
theorem l_139 {xs : Nat → Int32} {L nC : Nat} (hC : 2 ≤ nC) : ∀ (d t n h nS nK : Nat) (M pd : Int) (x4 : Int32) (μ : ed_CM), t + d = 40 → d < n → j_G μ M pd h nC nS nK → x4.toInt = pd → h + 9 * d + 30 ≤ 9999 → M + 14400000 * d + 48000001 ≤ 2000000000 → f_L_law_139 xs L n 1 x4 (nI t) μ = some 1 := by
  intro d
  induction d with
  | zero =>
    intro t n h nS nK M pd x4 μ ht hn G hx hh hM
    obtain ⟨n, rfl⟩ : ∃ m, n = m + 1 := ⟨n - 1, by omega⟩
    rw [f_L_law_139, if_pos (show (40 : Int32) ≤ nI t by show nI 40 ≤ nI t; rw [pr_le (by omega) (by omega)]; omega)]
    exact l_289 G (by omega) (by omega) hx
  | succ d ih =>
    intro t n h nS nK M pd x4 μ ht hn G hx hh hM
    obtain ⟨n, rfl⟩ : ∃ m, n = m + 1 := ⟨n - 1, by omega⟩
    obtain ⟨⟨a0, a3, a4, a5, a6, a7, a8, a9⟩, C, P, S, K, m1, m2, m3⟩ := id G.2
    obtain ⟨y, hy, ey⟩ := l_cell xs L (k := 6 + t) (by omega)
    have fin : ∀ (μ' : ed_CM) (pd' : Int) (x4' : Int32), j_G μ' M pd' h nC nS nK → x4'.toInt = pd' → f_L_law_248 (fun a0 a1 a2 a3 => f_L_law_139 xs L n a0 a1 a2 a3) xs L 1 x4' (nI t) (nI y) μ' = some 1 := by
      intro μ' pd' x4' G' hx'
      obtain ⟨μ2, m, nS', nK', r1, r2, r3⟩ := l_248 (k139 := fun a0 a1 a2 a3 => f_L_law_139 xs L n a0 a1 a2 a3) (xs := xs) (L := L) G' hC hy (by omega) (by omega) hx' (nI t)
      rw [r1, nI_1]
      exact ih (t + 1) n (h + m) nS' nK' _ pd' x4' μ2 (by omega) (by omega) r3 hx' (by omega) (by omega)
    have e6 : (6 : Int32) + nI t = nI (6 + t) := by rw [show (6 : Int32) = nI 6 from rfl, nI_add]
    have s8 : nI y >>> ((8 : Int32) &&& 31) = nI (y / 2 ^ 8) := pk_shrN hy _ 8 (by decide)
    have b8 : y / 2 ^ 8 < 2 ^ 31 := Nat.lt_of_le_of_lt (Nat.div_le_self _ _) hy
    obtain ⟨c, hc⟩ : ∃ c, y % nC = c := ⟨_, rfl⟩
    have hcn : c < nC := by rw [← hc]; exact Nat.mod_lt _ (by omega)
    have ec : nI y - nI y / nI nC * nI nC = nI c := by rw [pk_rem hy (by omega) (by omega), hc]
    obtain ⟨z, hz⟩ : ∃ z, 1 + y / 2 ^ 8 % 2000 = z := ⟨_, rfl⟩
    have hz1 : 1 ≤ z ∧ z ≤ 2000 := by
      have := Nat.mod_lt (y / 2 ^ 8) (show 0 < 2000 by omega)
      omega
    have ez : (1 : Int32) + (nI (y / 2 ^ 8) - nI (y / 2 ^ 8) / 2000 * 2000) = nI z := by
      rw [show (2000 : Int32) = nI 2000 from rfl, pk_rem b8 (by omega) (by omega), show (1 : Int32) = nI 1 from rfl, nI_add, hz]
    have tz : (nI z).toInt = z := nI_toInt (by omega)
    rw [f_L_law_139, if_neg (show ¬ (40 : Int32) ≤ nI t by show ¬ nI 40 ≤ nI t; rw [pr_le (by omega) (by omega)]; omega), if_neg (by decide), e6, ey, pr_b, q_count1, pr_b, a4, pr_g (nI_ne0 (by omega) (by omega)), ec, pr_t, s8, ez, pr_t]
    generalize nI y >>> ((3 : Int32) &&& 31) &&& 15 = q
    by_cases hq : q = 7
    · rw [if_pos hq, q_client6 a4 a6 hcn, pr_b]
      by_cases hlt : μ 0 11 c 6 < nI z
      · rw [if_pos hlt]
        exact fin μ pd x4 G hx
      · have hle : (nI z).toInt ≤ (μ 0 11 c 6).toInt := by
          rw [pr_iLt] at hlt
          omega
        obtain ⟨μ', p1, p2⟩ := g_pay G hcn (x := nI z) (by rw [tz]; omega) hle
        have pd' := l_pd p2
        have pd0 := l_pd G
        rw [if_neg hlt, pr_b, p1, pr_b2, if_pos rfl]
        exact fin μ' _ _ p2 (by rw [pr_add (by omega) (by omega), hx])
    · rw [if_neg hq]
      exact fin μ pd x4 G hx
theorem l_139' {xs : Nat → Int32} {L nC : Nat} (hC : 2 ≤ nC) (n : Nat) (hn : 40 < n) {μ : ed_CM} (G : j_G μ 0 0 0 nC 0 0) : f_L_law_139 xs L n 1 0 0 μ = some 1 :=
  l_139 hC 40 0 n 0 0 0 0 0 0 μ rfl hn G rfl (by omega) (by omega)
theorem l_46 {xs : Nat → Int32} {L N : Nat} {x : Int32} (h2 : 2 ≤ N ∧ N ≤ 4) (hN : (2 : Int32) + (x >>> ((3 : Int32) &&& 31) - x >>> ((3 : Int32) &&& 31) / 3 * 3) = nI N) : ∀ (d k n : Nat) (μ : ed_CM), k + d = N → d < n → j_G μ 0 0 0 k 0 0 → f_L_law_46 xs L n x 1 (nI k) μ = some 1 := by
  intro d
  induction d with
  | zero =>
    intro k n μ hk hn G
    obtain ⟨n, rfl⟩ : ∃ m, n = m + 1 := ⟨n - 1, by omega⟩
    rw [f_L_law_46, hN, if_pos (show nI N ≤ nI k by rw [pr_le (by omega) (by omega)]; omega)]
    exact l_139' (nC := k) (by omega) ed_N (by unfold ed_N; omega) G
  | succ d ih =>
    intro k n μ hk hn G
    obtain ⟨n, rfl⟩ : ∃ m, n = m + 1 := ⟨n - 1, by omega⟩
    obtain ⟨y, hy, ey⟩ := l_cell xs L (k := 1 + k) (by omega)
    have e1 : (1 : Int32) + nI k = nI (1 + k) := by rw [show (1 : Int32) = nI 1 from rfl, nI_add]
    have bd : ∀ a : Nat, y / 2 ^ a < 2 ^ 31 := fun a => Nat.lt_of_le_of_lt (Nat.div_le_self _ _) hy
    have md : ∀ a b : Nat, a < 2 ^ 31 → 0 < b → b < 2 ^ 31 → nI a - nI a / nI b * nI b = nI (a % b) := fun a b h1 h2 h3 => pk_rem h1 h2 h3
    have f1 : (1 : Int32) + (nI y - nI y / 7 * 7) = nI (1 + y % 7) := by
      rw [show (7 : Int32) = nI 7 from rfl, md y 7 hy (by omega) (by omega), show (1 : Int32) = nI 1 from rfl, nI_add]
    have s3 : nI y >>> ((3 : Int32) &&& 31) = nI (y / 2 ^ 3) := pk_shrN hy _ 3 (by decide)
    have s6 : nI y >>> ((6 : Int32) &&& 31) = nI (y / 2 ^ 6) := pk_shrN hy _ 6 (by decide)
    have s10 : nI y >>> ((10 : Int32) &&& 31) = nI (y / 2 ^ 10) := pk_shrN hy _ 10 (by decide)
    have s12 : nI y >>> ((12 : Int32) &&& 31) = nI (y / 2 ^ 12) := pk_shrN hy _ 12 (by decide)
    have f2 : nI (y / 2 ^ 3) - nI (y / 2 ^ 3) / 6 * 6 = nI (y / 2 ^ 3 % 6) := md _ 6 (bd 3) (by omega) (by omega)
    have f3 : nI (y / 2 ^ 6) - nI (y / 2 ^ 6) / 9 * 9 = nI (y / 2 ^ 6 % 9) := md _ 9 (bd 6) (by omega) (by omega)
    have f4 : (1 : Int32) + (nI (y / 2 ^ 10) - nI (y / 2 ^ 10) / 4 * 4) = nI (1 + y / 2 ^ 10 % 4) := by
      rw [show (4 : Int32) = nI 4 from rfl, md _ 4 (bd 10) (by omega) (by omega), show (1 : Int32) = nI 1 from rfl, nI_add]
    have f5 : nI (y / 2 ^ 12) - nI (y / 2 ^ 12) / 9000 * 9000 = nI (y / 2 ^ 12 % 9000) := md _ 9000 (bd 12) (by omega) (by omega)
    have m1 := Nat.mod_lt y (show 0 < 7 by omega)
    have m2 := Nat.mod_lt (y / 2 ^ 3) (show 0 < 6 by omega)
    have m3 := Nat.mod_lt (y / 2 ^ 6) (show 0 < 9 by omega)
    have m4 := Nat.mod_lt (y / 2 ^ 10) (show 0 < 4 by omega)
    have m5 := Nat.mod_lt (y / 2 ^ 12) (show 0 < 9000 by omega)
    generalize y % 7 = u1 at f1 m1
    generalize y / 2 ^ 3 % 6 = u2 at f2 m2
    generalize y / 2 ^ 6 % 9 = u3 at f3 m3
    generalize y / 2 ^ 10 % 4 = u4 at f4 m4
    generalize y / 2 ^ 12 % 9000 = u5 at f5 m5
    obtain ⟨μ', p1, p2⟩ := g_addClient G (by omega) (x1 := nI (1 + u1)) (x2 := nI u2) (x3 := nI u3) (x4 := nI (1 + u4)) (x5 := nI u5) (by rw [nI_toInt (by omega)]; omega) (by rw [nI_toInt (by omega)]; omega) (by rw [nI_toInt (by omega)]; omega) (by rw [nI_toInt (by omega)]; omega) (by rw [nI_toInt (by omega)]; omega)
    rw [f_L_law_46, hN, if_neg (show ¬ nI N ≤ nI k by rw [pr_le (by omega) (by omega)]; omega), if_neg (by decide), e1, ey, pr_b, f1, s3, f2, s6, f3, s10, f4, s12, f5, p1, pr_b2, if_pos rfl, nI_1]
    exact ih (k + 1) n μ' (by omega) (by omega) p2
theorem l_46' {xs : Nat → Int32} {L N : Nat} {x : Int32} (h2 : 2 ≤ N ∧ N ≤ 4) (hN : (2 : Int32) + (x >>> ((3 : Int32) &&& 31) - x >>> ((3 : Int32) &&& 31) / 3 * 3) = nI N) (n : Nat) (hn : 4 < n) {μ : ed_CM} (G : j_G μ 0 0 0 0 0 0) : f_L_law_46 xs L n x 1 0 μ = some 1 :=
  l_46 h2 hN N 0 n μ (by omega) (by omega) G
theorem l_G0 : j_G ed_m1 0 0 0 0 0 0 := by
  have z : ∀ K i k, K ≠ 0 → ed_m1 0 K i k = 0 := fun K i k h => ed_m1_0 (by omega) (by omega)
  have g0 : j_s (j_g (ed_m1 0)) 10 = 0 := by
    rw [j_s_cg (f := fun _ => 0) 10 (fun k _ => by show (ed_m1 0 13 k 0).toInt = 0; rw [z 13 k 0 (by decide)]; rfl)]
    rfl
  refine ⟨⟨em_n0, el_R0⟩, ⟨rfl, rfl, rfl, rfl, by omega, by omega, by omega, by omega⟩, fun c h => absurd h (Nat.not_lt_zero _), fun q _ => ⟨?_, z 13 q 1 (by decide)⟩, fun c h => absurd h (Nat.not_lt_zero _), fun c h => absurd h (Nat.not_lt_zero _), ?_, ?_, Int.le_refl _⟩
  · rw [z 13 q 0 (by decide)]
    decide
  · rw [g0]
    rfl
  · rw [g0]
    exact Int.le_refl _
theorem p_law (xs : Nat → Int32) (L : Nat) : f_L_law_8 xs L ed_m1 = some 1 := by
  obtain ⟨y, hy, ey⟩ := l_cell xs L (k := 0) (by omega)
  have ey : f_L_cell xs L 0 = some (nI y) := ey
  obtain ⟨μ2, r1, r2, r3⟩ := g_readE l_G0 (ed_m1_0 (by omega) (by omega))
  have m4 := Nat.mod_lt y (show 0 < 4 by omega)
  have e4 : (1 : Int32) + (nI y - nI y / 4 * 4) = nI (1 + y % 4) := by
    rw [show (4 : Int32) = nI 4 from rfl, pk_rem hy (by omega) (by omega), show (1 : Int32) = nI 1 from rfl, nI_add]
  have u3 : ¬ μ2 0 0 0 1 = -2 := by
    rw [r3, show ed_m1 0 0 0 1 = 3 from rfl]
    decide
  obtain ⟨r50, μ50, t1, t2, t3⟩ := g_setUse r2 (x := nI (1 + y % 4)) (by rw [nI_toInt (by omega)]; omega) u3
  have s3 : nI y >>> ((3 : Int32) &&& 31) = nI (y / 2 ^ 3) := pk_shrN hy _ 3 (by decide)
  have b3 : y / 2 ^ 3 < 2 ^ 31 := Nat.lt_of_le_of_lt (Nat.div_le_self _ _) hy
  have m3 := Nat.mod_lt (y / 2 ^ 3) (show 0 < 3 by omega)
  have eN : (2 : Int32) + (nI y >>> ((3 : Int32) &&& 31) - nI y >>> ((3 : Int32) &&& 31) / 3 * 3) = nI (2 + y / 2 ^ 3 % 3) := by
    rw [s3, show (2 : Int32) = nI 2 from rfl]
    rw [show nI (y / 2 ^ 3) - nI (y / 2 ^ 3) / 3 * 3 = nI (y / 2 ^ 3 % 3) from pk_rem (d := 3) b3 (by omega) (by omega), nI_add]
  unfold f_L_law_8
  rw [ey, pr_b, r1, pr_b2, if_pos rfl, e4, t1, pr_b2, if_neg t2]
  exact l_46' (by omega) eN ed_N (by unfold ed_N; omega) t3
