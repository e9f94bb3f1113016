/-! The constructor of State, put together. -/
theorem ec_fin {D : va_G} {cy : Nat → ClassId} {B j : Nat} (hj : j < 7) {f G0 F1 F2 F3 F4 : Nat → va_E} {H : Heap} (hM : ec_P D B (ed_oS j + 255 + 1 * 10) F4 H) (h0 : ∀ x, x < ed_oS j → G0 x = f x) (hn : G0 (ed_oS j) = ec_sE B (ed_oS j)) (h1 : G0 (ed_oS j + 1) = .inr (3, [.ref (B + (ed_oS j + 1 + 1)), .int 0, .int 0])) (h2 : G0 (ed_oS j + 1 + 1) = .inl (cy 0, 48, .inl (fun _ => 0))) (i0 : ec_I0 cy B (ed_oS j) G0 F1 20) (i1 : ec_I1 cy B (ed_oS j) F1 F2 8) (i2 : ec_I2 cy B (ed_oS j) F2 F3 160) (i3 : ec_I3 cy B (ed_oS j) F3 F4 10) : ec_P D B (ed_oS j + 265) (fun x => if x < ed_oS j then f x else ec_st cy B x) H := by
  have v : ∀ K i, ed_vd j K i = true → ec_st cy B (ed_oF j K i) = ed_ent cy B j K i (ed_m1 j K i) := fun K i h => ec_st_at cy B h
  have z0 : ed_m1 j 0 0 = fun k => if k = 1 then 3 else 0 := by
    funext k
    unfold ed_m1
    by_cases hk : k = 1
    · rw [if_pos ⟨hj, rfl, hk⟩, if_pos hk]
    · rw [if_neg (fun g => hk g.2.2), if_neg (fun g => by omega), if_neg hk]
  have zK : ∀ K i, K ≠ 0 → ed_m1 j K i = fun _ => 0 := fun K i hK => by
    funext k
    unfold ed_m1
    rw [if_neg (fun g => hK g.2.1), if_neg (fun g => by omega)]
  generalize hn0 : ed_oS j = n at *
  have hM : ec_P D B (n + 265) F4 H := hM
  have r3 : F4 (n + 3) = ec_Q (cy 1) 20 (fun k => if k < 20 then some (B + (n + 7 + 4 * k)) else none) := by rw [i3.1 _ (by omega) (by omega), i2.1 _ (by omega) (by omega), i1.1 _ (by omega) (by omega)]; exact i0.2.1
  have r4 : F4 (n + 4) = ec_Q (cy 2) 8 (fun k => if k < 8 then some (B + (n + 87 + 1 * k)) else none) := by rw [i3.1 _ (by omega) (by omega), i2.1 _ (by omega) (by omega)]; exact i1.2.1
  have r5 : F4 (n + 5) = ec_Q (cy 3) 160 (fun k => if k < 160 then some (B + (n + 95 + 1 * k)) else none) := by rw [i3.1 _ (by omega) (by omega)]; exact i2.2.1
  have r6 : F4 (n + 6) = ec_Q (cy 4) 10 (fun k => if k < 10 then some (B + (n + 255 + 1 * k)) else none) := i3.2.1
  have hM1 := ec_q hM (by omega) r3 (g' := fun k => some (B + ed_oF j 7 k)) (fun k hk => by rw [if_pos hk, ← hn0]; rfl)
  have hM2 := ec_q hM1 (by omega) ((ec_ne _ _ (by omega)).trans r4) (g' := fun k => some (B + ed_oF j 11 k)) (fun k hk => by rw [if_pos hk, ← hn0, Nat.one_mul]; rfl)
  have hM3 := ec_q hM2 (by omega) ((ec_ne _ _ (by omega)).trans ((ec_ne _ _ (by omega)).trans r5)) (g' := fun k => some (B + ed_oF j 12 k)) (fun k hk => by rw [if_pos hk, ← hn0, Nat.one_mul]; rfl)
  have hM4 := ec_q hM3 (by omega) ((ec_ne _ _ (by omega)).trans ((ec_ne _ _ (by omega)).trans ((ec_ne _ _ (by omega)).trans r6))) (g' := fun k => some (B + ed_oF j 13 k)) (fun k hk => by rw [if_pos hk, ← hn0, Nat.one_mul]; rfl)
  refine ec_cg hM4 (fun x hx => ?_)
  by_cases hxn : x < n
  · rw [if_pos hxn, ec_ne _ _ (by omega), ec_ne _ _ (by omega), ec_ne _ _ (by omega), ec_ne _ _ (by omega), i3.1 _ (by omega) (by omega), i2.1 _ (by omega) (by omega), i1.1 _ (by omega) (by omega), i0.1 _ (by omega) (by omega), h0 x hxn]
  rw [if_neg hxn]
  have e0 : ec_st cy B n = ed_ent cy B j 0 0 (ed_m1 j 0 0) := by rw [← hn0]; exact v 0 0 (ed_v0 hj 0)
  have e1 : ec_st cy B (n + 1) = ed_ent cy B j 1 0 (ed_m1 j 1 0) := by rw [← hn0]; exact v 1 0 (ed_v0 hj 1)
  have e2 : ec_st cy B (n + 2) = ed_ent cy B j 2 0 (ed_m1 j 2 0) := by rw [← hn0]; exact v 2 0 (ed_v0 hj 2)
  have e3 : ec_st cy B (n + 3) = ed_ent cy B j 3 0 (ed_m1 j 3 0) := by rw [← hn0]; exact v 3 0 (ed_v0 hj 3)
  have e4 : ec_st cy B (n + 4) = ed_ent cy B j 4 0 (ed_m1 j 4 0) := by rw [← hn0]; exact v 4 0 (ed_v0 hj 4)
  have e5 : ec_st cy B (n + 5) = ed_ent cy B j 5 0 (ed_m1 j 5 0) := by rw [← hn0]; exact v 5 0 (ed_v0 hj 5)
  have e6 : ec_st cy B (n + 6) = ed_ent cy B j 6 0 (ed_m1 j 6 0) := by rw [← hn0]; exact v 6 0 (ed_v0 hj 6)
  have f7 : ∀ k, k < 20 → ec_st cy B (n + 7 + 4 * k) = ed_ent cy B j 7 k (ed_m1 j 7 k) := fun k hk => by rw [← hn0]; exact v 7 k (ed_v7 hj hk 7)
  have f8 : ∀ k, k < 20 → ec_st cy B (n + 8 + 4 * k) = ed_ent cy B j 8 k (ed_m1 j 8 k) := fun k hk => by rw [← hn0]; exact v 8 k (ed_v7 hj hk 8)
  have f9 : ∀ k, k < 20 → ec_st cy B (n + 9 + 4 * k) = ed_ent cy B j 9 k (ed_m1 j 9 k) := fun k hk => by rw [← hn0]; exact v 9 k (ed_v7 hj hk 9)
  have f10 : ∀ k, k < 20 → ec_st cy B (n + 10 + 4 * k) = ed_ent cy B j 10 k (ed_m1 j 10 k) := fun k hk => by rw [← hn0]; exact v 10 k (ed_v7 hj hk 10)
  have f11 : ∀ k, k < 8 → ec_st cy B (n + 87 + k) = ed_ent cy B j 11 k (ed_m1 j 11 k) := fun k hk => by rw [← hn0]; exact v 11 k (ed_v11 hj hk)
  have f12 : ∀ k, k < 160 → ec_st cy B (n + 95 + k) = ed_ent cy B j 12 k (ed_m1 j 12 k) := fun k hk => by rw [← hn0]; exact v 12 k (ed_v12 hj hk)
  have f13 : ∀ k, k < 10 → ec_st cy B (n + 255 + k) = ed_ent cy B j 13 k (ed_m1 j 13 k) := fun k hk => by rw [← hn0]; exact v 13 k (ed_v13 hj hk)
  by_cases y0 : x = n
  · subst y0
    rw [e0, ec_ne _ _ (by omega), ec_ne _ _ (by omega), ec_ne _ _ (by omega), ec_ne _ _ (by omega), i3.1 _ (by omega) (by omega), i2.1 _ (by omega) (by omega), i1.1 _ (by omega) (by omega), i0.1 _ (by omega) (by omega), hn, z0, ← hn0]
    rfl
  by_cases y1 : x = n + 1
  · subst y1
    rw [e1, ec_ne _ _ (by omega), ec_ne _ _ (by omega), ec_ne _ _ (by omega), ec_ne _ _ (by omega), i3.1 _ (by omega) (by omega), i2.1 _ (by omega) (by omega), i1.1 _ (by omega) (by omega), i0.1 _ (by omega) (by omega), h1, zK 1 0 (by decide), ← hn0]
    rfl
  by_cases y2 : x = n + 2
  · subst y2
    rw [e2, ec_ne _ _ (by omega), ec_ne _ _ (by omega), ec_ne _ _ (by omega), ec_ne _ _ (by omega), i3.1 _ (by omega) (by omega), i2.1 _ (by omega) (by omega), i1.1 _ (by omega) (by omega), i0.1 _ (by omega) (by omega), zK 2 0 (by decide)]
    exact h2.symm
  by_cases y3 : x = n + 3
  · subst y3
    rw [e3, ec_ne _ _ (by omega), ec_ne _ _ (by omega), ec_ne _ _ (by omega), ec_eq]
    rfl
  by_cases y4 : x = n + 4
  · subst y4
    rw [e4, ec_ne _ _ (by omega), ec_ne _ _ (by omega), ec_eq]
    rfl
  by_cases y5 : x = n + 5
  · subst y5
    rw [e5, ec_ne _ _ (by omega), ec_eq]
    rfl
  by_cases y6 : x = n + 6
  · subst y6
    rw [e6, ec_eq]
    rfl
  rw [ec_ne _ _ (by omega), ec_ne _ _ (by omega), ec_ne _ _ (by omega), ec_ne _ _ (by omega)]
  by_cases y7 : x < n + 87
  · obtain ⟨k, r, hk, hr, rfl⟩ : ∃ k r, k < 20 ∧ r < 4 ∧ x = n + 7 + 4 * k + r := ⟨(x - n - 7) / 4, (x - n - 7) % 4, by omega, by omega, by omega⟩
    obtain ⟨s0, s1, s2, s3⟩ := i0.2.2 k hk
    rw [i3.1 _ (by omega) (by omega), i2.1 _ (by omega) (by omega), i1.1 _ (by omega) (by omega)]
    rcases (show r = 0 ∨ r = 1 ∨ r = 2 ∨ r = 3 by omega) with rfl | rfl | rfl | rfl
    · rw [Nat.add_zero, f7 k hk, s0, zK 7 k (by decide)]
      have t8 : ed_oF j 8 k = n + 7 + 4 * k + 1 := by
        show ed_oS j + 8 + 4 * k = _
        omega
      have t9 : ed_oF j 9 k = n + 7 + 4 * k + 1 + 1 := by
        show ed_oS j + 9 + 4 * k = _
        omega
      have t10 : ed_oF j 10 k = n + 7 + 4 * k + 1 + 1 + 1 := by
        show ed_oS j + 10 + 4 * k = _
        omega
      rw [ed_e7, t8, t9, t10]
    · rw [show n + 7 + 4 * k + 1 = n + 8 + 4 * k by omega, f8 k hk, ← show n + 7 + 4 * k + 1 = n + 8 + 4 * k by omega, s1, zK 8 k (by decide)]
      rfl
    · rw [show n + 7 + 4 * k + 2 = n + 9 + 4 * k by omega, f9 k hk, ← show n + 7 + 4 * k + 1 + 1 = n + 9 + 4 * k by omega, s2, zK 9 k (by decide)]
      rfl
    · rw [show n + 7 + 4 * k + 3 = n + 10 + 4 * k by omega, f10 k hk, ← show n + 7 + 4 * k + 1 + 1 + 1 = n + 10 + 4 * k by omega, s3, zK 10 k (by decide)]
      rfl
  by_cases y8 : x < n + 95
  · obtain ⟨k, hk, rfl⟩ : ∃ k, k < 8 ∧ x = n + 87 + 1 * k := ⟨x - n - 87, by omega, by omega⟩
    rw [i3.1 _ (by omega) (by omega), i2.1 _ (by omega) (by omega), i1.2.2 k hk, Nat.one_mul, f11 k hk, zK 11 k (by decide)]
    rfl
  by_cases y9 : x < n + 255
  · obtain ⟨k, hk, rfl⟩ : ∃ k, k < 160 ∧ x = n + 95 + 1 * k := ⟨x - n - 95, by omega, by omega⟩
    rw [i3.1 _ (by omega) (by omega), i2.2.2 k hk, Nat.one_mul, f12 k hk, zK 12 k (by decide)]
    rfl
  · obtain ⟨k, hk, rfl⟩ : ∃ k, k < 10 ∧ x = n + 255 + 1 * k := ⟨x - n - 255, by omega, by omega⟩
    rw [i3.2.2 k hk, Nat.one_mul, f13 k hk, zK 13 k (by decide)]
    rfl
