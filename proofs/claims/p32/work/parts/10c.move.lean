/-! a copy in an hour -/
def j_Kx (σ : ed_SM) (p s c : Nat) : Prop := ¬ σ 7 s 9 = -5 ∧ σ 12 p 3 = σ 7 s 9 + σ 11 c 1 ∧
  (((σ 12 p 2 = 0 ∨ σ 12 p 2 = 4) ∧ σ 12 p 4 = -5 ∧ σ 12 p 5 = -5) ∨ ((σ 12 p 2 = 1 ∨ σ 12 p 2 = 2 ∨ σ 12 p 2 = 3) ∧ (σ 12 p 3).toInt ≤ (σ 12 p 4).toInt ∧ 0 ≤ (σ 12 p 5).toInt ∧ (σ 12 p 5).toInt ≤ (σ 7 s 7).toInt))
theorem j_J.at {σ : ed_SM} {M pd : Int} {h nC nS nK p s c : Nat} (H : j_J σ M pd h nC nS nK) (hp : p < nK) (hs : s < nS) (hc : c < nC) (k0 : σ 12 p 0 = nI s) (k1 : σ 12 p 1 = nI c) : j_Kx σ p s c := by
  obtain ⟨⟨a0, a3, a4, a5, a6, a7, a8, a9⟩, C, P, S, K, m1, m2, m3⟩ := H
  obtain ⟨s', c', b1, b2, b3, b4, b5⟩ := K p hp
  have es : s' = s := (nI_eq (by omega) (by omega)).mp (b3.symm.trans k0)
  have ec : c' = c := (nI_eq (by omega) (by omega)).mp (b4.symm.trans k1)
  subst es
  subst ec
  exact b5
theorem j_J.upK {σ : ed_SM} {M pd : Int} {h nC nS nK p s c : Nat} (H : j_J σ M pd h nC nS nK) (hs : s < nS) (hc : c < nC) (k0 : σ 12 p 0 = nI s) (k1 : σ 12 p 1 = nI c) {k : Nat} (hk : 2 ≤ k) (x : Int32) (hx : j_Kx (ed_up σ 12 p k x) p s c) : j_J (ed_up σ 12 p k x) M pd h nC nS nK :=
  H.K (p := p) (fun K hK => by funext i; rw [pr_up_K _ _ hK]) (fun i hi => pr_up_i _ _ hi) (fun _ => ⟨s, c, hs, hc, by rw [pr_up_k _ _ (by omega)]; exact k0, by rw [pr_up_k _ _ (by omega)]; exact k1, hx⟩)
/-- in use, then withdrawn or ended -/
theorem j_over {σ : ed_SM} {M pd : Int} {h nC nS nK p s c : Nat} (H : j_J σ M pd h nC nS nK) (hp : p < nK) (hs : s < nS) (hc : c < nC) (k0 : σ 12 p 0 = nI s) (k1 : σ 12 p 1 = nI c) (k2 : σ 12 p 2 = 1) {x : Int32} (hx : x = 2 ∨ x = 3) : j_J (ed_up σ 12 p 2 x) M pd h nC nS nK := by
  obtain ⟨b1, b2, b3⟩ := H.at hp hs hc k0 k1
  refine H.upK hs hc k0 k1 (by omega) x ⟨?_, ?_, Or.inr ?_⟩
  · simpa [pr_up] using b1
  · simpa [pr_up] using b2
  · rcases b3 with ⟨z, -⟩ | ⟨-, z⟩
    · rw [k2] at z
      exact absurd z (by decide)
    · have z2 : (x = 1 ∨ x = 2 ∨ x = 3) ∧ (σ 12 p 3).toInt ≤ (σ 12 p 4).toInt ∧ 0 ≤ (σ 12 p 5).toInt ∧ (σ 12 p 5).toInt ≤ (σ 7 s 7).toInt := ⟨Or.inr hx, z⟩
      simpa [pr_up] using z2
theorem j_due45 {σ : ed_SM} {p s c w : Nat} (h7 : σ 7 s 7 = nI w) (hw : w ≤ 6) : ∀ (d u n x : Nat) (r : Int32), u + d = w → f_X5_correctionsDue_45 p σ n s c (nI x) (nI u) = some r → ∃ y, r = nI y ∧ x ≤ y ∧ y ≤ x + d := by
  intro d
  induction d with
  | zero =>
    intro u n x r hu hf
    cases n with
    | zero => cases hf
    | succ n =>
    rw [f_X5_correctionsDue_45, h7] at hf
    replace hf := ed_ip (show nI w ≤ nI u by rw [pr_le (by omega) (by omega)]; omega) hf
    exact ⟨x, (Option.some.inj hf).symm, by omega, by omega⟩
  | succ d ih =>
    intro u n x r hu hf
    cases n with
    | zero => cases hf
    | succ n =>
    rw [f_X5_correctionsDue_45, h7] at hf
    replace hf := ed_in_ (show ¬ nI w ≤ nI u by rw [pr_le (by omega) (by omega)]; omega) hf
    rw [pr_correctedAt h7 hw (by omega), pr_b, nI_1, nI_1] at hf
    split at hf
    · obtain ⟨y, y1, y2, y3⟩ := ih (u + 1) n x r (by omega) hf
      exact ⟨y, y1, by omega, by omega⟩
    · obtain ⟨y, y1, y2, y3⟩ := ih (u + 1) n (x + 1) r (by omega) hf
      exact ⟨y, y1, by omega, by omega⟩
theorem j_due {σ : ed_SM} {M pd : Int} {h nC nS nK p s c : Nat} (H : j_J σ M pd h nC nS nK) (hp : p < nK) (hs : s < nS) (hc : c < nC) (k0 : σ 12 p 0 = nI s) (k1 : σ 12 p 1 = nI c) (k2 : σ 12 p 2 = 1) {r : Int32} (hf : f_X5_correctionsDue p σ = some r) : ∃ y u w, r = nI y ∧ σ 12 p 5 = nI u ∧ σ 7 s 7 = nI w ∧ w ≤ 6 ∧ u + y ≤ w := by
  obtain ⟨b1, b2, b3⟩ := H.at hp hs hc k0 k1
  obtain ⟨⟨a0, a3, a4, a5, a6, a7, a8, a9⟩, C, P, S, K, m1, m2, m3⟩ := id H
  obtain ⟨-, s1, s2, -⟩ := S s hs
  rcases b3 with ⟨z, -⟩ | ⟨-, -, z1, z2⟩
  · rw [k2] at z
    exact absurd z (by decide)
  obtain ⟨w, hw, ew⟩ := pr_nn s1
  obtain ⟨u, hu, eu⟩ := pr_nn z1
  rw [ew, nI_toInt hw] at s2
  rw [eu, nI_toInt hu, ew, nI_toInt hw] at z2
  unfold f_X5_correctionsDue at hf
  rw [k0, pr_storyAt a3 a7 hs, pr_b] at hf
  replace hf : ed_g (s < 20) _ = some r := hf
  obtain ⟨-, hf⟩ := ed_g_e hf
  rw [k1, pr_clientAt a4 a6 hc, pr_b] at hf
  replace hf : ed_g (c < 8) _ = some r := hf
  obtain ⟨-, hf⟩ := ed_g_e hf
  replace hf := ed_ip k2 hf
  rw [eu] at hf
  obtain ⟨y, y1, y2, y3⟩ := j_due45 ew (by omega) (w - u) u ed_N 0 r (by omega) hf
  exact ⟨y, u, w, y1, eu, ew, by omega, by omega⟩
theorem j_reach55 {M pd : Int} {h nC nS nK p s c w y : Nat} (hp : p < nK) (hs : s < nS) (hc : c < nC) (hw : w ≤ 6) (hy : y ≤ 6) : ∀ (d i n u : Nat) (σ σ' : ed_SM), i + d = y → u + d ≤ w → j_J σ M pd h nC nS nK → σ 12 p 0 = nI s → σ 12 p 1 = nI c → σ 12 p 2 = 1 → σ 12 p 5 = nI u → σ 7 s 7 = nI w → f_X5_reach_55 p s n (nI y) (nI i) σ = some σ' → j_J σ' M pd h nC nS nK := by
  intro d
  induction d with
  | zero =>
    intro i n u σ σ' hi hu H k0 k1 k2 k5 k7 hf
    cases n with
    | zero => cases hf
    | succ n =>
    rw [f_X5_reach_55] at hf
    replace hf := ed_ip (show nI y ≤ nI i by rw [pr_le (by omega) (by omega)]; omega) hf
    obtain rfl := Option.some.inj hf
    exact H
  | succ d ih =>
    intro i n u σ σ' hi hu H k0 k1 k2 k5 k7 hf
    cases n with
    | zero => cases hf
    | succ n =>
    obtain ⟨b1, b2, b3⟩ := H.at hp hs hc k0 k1
    rw [f_X5_reach_55] at hf
    replace hf := ed_in_ (show ¬ nI y ≤ nI i by rw [pr_le (by omega) (by omega)]; omega) hf
    obtain ⟨σ4, e4, hf⟩ := ed_t_e hf
    obtain ⟨σ5, e5, hf⟩ := ed_t_e hf
    obtain ⟨σ6, e6, hf⟩ := ed_b_e hf
    rw [k5, nI_1] at e4
    have H4 : j_J σ4 M pd h nC nS nK := by
      rw [e4]
      refine H.upK hs hc k0 k1 (by omega) _ ⟨?_, ?_, Or.inr ?_⟩
      · simpa [pr_up] using b1
      · simpa [pr_up] using b2
      · rcases b3 with ⟨z, -⟩ | ⟨z, z1, z2, z3⟩
        · rw [k2] at z
          exact absurd z (by decide)
        · have z4 : (σ 12 p 2 = 1 ∨ σ 12 p 2 = 2 ∨ σ 12 p 2 = 3) ∧ (σ 12 p 3).toInt ≤ (σ 12 p 4).toInt ∧ 0 ≤ (nI (u + 1)).toInt ∧ (nI (u + 1)).toInt ≤ (σ 7 s 7).toInt := ⟨z, z1, by rw [nI_toInt (by omega)]; omega, by rw [k7, nI_toInt (by omega), nI_toInt (by omega)]; omega⟩
          simpa [pr_up] using z4
    have H5 : j_J σ5 M pd h nC nS nK := by
      have hK : ∀ K, K ≠ 0 → σ5 K = σ4 K := fun K hK => by rw [e5]; funext q; rw [pr_up_K _ _ hK]
      exact H4.cg (fun k hk => by rw [e5, pr_up_k _ _ (by omega)]) (hK 7 (by decide)) (hK 8 (by decide)) (hK 11 (by decide)) (hK 12 (by decide)) (hK 13 (by decide))
    have k6 := j_add e6
    have e12 : ∀ k, k ≠ 5 → σ6 12 p k = σ 12 p k := fun k hk => by rw [k6 12 (by decide) (by decide), e5, pr_up_K _ _ (by decide), e4, pr_up_k _ _ hk]
    rw [nI_1] at hf
    refine ih (i + 1) n (u + 1) σ6 σ' (by omega) (by omega) (H5.lg k6) (by rw [e12 0 (by decide)]; exact k0) (by rw [e12 1 (by decide)]; exact k1) (by rw [e12 2 (by decide)]; exact k2) ?_ ?_ hf
    · rw [k6 12 (by decide) (by decide), e5, pr_up_K _ _ (by decide), e4, pr_up_same]
    · rw [k6 7 (by decide) (by decide), e5, pr_up_K _ _ (by decide), e4, pr_up_K _ _ (by decide)]; exact k7
theorem j_reach {σ σ' : ed_SM} {M pd : Int} {h nC nS nK p s c : Nat} (H : j_J σ M pd h nC nS nK) (hp : p < nK) (hs : s < nS) (hc : c < nC) (k0 : σ 12 p 0 = nI s) (k1 : σ 12 p 1 = nI c) (k2 : σ 12 p 2 = 1) (hf : f_X5_reach p s σ = some σ') : j_J σ' M pd h nC nS nK := by
  have loop : ∀ r, f_X5_correctionsDue p σ = some r → f_X5_reach_55 p s ed_N r 0 σ = some σ' → j_J σ' M pd h nC nS nK := by
    intro r h1 h2
    obtain ⟨y, u, w, y1, y2, y3, y4, y5⟩ := j_due H hp hs hc k0 k1 k2 h1
    subst y1
    exact j_reach55 hp hs hc y4 (by omega) y 0 ed_N u σ σ' (by omega) (by omega) H k0 k1 k2 y2 y3 h2
  unfold f_X5_reach at hf
  split at hf
  · obtain ⟨r7, h7, hf⟩ := ed_b_e hf
    split at hf
    · obtain ⟨r9, h9, hf⟩ := ed_b_e hf
      exact loop r9 h9 hf
    · obtain ⟨σ10, e10, hf⟩ := ed_t_e hf
      obtain ⟨σ11, e11, hf⟩ := ed_b_e hf
      obtain rfl := Option.some.inj hf
      exact (e10 ▸ j_over H hp hs hc k0 k1 k2 (Or.inl rfl)).lg (j_add e11)
  · obtain ⟨r2, h2, hf⟩ := ed_b_e hf
    exact loop r2 h2 hf
theorem j_120 {σ σ' : ed_SM} {M pd : Int} {h nC nS nK p s c : Nat} (H : j_J σ M pd h nC nS nK) (hp : p < nK) (hs : s < nS) (hc : c < nC) (k0 : σ 12 p 0 = nI s) (k1 : σ 12 p 1 = nI c) (hf : f_X5_moveOn_120 p s c σ = some σ') : j_J σ' M pd h nC nS nK := by
  unfold f_X5_moveOn_120 at hf
  split at hf
  · rename_i k2
    split at hf
    · obtain rfl := Option.some.inj hf
      exact H
    · obtain ⟨σ8, e8, hf⟩ := ed_b_e hf
      obtain rfl := Option.some.inj hf
      exact j_reach H hp hs hc k0 k1 k2 e8
  · obtain rfl := Option.some.inj hf
    exact H
theorem j_75 {σ σ' : ed_SM} {M pd : Int} {h nC nS nK p s c : Nat} (H : j_J σ M pd h nC nS nK) (hp : p < nK) (hs : s < nS) (hc : c < nC) (k0 : σ 12 p 0 = nI s) (k1 : σ 12 p 1 = nI c) (hf : f_X5_moveOn_75 p s c σ = some σ') : j_J σ' M pd h nC nS nK := by
  unfold f_X5_moveOn_75 at hf
  split at hf
  · rename_i k2
    split at hf
    · exact j_120 H hp hs hc k0 k1 hf
    · obtain ⟨σ11, e11, hf⟩ := ed_t_e hf
      obtain ⟨σ12, e12, hf⟩ := ed_b_e hf
      have k := j_add e12
      have f12 : ∀ k, k ≠ 2 → σ12 12 p k = σ 12 p k := fun q hq => by rw [k 12 (by decide) (by decide), e11, pr_up_k _ _ hq]
      exact j_120 ((e11 ▸ j_over H hp hs hc k0 k1 k2 (Or.inr rfl)).lg k) hp hs hc (by rw [f12 0 (by decide)]; exact k0) (by rw [f12 1 (by decide)]; exact k1) hf
  · exact j_120 H hp hs hc k0 k1 hf
theorem j_start {σ σ' : ed_SM} {M pd : Int} {h nC nS nK p s c : Nat} (H : j_J σ M pd h nC nS nK) (hp : p < nK) (hs : s < nS) (hc : c < nC) (k0 : σ 12 p 0 = nI s) (k1 : σ 12 p 1 = nI c) (hd : (σ 12 p 3).toInt ≤ h) (ht : (σ 11 c 7).toInt < (σ 11 c 3).toInt) (hM : M + 10001 ≤ 2000000000) (hf : f_X5_startUse p s c σ = some σ') : j_J σ' (M + 10000) pd h nC nS nK ∧ σ' 12 p 0 = nI s ∧ σ' 12 p 1 = nI c := by
  obtain ⟨b1, b2, b3⟩ := H.at hp hs hc k0 k1
  obtain ⟨⟨a0, a3, a4, a5, a6, a7, a8, a9⟩, C, P, S, K, m1, m2, m3⟩ := id H
  obtain ⟨-, s1, s2, -⟩ := S s hs
  unfold f_X5_startUse at hf
  obtain ⟨σ1, e1, hf⟩ := ed_t_e hf
  obtain ⟨σ2, e2, hf⟩ := ed_t_e hf
  obtain ⟨σ3, e3, hf⟩ := ed_t_e hf
  have r3 : ∀ k, σ3 12 p k = if k = 5 then σ 7 s 7 else if k = 4 then σ 0 0 0 else if k = 2 then 1 else σ 12 p k := fun k => by
    rw [e3, e2, e1]
    simp [pr_up]
  have K3 : ∀ K, K ≠ 12 → σ3 K = σ K := fun K hK => by
    rw [e3, e2, e1]
    funext i
    rw [pr_up_K _ _ hK, pr_up_K _ _ hK, pr_up_K _ _ hK]
  have i3 : ∀ i, i ≠ p → σ3 12 i = σ 12 i := fun i hi => by rw [e3, e2, e1, pr_up_i _ _ hi, pr_up_i _ _ hi, pr_up_i _ _ hi]
  have q0 : σ3 12 p 0 = nI s := by rw [r3]; exact k0
  have q1 : σ3 12 p 1 = nI c := by rw [r3]; exact k1
  have H3 : j_J σ3 M pd h nC nS nK := by
    refine H.K (p := p) K3 i3 (fun _ => ⟨s, c, hs, hc, q0, q1, ?_, ?_, Or.inr ⟨Or.inl (by rw [r3]; rfl), ?_, ?_, ?_⟩⟩)
    · rw [K3 7 (by decide)]; exact b1
    · rw [K3 7 (by decide), K3 11 (by decide), r3]; exact b2
    · rw [r3 3, r3 4, if_neg (by decide), if_neg (by decide), if_neg (by decide), if_neg (by decide), if_pos rfl, a0, nI_toInt (by omega)]
      exact hd
    · rw [r3 5, if_pos rfl]; exact s1
    · rw [r3 5, if_pos rfl, K3 7 (by decide)]; exact Int.le_refl _
  obtain ⟨σ4, e4, hf⟩ := ed_t_e hf
  obtain ⟨σ5, e5, hf⟩ := ed_t_e hf
  have r5 : ∀ k, σ5 11 c k = if k = 8 then σ 11 c 8 + 1 else if k = 7 then σ 11 c 7 + 1 else σ 11 c k := fun k => by
    rw [e5, e4]
    simp [pr_up, K3 11 (by decide)]
  have K5 : ∀ K, K ≠ 11 → σ5 K = σ3 K := fun K hK => by
    rw [e5, e4]
    funext i
    rw [pr_up_K _ _ hK, pr_up_K _ _ hK]
  have i5 : ∀ i, i ≠ c → σ5 11 i = σ3 11 i := fun i hi => by rw [e5, e4, pr_up_i _ _ hi, pr_up_i _ _ hi]
  obtain ⟨c1, c2, c3, c4, c5, c6, c7, c8, c9, c10, c11, c12, c13, c14⟩ := C c hc
  have one : (1 : Int32).toInt = 1 := by decide
  have t7 : (σ 11 c 7 + 1).toInt = (σ 11 c 7).toInt + 1 := by rw [pr_add (by rw [one]; omega) (by rw [one]; omega), one]
  have t8 : (σ 11 c 8 + 1).toInt = (σ 11 c 8).toInt + 1 := by rw [pr_add (by rw [one]; omega) (by rw [one]; omega), one]
  have H5 : j_J σ5 (M + 1) pd h nC nS nK := by
    refine H3.C (c := c) K5 i5 (by rw [r5, K3 11 (by decide)]; rfl) (fun _ => ?_) (by omega) ?_ m3
    · have z : ∀ k, k ≠ 7 → k ≠ 8 → σ5 11 c k = σ 11 c k := fun k h1 h2 => by rw [r5, if_neg h2, if_neg h1]
      unfold j_C1
      rw [z 5 (by decide) (by decide), z 1 (by decide) (by decide), z 2 (by decide) (by decide), z 3 (by decide) (by decide), z 4 (by decide) (by decide), z 6 (by decide) (by decide), z 9 (by decide) (by decide), r5 7, r5 8, if_neg (by decide), if_pos rfl, if_pos rfl, t7, t8]
      exact ⟨c1, c2, c3, c4, c5, c6, c7, c8, c9, by omega, by omega, by omega, by omega, c14⟩
    · have eo : j_o σ5 = j_o σ3 := by
        funext i
        unfold j_o
        by_cases hi : i = c
        · subst hi
          rw [r5, K3 11 (by decide)]
          rfl
        · rw [i5 i hi]
      rw [eo]
      exact H3.2.2.2.2.2.1
  obtain ⟨σ6, e6, hf⟩ := ed_b_e hf
  obtain ⟨σ7, e7, hf⟩ := ed_b_e hf
  obtain rfl := Option.some.inj hf
  have k6 := j_add e6
  obtain ⟨H7, k7⟩ := j_bill (H5.lg k6) hs hc (by omega) e7
  have f12 : ∀ k, σ7 12 p k = σ3 12 p k := fun k => by rw [k7 12 (by decide) (by decide), k6 12 (by decide) (by decide), K5 12 (by decide)]
  exact ⟨H7.mono (by omega), by rw [f12]; exact q0, by rw [f12]; exact q1⟩
theorem j_moveOn {σ σ' : ed_SM} {M pd : Int} {h nC nS nK p : Nat} (H : j_J σ M pd h nC nS nK) (hp : p < nK) (hM : M + 10001 ≤ 2000000000) (hf : f_X5_moveOn p σ = some σ') : j_J σ' (M + 10000) pd h nC nS nK := by
  obtain ⟨⟨a0, a3, a4, a5, a6, a7, a8, a9⟩, C, P, S, K, m1, m2, m3⟩ := id H
  obtain ⟨s, c, hs, hc, k0, k1, b1, b2, b3⟩ := K p hp
  unfold f_X5_moveOn at hf
  rw [k0, pr_storyAt a3 a7 hs, pr_b] at hf
  replace hf : ed_g (s < 20) _ = some σ' := hf
  obtain ⟨-, hf⟩ := ed_g_e hf
  rw [k1, pr_clientAt a4 a6 hc, pr_b] at hf
  replace hf : ed_g (c < 8) _ = some σ' := hf
  obtain ⟨-, hf⟩ := ed_g_e hf
  split at hf
  · rename_i k2
    split at hf
    · obtain ⟨σ18, e18, hf⟩ := ed_t_e hf
      have H1 : j_J σ18 M pd h nC nS nK := by
        rw [e18]
        refine H.upK hs hc k0 k1 (by omega) _ ⟨?_, ?_, Or.inl ?_⟩
        · simpa [pr_up] using b1
        · simpa [pr_up] using b2
        · rw [pr_up_same, pr_up_k _ _ (show 4 ≠ 2 by decide), pr_up_k _ _ (show 5 ≠ 2 by decide)]
          rcases b3 with ⟨-, z⟩ | ⟨z, -⟩
          · exact ⟨Or.inr rfl, z⟩
          · rw [k2] at z
            exact absurd z (by decide)
      exact (j_75 H1 hp hs hc (by rw [e18, pr_up_k _ _ (by decide)]; exact k0) (by rw [e18, pr_up_k _ _ (by decide)]; exact k1) hf).mono (by omega)
    · split at hf
      · exact (j_75 H hp hs hc k0 k1 hf).mono (by omega)
      · rename_i hd
        split at hf
        · exact (j_75 H hp hs hc k0 k1 hf).mono (by omega)
        · rename_i hg
          obtain ⟨σ17, e17, hf⟩ := ed_b_e hf
          have ht : (σ 11 c 7).toInt < (σ 11 c 3).toInt := by
            unfold f_X0_canGetCopy at hg
            split at hg
            · exact absurd rfl hg
            · split at hg
              · exact absurd rfl hg
              · rename_i z
                rw [pr_iLe] at z
                omega
          have hd : (σ 12 p 3).toInt ≤ h := by
            rw [pr_iLt, a0, nI_toInt (by omega)] at hd
            omega
          obtain ⟨H1, f0, f1⟩ := j_start H hp hs hc k0 k1 hd ht hM e17
          exact j_75 H1 hp hs hc f0 f1 hf
  · exact (j_75 H hp hs hc k0 k1 hf).mono (by omega)
