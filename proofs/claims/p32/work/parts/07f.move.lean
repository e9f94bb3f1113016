/-! an hour: a copy -/
theorem r_H.cg {σ σ' : ed_SM} {v v' : Nat → Int32} {h nC nS nK : Nat} (hH : r_H σ v h nC nS nK) (h1 : ∀ k, k < 6 → σ' 0 0 k = σ 0 0 k) (h2 : ∀ a, a < 6 → v' a = v a) : r_H σ' v' h nC nS nK := by
  unfold r_H at hH ⊢
  rw [h1 0 (by omega), h1 1 (by omega), h1 2 (by omega), h1 3 (by omega), h1 4 (by omega), h1 5 (by omega), h2 0 (by omega), h2 1 (by omega), h2 2 (by omega), h2 3 (by omega), h2 4 (by omega), h2 5 (by omega)]
  exact hH
/-- a field of a copy, from 2 on, on both sides -/
theorem r_R.upK {σ : ed_SM} {v : Nat → Int32} {h nC nS nK e p : Nat} (hR : r_R σ v h nC nS nK e) (hp : p < nK) {k : Nat} (hk : k < 6) (hk2 : 2 ≤ k) (x : Int32) (hx : k = 2 → 0 ≤ x.toInt) (hv : p = e ∨ (k = 2 ∧ ¬ x = 1) ∨ (k ≠ 2 ∧ k ≠ 5) ∨ (k = 5 ∧ ∃ s w, v (687 + 6 * p) = nI s ∧ s < 20 ∧ x = nI w ∧ w ≤ 6 ∧ (w : Int) ≤ (v (107 + 29 * s + 7)).toInt)) : r_R (ed_up σ 12 p k x) (upd v (687 + 6 * p + k) x) h nC nS nK e := by
  obtain ⟨qH, qC, qP, qS, qK, qL, qN⟩ := hR
  have b3 : nK ≤ 160 := qH.2.2.2.2.2.2.2.2.2.2.2.2.1
  have b2 : nS ≤ 20 := qH.2.2.2.2.2.2.2.2.2.2.2.1
  have b1 : nC ≤ 8 := qH.2.2.2.2.2.2.2.2.2.2.1
  have oK : ∀ K, K ≠ 12 → ed_up σ 12 p k x K = σ K := fun K hK => by funext i; rw [pr_up_K _ _ hK]
  have ov : ∀ a, a < 687 + 6 * p + 2 ∨ 687 + 6 * p + 6 ≤ a → upd v (687 + 6 * p + k) x a = v a := fun a ha => by rw [pr_upd, if_neg (by omega)]
  refine ⟨qH.cg (fun k hk => by rw [oK 0 (by decide)]) (fun a ha => ov a (by omega)), qC.cg (oK 11 (by decide)) (fun a h1 h2 => ov a (by omega)) b1, qP.cg (oK 13 (by decide)) (fun a h1 h2 => ov a (by omega)), qS.cg (oK 7 (by decide)) (oK 8 (by decide)) (oK 9 (by decide)) (oK 10 (by decide)) (fun a h1 h2 => ov a (by omega)) (Nat.le_refl _) b2, ⟨fun q i hq hi => ?_, fun q hq => ?_, fun q q' h1 h2 h3 h4 => ?_⟩, qL.cg (oK 1 (by decide)) (oK 2 (by decide)) (ov 6 (by omega)) (fun a h1 h2 => ov a (by omega)), ?_⟩
  · rw [pr_up, pr_upd]
    by_cases hz : q = p ∧ i = k
    · rw [if_pos ⟨rfl, hz⟩, if_pos (by omega)]
    · rw [if_neg (fun z => hz z.2), if_neg (by omega)]
      exact qK.1 q i hq hi
  · obtain ⟨s, c, a1, a2, a3, a4, a5, a6, a7⟩ := qK.2.1 q hq
    refine ⟨s, c, a1, a2, ?_, ?_, ?_, ?_, fun hne => ?_⟩
    · rw [pr_upd, if_neg (by omega)]; exact a3
    · rw [pr_upd, if_neg (by omega)]; exact a4
    · rw [ov _ (by omega)]; exact a5
    · rw [pr_upd]
      by_cases hz : 687 + 6 * q + 2 = 687 + 6 * p + k
      · rw [if_pos hz]; exact hx (by omega)
      · rw [if_neg hz]; exact a6
    · rw [ov (107 + 29 * s + 7) (by omega)]
      by_cases hqp : q = p
      · subst hqp
        rcases hv with hv | ⟨rfl, hv⟩ | ⟨h1, h2⟩ | ⟨rfl, s', w, h1, hs', h2, h3, h4⟩
        · exact absurd hv hne
        · rw [pr_upd, if_pos rfl]
          exact fun z => absurd z hv
        · rw [pr_upd, if_neg (by omega), pr_upd, if_neg (by omega)]
          exact a7 hne
        · rw [pr_upd, if_neg (by omega), pr_upd, if_pos rfl]
          intro _
          have : s' = s := (nI_eq (by omega) (by omega)).mp (h1.symm.trans a3)
          subst this
          exact ⟨w, h2, h3, h4⟩
      · rw [pr_upd, if_neg (by omega), pr_upd, if_neg (by omega)]
        exact a7 hne
  · rw [pr_upd, if_neg (by omega), pr_upd, if_neg (by omega)] at h3
    rw [pr_upd, if_neg (by omega), pr_upd, if_neg (by omega)] at h4
    exact qK.2.2 q q' h1 h2 h3 h4
  · rw [r_cnt_cg nS (fun s hs => ov _ (by omega))]; exact qN
/-- header numbers that nothing rests on: the days of use, the corrections got -/
theorem r_R.upU {σ : ed_SM} {v : Nat → Int32} {h nC nS nK e : Nat} (hR : r_R σ v h nC nS nK e) (x : Int32) : r_R (ed_up σ 0 0 1 x) (upd v 4 x) h nC nS nK e := by
  obtain ⟨qH, qC, qP, qS, qK, qL, qN⟩ := hR
  obtain ⟨q1, q2, q3, q4, q5, q6, q7, q8, q9, q10, b1, b2, b3, b4⟩ := qH
  have oK : ∀ K, K ≠ 0 → ed_up σ 0 0 1 x K = σ K := fun K hK => by funext i; rw [pr_up_K _ _ hK]
  have ov : ∀ a, a ≠ 4 → upd v 4 x a = v a := fun a ha => by rw [pr_upd, if_neg ha]
  refine ⟨?_, qC.cg (oK 11 (by decide)) (fun a h1 h2 => ov a (by omega)) b1, qP.cg (oK 13 (by decide)) (fun a h1 h2 => ov a (by omega)), qS.cg (oK 7 (by decide)) (oK 8 (by decide)) (oK 9 (by decide)) (oK 10 (by decide)) (fun a h1 h2 => ov a (by omega)) (Nat.le_refl _) b2, qK.cg (oK 12 (by decide)) (fun a h1 h2 => ov a (by omega)) b2 b3, qL.cg (oK 1 (by decide)) (oK 2 (by decide)) (ov 6 (by omega)) (fun a h1 h2 => ov a (by omega)), by rw [r_cnt_cg nS (fun s hs => ov _ (by omega))]; exact qN⟩
  unfold r_H
  rw [pr_up_k _ _ (by decide), pr_up_same, pr_up_k _ _ (by decide), pr_up_k _ _ (by decide), pr_up_k _ _ (by decide), pr_up_k _ _ (by decide)]
  exact ⟨q1, q2, rfl, q4, q5, q6, q7, q8, q9, q10, b1, b2, b3, b4⟩
theorem r_R.upG {σ : ed_SM} {v : Nat → Int32} {h nC nS nK e : Nat} (hR : r_R σ v h nC nS nK e) (x : Int32) : r_R (ed_up σ 0 0 2 x) (upd v 5 x) h nC nS nK e := by
  obtain ⟨qH, qC, qP, qS, qK, qL, qN⟩ := hR
  obtain ⟨q1, q2, q3, q4, q5, q6, q7, q8, q9, q10, b1, b2, b3, b4⟩ := qH
  have oK : ∀ K, K ≠ 0 → ed_up σ 0 0 2 x K = σ K := fun K hK => by funext i; rw [pr_up_K _ _ hK]
  have ov : ∀ a, a ≠ 5 → upd v 5 x a = v a := fun a ha => by rw [pr_upd, if_neg ha]
  refine ⟨?_, qC.cg (oK 11 (by decide)) (fun a h1 h2 => ov a (by omega)) b1, qP.cg (oK 13 (by decide)) (fun a h1 h2 => ov a (by omega)), qS.cg (oK 7 (by decide)) (oK 8 (by decide)) (oK 9 (by decide)) (oK 10 (by decide)) (fun a h1 h2 => ov a (by omega)) (Nat.le_refl _) b2, qK.cg (oK 12 (by decide)) (fun a h1 h2 => ov a (by omega)) b2 b3, qL.cg (oK 1 (by decide)) (oK 2 (by decide)) (ov 6 (by omega)) (fun a h1 h2 => ov a (by omega)), by rw [r_cnt_cg nS (fun s hs => ov _ (by omega))]; exact qN⟩
  unfold r_H
  rw [pr_up_k _ _ (by decide), pr_up_k _ _ (by decide), pr_up_same, pr_up_k _ _ (by decide), pr_up_k _ _ (by decide), pr_up_k _ _ (by decide)]
  exact ⟨q1, q2, q3, rfl, q5, q6, q7, q8, q9, q10, b1, b2, b3, b4⟩
/-- a client's counter or debt -/
theorem r_R.upC {σ : ed_SM} {v : Nat → Int32} {h nC nS nK e : Nat} (hR : r_R σ v h nC nS nK e) {c k : Nat} (hc : c < nC) (hk : k < 10) (hk6 : 6 ≤ k) (x : Int32) (hx : k = 6 → 0 ≤ x.toInt) : r_R (ed_up σ 11 c k x) (upd v (7 + 10 * c + k) x) h nC nS nK e := by
  obtain ⟨qH, qC, qP, qS, qK, qL, qN⟩ := hR
  have b3 : nK ≤ 160 := qH.2.2.2.2.2.2.2.2.2.2.2.2.1
  have b2 : nS ≤ 20 := qH.2.2.2.2.2.2.2.2.2.2.2.1
  have b1 : nC ≤ 8 := qH.2.2.2.2.2.2.2.2.2.2.1
  have oK : ∀ K, K ≠ 11 → ed_up σ 11 c k x K = σ K := fun K hK => by funext i; rw [pr_up_K _ _ hK]
  have ov : ∀ a, a < 7 ∨ 87 ≤ a → upd v (7 + 10 * c + k) x a = v a := fun a ha => by rw [pr_upd, if_neg (by omega)]
  exact ⟨qH.cg (fun k hk => by rw [oK 0 (by decide)]) (fun a ha => ov a (by omega)), qC.up b1 hc hk hk6 x hx, qP.cg (oK 13 (by decide)) (fun a h1 h2 => ov a (by omega)), qS.cg (oK 7 (by decide)) (oK 8 (by decide)) (oK 9 (by decide)) (oK 10 (by decide)) (fun a h1 h2 => ov a (by omega)) (Nat.le_refl _) b2, qK.cg (oK 12 (by decide)) (fun a h1 h2 => ov a (by omega)) b2 b3, qL.cg (oK 1 (by decide)) (oK 2 (by decide)) (ov 6 (by omega)) (fun a h1 h2 => ov a (by omega)), by rw [r_cnt_cg nS (fun s hs => ov _ (by omega))]; exact qN⟩
/-- a row of the log, the whole relation -/
theorem r_R.lg {σ : ed_SM} {v : Nat → Int32} {h nC nS nK e : Nat} (hR : r_R σ v h nC nS nK e) {σ' : ed_SM} {v' : Nat → Int32} (hL : r_L σ' v') (hK : ∀ K, K ≠ 1 → K ≠ 2 → σ' K = σ K) (hv : ∀ a, a ≠ 6 → a < 1647 → v' a = v a) : r_R σ' v' h nC nS nK e := by
  obtain ⟨qH, qC, qP, qS, qK, qL, qN⟩ := hR
  have b3 : nK ≤ 160 := qH.2.2.2.2.2.2.2.2.2.2.2.2.1
  have b2 : nS ≤ 20 := qH.2.2.2.2.2.2.2.2.2.2.2.1
  have b1 : nC ≤ 8 := qH.2.2.2.2.2.2.2.2.2.2.1
  exact ⟨qH.cg (fun k hk => by rw [hK 0 (by decide) (by decide)]) (fun a ha => hv a (by omega) (by omega)), qC.cg (hK 11 (by decide) (by decide)) (fun a h1 h2 => hv a (by omega) (by omega)) b1, qP.cg (hK 13 (by decide) (by decide)) (fun a h1 h2 => hv a (by omega) (by omega)), qS.cg (hK 7 (by decide) (by decide)) (hK 8 (by decide) (by decide)) (hK 9 (by decide) (by decide)) (hK 10 (by decide) (by decide)) (fun a h1 h2 => hv a (by omega) (by omega)) (Nat.le_refl _) b2, qK.cg (hK 12 (by decide) (by decide)) (fun a h1 h2 => hv a (by omega) (by omega)) b2 b3, hL, by rw [r_cnt_cg nS (fun s hs => hv _ (by omega) (by omega))]; exact qN⟩
theorem r_R.opn {σ : ed_SM} {v : Nat → Int32} {h nC nS nK e : Nat} (hR : r_R σ v h nC nS nK 160) : r_R σ v h nC nS nK e := by
  obtain ⟨qH, qC, qP, qS, qK, qL, qN⟩ := hR
  have b3 : nK ≤ 160 := qH.2.2.2.2.2.2.2.2.2.2.2.2.1
  refine ⟨qH, qC, qP, qS, ⟨qK.1, fun q hq => ?_, qK.2.2⟩, qL, qN⟩
  obtain ⟨s, c, a1, a2, a3, a4, a5, a6, a7⟩ := qK.2.1 q hq
  exact ⟨s, c, a1, a2, a3, a4, a5, a6, fun _ => a7 (by omega)⟩
theorem r_R.clo {σ : ed_SM} {v : Nat → Int32} {h nC nS nK p : Nat} (hR : r_R σ v h nC nS nK p) {s w : Nat} (hs : v (687 + 6 * p) = nI s) (hs2 : s < 20) (hw : v (687 + 6 * p + 5) = nI w) (hw6 : w ≤ 6) (hw2 : (w : Int) ≤ (v (107 + 29 * s + 7)).toInt) : r_R σ v h nC nS nK 160 := by
  obtain ⟨qH, qC, qP, qS, qK, qL, qN⟩ := hR
  have b2 : nS ≤ 20 := qH.2.2.2.2.2.2.2.2.2.2.2.1
  refine ⟨qH, qC, qP, qS, ⟨qK.1, fun q hq => ?_, qK.2.2⟩, qL, qN⟩
  obtain ⟨s', c, a1, a2, a3, a4, a5, a6, a7⟩ := qK.2.1 q hq
  refine ⟨s', c, a1, a2, a3, a4, a5, a6, fun _ => ?_⟩
  by_cases hqp : q = p
  · subst hqp
    have : s = s' := (nI_eq (by omega) (by omega)).mp (hs.symm.trans a3)
    subst this
    exact fun _ => ⟨w, hw, hw6, hw2⟩
  · exact a7 hqp
