/-- the reference's log, in one piece -/
def r_lg (v : Nat → Int32) (kd code : Int32) (sz : Nat) : Nat → Int32 := fun a => if a = 6 then nI (if sz < 12 then sz + 1 else 12) else if a = 1647 then kd else if a = 1648 then code else if a = 1649 then v 0 else r_sh v 35 a
theorem r_log9 (ν : em_MM) (v : Nat → Int32) (kd x2 x3 code : Int32) (sz : Nat) (hsz : sz ≤ 12) (h6 : v 6 = nI sz) (hcode : code = if 0 ≤ x3 then 10 * x2 + x3 else 10 * x2 + 9) : f_X9_log kd x2 x3 (em_sR ν 1 v) = some (em_sR ν 1 (r_lg v kd code sz)) := by
  unfold f_X9_log
  have h := r_log_loop ν kd x2 x3 33 (by omega) ed_N (by decide) v
  rw [show (35 : Int32) = nI (33 + 2) from rfl, h]
  rw [f_X9_log_4, if_pos (by decide)]
  have g0 : ed_in 0 1683 := ⟨by decide, by decide⟩
  have g6 : ed_in 6 1683 := ⟨by decide, by decide⟩
  have g1 : ed_in 1647 1683 := ⟨by decide, by decide⟩
  have g2 : ed_in 1648 1683 := ⟨by decide, by decide⟩
  have g3 : ed_in 1649 1683 := ⟨by decide, by decide⟩
  have e0 : (0 : Int32).toNatClampNeg = 0 := by decide
  have e6 : (6 : Int32).toNatClampNeg = 6 := by decide
  have e1 : (1647 : Int32).toNatClampNeg = 1647 := by decide
  have e2 : (1648 : Int32).toNatClampNeg = 1648 := by decide
  have e3 : (1649 : Int32).toNatClampNeg = 1649 := by decide
  have key : ∀ (y : Int32), (if (12 : Int32) ≤ upd (upd (upd (r_sh v (33 + 2)) 1647 kd) 1648 y) 1649 (v 0) 6 then some (em_sR ν 1 (upd (upd (upd (upd (r_sh v (33 + 2)) 1647 kd) 1648 y) 1649 (v 0)) 6 (upd (upd (upd (r_sh v (33 + 2)) 1647 kd) 1648 y) 1649 (v 0) 6 + 0))) else some (em_sR ν 1 (upd (upd (upd (upd (r_sh v (33 + 2)) 1647 kd) 1648 y) 1649 (v 0)) 6 (upd (upd (upd (r_sh v (33 + 2)) 1647 kd) 1648 y) 1649 (v 0) 6 + 1)))) = some (em_sR ν 1 (r_lg v kd y sz)) := by
    intro y
    have u6 : upd (upd (upd (r_sh v (33 + 2)) 1647 kd) 1648 y) 1649 (v 0) 6 = nI sz := by
      simp [pr_upd, r_sh, h6]
    rw [u6]
    have hfin : ∀ z : Int32, z = nI (if sz < 12 then sz + 1 else 12) → upd (upd (upd (upd (r_sh v (33 + 2)) 1647 kd) 1648 y) 1649 (v 0)) 6 z = r_lg v kd y sz := by
      intro z hz
      funext a
      unfold r_lg
      simp only [pr_upd]
      by_cases a6 : a = 6
      · rw [if_pos a6, if_pos a6, hz]
      · rw [if_neg a6, if_neg a6]
        by_cases a3 : a = 1649
        · subst a3; simp
        · rw [if_neg a3]
          by_cases a2 : a = 1648
          · subst a2; simp
          · rw [if_neg a2]
            by_cases a1 : a = 1647
            · subst a1; simp
            · rw [if_neg a1, if_neg a1, if_neg a2, if_neg a3]
    by_cases hz : sz < 12
    · have hn : ¬ (12 : Int32) ≤ nI sz := by
        show ¬ nI 12 ≤ nI sz
        rw [pr_le (by omega) (by omega)]; omega
      rw [if_neg hn, hfin _ (by rw [if_pos hz]; exact nI_1 sz)]
    · have hn : (12 : Int32) ≤ nI sz := by
        show nI 12 ≤ nI sz
        rw [pr_le (by omega) (by omega)]; omega
      rw [if_pos hn, hfin _ (by rw [if_neg hz]; rw [show sz = 12 by omega]; rfl)]
  have v0 : ∀ y, upd (upd (r_sh v (33 + 2)) 1647 kd) 1648 y 0 = v 0 := fun y => by simp [pr_upd, r_sh]
  by_cases hx : 0 ≤ x3
  · rw [if_pos hx] at hcode
    rw [pr_g g1, pr_t, if_pos hx, pr_g g2, pr_t, pr_g g0, pr_g g3, pr_t, pr_g g6, pr_g g6, pr_g g6, pr_g g6, pr_t, pr_t]
    simp only [pr_sRu, pr_sR1, e0, e6, e1, e2, e3, v0]
    rw [← hcode]
    exact key code
  · rw [if_neg hx] at hcode
    rw [pr_g g1, pr_t, if_neg hx, pr_g g2, pr_t, pr_g g0, pr_g g3, pr_t, pr_g g6, pr_g g6, pr_g g6, pr_g g6, pr_t, pr_t]
    simp only [pr_sRu, pr_sR1, e0, e6, e1, e2, e3, v0]
    rw [← hcode]
    exact key code
/-- the class's log -/
def r_ad (σ : ed_SM) (kd x2 x3 x4 : Int32) (ne sz : Nat) : ed_SM := ed_up (ed_up (ed_up (ed_up (ed_up (ed_up σ 1 0 1 (nI ((ne + 1) % 12))) 1 0 2 (nI (if sz < 12 then sz + 1 else 12))) 2 0 ((ne + 1) % 12 * 4) kd) 2 0 ((ne + 1) % 12 * 4 + 1) x2) 2 0 ((ne + 1) % 12 * 4 + 2) x3) 2 0 ((ne + 1) % 12 * 4 + 3) x4
theorem r_add8 (σ : ed_SM) (kd x2 x3 x4 : Int32) (ne sz : Nat) (hne : ne < 12) (hsz : sz ≤ 12) (h1 : σ 1 0 1 = nI ne) (h2 : σ 1 0 2 = nI sz) : f_X3_add kd x2 x3 x4 σ = some (r_ad σ kd x2 x3 x4 ne sz) := by
  unfold f_X3_add
  have e1 : σ 1 0 1 + 1 - (σ 1 0 1 + 1) / 12 * 12 = nI ((ne + 1) % 12) := by
    rw [h1, nI_1]
    exact pk_rem (a := ne + 1) (d := 12) (by omega) (by omega) (by omega)
  rw [e1, pr_t]
  have e2 : (ed_up σ 1 0 1 (nI ((ne + 1) % 12))) 1 0 2 = nI sz := by
    rw [pr_up_k _ _ (by decide), h2]
  rw [e2]
  have e3 : (if (12 : Int32) < nI sz + 1 then 12 else nI sz + 1) = nI (if sz < 12 then sz + 1 else 12) := by
    rw [nI_1]
    by_cases hz : sz < 12
    · have : ¬ (12 : Int32) < nI (sz + 1) := by
        show ¬ nI 12 < nI (sz + 1)
        rw [pr_lt (by omega) (by omega)]; omega
      rw [if_neg this, if_pos hz]
    · have : (12 : Int32) < nI (sz + 1) := by
        show nI 12 < nI (sz + 1)
        rw [pr_lt (by omega) (by omega)]; omega
      rw [if_pos this, if_neg hz]
      rfl
  rw [e3, pr_t]
  have e4 : (ed_up (ed_up σ 1 0 1 (nI ((ne + 1) % 12))) 1 0 2 (nI (if sz < 12 then sz + 1 else 12))) 1 0 1 = nI ((ne + 1) % 12) := by
    rw [pr_up_k _ _ (by decide), pr_up_same]
  have e5 : nI ((ne + 1) % 12) * 4 = nI ((ne + 1) % 12 * 4) := pk_mul _ 4
  have e6 : ((48 : Int32) - 4) + 1 = nI 45 := by decide
  rw [e4, e5, e6]
  have c1 : ¬ nI ((ne + 1) % 12 * 4) < 0 := nI_pos (by omega)
  have c2 : ¬ nI 45 ≤ nI ((ne + 1) % 12 * 4) := by rw [pr_le (by omega) (by omega)]; omega
  rw [pr_isPlace, if_neg c1, if_neg c2, if_neg (by decide)]
  have d1 : nI ((ne + 1) % 12 * 4) + 1 = nI ((ne + 1) % 12 * 4 + 1) := nI_1 _
  have d2 : nI ((ne + 1) % 12 * 4) + 2 = nI ((ne + 1) % 12 * 4 + 2) := nI_add _ 2
  have d3 : nI ((ne + 1) % 12 * 4) + 3 = nI ((ne + 1) % 12 * 4 + 3) := nI_add _ 3
  rw [d1, d2, d3, pr_gin (by omega) (by omega), pr_t, pr_gin (by omega) (by omega), pr_t, pr_gin (by omega) (by omega), pr_t, pr_gin (by omega) (by omega), pr_t, nI_clamp (by omega), nI_clamp (by omega), nI_clamp (by omega), nI_clamp (by omega)]
  rfl
theorem r_ad_other (σ : ed_SM) (kd x2 x3 x4 : Int32) (ne sz K : Nat) (h1 : K ≠ 1) (h2 : K ≠ 2) : r_ad σ kd x2 x3 x4 ne sz K = σ K := by
  funext i
  unfold r_ad
  rw [pr_up_K _ _ h2, pr_up_K _ _ h2, pr_up_K _ _ h2, pr_up_K _ _ h2, pr_up_K _ _ h1, pr_up_K _ _ h1]
theorem r_lg_other (v : Nat → Int32) (kd code : Int32) (sz a : Nat) (h1 : a ≠ 6) (h2 : a < 1647) : r_lg v kd code sz a = v a := by
  unfold r_lg r_sh
  rw [if_neg h1, if_neg (by omega), if_neg (by omega), if_neg (by omega), if_neg (by omega)]
/-- a row of both logs -/
theorem r_log (ν : em_MM) (σ : ed_SM) (v : Nat → Int32) (kd x : Int32) (cl : Int32) (s : Nat) (hL : r_L σ v) (hs : s < 20) (hcl : cl = -5 ∨ ∃ c, c < 8 ∧ cl = nI c) (hx : x = v 0) : ∃ σ' v', f_X3_add kd (nI s) cl x σ = some σ' ∧ f_X9_log kd (nI s) cl (em_sR ν 1 v) = some (em_sR ν 1 v') ∧ r_L σ' v' ∧ (∀ K, K ≠ 1 → K ≠ 2 → σ' K = σ K) ∧ ∀ a, a ≠ 6 → a < 1647 → v' a = v a := by
  obtain ⟨ne, sz, a1, a2, a3, a4, a5, a6⟩ := hL
  refine ⟨r_ad σ kd (nI s) cl x ne sz, r_lg v kd (if 0 ≤ cl then 10 * nI s + cl else 10 * nI s + 9) sz, r_add8 σ _ _ _ _ ne sz a1 a2 a3 a4, r_log9 ν v _ _ _ _ sz a2 a5 rfl, ?_, fun K h1 h2 => r_ad_other _ _ _ _ _ _ _ K h1 h2, fun a h1 h2 => r_lg_other _ _ _ _ a h1 h2⟩
  have hz : (if sz < 12 then sz + 1 else 12) ≤ 12 := by split <;> omega
  refine ⟨(ne + 1) % 12, if sz < 12 then sz + 1 else 12, by omega, hz, ?_, ?_, ?_, fun b hb => ?_⟩
  · unfold r_ad
    rw [pr_up_K _ _ (by decide), pr_up_K _ _ (by decide), pr_up_K _ _ (by decide), pr_up_K _ _ (by decide), pr_up_k _ _ (by decide), pr_up_same]
  · unfold r_ad
    rw [pr_up_K _ _ (by decide), pr_up_K _ _ (by decide), pr_up_K _ _ (by decide), pr_up_K _ _ (by decide), pr_up_same]
  · unfold r_lg
    rw [if_pos rfl]
  · have hb2 : b < sz + 1 := by split at hb <;> omega
    have hb3 : b < 12 := by omega
    have rd : ∀ k, r_ad σ kd (nI s) cl x ne sz 2 0 k = if k = (ne + 1) % 12 * 4 + 3 then x else if k = (ne + 1) % 12 * 4 + 2 then cl else if k = (ne + 1) % 12 * 4 + 1 then nI s else if k = (ne + 1) % 12 * 4 then kd else σ 2 0 k := by
      intro k
      unfold r_ad
      simp only [pr_up]
      simp
    by_cases hb0 : b = 0
    · subst hb0
      have em : ((ne + 1) % 12 + 12 - 0) % 12 = (ne + 1) % 12 := by omega
      rw [em]
      refine ⟨?_, ?_, s, hs, ?_, ?_⟩
      · rw [rd, if_neg (by omega), if_neg (by omega), if_neg (by omega), if_pos rfl]; rfl
      · rw [rd, if_pos rfl, hx]; rfl
      · rw [rd, if_neg (by omega), if_neg (by omega), if_pos rfl]
      · rcases hcl with rfl | ⟨c, hc, rfl⟩
        · left
          refine ⟨by rw [rd, if_neg (by omega), if_pos rfl], ?_⟩
          show r_lg v kd _ sz 1648 = _
          unfold r_lg
          rw [if_neg (by decide), if_neg (by decide), if_pos rfl, if_neg (by decide), show (10 : Int32) = nI 10 from rfl, show (9 : Int32) = nI 9 from rfl, pk_mul, nI_add]
        · right
          refine ⟨c, hc, by rw [rd, if_neg (by omega), if_pos rfl], ?_⟩
          show r_lg v kd _ sz 1648 = _
          unfold r_lg
          rw [if_neg (by decide), if_neg (by decide), if_pos rfl, if_pos (nI_pos' (by omega)), show (10 : Int32) = nI 10 from rfl, pk_mul, nI_add]
    · obtain ⟨q, rfl⟩ : ∃ q, b = q + 1 := ⟨b - 1, by omega⟩
      have em : ((ne + 1) % 12 + 12 - (q + 1)) % 12 = (ne + 12 - q) % 12 := by omega
      have en : (ne + 12 - q) % 12 ≠ (ne + 1) % 12 := by omega
      have lv : ∀ i, i < 3 → r_lg v kd (if 0 ≤ cl then 10 * nI s + cl else 10 * nI s + 9) sz (1647 + 3 * (q + 1) + i) = v (1647 + 3 * q + i) := by
        intro i hi
        unfold r_lg r_sh
        rw [if_neg (by omega), if_neg (by omega), if_neg (by omega), if_neg (by omega), if_pos (by omega), show 1647 + 3 * (q + 1) + i - 3 = 1647 + 3 * q + i by omega]
      obtain ⟨b1, b2, s2, b3, b4, b5⟩ := a6 q (by omega)
      rw [em]
      have l0 := lv 0 (by omega)
      have l1 := lv 1 (by omega)
      have l2 := lv 2 (by omega)
      rw [Nat.add_zero, Nat.add_zero] at l0
      refine ⟨?_, ?_, s2, b3, ?_, ?_⟩
      · rw [rd, if_neg (by omega), if_neg (by omega), if_neg (by omega), if_neg (by omega), l0]; exact b1
      · rw [rd, if_neg (by omega), if_neg (by omega), if_neg (by omega), if_neg (by omega), l2]; exact b2
      · rw [rd, if_neg (by omega), if_neg (by omega), if_neg (by omega), if_neg (by omega)]; exact b4
      · rw [rd, if_neg (by omega), if_neg (by omega), if_neg (by omega), if_neg (by omega), l1]; exact b5
