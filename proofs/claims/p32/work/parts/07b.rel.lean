/-! The relation of a state of the class with a row of the reference. -/
theorem pr_sR1 (ν : em_MM) (v : Nat → Int32) : em_sR ν 1 v 1 = v := by simp [em_sR]
theorem pr_sRn (ν : em_MM) (v : Nat → Int32) {i : Nat} (h : i ≠ 1) : em_sR ν 1 v i = ν i := by simp [em_sR, h]
theorem pr_sRu (ν : em_MM) (v : Nat → Int32) (a : Nat) (x : Int32) : em_up (em_sR ν 1 v) 1 a x = em_sR ν 1 (upd v a x) := by
  funext i
  by_cases h : i = 1 <;> simp [em_up, em_sR, h]
theorem pr_sRe (ν : em_MM) : em_sR ν 1 (ν 1) = ν := by
  funext i
  by_cases h : i = 1
  · subst h; simp [em_sR]
  · simp [em_sR, h]
theorem pr_cl (n : Nat) (h : n < 2 ^ 31) : (OfNat.ofNat n : Int32).toNatClampNeg = n := nI_clamp h
def r_C (σ : ed_SM) (v : Nat → Int32) (nC : Nat) : Prop :=
  (∀ c k, c < nC → k < 10 → σ 11 c k = v (7 + 10 * c + k)) ∧
  (∀ c, c < nC → ed_bo (v (7 + 10 * c + 5)) ∧ 0 ≤ (v (7 + 10 * c + 4)).toInt ∧ 0 ≤ (v (7 + 10 * c + 6)).toInt ∧ 0 ≤ (v (7 + 10 * c + 2)).toInt ∧ (v (7 + 10 * c + 2)).toInt ≤ 24) ∧
  (∀ c k, nC ≤ c → c < 8 → 6 ≤ k → k < 10 → v (7 + 10 * c + k) = 0)
def r_P (σ : ed_SM) (v : Nat → Int32) : Prop := (∀ q k, q < 10 → k < 2 → σ 13 q k = v (87 + 2 * q + k)) ∧ ∀ q, q < 10 → 0 ≤ (v (87 + 2 * q)).toInt
def r_S1 (σ : ed_SM) (v : Nat → Int32) (s h : Nat) : Prop :=
  (σ 7 s 0 = v (107 + 29 * s) ∧ σ 7 s 1 = v (107 + 29 * s + 1) ∧ σ 7 s 3 = v (107 + 29 * s + 5) ∧ σ 7 s 4 = v (107 + 29 * s + 16) ∧ σ 7 s 6 = v (107 + 29 * s + 6) ∧ σ 7 s 7 = v (107 + 29 * s + 7) ∧ σ 7 s 9 = v (107 + 29 * s + 8) ∧ σ 7 s 10 = v (107 + 29 * s + 9)) ∧
  (∃ m, 1 ≤ m ∧ m ≤ 3 ∧ v (107 + 29 * s + 1) = nI m ∧ ∀ k, k < m → σ 8 s k = v (107 + 29 * s + (2 + k)) ∧ ∃ q, q < 10 ∧ v (107 + 29 * s + (2 + k)) = nI q) ∧
  (∃ n, n ≤ 12 ∧ v (107 + 29 * s + 16) = nI n ∧ ∀ k, k < n → σ 9 s k = v (107 + 29 * s + (17 + k))) ∧
  (∃ w, w ≤ 6 ∧ v (107 + 29 * s + 7) = nI w ∧ (∀ k, k < w → σ 10 s k = v (107 + 29 * s + (10 + k)) ∧ 0 ≤ (v (107 + 29 * s + (10 + k))).toInt ∧ (v (107 + 29 * s + (10 + k))).toInt ≤ h) ∧ ∀ k k', k ≤ k' → k' < w → (v (107 + 29 * s + (10 + k))).toInt ≤ (v (107 + 29 * s + (10 + k'))).toInt) ∧
  0 ≤ (v (107 + 29 * s + 6)).toInt ∧ (v (107 + 29 * s + 6) = 0 ∨ v (107 + 29 * s + 6) = 1 → v (107 + 29 * s + 8) = -5)
def r_S (σ : ed_SM) (v : Nat → Int32) (nS h : Nat) : Prop := ∀ s, s < nS → r_S1 σ v s h
def r_K1 (v : Nat → Int32) (nC nS p e : Nat) : Prop := ∃ s c, s < nS ∧ c < nC ∧ v (687 + 6 * p) = nI s ∧ v (687 + 6 * p + 1) = nI c ∧ ¬ v (107 + 29 * s + 8) = -5 ∧ 0 ≤ (v (687 + 6 * p + 2)).toInt ∧ (p ≠ e → v (687 + 6 * p + 2) = 1 → ∃ w, v (687 + 6 * p + 5) = nI w ∧ w ≤ 6 ∧ (w : Int) ≤ (v (107 + 29 * s + 7)).toInt)
def r_K (σ : ed_SM) (v : Nat → Int32) (nC nS nK e : Nat) : Prop :=
  (∀ p k, p < nK → k < 6 → σ 12 p k = v (687 + 6 * p + k)) ∧ (∀ p, p < nK → r_K1 v nC nS p e) ∧
  (∀ p p', p < nK → p' < nK → v (687 + 6 * p) = v (687 + 6 * p') → v (687 + 6 * p + 1) = v (687 + 6 * p' + 1) → p = p')
def r_L (σ : ed_SM) (v : Nat → Int32) : Prop := ∃ ne sz, ne < 12 ∧ sz ≤ 12 ∧ σ 1 0 1 = nI ne ∧ σ 1 0 2 = nI sz ∧ v 6 = nI sz ∧
  ∀ b, b < sz → σ 2 0 ((ne + 12 - b) % 12 * 4) = v (1647 + 3 * b) ∧ σ 2 0 ((ne + 12 - b) % 12 * 4 + 3) = v (1647 + 3 * b + 2) ∧
    ∃ s, s < 20 ∧ σ 2 0 ((ne + 12 - b) % 12 * 4 + 1) = nI s ∧ ((σ 2 0 ((ne + 12 - b) % 12 * 4 + 2) = -5 ∧ v (1647 + 3 * b + 1) = nI (10 * s + 9)) ∨ ∃ c, c < 8 ∧ σ 2 0 ((ne + 12 - b) % 12 * 4 + 2) = nI c ∧ v (1647 + 3 * b + 1) = nI (10 * s + c))
def r_cnt (v : Nat → Int32) : Nat → Nat
  | 0 => 0
  | n + 1 => r_cnt v n + (if v (107 + 29 * n + 8) = -5 then 0 else 1)
def r_H (σ : ed_SM) (v : Nat → Int32) (h nC nS nK : Nat) : Prop :=
  σ 0 0 0 = nI h ∧ v 0 = nI h ∧ σ 0 0 1 = v 4 ∧ σ 0 0 2 = v 5 ∧ σ 0 0 3 = nI nS ∧ v 2 = nI nS ∧ σ 0 0 4 = nI nC ∧ v 1 = nI nC ∧ σ 0 0 5 = nI nK ∧ v 3 = nI nK ∧ nC ≤ 8 ∧ nS ≤ 20 ∧ nK ≤ 160 ∧ h < 20000
def r_R (σ : ed_SM) (v : Nat → Int32) (h nC nS nK e : Nat) : Prop := r_H σ v h nC nS nK ∧ r_C σ v nC ∧ r_P σ v ∧ r_S σ v nS h ∧ r_K σ v nC nS nK e ∧ r_L σ v ∧ nK ≤ 8 * r_cnt v nS
/-- what isn't touched stays -/
theorem r_C.cg {σ σ' : ed_SM} {v v' : Nat → Int32} {n : Nat} (h : r_C σ v n) (h1 : σ' 11 = σ 11) (h2 : ∀ a, 7 ≤ a → a < 87 → v' a = v a) (hn : n ≤ 8) : r_C σ' v' n := by
  refine ⟨fun c k hc hk => ?_, fun c hc => ?_, fun c k h3 h4 h5 h6 => ?_⟩
  · rw [h1, h2 _ (by omega) (by omega)]; exact h.1 c k hc hk
  · rw [h2 _ (by omega) (by omega), h2 _ (by omega) (by omega), h2 _ (by omega) (by omega), h2 _ (by omega) (by omega)]; exact h.2.1 c hc
  · rw [h2 _ (by omega) (by omega)]; exact h.2.2 c k h3 h4 h5 h6
theorem r_P.cg {σ σ' : ed_SM} {v v' : Nat → Int32} (h : r_P σ v) (h1 : σ' 13 = σ 13) (h2 : ∀ a, 87 ≤ a → a < 107 → v' a = v a) : r_P σ' v' := by
  refine ⟨fun q k hq hk => ?_, fun q hq => ?_⟩
  · rw [h1, h2 _ (by omega) (by omega)]; exact h.1 q k hq hk
  · rw [h2 _ (by omega) (by omega)]; exact h.2 q hq
theorem r_S1.cg {σ σ' : ed_SM} {v v' : Nat → Int32} {s h h' : Nat} (hS : r_S1 σ v s h) (h7 : σ' 7 s = σ 7 s) (h8 : σ' 8 s = σ 8 s) (h9 : σ' 9 s = σ 9 s) (h10 : σ' 10 s = σ 10 s) (h2 : ∀ a, 107 + 29 * s ≤ a → a < 107 + 29 * s + 29 → v' a = v a) (hh : h ≤ h') : r_S1 σ' v' s h' := by
  obtain ⟨⟨a1, a2, a3, a4, a5, a6, a7, a8⟩, ⟨m, b1, b2, b3, b4⟩, ⟨n, c1, c2, c3⟩, ⟨w, d1, d2, d3, d4⟩, e1, e2⟩ := hS
  refine ⟨⟨?_, ?_, ?_, ?_, ?_, ?_, ?_, ?_⟩, ⟨m, b1, b2, ?_, fun k hk => ?_⟩, ⟨n, c1, ?_, fun k hk => ?_⟩, ⟨w, d1, ?_, fun k hk => ?_, fun k k' hk hk' => ?_⟩, ?_, ?_⟩
  · rw [h7, h2 _ (by omega) (by omega)]; exact a1
  · rw [h7, h2 _ (by omega) (by omega)]; exact a2
  · rw [h7, h2 _ (by omega) (by omega)]; exact a3
  · rw [h7, h2 _ (by omega) (by omega)]; exact a4
  · rw [h7, h2 _ (by omega) (by omega)]; exact a5
  · rw [h7, h2 _ (by omega) (by omega)]; exact a6
  · rw [h7, h2 _ (by omega) (by omega)]; exact a7
  · rw [h7, h2 _ (by omega) (by omega)]; exact a8
  · rw [h2 _ (by omega) (by omega)]; exact b3
  · rw [h8, h2 _ (by omega) (by omega)]; exact b4 k hk
  · rw [h2 _ (by omega) (by omega)]; exact c2
  · rw [h9, h2 _ (by omega) (by omega)]; exact c3 k hk
  · rw [h2 _ (by omega) (by omega)]; exact d2
  · rw [h10, h2 _ (by omega) (by omega)]
    obtain ⟨f1, f2, f3⟩ := d3 k hk
    exact ⟨f1, f2, by omega⟩
  · rw [h2 _ (by omega) (by omega), h2 _ (by omega) (by omega)]; exact d4 k k' hk hk'
  · rw [h2 _ (by omega) (by omega)]; exact e1
  · rw [h2 _ (by omega) (by omega), h2 _ (by omega) (by omega)]; exact e2
theorem r_S.cg {σ σ' : ed_SM} {v v' : Nat → Int32} {n h h' : Nat} (hS : r_S σ v n h) (h7 : σ' 7 = σ 7) (h8 : σ' 8 = σ 8) (h9 : σ' 9 = σ 9) (h10 : σ' 10 = σ 10) (h2 : ∀ a, 107 ≤ a → a < 687 → v' a = v a) (hh : h ≤ h') (hn : n ≤ 20) : r_S σ' v' n h' := fun s hs => (hS s hs).cg (by rw [h7]) (by rw [h8]) (by rw [h9]) (by rw [h10]) (fun a q1 q2 => h2 a (by omega) (by omega)) hh
theorem r_K.cg {σ σ' : ed_SM} {v v' : Nat → Int32} {nC nS nK e : Nat} (h : r_K σ v nC nS nK e) (h1 : σ' 12 = σ 12) (h2 : ∀ a, 107 ≤ a → a < 1647 → v' a = v a) (hS : nS ≤ 20) (hn : nK ≤ 160) : r_K σ' v' nC nS nK e := by
  refine ⟨fun q k hq hk => ?_, fun q hq => ?_, fun p p' h3 h4 h5 h6 => ?_⟩
  · rw [h1, h2 _ (by omega) (by omega)]; exact h.1 q k hq hk
  · obtain ⟨s, c, a1, a2, a3⟩ := h.2.1 q hq
    refine ⟨s, c, a1, a2, ?_⟩
    rw [h2 _ (by omega) (by omega), h2 _ (by omega) (by omega), h2 _ (by omega) (by omega), h2 _ (by omega) (by omega), h2 _ (by omega) (by omega), h2 _ (by omega) (by omega)]
    exact a3
  · rw [h2 _ (by omega) (by omega), h2 _ (by omega) (by omega)] at h5 h6
    exact h.2.2 p p' h3 h4 h5 h6
theorem r_L.cg {σ σ' : ed_SM} {v v' : Nat → Int32} (h : r_L σ v) (h1 : σ' 1 = σ 1) (h2 : σ' 2 = σ 2) (h6 : v' 6 = v 6) (h3 : ∀ a, 1647 ≤ a → a < 1683 → v' a = v a) : r_L σ' v' := by
  obtain ⟨ne, sz, a1, a2, a3, a4, a5, a6⟩ := h
  refine ⟨ne, sz, a1, a2, by rw [h1]; exact a3, by rw [h1]; exact a4, by rw [h6]; exact a5, fun b hb => ?_⟩
  rw [h2, h3 _ (by omega) (by omega), h3 _ (by omega) (by omega), h3 _ (by omega) (by omega)]
  exact a6 b hb
theorem r_cnt_cg {v v' : Nat → Int32} : ∀ (n : Nat), (∀ s, s < n → v' (107 + 29 * s + 8) = v (107 + 29 * s + 8)) → r_cnt v' n = r_cnt v n
  | 0, _ => rfl
  | n + 1, h => by
    show r_cnt v' n + _ = r_cnt v n + _
    rw [r_cnt_cg n (fun s hs => h s (by omega)), h n (by omega)]
theorem r_cnt_le (v : Nat → Int32) : ∀ n, r_cnt v n ≤ n
  | 0 => Nat.le_refl 0
  | n + 1 => by
    show r_cnt v n + _ ≤ _
    have := r_cnt_le v n
    split <;> omega
/-! the log -/
def r_sh (v : Nat → Int32) (k : Nat) : Nat → Int32 := fun a => if 1650 ≤ a ∧ a ≤ 1647 + k then v (a - 3) else v a
theorem r_sh_step (v : Nat → Int32) (k : Nat) (h : 2 ≤ k) : r_sh (upd v (1647 + (k + 1)) (v (1647 + (k + 1) - 3))) k = r_sh v (k + 1) := by
  funext a
  unfold r_sh
  by_cases h1 : 1650 ≤ a ∧ a ≤ 1647 + k
  · rw [if_pos h1, if_pos (by omega), pr_upd, if_neg (by omega)]
  · rw [if_neg h1, pr_upd]
    by_cases h2 : a = 1647 + (k + 1)
    · rw [if_pos h2, if_pos (by omega), h2]
    · rw [if_neg h2, if_neg (by omega)]
theorem r_log_loop (ν : em_MM) (x1 x2 x3 : Int32) : ∀ (k : Nat), k ≤ 33 → ∀ (n : Nat), k < n → ∀ v, f_X9_log_4 n x1 x2 x3 (nI (k + 2)) (em_sR ν 1 v) = f_X9_log_4 1 x1 x2 x3 2 (em_sR ν 1 (r_sh v (k + 2))) := by
  intro k
  induction k with
  | zero =>
    intro _ n hn v
    obtain ⟨n, rfl⟩ : ∃ q, n = q + 1 := ⟨n - 1, by omega⟩
    have e : r_sh v 2 = v := by
      funext a
      unfold r_sh
      rw [if_neg (by omega)]
    rw [e]
    have h2 : (2 : Int32) ≤ 2 := by decide
    show f_X9_log_4 (n + 1) x1 x2 x3 2 _ = f_X9_log_4 (0 + 1) x1 x2 x3 2 _
    rw [f_X9_log_4, f_X9_log_4, if_pos h2, if_pos h2]
  | succ k ih =>
    intro hk n hn v
    obtain ⟨n, rfl⟩ : ∃ q, n = q + 1 := ⟨n - 1, by omega⟩
    rw [f_X9_log_4]
    have h2 : ¬ nI (k + 1 + 2) ≤ 2 := by
      show ¬ nI (k + 1 + 2) ≤ nI 2
      rw [pr_le (by omega) (by omega)]; omega
    have e1 : (1647 : Int32) + nI (k + 1 + 2) = nI (1647 + (k + 1 + 2)) := nI_add 1647 _
    have e2 : nI (1647 + (k + 1 + 2)) - 3 = nI (1647 + (k + 1 + 2) - 3) := pk_sub (a := 1647 + (k + 1 + 2)) (b := 3) (by omega)
    have e3 : nI (k + 1 + 2) + (-1) = nI (k + 2) := pk_m1 (k + 2)
    rw [if_neg h2, e1, e2, e3, pr_gin (by omega) (by omega), pr_gin (by omega) (by omega), pr_t, pr_sR1, pr_sRu, nI_clamp (by omega), nI_clamp (by omega), ih (by omega) n (by omega)]
    have := r_sh_step v (k + 2) (by omega)
    rw [show 1647 + (k + 1 + 2) = 1647 + (k + 2 + 1) by omega, this]
