/-! A text that is a story's is read. -/
def l_X (σ : ed_SM) (L : List Nat) (p : Nat) : Prop := L.length ≤ 40 ∧ p ≤ L.length ∧ σ 17 0 1 = nI L.length ∧ (∀ k a, L[k]? = some a → σ 18 0 k = nI a) ∧ σ 17 0 2 = nI p
theorem l_X.cg {σ σ' : ed_SM} {L : List Nat} {p p' : Nat} (h : l_X σ L p) (h1 : σ' 17 0 1 = σ 17 0 1) (h2 : σ' 18 = σ 18) (h3 : σ' 17 0 2 = nI p') (h4 : p' ≤ L.length) : l_X σ' L p' := by
  obtain ⟨a1, a2, a3, a4, a5⟩ := h
  exact ⟨a1, h4, by rw [h1]; exact a3, fun k a hk => by rw [h2]; exact a4 k a hk, h3⟩
theorem l_lt {L : List Nat} {p a : Nat} (ha : L[p]? = some a) : p < L.length := (List.getElem?_eq_some_iff.mp ha).1
theorem l_sign1 {σ : ed_SM} {L : List Nat} {p a : Nat} (h : l_X σ L p) (ha : L[p]? = some a) : f_X7_sign σ = some (nI a) := by
  obtain ⟨a1, a2, a3, a4, a5⟩ := h
  have hl := l_lt ha
  unfold f_X7_sign
  rw [a3, a5]
  refine (pr_at_in (n := 40) (by omega) a1 hl).trans ?_
  rw [nI_clamp (by omega), a4 p a ha]
theorem l_sign0 {σ : ed_SM} {L : List Nat} (h : l_X σ L L.length) : f_X7_sign σ = some (-1) := by
  obtain ⟨a1, a2, a3, a4, a5⟩ := h
  unfold f_X7_sign
  rw [a3, a5]
  exact pr_at_out (n := 40) (by omega) a1 (Or.inr (by rw [pr_le (by omega) (by omega)]; omega))
theorem l_bet {a b c : Nat} (ha : a < 2 ^ 31) (hb : b < 2 ^ 31) (hc : c < 2 ^ 31) : f_X8_isBetween (nI a) (nI b) (nI c) = if b ≤ a ∧ a ≤ c then 1 else 0 := by
  rw [pr_8in]
  by_cases h1 : a < b
  · rw [if_pos (show nI a < nI b by rw [pr_lt ha hb]; exact h1), if_neg (by omega)]
  · rw [if_neg (show ¬ nI a < nI b by rw [pr_lt ha hb]; exact h1)]
    by_cases h2 : c < a
    · rw [if_pos (show nI c < nI a by rw [pr_lt hc ha]; exact h2), if_neg (by omega)]
    · rw [if_neg (show ¬ nI c < nI a by rw [pr_lt hc ha]; exact h2), if_pos (by omega)]
theorem l_dig {σ : ed_SM} {L : List Nat} {p q : Nat} (h : l_X σ L p) (ha : L[p]? = some (48 + q)) (hq : q ≤ 9) : f_X7_digit σ = some (nI q) := by
  unfold f_X7_digit
  have hb : ¬ f_X8_isBetween (nI (48 + q)) 48 57 = 0 := by
    have := l_bet (a := 48 + q) (b := 48) (c := 57) (by omega) (by omega) (by omega)
    rw [if_pos (by omega)] at this
    intro w
    have e : f_X8_isBetween (nI (48 + q)) (nI 48) (nI 57) = 0 := w
    rw [this] at e
    exact absurd e (by decide)
  have hs : nI (48 + q) - 48 = nI q := by
    have := pk_sub (a := 48 + q) (b := 48) (by omega)
    rw [show 48 + q - 48 = q by omega] at this
    exact this
  rw [l_sign1 h ha, pr_b, if_neg hb, pr_b, hs]
theorem l_ndig {σ : ed_SM} {L : List Nat} {p a : Nat} (h : l_X σ L p) (ha : L[p]? = some a) (hq : a < 48) : f_X7_digit σ = some (-1) := by
  unfold f_X7_digit
  have hb : f_X8_isBetween (nI a) 48 57 = 0 := by
    have := l_bet (a := a) (b := 48) (c := 57) (by omega) (by omega) (by omega)
    rw [if_neg (by omega)] at this
    exact this
  rw [l_sign1 h ha, pr_b, if_pos hb]
theorem l_nx {σ : ed_SM} {L : List Nat} {p : Nat} (h : l_X σ L p) (hp : p < L.length) : l_X (ed_up σ 17 0 2 (nI (p + 1))) L (p + 1) :=
  h.cg (pr_up_k _ _ (by decide)) (by funext i; rw [pr_up_K _ _ (by decide)]) (pr_up_same _ _ _ _ _) hp
theorem l_rs1 {σ : ed_SM} {L : List Nat} {p a : Nat} (h : l_X σ L p) (ha : L[p]? = some a) : f_X7_readSign (nI a) σ = some (1, ed_up σ 17 0 2 (nI (p + 1))) := by
  unfold f_X7_readSign
  rw [l_sign1 h ha, pr_b, if_pos rfl, pr_t, h.2.2.2.2, nI_1]
theorem l_rs0 {σ : ed_SM} {L : List Nat} {p a b : Nat} (h : l_X σ L p) (ha : L[p]? = some a) (hab : ¬ a = b) (h1 : a < 2 ^ 31) (h2 : b < 2 ^ 31) : f_X7_readSign (nI b) σ = some (0, σ) := by
  unfold f_X7_readSign
  rw [l_sign1 h ha, pr_b, if_neg (by rw [pr_eq h1 h2]; exact hab)]
theorem l_topic {σ : ed_SM} {L : List Nat} {p q : Nat} (h : l_X σ L p) (ha : L[p]? = some (48 + q)) (hq : q ≤ 7) : ∃ σ', f_X7_readTopic σ = some (1, σ') ∧ l_X σ' L (p + 1) ∧ σ' 17 0 3 = nI q := by
  have hl := l_lt ha
  unfold f_X7_readTopic
  have hb : ¬ f_X8_isBetween (nI q) 0 7 = 0 := by
    have := l_bet (a := q) (b := 0) (c := 7) (by omega) (by omega) (by omega)
    rw [if_pos (by omega)] at this
    intro w
    have e : f_X8_isBetween (nI q) (nI 0) (nI 7) = 0 := w
    rw [this] at e
    exact absurd e (by decide)
  rw [l_dig h ha (by omega), pr_b, pr_t, pr_up_same, if_neg hb, pr_t, pr_up_k _ _ (show 2 ≠ 3 by decide), h.2.2.2.2, nI_1]
  refine ⟨_, rfl, h.cg ?_ ?_ ?_ hl, ?_⟩
  · simp [pr_up]
  · funext i; rw [pr_up_K _ _ (by decide), pr_up_K _ _ (by decide)]
  · simp [pr_up]
  · simp [pr_up]
theorem l_isIn {σ : ed_SM} {m : Nat} {x : Int32} (h4 : σ 17 0 4 = nI m) (hm : m ≤ 2) (hno : ∀ k, k < m → ¬ σ 19 0 k = x) : ∀ (d k n : Nat), k + d = m → d < n → f_X7_isInByline_2 σ n x (nI k) = some 0 := by
  intro d
  induction d with
  | zero =>
    intro k n hk hn
    obtain ⟨n, rfl⟩ : ∃ q, n = q + 1 := ⟨n - 1, by omega⟩
    rw [f_X7_isInByline_2, h4, if_pos (by rw [pr_le (by omega) (by omega)]; omega)]
  | succ d ih =>
    intro k n hk hn
    obtain ⟨n, rfl⟩ : ∃ q, n = q + 1 := ⟨n - 1, by omega⟩
    rw [f_X7_isInByline_2, h4, if_neg (by rw [pr_le (by omega) (by omega)]; omega), if_neg (show ¬ (3 : Int32) ≤ nI k by show ¬ nI 3 ≤ nI k; rw [pr_le (by omega) (by omega)]; omega), pr_gin (by omega) (by omega), nI_clamp (by omega), if_neg (hno k (by omega)), nI_1]
    exact ih (k + 1) n (by omega) (by omega)
theorem l_person {σ : ed_SM} {L : List Nat} {p q m : Nat} (h : l_X σ L p) (ha : L[p]? = some (48 + q)) (hq : q ≤ 9) (h4 : σ 17 0 4 = nI m) (hm : m ≤ 2) (hno : ∀ k, k < m → ¬ σ 19 0 k = nI q) : ∃ σ', f_X7_readPerson σ = some (1, σ') ∧ l_X σ' L (p + 1) ∧ σ' 17 0 4 = nI (m + 1) ∧ σ' 19 0 m = nI q ∧ (∀ k, k < m → σ' 19 0 k = σ 19 0 k) ∧ σ' 17 0 3 = σ 17 0 3 := by
  have hl := l_lt ha
  unfold f_X7_readPerson f_X7_isInByline
  have e1 : f_X7_isInByline_2 σ ed_N (nI q) 0 = some 0 := l_isIn h4 hm hno m 0 ed_N (by omega) (by unfold ed_N; omega)
  have ip : ¬ f_X8_isPlace (nI m) 3 = 0 := by
    rw [pr_isPlace, if_neg (nI_pos (by omega)), if_neg (show ¬ (3 : Int32) ≤ nI m by show ¬ nI 3 ≤ nI m; rw [pr_le (by omega) (by omega)]; omega)]
    decide
  rw [l_dig h ha hq, pr_b, if_neg (pr_neg1 q (by omega)), e1, pr_b, if_pos rfl, h4, if_neg ip, pr_gin (by omega) (by omega), pr_t, pr_t, pr_t, nI_clamp (by omega)]
  refine ⟨_, rfl, h.cg ?_ ?_ ?_ hl, ?_, ?_, fun k hk => ?_, ?_⟩
  · simp [pr_up]
  · funext i; rw [pr_up_K _ _ (by decide), pr_up_K _ _ (by decide), pr_up_K _ _ (by decide)]
  · simp [pr_up, h.2.2.2.2, nI_1]
  · simp [pr_up, h4, nI_1]
  · simp [pr_up]
  · have : k ≠ m := by omega
    simp [pr_up, this]
  · simp [pr_up]
theorem l_byl1 {σ : ed_SM} {L : List Nat} {p f : Nat} (h : l_X σ L p) (ha : L[p]? = some (48 + f)) (hf : f ≤ 9) (hb : L[p + 1]? = some 32) : ∃ σ', f_X7_readByline σ = some (1, σ') ∧ l_X σ' L (p + 1) ∧ σ' 17 0 4 = nI 1 ∧ σ' 19 0 0 = nI f ∧ σ' 17 0 3 = σ 17 0 3 := by
  have hl := l_lt ha
  obtain ⟨σ1, e1⟩ : ∃ σ1, σ1 = ed_up σ 17 0 4 0 := ⟨_, rfl⟩
  have h1 : l_X σ1 L p := h.cg (by rw [e1, pr_up_k _ _ (by decide)]) (by rw [e1]; funext i; rw [pr_up_K _ _ (by decide)]) (by rw [e1, pr_up_k _ _ (by decide)]; exact h.2.2.2.2) h.2.1
  obtain ⟨σ2, p1, p2, p3, p4, p5, p6⟩ := l_person (m := 0) h1 ha hf (by rw [e1, pr_up_same]; rfl) (by omega) (fun k hk => absurd hk (Nat.not_lt_zero k))
  have l0 : f_X7_readByline_7 (9998 + 1 + 1) (nI 0) σ1 = some (1, σ2) := by
    rw [f_X7_readByline_7, if_neg (by decide), if_pos (by decide), p1, pr_b2, if_neg (by decide), nI_1, f_X7_readByline_7, if_neg (by decide), if_neg (by decide)]
    have := l_rs0 (b := 44) p2 hb (by omega) (by omega) (by omega)
    have this : f_X7_readSign 44 σ2 = some (0, σ2) := this
    rw [this, pr_b2, if_pos rfl]
  refine ⟨σ2, ?_, p2, p3, p4, ?_⟩
  · unfold f_X7_readByline
    rw [← e1, pr_t]
    exact l0
  · rw [p6, e1, pr_up_k _ _ (by decide)]
theorem l_byl2 {σ : ed_SM} {L : List Nat} {p f g : Nat} (h : l_X σ L p) (ha : L[p]? = some (48 + f)) (hf : f ≤ 9) (hb : L[p + 1]? = some 44) (hc : L[p + 2]? = some (48 + g)) (hg : g ≤ 9) (hfg : ¬ f = g) (hd : L[p + 3]? = some 32) : ∃ σ', f_X7_readByline σ = some (1, σ') ∧ l_X σ' L (p + 3) ∧ σ' 17 0 4 = nI 2 ∧ σ' 19 0 0 = nI f ∧ σ' 19 0 1 = nI g ∧ σ' 17 0 3 = σ 17 0 3 := by
  have hl := l_lt ha
  have hlb := l_lt hb
  obtain ⟨σ1, e1⟩ : ∃ σ1, σ1 = ed_up σ 17 0 4 0 := ⟨_, rfl⟩
  have h1 : l_X σ1 L p := h.cg (by rw [e1, pr_up_k _ _ (by decide)]) (by rw [e1]; funext i; rw [pr_up_K _ _ (by decide)]) (by rw [e1, pr_up_k _ _ (by decide)]; exact h.2.2.2.2) h.2.1
  obtain ⟨σ2, p1, p2, p3, p4, p5, p6⟩ := l_person (m := 0) h1 ha hf (by rw [e1, pr_up_same]; rfl) (by omega) (fun k hk => absurd hk (Nat.not_lt_zero k))
  have r1 := l_rs1 p2 hb
  have r1 : f_X7_readSign 44 σ2 = some (1, ed_up σ2 17 0 2 (nI (p + 1 + 1))) := r1
  have h3 := l_nx p2 hlb
  obtain ⟨σ4, q1, q2, q3, q4, q5, q6⟩ := l_person (m := 1) h3 hc hg (by rw [pr_up_k _ _ (by decide)]; exact p3) (by omega) (fun k hk => by
    obtain rfl : k = 0 := by omega
    rw [pr_up_K _ _ (by decide), p4, pr_eq (by omega) (by omega)]
    exact hfg)
  have r2 := l_rs0 (b := 44) q2 hd (by omega) (by omega) (by omega)
  have r2 : f_X7_readSign 44 σ4 = some (0, σ4) := r2
  have l0 : f_X7_readByline_7 (9997 + 1 + 1 + 1) (nI 0) σ1 = some (1, σ4) := by
    rw [f_X7_readByline_7, if_neg (by decide), if_pos (by decide), p1, pr_b2, if_neg (by decide), nI_1, f_X7_readByline_7, if_neg (by decide), if_neg (by decide), r1, pr_b2, if_neg (by decide), q1, pr_b2, if_neg (by decide), nI_1, f_X7_readByline_7, if_neg (by decide), if_neg (by decide), r2, pr_b2, if_pos rfl]
  refine ⟨σ4, ?_, q2, q3, ?_, q4, ?_⟩
  · unfold f_X7_readByline
    rw [← e1, pr_t]
    exact l0
  · rw [q5 0 (by omega), pr_up_K _ _ (by decide)]; exact p4
  · rw [q6, pr_up_k _ _ (by decide), p6, e1, pr_up_k _ _ (by decide)]
theorem l_emb1 {σ : ed_SM} {L : List Nat} {p e : Nat} (h : l_X σ L p) (ha : L[p]? = some (48 + e)) (he : e ≤ 9) (hb : L[p + 1]? = some 32) : ∃ σ', f_X7_readEmbargo σ = some (1, σ') ∧ l_X σ' L (p + 1) ∧ σ' 17 0 6 = nI e ∧ σ' 17 0 3 = σ 17 0 3 ∧ σ' 17 0 4 = σ 17 0 4 ∧ σ' 19 = σ 19 := by
  have hl := l_lt ha
  obtain ⟨σ4, e4⟩ : ∃ σ4, σ4 = ed_up (ed_up σ 17 0 6 (nI e)) 17 0 2 (nI (p + 1)) := ⟨_, rfl⟩
  have h4 : l_X σ4 L (p + 1) := h.cg (by rw [e4]; simp [pr_up]) (by rw [e4]; funext i; rw [pr_up_K _ _ (by decide), pr_up_K _ _ (by decide)]) (by rw [e4]; simp [pr_up]) hl
  have v6 : σ4 17 0 6 = nI e := by rw [e4]; simp [pr_up]
  have l0 : f_X7_readEmbargo_30 (9999 + 1) (nI 1) σ4 = some (1, σ4) := by
    rw [f_X7_readEmbargo_30, if_neg (by decide)]
    by_cases h0 : σ4 17 0 6 = 0
    · rw [if_pos h0]
    · rw [if_neg h0, l_ndig h4 hb (by omega), pr_b, if_pos rfl]
  refine ⟨σ4, ?_, h4, v6, by rw [e4]; simp [pr_up], by rw [e4]; simp [pr_up], by rw [e4]; funext i; rw [pr_up_K _ _ (by decide), pr_up_K _ _ (by decide)]⟩
  unfold f_X7_readEmbargo
  rw [l_dig h ha he, pr_b, pr_t, pr_up_same, if_neg (pr_neg1 e (by omega)), pr_up_k _ _ (show 2 ≠ 6 by decide), h.2.2.2.2, nI_1, pr_t, ← e4]
  exact l0
theorem l_emb2 {σ : ed_SM} {L : List Nat} {p d e : Nat} (h : l_X σ L p) (ha : L[p]? = some (48 + d)) (hd : 1 ≤ d ∧ d ≤ 9) (hb : L[p + 1]? = some (48 + e)) (he : e ≤ 9) (hc : L[p + 2]? = some 32) : ∃ σ', f_X7_readEmbargo σ = some (1, σ') ∧ l_X σ' L (p + 2) ∧ σ' 17 0 6 = nI (d * 10 + e) ∧ σ' 17 0 3 = σ 17 0 3 ∧ σ' 17 0 4 = σ 17 0 4 ∧ σ' 19 = σ 19 := by
  have hl := l_lt ha
  have hlb := l_lt hb
  obtain ⟨σ4, e4⟩ : ∃ σ4, σ4 = ed_up (ed_up σ 17 0 6 (nI d)) 17 0 2 (nI (p + 1)) := ⟨_, rfl⟩
  have h4 : l_X σ4 L (p + 1) := h.cg (by rw [e4]; simp [pr_up]) (by rw [e4]; funext i; rw [pr_up_K _ _ (by decide), pr_up_K _ _ (by decide)]) (by rw [e4]; simp [pr_up]) hl
  have v6 : σ4 17 0 6 = nI d := by rw [e4]; simp [pr_up]
  obtain ⟨σ5, e5⟩ : ∃ σ5, σ5 = ed_up (ed_up σ4 17 0 6 (nI (d * 10 + e))) 17 0 2 (nI (p + 1 + 1)) := ⟨_, rfl⟩
  have h5 : l_X σ5 L (p + 2) := h4.cg (by rw [e5]; simp [pr_up]) (by rw [e5]; funext i; rw [pr_up_K _ _ (by decide), pr_up_K _ _ (by decide)]) (by rw [e5]; simp [pr_up]) hlb
  have v5 : σ5 17 0 6 = nI (d * 10 + e) := by rw [e5]; simp [pr_up]
  have l0 : f_X7_readEmbargo_30 (9998 + 1 + 1) (nI 1) σ4 = some (1, σ5) := by
    rw [f_X7_readEmbargo_30, if_neg (by decide), v6, if_neg (nI_ne0 (by omega) (by omega)), l_dig h4 hb he, pr_b, if_neg (pr_neg1 e (by omega)), pr_b, show (10 : Int32) = nI 10 from rfl, pk_mul, nI_add, pr_t, pr_up_k _ _ (show 2 ≠ 6 by decide), h4.2.2.2.2, nI_1, pr_t, ← e5, nI_1, f_X7_readEmbargo_30, if_neg (by decide), v5, if_neg (nI_ne0 (by omega) (by omega)), l_ndig h5 hc (by omega), pr_b, if_pos rfl]
  refine ⟨σ5, ?_, h5, v5, by rw [e5, e4]; simp [pr_up], by rw [e5, e4]; simp [pr_up], by rw [e5, e4]; funext i; rw [pr_up_K _ _ (by decide), pr_up_K _ _ (by decide), pr_up_K _ _ (by decide), pr_up_K _ _ (by decide)]⟩
  unfold f_X7_readEmbargo
  rw [l_dig h ha hd.2, pr_b, pr_t, pr_up_same, if_neg (pr_neg1 d (by omega)), pr_up_k _ _ (show 2 ≠ 6 by decide), h.2.2.2.2, nI_1, pr_t, ← e4]
  exact l0
theorem l_slug {σ : ed_SM} {L : List Nat} {p : Nat} (h : l_X σ L p) (ha : L[p]? = some 110) (hL : L.length = p + 1) : ∃ σ', f_X7_readSlug σ = some (1, σ') ∧ σ' 17 0 3 = σ 17 0 3 ∧ σ' 17 0 4 = σ 17 0 4 ∧ σ' 17 0 6 = σ 17 0 6 ∧ σ' 19 = σ 19 := by
  obtain ⟨σ1, e1⟩ : ∃ σ1, σ1 = ed_up σ 17 0 7 0 := ⟨_, rfl⟩
  have h1 : l_X σ1 L p := h.cg (by rw [e1, pr_up_k _ _ (by decide)]) (by rw [e1]; funext i; rw [pr_up_K _ _ (by decide)]) (by rw [e1, pr_up_k _ _ (by decide)]; exact h.2.2.2.2) h.2.1
  have v7 : σ1 17 0 7 = 0 := by rw [e1, pr_up_same]
  obtain ⟨σ2, e2⟩ : ∃ σ2, σ2 = ed_up (ed_up (ed_up σ1 20 0 0 (nI 110)) 17 0 7 1) 17 0 2 (nI (p + 1)) := ⟨_, rfl⟩
  have h2 : l_X σ2 L L.length := h1.cg (by rw [e2]; simp [pr_up]) (by rw [e2]; funext i; rw [pr_up_K _ _ (by decide), pr_up_K _ _ (by decide), pr_up_K _ _ (by decide)]) (by rw [e2, hL]; simp [pr_up]) (Nat.le_refl _)
  have w7 : σ2 17 0 7 = 1 := by rw [e2]; simp [pr_up]
  have l0 : f_X7_readSlug_7 (9998 + 1 + 1) (nI 0) σ1 = some (1, σ2) := by
    rw [f_X7_readSlug_7, if_neg (by decide), l_sign1 h1 ha, pr_b, if_neg (by decide), pr_b, pr_gin (by omega) (by omega), pr_t, pr_t, pr_t, nI_clamp (n := 0) (by omega)]
    have e3 : ed_up (ed_up (ed_up σ1 20 0 0 (nI 110)) 17 0 7 (ed_up σ1 20 0 0 (nI 110) 17 0 7 + 1)) 17 0 2 (ed_up (ed_up σ1 20 0 0 (nI 110)) 17 0 7 (ed_up σ1 20 0 0 (nI 110) 17 0 7 + 1) 17 0 2 + 1) = σ2 := by
      rw [e2, pr_up_K _ _ (show 17 ≠ 20 by decide), v7, pr_up_k _ _ (show 2 ≠ 7 by decide), pr_up_K _ _ (show 17 ≠ 20 by decide), h1.2.2.2.2, nI_1]
      rfl
    rw [e3, nI_1, f_X7_readSlug_7, if_neg (by decide), l_sign0 h2, pr_b, if_pos (by decide), w7, if_neg (by decide), h2.2.2.2.2, h2.2.2.1, if_pos rfl]
  refine ⟨σ2, ?_, by rw [e2, e1]; simp [pr_up], by rw [e2, e1]; simp [pr_up], by rw [e2, e1]; simp [pr_up], by rw [e2, e1]; funext i; rw [pr_up_K _ _ (by decide), pr_up_K _ _ (by decide), pr_up_K _ _ (by decide), pr_up_K _ _ (by decide)]⟩
  unfold f_X7_readSlug
  rw [← e1, pr_t]
  exact l0
