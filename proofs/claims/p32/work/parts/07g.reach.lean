/-! corrections and kill notices of a copy -/
def r_fr (v v' : Nat → Int32) (nK : Nat) : Prop := (∀ q, q < nK → v' (687 + 6 * q) = v (687 + 6 * q) ∧ v' (687 + 6 * q + 1) = v (687 + 6 * q + 1)) ∧ (∀ a, 107 ≤ a → a < 687 → v' a = v a) ∧ ∀ a k, a < 8 → k < 6 → v' (7 + 10 * a + k) = v (7 + 10 * a + k)
def r_T (v v' : Nat → Int32) : Prop := ∀ a, a < 8 → v' (7 + 10 * a + 8) = v (7 + 10 * a + 8)
theorem r_fr.rf (v : Nat → Int32) (nK : Nat) : r_fr v v nK := ⟨fun _ _ => ⟨rfl, rfl⟩, fun _ _ _ => rfl, fun _ _ _ _ => rfl⟩
theorem r_fr.tr {v v1 v2 : Nat → Int32} {nK : Nat} (h1 : r_fr v v1 nK) (h2 : r_fr v1 v2 nK) : r_fr v v2 nK := ⟨fun q hq => ⟨(h2.1 q hq).1.trans (h1.1 q hq).1, (h2.1 q hq).2.trans (h1.1 q hq).2⟩, fun a q1 q2 => (h2.2.1 a q1 q2).trans (h1.2.1 a q1 q2), fun a k q1 q2 => (h2.2.2 a k q1 q2).trans (h1.2.2 a k q1 q2)⟩
theorem r_T.tr {v v1 v2 : Nat → Int32} (h1 : r_T v v1) (h2 : r_T v1 v2) : r_T v v2 := fun a ha => (h2 a ha).trans (h1 a ha)
theorem r_fr.upK (v : Nat → Int32) (nK p k : Nat) (x : Int32) (h2 : 2 ≤ k) (h6 : k < 6) : r_fr v (upd v (687 + 6 * p + k) x) nK := ⟨fun q _ => ⟨by rw [pr_upd, if_neg (by omega)], by rw [pr_upd, if_neg (by omega)]⟩, fun a _ _ => by rw [pr_upd, if_neg (by omega)], fun a k _ _ => by rw [pr_upd, if_neg (by omega)]⟩
theorem r_T.upK (v : Nat → Int32) (p k : Nat) (x : Int32) : r_T v (upd v (687 + 6 * p + k) x) := fun a _ => by rw [pr_upd, if_neg (by omega)]
theorem r_fr.lg {v v' : Nat → Int32} {nK : Nat} (hn : nK ≤ 160) (h : ∀ a, a ≠ 6 → a < 1647 → v' a = v a) : r_fr v v' nK := ⟨fun q _ => ⟨h _ (by omega) (by omega), h _ (by omega) (by omega)⟩, fun a _ _ => h a (by omega) (by omega), fun a k _ _ => h _ (by omega) (by omega)⟩
theorem r_T.lg {v v' : Nat → Int32} (h : ∀ a, a ≠ 6 → a < 1647 → v' a = v a) : r_T v v' := fun a _ => h _ (by omega) (by omega)
theorem r_fr.up5 (v : Nat → Int32) (nK : Nat) (x : Int32) : r_fr v (upd v 5 x) nK := ⟨fun q _ => ⟨by rw [pr_upd, if_neg (by omega)], by rw [pr_upd, if_neg (by omega)]⟩, fun a _ _ => by rw [pr_upd, if_neg (by omega)], fun a k _ _ => by rw [pr_upd, if_neg (by omega)]⟩
theorem r_T.up5 (v : Nat → Int32) (x : Int32) : r_T v (upd v 5 x) := fun a _ => by rw [pr_upd, if_neg (by omega)]
/-- which corrections are due -/
def r_d1 (v : Nat → Int32) (s c h u : Nat) : Prop := (v (107 + 29 * s + (10 + u)) + v (7 + 10 * c + 2)).toInt ≤ h
def r_du (v : Nat → Int32) (s c h : Nat) : Nat → Nat → Nat
  | 0, _ => 0
  | d + 1, u => (if (v (107 + 29 * s + (10 + u)) + v (7 + 10 * c + 2)).toInt ≤ h then 1 else 0) + r_du v s c h d (u + 1)
theorem r_du_le (v : Nat → Int32) (s c h : Nat) : ∀ d u, r_du v s c h d u ≤ d
  | 0, _ => Nat.le_refl 0
  | d + 1, u => by
    have := r_du_le v s c h d (u + 1)
    show _ + _ ≤ _
    split <;> omega
theorem r_du_cg {v v' : Nat → Int32} {s c : Nat} (h : Nat) (hs : ∀ a, 107 ≤ a → a < 687 → v' a = v a) (hc : v' (7 + 10 * c + 2) = v (7 + 10 * c + 2)) (hs2 : s < 20) : ∀ d u, u + d ≤ 6 → r_du v' s c h d u = r_du v s c h d u
  | 0, _, _ => rfl
  | d + 1, u, hu => by
    show (if _ then 1 else 0) + _ = (if _ then 1 else 0) + _
    rw [r_du_cg h hs hc hs2 d (u + 1) (by omega), hs _ (by omega) (by omega), hc]
theorem r_du_0 {v : Nat → Int32} {s c h w : Nat} (hsrt : ∀ k k', k ≤ k' → k' < w → (v (107 + 29 * s + (10 + k))).toInt ≤ (v (107 + 29 * s + (10 + k'))).toInt) (hb : ∀ k, k < w → 0 ≤ (v (107 + 29 * s + (10 + k))).toInt ∧ (v (107 + 29 * s + (10 + k))).toInt ≤ h) (hh : h < 20000) (hl : 0 ≤ (v (7 + 10 * c + 2)).toInt ∧ (v (7 + 10 * c + 2)).toInt ≤ 24) : ∀ d u, u + d = w → (d ≠ 0 → ¬ r_d1 v s c h u) → r_du v s c h d u = 0
  | 0, _, _, _ => rfl
  | d + 1, u, hu, hn => by
    have h1 := hn (by omega)
    unfold r_d1 at h1
    show (if _ then 1 else 0) + _ = 0
    rw [if_neg h1, r_du_0 hsrt hb hh hl d (u + 1) (by omega) (fun hd => ?_)]
    have b1 := hb u (by omega)
    have b2 := hb (u + 1) (by omega)
    have b3 := hsrt u (u + 1) (by omega) (by omega)
    unfold r_d1
    rw [pr_add (by omega) (by omega)] at h1 ⊢
    omega
theorem pr_correctedAt {σ : ed_SM} {s w u : Nat} (h : σ 7 s 7 = nI w) (hw : w ≤ 6) (hu : u < w) : f_X6_correctedAt s (nI u) σ = some (σ 10 s u) := by
  unfold f_X6_correctedAt
  rw [h]
  refine (pr_at_in (n := 6) (by omega) hw hu).trans ?_
  rw [nI_clamp (by omega)]
theorem pr_correctedNo {σ : ed_SM} {s w : Nat} {x : Int32} (h : σ 7 s 7 = nI w) (hw : w ≤ 6) (hx : x < 0 ∨ nI w ≤ x) : f_X6_correctedAt s x σ = some (-5) := by
  unfold f_X6_correctedAt
  rw [h]
  exact pr_at_out (n := 6) (by omega) hw hx
theorem pr_hLt {h : Nat} (hh : h < 2 ^ 31) (x : Int32) : (nI h < x) = ¬ x.toInt ≤ h := by
  rw [pr_iLt, nI_toInt hh]
  exact propext Int.not_le.symm
/-- the class counts them -/
theorem r_due8 {σ : ed_SM} {v : Nat → Int32} {h nC nS nK e s c w : Nat} (hR : r_R σ v h nC nS nK e) (hs : s < nS) (hc : c < nC) (hw : v (107 + 29 * s + 7) = nI w) (hw6 : w ≤ 6) (p : Nat) : ∀ (d u n x : Nat), u + d = w → d < n → f_X5_correctionsDue_45 p σ n s c (nI x) (nI u) = some (nI (x + r_du v s c h d u)) := by
  obtain ⟨⟨q1, q2, q3, q4, q5, q6, q7, q8, q9, q10, b1, b2, b3, b4⟩, qC, qP, qS, qK, qL, qN⟩ := id hR
  obtain ⟨⟨-, -, -, -, -, a6, -⟩, -, -, ⟨w', d1, d2, d3, d4⟩, -⟩ := qS s hs
  have hww : w' = w := (nI_eq (by omega) (by omega)).mp (d2.symm.trans hw)
  subst hww
  have e7 : σ 7 s 7 = nI w' := a6.trans d2
  have eC := qC.1 c 2 hc (by omega)
  intro d
  induction d with
  | zero =>
    intro u n x hu hn
    obtain ⟨n, rfl⟩ : ∃ q, n = q + 1 := ⟨n - 1, by omega⟩
    have cc : σ 7 s 7 ≤ nI u := by
      rw [e7, show w' = u by omega]
      exact Int32.le_refl _
    rw [f_X5_correctionsDue_45, if_pos cc]
    rfl
  | succ d ih =>
    intro u n x hu hn
    obtain ⟨n, rfl⟩ : ∃ q, n = q + 1 := ⟨n - 1, by omega⟩
    have cc : ¬ σ 7 s 7 ≤ nI u := by rw [e7, pr_le (by omega) (by omega)]; omega
    have f3 := (d3 u (by omega)).1
    rw [f_X5_correctionsDue_45, if_neg cc, pr_correctedAt e7 d1 (by omega), pr_b, f3, eC, q1]
    have hd : r_du v s c h (d + 1) u = (if (v (107 + 29 * s + (10 + u)) + v (7 + 10 * c + 2)).toInt ≤ h then 1 else 0) + r_du v s c h d (u + 1) := rfl
    rw [hd]
    by_cases hz : (v (107 + 29 * s + (10 + u)) + v (7 + 10 * c + 2)).toInt ≤ h
    · have hlt : ¬ nI h < v (107 + 29 * s + (10 + u)) + v (7 + 10 * c + 2) := by rw [pr_hLt (by omega)]; exact fun z => z hz
      rw [if_neg hlt, if_pos hz, nI_1, nI_1, ih (u + 1) n (x + 1) (by omega) (by omega), Nat.add_assoc]
    · have hlt : nI h < v (107 + 29 * s + (10 + u)) + v (7 + 10 * c + 2) := by rw [pr_hLt (by omega)]; exact hz
      rw [if_pos hlt, if_neg hz, nI_1, ih (u + 1) n x (by omega) (by omega), Nat.zero_add]
/-- a correction reaches a copy, and the next one, on both sides -/
theorem r_reach (ν : em_MM) {h nC nS nK p s c w : Nat} (came : Int32) (hp : p < nK) (hs : s < nS) (hc : c < nC) (hw6 : w ≤ 6) : ∀ (d u : Nat), u + d = w → ∀ (n n' i : Nat) (σ : ed_SM) (v : Nat → Int32), d < n → d < n' → i + d < 100 → r_R σ v h nC nS nK 160 → v (687 + 6 * p) = nI s → v (687 + 6 * p + 1) = nI c → v (687 + 6 * p + 5) = nI u → v (107 + 29 * s + 7) = nI w →
    ∃ σ' v', f_X5_reach_55 p s n (nI (i + r_du v s c h d u)) (nI i) σ = some σ' ∧ f_X9_goOn_304 n' (nI p) (nI s) (nI c) came (em_sR ν 1 v) = some (came, em_sR ν 1 v') ∧ r_R σ' v' h nC nS nK 160 ∧ r_fr v v' nK ∧ r_T v v' := by
  intro d
  induction d with
  | zero =>
    intro u hu n n' i σ v hn hn' hi hR k0 k1 k5 kw
    obtain ⟨n, rfl⟩ : ∃ q, n = q + 1 := ⟨n - 1, by omega⟩
    obtain ⟨n', rfl⟩ : ∃ q, n' = q + 1 := ⟨n' - 1, by omega⟩
    obtain ⟨⟨q1, q2, q3, q4, q5, q6, q7, q8, q9, q10, b1, b2, b3, b4⟩, -⟩ := id hR
    refine ⟨σ, v, ?_, ?_, hR, r_fr.rf v nK, fun _ _ => rfl⟩
    · rw [f_X5_reach_55, if_pos (by show nI (i + 0) ≤ nI i; exact Int32.le_refl _)]
    · rw [f_X9_goOn_304]
      have o5 : f_X9_ofCopy (nI p) 5 (em_sR ν 1 v) = some (nI u) := by rw [show (5 : Int32) = nI 5 from rfl, pr_ofCopy _ (by omega), pr_sR1, k5]
      have o7 : f_X9_ofStory (nI s) 7 (em_sR ν 1 v) = some (nI w) := by rw [show (7 : Int32) = nI 7 from rfl, pr_ofStory _ (by omega), pr_sR1, kw]
      have cc : nI w ≤ nI u := by rw [show w = u by omega]; exact Int32.le_refl _
      rw [o5, o7, pr_b, pr_b, if_pos cc]
  | succ d ih =>
    intro u hu n n' i σ v hn hn' hi hR k0 k1 k5 kw
    obtain ⟨n, rfl⟩ : ∃ q, n = q + 1 := ⟨n - 1, by omega⟩
    obtain ⟨n', rfl⟩ : ∃ q, n' = q + 1 := ⟨n' - 1, by omega⟩
    obtain ⟨⟨q1, q2, q3, q4, q5, q6, q7, q8, q9, q10, b1, b2, b3, b4⟩, qC, qP, qS, qK, qL, qN⟩ := id hR
    obtain ⟨-, -, -, ⟨w', d1, d2, d3, d4⟩, -⟩ := qS s hs
    have hww : w' = w := (nI_eq (by omega) (by omega)).mp (d2.symm.trans kw)
    subst hww
    obtain ⟨-, -, -, l1, l2⟩ := qC.2.1 c hc
    have o5 : f_X9_ofCopy (nI p) 5 (em_sR ν 1 v) = some (nI u) := by rw [show (5 : Int32) = nI 5 from rfl, pr_ofCopy _ (by omega), pr_sR1, k5]
    have o7 : f_X9_ofStory (nI s) 7 (em_sR ν 1 v) = some (nI w') := by rw [show (7 : Int32) = nI 7 from rfl, pr_ofStory _ (by omega), pr_sR1, kw]
    have cc : ¬ nI w' ≤ nI u := by rw [pr_le (by omega) (by omega)]; omega
    have oc : f_X9_correctionDue (nI p) (nI u) (em_sR ν 1 v) = some (v (107 + 29 * s + (10 + u)) + v (7 + 10 * c + 2)) := by
      unfold f_X9_correctionDue
      have g0 : f_X9_ofCopy (nI p) 0 (em_sR ν 1 v) = some (nI s) := by rw [show (0 : Int32) = nI 0 from rfl, pr_ofCopy _ (by omega), pr_sR1, Nat.add_zero, k0]
      have g1 : f_X9_ofCopy (nI p) 1 (em_sR ν 1 v) = some (nI c) := by rw [show (1 : Int32) = nI 1 from rfl, pr_ofCopy _ (by omega), pr_sR1, k1]
      have g2 : f_X9_ofClient (nI c) 2 (em_sR ν 1 v) = some (v (7 + 10 * c + 2)) := by rw [show (2 : Int32) = nI 2 from rfl, pr_ofClient _ (by omega), pr_sR1]
      have e10 : (10 : Int32) + nI u = nI (10 + u) := nI_add 10 u
      rw [g0, pr_b, e10, pr_ofStory _ (by omega), pr_b, g1, pr_b, g2, pr_b, pr_sR1]
    have g0 : ed_in 0 1683 := ⟨by decide, by decide⟩
    have e0 : (0 : Int32).toNatClampNeg = 0 := by decide
    have i5 : f_X9_atCopy (nI p) 5 = nI (687 + 6 * p + 5) := pr_9k p 5
    rw [f_X9_goOn_304, o5, o7]
    simp only [pr_b]
    rw [if_neg cc, pr_g g0, oc, pr_b, pr_sR1, e0, q2]
    by_cases hz : (v (107 + 29 * s + (10 + u)) + v (7 + 10 * c + 2)).toInt ≤ h
    · have hlt : ¬ nI h < v (107 + 29 * s + (10 + u)) + v (7 + 10 * c + 2) := by rw [pr_hLt (by omega)]; exact fun z => z hz
      have g5 : ed_in 5 1683 := ⟨by decide, by decide⟩
      have e5 : (5 : Int32).toNatClampNeg = 5 := by decide
      have hd : r_du v s c h (d + 1) u = 1 + r_du v s c h d (u + 1) := by
        show (if (v (107 + 29 * s + (10 + u)) + v (7 + 10 * c + 2)).toInt ≤ h then 1 else 0) + _ = _
        rw [if_pos hz]
      rw [if_neg hlt, i5, pr_gin (by omega) (by omega), pr_gin (by omega) (by omega), pr_t, pr_g g5, pr_g g5, pr_t, hd]
      have hdl := r_du_le v s c h d (u + 1)
      have cc2 : ¬ nI (i + (1 + r_du v s c h d (u + 1))) ≤ nI i := by rw [pr_le (by omega) (by omega)]; omega
      rw [f_X5_reach_55, if_neg cc2, pr_t, pr_t, nI_clamp (by omega), e5, pr_sRu, pr_sRu, pr_sR1, k5]
      have s5 : σ 12 p 5 = nI u := (qK.1 p 5 hp (by omega)).trans k5
      have u5 : upd v (687 + 6 * p + 5) (nI u + 1) 5 = v 5 := by rw [pr_upd, if_neg (by omega)]
      have u52 : ed_up σ 12 p 5 (nI u + 1) 0 0 2 = v 5 := by rw [pr_up_K _ _ (by decide), q4]
      rw [s5, u5, u52]
      have hR1 := hR.upK hp (k := 5) (by omega) (by omega) (nI (u + 1)) (fun z => absurd z (by decide)) (Or.inr (Or.inr (Or.inr ⟨rfl, s, u + 1, k0, by omega, rfl, by omega, by rw [kw, nI_toInt (by omega)]; omega⟩)))
      have hR2 := hR1.upG (v 5 + 1)
      rw [nI_1]
      have x0 : ed_up (ed_up σ 12 p 5 (nI (u + 1))) 0 0 2 (v 5 + 1) 12 p 0 = nI s := by rw [pr_up_K _ _ (by decide), pr_up_k _ _ (by decide), ← k0]; exact qK.1 p 0 hp (by omega)
      have x1 : ed_up (ed_up σ 12 p 5 (nI (u + 1))) 0 0 2 (v 5 + 1) 12 p 1 = nI c := by rw [pr_up_K _ _ (by decide), pr_up_k _ _ (by decide), ← k1]; exact qK.1 p 1 hp (by omega)
      have x2 : ed_up (ed_up σ 12 p 5 (nI (u + 1))) 0 0 2 (v 5 + 1) 0 0 0 = (upd (upd v (687 + 6 * p + 5) (nI (u + 1))) 5 (v 5 + 1)) 0 := by rw [pr_up_k _ _ (by decide), pr_up_K _ _ (by decide), pr_upd, if_neg (by omega), pr_upd, if_neg (by omega), q1, q2]
      rw [x0, x1, x2]
      obtain ⟨σ3, v3, m1, m2, m3, m4, m5⟩ := r_log ν _ (upd (upd v (687 + 6 * p + 5) (nI (u + 1))) 5 (v 5 + 1)) 2 _ (nI c) s hR2.2.2.2.2.2.1 (by omega) (Or.inr ⟨c, by omega, rfl⟩) rfl
      rw [m1, m2, pr_b, pr_b, nI_1]
      have hR3 := hR2.lg m3 m4 m5
      have hf : r_fr v v3 nK := ((r_fr.upK v nK p 5 _ (by omega) (by omega)).tr (r_fr.up5 _ nK _)).tr (r_fr.lg b3 m5)
      have hT : r_T v v3 := ((r_T.upK v p 5 _).tr (r_T.up5 _ _)).tr (r_T.lg m5)
      have hk5 : v3 (687 + 6 * p + 5) = nI (u + 1) := by rw [m5 _ (by omega) (by omega), pr_upd, if_neg (by omega), pr_upd, if_pos rfl]
      obtain ⟨σ4, v4, z1, z2, z3, z4, z5⟩ := ih (u + 1) (by omega) n n' (i + 1) σ3 v3 (by omega) (by omega) (by omega) hR3 (by rw [(hf.1 p hp).1]; exact k0) (by rw [(hf.1 p hp).2]; exact k1) hk5 (by rw [hf.2.1 _ (by omega) (by omega)]; exact kw)
      rw [r_du_cg h hf.2.1 (hf.2.2 c 2 (by omega) (by omega)) (by omega) d (u + 1) (by omega), show i + 1 + r_du v s c h d (u + 1) = i + (1 + r_du v s c h d (u + 1)) by omega] at z1
      exact ⟨σ4, v4, z1, z2, z3, hf.tr z4, hT.tr z5⟩
    · have hlt : nI h < v (107 + 29 * s + (10 + u)) + v (7 + 10 * c + 2) := by rw [pr_hLt (by omega)]; exact hz
      have hd : r_du v s c h (d + 1) u = 0 := r_du_0 d4 (fun k hk => (d3 k hk).2) b4 ⟨l1, l2⟩ (d + 1) u hu (fun _ => hz)
      rw [if_pos hlt, hd]
      refine ⟨σ, v, ?_, rfl, hR, r_fr.rf v nK, fun _ _ => rfl⟩
      rw [f_X5_reach_55, if_pos (by show nI (i + 0) ≤ nI i; exact Int32.le_refl _)]
