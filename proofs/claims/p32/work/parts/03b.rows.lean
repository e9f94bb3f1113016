theorem ed_u0_0 (cy : Nat → ClassId) (B j i : Nat) (r : Nat → Int32) (x : Int32) : ed_ent cy B j 0 i (upd r 0 x) = .inr (5, [.int x, .int (r 1), .int (r 2), .int (r 3), .int (r 4), .int (r 5), .ref (B + ed_oF j 1 0), .ref (B + ed_oF j 3 0), .ref (B + ed_oF j 4 0), .ref (B + ed_oF j 5 0), .ref (B + ed_oF j 6 0)]) := rfl
theorem ed_u0_1 (cy : Nat → ClassId) (B j i : Nat) (r : Nat → Int32) (x : Int32) : ed_ent cy B j 0 i (upd r 1 x) = .inr (5, [.int (r 0), .int x, .int (r 2), .int (r 3), .int (r 4), .int (r 5), .ref (B + ed_oF j 1 0), .ref (B + ed_oF j 3 0), .ref (B + ed_oF j 4 0), .ref (B + ed_oF j 5 0), .ref (B + ed_oF j 6 0)]) := rfl
theorem ed_u0_2 (cy : Nat → ClassId) (B j i : Nat) (r : Nat → Int32) (x : Int32) : ed_ent cy B j 0 i (upd r 2 x) = .inr (5, [.int (r 0), .int (r 1), .int x, .int (r 3), .int (r 4), .int (r 5), .ref (B + ed_oF j 1 0), .ref (B + ed_oF j 3 0), .ref (B + ed_oF j 4 0), .ref (B + ed_oF j 5 0), .ref (B + ed_oF j 6 0)]) := rfl
theorem ed_u0_3 (cy : Nat → ClassId) (B j i : Nat) (r : Nat → Int32) (x : Int32) : ed_ent cy B j 0 i (upd r 3 x) = .inr (5, [.int (r 0), .int (r 1), .int (r 2), .int x, .int (r 4), .int (r 5), .ref (B + ed_oF j 1 0), .ref (B + ed_oF j 3 0), .ref (B + ed_oF j 4 0), .ref (B + ed_oF j 5 0), .ref (B + ed_oF j 6 0)]) := rfl
theorem ed_u0_4 (cy : Nat → ClassId) (B j i : Nat) (r : Nat → Int32) (x : Int32) : ed_ent cy B j 0 i (upd r 4 x) = .inr (5, [.int (r 0), .int (r 1), .int (r 2), .int (r 3), .int x, .int (r 5), .ref (B + ed_oF j 1 0), .ref (B + ed_oF j 3 0), .ref (B + ed_oF j 4 0), .ref (B + ed_oF j 5 0), .ref (B + ed_oF j 6 0)]) := rfl
theorem ed_u0_5 (cy : Nat → ClassId) (B j i : Nat) (r : Nat → Int32) (x : Int32) : ed_ent cy B j 0 i (upd r 5 x) = .inr (5, [.int (r 0), .int (r 1), .int (r 2), .int (r 3), .int (r 4), .int x, .ref (B + ed_oF j 1 0), .ref (B + ed_oF j 3 0), .ref (B + ed_oF j 4 0), .ref (B + ed_oF j 5 0), .ref (B + ed_oF j 6 0)]) := rfl
theorem ed_u1_1 (cy : Nat → ClassId) (B j i : Nat) (r : Nat → Int32) (x : Int32) : ed_ent cy B j 1 i (upd r 1 x) = .inr (3, [.ref (B + ed_oF j 2 0), .int x, .int (r 2)]) := rfl
theorem ed_u1_2 (cy : Nat → ClassId) (B j i : Nat) (r : Nat → Int32) (x : Int32) : ed_ent cy B j 1 i (upd r 2 x) = .inr (3, [.ref (B + ed_oF j 2 0), .int (r 1), .int x]) := rfl
theorem ed_u7_0 (cy : Nat → ClassId) (B j i : Nat) (r : Nat → Int32) (x : Int32) : ed_ent cy B j 7 i (upd r 0 x) = .inr (6, [.int x, .int (r 1), .ref (B + ed_oF j 8 i), .int (r 3), .int (r 4), .ref (B + ed_oF j 9 i), .int (r 6), .int (r 7), .ref (B + ed_oF j 10 i), .int (r 9), .int (r 10)]) := rfl
theorem ed_u7_1 (cy : Nat → ClassId) (B j i : Nat) (r : Nat → Int32) (x : Int32) : ed_ent cy B j 7 i (upd r 1 x) = .inr (6, [.int (r 0), .int x, .ref (B + ed_oF j 8 i), .int (r 3), .int (r 4), .ref (B + ed_oF j 9 i), .int (r 6), .int (r 7), .ref (B + ed_oF j 10 i), .int (r 9), .int (r 10)]) := rfl
theorem ed_u7_3 (cy : Nat → ClassId) (B j i : Nat) (r : Nat → Int32) (x : Int32) : ed_ent cy B j 7 i (upd r 3 x) = .inr (6, [.int (r 0), .int (r 1), .ref (B + ed_oF j 8 i), .int x, .int (r 4), .ref (B + ed_oF j 9 i), .int (r 6), .int (r 7), .ref (B + ed_oF j 10 i), .int (r 9), .int (r 10)]) := rfl
theorem ed_u7_4 (cy : Nat → ClassId) (B j i : Nat) (r : Nat → Int32) (x : Int32) : ed_ent cy B j 7 i (upd r 4 x) = .inr (6, [.int (r 0), .int (r 1), .ref (B + ed_oF j 8 i), .int (r 3), .int x, .ref (B + ed_oF j 9 i), .int (r 6), .int (r 7), .ref (B + ed_oF j 10 i), .int (r 9), .int (r 10)]) := rfl
theorem ed_u7_6 (cy : Nat → ClassId) (B j i : Nat) (r : Nat → Int32) (x : Int32) : ed_ent cy B j 7 i (upd r 6 x) = .inr (6, [.int (r 0), .int (r 1), .ref (B + ed_oF j 8 i), .int (r 3), .int (r 4), .ref (B + ed_oF j 9 i), .int x, .int (r 7), .ref (B + ed_oF j 10 i), .int (r 9), .int (r 10)]) := rfl
theorem ed_u7_7 (cy : Nat → ClassId) (B j i : Nat) (r : Nat → Int32) (x : Int32) : ed_ent cy B j 7 i (upd r 7 x) = .inr (6, [.int (r 0), .int (r 1), .ref (B + ed_oF j 8 i), .int (r 3), .int (r 4), .ref (B + ed_oF j 9 i), .int (r 6), .int x, .ref (B + ed_oF j 10 i), .int (r 9), .int (r 10)]) := rfl
theorem ed_u7_9 (cy : Nat → ClassId) (B j i : Nat) (r : Nat → Int32) (x : Int32) : ed_ent cy B j 7 i (upd r 9 x) = .inr (6, [.int (r 0), .int (r 1), .ref (B + ed_oF j 8 i), .int (r 3), .int (r 4), .ref (B + ed_oF j 9 i), .int (r 6), .int (r 7), .ref (B + ed_oF j 10 i), .int x, .int (r 10)]) := rfl
theorem ed_u7_10 (cy : Nat → ClassId) (B j i : Nat) (r : Nat → Int32) (x : Int32) : ed_ent cy B j 7 i (upd r 10 x) = .inr (6, [.int (r 0), .int (r 1), .ref (B + ed_oF j 8 i), .int (r 3), .int (r 4), .ref (B + ed_oF j 9 i), .int (r 6), .int (r 7), .ref (B + ed_oF j 10 i), .int (r 9), .int x]) := rfl
theorem ed_u11_0 (cy : Nat → ClassId) (B j i : Nat) (r : Nat → Int32) (x : Int32) : ed_ent cy B j 11 i (upd r 0 x) = .inr (0, [.int x, .int (r 1), .int (r 2), .int (r 3), .int (r 4), .int (r 5), .int (r 6), .int (r 7), .int (r 8), .int (r 9)]) := rfl
theorem ed_u11_1 (cy : Nat → ClassId) (B j i : Nat) (r : Nat → Int32) (x : Int32) : ed_ent cy B j 11 i (upd r 1 x) = .inr (0, [.int (r 0), .int x, .int (r 2), .int (r 3), .int (r 4), .int (r 5), .int (r 6), .int (r 7), .int (r 8), .int (r 9)]) := rfl
theorem ed_u11_2 (cy : Nat → ClassId) (B j i : Nat) (r : Nat → Int32) (x : Int32) : ed_ent cy B j 11 i (upd r 2 x) = .inr (0, [.int (r 0), .int (r 1), .int x, .int (r 3), .int (r 4), .int (r 5), .int (r 6), .int (r 7), .int (r 8), .int (r 9)]) := rfl
theorem ed_u11_3 (cy : Nat → ClassId) (B j i : Nat) (r : Nat → Int32) (x : Int32) : ed_ent cy B j 11 i (upd r 3 x) = .inr (0, [.int (r 0), .int (r 1), .int (r 2), .int x, .int (r 4), .int (r 5), .int (r 6), .int (r 7), .int (r 8), .int (r 9)]) := rfl
theorem ed_u11_4 (cy : Nat → ClassId) (B j i : Nat) (r : Nat → Int32) (x : Int32) : ed_ent cy B j 11 i (upd r 4 x) = .inr (0, [.int (r 0), .int (r 1), .int (r 2), .int (r 3), .int x, .int (r 5), .int (r 6), .int (r 7), .int (r 8), .int (r 9)]) := rfl
theorem ed_u11_5 (cy : Nat → ClassId) (B j i : Nat) (r : Nat → Int32) (x : Int32) : ed_ent cy B j 11 i (upd r 5 x) = .inr (0, [.int (r 0), .int (r 1), .int (r 2), .int (r 3), .int (r 4), .int x, .int (r 6), .int (r 7), .int (r 8), .int (r 9)]) := rfl
theorem ed_u11_6 (cy : Nat → ClassId) (B j i : Nat) (r : Nat → Int32) (x : Int32) : ed_ent cy B j 11 i (upd r 6 x) = .inr (0, [.int (r 0), .int (r 1), .int (r 2), .int (r 3), .int (r 4), .int (r 5), .int x, .int (r 7), .int (r 8), .int (r 9)]) := rfl
theorem ed_u11_7 (cy : Nat → ClassId) (B j i : Nat) (r : Nat → Int32) (x : Int32) : ed_ent cy B j 11 i (upd r 7 x) = .inr (0, [.int (r 0), .int (r 1), .int (r 2), .int (r 3), .int (r 4), .int (r 5), .int (r 6), .int x, .int (r 8), .int (r 9)]) := rfl
theorem ed_u11_8 (cy : Nat → ClassId) (B j i : Nat) (r : Nat → Int32) (x : Int32) : ed_ent cy B j 11 i (upd r 8 x) = .inr (0, [.int (r 0), .int (r 1), .int (r 2), .int (r 3), .int (r 4), .int (r 5), .int (r 6), .int (r 7), .int x, .int (r 9)]) := rfl
theorem ed_u11_9 (cy : Nat → ClassId) (B j i : Nat) (r : Nat → Int32) (x : Int32) : ed_ent cy B j 11 i (upd r 9 x) = .inr (0, [.int (r 0), .int (r 1), .int (r 2), .int (r 3), .int (r 4), .int (r 5), .int (r 6), .int (r 7), .int (r 8), .int x]) := rfl
theorem ed_u12_0 (cy : Nat → ClassId) (B j i : Nat) (r : Nat → Int32) (x : Int32) : ed_ent cy B j 12 i (upd r 0 x) = .inr (1, [.int x, .int (r 1), .int (r 2), .int (r 3), .int (r 4), .int (r 5)]) := rfl
theorem ed_u12_1 (cy : Nat → ClassId) (B j i : Nat) (r : Nat → Int32) (x : Int32) : ed_ent cy B j 12 i (upd r 1 x) = .inr (1, [.int (r 0), .int x, .int (r 2), .int (r 3), .int (r 4), .int (r 5)]) := rfl
theorem ed_u12_2 (cy : Nat → ClassId) (B j i : Nat) (r : Nat → Int32) (x : Int32) : ed_ent cy B j 12 i (upd r 2 x) = .inr (1, [.int (r 0), .int (r 1), .int x, .int (r 3), .int (r 4), .int (r 5)]) := rfl
theorem ed_u12_3 (cy : Nat → ClassId) (B j i : Nat) (r : Nat → Int32) (x : Int32) : ed_ent cy B j 12 i (upd r 3 x) = .inr (1, [.int (r 0), .int (r 1), .int (r 2), .int x, .int (r 4), .int (r 5)]) := rfl
theorem ed_u12_4 (cy : Nat → ClassId) (B j i : Nat) (r : Nat → Int32) (x : Int32) : ed_ent cy B j 12 i (upd r 4 x) = .inr (1, [.int (r 0), .int (r 1), .int (r 2), .int (r 3), .int x, .int (r 5)]) := rfl
theorem ed_u12_5 (cy : Nat → ClassId) (B j i : Nat) (r : Nat → Int32) (x : Int32) : ed_ent cy B j 12 i (upd r 5 x) = .inr (1, [.int (r 0), .int (r 1), .int (r 2), .int (r 3), .int (r 4), .int x]) := rfl
theorem ed_u13_0 (cy : Nat → ClassId) (B j i : Nat) (r : Nat → Int32) (x : Int32) : ed_ent cy B j 13 i (upd r 0 x) = .inr (4, [.int x, .int (r 1)]) := rfl
theorem ed_u13_1 (cy : Nat → ClassId) (B j i : Nat) (r : Nat → Int32) (x : Int32) : ed_ent cy B j 13 i (upd r 1 x) = .inr (4, [.int (r 0), .int x]) := rfl
theorem ed_u14_3 (cy : Nat → ClassId) (B j i : Nat) (r : Nat → Int32) (x : Int32) : ed_ent cy B j 14 i (upd r 3 x) = .inr (8, [.ref (B + ed_oF 0 0 0), .ref (B + ed_oF 1 0 0), .ref (B + ed_oF 2 0 0), .int x, .ref (B + ed_oF 7 15 0), .ref (B + ed_oF 7 17 0)]) := rfl
theorem ed_u15_1 (cy : Nat → ClassId) (B j i : Nat) (r : Nat → Int32) (x : Int32) : ed_ent cy B j 15 i (upd r 1 x) = .inr (2, [.ref (B + ed_oF 7 16 0), .int x]) := rfl
theorem ed_u17_1 (cy : Nat → ClassId) (B j i : Nat) (r : Nat → Int32) (x : Int32) : ed_ent cy B j 17 i (upd r 1 x) = .inr (7, [.ref (B + ed_oF 7 18 0), .int x, .int (r 2), .int (r 3), .int (r 4), .ref (B + ed_oF 7 19 0), .int (r 6), .int (r 7), .ref (B + ed_oF 7 20 0)]) := rfl
theorem ed_u17_2 (cy : Nat → ClassId) (B j i : Nat) (r : Nat → Int32) (x : Int32) : ed_ent cy B j 17 i (upd r 2 x) = .inr (7, [.ref (B + ed_oF 7 18 0), .int (r 1), .int x, .int (r 3), .int (r 4), .ref (B + ed_oF 7 19 0), .int (r 6), .int (r 7), .ref (B + ed_oF 7 20 0)]) := rfl
theorem ed_u17_3 (cy : Nat → ClassId) (B j i : Nat) (r : Nat → Int32) (x : Int32) : ed_ent cy B j 17 i (upd r 3 x) = .inr (7, [.ref (B + ed_oF 7 18 0), .int (r 1), .int (r 2), .int x, .int (r 4), .ref (B + ed_oF 7 19 0), .int (r 6), .int (r 7), .ref (B + ed_oF 7 20 0)]) := rfl
theorem ed_u17_4 (cy : Nat → ClassId) (B j i : Nat) (r : Nat → Int32) (x : Int32) : ed_ent cy B j 17 i (upd r 4 x) = .inr (7, [.ref (B + ed_oF 7 18 0), .int (r 1), .int (r 2), .int (r 3), .int x, .ref (B + ed_oF 7 19 0), .int (r 6), .int (r 7), .ref (B + ed_oF 7 20 0)]) := rfl
theorem ed_u17_6 (cy : Nat → ClassId) (B j i : Nat) (r : Nat → Int32) (x : Int32) : ed_ent cy B j 17 i (upd r 6 x) = .inr (7, [.ref (B + ed_oF 7 18 0), .int (r 1), .int (r 2), .int (r 3), .int (r 4), .ref (B + ed_oF 7 19 0), .int x, .int (r 7), .ref (B + ed_oF 7 20 0)]) := rfl
theorem ed_u17_7 (cy : Nat → ClassId) (B j i : Nat) (r : Nat → Int32) (x : Int32) : ed_ent cy B j 17 i (upd r 7 x) = .inr (7, [.ref (B + ed_oF 7 18 0), .int (r 1), .int (r 2), .int (r 3), .int (r 4), .ref (B + ed_oF 7 19 0), .int (r 6), .int x, .ref (B + ed_oF 7 20 0)]) := rfl
def ed_N : Nat := 10000
theorem ed_ip {α : Sort _} {c : Prop} {h : Decidable c} {a b z : α} (hc : c) (hf : (if c then a else b) = z) : a = z := by rw [if_pos hc] at hf; exact hf
theorem ed_in_ {α : Sort _} {c : Prop} {h : Decidable c} {a b z : α} (hc : ¬ c) (hf : (if c then a else b) = z) : b = z := by rw [if_neg hc] at hf; exact hf
theorem ed_so {α β : Type} {a c : α} {b d : β} (h : some (a, b) = some (c, d)) : a = c ∧ b = d := by cases h; exact ⟨rfl, rfl⟩
theorem ed_sJr (μ : ed_CM) (j : Nat) (σ : ed_SM) (K i : Nat) : ed_sJ μ j σ j K i = σ K i := by rw [ed_sJ_self]
theorem ed_sJn (μ : ed_CM) {j k : Nat} (σ : ed_SM) {τ : ed_SM} (h : k ≠ j) (hτ : μ k = τ) (K i : Nat) : ed_sJ μ j σ k K i = τ K i := by rw [ed_sJ_ne μ σ h, hτ]
theorem ed_eta {D : va_G} {cy : Nat → ClassId} {B : Nat} {μ : ed_CM} {j : Nat} {H : Heap} (h : ed_P D cy B μ H) : ed_P D cy B (ed_sJ μ j (μ j)) H := by rw [ed_sJ_eta]; exact h
def ed_b2 {α β γ : Type} (x : Option (α × γ)) (k : α → γ → Option β) : Option β := match x with
  | none => none
  | some q => k q.1 q.2
section
variable {p : Program} {l : Launch} {e : Env} {R : Room} {s : State} {m : MethodId} {args : Array Value} {below : List Frame} {meth : Method} {c : Code} {H : Heap} {locs : List Loc} {cells slots : Nat} {Q : State → Prop}
variable {pc nL : Nat} {ls : Array Slot} {rest st0 : List Value} {cc : ByteArray} {Ts : List Cond} {own : String} {D : va_G} {cy : Nat → ClassId} {B : Nat} {μ : ed_CM} {j K i : Nat} {σ : ed_SM} {H0 : Heap}
theorem ed_nm {x v : Int32} (h : x = v) (kk : W p l e R s m args below meth c H locs cells slots Q (F0 m pc ls (.int x :: rest))) : W p l e R s m args below meth c H locs cells slots Q (F0 m pc ls (.int v :: rest)) := by
  subst h
  exact kk
theorem ed_rw16 (j : Nat) (hj : j < 7) : (nI j).toNatClampNeg % 7 = j := by
  rw [nI_clamp (by omega)]
  omega
theorem ed_ast {x : Int32} {k : Nat} (S : CallFix p m c cc nL s args Ts own) (hK : ed_K D cy s) (hM : ed_P D cy B (ed_sJ μ 7 (μ 7)) H) (hS : va_S (ed_A B) H0 H locs) (hk : k < 7) (hx : ed_in x 4) (hdg : decode cc pc = .ok (.aastore, 1))
    (kk : ∀ (H1 : Heap) (locs1 : List Loc), ed_P D cy B (ed_sJ μ 7 (ed_up (μ 7) 16 0 x.toNatClampNeg (nI k))) H1 → va_S (ed_A B) H0 H1 locs1 → W p l e R s m args below meth c H1 locs1 cells slots Q (F0 m (pc + 1) ls rest)) : W p l e R s m args below meth c H locs cells slots Q (F0 m pc ls (.ref (B + ed_oF k 0 0) :: .int x :: .ref (B + ed_oF 7 16 0) :: rest)) := by
  refine va_astq S.1 S.2.1 hK.1 hM (ed_w_D cy B _) hS (ed_oF 7 16 0) 5 (ed_oF k 0 0) 5 (by rw [ed_w_at cy B _ ed_v16, ed_sJ_self, ed_e16]) rfl (by rw [ed_w_at cy B _ (ed_v0 hk 0), ed_e0]) rfl (ed_in_vp hx) hdg (fun H1 locs1 hP _ hS1 => kk H1 locs1 ?_ hS1)
  have he : (Sum.inl (cy 5, 4, Sum.inr (Sum.inr (Sum.inr (Sum.inr (va_up (fun z => some (B + ed_oF ((μ 7 16 0 z).toNatClampNeg % 7) 0 0)) x.toNatClampNeg (some (B + ed_oF k 0 0))))))) : va_E) = ed_ent cy B 7 16 0 (upd (μ 7 16 0) x.toNatClampNeg (nI k)) := by
    rw [ed_e16]
    congr 7
    funext z
    by_cases hz : z = x.toNatClampNeg
    · subst hz
      simp [va_up, upd, ed_rw16 k hk]
    · simp [va_up, upd, hz]
  rw [he, ed_w_set2 cy B μ ed_v16] at hP
  exact hP
end
theorem ed_b2_e {α β γ : Type} {x : Option (α × γ)} {k : α → γ → Option β} {z : β} (h : ed_b2 x k = some z) : ∃ a c, x = some (a, c) ∧ k a c = some z := by
  cases x with
  | none => cases h
  | some a => exact ⟨a.1, a.2, rfl, h⟩
