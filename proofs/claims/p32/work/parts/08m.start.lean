/-! The two new objects: their memory, and that they are alike. -/
def em_n0 : em_MM := fun i k => if i = 1 ∧ k = 4 then 3 else 0
theorem el_P8 {D : va_G} {cy : Nat → ClassId} {B : Nat} {H : Heap} (h : ec_P D B 1862 (ec_st cy B) H) : ed_P D cy B ed_m1 H := by
  have e : ed_w cy B ed_m1 = ec_w B 1862 (ec_st cy B) := ec_ext (fun k => by
    rw [ec_get0, ed_w_get]
    rfl)
  show va_P D vwCl (ed_w cy B ed_m1) H
  rw [e]
  exact h.1
theorem em_n0_0 {i k : Nat} (h : ¬ (i = 1 ∧ k = 4)) : em_n0 i k = 0 := by
  unfold em_n0
  rw [if_neg h]
theorem ed_m1_0 {j K i k : Nat} (h : ¬ (j < 7 ∧ K = 0 ∧ k = 1)) (h2 : ¬ (j = 7 ∧ K = 16)) : ed_m1 j K i k = 0 := by
  unfold ed_m1
  rw [if_neg h, if_neg h2]
theorem el_X0 : r_X (ed_m1 0) (em_n0 1) := by
  refine ⟨0, 0, 0, 0, by omega, ⟨rfl, rfl, rfl, rfl, rfl, rfl, rfl, rfl, rfl, rfl, by omega, by omega, by omega, by omega⟩, ⟨fun c k h => absurd h (Nat.not_lt_zero _), fun c h => absurd h (Nat.not_lt_zero _), fun c k _ _ _ _ => em_n0_0 (by omega)⟩, ⟨fun q k _ _ => ?_, fun q _ => ?_⟩, fun s h => absurd h (Nat.not_lt_zero _), ⟨fun q k h => absurd h (Nat.not_lt_zero _), fun q h => absurd h (Nat.not_lt_zero _), fun q q' h => absurd h (Nat.not_lt_zero _)⟩, ⟨0, 0, by omega, by omega, rfl, rfl, rfl, fun b h => absurd h (Nat.not_lt_zero _)⟩, Nat.zero_le _⟩
  · rw [ed_m1_0 (by omega) (by omega), em_n0_0 (by omega)]
  · rw [em_n0_0 (by omega)]
    decide
theorem el_R0 : r_REL ed_m1 em_n0 := by
  refine ⟨el_X0, Or.inl ⟨rfl, rfl⟩, ⟨0, fun k => 3 + k, by omega, rfl, rfl, ⟨fun k _ => rfl, fun k hk => ?_, fun k k' _ _ h => ?_⟩, fun k h => absurd h (Nat.not_lt_zero _)⟩, ⟨0, by omega, rfl, rfl, fun k h => absurd h (Nat.not_lt_zero _)⟩⟩
  · show 3 ≤ 3 + k ∧ 3 + k ≤ 6
    omega
  · have h : 3 + k = 3 + k' := h
    omega
