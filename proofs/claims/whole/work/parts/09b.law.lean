/-! THE CLAIM OUT OF ONE WALK OF THE LAW'S BODY. Your part is whole_start (and what it stands on); all else here is the same for every law, but numbers. -/
def R_law : String := "EmbargoDeskLaw"
def lw_P (b : Addr) (xs : List Int32) (args : Array Value) (s : State) : Prop := args = #[.ref b] ∧ s.IntsAt b xs ∧ xs.length ≤ 3072 ∧ (Jvm.Cond.and given_1 narrow_1).before args s = true
def lw_Q (_ : Array Value) (s : State) (o : Outcome) (t : State) : Prop := o = .returned (some (.int 1)) ∧ Framed s o t [] 600000 7302250
def lw_Z (below : List Frame) (a : Array Value) (s : State) : State → Prop := fun t => ∃ o, t.status = .running ∧ Ended t below o ∧ lw_Q a s o t
/-- the law's own end, with 1 on the stack, nothing written that was there before, its room as the claim has it -/
theorem lw_ret {p : Program} {l : Launch} {e : Env} {s : State} {m : MethodId} {below : List Frame} {meth : Method} {c : Code} {b : Nat} (hx : p.tables.exec = Jvm.exec) (hb : c.code = code) (hr : meth.sig.returnType = ret) (hlocks : meth.locks = false) {pc : Nat} {H : Heap} {ls : Array Slot} (hdg : decode code pc = .ok (.ireturn, 1)) : W p l e room_1 s m #[Value.ref b] below meth c H [] 600000 7302250 (lw_Z below #[Value.ref b] s) (F0 m pc ls [.int 1]) := by
  intro T hT X
  obtain ⟨fs, hret, hrun, hended, hW, hframe⟩ := X.leave (v := some (.int 1)) (hlocks := hlocks) (fun h => by rw [hr] at h; cases h)
  have hmeth' : T.vm.method? m = some meth := X.method'
  refine ⟨T.setFrames fs, ?_, .returned (some (.int 1)), hrun, hended, rfl, ⟨_, rfl⟩, hW, hframe⟩
  jvm_step X.here [X.here.top, hx, hb, hdg, hmeth', hr, ret, narrow_b1]
  (try refine ⟨rfl, ?_⟩); (try refine ⟨rfl, ?_⟩)
  first | (intro acts; rw [hret _ acts rfl rfl rfl]) | rw [hret _ _ rfl rfl rfl]
  exact Steps.refl _
/-- what holds at the law's entry: the machine, the code, the tables' words (any of lw_tbl by 'hts w (by decide +kernel)'), the script of L ints xs at the cell b, what the Statement gives of the start (any of its parts by flat_of_before) -/
def lw_At (p : Program) (s : State) (m : MethodId) (meth : Method) (c : Code) (b L : Nat) (xs : Nat → Int32) : Prop :=
  p.tables.exec = Jvm.exec ∧ c.code = code ∧ meth.sig.returnType = ret ∧ c.maxLocals = 4 ∧ s.vm.findClass R_law = some m.cls ∧ (∀ w ∈ lw_tbl, w.before #[Value.ref b] s = true) ∧ va_X b L xs s s.heap ∧ b < s.heap.size ∧ meth.locks = false ∧ (Jvm.Cond.and given_1 narrow_1).before #[Value.ref b] s = true
/-! Rows of the law: the two objects in one heap. -/
abbrev el_lv (b B i : Nat) : List (Nat × Value) := [(0, .ref b), (1, .ref (B + ed_oF 7 14 0)), (2, .ref (B + 1862 + 0)), (3, .int (nI i))]
theorem el_in {i L : Nat} (k : Nat) (hk : k < 6) (hi : i + 6 ≤ L) (hL : L ≤ 3072) : vp_in (nI i + nI k) L := by
  rw [nI_add]
  exact vp_in_nI (by omega) (by omega)
theorem el_and (x : Int32) : 0 ≤ (x &&& 31).toInt ∧ (x &&& 31).toInt ≤ 31 := by
  have h1 : (x &&& 31).toBitVec.toNat ≤ 31 := by
    rw [Int32.toBitVec_and, BitVec.toNat_and]
    exact Nat.and_le_right
  have h2 : (x &&& 31).toInt = ((x &&& 31).toBitVec.toNat : Int) := BitVec.toInt_eq_toNat_of_lt (by omega)
  omega
/-- what comes behind a step of the law's loop -/
def el_Go (p : Program) (l : Launch) (e : Env) (s : State) (m : MethodId) (b : Nat) (below : List Frame) (meth : Method) (c : Code) (D : va_G) (cy : Nat → ClassId) (B i : Nat) (Q : State → Prop) : Prop :=
  ∀ (μ : ed_CM) (ν : em_MM) (H : Heap) (locs : List Loc) (ls : Array Slot), ed_P D cy B μ H → em_P D cy (B + 1862) ν H → r_REL μ ν → va_S (ec_A B) s.heap H locs → lv_has ls 4 (el_lv b B i) → W p l e room_1 s m #[Value.ref b] below meth c H locs 600000 7302250 Q (F0 m 989 ls [])
section
variable {p : Program} {l : Launch} {e : Env} {R : Room} {s : State} {m : MethodId} {args : Array Value} {below : List Frame} {meth : Method} {c : Code} {H : Heap} {locs : List Loc} {cells slots mc ms : Nat} {Q : State → Prop}
variable {pc : Nat} {ls : Array Slot} {rest st0 : List Value} {a : Array Value} {D : va_G} {cy : Nat → ClassId} {B : Nat} {μ μ' : ed_CM} {ν ν' : em_MM} {r : Int32} {A : Nat → Prop} {P1 : Heap → Prop} {H0 : Heap}
theorem el_k8 (hr : va_Run p l e R s m args below meth c H locs cells slots 0 0 (F0 m pc ls st0) rest (ed_qI (ed_A B) (ed_P D cy B μ') r a) (ed_A B)) (hN : em_P D cy (B + 1862) ν H) (hS : va_S (ec_A B) s.heap H locs) (kk : ∀ (H1 : Heap) (locs1 : List Loc), ed_P D cy B μ' H1 → em_P D cy (B + 1862) ν H1 → va_S (ec_A B) s.heap H1 locs1 → W p l e R s m args below meth c H1 locs1 cells slots Q (F0 m (pc + 3) ls (.int r :: rest))) : W p l e R s m args below meth c H locs cells slots Q (F0 m pc ls st0) := by
  refine va_calli (mc := 0) (ms := 0) hr hS (fun q _ h => h.1) (fun q h => h.1) (fun r' u t H1 locs1 ht _ hw hB _ hk hS1 => ?_)
  subst hw
  refine kk H1 locs1 (by rw [← ht]; exact hB) (va_P.kept hN (fun k x hx => hk x.1 ((hN k x hx).lt) (fun hA => ?_))) hS1
  have h1 : B + 1862 ≤ x.1 := ((em_w_D cy (B + 1862) ν).2 k x hx).1
  have h2 : x.1 < B + 1862 := hA.2
  omega
theorem el_k9 (hr : va_Run p l e R s m args below meth c H locs cells slots 0 0 (F0 m pc ls st0) rest (ed_qI (em_A (B + 1862)) (em_P D cy (B + 1862) ν') r a) (em_A (B + 1862))) (hM : ed_P D cy B μ H) (hS : va_S (ec_A B) s.heap H locs) (kk : ∀ (H1 : Heap) (locs1 : List Loc), em_P D cy (B + 1862) ν' H1 → ed_P D cy B μ H1 → va_S (ec_A B) s.heap H1 locs1 → W p l e R s m args below meth c H1 locs1 cells slots Q (F0 m (pc + 3) ls (.int r :: rest))) : W p l e R s m args below meth c H locs cells slots Q (F0 m pc ls st0) := by
  refine va_calli (mc := 0) (ms := 0) hr hS (fun q _ h => Nat.le_trans (Nat.le_add_right B 1862) h.1) (fun q h => Nat.le_trans (Nat.le_add_right B 1862) h.1) (fun r' u t H1 locs1 ht _ hw hB _ hk hS1 => ?_)
  subst hw
  refine kk H1 locs1 (by rw [← ht]; exact hB) (va_P.kept hM (fun k x hx => hk x.1 ((hM k x hx).lt) (fun hA => ?_))) hS1
  have h1 : x.1 < B + 1862 := ((ed_w_D cy B μ).2 k x hx).2
  have h2 : B + 1862 ≤ x.1 := hA.1
  omega
theorem el_kI (hr : va_Run p l e R s m args below meth c H locs cells slots mc ms (F0 m pc ls st0) rest (ed_qV A P1 a) A) (hS : va_S A H0 H locs) (kk : ∀ (H1 : Heap) (locs1 : List Loc), P1 H1 → va_S A H0 H1 locs1 → W p l e R s m args below meth c H1 locs1 (cells + mc) (slots + ms) Q (F0 m (pc + 3) ls rest)) : W p l e R s m args below meth c H locs cells slots Q (F0 m pc ls st0) := by
  refine va_callv hr hS (fun q _ h => h) (fun q h => h) (fun u t H1 locs1 ht _ _ hB _ _ hS1 => ?_)
  exact kk H1 locs1 (by rw [← ht]; exact hB) hS1
end
