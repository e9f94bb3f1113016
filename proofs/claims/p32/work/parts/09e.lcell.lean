/-! THE CLAIM OUT OF ONE WALK OF THE LAW'S BODY. Your part is whole_start (and what it stands on); all else here is the same for every law, but numbers. -/
def R_law : String := "EmbargoDeskLaw"
def lw_P (b : Addr) (xs : List Int32) (args : Array Value) (s : State) : Prop := args = #[.ref b] ∧ s.IntsAt b xs ∧ xs.length ≤ 260 ∧ (Jvm.Cond.and given_1 narrow_1).before args s = true
def lw_Q (_ : Array Value) (s : State) (o : Outcome) (t : State) : Prop := o = .returned (some (.int 1)) ∧ Framed s o t [] 606958 7281374
def lw_Z (below : List Frame) (a : Array Value) (s : State) : State → Prop := fun t => ∃ o, t.status = .running ∧ Ended t below o ∧ lw_Q a s o t
/-- the law's own end, with 1 on the stack, nothing written that was there before, its room as the claim has it -/
theorem lw_ret {p : Program} {l : Launch} {e : Env} {s : State} {m : MethodId} {below : List Frame} {meth : Method} {c : Code} {b : Nat} (hx : p.tables.exec = Jvm.exec) (hb : c.code = code) (hr : meth.sig.returnType = ret) (hlocks : meth.locks = false) {pc : Nat} {H : Heap} {ls : Array Slot} (hdg : decode code pc = .ok (.ireturn, 1)) : W p l e room_1 s m #[Value.ref b] below meth c H [] 606958 7281374 (lw_Z below #[Value.ref b] s) (F0 m pc ls [.int 1]) := by
  intro T hT X
  obtain ⟨fs, hret, hrun, hended, hW, hframe⟩ := X.leave (v := some (.int 1)) (hlocks := hlocks) (fun h => by rw [hr] at h; cases h)
  have hmeth' : T.vm.method? m = some meth := X.method'
  refine ⟨T.setFrames fs, ?_, .returned (some (.int 1)), hrun, hended, rfl, ⟨_, rfl⟩, hW, hframe⟩
  jvm_step X.here [X.here.top, hx, hb, hdg, hmeth', hr, ret, narrow_b1]
  (try refine ⟨rfl, ?_⟩); (try refine ⟨rfl, ?_⟩)
  first | (intro acts; rw [hret _ acts rfl rfl rfl]) | rw [hret _ _ rfl rfl rfl]
  exact Steps.refl _
/-- what holds at the law's entry: the machine, the code, the tables' words (any of lw_tbl by 'hts w (by decide +kernel)'), the script of L ints xs at the cell b, what the Statement gives of the start (any of its parts by flat_of_before) -/
def lw_At (p : Program) (s : State) (m : MethodId) (meth : Method) (c : Code) (b L : Nat) (xs : Nat → Int32) : Prop :=
  p.tables.exec = Jvm.exec ∧ c.code = code ∧ meth.sig.returnType = ret ∧ c.maxLocals = 10 ∧ s.vm.findClass R_law = some m.cls ∧ (∀ w ∈ lw_tbl, w.before #[Value.ref b] s = true) ∧ va_X b L xs s s.heap ∧ b < s.heap.size ∧ meth.locks = false ∧ (Jvm.Cond.and given_1 narrow_1).before #[Value.ref b] s = true
/-! the script's cells -/
def f_L_cell (xs : Nat → Int32) (L : Nat) (x : Int32) : Option Int32 := ed_g (¬ x < 0) (some ((if nI L ≤ x then 15566531 * x + 2003 else xs x.toNatClampNeg) &&& 2147483647))
abbrev rmL_cell : Room := { frames := 0, cells := 0, slots := 0, locals := 0 }
def la_pX (D : va_G) (cy : Nat → ClassId) (b L : Nat) (xs : Nat → Int32) (av : List Value) : Array Value → State → Prop := va_Pc av (fun U => va_X b L xs U U.heap ∧ ed_K D cy U)
theorem la_pX_blind {D : va_G} {cy : Nat → ClassId} {b L : Nat} {xs : Nat → Int32} {av : List Value} : FrameBlind (la_pX D cy b L xs av) := fun _ U _ _ q => ⟨q.1, va_X.moved (Vm.Alike.refl U.vm) q.2.1, q.2.2.call⟩
set_option maxHeartbeats 4000000 in
set_option maxRecDepth 100000 in
theorem c_L_cell (l : Launch) (D : va_G) (cy : Nat → ClassId) (b L : Nat) (xs : Nat → Int32) (hL : L < 2 ^ 31) (x r : Int32) (hf : f_L_cell xs L x = some r) :
    Met l yL_cell wsL_cell rmL_cell (la_pX D cy b L xs [.ref b, .int x]) (ed_qI (fun _ => False) (fun _ => True) r) 0 0 (fun _ => False) := by
  refine Met.ofW (cc := cL_cell) (maxL := 2) (ret := some .int) (by decide) rfl ?_
  intro p e s m args below meth c s₁ B0 hml hv
  obtain ⟨rfl, hX, hK⟩ := hv
  have S : CallFix p m c cL_cell 2 s _ ed_ws RL := ⟨B0.exec, B0.bytes, hml, findClass_of_methodNamed B0.named, fun w hw => atoms_spec (ws := wsL_cell) B0.pre w (List.mem_cons_of_mem _ hw)⟩
  have hr := B0.returns
  have hlocks := B0.notSynchronized
  have hS : va_S (fun _ => False) s.heap s.heap [] := va_S.rf
  have hbl : b < s.heap.size := by
    obtain ⟨scr, h1, -⟩ := hX
    exact (Array.getElem?_eq_some_iff.mp h1).1
  have hl := lv_entry ([.ref b, .int x]) (n := 2) (Nat.le_of_ble_eq_true rfl)
  rw [lg_entry_eq]
  generalize (lg_sl ([.ref b, .int x]) ++ List.replicate (2 - (lg_sl ([.ref b, .int x])).length) Slot.unset).toArray = ls at hl ⊢
  have hl : lv_has ls 2 [(0, .ref b), (1, .int x)] := hl
  unfold f_L_cell at hf
  obtain ⟨hx0, hf⟩ := ed_g_e hf
  obtain rfl := Option.some.inj hf
  refine lv_iload_n S.1 S.2.1 dL_cell_0 rfl (lv_at hl 1 rfl) ?_
  refine lv_aload_n S.1 S.2.1 dL_cell_1 rfl (lv_at hl 0 rfl) ?_
  refine va_slen S.1 S.2.1 hX hbl (fun h => h) hS dL_cell_2 ?_
  refine lv_icmp_ge (tgt := 12) S.1 S.2.1 dL_cell_3 (by decide) (fun q => ?_) (fun q => ?_)
  · refine lv_ldc (v := 15566531) S.1 S.2.1 S.2.2.2.1 (S.2.2.2.2 _ ed_w3_139) dL_cell_12 ?_
    refine lv_iload_n S.1 S.2.1 dL_cell_14 rfl (lv_at hl 1 rfl) ?_
    refine lv_imul S.1 S.2.1 dL_cell_15 ?_
    refine lv_sipush (v := 2003) S.1 S.2.1 dL_cell_16 (by decide) ?_
    refine lv_iadd S.1 S.2.1 dL_cell_19 ?_
    refine lv_ldc (v := 2147483647) S.1 S.2.1 S.2.2.2.1 (S.2.2.2.2 _ ed_w3_140) dL_cell_20 ?_
    refine lv_iand S.1 S.2.1 dL_cell_22 ?_
    rw [if_pos (show nI L ≤ x from q)]
    exact ed_ri S hr hlocks trivial hS dL_cell_23
  · have hlt : vp_in x L := fun z => z.elim hx0 (fun z => q (show nI L ≤ x by
      have h1 := nI_toInt hL
      rw [pr_iLe, h1]
      have h0 := hx0
      rw [pr_iLt, show (0 : Int32).toInt = 0 from by decide] at h0
      have h2 : (x.toNatClampNeg : Int) = x.toInt := Int.toNat_of_nonneg (by omega)
      omega))
    refine lv_aload_n S.1 S.2.1 dL_cell_6 rfl (lv_at hl 0 rfl) ?_
    refine lv_iload_n S.1 S.2.1 dL_cell_7 rfl (lv_at hl 1 rfl) ?_
    refine va_sld S.1 S.2.1 hX hbl (fun h => h) hS hlt dL_cell_8 ?_
    refine lv_goto (tgt := 20) S.1 S.2.1 dL_cell_9 (by decide) ?_
    refine lv_ldc (v := 2147483647) S.1 S.2.1 S.2.2.2.1 (S.2.2.2.2 _ ed_w3_140) dL_cell_20 ?_
    refine lv_iand S.1 S.2.1 dL_cell_22 ?_
    rw [if_neg (show ¬ nI L ≤ x from q)]
    exact ed_ri S hr hlocks trivial hS dL_cell_23
theorem la_c {c : Nat} (h : c ≤ 606958) : c ≤ room_1.cells := h
theorem la_s {c : Nat} (h : c ≤ 7281374) : c ≤ room_1.slots := h
section
variable {p : Program} {l : Launch} {e : Env} {R : Room} {s : State} {m : MethodId} {args : Array Value} {below : List Frame} {meth : Method} {c : Code} {H : Heap} {locs : List Loc} {cells slots mc ms n index maxL : Nat} {Q : State → Prop} {A : Nat → Prop} {P0 : Heap → Prop}
variable {pc nL : Nat} {ls : Array Slot} {As rest st0 : List Value} {bytes cc : ByteArray} {y : MethodName} {ret : Option FieldType} {ws : List Cond} {rm : Room} {Ts : List Cond} {own : String} {D : va_G} {cy : Nat → ClassId} {B b L : Nat} {xs : Nat → Int32} {r x : Int32}
theorem la_rM {Qc : Array Value → State → Outcome → State → Prop} (S : CallFix p m c cc nL s args Ts own) (hK : ed_K D cy s) (hM : P0 H) (hC : Met l y ws rm (ed_pC D cy P0 As) Qc mc ms A) (cw : CallB R s args own index y bytes maxL ret ws rm mc ms n ∧ (Cond.static y).before args s = true) (hn : As.length = n) (hl : ls.size = nL) (hst : st0 = As.reverse ++ rest) (hW : (rest.map fun v => v.category).sum ≤ 8) (hdg : decode cc pc = .ok (.invokestatic index, 3)) (hf : cells + mc ≤ R.cells ∧ slots + ms ≤ R.slots) :
    va_Run p l e R s m args below meth c H locs cells slots mc ms (F0 m pc ls st0) rest (Qc As.toArray) A :=
  va_runS (As := As) (rest := rest) S hC cw ⟨ed_pC_blind, fun U hU hWm => ⟨rfl, by rw [hU]; exact hM, hK.warm hWm⟩⟩ rfl hn hl hst (lv_room hW) hdg hf
theorem la_rX {Qc : Array Value → State → Outcome → State → Prop} (S : CallFix p m c cc nL s args Ts own) (hK : ed_K D cy s) (hX : va_X b L xs s s.heap) (hbl : b < s.heap.size) (hbB : b < B) (hS : va_S (ec_A B) s.heap H locs) (hC : Met l y ws rm (la_pX D cy b L xs As) Qc 0 0 A) (cw : CallB R s args own index y bytes maxL ret ws rm 0 0 n ∧ (Cond.static y).before args s = true) (hn : As.length = n) (hl : ls.size = nL) (hst : st0 = As.reverse ++ rest) (hW : (rest.map fun v => v.category).sum ≤ 8) (hdg : decode cc pc = .ok (.invokestatic index, 3)) (hf : cells ≤ R.cells ∧ slots ≤ R.slots) :
    va_Run p l e R s m args below meth c H locs cells slots 0 0 (F0 m pc ls st0) rest (Qc As.toArray) A :=
  va_runS (As := As) (rest := rest) S hC cw ⟨la_pX_blind, fun U hU hWm => ⟨rfl, by rw [hU]; exact va_X.moved hWm.alike (hX.kept (hS.2.1 b hbl (Nat.not_le.mpr hbB))), hK.warm hWm⟩⟩ rfl hn hl hst (lv_room hW) hdg hf
end
