/-! What the tables say of the classes, for the law: the world's names. -/
theorem el_t1 {w : Cond} {i : Nat} (h : tables_1_1[i]? = some w) : w ∈ lw_tbl := List.mem_append_right _ (List.mem_append_left _ (List.mem_of_getElem? h))
theorem el_t2 {w : Cond} {i : Nat} (h : tables_1_2[i]? = some w) : w ∈ lw_tbl := List.mem_append_right _ (List.mem_append_right _ (List.mem_append_left _ (List.mem_of_getElem? h)))
theorem el_t3 {w : Cond} {i : Nat} (h : tables_1_3[i]? = some w) : w ∈ lw_tbl := List.mem_append_right _ (List.mem_append_right _ (List.mem_append_right _ (List.mem_append_left _ (List.mem_of_getElem? h))))
theorem el_t4 {w : Cond} {i : Nat} (h : tables_1_4[i]? = some w) : w ∈ lw_tbl := List.mem_append_right _ (List.mem_append_right _ (List.mem_append_right _ (List.mem_append_right _ (List.mem_of_getElem? h))))
theorem el_ao {args : Array Value} {s : State} {C : String} (h : (Cond.arrayOver (.object C)).before args s = true) : ∃ cA : ClassId, ArrOfT s cA (.object C) ∧ va_RA s cA (.object C) := by
  obtain ⟨comp, c, k, h1, h2, h3, h4, h5⟩ := Cond.arrayOver_spec h
  exact ⟨c, fun N z => ⟨(fun k h => by cases h), k, h3, comp, h4⟩, k, comp, h3, h4, h1, h5⟩
theorem el_ao0 {b : Nat} {s : State} (hts : ∀ w ∈ lw_tbl, w.before #[Value.ref b] s = true) : va_AO RX6 s := va_AO.of (hts (.arrayOver (.object "EmbargoDesk$Story")) (el_t1 (i := 44) rfl))
theorem el_ao1 {b : Nat} {s : State} (hts : ∀ w ∈ lw_tbl, w.before #[Value.ref b] s = true) : va_AO RX0 s := va_AO.of (hts (.arrayOver (.object "EmbargoDesk$Client")) (el_t1 (i := 46) rfl))
theorem el_ao2 {b : Nat} {s : State} (hts : ∀ w ∈ lw_tbl, w.before #[Value.ref b] s = true) : va_AO RX1 s := va_AO.of (hts (.arrayOver (.object "EmbargoDesk$Copy")) (el_t1 (i := 48) rfl))
theorem el_ao3 {b : Nat} {s : State} (hts : ∀ w ∈ lw_tbl, w.before #[Value.ref b] s = true) : va_AO RX4 s := va_AO.of (hts (.arrayOver (.object "EmbargoDesk$Person")) (el_t1 (i := 50) rfl))
theorem el_ao4 {b : Nat} {s : State} (hts : ∀ w ∈ lw_tbl, w.before #[Value.ref b] s = true) : va_AO RX5 s := va_AO.of (hts (.arrayOver (.object "EmbargoDesk$State")) (el_t2 (i := 19) rfl))
theorem el_AO {b : Nat} {s : State} (hts : ∀ w ∈ lw_tbl, w.before #[Value.ref b] s = true) : ec_AO s := ⟨el_ao0 hts, el_ao1 hts, el_ao2 hts, el_ao3 hts, el_ao4 hts⟩
theorem el_nw0 {b : Nat} {s : State} (hts : ∀ w ∈ lw_tbl, w.before #[Value.ref b] s = true) : va_Nw (.methodLinkNest "EmbargoDesk" 31 ⟨"EmbargoDesk$StoryText", "<init>", "()V"⟩ "EmbargoDesk") s := va_Nw.of rfl (hts _ (el_t2 (i := 31) rfl))
theorem el_nw1 {b : Nat} {s : State} (hts : ∀ w ∈ lw_tbl, w.before #[Value.ref b] s = true) : va_Nw (.methodLinkNest "EmbargoDesk$History" 25 ⟨"EmbargoDesk", "isPlace", "(II)Z"⟩ "EmbargoDesk") s := va_Nw.of rfl (hts _ (el_t2 (i := 105) rfl))
theorem el_nw2 {b : Nat} {s : State} (hts : ∀ w ∈ lw_tbl, w.before #[Value.ref b] s = true) : va_Nw (.methodLinkNest "EmbargoDesk$Log" 28 ⟨"EmbargoDesk", "isPlace", "(II)Z"⟩ "EmbargoDesk") s := va_Nw.of rfl (hts _ (el_t3 (i := 22) rfl))
theorem el_nw3 {b : Nat} {s : State} (hts : ∀ w ∈ lw_tbl, w.before #[Value.ref b] s = true) : va_Nw (.methodLinkNest "EmbargoDesk$Log" 32 ⟨"EmbargoDesk", "copyRow", "([I[I)V"⟩ "EmbargoDesk") s := va_Nw.of rfl (hts _ (el_t2 (i := 116) rfl))
theorem el_nw4 {b : Nat} {s : State} (hts : ∀ w ∈ lw_tbl, w.before #[Value.ref b] s = true) : va_Nw (.methodLinkNest "EmbargoDesk$State" 119 ⟨"EmbargoDesk", "isPlace", "(II)Z"⟩ "EmbargoDesk") s := va_Nw.of rfl (hts _ (el_t2 (i := 134) rfl))
theorem el_nw5 {b : Nat} {s : State} (hts : ∀ w ∈ lw_tbl, w.before #[Value.ref b] s = true) : va_Nw (.methodLinkNest "EmbargoDesk$State" 17 ⟨"EmbargoDesk$Log", "<init>", "()V"⟩ "EmbargoDesk") s := va_Nw.of rfl (hts _ (el_t1 (i := 28) rfl))
theorem el_nw6 {b : Nat} {s : State} (hts : ∀ w ∈ lw_tbl, w.before #[Value.ref b] s = true) : va_Nw (.methodLinkNest "EmbargoDesk$State" 46 ⟨"EmbargoDesk$Story", "<init>", "()V"⟩ "EmbargoDesk") s := va_Nw.of rfl (hts _ (el_t1 (i := 52) rfl))
theorem el_nw7 {b : Nat} {s : State} (hts : ∀ w ∈ lw_tbl, w.before #[Value.ref b] s = true) : va_Nw (.methodLinkNest "EmbargoDesk$State" 47 ⟨"EmbargoDesk$Client", "<init>", "()V"⟩ "EmbargoDesk") s := va_Nw.of rfl (hts _ (el_t1 (i := 106) rfl))
theorem el_nw8 {b : Nat} {s : State} (hts : ∀ w ∈ lw_tbl, w.before #[Value.ref b] s = true) : va_Nw (.methodLinkNest "EmbargoDesk$State" 48 ⟨"EmbargoDesk$Copy", "<init>", "()V"⟩ "EmbargoDesk") s := va_Nw.of rfl (hts _ (el_t1 (i := 160) rfl))
theorem el_nw9 {b : Nat} {s : State} (hts : ∀ w ∈ lw_tbl, w.before #[Value.ref b] s = true) : va_Nw (.methodLinkNest "EmbargoDesk$State" 49 ⟨"EmbargoDesk$Person", "<init>", "()V"⟩ "EmbargoDesk") s := va_Nw.of rfl (hts _ (el_t1 (i := 196) rfl))
theorem el_nw10 {b : Nat} {s : State} (hts : ∀ w ∈ lw_tbl, w.before #[Value.ref b] s = true) : va_Nw (.methodLinkNest "EmbargoDesk$Story" 33 ⟨"EmbargoDesk", "copyRow", "([I[I)V"⟩ "EmbargoDesk") s := va_Nw.of rfl (hts _ (el_t2 (i := 139) rfl))
theorem el_nw11 {b : Nat} {s : State} (hts : ∀ w ∈ lw_tbl, w.before #[Value.ref b] s = true) : va_Nw (.methodLinkNest "EmbargoDesk$Story" 58 ⟨"EmbargoDesk", "isPlace", "(II)Z"⟩ "EmbargoDesk") s := va_Nw.of rfl (hts _ (el_t3 (i := 61) rfl))
theorem el_nw12 {b : Nat} {s : State} (hts : ∀ w ∈ lw_tbl, w.before #[Value.ref b] s = true) : va_Nw (.methodLinkNest "EmbargoDesk$StoryText" 25 ⟨"EmbargoDesk", "isPlace", "(II)Z"⟩ "EmbargoDesk") s := va_Nw.of rfl (hts _ (el_t2 (i := 206) rfl))
theorem el_nw13 {b : Nat} {s : State} (hts : ∀ w ∈ lw_tbl, w.before #[Value.ref b] s = true) : va_Nw (.methodLinkNest "EmbargoDesk$StoryText" 59 ⟨"EmbargoDesk", "isBetween", "(III)Z"⟩ "EmbargoDesk") s := va_Nw.of rfl (hts _ (el_t2 (i := 207) rfl))
theorem el_NW {b : Nat} {s : State} (hts : ∀ w ∈ lw_tbl, w.before #[Value.ref b] s = true) : ed_NW s := by
  intro q hq
  obtain ⟨i, hi⟩ := List.getElem?_of_mem hq
  match i, hi with
  | 0, hi => cases hi; exact el_nw0 hts
  | 1, hi => cases hi; exact el_nw1 hts
  | 2, hi => cases hi; exact el_nw2 hts
  | 3, hi => cases hi; exact el_nw3 hts
  | 4, hi => cases hi; exact el_nw4 hts
  | 5, hi => cases hi; exact el_nw5 hts
  | 6, hi => cases hi; exact el_nw6 hts
  | 7, hi => cases hi; exact el_nw7 hts
  | 8, hi => cases hi; exact el_nw8 hts
  | 9, hi => cases hi; exact el_nw9 hts
  | 10, hi => cases hi; exact el_nw10 hts
  | 11, hi => cases hi; exact el_nw11 hts
  | 12, hi => cases hi; exact el_nw12 hts
  | 13, hi => cases hi; exact el_nw13 hts
  | n + 14, hi => cases hi
theorem el_K {b : Nat} {s : State} (hts : ∀ w ∈ lw_tbl, w.before #[Value.ref b] s = true) : ∃ (D : va_G) (cy : Nat → ClassId), ed_K D cy s := by
  obtain ⟨c0, i0, k0⟩ := u_known (C := RX0) (T := TX0) (N := 10) (n := 10) hts (fun w hw => ed_ws_tbl (ed_uX0 w hw)) (hts _ (ed_ws_tbl ed_w1_105))
  obtain ⟨c1, i1, k1⟩ := u_known (C := RX1) (T := TX1) (N := 6) (n := 6) hts (fun w hw => ed_ws_tbl (ed_uX1 w hw)) (hts _ (ed_ws_tbl ed_w1_159))
  obtain ⟨c2, i2, k2⟩ := u_known (C := RX2) (T := TX2) (N := 2) (n := 2) hts (fun w hw => ed_ws_tbl (ed_uX2 w hw)) (hts _ (ed_ws_tbl ed_w2_13))
  obtain ⟨c3, i3, k3⟩ := u_known (C := RX3) (T := TX3) (N := 3) (n := 3) hts (fun w hw => ed_ws_tbl (ed_uX3 w hw)) (hts _ (ed_ws_tbl ed_w1_27))
  obtain ⟨c4, i4, k4⟩ := u_known (C := RX4) (T := TX4) (N := 2) (n := 2) hts (fun w hw => ed_ws_tbl (ed_uX4 w hw)) (hts _ (ed_ws_tbl ed_w1_195))
  obtain ⟨c5, i5, k5⟩ := u_known (C := RX5) (T := TX5) (N := 11) (n := 11) hts (fun w hw => ed_ws_tbl (ed_uX5 w hw)) (hts _ (ed_ws_tbl ed_w1_21))
  obtain ⟨c6, i6, k6⟩ := u_known (C := RX6) (T := TX6) (N := 11) (n := 11) hts (fun w hw => ed_ws_tbl (ed_uX6 w hw)) (hts _ (ed_ws_tbl ed_w1_51))
  obtain ⟨c7, i7, k7⟩ := u_known (C := RX7) (T := TX7) (N := 9) (n := 9) hts (fun w hw => ed_ws_tbl (ed_uX7 w hw)) (hts _ (ed_ws_tbl ed_w2_30))
  obtain ⟨c8, i8, k8⟩ := u_known (C := RX8) (T := TX8) (N := 6) (n := 6) hts (fun w hw => ed_ws_tbl (ed_uX8 w hw)) (hts _ (ed_ws_tbl ed_w1_13))
  obtain ⟨a0, kA, comp, h1, h2, h3⟩ := Cond.arrayClass_spec (hts (.arrayClass .int) (ed_ws_tbl ed_w1_42))
  have g0 : ArrOfT s a0 .int ∧ va_RA s a0 .int := ⟨fun N z => ⟨(fun k h => by cases h), kA, h2, comp, h3⟩, h1⟩
  obtain ⟨a1, g1⟩ := el_ao (va_AO.use (A := #[]) (el_ao0 hts))
  obtain ⟨a2, g2⟩ := el_ao (va_AO.use (A := #[]) (el_ao1 hts))
  obtain ⟨a3, g3⟩ := el_ao (va_AO.use (A := #[]) (el_ao2 hts))
  obtain ⟨a4, g4⟩ := el_ao (va_AO.use (A := #[]) (el_ao3 hts))
  obtain ⟨a5, g5⟩ := el_ao (va_AO.use (A := #[]) (el_ao4 hts))
  refine ⟨(fun k => match k with | 0 => c0 | 1 => c1 | 2 => c2 | 3 => c3 | 4 => c4 | 5 => c5 | 6 => c6 | 7 => c7 | _ => c8, fun k => match k with | 0 => i0 | 1 => i1 | 2 => i2 | 3 => i3 | 4 => i4 | 5 => i5 | 6 => i6 | 7 => i7 | _ => i8), fun k => match k with | 0 => a0 | 1 => a1 | 2 => a2 | 3 => a3 | 4 => a4 | _ => a5, ⟨fun k q hq => ?_, fun k q hq => ?_⟩, el_NW hts⟩
  · match k, hq with
    | 0, hq => cases hq; exact k0
    | 1, hq => cases hq; exact k1
    | 2, hq => cases hq; exact k2
    | 3, hq => cases hq; exact k3
    | 4, hq => cases hq; exact k4
    | 5, hq => cases hq; exact k5
    | 6, hq => cases hq; exact k6
    | 7, hq => cases hq; exact k7
    | 8, hq => cases hq; exact k8
    | k + 9, hq => cases hq
  · match k, hq with
    | 0, hq => cases hq; exact g0
    | 1, hq => cases hq; exact g1
    | 2, hq => cases hq; exact g2
    | 3, hq => cases hq; exact g3
    | 4, hq => cases hq; exact g4
    | 5, hq => cases hq; exact g5
    | k + 6, hq => cases hq
