def jsum (f : Nat → Int32) : Nat → Int32
  | 0 => 0
  | k + 1 => jsum f k + f k
/-- f as far as k, g behind -/
def jfl (f g : Nat → Int32) (k : Nat) : Nat → Int32 := fun i => if i < k then f i else g i
theorem jfl_0 {f g : Nat → Int32} : jfl f g 0 = g := by funext i; simp [jfl]
theorem jfl_s {f g : Nat → Int32} {k : Nat} {x : Int32} (h : x = f k) : jfl f g (k + 1) = upd (jfl f g k) k x := by
  funext i
  by_cases h1 : i = k
  · subst h1; simp [jfl, upd, h]
  · have h2 : i < k + 1 ↔ i < k := by omega
    simp [jfl, upd, h1, h2]
set_option maxHeartbeats 4000000 in
set_option maxRecDepth 100000 in
theorem c_spoonsOf (l : Launch) (D : va_G) (cI cJ : ClassId) (q : Nat) (qa : Nat) (v0 : Value) (v1 : Value) (v2 : Value) (v3 : Value) (v4 : Value) (v6 : Value) (v7 : Value) (v8 : Value) (sp : Nat → Int32) (j : Nat) (hj : j < 6) : jRi l yX1_spoonsOf wsX1_spoonsOf ({ frames := 0, cells := 0, slots := 0, locals := 0 }) [.ref q, .int (nI j)] D cI cJ (fun H => va_P D vwCl [(q, .inr (1, [v0, v1, v2, v3, v4, .ref qa, v6, v7, v8])), (qa, .inl (cI, 6, .inl sp))] H) (fun r => r = sp j) := by
  intro sz
  refine Met.ofW (cc := cX1_spoonsOf) (maxL := 2) (ret := (some .int)) (by decide) rfl ?_
  intro p e s m args below meth c s₁ B hml hv
  obtain ⟨rfl, hsz, hT, hPr⟩ := hv
  have hK := hT.1
  have hx := B.exec
  have hb := B.bytes
  have hr := B.returns
  have hts := atoms_spec (ws := wsX1_spoonsOf) B.pre
  have hown : s.vm.findClass RX1 = some m.cls := findClass_of_methodNamed B.named
  have hlocks := B.notSynchronized
  subst hsz
  generalize hAe : va_A [] s.heap.size = A
  have hA : ∀ q : Nat, s.heap.size ≤ q → A q := fun q h => by rw [← hAe]; exact Or.inr h
  have hS : va_S A s.heap s.heap [] := va_S.rf
  have hl := lv_entry ([.ref q, .int (nI j)] : List Value) (n := 2) (Nat.le_of_ble_eq_true rfl)
  rw [lg_entry_eq]
  generalize (lg_sl ([.ref q, .int (nI j)]) ++ List.replicate (2 - (lg_sl ([.ref q, .int (nI j)])).length) Slot.unset).toArray = ls at hl ⊢
  have hl : lv_has ls 2 [(0, .ref q), (1, .int (nI j))] := hl
  refine lv_iload_n hx hb dX1_spoonsOf_0 rfl (lv_at hl 1 rfl) ?_
  refine lv_if_lt (tgt := 19) hx hb dX1_spoonsOf_1 (by decide) (fun c_1 => ?_) (fun c_1 => ?_)
  · skip
    replace c_1 : j < 0 := (nI_ltI (a := j) (b := 0) (by omega) (by omega)).mp c_1
    exact absurd c_1 (by omega)
  · skip
    replace c_1 : ¬ j < 0 := fun h => c_1 ((nI_ltI (a := j) (b := 0) (by omega) (by omega)).mpr h)
    refine lv_iload_n hx hb dX1_spoonsOf_4 rfl (lv_at hl 1 rfl) ?_
    refine lv_bipush (v := 6) hx hb dX1_spoonsOf_5 (by decide) ?_
    refine lv_icmp_ge (tgt := 19) hx hb dX1_spoonsOf_7 (by decide) (fun c_2 => ?_) (fun c_2 => ?_)
    · skip
      replace c_2 : 6 ≤ j := (nI_leI (a := 6) (b := j) (by omega) (by omega)).mp c_2
      exact absurd c_2 (by omega)
    · skip
      replace c_2 : ¬ 6 ≤ j := fun h => c_2 ((nI_leI (a := 6) (b := j) (by omega) (by omega)).mpr h)
      refine lv_aload_n hx hb dX1_spoonsOf_10 rfl (lv_at hl 0 rfl) ?_
      refine va_get (D := D) (ci := 1) (v := .ref qa) (C := RX1) (T := TX1) (N := 9) hx hb hts (fun w h => List.mem_cons_of_mem _ (List.mem_append_right _ h)) hown hK hPr 0 rfl rfl 5 (by decide) (hts (Cond.fieldLink RX1 27 "JamDays$Days" "spoons" "[I") (List.mem_of_getElem? (i := 1) rfl)) (fun _ h9 => h9) rfl dX1_spoonsOf_11 ?_
      refine lv_iload_n hx hb dX1_spoonsOf_14 rfl (lv_at hl 1 rfl) ?_
      refine jv_ald (k := j) hx hb hK hPr 1 0 rfl rfl (by omega) (by decide) dX1_spoonsOf_15 ?_
      refine lv_goto (tgt := 20) hx hb dX1_spoonsOf_16 (by decide) ?_
      exact W.iret (v := sp j) hx hb hr (fun t ht hW => ⟨⟨sp j, (), rfl, rfl, trivial⟩, hS.F ht⟩) hS.2.2 dX1_spoonsOf_20

set_option maxHeartbeats 4000000 in
set_option maxRecDepth 100000 in
theorem c_eatenNowOf (l : Launch) (D : va_G) (cI cJ : ClassId) (q : Nat) (qa : Nat) (v0 : Value) (v1 : Value) (v2 : Value) (v3 : Value) (v4 : Value) (v5 : Value) (v7 : Value) (v8 : Value) (sp : Nat → Int32) (j : Nat) (hj : j < 6) : jRi l yX1_eatenNowOf wsX1_eatenNowOf ({ frames := 0, cells := 0, slots := 0, locals := 0 }) [.ref q, .int (nI j)] D cI cJ (fun H => va_P D vwCl [(q, .inr (1, [v0, v1, v2, v3, v4, v5, .ref qa, v7, v8])), (qa, .inl (cI, 6, .inl sp))] H) (fun r => r = sp j) := by
  intro sz
  refine Met.ofW (cc := cX1_eatenNowOf) (maxL := 2) (ret := (some .int)) (by decide) rfl ?_
  intro p e s m args below meth c s₁ B hml hv
  obtain ⟨rfl, hsz, hT, hPr⟩ := hv
  have hK := hT.1
  have hx := B.exec
  have hb := B.bytes
  have hr := B.returns
  have hts := atoms_spec (ws := wsX1_eatenNowOf) B.pre
  have hown : s.vm.findClass RX1 = some m.cls := findClass_of_methodNamed B.named
  have hlocks := B.notSynchronized
  subst hsz
  generalize hAe : va_A [] s.heap.size = A
  have hA : ∀ q : Nat, s.heap.size ≤ q → A q := fun q h => by rw [← hAe]; exact Or.inr h
  have hS : va_S A s.heap s.heap [] := va_S.rf
  have hl := lv_entry ([.ref q, .int (nI j)] : List Value) (n := 2) (Nat.le_of_ble_eq_true rfl)
  rw [lg_entry_eq]
  generalize (lg_sl ([.ref q, .int (nI j)]) ++ List.replicate (2 - (lg_sl ([.ref q, .int (nI j)])).length) Slot.unset).toArray = ls at hl ⊢
  have hl : lv_has ls 2 [(0, .ref q), (1, .int (nI j))] := hl
  refine lv_iload_n hx hb dX1_eatenNowOf_0 rfl (lv_at hl 1 rfl) ?_
  refine lv_if_lt (tgt := 19) hx hb dX1_eatenNowOf_1 (by decide) (fun c_1 => ?_) (fun c_1 => ?_)
  · skip
    replace c_1 : j < 0 := (nI_ltI (a := j) (b := 0) (by omega) (by omega)).mp c_1
    exact absurd c_1 (by omega)
  · skip
    replace c_1 : ¬ j < 0 := fun h => c_1 ((nI_ltI (a := j) (b := 0) (by omega) (by omega)).mpr h)
    refine lv_iload_n hx hb dX1_eatenNowOf_4 rfl (lv_at hl 1 rfl) ?_
    refine lv_bipush (v := 6) hx hb dX1_eatenNowOf_5 (by decide) ?_
    refine lv_icmp_ge (tgt := 19) hx hb dX1_eatenNowOf_7 (by decide) (fun c_2 => ?_) (fun c_2 => ?_)
    · skip
      replace c_2 : 6 ≤ j := (nI_leI (a := 6) (b := j) (by omega) (by omega)).mp c_2
      exact absurd c_2 (by omega)
    · skip
      replace c_2 : ¬ 6 ≤ j := fun h => c_2 ((nI_leI (a := 6) (b := j) (by omega) (by omega)).mpr h)
      refine lv_aload_n hx hb dX1_eatenNowOf_10 rfl (lv_at hl 0 rfl) ?_
      refine va_get (D := D) (ci := 1) (v := .ref qa) (C := RX1) (T := TX1) (N := 9) hx hb hts (fun w h => List.mem_cons_of_mem _ (List.mem_append_right _ h)) hown hK hPr 0 rfl rfl 6 (by decide) (hts (Cond.fieldLink RX1 31 "JamDays$Days" "eatenNow" "[I") (List.mem_of_getElem? (i := 1) rfl)) (fun _ h9 => h9) rfl dX1_eatenNowOf_11 ?_
      refine lv_iload_n hx hb dX1_eatenNowOf_14 rfl (lv_at hl 1 rfl) ?_
      refine jv_ald (k := j) hx hb hK hPr 1 0 rfl rfl (by omega) (by decide) dX1_eatenNowOf_15 ?_
      refine lv_goto (tgt := 20) hx hb dX1_eatenNowOf_16 (by decide) ?_
      exact W.iret (v := sp j) hx hb hr (fun t ht hW => ⟨⟨sp j, (), rfl, rfl, trivial⟩, hS.F ht⟩) hS.2.2 dX1_eatenNowOf_20

set_option maxHeartbeats 4000000 in
set_option maxRecDepth 100000 in
theorem c_spoonsOfAll (l : Launch) (D : va_G) (cI cJ : ClassId) (q : Nat) (qa : Nat) (v0 : Value) (v1 : Value) (v2 : Value) (v3 : Value) (v4 : Value) (v6 : Value) (v7 : Value) (v8 : Value) (sp : Nat → Int32)  : jRi l yX1_spoonsOfAll wsX1_spoonsOfAll ({ frames := 0, cells := 0, slots := 0, locals := 0 }) [.ref q] D cI cJ (fun H => va_P D vwCl [(q, .inr (1, [v0, v1, v2, v3, v4, .ref qa, v6, v7, v8])), (qa, .inl (cI, 6, .inl sp))] H) (fun r => r = jsum sp 6) := by
  intro sz
  refine Met.ofW (cc := cX1_spoonsOfAll) (maxL := 3) (ret := (some .int)) (by decide) rfl ?_
  intro p e s m args below meth c s₁ B hml hv
  obtain ⟨rfl, hsz, hT, hPr⟩ := hv
  have hK := hT.1
  have hx := B.exec
  have hb := B.bytes
  have hr := B.returns
  have hts := atoms_spec (ws := wsX1_spoonsOfAll) B.pre
  have hown : s.vm.findClass RX1 = some m.cls := findClass_of_methodNamed B.named
  have hlocks := B.notSynchronized
  subst hsz
  generalize hAe : va_A [] s.heap.size = A
  have hA : ∀ q : Nat, s.heap.size ≤ q → A q := fun q h => by rw [← hAe]; exact Or.inr h
  have hS : va_S A s.heap s.heap [] := va_S.rf
  have hl := lv_entry ([.ref q] : List Value) (n := 3) (Nat.le_of_ble_eq_true rfl)
  rw [lg_entry_eq]
  generalize (lg_sl ([.ref q]) ++ List.replicate (3 - (lg_sl ([.ref q])).length) Slot.unset).toArray = ls at hl ⊢
  have hl : lv_has ls 3 [(0, .ref q)] := hl
  refine lv_iconst (v := 0) hx hb dX1_spoonsOfAll_0 (by decide) ?_
  refine lv_istore_n (lv' := [(1, .int 0), (0, .ref q)]) hx hb dX1_spoonsOfAll_1 rfl hl (by decide) rfl (fun ls hl => ?_)
  refine lv_iconst (v := 0) hx hb dX1_spoonsOfAll_2 (by decide) ?_
  refine lv_istore_n (lv' := [(2, .int 0), (1, .int 0), (0, .ref q)]) hx hb dX1_spoonsOfAll_3 rfl hl (by decide) rfl (fun ls hl => ?_)
  refine jloop (α := Nat) (fun (k : Nat) (H : Heap) (locs : List Loc) (ls : Array Slot) => (va_P D vwCl [(q, .inr (1, [v0, v1, v2, v3, v4, .ref qa, v6, v7, v8])), (qa, .inl (cI, 6, .inl sp))] H) ∧ (va_S A s.heap H locs) ∧ (lv_has ls 3 [(0, .ref q), (1, .int (jsum sp k)), (2, .int (nI k))]) ∧ (k ≤ 6)) (fun (k : Nat) => 6 - k) (fun k H locs ls hx9 ih_4 => ?_) 0 _ _ _ ⟨hPr, hS, lv_sub hl [2, 1, 0] rfl, (by omega)⟩
  obtain ⟨hPr, hS, hl, hk9⟩ := hx9
  refine lv_iload_n hx hb dX1_spoonsOfAll_4 rfl (lv_at hl 2 rfl) ?_
  refine lv_bipush (v := 6) hx hb dX1_spoonsOfAll_5 (by decide) ?_
  refine lv_icmp_ge (tgt := 25) hx hb dX1_spoonsOfAll_7 (by decide) (fun c_1 => ?_) (fun c_1 => ?_)
  · skip
    replace c_1 : 6 ≤ k := (nI_leI (a := 6) (b := k) (by omega) (by omega)).mp c_1
    refine lv_iload_n hx hb dX1_spoonsOfAll_25 rfl (lv_at hl 1 rfl) ?_
    exact W.iret (v := jsum sp k) hx hb hr (fun t ht hW => ⟨⟨jsum sp k, (), rfl, (by rw [show k = 6 by omega]), trivial⟩, hS.F ht⟩) hS.2.2 dX1_spoonsOfAll_26
  · skip
    replace c_1 : ¬ 6 ≤ k := fun h => c_1 ((nI_leI (a := 6) (b := k) (by omega) (by omega)).mpr h)
    refine lv_iload_n hx hb dX1_spoonsOfAll_10 rfl (lv_at hl 1 rfl) ?_
    refine lv_aload_n hx hb dX1_spoonsOfAll_11 rfl (lv_at hl 0 rfl) ?_
    refine va_get (D := D) (ci := 1) (v := .ref qa) (C := RX1) (T := TX1) (N := 9) hx hb hts (fun w h => List.mem_cons_of_mem _ (List.mem_append_right _ h)) hown hK hPr 0 rfl rfl 5 (by decide) (hts (Cond.fieldLink RX1 27 "JamDays$Days" "spoons" "[I") (List.mem_of_getElem? (i := 1) rfl)) (fun _ h9 => h9) rfl dX1_spoonsOfAll_12 ?_
    refine lv_iload_n hx hb dX1_spoonsOfAll_15 rfl (lv_at hl 2 rfl) ?_
    refine jv_ald (k := k) hx hb hK hPr 1 0 rfl rfl (by omega) (by decide) dX1_spoonsOfAll_16 ?_
    refine lv_iadd hx hb dX1_spoonsOfAll_17 ?_
    refine lv_istore_n (lv' := [(1, .int ((jsum sp k) + (sp k))), (0, .ref q), (2, .int (nI k))]) hx hb dX1_spoonsOfAll_18 rfl hl (by decide) rfl (fun ls hl => ?_)
    refine lv_iinc (v := nI (k + 1)) (lv' := [(2, .int (nI (k + 1))), (1, .int ((jsum sp k) + (sp k))), (0, .ref q)]) hx hb dX1_spoonsOfAll_19 hl (k := 2) rfl ((rfl : nI k + Int32.ofInt 1 = nI k + nI 1).trans (nI_add k 1)) (by decide) rfl (fun ls hl => ?_)
    refine lv_goto (tgt := 4) hx hb dX1_spoonsOfAll_22 (by decide) ?_
    exact ih_4 (k + 1) _ _ _ ⟨hPr, hS, lv_sub hl [2, 1, 0] rfl, (by omega)⟩ (by omega)

set_option maxHeartbeats 4000000 in
set_option maxRecDepth 100000 in
theorem c_passYear (l : Launch) (D : va_G) (cI cJ : ClassId) (q : Nat) (q5 : Nat) (q6 : Nat) (q7 : Nat) (q8 : Nat) (y : Int32) (ea : Int32) (lo : Int32) (jo : Int32) (ta : Int32) (sp : Nat → Int32) (en : Nat → Int32) (tY : Nat → Int32) (tW : Nat → Int32)  : jWv l yX1_passYear wsX1_passYear ({ frames := 0, cells := 0, slots := 0, locals := 0 }) 0 0 [.ref q] D cI cJ [(q, .inr (1, [.int y, .int ea, .int lo, .int jo, .int ta, .ref q5, .ref q6, .ref q7, .ref q8])), (q5, .inl (cI, 6, .inl sp)), (q6, .inl (cI, 6, .inl en)), (q7, .inl (cI, 6, .inl tY)), (q8, .inl (cI, 6, .inl tW))] (fun H => True) (fun H => va_P D vwCl [(q, .inr (1, [.int (y + 1), .int ea, .int lo, .int jo, .int ta, .ref q5, .ref q6, .ref q7, .ref q8])), (q5, .inl (cI, 6, .inl sp)), (q6, .inl (cI, 6, .inl (jfl (fun _ => 0) en 6))), (q7, .inl (cI, 6, .inl tY)), (q8, .inl (cI, 6, .inl tW))] H) := by
  intro sz
  refine Met.ofW (cc := cX1_passYear) (maxL := 2) (ret := none) (by decide) rfl ?_
  intro p e s m args below meth c s₁ B hml hv
  obtain ⟨rfl, hsz, hT, hP, hD0, _⟩ := hv
  have hK := hT.1
  have hx := B.exec
  have hb := B.bytes
  have hr := B.returns
  have hts := atoms_spec (ws := wsX1_passYear) B.pre
  have hown : s.vm.findClass RX1 = some m.cls := findClass_of_methodNamed B.named
  have hlocks := B.notSynchronized
  subst hsz
  have hD := hD0.self (sz := s.heap.size)
  generalize hAe : va_A [(q, .inr (1, [.int y, .int ea, .int lo, .int jo, .int ta, .ref q5, .ref q6, .ref q7, .ref q8])), (q5, .inl (cI, 6, .inl sp)), (q6, .inl (cI, 6, .inl en)), (q7, .inl (cI, 6, .inl tY)), (q8, .inl (cI, 6, .inl tW))] s.heap.size = A at hD ⊢
  have hA : ∀ q : Nat, s.heap.size ≤ q → A q := fun q h => by rw [← hAe]; exact Or.inr h
  have hS : va_S A s.heap s.heap [] := va_S.rf
  have hl := lv_entry ([.ref q] : List Value) (n := 2) (Nat.le_of_ble_eq_true rfl)
  rw [lg_entry_eq]
  generalize (lg_sl ([.ref q]) ++ List.replicate (2 - (lg_sl ([.ref q])).length) Slot.unset).toArray = ls at hl ⊢
  have hl : lv_has ls 2 [(0, .ref q)] := hl
  refine lv_aload_n hx hb dX1_passYear_0 rfl (lv_at hl 0 rfl) ?_
  refine lv_dup hx hb dX1_passYear_1 rfl ?_
  refine va_get (D := D) (ci := 1) (v := .int y) (C := RX1) (T := TX1) (N := 9) hx hb hts (fun w h => List.mem_cons_of_mem _ (List.mem_append_right _ h)) hown hK hP 0 rfl rfl 0 (by decide) (hts (Cond.fieldLink RX1 9 "JamDays$Days" "year" "I") (List.mem_of_getElem? (i := 1) rfl)) (fun _ h9 => h9) rfl dX1_passYear_2 ?_
  refine lv_iconst (v := 1) hx hb dX1_passYear_5 (by decide) ?_
  refine lv_iadd hx hb dX1_passYear_6 ?_
  refine va_put (D := D) (ci := 1) (v := .int (y + 1)) (ty := .int) (C := RX1) (T := TX1) (N := 9) hx hb hts (fun w h => List.mem_cons_of_mem _ (List.mem_append_right _ h)) tyX1 tyX1_ok nmX1 hown hK hP hD hS 0 rfl rfl 0 (by decide) (hts (Cond.fieldLink RX1 9 "JamDays$Days" "year" "I") (List.mem_of_getElem? (i := 1) rfl)) (fun _ h9 => h9) rfl (by decide +kernel) rfl rfl (Nat.le_of_ble_eq_true rfl) dX1_passYear_7 (fun H locs hP hD hS => ?_)
  have hP : va_P D vwCl [(q, .inr (1, [.int (y + 1), .int ea, .int lo, .int jo, .int ta, .ref q5, .ref q6, .ref q7, .ref q8])), (q5, .inl (cI, 6, .inl sp)), (q6, .inl (cI, 6, .inl en)), (q7, .inl (cI, 6, .inl tY)), (q8, .inl (cI, 6, .inl tW))] H := hP
  have hD : va_D A [(q, .inr (1, [.int (y + 1), .int ea, .int lo, .int jo, .int ta, .ref q5, .ref q6, .ref q7, .ref q8])), (q5, .inl (cI, 6, .inl sp)), (q6, .inl (cI, 6, .inl en)), (q7, .inl (cI, 6, .inl tY)), (q8, .inl (cI, 6, .inl tW))] := hD
  refine lv_iconst (v := 0) hx hb dX1_passYear_10 (by decide) ?_
  refine lv_istore_n (lv' := [(1, .int 0), (0, .ref q)]) hx hb dX1_passYear_11 rfl hl (by decide) rfl (fun ls hl => ?_)
  have hP : va_P D vwCl [(q, .inr (1, [.int (y + 1), .int ea, .int lo, .int jo, .int ta, .ref q5, .ref q6, .ref q7, .ref q8])), (q5, .inl (cI, 6, .inl sp)), (q6, .inl (cI, 6, .inl (jfl (fun _ => 0) en 0))), (q7, .inl (cI, 6, .inl tY)), (q8, .inl (cI, 6, .inl tW))] H := by rw [jfl_0]; exact hP
  have hD : va_D A [(q, .inr (1, [.int (y + 1), .int ea, .int lo, .int jo, .int ta, .ref q5, .ref q6, .ref q7, .ref q8])), (q5, .inl (cI, 6, .inl sp)), (q6, .inl (cI, 6, .inl (jfl (fun _ => 0) en 0))), (q7, .inl (cI, 6, .inl tY)), (q8, .inl (cI, 6, .inl tW))] := jD_of hD rfl
  refine jloop (α := Nat) (fun (k : Nat) (H : Heap) (locs : List Loc) (ls : Array Slot) => (va_P D vwCl [(q, .inr (1, [.int (y + 1), .int ea, .int lo, .int jo, .int ta, .ref q5, .ref q6, .ref q7, .ref q8])), (q5, .inl (cI, 6, .inl sp)), (q6, .inl (cI, 6, .inl (jfl (fun _ => 0) en k))), (q7, .inl (cI, 6, .inl tY)), (q8, .inl (cI, 6, .inl tW))] H) ∧ (va_D A [(q, .inr (1, [.int (y + 1), .int ea, .int lo, .int jo, .int ta, .ref q5, .ref q6, .ref q7, .ref q8])), (q5, .inl (cI, 6, .inl sp)), (q6, .inl (cI, 6, .inl (jfl (fun _ => 0) en k))), (q7, .inl (cI, 6, .inl tY)), (q8, .inl (cI, 6, .inl tW))]) ∧ (va_S A s.heap H locs) ∧ (lv_has ls 2 [(0, .ref q), (1, .int (nI k))]) ∧ (k ≤ 6)) (fun (k : Nat) => 6 - k) (fun k H locs ls hx9 ih_12 => ?_) 0 _ _ _ ⟨hP, hD, hS, lv_sub hl [1, 0] rfl, (by omega)⟩
  obtain ⟨hP, hD, hS, hl, hk9⟩ := hx9
  refine lv_iload_n hx hb dX1_passYear_12 rfl (lv_at hl 1 rfl) ?_
  refine lv_bipush (v := 6) hx hb dX1_passYear_13 (by decide) ?_
  refine lv_icmp_ge (tgt := 31) hx hb dX1_passYear_15 (by decide) (fun c_1 => ?_) (fun c_1 => ?_)
  · skip
    replace c_1 : 6 ≤ k := (nI_leI (a := 6) (b := k) (by omega) (by omega)).mp c_1
    exact W.vret hx hb hr (fun t ht hW => ⟨⟨(), rfl, trivial, by dsimp only; rw [ht]; exact (by rw [show k = 6 by omega] at hP; exact hP)⟩, hS.F ht⟩) hS.2.2 dX1_passYear_31
  · skip
    replace c_1 : ¬ 6 ≤ k := fun h => c_1 ((nI_leI (a := 6) (b := k) (by omega) (by omega)).mpr h)
    refine lv_aload_n hx hb dX1_passYear_18 rfl (lv_at hl 0 rfl) ?_
    refine va_get (D := D) (ci := 1) (v := .ref q6) (C := RX1) (T := TX1) (N := 9) hx hb hts (fun w h => List.mem_cons_of_mem _ (List.mem_append_right _ h)) hown hK hP 0 rfl rfl 6 (by decide) (hts (Cond.fieldLink RX1 31 "JamDays$Days" "eatenNow" "[I") (List.mem_of_getElem? (i := 2) rfl)) (fun _ h9 => h9) rfl dX1_passYear_19 ?_
    refine lv_iload_n hx hb dX1_passYear_22 rfl (lv_at hl 1 rfl) ?_
    refine lv_iconst (v := 0) hx hb dX1_passYear_23 (by decide) ?_
    refine jv_ast (k := k) (x := 0) hx hb hK hP hD hS 2 0 rfl rfl (by omega) (by decide) dX1_passYear_24 (fun H locs hP hD hS => ?_)
    have hP : va_P D vwCl [(q, .inr (1, [.int (y + 1), .int ea, .int lo, .int jo, .int ta, .ref q5, .ref q6, .ref q7, .ref q8])), (q5, .inl (cI, 6, .inl sp)), (q6, .inl (cI, 6, .inl (upd (jfl (fun _ => 0) en k) k 0))), (q7, .inl (cI, 6, .inl tY)), (q8, .inl (cI, 6, .inl tW))] H := hP
    have hD : va_D A [(q, .inr (1, [.int (y + 1), .int ea, .int lo, .int jo, .int ta, .ref q5, .ref q6, .ref q7, .ref q8])), (q5, .inl (cI, 6, .inl sp)), (q6, .inl (cI, 6, .inl (upd (jfl (fun _ => 0) en k) k 0))), (q7, .inl (cI, 6, .inl tY)), (q8, .inl (cI, 6, .inl tW))] := hD
    refine lv_iinc (v := nI (k + 1)) (lv' := [(1, .int (nI (k + 1))), (0, .ref q)]) hx hb dX1_passYear_25 hl (k := 1) rfl ((rfl : nI k + Int32.ofInt 1 = nI k + nI 1).trans (nI_add k 1)) (by decide) rfl (fun ls hl => ?_)
    refine lv_goto (tgt := 12) hx hb dX1_passYear_28 (by decide) ?_
    have hP : va_P D vwCl [(q, .inr (1, [.int (y + 1), .int ea, .int lo, .int jo, .int ta, .ref q5, .ref q6, .ref q7, .ref q8])), (q5, .inl (cI, 6, .inl sp)), (q6, .inl (cI, 6, .inl (jfl (fun _ => 0) en (k + 1)))), (q7, .inl (cI, 6, .inl tY)), (q8, .inl (cI, 6, .inl tW))] H := by rw [jfl_s (x := 0) rfl]; exact hP
    have hD : va_D A [(q, .inr (1, [.int (y + 1), .int ea, .int lo, .int jo, .int ta, .ref q5, .ref q6, .ref q7, .ref q8])), (q5, .inl (cI, 6, .inl sp)), (q6, .inl (cI, 6, .inl (jfl (fun _ => 0) en (k + 1)))), (q7, .inl (cI, 6, .inl tY)), (q8, .inl (cI, 6, .inl tW))] := jD_of hD rfl
    exact ih_12 (k + 1) _ _ _ ⟨hP, hD, hS, lv_sub hl [1, 0] rfl, (by omega)⟩ (by omega)

set_option maxHeartbeats 4000000 in
set_option maxRecDepth 100000 in
theorem c_startAnew (l : Launch) (D : va_G) (cI cJ : ClassId) (q : Nat) (q5 : Nat) (q6 : Nat) (q7 : Nat) (q8 : Nat) (y : Int32) (ea : Int32) (lo : Int32) (jo : Int32) (ta : Int32) (sp : Nat → Int32) (en : Nat → Int32) (tY : Nat → Int32) (tW : Nat → Int32) (n : Nat) (hn : n ≤ 6) : jWv l yX1_startAnew wsX1_startAnew ({ frames := 0, cells := 0, slots := 0, locals := 0 }) 0 0 [.ref q, .int (nI n)] D cI cJ [(q, .inr (1, [.int y, .int ea, .int lo, .int jo, .int ta, .ref q5, .ref q6, .ref q7, .ref q8])), (q5, .inl (cI, 6, .inl sp)), (q6, .inl (cI, 6, .inl en)), (q7, .inl (cI, 6, .inl tY)), (q8, .inl (cI, 6, .inl tW))] (fun H => True) (fun H => va_P D vwCl [(q, .inr (1, [.int 0, .int 0, .int 0, .int 0, .int 0, .ref q5, .ref q6, .ref q7, .ref q8])), (q5, .inl (cI, 6, .inl (jfl (fun i => if i < n then 12 else 0) sp 6))), (q6, .inl (cI, 6, .inl (jfl (fun _ => 0) en 6))), (q7, .inl (cI, 6, .inl tY)), (q8, .inl (cI, 6, .inl tW))] H) := by
  intro sz
  refine Met.ofW (cc := cX1_startAnew) (maxL := 3) (ret := none) (by decide) rfl ?_
  intro p e s m args below meth c s₁ B hml hv
  obtain ⟨rfl, hsz, hT, hP, hD0, _⟩ := hv
  have hK := hT.1
  have hx := B.exec
  have hb := B.bytes
  have hr := B.returns
  have hts := atoms_spec (ws := wsX1_startAnew) B.pre
  have hown : s.vm.findClass RX1 = some m.cls := findClass_of_methodNamed B.named
  have hlocks := B.notSynchronized
  subst hsz
  have hD := hD0.self (sz := s.heap.size)
  generalize hAe : va_A [(q, .inr (1, [.int y, .int ea, .int lo, .int jo, .int ta, .ref q5, .ref q6, .ref q7, .ref q8])), (q5, .inl (cI, 6, .inl sp)), (q6, .inl (cI, 6, .inl en)), (q7, .inl (cI, 6, .inl tY)), (q8, .inl (cI, 6, .inl tW))] s.heap.size = A at hD ⊢
  have hA : ∀ q : Nat, s.heap.size ≤ q → A q := fun q h => by rw [← hAe]; exact Or.inr h
  have hS : va_S A s.heap s.heap [] := va_S.rf
  have hl := lv_entry ([.ref q, .int (nI n)] : List Value) (n := 3) (Nat.le_of_ble_eq_true rfl)
  rw [lg_entry_eq]
  generalize (lg_sl ([.ref q, .int (nI n)]) ++ List.replicate (3 - (lg_sl ([.ref q, .int (nI n)])).length) Slot.unset).toArray = ls at hl ⊢
  have hl : lv_has ls 3 [(0, .ref q), (1, .int (nI n))] := hl
  refine lv_aload_n hx hb dX1_startAnew_0 rfl (lv_at hl 0 rfl) ?_
  refine lv_iconst (v := 0) hx hb dX1_startAnew_1 (by decide) ?_
  refine va_put (D := D) (ci := 1) (v := .int 0) (ty := .int) (C := RX1) (T := TX1) (N := 9) hx hb hts (fun w h => List.mem_cons_of_mem _ (List.mem_append_right _ h)) tyX1 tyX1_ok nmX1 hown hK hP hD hS 0 rfl rfl 0 (by decide) (hts (Cond.fieldLink RX1 9 "JamDays$Days" "year" "I") (List.mem_of_getElem? (i := 1) rfl)) (fun _ h9 => h9) rfl (by decide +kernel) rfl rfl (Nat.le_of_ble_eq_true rfl) dX1_startAnew_2 (fun H locs hP hD hS => ?_)
  have hP : va_P D vwCl [(q, .inr (1, [.int 0, .int ea, .int lo, .int jo, .int ta, .ref q5, .ref q6, .ref q7, .ref q8])), (q5, .inl (cI, 6, .inl sp)), (q6, .inl (cI, 6, .inl en)), (q7, .inl (cI, 6, .inl tY)), (q8, .inl (cI, 6, .inl tW))] H := hP
  have hD : va_D A [(q, .inr (1, [.int 0, .int ea, .int lo, .int jo, .int ta, .ref q5, .ref q6, .ref q7, .ref q8])), (q5, .inl (cI, 6, .inl sp)), (q6, .inl (cI, 6, .inl en)), (q7, .inl (cI, 6, .inl tY)), (q8, .inl (cI, 6, .inl tW))] := hD
  refine lv_aload_n hx hb dX1_startAnew_5 rfl (lv_at hl 0 rfl) ?_
  refine lv_iconst (v := 0) hx hb dX1_startAnew_6 (by decide) ?_
  refine va_put (D := D) (ci := 1) (v := .int 0) (ty := .int) (C := RX1) (T := TX1) (N := 9) hx hb hts (fun w h => List.mem_cons_of_mem _ (List.mem_append_right _ h)) tyX1 tyX1_ok nmX1 hown hK hP hD hS 0 rfl rfl 1 (by decide) (hts (Cond.fieldLink RX1 15 "JamDays$Days" "eaten" "I") (List.mem_of_getElem? (i := 2) rfl)) (fun _ h9 => h9) rfl (by decide +kernel) rfl rfl (Nat.le_of_ble_eq_true rfl) dX1_startAnew_7 (fun H locs hP hD hS => ?_)
  have hP : va_P D vwCl [(q, .inr (1, [.int 0, .int 0, .int lo, .int jo, .int ta, .ref q5, .ref q6, .ref q7, .ref q8])), (q5, .inl (cI, 6, .inl sp)), (q6, .inl (cI, 6, .inl en)), (q7, .inl (cI, 6, .inl tY)), (q8, .inl (cI, 6, .inl tW))] H := hP
  have hD : va_D A [(q, .inr (1, [.int 0, .int 0, .int lo, .int jo, .int ta, .ref q5, .ref q6, .ref q7, .ref q8])), (q5, .inl (cI, 6, .inl sp)), (q6, .inl (cI, 6, .inl en)), (q7, .inl (cI, 6, .inl tY)), (q8, .inl (cI, 6, .inl tW))] := hD
  refine lv_aload_n hx hb dX1_startAnew_10 rfl (lv_at hl 0 rfl) ?_
  refine lv_iconst (v := 0) hx hb dX1_startAnew_11 (by decide) ?_
  refine va_put (D := D) (ci := 1) (v := .int 0) (ty := .int) (C := RX1) (T := TX1) (N := 9) hx hb hts (fun w h => List.mem_cons_of_mem _ (List.mem_append_right _ h)) tyX1 tyX1_ok nmX1 hown hK hP hD hS 0 rfl rfl 2 (by decide) (hts (Cond.fieldLink RX1 18 "JamDays$Days" "lost" "I") (List.mem_of_getElem? (i := 3) rfl)) (fun _ h9 => h9) rfl (by decide +kernel) rfl rfl (Nat.le_of_ble_eq_true rfl) dX1_startAnew_12 (fun H locs hP hD hS => ?_)
  have hP : va_P D vwCl [(q, .inr (1, [.int 0, .int 0, .int 0, .int jo, .int ta, .ref q5, .ref q6, .ref q7, .ref q8])), (q5, .inl (cI, 6, .inl sp)), (q6, .inl (cI, 6, .inl en)), (q7, .inl (cI, 6, .inl tY)), (q8, .inl (cI, 6, .inl tW))] H := hP
  have hD : va_D A [(q, .inr (1, [.int 0, .int 0, .int 0, .int jo, .int ta, .ref q5, .ref q6, .ref q7, .ref q8])), (q5, .inl (cI, 6, .inl sp)), (q6, .inl (cI, 6, .inl en)), (q7, .inl (cI, 6, .inl tY)), (q8, .inl (cI, 6, .inl tW))] := hD
  refine lv_aload_n hx hb dX1_startAnew_15 rfl (lv_at hl 0 rfl) ?_
  refine lv_iconst (v := 0) hx hb dX1_startAnew_16 (by decide) ?_
  refine va_put (D := D) (ci := 1) (v := .int 0) (ty := .int) (C := RX1) (T := TX1) (N := 9) hx hb hts (fun w h => List.mem_cons_of_mem _ (List.mem_append_right _ h)) tyX1 tyX1_ok nmX1 hown hK hP hD hS 0 rfl rfl 3 (by decide) (hts (Cond.fieldLink RX1 21 "JamDays$Days" "joy" "I") (List.mem_of_getElem? (i := 4) rfl)) (fun _ h9 => h9) rfl (by decide +kernel) rfl rfl (Nat.le_of_ble_eq_true rfl) dX1_startAnew_17 (fun H locs hP hD hS => ?_)
  have hP : va_P D vwCl [(q, .inr (1, [.int 0, .int 0, .int 0, .int 0, .int ta, .ref q5, .ref q6, .ref q7, .ref q8])), (q5, .inl (cI, 6, .inl sp)), (q6, .inl (cI, 6, .inl en)), (q7, .inl (cI, 6, .inl tY)), (q8, .inl (cI, 6, .inl tW))] H := hP
  have hD : va_D A [(q, .inr (1, [.int 0, .int 0, .int 0, .int 0, .int ta, .ref q5, .ref q6, .ref q7, .ref q8])), (q5, .inl (cI, 6, .inl sp)), (q6, .inl (cI, 6, .inl en)), (q7, .inl (cI, 6, .inl tY)), (q8, .inl (cI, 6, .inl tW))] := hD
  refine lv_aload_n hx hb dX1_startAnew_20 rfl (lv_at hl 0 rfl) ?_
  refine lv_iconst (v := 0) hx hb dX1_startAnew_21 (by decide) ?_
  refine va_put (D := D) (ci := 1) (v := .int 0) (ty := .int) (C := RX1) (T := TX1) (N := 9) hx hb hts (fun w h => List.mem_cons_of_mem _ (List.mem_append_right _ h)) tyX1 tyX1_ok nmX1 hown hK hP hD hS 0 rfl rfl 4 (by decide) (hts (Cond.fieldLink RX1 24 "JamDays$Days" "tasted" "I") (List.mem_of_getElem? (i := 5) rfl)) (fun _ h9 => h9) rfl (by decide +kernel) rfl rfl (Nat.le_of_ble_eq_true rfl) dX1_startAnew_22 (fun H locs hP hD hS => ?_)
  have hP : va_P D vwCl [(q, .inr (1, [.int 0, .int 0, .int 0, .int 0, .int 0, .ref q5, .ref q6, .ref q7, .ref q8])), (q5, .inl (cI, 6, .inl sp)), (q6, .inl (cI, 6, .inl en)), (q7, .inl (cI, 6, .inl tY)), (q8, .inl (cI, 6, .inl tW))] H := hP
  have hD : va_D A [(q, .inr (1, [.int 0, .int 0, .int 0, .int 0, .int 0, .ref q5, .ref q6, .ref q7, .ref q8])), (q5, .inl (cI, 6, .inl sp)), (q6, .inl (cI, 6, .inl en)), (q7, .inl (cI, 6, .inl tY)), (q8, .inl (cI, 6, .inl tW))] := hD
  refine lv_iconst (v := 0) hx hb dX1_startAnew_25 (by decide) ?_
  refine lv_istore_n (lv' := [(2, .int 0), (0, .ref q), (1, .int (nI n))]) hx hb dX1_startAnew_26 rfl hl (by decide) rfl (fun ls hl => ?_)
  have hP : va_P D vwCl [(q, .inr (1, [.int 0, .int 0, .int 0, .int 0, .int 0, .ref q5, .ref q6, .ref q7, .ref q8])), (q5, .inl (cI, 6, .inl (jfl (fun i => if i < n then 12 else 0) sp 0))), (q6, .inl (cI, 6, .inl (jfl (fun _ => 0) en 0))), (q7, .inl (cI, 6, .inl tY)), (q8, .inl (cI, 6, .inl tW))] H := by rw [jfl_0, jfl_0]; exact hP
  have hD : va_D A [(q, .inr (1, [.int 0, .int 0, .int 0, .int 0, .int 0, .ref q5, .ref q6, .ref q7, .ref q8])), (q5, .inl (cI, 6, .inl (jfl (fun i => if i < n then 12 else 0) sp 0))), (q6, .inl (cI, 6, .inl (jfl (fun _ => 0) en 0))), (q7, .inl (cI, 6, .inl tY)), (q8, .inl (cI, 6, .inl tW))] := jD_of hD rfl
  refine jloop (α := Nat) (fun (k : Nat) (H : Heap) (locs : List Loc) (ls : Array Slot) => (va_P D vwCl [(q, .inr (1, [.int 0, .int 0, .int 0, .int 0, .int 0, .ref q5, .ref q6, .ref q7, .ref q8])), (q5, .inl (cI, 6, .inl (jfl (fun i => if i < n then 12 else 0) sp k))), (q6, .inl (cI, 6, .inl (jfl (fun _ => 0) en k))), (q7, .inl (cI, 6, .inl tY)), (q8, .inl (cI, 6, .inl tW))] H) ∧ (va_D A [(q, .inr (1, [.int 0, .int 0, .int 0, .int 0, .int 0, .ref q5, .ref q6, .ref q7, .ref q8])), (q5, .inl (cI, 6, .inl (jfl (fun i => if i < n then 12 else 0) sp k))), (q6, .inl (cI, 6, .inl (jfl (fun _ => 0) en k))), (q7, .inl (cI, 6, .inl tY)), (q8, .inl (cI, 6, .inl tW))]) ∧ (va_S A s.heap H locs) ∧ (lv_has ls 3 [(0, .ref q), (1, .int (nI n)), (2, .int (nI k))]) ∧ (k ≤ 6)) (fun (k : Nat) => 6 - k) (fun k H locs ls hx9 ih_27 => ?_) 0 _ _ _ ⟨hP, hD, hS, lv_sub hl [1, 2, 0] rfl, (by omega)⟩
  obtain ⟨hP, hD, hS, hl, hk9⟩ := hx9
  refine lv_iload_n hx hb dX1_startAnew_27 rfl (lv_at hl 2 rfl) ?_
  refine lv_bipush (v := 6) hx hb dX1_startAnew_28 (by decide) ?_
  refine lv_icmp_ge (tgt := 63) hx hb dX1_startAnew_30 (by decide) (fun c_1 => ?_) (fun c_1 => ?_)
  · skip
    replace c_1 : 6 ≤ k := (nI_leI (a := 6) (b := k) (by omega) (by omega)).mp c_1
    exact W.vret hx hb hr (fun t ht hW => ⟨⟨(), rfl, trivial, by dsimp only; rw [ht]; exact (by rw [show k = 6 by omega] at hP; exact hP)⟩, hS.F ht⟩) hS.2.2 dX1_startAnew_63
  · skip
    replace c_1 : ¬ 6 ≤ k := fun h => c_1 ((nI_leI (a := 6) (b := k) (by omega) (by omega)).mpr h)
    refine lv_aload_n hx hb dX1_startAnew_33 rfl (lv_at hl 0 rfl) ?_
    refine va_get (D := D) (ci := 1) (v := .ref q5) (C := RX1) (T := TX1) (N := 9) hx hb hts (fun w h => List.mem_cons_of_mem _ (List.mem_append_right _ h)) hown hK hP 0 rfl rfl 5 (by decide) (hts (Cond.fieldLink RX1 27 "JamDays$Days" "spoons" "[I") (List.mem_of_getElem? (i := 6) rfl)) (fun _ h9 => h9) rfl dX1_startAnew_34 ?_
    refine lv_iload_n hx hb dX1_startAnew_37 rfl (lv_at hl 2 rfl) ?_
    refine lv_iload_n hx hb dX1_startAnew_38 rfl (lv_at hl 2 rfl) ?_
    refine lv_iload_n hx hb dX1_startAnew_39 rfl (lv_at hl 1 rfl) ?_
    refine lv_icmp_ge (tgt := 48) hx hb dX1_startAnew_40 (by decide) (fun c_2 => ?_) (fun c_2 => ?_)
    · skip
      replace c_2 : n ≤ k := (nI_leI (a := n) (b := k) (by omega) (by omega)).mp c_2
      refine lv_iconst (v := 0) hx hb dX1_startAnew_48 (by decide) ?_
      refine jv_ast (k := k) (x := 0) hx hb hK hP hD hS 1 0 rfl rfl (by omega) (by decide) dX1_startAnew_49 (fun H locs hP hD hS => ?_)
      have hP : va_P D vwCl [(q, .inr (1, [.int 0, .int 0, .int 0, .int 0, .int 0, .ref q5, .ref q6, .ref q7, .ref q8])), (q5, .inl (cI, 6, .inl (upd (jfl (fun i => if i < n then 12 else 0) sp k) k 0))), (q6, .inl (cI, 6, .inl (jfl (fun _ => 0) en k))), (q7, .inl (cI, 6, .inl tY)), (q8, .inl (cI, 6, .inl tW))] H := hP
      have hD : va_D A [(q, .inr (1, [.int 0, .int 0, .int 0, .int 0, .int 0, .ref q5, .ref q6, .ref q7, .ref q8])), (q5, .inl (cI, 6, .inl (upd (jfl (fun i => if i < n then 12 else 0) sp k) k 0))), (q6, .inl (cI, 6, .inl (jfl (fun _ => 0) en k))), (q7, .inl (cI, 6, .inl tY)), (q8, .inl (cI, 6, .inl tW))] := hD
      refine lv_aload_n hx hb dX1_startAnew_50 rfl (lv_at hl 0 rfl) ?_
      refine va_get (D := D) (ci := 1) (v := .ref q6) (C := RX1) (T := TX1) (N := 9) hx hb hts (fun w h => List.mem_cons_of_mem _ (List.mem_append_right _ h)) hown hK hP 0 rfl rfl 6 (by decide) (hts (Cond.fieldLink RX1 31 "JamDays$Days" "eatenNow" "[I") (List.mem_of_getElem? (i := 7) rfl)) (fun _ h9 => h9) rfl dX1_startAnew_51 ?_
      refine lv_iload_n hx hb dX1_startAnew_54 rfl (lv_at hl 2 rfl) ?_
      refine lv_iconst (v := 0) hx hb dX1_startAnew_55 (by decide) ?_
      refine jv_ast (k := k) (x := 0) hx hb hK hP hD hS 2 0 rfl rfl (by omega) (by decide) dX1_startAnew_56 (fun H locs hP hD hS => ?_)
      have hP : va_P D vwCl [(q, .inr (1, [.int 0, .int 0, .int 0, .int 0, .int 0, .ref q5, .ref q6, .ref q7, .ref q8])), (q5, .inl (cI, 6, .inl (upd (jfl (fun i => if i < n then 12 else 0) sp k) k 0))), (q6, .inl (cI, 6, .inl (upd (jfl (fun _ => 0) en k) k 0))), (q7, .inl (cI, 6, .inl tY)), (q8, .inl (cI, 6, .inl tW))] H := hP
      have hD : va_D A [(q, .inr (1, [.int 0, .int 0, .int 0, .int 0, .int 0, .ref q5, .ref q6, .ref q7, .ref q8])), (q5, .inl (cI, 6, .inl (upd (jfl (fun i => if i < n then 12 else 0) sp k) k 0))), (q6, .inl (cI, 6, .inl (upd (jfl (fun _ => 0) en k) k 0))), (q7, .inl (cI, 6, .inl tY)), (q8, .inl (cI, 6, .inl tW))] := hD
      refine lv_iinc (v := nI (k + 1)) (lv' := [(2, .int (nI (k + 1))), (0, .ref q), (1, .int (nI n))]) hx hb dX1_startAnew_57 hl (k := 2) rfl ((rfl : nI k + Int32.ofInt 1 = nI k + nI 1).trans (nI_add k 1)) (by decide) rfl (fun ls hl => ?_)
      refine lv_goto (tgt := 27) hx hb dX1_startAnew_60 (by decide) ?_
      have hP : va_P D vwCl [(q, .inr (1, [.int 0, .int 0, .int 0, .int 0, .int 0, .ref q5, .ref q6, .ref q7, .ref q8])), (q5, .inl (cI, 6, .inl (jfl (fun i => if i < n then 12 else 0) sp (k + 1)))), (q6, .inl (cI, 6, .inl (jfl (fun _ => 0) en (k + 1)))), (q7, .inl (cI, 6, .inl tY)), (q8, .inl (cI, 6, .inl tW))] H := by rw [jfl_s (x := 0) (by simp [c_1, c_2]; try omega), jfl_s (x := 0) rfl]; exact hP
      have hD : va_D A [(q, .inr (1, [.int 0, .int 0, .int 0, .int 0, .int 0, .ref q5, .ref q6, .ref q7, .ref q8])), (q5, .inl (cI, 6, .inl (jfl (fun i => if i < n then 12 else 0) sp (k + 1)))), (q6, .inl (cI, 6, .inl (jfl (fun _ => 0) en (k + 1)))), (q7, .inl (cI, 6, .inl tY)), (q8, .inl (cI, 6, .inl tW))] := jD_of hD rfl
      exact ih_27 (k + 1) _ _ _ ⟨hP, hD, hS, lv_sub hl [1, 2, 0] rfl, (by omega)⟩ (by omega)
    · skip
      replace c_2 : ¬ n ≤ k := fun h => c_2 ((nI_leI (a := n) (b := k) (by omega) (by omega)).mpr h)
      refine lv_bipush (v := 12) hx hb dX1_startAnew_43 (by decide) ?_
      refine lv_goto (tgt := 49) hx hb dX1_startAnew_45 (by decide) ?_
      refine jv_ast (k := k) (x := 12) hx hb hK hP hD hS 1 0 rfl rfl (by omega) (by decide) dX1_startAnew_49 (fun H locs hP hD hS => ?_)
      have hP : va_P D vwCl [(q, .inr (1, [.int 0, .int 0, .int 0, .int 0, .int 0, .ref q5, .ref q6, .ref q7, .ref q8])), (q5, .inl (cI, 6, .inl (upd (jfl (fun i => if i < n then 12 else 0) sp k) k 12))), (q6, .inl (cI, 6, .inl (jfl (fun _ => 0) en k))), (q7, .inl (cI, 6, .inl tY)), (q8, .inl (cI, 6, .inl tW))] H := hP
      have hD : va_D A [(q, .inr (1, [.int 0, .int 0, .int 0, .int 0, .int 0, .ref q5, .ref q6, .ref q7, .ref q8])), (q5, .inl (cI, 6, .inl (upd (jfl (fun i => if i < n then 12 else 0) sp k) k 12))), (q6, .inl (cI, 6, .inl (jfl (fun _ => 0) en k))), (q7, .inl (cI, 6, .inl tY)), (q8, .inl (cI, 6, .inl tW))] := hD
      refine lv_aload_n hx hb dX1_startAnew_50 rfl (lv_at hl 0 rfl) ?_
      refine va_get (D := D) (ci := 1) (v := .ref q6) (C := RX1) (T := TX1) (N := 9) hx hb hts (fun w h => List.mem_cons_of_mem _ (List.mem_append_right _ h)) hown hK hP 0 rfl rfl 6 (by decide) (hts (Cond.fieldLink RX1 31 "JamDays$Days" "eatenNow" "[I") (List.mem_of_getElem? (i := 7) rfl)) (fun _ h9 => h9) rfl dX1_startAnew_51 ?_
      refine lv_iload_n hx hb dX1_startAnew_54 rfl (lv_at hl 2 rfl) ?_
      refine lv_iconst (v := 0) hx hb dX1_startAnew_55 (by decide) ?_
      refine jv_ast (k := k) (x := 0) hx hb hK hP hD hS 2 0 rfl rfl (by omega) (by decide) dX1_startAnew_56 (fun H locs hP hD hS => ?_)
      have hP : va_P D vwCl [(q, .inr (1, [.int 0, .int 0, .int 0, .int 0, .int 0, .ref q5, .ref q6, .ref q7, .ref q8])), (q5, .inl (cI, 6, .inl (upd (jfl (fun i => if i < n then 12 else 0) sp k) k 12))), (q6, .inl (cI, 6, .inl (upd (jfl (fun _ => 0) en k) k 0))), (q7, .inl (cI, 6, .inl tY)), (q8, .inl (cI, 6, .inl tW))] H := hP
      have hD : va_D A [(q, .inr (1, [.int 0, .int 0, .int 0, .int 0, .int 0, .ref q5, .ref q6, .ref q7, .ref q8])), (q5, .inl (cI, 6, .inl (upd (jfl (fun i => if i < n then 12 else 0) sp k) k 12))), (q6, .inl (cI, 6, .inl (upd (jfl (fun _ => 0) en k) k 0))), (q7, .inl (cI, 6, .inl tY)), (q8, .inl (cI, 6, .inl tW))] := hD
      refine lv_iinc (v := nI (k + 1)) (lv' := [(2, .int (nI (k + 1))), (0, .ref q), (1, .int (nI n))]) hx hb dX1_startAnew_57 hl (k := 2) rfl ((rfl : nI k + Int32.ofInt 1 = nI k + nI 1).trans (nI_add k 1)) (by decide) rfl (fun ls hl => ?_)
      refine lv_goto (tgt := 27) hx hb dX1_startAnew_60 (by decide) ?_
      have hP : va_P D vwCl [(q, .inr (1, [.int 0, .int 0, .int 0, .int 0, .int 0, .ref q5, .ref q6, .ref q7, .ref q8])), (q5, .inl (cI, 6, .inl (jfl (fun i => if i < n then 12 else 0) sp (k + 1)))), (q6, .inl (cI, 6, .inl (jfl (fun _ => 0) en (k + 1)))), (q7, .inl (cI, 6, .inl tY)), (q8, .inl (cI, 6, .inl tW))] H := by rw [jfl_s (x := 12) (by simp [c_1, c_2]; try omega), jfl_s (x := 0) rfl]; exact hP
      have hD : va_D A [(q, .inr (1, [.int 0, .int 0, .int 0, .int 0, .int 0, .ref q5, .ref q6, .ref q7, .ref q8])), (q5, .inl (cI, 6, .inl (jfl (fun i => if i < n then 12 else 0) sp (k + 1)))), (q6, .inl (cI, 6, .inl (jfl (fun _ => 0) en (k + 1)))), (q7, .inl (cI, 6, .inl tY)), (q8, .inl (cI, 6, .inl tW))] := jD_of hD rfl
      exact ih_27 (k + 1) _ _ _ ⟨hP, hD, hS, lv_sub hl [1, 2, 0] rfl, (by omega)⟩ (by omega)

set_option maxHeartbeats 4000000 in
set_option maxRecDepth 100000 in
theorem c_copyFrom (l : Launch) (D : va_G) (cI cJ : ClassId) (q : Nat) (q5 : Nat) (q6 : Nat) (q7 : Nat) (q8 : Nat) (y : Int32) (ea : Int32) (lo : Int32) (jo : Int32) (ta : Int32) (sp : Nat → Int32) (en : Nat → Int32) (tY : Nat → Int32) (tW : Nat → Int32) (z : Nat) (z5 : Nat) (z6 : Nat) (z7 : Nat) (z8 : Nat) (oy : Int32) (oea : Int32) (olo : Int32) (ojo : Int32) (ota : Int32) (osp : Nat → Int32) (oen : Nat → Int32) (otY : Nat → Int32) (otW : Nat → Int32)  : jWv l yX1_copyFrom wsX1_copyFrom ({ frames := 0, cells := 0, slots := 0, locals := 0 }) 0 0 [.ref q, .ref z] D cI cJ [(q, .inr (1, [.int y, .int ea, .int lo, .int jo, .int ta, .ref q5, .ref q6, .ref q7, .ref q8])), (q5, .inl (cI, 6, .inl sp)), (q6, .inl (cI, 6, .inl en)), (q7, .inl (cI, 6, .inl tY)), (q8, .inl (cI, 6, .inl tW)), (z, .inr (1, [.int oy, .int oea, .int olo, .int ojo, .int ota, .ref z5, .ref z6, .ref z7, .ref z8])), (z5, .inl (cI, 6, .inl osp)), (z6, .inl (cI, 6, .inl oen)), (z7, .inl (cI, 6, .inl otY)), (z8, .inl (cI, 6, .inl otW))] (fun H => True) (fun H => va_P D vwCl [(q, .inr (1, [.int oy, .int oea, .int olo, .int ojo, .int ota, .ref q5, .ref q6, .ref q7, .ref q8])), (q5, .inl (cI, 6, .inl (jfl osp sp 6))), (q6, .inl (cI, 6, .inl (jfl oen en 6))), (q7, .inl (cI, 6, .inl (jfl otY tY 6))), (q8, .inl (cI, 6, .inl (jfl otW tW 6))), (z, .inr (1, [.int oy, .int oea, .int olo, .int ojo, .int ota, .ref z5, .ref z6, .ref z7, .ref z8])), (z5, .inl (cI, 6, .inl osp)), (z6, .inl (cI, 6, .inl oen)), (z7, .inl (cI, 6, .inl otY)), (z8, .inl (cI, 6, .inl otW))] H) := by
  intro sz
  refine Met.ofW (cc := cX1_copyFrom) (maxL := 3) (ret := none) (by decide) rfl ?_
  intro p e s m args below meth c s₁ B hml hv
  obtain ⟨rfl, hsz, hT, hP, hD0, _⟩ := hv
  have hK := hT.1
  have hx := B.exec
  have hb := B.bytes
  have hr := B.returns
  have hts := atoms_spec (ws := wsX1_copyFrom) B.pre
  have hown : s.vm.findClass RX1 = some m.cls := findClass_of_methodNamed B.named
  have hlocks := B.notSynchronized
  subst hsz
  have hD := hD0.self (sz := s.heap.size)
  generalize hAe : va_A [(q, .inr (1, [.int y, .int ea, .int lo, .int jo, .int ta, .ref q5, .ref q6, .ref q7, .ref q8])), (q5, .inl (cI, 6, .inl sp)), (q6, .inl (cI, 6, .inl en)), (q7, .inl (cI, 6, .inl tY)), (q8, .inl (cI, 6, .inl tW)), (z, .inr (1, [.int oy, .int oea, .int olo, .int ojo, .int ota, .ref z5, .ref z6, .ref z7, .ref z8])), (z5, .inl (cI, 6, .inl osp)), (z6, .inl (cI, 6, .inl oen)), (z7, .inl (cI, 6, .inl otY)), (z8, .inl (cI, 6, .inl otW))] s.heap.size = A at hD ⊢
  have hA : ∀ q : Nat, s.heap.size ≤ q → A q := fun q h => by rw [← hAe]; exact Or.inr h
  have hS : va_S A s.heap s.heap [] := va_S.rf
  have hl := lv_entry ([.ref q, .ref z] : List Value) (n := 3) (Nat.le_of_ble_eq_true rfl)
  rw [lg_entry_eq]
  generalize (lg_sl ([.ref q, .ref z]) ++ List.replicate (3 - (lg_sl ([.ref q, .ref z])).length) Slot.unset).toArray = ls at hl ⊢
  have hl : lv_has ls 3 [(0, .ref q), (1, .ref z)] := hl
  refine lv_aload_n hx hb dX1_copyFrom_0 rfl (lv_at hl 1 rfl) ?_
  refine lv_ifnonnull (tgt := 5) hx hb dX1_copyFrom_1 (by decide) ?_
  refine lv_aload_n hx hb dX1_copyFrom_5 rfl (lv_at hl 0 rfl) ?_
  refine lv_aload_n hx hb dX1_copyFrom_6 rfl (lv_at hl 1 rfl) ?_
  refine va_get (D := D) (ci := 1) (v := .int oy) (C := RX1) (T := TX1) (N := 9) hx hb hts (fun w h => List.mem_cons_of_mem _ (List.mem_append_right _ h)) hown hK hP 5 rfl rfl 0 (by decide) (hts (Cond.fieldLink RX1 9 "JamDays$Days" "year" "I") (List.mem_of_getElem? (i := 1) rfl)) (fun _ h9 => h9) rfl dX1_copyFrom_7 ?_
  refine va_put (D := D) (ci := 1) (v := .int oy) (ty := .int) (C := RX1) (T := TX1) (N := 9) hx hb hts (fun w h => List.mem_cons_of_mem _ (List.mem_append_right _ h)) tyX1 tyX1_ok nmX1 hown hK hP hD hS 0 rfl rfl 0 (by decide) (hts (Cond.fieldLink RX1 9 "JamDays$Days" "year" "I") (List.mem_of_getElem? (i := 1) rfl)) (fun _ h9 => h9) rfl (by decide +kernel) rfl rfl (Nat.le_of_ble_eq_true rfl) dX1_copyFrom_10 (fun H locs hP hD hS => ?_)
  have hP : va_P D vwCl [(q, .inr (1, [.int oy, .int ea, .int lo, .int jo, .int ta, .ref q5, .ref q6, .ref q7, .ref q8])), (q5, .inl (cI, 6, .inl sp)), (q6, .inl (cI, 6, .inl en)), (q7, .inl (cI, 6, .inl tY)), (q8, .inl (cI, 6, .inl tW)), (z, .inr (1, [.int oy, .int oea, .int olo, .int ojo, .int ota, .ref z5, .ref z6, .ref z7, .ref z8])), (z5, .inl (cI, 6, .inl osp)), (z6, .inl (cI, 6, .inl oen)), (z7, .inl (cI, 6, .inl otY)), (z8, .inl (cI, 6, .inl otW))] H := hP
  have hD : va_D A [(q, .inr (1, [.int oy, .int ea, .int lo, .int jo, .int ta, .ref q5, .ref q6, .ref q7, .ref q8])), (q5, .inl (cI, 6, .inl sp)), (q6, .inl (cI, 6, .inl en)), (q7, .inl (cI, 6, .inl tY)), (q8, .inl (cI, 6, .inl tW)), (z, .inr (1, [.int oy, .int oea, .int olo, .int ojo, .int ota, .ref z5, .ref z6, .ref z7, .ref z8])), (z5, .inl (cI, 6, .inl osp)), (z6, .inl (cI, 6, .inl oen)), (z7, .inl (cI, 6, .inl otY)), (z8, .inl (cI, 6, .inl otW))] := hD
  refine lv_aload_n hx hb dX1_copyFrom_13 rfl (lv_at hl 0 rfl) ?_
  refine lv_aload_n hx hb dX1_copyFrom_14 rfl (lv_at hl 1 rfl) ?_
  refine va_get (D := D) (ci := 1) (v := .int oea) (C := RX1) (T := TX1) (N := 9) hx hb hts (fun w h => List.mem_cons_of_mem _ (List.mem_append_right _ h)) hown hK hP 5 rfl rfl 1 (by decide) (hts (Cond.fieldLink RX1 15 "JamDays$Days" "eaten" "I") (List.mem_of_getElem? (i := 2) rfl)) (fun _ h9 => h9) rfl dX1_copyFrom_15 ?_
  refine va_put (D := D) (ci := 1) (v := .int oea) (ty := .int) (C := RX1) (T := TX1) (N := 9) hx hb hts (fun w h => List.mem_cons_of_mem _ (List.mem_append_right _ h)) tyX1 tyX1_ok nmX1 hown hK hP hD hS 0 rfl rfl 1 (by decide) (hts (Cond.fieldLink RX1 15 "JamDays$Days" "eaten" "I") (List.mem_of_getElem? (i := 2) rfl)) (fun _ h9 => h9) rfl (by decide +kernel) rfl rfl (Nat.le_of_ble_eq_true rfl) dX1_copyFrom_18 (fun H locs hP hD hS => ?_)
  have hP : va_P D vwCl [(q, .inr (1, [.int oy, .int oea, .int lo, .int jo, .int ta, .ref q5, .ref q6, .ref q7, .ref q8])), (q5, .inl (cI, 6, .inl sp)), (q6, .inl (cI, 6, .inl en)), (q7, .inl (cI, 6, .inl tY)), (q8, .inl (cI, 6, .inl tW)), (z, .inr (1, [.int oy, .int oea, .int olo, .int ojo, .int ota, .ref z5, .ref z6, .ref z7, .ref z8])), (z5, .inl (cI, 6, .inl osp)), (z6, .inl (cI, 6, .inl oen)), (z7, .inl (cI, 6, .inl otY)), (z8, .inl (cI, 6, .inl otW))] H := hP
  have hD : va_D A [(q, .inr (1, [.int oy, .int oea, .int lo, .int jo, .int ta, .ref q5, .ref q6, .ref q7, .ref q8])), (q5, .inl (cI, 6, .inl sp)), (q6, .inl (cI, 6, .inl en)), (q7, .inl (cI, 6, .inl tY)), (q8, .inl (cI, 6, .inl tW)), (z, .inr (1, [.int oy, .int oea, .int olo, .int ojo, .int ota, .ref z5, .ref z6, .ref z7, .ref z8])), (z5, .inl (cI, 6, .inl osp)), (z6, .inl (cI, 6, .inl oen)), (z7, .inl (cI, 6, .inl otY)), (z8, .inl (cI, 6, .inl otW))] := hD
  refine lv_aload_n hx hb dX1_copyFrom_21 rfl (lv_at hl 0 rfl) ?_
  refine lv_aload_n hx hb dX1_copyFrom_22 rfl (lv_at hl 1 rfl) ?_
  refine va_get (D := D) (ci := 1) (v := .int olo) (C := RX1) (T := TX1) (N := 9) hx hb hts (fun w h => List.mem_cons_of_mem _ (List.mem_append_right _ h)) hown hK hP 5 rfl rfl 2 (by decide) (hts (Cond.fieldLink RX1 18 "JamDays$Days" "lost" "I") (List.mem_of_getElem? (i := 3) rfl)) (fun _ h9 => h9) rfl dX1_copyFrom_23 ?_
  refine va_put (D := D) (ci := 1) (v := .int olo) (ty := .int) (C := RX1) (T := TX1) (N := 9) hx hb hts (fun w h => List.mem_cons_of_mem _ (List.mem_append_right _ h)) tyX1 tyX1_ok nmX1 hown hK hP hD hS 0 rfl rfl 2 (by decide) (hts (Cond.fieldLink RX1 18 "JamDays$Days" "lost" "I") (List.mem_of_getElem? (i := 3) rfl)) (fun _ h9 => h9) rfl (by decide +kernel) rfl rfl (Nat.le_of_ble_eq_true rfl) dX1_copyFrom_26 (fun H locs hP hD hS => ?_)
  have hP : va_P D vwCl [(q, .inr (1, [.int oy, .int oea, .int olo, .int jo, .int ta, .ref q5, .ref q6, .ref q7, .ref q8])), (q5, .inl (cI, 6, .inl sp)), (q6, .inl (cI, 6, .inl en)), (q7, .inl (cI, 6, .inl tY)), (q8, .inl (cI, 6, .inl tW)), (z, .inr (1, [.int oy, .int oea, .int olo, .int ojo, .int ota, .ref z5, .ref z6, .ref z7, .ref z8])), (z5, .inl (cI, 6, .inl osp)), (z6, .inl (cI, 6, .inl oen)), (z7, .inl (cI, 6, .inl otY)), (z8, .inl (cI, 6, .inl otW))] H := hP
  have hD : va_D A [(q, .inr (1, [.int oy, .int oea, .int olo, .int jo, .int ta, .ref q5, .ref q6, .ref q7, .ref q8])), (q5, .inl (cI, 6, .inl sp)), (q6, .inl (cI, 6, .inl en)), (q7, .inl (cI, 6, .inl tY)), (q8, .inl (cI, 6, .inl tW)), (z, .inr (1, [.int oy, .int oea, .int olo, .int ojo, .int ota, .ref z5, .ref z6, .ref z7, .ref z8])), (z5, .inl (cI, 6, .inl osp)), (z6, .inl (cI, 6, .inl oen)), (z7, .inl (cI, 6, .inl otY)), (z8, .inl (cI, 6, .inl otW))] := hD
  refine lv_aload_n hx hb dX1_copyFrom_29 rfl (lv_at hl 0 rfl) ?_
  refine lv_aload_n hx hb dX1_copyFrom_30 rfl (lv_at hl 1 rfl) ?_
  refine va_get (D := D) (ci := 1) (v := .int ojo) (C := RX1) (T := TX1) (N := 9) hx hb hts (fun w h => List.mem_cons_of_mem _ (List.mem_append_right _ h)) hown hK hP 5 rfl rfl 3 (by decide) (hts (Cond.fieldLink RX1 21 "JamDays$Days" "joy" "I") (List.mem_of_getElem? (i := 4) rfl)) (fun _ h9 => h9) rfl dX1_copyFrom_31 ?_
  refine va_put (D := D) (ci := 1) (v := .int ojo) (ty := .int) (C := RX1) (T := TX1) (N := 9) hx hb hts (fun w h => List.mem_cons_of_mem _ (List.mem_append_right _ h)) tyX1 tyX1_ok nmX1 hown hK hP hD hS 0 rfl rfl 3 (by decide) (hts (Cond.fieldLink RX1 21 "JamDays$Days" "joy" "I") (List.mem_of_getElem? (i := 4) rfl)) (fun _ h9 => h9) rfl (by decide +kernel) rfl rfl (Nat.le_of_ble_eq_true rfl) dX1_copyFrom_34 (fun H locs hP hD hS => ?_)
  have hP : va_P D vwCl [(q, .inr (1, [.int oy, .int oea, .int olo, .int ojo, .int ta, .ref q5, .ref q6, .ref q7, .ref q8])), (q5, .inl (cI, 6, .inl sp)), (q6, .inl (cI, 6, .inl en)), (q7, .inl (cI, 6, .inl tY)), (q8, .inl (cI, 6, .inl tW)), (z, .inr (1, [.int oy, .int oea, .int olo, .int ojo, .int ota, .ref z5, .ref z6, .ref z7, .ref z8])), (z5, .inl (cI, 6, .inl osp)), (z6, .inl (cI, 6, .inl oen)), (z7, .inl (cI, 6, .inl otY)), (z8, .inl (cI, 6, .inl otW))] H := hP
  have hD : va_D A [(q, .inr (1, [.int oy, .int oea, .int olo, .int ojo, .int ta, .ref q5, .ref q6, .ref q7, .ref q8])), (q5, .inl (cI, 6, .inl sp)), (q6, .inl (cI, 6, .inl en)), (q7, .inl (cI, 6, .inl tY)), (q8, .inl (cI, 6, .inl tW)), (z, .inr (1, [.int oy, .int oea, .int olo, .int ojo, .int ota, .ref z5, .ref z6, .ref z7, .ref z8])), (z5, .inl (cI, 6, .inl osp)), (z6, .inl (cI, 6, .inl oen)), (z7, .inl (cI, 6, .inl otY)), (z8, .inl (cI, 6, .inl otW))] := hD
  refine lv_aload_n hx hb dX1_copyFrom_37 rfl (lv_at hl 0 rfl) ?_
  refine lv_aload_n hx hb dX1_copyFrom_38 rfl (lv_at hl 1 rfl) ?_
  refine va_get (D := D) (ci := 1) (v := .int ota) (C := RX1) (T := TX1) (N := 9) hx hb hts (fun w h => List.mem_cons_of_mem _ (List.mem_append_right _ h)) hown hK hP 5 rfl rfl 4 (by decide) (hts (Cond.fieldLink RX1 24 "JamDays$Days" "tasted" "I") (List.mem_of_getElem? (i := 5) rfl)) (fun _ h9 => h9) rfl dX1_copyFrom_39 ?_
  refine va_put (D := D) (ci := 1) (v := .int ota) (ty := .int) (C := RX1) (T := TX1) (N := 9) hx hb hts (fun w h => List.mem_cons_of_mem _ (List.mem_append_right _ h)) tyX1 tyX1_ok nmX1 hown hK hP hD hS 0 rfl rfl 4 (by decide) (hts (Cond.fieldLink RX1 24 "JamDays$Days" "tasted" "I") (List.mem_of_getElem? (i := 5) rfl)) (fun _ h9 => h9) rfl (by decide +kernel) rfl rfl (Nat.le_of_ble_eq_true rfl) dX1_copyFrom_42 (fun H locs hP hD hS => ?_)
  have hP : va_P D vwCl [(q, .inr (1, [.int oy, .int oea, .int olo, .int ojo, .int ota, .ref q5, .ref q6, .ref q7, .ref q8])), (q5, .inl (cI, 6, .inl sp)), (q6, .inl (cI, 6, .inl en)), (q7, .inl (cI, 6, .inl tY)), (q8, .inl (cI, 6, .inl tW)), (z, .inr (1, [.int oy, .int oea, .int olo, .int ojo, .int ota, .ref z5, .ref z6, .ref z7, .ref z8])), (z5, .inl (cI, 6, .inl osp)), (z6, .inl (cI, 6, .inl oen)), (z7, .inl (cI, 6, .inl otY)), (z8, .inl (cI, 6, .inl otW))] H := hP
  have hD : va_D A [(q, .inr (1, [.int oy, .int oea, .int olo, .int ojo, .int ota, .ref q5, .ref q6, .ref q7, .ref q8])), (q5, .inl (cI, 6, .inl sp)), (q6, .inl (cI, 6, .inl en)), (q7, .inl (cI, 6, .inl tY)), (q8, .inl (cI, 6, .inl tW)), (z, .inr (1, [.int oy, .int oea, .int olo, .int ojo, .int ota, .ref z5, .ref z6, .ref z7, .ref z8])), (z5, .inl (cI, 6, .inl osp)), (z6, .inl (cI, 6, .inl oen)), (z7, .inl (cI, 6, .inl otY)), (z8, .inl (cI, 6, .inl otW))] := hD
  refine lv_iconst (v := 0) hx hb dX1_copyFrom_45 (by decide) ?_
  refine lv_istore_n (lv' := [(2, .int 0), (0, .ref q), (1, .ref z)]) hx hb dX1_copyFrom_46 rfl hl (by decide) rfl (fun ls hl => ?_)
  have hP : va_P D vwCl [(q, .inr (1, [.int oy, .int oea, .int olo, .int ojo, .int ota, .ref q5, .ref q6, .ref q7, .ref q8])), (q5, .inl (cI, 6, .inl (jfl osp sp 0))), (q6, .inl (cI, 6, .inl (jfl oen en 0))), (q7, .inl (cI, 6, .inl tY)), (q8, .inl (cI, 6, .inl tW)), (z, .inr (1, [.int oy, .int oea, .int olo, .int ojo, .int ota, .ref z5, .ref z6, .ref z7, .ref z8])), (z5, .inl (cI, 6, .inl osp)), (z6, .inl (cI, 6, .inl oen)), (z7, .inl (cI, 6, .inl otY)), (z8, .inl (cI, 6, .inl otW))] H := by rw [jfl_0, jfl_0]; exact hP
  have hD : va_D A [(q, .inr (1, [.int oy, .int oea, .int olo, .int ojo, .int ota, .ref q5, .ref q6, .ref q7, .ref q8])), (q5, .inl (cI, 6, .inl (jfl osp sp 0))), (q6, .inl (cI, 6, .inl (jfl oen en 0))), (q7, .inl (cI, 6, .inl tY)), (q8, .inl (cI, 6, .inl tW)), (z, .inr (1, [.int oy, .int oea, .int olo, .int ojo, .int ota, .ref z5, .ref z6, .ref z7, .ref z8])), (z5, .inl (cI, 6, .inl osp)), (z6, .inl (cI, 6, .inl oen)), (z7, .inl (cI, 6, .inl otY)), (z8, .inl (cI, 6, .inl otW))] := jD_of hD rfl
  refine jloop (α := Nat) (fun (k : Nat) (H : Heap) (locs : List Loc) (ls : Array Slot) => (va_P D vwCl [(q, .inr (1, [.int oy, .int oea, .int olo, .int ojo, .int ota, .ref q5, .ref q6, .ref q7, .ref q8])), (q5, .inl (cI, 6, .inl (jfl osp sp k))), (q6, .inl (cI, 6, .inl (jfl oen en k))), (q7, .inl (cI, 6, .inl tY)), (q8, .inl (cI, 6, .inl tW)), (z, .inr (1, [.int oy, .int oea, .int olo, .int ojo, .int ota, .ref z5, .ref z6, .ref z7, .ref z8])), (z5, .inl (cI, 6, .inl osp)), (z6, .inl (cI, 6, .inl oen)), (z7, .inl (cI, 6, .inl otY)), (z8, .inl (cI, 6, .inl otW))] H) ∧ (va_D A [(q, .inr (1, [.int oy, .int oea, .int olo, .int ojo, .int ota, .ref q5, .ref q6, .ref q7, .ref q8])), (q5, .inl (cI, 6, .inl (jfl osp sp k))), (q6, .inl (cI, 6, .inl (jfl oen en k))), (q7, .inl (cI, 6, .inl tY)), (q8, .inl (cI, 6, .inl tW)), (z, .inr (1, [.int oy, .int oea, .int olo, .int ojo, .int ota, .ref z5, .ref z6, .ref z7, .ref z8])), (z5, .inl (cI, 6, .inl osp)), (z6, .inl (cI, 6, .inl oen)), (z7, .inl (cI, 6, .inl otY)), (z8, .inl (cI, 6, .inl otW))]) ∧ (va_S A s.heap H locs) ∧ (lv_has ls 3 [(0, .ref q), (1, .ref z), (2, .int (nI k))]) ∧ (k ≤ 6)) (fun (k : Nat) => 6 - k) (fun k H locs ls hx9 ih_47 => ?_) 0 _ _ _ ⟨hP, hD, hS, lv_sub hl [1, 2, 0] rfl, (by omega)⟩
  obtain ⟨hP, hD, hS, hl, hk9⟩ := hx9
  refine lv_iload_n hx hb dX1_copyFrom_47 rfl (lv_at hl 2 rfl) ?_
  refine lv_bipush (v := 6) hx hb dX1_copyFrom_48 (by decide) ?_
  refine lv_icmp_ge (tgt := 83) hx hb dX1_copyFrom_50 (by decide) (fun c_1 => ?_) (fun c_1 => ?_)
  · skip
    replace c_1 : 6 ≤ k := (nI_leI (a := 6) (b := k) (by omega) (by omega)).mp c_1
    obtain rfl : k = 6 := by omega
    refine lv_iconst (v := 0) hx hb dX1_copyFrom_83 (by decide) ?_
    refine lv_istore_n (lv' := [(2, .int 0), (0, .ref q), (1, .ref z)]) hx hb dX1_copyFrom_84 rfl hl (by decide) rfl (fun ls hl => ?_)
    have hP : va_P D vwCl [(q, .inr (1, [.int oy, .int oea, .int olo, .int ojo, .int ota, .ref q5, .ref q6, .ref q7, .ref q8])), (q5, .inl (cI, 6, .inl (jfl osp sp 6))), (q6, .inl (cI, 6, .inl (jfl oen en 6))), (q7, .inl (cI, 6, .inl (jfl otY tY 0))), (q8, .inl (cI, 6, .inl (jfl otW tW 0))), (z, .inr (1, [.int oy, .int oea, .int olo, .int ojo, .int ota, .ref z5, .ref z6, .ref z7, .ref z8])), (z5, .inl (cI, 6, .inl osp)), (z6, .inl (cI, 6, .inl oen)), (z7, .inl (cI, 6, .inl otY)), (z8, .inl (cI, 6, .inl otW))] H := by rw [jfl_0, jfl_0]; exact hP
    have hD : va_D A [(q, .inr (1, [.int oy, .int oea, .int olo, .int ojo, .int ota, .ref q5, .ref q6, .ref q7, .ref q8])), (q5, .inl (cI, 6, .inl (jfl osp sp 6))), (q6, .inl (cI, 6, .inl (jfl oen en 6))), (q7, .inl (cI, 6, .inl (jfl otY tY 0))), (q8, .inl (cI, 6, .inl (jfl otW tW 0))), (z, .inr (1, [.int oy, .int oea, .int olo, .int ojo, .int ota, .ref z5, .ref z6, .ref z7, .ref z8])), (z5, .inl (cI, 6, .inl osp)), (z6, .inl (cI, 6, .inl oen)), (z7, .inl (cI, 6, .inl otY)), (z8, .inl (cI, 6, .inl otW))] := jD_of hD rfl
    refine jloop (α := Nat) (fun (k : Nat) (H : Heap) (locs : List Loc) (ls : Array Slot) => (va_P D vwCl [(q, .inr (1, [.int oy, .int oea, .int olo, .int ojo, .int ota, .ref q5, .ref q6, .ref q7, .ref q8])), (q5, .inl (cI, 6, .inl (jfl osp sp 6))), (q6, .inl (cI, 6, .inl (jfl oen en 6))), (q7, .inl (cI, 6, .inl (jfl otY tY k))), (q8, .inl (cI, 6, .inl (jfl otW tW k))), (z, .inr (1, [.int oy, .int oea, .int olo, .int ojo, .int ota, .ref z5, .ref z6, .ref z7, .ref z8])), (z5, .inl (cI, 6, .inl osp)), (z6, .inl (cI, 6, .inl oen)), (z7, .inl (cI, 6, .inl otY)), (z8, .inl (cI, 6, .inl otW))] H) ∧ (va_D A [(q, .inr (1, [.int oy, .int oea, .int olo, .int ojo, .int ota, .ref q5, .ref q6, .ref q7, .ref q8])), (q5, .inl (cI, 6, .inl (jfl osp sp 6))), (q6, .inl (cI, 6, .inl (jfl oen en 6))), (q7, .inl (cI, 6, .inl (jfl otY tY k))), (q8, .inl (cI, 6, .inl (jfl otW tW k))), (z, .inr (1, [.int oy, .int oea, .int olo, .int ojo, .int ota, .ref z5, .ref z6, .ref z7, .ref z8])), (z5, .inl (cI, 6, .inl osp)), (z6, .inl (cI, 6, .inl oen)), (z7, .inl (cI, 6, .inl otY)), (z8, .inl (cI, 6, .inl otW))]) ∧ (va_S A s.heap H locs) ∧ (lv_has ls 3 [(0, .ref q), (1, .ref z), (2, .int (nI k))]) ∧ (k ≤ 6)) (fun (k : Nat) => 6 - k) (fun k H locs ls hx9 ih_85 => ?_) 0 _ _ _ ⟨hP, hD, hS, lv_sub hl [1, 2, 0] rfl, (by omega)⟩
    obtain ⟨hP, hD, hS, hl, hk9⟩ := hx9
    refine lv_iload_n hx hb dX1_copyFrom_85 rfl (lv_at hl 2 rfl) ?_
    refine lv_bipush (v := 6) hx hb dX1_copyFrom_86 (by decide) ?_
    refine lv_icmp_ge (tgt := 121) hx hb dX1_copyFrom_88 (by decide) (fun c_2 => ?_) (fun c_2 => ?_)
    · skip
      replace c_2 : 6 ≤ k := (nI_leI (a := 6) (b := k) (by omega) (by omega)).mp c_2
      exact W.vret hx hb hr (fun t ht hW => ⟨⟨(), rfl, trivial, by dsimp only; rw [ht]; exact (by rw [show k = 6 by omega] at hP; exact hP)⟩, hS.F ht⟩) hS.2.2 dX1_copyFrom_121
    · skip
      replace c_2 : ¬ 6 ≤ k := fun h => c_2 ((nI_leI (a := 6) (b := k) (by omega) (by omega)).mpr h)
      refine lv_aload_n hx hb dX1_copyFrom_91 rfl (lv_at hl 0 rfl) ?_
      refine va_get (D := D) (ci := 1) (v := .ref q7) (C := RX1) (T := TX1) (N := 9) hx hb hts (fun w h => List.mem_cons_of_mem _ (List.mem_append_right _ h)) hown hK hP 0 rfl rfl 7 (by decide) (hts (Cond.fieldLink RX1 34 "JamDays$Days" "tastedYear" "[I") (List.mem_of_getElem? (i := 8) rfl)) (fun _ h9 => h9) rfl dX1_copyFrom_92 ?_
      refine lv_iload_n hx hb dX1_copyFrom_95 rfl (lv_at hl 2 rfl) ?_
      refine lv_aload_n hx hb dX1_copyFrom_96 rfl (lv_at hl 1 rfl) ?_
      refine va_get (D := D) (ci := 1) (v := .ref z7) (C := RX1) (T := TX1) (N := 9) hx hb hts (fun w h => List.mem_cons_of_mem _ (List.mem_append_right _ h)) hown hK hP 5 rfl rfl 7 (by decide) (hts (Cond.fieldLink RX1 34 "JamDays$Days" "tastedYear" "[I") (List.mem_of_getElem? (i := 8) rfl)) (fun _ h9 => h9) rfl dX1_copyFrom_97 ?_
      refine lv_iload_n hx hb dX1_copyFrom_100 rfl (lv_at hl 2 rfl) ?_
      refine jv_ald (k := k) hx hb hK hP 8 0 rfl rfl (by omega) (by decide) dX1_copyFrom_101 ?_
      refine jv_ast (k := k) (x := otY k) hx hb hK hP hD hS 3 0 rfl rfl (by omega) (by decide) dX1_copyFrom_102 (fun H locs hP hD hS => ?_)
      have hP : va_P D vwCl [(q, .inr (1, [.int oy, .int oea, .int olo, .int ojo, .int ota, .ref q5, .ref q6, .ref q7, .ref q8])), (q5, .inl (cI, 6, .inl (jfl osp sp 6))), (q6, .inl (cI, 6, .inl (jfl oen en 6))), (q7, .inl (cI, 6, .inl (upd (jfl otY tY k) k (otY k)))), (q8, .inl (cI, 6, .inl (jfl otW tW k))), (z, .inr (1, [.int oy, .int oea, .int olo, .int ojo, .int ota, .ref z5, .ref z6, .ref z7, .ref z8])), (z5, .inl (cI, 6, .inl osp)), (z6, .inl (cI, 6, .inl oen)), (z7, .inl (cI, 6, .inl otY)), (z8, .inl (cI, 6, .inl otW))] H := hP
      have hD : va_D A [(q, .inr (1, [.int oy, .int oea, .int olo, .int ojo, .int ota, .ref q5, .ref q6, .ref q7, .ref q8])), (q5, .inl (cI, 6, .inl (jfl osp sp 6))), (q6, .inl (cI, 6, .inl (jfl oen en 6))), (q7, .inl (cI, 6, .inl (upd (jfl otY tY k) k (otY k)))), (q8, .inl (cI, 6, .inl (jfl otW tW k))), (z, .inr (1, [.int oy, .int oea, .int olo, .int ojo, .int ota, .ref z5, .ref z6, .ref z7, .ref z8])), (z5, .inl (cI, 6, .inl osp)), (z6, .inl (cI, 6, .inl oen)), (z7, .inl (cI, 6, .inl otY)), (z8, .inl (cI, 6, .inl otW))] := hD
      refine lv_aload_n hx hb dX1_copyFrom_103 rfl (lv_at hl 0 rfl) ?_
      refine va_get (D := D) (ci := 1) (v := .ref q8) (C := RX1) (T := TX1) (N := 9) hx hb hts (fun w h => List.mem_cons_of_mem _ (List.mem_append_right _ h)) hown hK hP 0 rfl rfl 8 (by decide) (hts (Cond.fieldLink RX1 37 "JamDays$Days" "tastedWorth" "[I") (List.mem_of_getElem? (i := 9) rfl)) (fun _ h9 => h9) rfl dX1_copyFrom_104 ?_
      refine lv_iload_n hx hb dX1_copyFrom_107 rfl (lv_at hl 2 rfl) ?_
      refine lv_aload_n hx hb dX1_copyFrom_108 rfl (lv_at hl 1 rfl) ?_
      refine va_get (D := D) (ci := 1) (v := .ref z8) (C := RX1) (T := TX1) (N := 9) hx hb hts (fun w h => List.mem_cons_of_mem _ (List.mem_append_right _ h)) hown hK hP 5 rfl rfl 8 (by decide) (hts (Cond.fieldLink RX1 37 "JamDays$Days" "tastedWorth" "[I") (List.mem_of_getElem? (i := 9) rfl)) (fun _ h9 => h9) rfl dX1_copyFrom_109 ?_
      refine lv_iload_n hx hb dX1_copyFrom_112 rfl (lv_at hl 2 rfl) ?_
      refine jv_ald (k := k) hx hb hK hP 9 0 rfl rfl (by omega) (by decide) dX1_copyFrom_113 ?_
      refine jv_ast (k := k) (x := otW k) hx hb hK hP hD hS 4 0 rfl rfl (by omega) (by decide) dX1_copyFrom_114 (fun H locs hP hD hS => ?_)
      have hP : va_P D vwCl [(q, .inr (1, [.int oy, .int oea, .int olo, .int ojo, .int ota, .ref q5, .ref q6, .ref q7, .ref q8])), (q5, .inl (cI, 6, .inl (jfl osp sp 6))), (q6, .inl (cI, 6, .inl (jfl oen en 6))), (q7, .inl (cI, 6, .inl (upd (jfl otY tY k) k (otY k)))), (q8, .inl (cI, 6, .inl (upd (jfl otW tW k) k (otW k)))), (z, .inr (1, [.int oy, .int oea, .int olo, .int ojo, .int ota, .ref z5, .ref z6, .ref z7, .ref z8])), (z5, .inl (cI, 6, .inl osp)), (z6, .inl (cI, 6, .inl oen)), (z7, .inl (cI, 6, .inl otY)), (z8, .inl (cI, 6, .inl otW))] H := hP
      have hD : va_D A [(q, .inr (1, [.int oy, .int oea, .int olo, .int ojo, .int ota, .ref q5, .ref q6, .ref q7, .ref q8])), (q5, .inl (cI, 6, .inl (jfl osp sp 6))), (q6, .inl (cI, 6, .inl (jfl oen en 6))), (q7, .inl (cI, 6, .inl (upd (jfl otY tY k) k (otY k)))), (q8, .inl (cI, 6, .inl (upd (jfl otW tW k) k (otW k)))), (z, .inr (1, [.int oy, .int oea, .int olo, .int ojo, .int ota, .ref z5, .ref z6, .ref z7, .ref z8])), (z5, .inl (cI, 6, .inl osp)), (z6, .inl (cI, 6, .inl oen)), (z7, .inl (cI, 6, .inl otY)), (z8, .inl (cI, 6, .inl otW))] := hD
      refine lv_iinc (v := nI (k + 1)) (lv' := [(2, .int (nI (k + 1))), (0, .ref q), (1, .ref z)]) hx hb dX1_copyFrom_115 hl (k := 2) rfl ((rfl : nI k + Int32.ofInt 1 = nI k + nI 1).trans (nI_add k 1)) (by decide) rfl (fun ls hl => ?_)
      refine lv_goto (tgt := 85) hx hb dX1_copyFrom_118 (by decide) ?_
      have hP : va_P D vwCl [(q, .inr (1, [.int oy, .int oea, .int olo, .int ojo, .int ota, .ref q5, .ref q6, .ref q7, .ref q8])), (q5, .inl (cI, 6, .inl (jfl osp sp 6))), (q6, .inl (cI, 6, .inl (jfl oen en 6))), (q7, .inl (cI, 6, .inl (jfl otY tY (k + 1)))), (q8, .inl (cI, 6, .inl (jfl otW tW (k + 1)))), (z, .inr (1, [.int oy, .int oea, .int olo, .int ojo, .int ota, .ref z5, .ref z6, .ref z7, .ref z8])), (z5, .inl (cI, 6, .inl osp)), (z6, .inl (cI, 6, .inl oen)), (z7, .inl (cI, 6, .inl otY)), (z8, .inl (cI, 6, .inl otW))] H := by rw [jfl_s (x := (otY k)) rfl, jfl_s (x := (otW k)) rfl]; exact hP
      have hD : va_D A [(q, .inr (1, [.int oy, .int oea, .int olo, .int ojo, .int ota, .ref q5, .ref q6, .ref q7, .ref q8])), (q5, .inl (cI, 6, .inl (jfl osp sp 6))), (q6, .inl (cI, 6, .inl (jfl oen en 6))), (q7, .inl (cI, 6, .inl (jfl otY tY (k + 1)))), (q8, .inl (cI, 6, .inl (jfl otW tW (k + 1)))), (z, .inr (1, [.int oy, .int oea, .int olo, .int ojo, .int ota, .ref z5, .ref z6, .ref z7, .ref z8])), (z5, .inl (cI, 6, .inl osp)), (z6, .inl (cI, 6, .inl oen)), (z7, .inl (cI, 6, .inl otY)), (z8, .inl (cI, 6, .inl otW))] := jD_of hD rfl
      exact ih_85 (k + 1) _ _ _ ⟨hP, hD, hS, lv_sub hl [1, 2, 0] rfl, (by omega)⟩ (by omega)
  · skip
    replace c_1 : ¬ 6 ≤ k := fun h => c_1 ((nI_leI (a := 6) (b := k) (by omega) (by omega)).mpr h)
    refine lv_aload_n hx hb dX1_copyFrom_53 rfl (lv_at hl 0 rfl) ?_
    refine va_get (D := D) (ci := 1) (v := .ref q5) (C := RX1) (T := TX1) (N := 9) hx hb hts (fun w h => List.mem_cons_of_mem _ (List.mem_append_right _ h)) hown hK hP 0 rfl rfl 5 (by decide) (hts (Cond.fieldLink RX1 27 "JamDays$Days" "spoons" "[I") (List.mem_of_getElem? (i := 6) rfl)) (fun _ h9 => h9) rfl dX1_copyFrom_54 ?_
    refine lv_iload_n hx hb dX1_copyFrom_57 rfl (lv_at hl 2 rfl) ?_
    refine lv_aload_n hx hb dX1_copyFrom_58 rfl (lv_at hl 1 rfl) ?_
    refine va_get (D := D) (ci := 1) (v := .ref z5) (C := RX1) (T := TX1) (N := 9) hx hb hts (fun w h => List.mem_cons_of_mem _ (List.mem_append_right _ h)) hown hK hP 5 rfl rfl 5 (by decide) (hts (Cond.fieldLink RX1 27 "JamDays$Days" "spoons" "[I") (List.mem_of_getElem? (i := 6) rfl)) (fun _ h9 => h9) rfl dX1_copyFrom_59 ?_
    refine lv_iload_n hx hb dX1_copyFrom_62 rfl (lv_at hl 2 rfl) ?_
    refine jv_ald (k := k) hx hb hK hP 6 0 rfl rfl (by omega) (by decide) dX1_copyFrom_63 ?_
    refine jv_ast (k := k) (x := osp k) hx hb hK hP hD hS 1 0 rfl rfl (by omega) (by decide) dX1_copyFrom_64 (fun H locs hP hD hS => ?_)
    have hP : va_P D vwCl [(q, .inr (1, [.int oy, .int oea, .int olo, .int ojo, .int ota, .ref q5, .ref q6, .ref q7, .ref q8])), (q5, .inl (cI, 6, .inl (upd (jfl osp sp k) k (osp k)))), (q6, .inl (cI, 6, .inl (jfl oen en k))), (q7, .inl (cI, 6, .inl tY)), (q8, .inl (cI, 6, .inl tW)), (z, .inr (1, [.int oy, .int oea, .int olo, .int ojo, .int ota, .ref z5, .ref z6, .ref z7, .ref z8])), (z5, .inl (cI, 6, .inl osp)), (z6, .inl (cI, 6, .inl oen)), (z7, .inl (cI, 6, .inl otY)), (z8, .inl (cI, 6, .inl otW))] H := hP
    have hD : va_D A [(q, .inr (1, [.int oy, .int oea, .int olo, .int ojo, .int ota, .ref q5, .ref q6, .ref q7, .ref q8])), (q5, .inl (cI, 6, .inl (upd (jfl osp sp k) k (osp k)))), (q6, .inl (cI, 6, .inl (jfl oen en k))), (q7, .inl (cI, 6, .inl tY)), (q8, .inl (cI, 6, .inl tW)), (z, .inr (1, [.int oy, .int oea, .int olo, .int ojo, .int ota, .ref z5, .ref z6, .ref z7, .ref z8])), (z5, .inl (cI, 6, .inl osp)), (z6, .inl (cI, 6, .inl oen)), (z7, .inl (cI, 6, .inl otY)), (z8, .inl (cI, 6, .inl otW))] := hD
    refine lv_aload_n hx hb dX1_copyFrom_65 rfl (lv_at hl 0 rfl) ?_
    refine va_get (D := D) (ci := 1) (v := .ref q6) (C := RX1) (T := TX1) (N := 9) hx hb hts (fun w h => List.mem_cons_of_mem _ (List.mem_append_right _ h)) hown hK hP 0 rfl rfl 6 (by decide) (hts (Cond.fieldLink RX1 31 "JamDays$Days" "eatenNow" "[I") (List.mem_of_getElem? (i := 7) rfl)) (fun _ h9 => h9) rfl dX1_copyFrom_66 ?_
    refine lv_iload_n hx hb dX1_copyFrom_69 rfl (lv_at hl 2 rfl) ?_
    refine lv_aload_n hx hb dX1_copyFrom_70 rfl (lv_at hl 1 rfl) ?_
    refine va_get (D := D) (ci := 1) (v := .ref z6) (C := RX1) (T := TX1) (N := 9) hx hb hts (fun w h => List.mem_cons_of_mem _ (List.mem_append_right _ h)) hown hK hP 5 rfl rfl 6 (by decide) (hts (Cond.fieldLink RX1 31 "JamDays$Days" "eatenNow" "[I") (List.mem_of_getElem? (i := 7) rfl)) (fun _ h9 => h9) rfl dX1_copyFrom_71 ?_
    refine lv_iload_n hx hb dX1_copyFrom_74 rfl (lv_at hl 2 rfl) ?_
    refine jv_ald (k := k) hx hb hK hP 7 0 rfl rfl (by omega) (by decide) dX1_copyFrom_75 ?_
    refine jv_ast (k := k) (x := oen k) hx hb hK hP hD hS 2 0 rfl rfl (by omega) (by decide) dX1_copyFrom_76 (fun H locs hP hD hS => ?_)
    have hP : va_P D vwCl [(q, .inr (1, [.int oy, .int oea, .int olo, .int ojo, .int ota, .ref q5, .ref q6, .ref q7, .ref q8])), (q5, .inl (cI, 6, .inl (upd (jfl osp sp k) k (osp k)))), (q6, .inl (cI, 6, .inl (upd (jfl oen en k) k (oen k)))), (q7, .inl (cI, 6, .inl tY)), (q8, .inl (cI, 6, .inl tW)), (z, .inr (1, [.int oy, .int oea, .int olo, .int ojo, .int ota, .ref z5, .ref z6, .ref z7, .ref z8])), (z5, .inl (cI, 6, .inl osp)), (z6, .inl (cI, 6, .inl oen)), (z7, .inl (cI, 6, .inl otY)), (z8, .inl (cI, 6, .inl otW))] H := hP
    have hD : va_D A [(q, .inr (1, [.int oy, .int oea, .int olo, .int ojo, .int ota, .ref q5, .ref q6, .ref q7, .ref q8])), (q5, .inl (cI, 6, .inl (upd (jfl osp sp k) k (osp k)))), (q6, .inl (cI, 6, .inl (upd (jfl oen en k) k (oen k)))), (q7, .inl (cI, 6, .inl tY)), (q8, .inl (cI, 6, .inl tW)), (z, .inr (1, [.int oy, .int oea, .int olo, .int ojo, .int ota, .ref z5, .ref z6, .ref z7, .ref z8])), (z5, .inl (cI, 6, .inl osp)), (z6, .inl (cI, 6, .inl oen)), (z7, .inl (cI, 6, .inl otY)), (z8, .inl (cI, 6, .inl otW))] := hD
    refine lv_iinc (v := nI (k + 1)) (lv' := [(2, .int (nI (k + 1))), (0, .ref q), (1, .ref z)]) hx hb dX1_copyFrom_77 hl (k := 2) rfl ((rfl : nI k + Int32.ofInt 1 = nI k + nI 1).trans (nI_add k 1)) (by decide) rfl (fun ls hl => ?_)
    refine lv_goto (tgt := 47) hx hb dX1_copyFrom_80 (by decide) ?_
    have hP : va_P D vwCl [(q, .inr (1, [.int oy, .int oea, .int olo, .int ojo, .int ota, .ref q5, .ref q6, .ref q7, .ref q8])), (q5, .inl (cI, 6, .inl (jfl osp sp (k + 1)))), (q6, .inl (cI, 6, .inl (jfl oen en (k + 1)))), (q7, .inl (cI, 6, .inl tY)), (q8, .inl (cI, 6, .inl tW)), (z, .inr (1, [.int oy, .int oea, .int olo, .int ojo, .int ota, .ref z5, .ref z6, .ref z7, .ref z8])), (z5, .inl (cI, 6, .inl osp)), (z6, .inl (cI, 6, .inl oen)), (z7, .inl (cI, 6, .inl otY)), (z8, .inl (cI, 6, .inl otW))] H := by rw [jfl_s (x := (osp k)) rfl, jfl_s (x := (oen k)) rfl]; exact hP
    have hD : va_D A [(q, .inr (1, [.int oy, .int oea, .int olo, .int ojo, .int ota, .ref q5, .ref q6, .ref q7, .ref q8])), (q5, .inl (cI, 6, .inl (jfl osp sp (k + 1)))), (q6, .inl (cI, 6, .inl (jfl oen en (k + 1)))), (q7, .inl (cI, 6, .inl tY)), (q8, .inl (cI, 6, .inl tW)), (z, .inr (1, [.int oy, .int oea, .int olo, .int ojo, .int ota, .ref z5, .ref z6, .ref z7, .ref z8])), (z5, .inl (cI, 6, .inl osp)), (z6, .inl (cI, 6, .inl oen)), (z7, .inl (cI, 6, .inl otY)), (z8, .inl (cI, 6, .inl otW))] := jD_of hD rfl
    exact ih_47 (k + 1) _ _ _ ⟨hP, hD, hS, lv_sub hl [1, 2, 0] rfl, (by omega)⟩ (by omega)

set_option maxHeartbeats 4000000 in
set_option maxRecDepth 100000 in
theorem c_eatSpoon (l : Launch) (D : va_G) (cI cJ : ClassId) (q : Nat) (q5 : Nat) (q6 : Nat) (q7 : Nat) (q8 : Nat) (y : Int32) (ea : Int32) (lo : Int32) (jo : Int32) (ta : Int32) (sp : Nat → Int32) (en : Nat → Int32) (tY : Nat → Int32) (tW : Nat → Int32) (j : Nat) (g : Int32) (hj : j < 6) : jWi l yX1_eatSpoon wsX1_eatSpoon ({ frames := 1, cells := 0, slots := 0, locals := 21 }) 0 0 [.ref q, .int (nI j), .int g] D cI cJ [(q, .inr (1, [.int y, .int ea, .int lo, .int jo, .int ta, .ref q5, .ref q6, .ref q7, .ref q8])), (q5, .inl (cI, 6, .inl sp)), (q6, .inl (cI, 6, .inl en)), (q7, .inl (cI, 6, .inl tY)), (q8, .inl (cI, 6, .inl tW))] (fun H => True) (fun r H => r = (if 0 < sp j then 1 else 0) ∧ va_P D vwCl [(q, .inr (1, [.int y, .int (if 0 < sp j then ea + 1 else ea), .int lo, .int (if 0 < sp j then jo + g else jo), .int ta, .ref q5, .ref q6, .ref q7, .ref q8])), (q5, .inl (cI, 6, .inl (if 0 < sp j then upd sp j (sp j - 1) else sp))), (q6, .inl (cI, 6, .inl (if 0 < sp j then upd en j (en j + 1) else en))), (q7, .inl (cI, 6, .inl tY)), (q8, .inl (cI, 6, .inl tW))] H) := by
  intro sz
  refine Met.ofW (cc := cX1_eatSpoon) (maxL := 3) (ret := (some .boolean)) (by decide) rfl ?_
  intro p e s m args below meth c s₁ B hml hv
  obtain ⟨rfl, hsz, hT, hP, hD0, _⟩ := hv
  have hK := hT.1
  have hx := B.exec
  have hb := B.bytes
  have hr := B.returns
  have hts := atoms_spec (ws := wsX1_eatSpoon) B.pre
  have hown : s.vm.findClass RX1 = some m.cls := findClass_of_methodNamed B.named
  have hlocks := B.notSynchronized
  subst hsz
  have hD := hD0.self (sz := s.heap.size)
  generalize hAe : va_A [(q, .inr (1, [.int y, .int ea, .int lo, .int jo, .int ta, .ref q5, .ref q6, .ref q7, .ref q8])), (q5, .inl (cI, 6, .inl sp)), (q6, .inl (cI, 6, .inl en)), (q7, .inl (cI, 6, .inl tY)), (q8, .inl (cI, 6, .inl tW))] s.heap.size = A at hD ⊢
  have hA : ∀ q : Nat, s.heap.size ≤ q → A q := fun q h => by rw [← hAe]; exact Or.inr h
  have hS : va_S A s.heap s.heap [] := va_S.rf
  have hl := lv_entry ([.ref q, .int (nI j), .int g] : List Value) (n := 3) (Nat.le_of_ble_eq_true rfl)
  rw [lg_entry_eq]
  generalize (lg_sl ([.ref q, .int (nI j), .int g]) ++ List.replicate (3 - (lg_sl ([.ref q, .int (nI j), .int g])).length) Slot.unset).toArray = ls at hl ⊢
  have hl : lv_has ls 3 [(0, .ref q), (1, .int (nI j)), (2, .int g)] := hl
  refine lv_aload_n hx hb dX1_eatSpoon_0 rfl (lv_at hl 0 rfl) ?_
  refine lv_iload_n hx hb dX1_eatSpoon_1 rfl (lv_at hl 1 rfl) ?_
  have hPc_1 := hP.sub (ws' := [(q, .inr (1, [.int y, .int ea, .int lo, .int jo, .int ta, .ref q5, .ref q6, .ref q7, .ref q8])), (q5, .inl (cI, 6, .inl sp))]) [0, 1] rfl
  refine jcalli (va_runV (As := [.int (nI j)]) (rest := []) ⟨hx, hb, hml, hown, hts⟩ (c_spoonsOf l D cI cJ q q5 (.int y) (.int ea) (.int lo) (.int jo) (.int ta) (.ref q6) (.ref q7) (.ref q8) sp j (by omega) s.heap.size) (cwV 1 hts gX1_eatSpoon_X1_spoonsOf rfl rfl rfl (by decide +kernel) ⟨Nat.le_of_ble_eq_true rfl, Nat.le_of_ble_eq_true rfl⟩) (jpreV hT (va_recv hK hP (ci := 1) (q0 := 0) rfl rfl) hPc_1) rfl rfl hl.1 rfl (lv_room (Nat.le_of_ble_eq_true rfl)) dX1_eatSpoon_2 ⟨(Nat.zero_le _), (Nat.zero_le _)⟩) hS hA (fun r_2 H locs hw_r_2 hkq hS => ?_)
  try dsimp only at hw_r_2
  have hP := jkeep hP hkq
  subst hw_r_2
  refine lv_if_gt (tgt := 10) hx hb dX1_eatSpoon_5 (by decide) (fun c_3 => ?_) (fun c_3 => ?_)
  · skip
    refine lv_aload_n hx hb dX1_eatSpoon_10 rfl (lv_at hl 0 rfl) ?_
    refine va_get (D := D) (ci := 1) (v := .ref q5) (C := RX1) (T := TX1) (N := 9) hx hb hts (fun w h => List.mem_cons_of_mem _ (List.mem_append_right _ h)) hown hK hP 0 rfl rfl 5 (by decide) (hts (Cond.fieldLink RX1 27 "JamDays$Days" "spoons" "[I") (List.mem_of_getElem? (i := 1) rfl)) (fun _ h9 => h9) rfl dX1_eatSpoon_11 ?_
    refine lv_iload_n hx hb dX1_eatSpoon_14 rfl (lv_at hl 1 rfl) ?_
    refine lv_dup2_11 hx hb dX1_eatSpoon_15 rfl rfl ?_
    refine jv_ald (k := j) hx hb hK hP 1 0 rfl rfl (by omega) (by decide) dX1_eatSpoon_16 ?_
    refine lv_iconst (v := 1) hx hb dX1_eatSpoon_17 (by decide) ?_
    refine lv_isub hx hb dX1_eatSpoon_18 ?_
    refine jv_ast (k := j) (x := (sp j) - 1) hx hb hK hP hD hS 1 0 rfl rfl (by omega) (by decide) dX1_eatSpoon_19 (fun H locs hP hD hS => ?_)
    have hP : va_P D vwCl [(q, .inr (1, [.int y, .int ea, .int lo, .int jo, .int ta, .ref q5, .ref q6, .ref q7, .ref q8])), (q5, .inl (cI, 6, .inl (upd sp j ((sp j) - 1)))), (q6, .inl (cI, 6, .inl en)), (q7, .inl (cI, 6, .inl tY)), (q8, .inl (cI, 6, .inl tW))] H := hP
    have hD : va_D A [(q, .inr (1, [.int y, .int ea, .int lo, .int jo, .int ta, .ref q5, .ref q6, .ref q7, .ref q8])), (q5, .inl (cI, 6, .inl (upd sp j ((sp j) - 1)))), (q6, .inl (cI, 6, .inl en)), (q7, .inl (cI, 6, .inl tY)), (q8, .inl (cI, 6, .inl tW))] := hD
    refine lv_aload_n hx hb dX1_eatSpoon_20 rfl (lv_at hl 0 rfl) ?_
    refine va_get (D := D) (ci := 1) (v := .ref q6) (C := RX1) (T := TX1) (N := 9) hx hb hts (fun w h => List.mem_cons_of_mem _ (List.mem_append_right _ h)) hown hK hP 0 rfl rfl 6 (by decide) (hts (Cond.fieldLink RX1 31 "JamDays$Days" "eatenNow" "[I") (List.mem_of_getElem? (i := 2) rfl)) (fun _ h9 => h9) rfl dX1_eatSpoon_21 ?_
    refine lv_iload_n hx hb dX1_eatSpoon_24 rfl (lv_at hl 1 rfl) ?_
    refine lv_dup2_11 hx hb dX1_eatSpoon_25 rfl rfl ?_
    refine jv_ald (k := j) hx hb hK hP 2 0 rfl rfl (by omega) (by decide) dX1_eatSpoon_26 ?_
    refine lv_iconst (v := 1) hx hb dX1_eatSpoon_27 (by decide) ?_
    refine lv_iadd hx hb dX1_eatSpoon_28 ?_
    refine jv_ast (k := j) (x := (en j) + 1) hx hb hK hP hD hS 2 0 rfl rfl (by omega) (by decide) dX1_eatSpoon_29 (fun H locs hP hD hS => ?_)
    have hP : va_P D vwCl [(q, .inr (1, [.int y, .int ea, .int lo, .int jo, .int ta, .ref q5, .ref q6, .ref q7, .ref q8])), (q5, .inl (cI, 6, .inl (upd sp j ((sp j) - 1)))), (q6, .inl (cI, 6, .inl (upd en j ((en j) + 1)))), (q7, .inl (cI, 6, .inl tY)), (q8, .inl (cI, 6, .inl tW))] H := hP
    have hD : va_D A [(q, .inr (1, [.int y, .int ea, .int lo, .int jo, .int ta, .ref q5, .ref q6, .ref q7, .ref q8])), (q5, .inl (cI, 6, .inl (upd sp j ((sp j) - 1)))), (q6, .inl (cI, 6, .inl (upd en j ((en j) + 1)))), (q7, .inl (cI, 6, .inl tY)), (q8, .inl (cI, 6, .inl tW))] := hD
    refine lv_aload_n hx hb dX1_eatSpoon_30 rfl (lv_at hl 0 rfl) ?_
    refine lv_dup hx hb dX1_eatSpoon_31 rfl ?_
    refine va_get (D := D) (ci := 1) (v := .int ea) (C := RX1) (T := TX1) (N := 9) hx hb hts (fun w h => List.mem_cons_of_mem _ (List.mem_append_right _ h)) hown hK hP 0 rfl rfl 1 (by decide) (hts (Cond.fieldLink RX1 15 "JamDays$Days" "eaten" "I") (List.mem_of_getElem? (i := 3) rfl)) (fun _ h9 => h9) rfl dX1_eatSpoon_32 ?_
    refine lv_iconst (v := 1) hx hb dX1_eatSpoon_35 (by decide) ?_
    refine lv_iadd hx hb dX1_eatSpoon_36 ?_
    refine va_put (D := D) (ci := 1) (v := .int (ea + 1)) (ty := .int) (C := RX1) (T := TX1) (N := 9) hx hb hts (fun w h => List.mem_cons_of_mem _ (List.mem_append_right _ h)) tyX1 tyX1_ok nmX1 hown hK hP hD hS 0 rfl rfl 1 (by decide) (hts (Cond.fieldLink RX1 15 "JamDays$Days" "eaten" "I") (List.mem_of_getElem? (i := 3) rfl)) (fun _ h9 => h9) rfl (by decide +kernel) rfl rfl (Nat.le_of_ble_eq_true rfl) dX1_eatSpoon_37 (fun H locs hP hD hS => ?_)
    have hP : va_P D vwCl [(q, .inr (1, [.int y, .int (ea + 1), .int lo, .int jo, .int ta, .ref q5, .ref q6, .ref q7, .ref q8])), (q5, .inl (cI, 6, .inl (upd sp j ((sp j) - 1)))), (q6, .inl (cI, 6, .inl (upd en j ((en j) + 1)))), (q7, .inl (cI, 6, .inl tY)), (q8, .inl (cI, 6, .inl tW))] H := hP
    have hD : va_D A [(q, .inr (1, [.int y, .int (ea + 1), .int lo, .int jo, .int ta, .ref q5, .ref q6, .ref q7, .ref q8])), (q5, .inl (cI, 6, .inl (upd sp j ((sp j) - 1)))), (q6, .inl (cI, 6, .inl (upd en j ((en j) + 1)))), (q7, .inl (cI, 6, .inl tY)), (q8, .inl (cI, 6, .inl tW))] := hD
    refine lv_aload_n hx hb dX1_eatSpoon_40 rfl (lv_at hl 0 rfl) ?_
    refine lv_dup hx hb dX1_eatSpoon_41 rfl ?_
    refine va_get (D := D) (ci := 1) (v := .int jo) (C := RX1) (T := TX1) (N := 9) hx hb hts (fun w h => List.mem_cons_of_mem _ (List.mem_append_right _ h)) hown hK hP 0 rfl rfl 3 (by decide) (hts (Cond.fieldLink RX1 21 "JamDays$Days" "joy" "I") (List.mem_of_getElem? (i := 4) rfl)) (fun _ h9 => h9) rfl dX1_eatSpoon_42 ?_
    refine lv_iload_n hx hb dX1_eatSpoon_45 rfl (lv_at hl 2 rfl) ?_
    refine lv_iadd hx hb dX1_eatSpoon_46 ?_
    refine va_put (D := D) (ci := 1) (v := .int (jo + g)) (ty := .int) (C := RX1) (T := TX1) (N := 9) hx hb hts (fun w h => List.mem_cons_of_mem _ (List.mem_append_right _ h)) tyX1 tyX1_ok nmX1 hown hK hP hD hS 0 rfl rfl 3 (by decide) (hts (Cond.fieldLink RX1 21 "JamDays$Days" "joy" "I") (List.mem_of_getElem? (i := 4) rfl)) (fun _ h9 => h9) rfl (by decide +kernel) rfl rfl (Nat.le_of_ble_eq_true rfl) dX1_eatSpoon_47 (fun H locs hP hD hS => ?_)
    have hP : va_P D vwCl [(q, .inr (1, [.int y, .int (ea + 1), .int lo, .int (jo + g), .int ta, .ref q5, .ref q6, .ref q7, .ref q8])), (q5, .inl (cI, 6, .inl (upd sp j ((sp j) - 1)))), (q6, .inl (cI, 6, .inl (upd en j ((en j) + 1)))), (q7, .inl (cI, 6, .inl tY)), (q8, .inl (cI, 6, .inl tW))] H := hP
    have hD : va_D A [(q, .inr (1, [.int y, .int (ea + 1), .int lo, .int (jo + g), .int ta, .ref q5, .ref q6, .ref q7, .ref q8])), (q5, .inl (cI, 6, .inl (upd sp j ((sp j) - 1)))), (q6, .inl (cI, 6, .inl (upd en j ((en j) + 1)))), (q7, .inl (cI, 6, .inl tY)), (q8, .inl (cI, 6, .inl tW))] := hD
    refine lv_iconst (v := 1) hx hb dX1_eatSpoon_50 (by decide) ?_
    exact W.zret (v := 1) hx hb hr (by decide) (fun t ht hW => ⟨⟨1, 1, rfl, rfl, by dsimp only; rw [ht]; exact (by simp only [if_pos c_3]; exact ⟨trivial, hP⟩)⟩, hS.F ht⟩) hS.2.2 dX1_eatSpoon_51
  · skip
    refine lv_iconst (v := 0) hx hb dX1_eatSpoon_8 (by decide) ?_
    exact W.zret (v := 0) hx hb hr (by decide) (fun t ht hW => ⟨⟨0, 0, rfl, rfl, by dsimp only; rw [ht]; exact (by simp only [if_neg c_3]; exact ⟨trivial, hP⟩)⟩, hS.F ht⟩) hS.2.2 dX1_eatSpoon_9

set_option maxHeartbeats 4000000 in
set_option maxRecDepth 100000 in
theorem c_loseSpoon (l : Launch) (D : va_G) (cI cJ : ClassId) (q : Nat) (q5 : Nat) (q6 : Nat) (q7 : Nat) (q8 : Nat) (y : Int32) (ea : Int32) (lo : Int32) (jo : Int32) (ta : Int32) (sp : Nat → Int32) (en : Nat → Int32) (tY : Nat → Int32) (tW : Nat → Int32) (j : Nat) (hj : j < 6) : jWi l yX1_loseSpoon wsX1_loseSpoon ({ frames := 1, cells := 0, slots := 0, locals := 21 }) 0 0 [.ref q, .int (nI j)] D cI cJ [(q, .inr (1, [.int y, .int ea, .int lo, .int jo, .int ta, .ref q5, .ref q6, .ref q7, .ref q8])), (q5, .inl (cI, 6, .inl sp)), (q6, .inl (cI, 6, .inl en)), (q7, .inl (cI, 6, .inl tY)), (q8, .inl (cI, 6, .inl tW))] (fun H => True) (fun r H => r = (if 0 < sp j then 1 else 0) ∧ va_P D vwCl [(q, .inr (1, [.int y, .int ea, .int (if 0 < sp j then lo + 1 else lo), .int jo, .int ta, .ref q5, .ref q6, .ref q7, .ref q8])), (q5, .inl (cI, 6, .inl (if 0 < sp j then upd sp j (sp j - 1) else sp))), (q6, .inl (cI, 6, .inl en)), (q7, .inl (cI, 6, .inl tY)), (q8, .inl (cI, 6, .inl tW))] H) := by
  intro sz
  refine Met.ofW (cc := cX1_loseSpoon) (maxL := 2) (ret := (some .boolean)) (by decide) rfl ?_
  intro p e s m args below meth c s₁ B hml hv
  obtain ⟨rfl, hsz, hT, hP, hD0, _⟩ := hv
  have hK := hT.1
  have hx := B.exec
  have hb := B.bytes
  have hr := B.returns
  have hts := atoms_spec (ws := wsX1_loseSpoon) B.pre
  have hown : s.vm.findClass RX1 = some m.cls := findClass_of_methodNamed B.named
  have hlocks := B.notSynchronized
  subst hsz
  have hD := hD0.self (sz := s.heap.size)
  generalize hAe : va_A [(q, .inr (1, [.int y, .int ea, .int lo, .int jo, .int ta, .ref q5, .ref q6, .ref q7, .ref q8])), (q5, .inl (cI, 6, .inl sp)), (q6, .inl (cI, 6, .inl en)), (q7, .inl (cI, 6, .inl tY)), (q8, .inl (cI, 6, .inl tW))] s.heap.size = A at hD ⊢
  have hA : ∀ q : Nat, s.heap.size ≤ q → A q := fun q h => by rw [← hAe]; exact Or.inr h
  have hS : va_S A s.heap s.heap [] := va_S.rf
  have hl := lv_entry ([.ref q, .int (nI j)] : List Value) (n := 2) (Nat.le_of_ble_eq_true rfl)
  rw [lg_entry_eq]
  generalize (lg_sl ([.ref q, .int (nI j)]) ++ List.replicate (2 - (lg_sl ([.ref q, .int (nI j)])).length) Slot.unset).toArray = ls at hl ⊢
  have hl : lv_has ls 2 [(0, .ref q), (1, .int (nI j))] := hl
  refine lv_aload_n hx hb dX1_loseSpoon_0 rfl (lv_at hl 0 rfl) ?_
  refine lv_iload_n hx hb dX1_loseSpoon_1 rfl (lv_at hl 1 rfl) ?_
  have hPc_1 := hP.sub (ws' := [(q, .inr (1, [.int y, .int ea, .int lo, .int jo, .int ta, .ref q5, .ref q6, .ref q7, .ref q8])), (q5, .inl (cI, 6, .inl sp))]) [0, 1] rfl
  refine jcalli (va_runV (As := [.int (nI j)]) (rest := []) ⟨hx, hb, hml, hown, hts⟩ (c_spoonsOf l D cI cJ q q5 (.int y) (.int ea) (.int lo) (.int jo) (.int ta) (.ref q6) (.ref q7) (.ref q8) sp j (by omega) s.heap.size) (cwV 1 hts gX1_loseSpoon_X1_spoonsOf rfl rfl rfl (by decide +kernel) ⟨Nat.le_of_ble_eq_true rfl, Nat.le_of_ble_eq_true rfl⟩) (jpreV hT (va_recv hK hP (ci := 1) (q0 := 0) rfl rfl) hPc_1) rfl rfl hl.1 rfl (lv_room (Nat.le_of_ble_eq_true rfl)) dX1_loseSpoon_2 ⟨(Nat.zero_le _), (Nat.zero_le _)⟩) hS hA (fun r_2 H locs hw_r_2 hkq hS => ?_)
  try dsimp only at hw_r_2
  have hP := jkeep hP hkq
  subst hw_r_2
  refine lv_if_gt (tgt := 10) hx hb dX1_loseSpoon_5 (by decide) (fun c_3 => ?_) (fun c_3 => ?_)
  · skip
    refine lv_aload_n hx hb dX1_loseSpoon_10 rfl (lv_at hl 0 rfl) ?_
    refine va_get (D := D) (ci := 1) (v := .ref q5) (C := RX1) (T := TX1) (N := 9) hx hb hts (fun w h => List.mem_cons_of_mem _ (List.mem_append_right _ h)) hown hK hP 0 rfl rfl 5 (by decide) (hts (Cond.fieldLink RX1 27 "JamDays$Days" "spoons" "[I") (List.mem_of_getElem? (i := 1) rfl)) (fun _ h9 => h9) rfl dX1_loseSpoon_11 ?_
    refine lv_iload_n hx hb dX1_loseSpoon_14 rfl (lv_at hl 1 rfl) ?_
    refine lv_dup2_11 hx hb dX1_loseSpoon_15 rfl rfl ?_
    refine jv_ald (k := j) hx hb hK hP 1 0 rfl rfl (by omega) (by decide) dX1_loseSpoon_16 ?_
    refine lv_iconst (v := 1) hx hb dX1_loseSpoon_17 (by decide) ?_
    refine lv_isub hx hb dX1_loseSpoon_18 ?_
    refine jv_ast (k := j) (x := (sp j) - 1) hx hb hK hP hD hS 1 0 rfl rfl (by omega) (by decide) dX1_loseSpoon_19 (fun H locs hP hD hS => ?_)
    have hP : va_P D vwCl [(q, .inr (1, [.int y, .int ea, .int lo, .int jo, .int ta, .ref q5, .ref q6, .ref q7, .ref q8])), (q5, .inl (cI, 6, .inl (upd sp j ((sp j) - 1)))), (q6, .inl (cI, 6, .inl en)), (q7, .inl (cI, 6, .inl tY)), (q8, .inl (cI, 6, .inl tW))] H := hP
    have hD : va_D A [(q, .inr (1, [.int y, .int ea, .int lo, .int jo, .int ta, .ref q5, .ref q6, .ref q7, .ref q8])), (q5, .inl (cI, 6, .inl (upd sp j ((sp j) - 1)))), (q6, .inl (cI, 6, .inl en)), (q7, .inl (cI, 6, .inl tY)), (q8, .inl (cI, 6, .inl tW))] := hD
    refine lv_aload_n hx hb dX1_loseSpoon_20 rfl (lv_at hl 0 rfl) ?_
    refine lv_dup hx hb dX1_loseSpoon_21 rfl ?_
    refine va_get (D := D) (ci := 1) (v := .int lo) (C := RX1) (T := TX1) (N := 9) hx hb hts (fun w h => List.mem_cons_of_mem _ (List.mem_append_right _ h)) hown hK hP 0 rfl rfl 2 (by decide) (hts (Cond.fieldLink RX1 18 "JamDays$Days" "lost" "I") (List.mem_of_getElem? (i := 2) rfl)) (fun _ h9 => h9) rfl dX1_loseSpoon_22 ?_
    refine lv_iconst (v := 1) hx hb dX1_loseSpoon_25 (by decide) ?_
    refine lv_iadd hx hb dX1_loseSpoon_26 ?_
    refine va_put (D := D) (ci := 1) (v := .int (lo + 1)) (ty := .int) (C := RX1) (T := TX1) (N := 9) hx hb hts (fun w h => List.mem_cons_of_mem _ (List.mem_append_right _ h)) tyX1 tyX1_ok nmX1 hown hK hP hD hS 0 rfl rfl 2 (by decide) (hts (Cond.fieldLink RX1 18 "JamDays$Days" "lost" "I") (List.mem_of_getElem? (i := 2) rfl)) (fun _ h9 => h9) rfl (by decide +kernel) rfl rfl (Nat.le_of_ble_eq_true rfl) dX1_loseSpoon_27 (fun H locs hP hD hS => ?_)
    have hP : va_P D vwCl [(q, .inr (1, [.int y, .int ea, .int (lo + 1), .int jo, .int ta, .ref q5, .ref q6, .ref q7, .ref q8])), (q5, .inl (cI, 6, .inl (upd sp j ((sp j) - 1)))), (q6, .inl (cI, 6, .inl en)), (q7, .inl (cI, 6, .inl tY)), (q8, .inl (cI, 6, .inl tW))] H := hP
    have hD : va_D A [(q, .inr (1, [.int y, .int ea, .int (lo + 1), .int jo, .int ta, .ref q5, .ref q6, .ref q7, .ref q8])), (q5, .inl (cI, 6, .inl (upd sp j ((sp j) - 1)))), (q6, .inl (cI, 6, .inl en)), (q7, .inl (cI, 6, .inl tY)), (q8, .inl (cI, 6, .inl tW))] := hD
    refine lv_iconst (v := 1) hx hb dX1_loseSpoon_30 (by decide) ?_
    exact W.zret (v := 1) hx hb hr (by decide) (fun t ht hW => ⟨⟨1, 1, rfl, rfl, by dsimp only; rw [ht]; exact (by simp only [if_pos c_3]; exact ⟨trivial, hP⟩)⟩, hS.F ht⟩) hS.2.2 dX1_loseSpoon_31
  · skip
    refine lv_iconst (v := 0) hx hb dX1_loseSpoon_8 (by decide) ?_
    exact W.zret (v := 0) hx hb hr (by decide) (fun t ht hW => ⟨⟨0, 0, rfl, rfl, by dsimp only; rw [ht]; exact (by simp only [if_neg c_3]; exact ⟨trivial, hP⟩)⟩, hS.F ht⟩) hS.2.2 dX1_loseSpoon_9

def jpm (s : Int32) : Int32 := if (0 : Int32) < 3 - s / 3 then 3 - s / 3 else 0
def jmo (m y : Int32) : Int32 := if (20 : Int32) ≤ y * m then 20 else y * m
def cfw (k : Nat) (g m y : Int32) : Int32 := if k = 2 then 2 * (g - jmo m y) else if k = 4 then (g - jmo m y) + (if y - y / 2 * 2 = 1 then 3 else 0) else g - jmo m y
def ckn (k : Nat) : Int32 := if k = 3 then 0 else if k = 5 then 1 else if k = 0 then 2 else if k = 4 then 3 else 4
set_option maxHeartbeats 4000000 in
set_option maxRecDepth 100000 in
theorem c_plainMould (l : Launch) (D : va_G) (cI cJ : ClassId) (s0 : Int32)  : jRi l yX3_plainMould wsX3_plainMould ({ frames := 1, cells := 0, slots := 0, locals := 21 }) [.int s0] D cI cJ (fun H => True) (fun r => r = jpm s0) := by
  intro sz
  refine Met.ofW (cc := cX3_plainMould) (maxL := 1) (ret := (some .int)) (by decide) rfl ?_
  intro p e s m args below meth c s₁ B hml hv
  obtain ⟨rfl, hsz, hT, _⟩ := hv
  have hK := hT.1
  have hx := B.exec
  have hb := B.bytes
  have hr := B.returns
  have hts := atoms_spec (ws := wsX3_plainMould) B.pre
  have hown : s.vm.findClass RX3 = some m.cls := findClass_of_methodNamed B.named
  have hlocks := B.notSynchronized
  subst hsz
  generalize hAe : va_A [] s.heap.size = A
  have hA : ∀ q : Nat, s.heap.size ≤ q → A q := fun q h => by rw [← hAe]; exact Or.inr h
  have hS : va_S A s.heap s.heap [] := va_S.rf
  have hl := lv_entry ([.int s0] : List Value) (n := 1) (Nat.le_of_ble_eq_true rfl)
  rw [lg_entry_eq]
  generalize (lg_sl ([.int s0]) ++ List.replicate (1 - (lg_sl ([.int s0])).length) Slot.unset).toArray = ls at hl ⊢
  have hl : lv_has ls 1 [(0, .int s0)] := hl
  refine lv_iconst (v := 0) hx hb dX3_plainMould_0 (by decide) ?_
  refine lv_iconst (v := 3) hx hb dX3_plainMould_1 (by decide) ?_
  refine lv_iload_n hx hb dX3_plainMould_2 rfl (lv_at hl 0 rfl) ?_
  refine lv_iconst (v := 3) hx hb dX3_plainMould_3 (by decide) ?_
  refine lv_idiv hx hb dX3_plainMould_4 (by decide) ?_
  refine lv_isub hx hb dX3_plainMould_5 ?_
  refine va_mmax hx hb (by rw [hml]; exact hl.1.symm) hown (hts (Cond.methodLink RX3 28 Lib.Math.max.name) (List.mem_of_getElem? (i := 1) rfl)) (hts (Cond.static Lib.Math.max.name) (List.mem_of_getElem? (i := 2) rfl)) (hts (Cond.initialized "java/lang/Math") (List.mem_of_getElem? (i := 3) rfl)) (hts (Cond.code Lib.Math.max.name Lib.Math.max.code 2 (some .int)) (List.mem_of_getElem? (i := 4) rfl)) (Nat.le_of_ble_eq_true rfl) (Nat.le_of_ble_eq_true rfl) (Nat.zero_le _) (Nat.zero_le _) dX3_plainMould_6 ?_
  exact W.iret (v := if 0 < (3 - (s0 / 3)) then 3 - (s0 / 3) else 0) hx hb hr (fun t ht hW => ⟨⟨if 0 < (3 - (s0 / 3)) then 3 - (s0 / 3) else 0, (), rfl, rfl, trivial⟩, hS.F ht⟩) hS.2.2 dX3_plainMould_9

set_option maxHeartbeats 4000000 in
set_option maxRecDepth 100000 in
theorem c_mouldIn_0 (l : Launch) (D : va_G) (cI cJ : ClassId) (h : Nat) (g : Int32) (s0 : Int32) (m0 : Int32) (y : Int32)  : jRi l yX3_mouldIn wsX3_mouldIn ({ frames := 0, cells := 0, slots := 0, locals := 0 }) [.ref h, .int y] D cI cJ (fun H => va_P D vwCl [(h, .inr (0, [.int g, .int s0, .int m0]))] H) (fun r => r = jmo m0 y) := by
  intro sz
  refine Met.ofW (cc := cX3_mouldIn) (maxL := 3) (ret := (some .int)) (by decide) rfl ?_
  intro p e s m args below meth c s₁ B hml hv
  obtain ⟨rfl, hsz, hT, hPr⟩ := hv
  have hK := hT.1
  have hx := B.exec
  have hb := B.bytes
  have hr := B.returns
  have hts := atoms_spec (ws := wsX3_mouldIn) B.pre
  have hown : s.vm.findClass RX3 = some m.cls := findClass_of_methodNamed B.named
  have hlocks := B.notSynchronized
  subst hsz
  generalize hAe : va_A [] s.heap.size = A
  have hA : ∀ q : Nat, s.heap.size ≤ q → A q := fun q h => by rw [← hAe]; exact Or.inr h
  have hS : va_S A s.heap s.heap [] := va_S.rf
  have hl := lv_entry ([.ref h, .int y] : List Value) (n := 3) (Nat.le_of_ble_eq_true rfl)
  rw [lg_entry_eq]
  generalize (lg_sl ([.ref h, .int y]) ++ List.replicate (3 - (lg_sl ([.ref h, .int y])).length) Slot.unset).toArray = ls at hl ⊢
  have hl : lv_has ls 3 [(0, .ref h), (1, .int y)] := hl
  refine lv_iload_n hx hb dX3_mouldIn_0 rfl (lv_at hl 1 rfl) ?_
  refine lv_aload_n hx hb dX3_mouldIn_1 rfl (lv_at hl 0 rfl) ?_
  refine va_get (D := D) (ci := 0) (v := .int m0) (C := RX0) (T := TX0) (N := 3) hx hb hts (fun w h => List.mem_cons_of_mem _ (List.mem_append_left _ (List.mem_append_left _ (List.mem_append_left _ (List.mem_append_left _ (List.mem_append_right _ h)))))) hown hK hPr 0 rfl rfl 2 (by decide) (hts (Cond.fieldLink RX3 25 "JamDays$Jar" "mouldEachYear" "I") (List.mem_of_getElem? (i := 1) rfl)) (fun _ h9 => h9) rfl dX3_mouldIn_2 ?_
  refine lv_imul hx hb dX3_mouldIn_5 ?_
  refine lv_istore_n (lv' := [(2, .int (y * m0)), (0, .ref h), (1, .int y)]) hx hb dX3_mouldIn_6 rfl hl (by decide) rfl (fun ls hl => ?_)
  refine lv_iload_n hx hb dX3_mouldIn_7 rfl (lv_at hl 0 rfl) ?_
  refine lv_bipush (v := 20) hx hb dX3_mouldIn_8 (by decide) ?_
  refine lv_icmp_ge (tgt := 17) hx hb dX3_mouldIn_10 (by decide) (fun c_1 => ?_) (fun c_1 => ?_)
  · skip
    refine lv_bipush (v := 20) hx hb dX3_mouldIn_17 (by decide) ?_
    exact W.iret (v := 20) hx hb hr (fun t ht hW => ⟨⟨20, (), rfl, (by simp [jmo, c_1]), trivial⟩, hS.F ht⟩) hS.2.2 dX3_mouldIn_19
  · skip
    refine lv_iload_n hx hb dX3_mouldIn_13 rfl (lv_at hl 0 rfl) ?_
    refine lv_goto (tgt := 19) hx hb dX3_mouldIn_14 (by decide) ?_
    exact W.iret (v := y * m0) hx hb hr (fun t ht hW => ⟨⟨y * m0, (), rfl, (by simp [jmo, c_1]), trivial⟩, hS.F ht⟩) hS.2.2 dX3_mouldIn_19

set_option maxHeartbeats 4000000 in
set_option maxRecDepth 100000 in
theorem c_mouldIn_2 (l : Launch) (D : va_G) (cI cJ : ClassId) (h : Nat) (g : Int32) (s0 : Int32) (m0 : Int32) (y : Int32)  : jRi l yX3_mouldIn wsX3_mouldIn ({ frames := 0, cells := 0, slots := 0, locals := 0 }) [.ref h, .int y] D cI cJ (fun H => va_P D vwCl [(h, .inr (2, [.int g, .int s0, .int m0]))] H) (fun r => r = jmo m0 y) := by
  intro sz
  refine Met.ofW (cc := cX3_mouldIn) (maxL := 3) (ret := (some .int)) (by decide) rfl ?_
  intro p e s m args below meth c s₁ B hml hv
  obtain ⟨rfl, hsz, hT, hPr⟩ := hv
  have hK := hT.1
  have hx := B.exec
  have hb := B.bytes
  have hr := B.returns
  have hts := atoms_spec (ws := wsX3_mouldIn) B.pre
  have hown : s.vm.findClass RX3 = some m.cls := findClass_of_methodNamed B.named
  have hlocks := B.notSynchronized
  subst hsz
  generalize hAe : va_A [] s.heap.size = A
  have hA : ∀ q : Nat, s.heap.size ≤ q → A q := fun q h => by rw [← hAe]; exact Or.inr h
  have hS : va_S A s.heap s.heap [] := va_S.rf
  have hl := lv_entry ([.ref h, .int y] : List Value) (n := 3) (Nat.le_of_ble_eq_true rfl)
  rw [lg_entry_eq]
  generalize (lg_sl ([.ref h, .int y]) ++ List.replicate (3 - (lg_sl ([.ref h, .int y])).length) Slot.unset).toArray = ls at hl ⊢
  have hl : lv_has ls 3 [(0, .ref h), (1, .int y)] := hl
  refine lv_iload_n hx hb dX3_mouldIn_0 rfl (lv_at hl 1 rfl) ?_
  refine lv_aload_n hx hb dX3_mouldIn_1 rfl (lv_at hl 0 rfl) ?_
  refine va_get (D := D) (ci := 2) (v := .int m0) (C := RX2) (T := TX2) (N := 3) hx hb hts (fun w h => List.mem_cons_of_mem _ (List.mem_append_left _ (List.mem_append_left _ (List.mem_append_left _ (List.mem_append_right _ h))))) hown hK hPr 0 rfl rfl 2 (by decide) (hts (Cond.fieldLink RX3 25 "JamDays$Jar" "mouldEachYear" "I") (List.mem_of_getElem? (i := 1) rfl)) (fun _ h9 => h9) rfl dX3_mouldIn_2 ?_
  refine lv_imul hx hb dX3_mouldIn_5 ?_
  refine lv_istore_n (lv' := [(2, .int (y * m0)), (0, .ref h), (1, .int y)]) hx hb dX3_mouldIn_6 rfl hl (by decide) rfl (fun ls hl => ?_)
  refine lv_iload_n hx hb dX3_mouldIn_7 rfl (lv_at hl 0 rfl) ?_
  refine lv_bipush (v := 20) hx hb dX3_mouldIn_8 (by decide) ?_
  refine lv_icmp_ge (tgt := 17) hx hb dX3_mouldIn_10 (by decide) (fun c_1 => ?_) (fun c_1 => ?_)
  · skip
    refine lv_bipush (v := 20) hx hb dX3_mouldIn_17 (by decide) ?_
    exact W.iret (v := 20) hx hb hr (fun t ht hW => ⟨⟨20, (), rfl, (by simp [jmo, c_1]), trivial⟩, hS.F ht⟩) hS.2.2 dX3_mouldIn_19
  · skip
    refine lv_iload_n hx hb dX3_mouldIn_13 rfl (lv_at hl 0 rfl) ?_
    refine lv_goto (tgt := 19) hx hb dX3_mouldIn_14 (by decide) ?_
    exact W.iret (v := y * m0) hx hb hr (fun t ht hW => ⟨⟨y * m0, (), rfl, (by simp [jmo, c_1]), trivial⟩, hS.F ht⟩) hS.2.2 dX3_mouldIn_19

set_option maxHeartbeats 4000000 in
set_option maxRecDepth 100000 in
theorem c_mouldIn_3 (l : Launch) (D : va_G) (cI cJ : ClassId) (h : Nat) (g : Int32) (s0 : Int32) (m0 : Int32) (y : Int32)  : jRi l yX3_mouldIn wsX3_mouldIn ({ frames := 0, cells := 0, slots := 0, locals := 0 }) [.ref h, .int y] D cI cJ (fun H => va_P D vwCl [(h, .inr (3, [.int g, .int s0, .int m0]))] H) (fun r => r = jmo m0 y) := by
  intro sz
  refine Met.ofW (cc := cX3_mouldIn) (maxL := 3) (ret := (some .int)) (by decide) rfl ?_
  intro p e s m args below meth c s₁ B hml hv
  obtain ⟨rfl, hsz, hT, hPr⟩ := hv
  have hK := hT.1
  have hx := B.exec
  have hb := B.bytes
  have hr := B.returns
  have hts := atoms_spec (ws := wsX3_mouldIn) B.pre
  have hown : s.vm.findClass RX3 = some m.cls := findClass_of_methodNamed B.named
  have hlocks := B.notSynchronized
  subst hsz
  generalize hAe : va_A [] s.heap.size = A
  have hA : ∀ q : Nat, s.heap.size ≤ q → A q := fun q h => by rw [← hAe]; exact Or.inr h
  have hS : va_S A s.heap s.heap [] := va_S.rf
  have hl := lv_entry ([.ref h, .int y] : List Value) (n := 3) (Nat.le_of_ble_eq_true rfl)
  rw [lg_entry_eq]
  generalize (lg_sl ([.ref h, .int y]) ++ List.replicate (3 - (lg_sl ([.ref h, .int y])).length) Slot.unset).toArray = ls at hl ⊢
  have hl : lv_has ls 3 [(0, .ref h), (1, .int y)] := hl
  refine lv_iload_n hx hb dX3_mouldIn_0 rfl (lv_at hl 1 rfl) ?_
  refine lv_aload_n hx hb dX3_mouldIn_1 rfl (lv_at hl 0 rfl) ?_
  refine va_get (D := D) (ci := 3) (v := .int m0) (C := RX3) (T := TX3) (N := 3) hx hb hts (fun w h => List.mem_cons_of_mem _ (List.mem_append_left _ (List.mem_append_left _ (List.mem_append_right _ h)))) hown hK hPr 0 rfl rfl 2 (by decide) (hts (Cond.fieldLink RX3 25 "JamDays$Jar" "mouldEachYear" "I") (List.mem_of_getElem? (i := 1) rfl)) (fun _ h9 => h9) rfl dX3_mouldIn_2 ?_
  refine lv_imul hx hb dX3_mouldIn_5 ?_
  refine lv_istore_n (lv' := [(2, .int (y * m0)), (0, .ref h), (1, .int y)]) hx hb dX3_mouldIn_6 rfl hl (by decide) rfl (fun ls hl => ?_)
  refine lv_iload_n hx hb dX3_mouldIn_7 rfl (lv_at hl 0 rfl) ?_
  refine lv_bipush (v := 20) hx hb dX3_mouldIn_8 (by decide) ?_
  refine lv_icmp_ge (tgt := 17) hx hb dX3_mouldIn_10 (by decide) (fun c_1 => ?_) (fun c_1 => ?_)
  · skip
    refine lv_bipush (v := 20) hx hb dX3_mouldIn_17 (by decide) ?_
    exact W.iret (v := 20) hx hb hr (fun t ht hW => ⟨⟨20, (), rfl, (by simp [jmo, c_1]), trivial⟩, hS.F ht⟩) hS.2.2 dX3_mouldIn_19
  · skip
    refine lv_iload_n hx hb dX3_mouldIn_13 rfl (lv_at hl 0 rfl) ?_
    refine lv_goto (tgt := 19) hx hb dX3_mouldIn_14 (by decide) ?_
    exact W.iret (v := y * m0) hx hb hr (fun t ht hW => ⟨⟨y * m0, (), rfl, (by simp [jmo, c_1]), trivial⟩, hS.F ht⟩) hS.2.2 dX3_mouldIn_19

set_option maxHeartbeats 4000000 in
set_option maxRecDepth 100000 in
theorem c_mouldIn_4 (l : Launch) (D : va_G) (cI cJ : ClassId) (h : Nat) (g : Int32) (s0 : Int32) (m0 : Int32) (y : Int32)  : jRi l yX3_mouldIn wsX3_mouldIn ({ frames := 0, cells := 0, slots := 0, locals := 0 }) [.ref h, .int y] D cI cJ (fun H => va_P D vwCl [(h, .inr (4, [.int g, .int s0, .int m0]))] H) (fun r => r = jmo m0 y) := by
  intro sz
  refine Met.ofW (cc := cX3_mouldIn) (maxL := 3) (ret := (some .int)) (by decide) rfl ?_
  intro p e s m args below meth c s₁ B hml hv
  obtain ⟨rfl, hsz, hT, hPr⟩ := hv
  have hK := hT.1
  have hx := B.exec
  have hb := B.bytes
  have hr := B.returns
  have hts := atoms_spec (ws := wsX3_mouldIn) B.pre
  have hown : s.vm.findClass RX3 = some m.cls := findClass_of_methodNamed B.named
  have hlocks := B.notSynchronized
  subst hsz
  generalize hAe : va_A [] s.heap.size = A
  have hA : ∀ q : Nat, s.heap.size ≤ q → A q := fun q h => by rw [← hAe]; exact Or.inr h
  have hS : va_S A s.heap s.heap [] := va_S.rf
  have hl := lv_entry ([.ref h, .int y] : List Value) (n := 3) (Nat.le_of_ble_eq_true rfl)
  rw [lg_entry_eq]
  generalize (lg_sl ([.ref h, .int y]) ++ List.replicate (3 - (lg_sl ([.ref h, .int y])).length) Slot.unset).toArray = ls at hl ⊢
  have hl : lv_has ls 3 [(0, .ref h), (1, .int y)] := hl
  refine lv_iload_n hx hb dX3_mouldIn_0 rfl (lv_at hl 1 rfl) ?_
  refine lv_aload_n hx hb dX3_mouldIn_1 rfl (lv_at hl 0 rfl) ?_
  refine va_get (D := D) (ci := 4) (v := .int m0) (C := RX4) (T := TX4) (N := 3) hx hb hts (fun w h => List.mem_cons_of_mem _ (List.mem_append_left _ (List.mem_append_right _ h))) hown hK hPr 0 rfl rfl 2 (by decide) (hts (Cond.fieldLink RX3 25 "JamDays$Jar" "mouldEachYear" "I") (List.mem_of_getElem? (i := 1) rfl)) (fun _ h9 => h9) rfl dX3_mouldIn_2 ?_
  refine lv_imul hx hb dX3_mouldIn_5 ?_
  refine lv_istore_n (lv' := [(2, .int (y * m0)), (0, .ref h), (1, .int y)]) hx hb dX3_mouldIn_6 rfl hl (by decide) rfl (fun ls hl => ?_)
  refine lv_iload_n hx hb dX3_mouldIn_7 rfl (lv_at hl 0 rfl) ?_
  refine lv_bipush (v := 20) hx hb dX3_mouldIn_8 (by decide) ?_
  refine lv_icmp_ge (tgt := 17) hx hb dX3_mouldIn_10 (by decide) (fun c_1 => ?_) (fun c_1 => ?_)
  · skip
    refine lv_bipush (v := 20) hx hb dX3_mouldIn_17 (by decide) ?_
    exact W.iret (v := 20) hx hb hr (fun t ht hW => ⟨⟨20, (), rfl, (by simp [jmo, c_1]), trivial⟩, hS.F ht⟩) hS.2.2 dX3_mouldIn_19
  · skip
    refine lv_iload_n hx hb dX3_mouldIn_13 rfl (lv_at hl 0 rfl) ?_
    refine lv_goto (tgt := 19) hx hb dX3_mouldIn_14 (by decide) ?_
    exact W.iret (v := y * m0) hx hb hr (fun t ht hW => ⟨⟨y * m0, (), rfl, (by simp [jmo, c_1]), trivial⟩, hS.F ht⟩) hS.2.2 dX3_mouldIn_19

set_option maxHeartbeats 4000000 in
set_option maxRecDepth 100000 in
theorem c_mouldIn_5 (l : Launch) (D : va_G) (cI cJ : ClassId) (h : Nat) (g : Int32) (s0 : Int32) (m0 : Int32) (y : Int32)  : jRi l yX3_mouldIn wsX3_mouldIn ({ frames := 0, cells := 0, slots := 0, locals := 0 }) [.ref h, .int y] D cI cJ (fun H => va_P D vwCl [(h, .inr (5, [.int g, .int s0, .int m0]))] H) (fun r => r = jmo m0 y) := by
  intro sz
  refine Met.ofW (cc := cX3_mouldIn) (maxL := 3) (ret := (some .int)) (by decide) rfl ?_
  intro p e s m args below meth c s₁ B hml hv
  obtain ⟨rfl, hsz, hT, hPr⟩ := hv
  have hK := hT.1
  have hx := B.exec
  have hb := B.bytes
  have hr := B.returns
  have hts := atoms_spec (ws := wsX3_mouldIn) B.pre
  have hown : s.vm.findClass RX3 = some m.cls := findClass_of_methodNamed B.named
  have hlocks := B.notSynchronized
  subst hsz
  generalize hAe : va_A [] s.heap.size = A
  have hA : ∀ q : Nat, s.heap.size ≤ q → A q := fun q h => by rw [← hAe]; exact Or.inr h
  have hS : va_S A s.heap s.heap [] := va_S.rf
  have hl := lv_entry ([.ref h, .int y] : List Value) (n := 3) (Nat.le_of_ble_eq_true rfl)
  rw [lg_entry_eq]
  generalize (lg_sl ([.ref h, .int y]) ++ List.replicate (3 - (lg_sl ([.ref h, .int y])).length) Slot.unset).toArray = ls at hl ⊢
  have hl : lv_has ls 3 [(0, .ref h), (1, .int y)] := hl
  refine lv_iload_n hx hb dX3_mouldIn_0 rfl (lv_at hl 1 rfl) ?_
  refine lv_aload_n hx hb dX3_mouldIn_1 rfl (lv_at hl 0 rfl) ?_
  refine va_get (D := D) (ci := 5) (v := .int m0) (C := RX5) (T := TX5) (N := 3) hx hb hts (fun w h => List.mem_cons_of_mem _ (List.mem_append_right _ h)) hown hK hPr 0 rfl rfl 2 (by decide) (hts (Cond.fieldLink RX3 25 "JamDays$Jar" "mouldEachYear" "I") (List.mem_of_getElem? (i := 1) rfl)) (fun _ h9 => h9) rfl dX3_mouldIn_2 ?_
  refine lv_imul hx hb dX3_mouldIn_5 ?_
  refine lv_istore_n (lv' := [(2, .int (y * m0)), (0, .ref h), (1, .int y)]) hx hb dX3_mouldIn_6 rfl hl (by decide) rfl (fun ls hl => ?_)
  refine lv_iload_n hx hb dX3_mouldIn_7 rfl (lv_at hl 0 rfl) ?_
  refine lv_bipush (v := 20) hx hb dX3_mouldIn_8 (by decide) ?_
  refine lv_icmp_ge (tgt := 17) hx hb dX3_mouldIn_10 (by decide) (fun c_1 => ?_) (fun c_1 => ?_)
  · skip
    refine lv_bipush (v := 20) hx hb dX3_mouldIn_17 (by decide) ?_
    exact W.iret (v := 20) hx hb hr (fun t ht hW => ⟨⟨20, (), rfl, (by simp [jmo, c_1]), trivial⟩, hS.F ht⟩) hS.2.2 dX3_mouldIn_19
  · skip
    refine lv_iload_n hx hb dX3_mouldIn_13 rfl (lv_at hl 0 rfl) ?_
    refine lv_goto (tgt := 19) hx hb dX3_mouldIn_14 (by decide) ?_
    exact W.iret (v := y * m0) hx hb hr (fun t ht hW => ⟨⟨y * m0, (), rfl, (by simp [jmo, c_1]), trivial⟩, hS.F ht⟩) hS.2.2 dX3_mouldIn_19

set_option maxHeartbeats 4000000 in
set_option maxRecDepth 100000 in
theorem c_firstWorthIn_0 (l : Launch) (D : va_G) (cI cJ : ClassId) (h : Nat) (g : Int32) (s0 : Int32) (m0 : Int32) (y : Int32)  : jRi l yX3_firstWorthIn wsX3_firstWorthIn ({ frames := 1, cells := 0, slots := 0, locals := 22 }) [.ref h, .int y] D cI cJ (fun H => va_P D vwCl [(h, .inr (0, [.int g, .int s0, .int m0]))] H) (fun r => r = cfw 0 g m0 y) := by
  intro sz
  refine Met.ofW (cc := cX3_firstWorthIn) (maxL := 2) (ret := (some .int)) (by decide) rfl ?_
  intro p e s m args below meth c s₁ B hml hv
  obtain ⟨rfl, hsz, hT, hPr⟩ := hv
  have hK := hT.1
  have hx := B.exec
  have hb := B.bytes
  have hr := B.returns
  have hts := atoms_spec (ws := wsX3_firstWorthIn) B.pre
  have hown : s.vm.findClass RX3 = some m.cls := findClass_of_methodNamed B.named
  have hlocks := B.notSynchronized
  subst hsz
  generalize hAe : va_A [] s.heap.size = A
  have hA : ∀ q : Nat, s.heap.size ≤ q → A q := fun q h => by rw [← hAe]; exact Or.inr h
  have hS : va_S A s.heap s.heap [] := va_S.rf
  have hl := lv_entry ([.ref h, .int y] : List Value) (n := 2) (Nat.le_of_ble_eq_true rfl)
  rw [lg_entry_eq]
  generalize (lg_sl ([.ref h, .int y]) ++ List.replicate (2 - (lg_sl ([.ref h, .int y])).length) Slot.unset).toArray = ls at hl ⊢
  have hl : lv_has ls 2 [(0, .ref h), (1, .int y)] := hl
  refine lv_aload_n hx hb dX3_firstWorthIn_0 rfl (lv_at hl 0 rfl) ?_
  refine va_get (D := D) (ci := 0) (v := .int g) (C := RX0) (T := TX0) (N := 3) hx hb hts (fun w h => List.mem_cons_of_mem _ (List.mem_append_left _ (List.mem_append_left _ (List.mem_append_left _ (List.mem_append_left _ (List.mem_append_right _ h)))))) hown hK hPr 0 rfl rfl 0 (by decide) (hts (Cond.fieldLink RX3 18 "JamDays$Jar" "good" "I") (List.mem_of_getElem? (i := 1) rfl)) (fun _ h9 => h9) rfl dX3_firstWorthIn_1 ?_
  refine lv_aload_n hx hb dX3_firstWorthIn_4 rfl (lv_at hl 0 rfl) ?_
  refine lv_iload_n hx hb dX3_firstWorthIn_5 rfl (lv_at hl 1 rfl) ?_
  have hPc_1 := hPr.sub (ws' := [(h, .inr (0, [.int g, .int s0, .int m0]))]) [0] rfl
  refine jcalli (va_runU (As := [.int y]) (rest := [.int g]) ⟨hx, hb, hml, hown, hts⟩ (c_mouldIn_0 l D cI cJ h g s0 m0 y s.heap.size) (va_cwU 1 hts gX3_firstWorthIn_X3_mouldIn_u34X0 rfl rfl rfl rfl (by decide +kernel) ⟨Nat.le_of_ble_eq_true rfl, Nat.le_of_ble_eq_true rfl⟩) (jpreV hT (va_recv hK hPr (ci := 0) (q0 := 0) rfl rfl) hPc_1) rfl rfl hl.1 rfl (lv_room (Nat.le_of_ble_eq_true rfl)) dX3_firstWorthIn_6 ⟨(Nat.zero_le _), (Nat.zero_le _)⟩) hS hA (fun r_2 H locs hw_r_2 hkq hS => ?_)
  try dsimp only at hw_r_2
  have hPr := jkeep hPr hkq
  subst hw_r_2
  refine lv_isub hx hb dX3_firstWorthIn_9 ?_
  exact W.iret (v := g - (jmo m0 y)) hx hb hr (fun t ht hW => ⟨⟨g - (jmo m0 y), (), rfl, rfl, trivial⟩, hS.F ht⟩) hS.2.2 dX3_firstWorthIn_10

set_option maxHeartbeats 4000000 in
set_option maxRecDepth 100000 in
theorem c_firstWorthIn_3 (l : Launch) (D : va_G) (cI cJ : ClassId) (h : Nat) (g : Int32) (s0 : Int32) (m0 : Int32) (y : Int32)  : jRi l yX3_firstWorthIn wsX3_firstWorthIn ({ frames := 1, cells := 0, slots := 0, locals := 22 }) [.ref h, .int y] D cI cJ (fun H => va_P D vwCl [(h, .inr (3, [.int g, .int s0, .int m0]))] H) (fun r => r = cfw 3 g m0 y) := by
  intro sz
  refine Met.ofW (cc := cX3_firstWorthIn) (maxL := 2) (ret := (some .int)) (by decide) rfl ?_
  intro p e s m args below meth c s₁ B hml hv
  obtain ⟨rfl, hsz, hT, hPr⟩ := hv
  have hK := hT.1
  have hx := B.exec
  have hb := B.bytes
  have hr := B.returns
  have hts := atoms_spec (ws := wsX3_firstWorthIn) B.pre
  have hown : s.vm.findClass RX3 = some m.cls := findClass_of_methodNamed B.named
  have hlocks := B.notSynchronized
  subst hsz
  generalize hAe : va_A [] s.heap.size = A
  have hA : ∀ q : Nat, s.heap.size ≤ q → A q := fun q h => by rw [← hAe]; exact Or.inr h
  have hS : va_S A s.heap s.heap [] := va_S.rf
  have hl := lv_entry ([.ref h, .int y] : List Value) (n := 2) (Nat.le_of_ble_eq_true rfl)
  rw [lg_entry_eq]
  generalize (lg_sl ([.ref h, .int y]) ++ List.replicate (2 - (lg_sl ([.ref h, .int y])).length) Slot.unset).toArray = ls at hl ⊢
  have hl : lv_has ls 2 [(0, .ref h), (1, .int y)] := hl
  refine lv_aload_n hx hb dX3_firstWorthIn_0 rfl (lv_at hl 0 rfl) ?_
  refine va_get (D := D) (ci := 3) (v := .int g) (C := RX3) (T := TX3) (N := 3) hx hb hts (fun w h => List.mem_cons_of_mem _ (List.mem_append_left _ (List.mem_append_left _ (List.mem_append_right _ h)))) hown hK hPr 0 rfl rfl 0 (by decide) (hts (Cond.fieldLink RX3 18 "JamDays$Jar" "good" "I") (List.mem_of_getElem? (i := 1) rfl)) (fun _ h9 => h9) rfl dX3_firstWorthIn_1 ?_
  refine lv_aload_n hx hb dX3_firstWorthIn_4 rfl (lv_at hl 0 rfl) ?_
  refine lv_iload_n hx hb dX3_firstWorthIn_5 rfl (lv_at hl 1 rfl) ?_
  have hPc_1 := hPr.sub (ws' := [(h, .inr (3, [.int g, .int s0, .int m0]))]) [0] rfl
  refine jcalli (va_runV (As := [.int y]) (rest := [.int g]) ⟨hx, hb, hml, hown, hts⟩ (c_mouldIn_3 l D cI cJ h g s0 m0 y s.heap.size) (cwV 1 hts gX3_firstWorthIn_X3_mouldIn rfl rfl rfl (by decide +kernel) ⟨Nat.le_of_ble_eq_true rfl, Nat.le_of_ble_eq_true rfl⟩) (jpreV hT (va_recv hK hPr (ci := 3) (q0 := 0) rfl rfl) hPc_1) rfl rfl hl.1 rfl (lv_room (Nat.le_of_ble_eq_true rfl)) dX3_firstWorthIn_6 ⟨(Nat.zero_le _), (Nat.zero_le _)⟩) hS hA (fun r_2 H locs hw_r_2 hkq hS => ?_)
  try dsimp only at hw_r_2
  have hPr := jkeep hPr hkq
  subst hw_r_2
  refine lv_isub hx hb dX3_firstWorthIn_9 ?_
  exact W.iret (v := g - (jmo m0 y)) hx hb hr (fun t ht hW => ⟨⟨g - (jmo m0 y), (), rfl, rfl, trivial⟩, hS.F ht⟩) hS.2.2 dX3_firstWorthIn_10

set_option maxHeartbeats 4000000 in
set_option maxRecDepth 100000 in
theorem c_firstWorthIn_5 (l : Launch) (D : va_G) (cI cJ : ClassId) (h : Nat) (g : Int32) (s0 : Int32) (m0 : Int32) (y : Int32)  : jRi l yX3_firstWorthIn wsX3_firstWorthIn ({ frames := 1, cells := 0, slots := 0, locals := 22 }) [.ref h, .int y] D cI cJ (fun H => va_P D vwCl [(h, .inr (5, [.int g, .int s0, .int m0]))] H) (fun r => r = cfw 5 g m0 y) := by
  intro sz
  refine Met.ofW (cc := cX3_firstWorthIn) (maxL := 2) (ret := (some .int)) (by decide) rfl ?_
  intro p e s m args below meth c s₁ B hml hv
  obtain ⟨rfl, hsz, hT, hPr⟩ := hv
  have hK := hT.1
  have hx := B.exec
  have hb := B.bytes
  have hr := B.returns
  have hts := atoms_spec (ws := wsX3_firstWorthIn) B.pre
  have hown : s.vm.findClass RX3 = some m.cls := findClass_of_methodNamed B.named
  have hlocks := B.notSynchronized
  subst hsz
  generalize hAe : va_A [] s.heap.size = A
  have hA : ∀ q : Nat, s.heap.size ≤ q → A q := fun q h => by rw [← hAe]; exact Or.inr h
  have hS : va_S A s.heap s.heap [] := va_S.rf
  have hl := lv_entry ([.ref h, .int y] : List Value) (n := 2) (Nat.le_of_ble_eq_true rfl)
  rw [lg_entry_eq]
  generalize (lg_sl ([.ref h, .int y]) ++ List.replicate (2 - (lg_sl ([.ref h, .int y])).length) Slot.unset).toArray = ls at hl ⊢
  have hl : lv_has ls 2 [(0, .ref h), (1, .int y)] := hl
  refine lv_aload_n hx hb dX3_firstWorthIn_0 rfl (lv_at hl 0 rfl) ?_
  refine va_get (D := D) (ci := 5) (v := .int g) (C := RX5) (T := TX5) (N := 3) hx hb hts (fun w h => List.mem_cons_of_mem _ (List.mem_append_right _ h)) hown hK hPr 0 rfl rfl 0 (by decide) (hts (Cond.fieldLink RX3 18 "JamDays$Jar" "good" "I") (List.mem_of_getElem? (i := 1) rfl)) (fun _ h9 => h9) rfl dX3_firstWorthIn_1 ?_
  refine lv_aload_n hx hb dX3_firstWorthIn_4 rfl (lv_at hl 0 rfl) ?_
  refine lv_iload_n hx hb dX3_firstWorthIn_5 rfl (lv_at hl 1 rfl) ?_
  have hPc_1 := hPr.sub (ws' := [(h, .inr (5, [.int g, .int s0, .int m0]))]) [0] rfl
  refine jcalli (va_runU (As := [.int y]) (rest := [.int g]) ⟨hx, hb, hml, hown, hts⟩ (c_mouldIn_5 l D cI cJ h g s0 m0 y s.heap.size) (va_cwU 1 hts gX3_firstWorthIn_X3_mouldIn_u34X5 rfl rfl rfl rfl (by decide +kernel) ⟨Nat.le_of_ble_eq_true rfl, Nat.le_of_ble_eq_true rfl⟩) (jpreV hT (va_recv hK hPr (ci := 5) (q0 := 0) rfl rfl) hPc_1) rfl rfl hl.1 rfl (lv_room (Nat.le_of_ble_eq_true rfl)) dX3_firstWorthIn_6 ⟨(Nat.zero_le _), (Nat.zero_le _)⟩) hS hA (fun r_2 H locs hw_r_2 hkq hS => ?_)
  try dsimp only at hw_r_2
  have hPr := jkeep hPr hkq
  subst hw_r_2
  refine lv_isub hx hb dX3_firstWorthIn_9 ?_
  exact W.iret (v := g - (jmo m0 y)) hx hb hr (fun t ht hW => ⟨⟨g - (jmo m0 y), (), rfl, rfl, trivial⟩, hS.F ht⟩) hS.2.2 dX3_firstWorthIn_10

set_option maxHeartbeats 4000000 in
set_option maxRecDepth 100000 in
theorem c_firstWorthIn_2 (l : Launch) (D : va_G) (cI cJ : ClassId) (h : Nat) (g : Int32) (s0 : Int32) (m0 : Int32) (y : Int32)  : jRi l yX2_firstWorthIn wsX2_firstWorthIn ({ frames := 1, cells := 0, slots := 0, locals := 22 }) [.ref h, .int y] D cI cJ (fun H => va_P D vwCl [(h, .inr (2, [.int g, .int s0, .int m0]))] H) (fun r => r = cfw 2 g m0 y) := by
  intro sz
  refine Met.ofW (cc := cX2_firstWorthIn) (maxL := 2) (ret := (some .int)) (by decide) rfl ?_
  intro p e s m args below meth c s₁ B hml hv
  obtain ⟨rfl, hsz, hT, hPr⟩ := hv
  have hK := hT.1
  have hx := B.exec
  have hb := B.bytes
  have hr := B.returns
  have hts := atoms_spec (ws := wsX2_firstWorthIn) B.pre
  have hown : s.vm.findClass RX2 = some m.cls := findClass_of_methodNamed B.named
  have hlocks := B.notSynchronized
  subst hsz
  generalize hAe : va_A [] s.heap.size = A
  have hA : ∀ q : Nat, s.heap.size ≤ q → A q := fun q h => by rw [← hAe]; exact Or.inr h
  have hS : va_S A s.heap s.heap [] := va_S.rf
  have hl := lv_entry ([.ref h, .int y] : List Value) (n := 2) (Nat.le_of_ble_eq_true rfl)
  rw [lg_entry_eq]
  generalize (lg_sl ([.ref h, .int y]) ++ List.replicate (2 - (lg_sl ([.ref h, .int y])).length) Slot.unset).toArray = ls at hl ⊢
  have hl : lv_has ls 2 [(0, .ref h), (1, .int y)] := hl
  refine lv_iconst (v := 2) hx hb dX2_firstWorthIn_0 (by decide) ?_
  refine lv_aload_n hx hb dX2_firstWorthIn_1 rfl (lv_at hl 0 rfl) ?_
  refine va_get (D := D) (ci := 2) (v := .int g) (C := RX2) (T := TX2) (N := 3) hx hb hts (fun w h => List.mem_cons_of_mem _ (List.mem_append_left _ (List.mem_append_left _ (List.mem_append_left _ (List.mem_append_right _ h))))) hown hK hPr 0 rfl rfl 0 (by decide) (hts (Cond.fieldLink RX2 9 "JamDays$Gold" "good" "I") (List.mem_of_getElem? (i := 1) rfl)) (u_same (hts (Cond.sameField "JamDays$Gold" "JamDays$Jar" "good" "I") (List.mem_of_getElem? (i := 2) rfl))) rfl dX2_firstWorthIn_2 ?_
  refine lv_aload_n hx hb dX2_firstWorthIn_5 rfl (lv_at hl 0 rfl) ?_
  refine lv_iload_n hx hb dX2_firstWorthIn_6 rfl (lv_at hl 1 rfl) ?_
  have hPc_1 := hPr.sub (ws' := [(h, .inr (2, [.int g, .int s0, .int m0]))]) [0] rfl
  refine jcalli (va_runU (As := [.int y]) (rest := [.int g, .int 2]) ⟨hx, hb, hml, hown, hts⟩ (c_mouldIn_2 l D cI cJ h g s0 m0 y s.heap.size) (va_cwU 1 hts gX2_firstWorthIn_X3_mouldIn_u15X2 rfl rfl rfl rfl (by decide +kernel) ⟨Nat.le_of_ble_eq_true rfl, Nat.le_of_ble_eq_true rfl⟩) (jpreV hT (va_recv hK hPr (ci := 2) (q0 := 0) rfl rfl) hPc_1) rfl rfl hl.1 rfl (lv_room (Nat.le_of_ble_eq_true rfl)) dX2_firstWorthIn_7 ⟨(Nat.zero_le _), (Nat.zero_le _)⟩) hS hA (fun r_2 H locs hw_r_2 hkq hS => ?_)
  try dsimp only at hw_r_2
  have hPr := jkeep hPr hkq
  subst hw_r_2
  refine lv_isub hx hb dX2_firstWorthIn_10 ?_
  refine lv_imul hx hb dX2_firstWorthIn_11 ?_
  exact W.iret (v := 2 * (g - (jmo m0 y))) hx hb hr (fun t ht hW => ⟨⟨2 * (g - (jmo m0 y)), (), rfl, rfl, trivial⟩, hS.F ht⟩) hS.2.2 dX2_firstWorthIn_12

set_option maxHeartbeats 4000000 in
set_option maxRecDepth 100000 in
theorem c_firstWorthIn_4 (l : Launch) (D : va_G) (cI cJ : ClassId) (h : Nat) (g : Int32) (s0 : Int32) (m0 : Int32) (y : Int32)  : jRi l yX4_firstWorthIn wsX4_firstWorthIn ({ frames := 1, cells := 0, slots := 0, locals := 22 }) [.ref h, .int y] D cI cJ (fun H => va_P D vwCl [(h, .inr (4, [.int g, .int s0, .int m0]))] H) (fun r => r = cfw 4 g m0 y) := by
  intro sz
  refine Met.ofW (cc := cX4_firstWorthIn) (maxL := 3) (ret := (some .int)) (by decide) rfl ?_
  intro p e s m args below meth c s₁ B hml hv
  obtain ⟨rfl, hsz, hT, hPr⟩ := hv
  have hK := hT.1
  have hx := B.exec
  have hb := B.bytes
  have hr := B.returns
  have hts := atoms_spec (ws := wsX4_firstWorthIn) B.pre
  have hown : s.vm.findClass RX4 = some m.cls := findClass_of_methodNamed B.named
  have hlocks := B.notSynchronized
  subst hsz
  generalize hAe : va_A [] s.heap.size = A
  have hA : ∀ q : Nat, s.heap.size ≤ q → A q := fun q h => by rw [← hAe]; exact Or.inr h
  have hS : va_S A s.heap s.heap [] := va_S.rf
  have hl := lv_entry ([.ref h, .int y] : List Value) (n := 3) (Nat.le_of_ble_eq_true rfl)
  rw [lg_entry_eq]
  generalize (lg_sl ([.ref h, .int y]) ++ List.replicate (3 - (lg_sl ([.ref h, .int y])).length) Slot.unset).toArray = ls at hl ⊢
  have hl : lv_has ls 3 [(0, .ref h), (1, .int y)] := hl
  refine lv_iload_n hx hb dX4_firstWorthIn_0 rfl (lv_at hl 1 rfl) ?_
  refine lv_iconst (v := 2) hx hb dX4_firstWorthIn_1 (by decide) ?_
  refine lv_irem hx hb dX4_firstWorthIn_2 (by decide) ?_
  refine lv_iconst (v := 1) hx hb dX4_firstWorthIn_3 (by decide) ?_
  refine lv_icmp_ne (tgt := 11) hx hb dX4_firstWorthIn_4 (by decide) (fun c_1 => ?_) (fun c_1 => ?_)
  · skip
    refine lv_iconst (v := 0) hx hb dX4_firstWorthIn_11 (by decide) ?_
    refine lv_istore_n (lv' := [(2, .int 0), (0, .ref h), (1, .int y)]) hx hb dX4_firstWorthIn_12 rfl hl (by decide) rfl (fun ls hl => ?_)
    refine lv_aload_n hx hb dX4_firstWorthIn_13 rfl (lv_at hl 1 rfl) ?_
    refine va_get (D := D) (ci := 4) (v := .int g) (C := RX4) (T := TX4) (N := 3) hx hb hts (fun w h => List.mem_cons_of_mem _ (List.mem_append_left _ (List.mem_append_right _ h))) hown hK hPr 0 rfl rfl 0 (by decide) (hts (Cond.fieldLink RX4 9 "JamDays$Plum" "good" "I") (List.mem_of_getElem? (i := 1) rfl)) (u_same (hts (Cond.sameField "JamDays$Plum" "JamDays$Jar" "good" "I") (List.mem_of_getElem? (i := 2) rfl))) rfl dX4_firstWorthIn_14 ?_
    refine lv_aload_n hx hb dX4_firstWorthIn_17 rfl (lv_at hl 1 rfl) ?_
    refine lv_iload_n hx hb dX4_firstWorthIn_18 rfl (lv_at hl 2 rfl) ?_
    have hPc_2 := hPr.sub (ws' := [(h, .inr (4, [.int g, .int s0, .int m0]))]) [0] rfl
    refine jcalli (va_runU (As := [.int y]) (rest := [.int g]) ⟨hx, hb, hml, hown, hts⟩ (c_mouldIn_4 l D cI cJ h g s0 m0 y s.heap.size) (va_cwU 1 hts gX4_firstWorthIn_X3_mouldIn_u15X4 rfl rfl rfl rfl (by decide +kernel) ⟨Nat.le_of_ble_eq_true rfl, Nat.le_of_ble_eq_true rfl⟩) (jpreV hT (va_recv hK hPr (ci := 4) (q0 := 0) rfl rfl) hPc_2) rfl rfl hl.1 rfl (lv_room (Nat.le_of_ble_eq_true rfl)) dX4_firstWorthIn_19 ⟨(Nat.zero_le _), (Nat.zero_le _)⟩) hS hA (fun r_3 H locs hw_r_3 hkq hS => ?_)
    try dsimp only at hw_r_3
    have hPr := jkeep hPr hkq
    subst hw_r_3
    refine lv_isub hx hb dX4_firstWorthIn_22 ?_
    refine lv_iload_n hx hb dX4_firstWorthIn_23 rfl (lv_at hl 0 rfl) ?_
    refine lv_iadd hx hb dX4_firstWorthIn_24 ?_
    exact W.iret (v := (g - (jmo m0 y)) + 0) hx hb hr (fun t ht hW => ⟨⟨(g - (jmo m0 y)) + 0, (), rfl, (by simp [cfw, c_1]), trivial⟩, hS.F ht⟩) hS.2.2 dX4_firstWorthIn_25
  · skip
    refine lv_iconst (v := 3) hx hb dX4_firstWorthIn_7 (by decide) ?_
    refine lv_goto (tgt := 12) hx hb dX4_firstWorthIn_8 (by decide) ?_
    refine lv_istore_n (lv' := [(2, .int 3), (0, .ref h), (1, .int y)]) hx hb dX4_firstWorthIn_12 rfl hl (by decide) rfl (fun ls hl => ?_)
    refine lv_aload_n hx hb dX4_firstWorthIn_13 rfl (lv_at hl 1 rfl) ?_
    refine va_get (D := D) (ci := 4) (v := .int g) (C := RX4) (T := TX4) (N := 3) hx hb hts (fun w h => List.mem_cons_of_mem _ (List.mem_append_left _ (List.mem_append_right _ h))) hown hK hPr 0 rfl rfl 0 (by decide) (hts (Cond.fieldLink RX4 9 "JamDays$Plum" "good" "I") (List.mem_of_getElem? (i := 1) rfl)) (u_same (hts (Cond.sameField "JamDays$Plum" "JamDays$Jar" "good" "I") (List.mem_of_getElem? (i := 2) rfl))) rfl dX4_firstWorthIn_14 ?_
    refine lv_aload_n hx hb dX4_firstWorthIn_17 rfl (lv_at hl 1 rfl) ?_
    refine lv_iload_n hx hb dX4_firstWorthIn_18 rfl (lv_at hl 2 rfl) ?_
    have hPc_4 := hPr.sub (ws' := [(h, .inr (4, [.int g, .int s0, .int m0]))]) [0] rfl
    refine jcalli (va_runU (As := [.int y]) (rest := [.int g]) ⟨hx, hb, hml, hown, hts⟩ (c_mouldIn_4 l D cI cJ h g s0 m0 y s.heap.size) (va_cwU 1 hts gX4_firstWorthIn_X3_mouldIn_u15X4 rfl rfl rfl rfl (by decide +kernel) ⟨Nat.le_of_ble_eq_true rfl, Nat.le_of_ble_eq_true rfl⟩) (jpreV hT (va_recv hK hPr (ci := 4) (q0 := 0) rfl rfl) hPc_4) rfl rfl hl.1 rfl (lv_room (Nat.le_of_ble_eq_true rfl)) dX4_firstWorthIn_19 ⟨(Nat.zero_le _), (Nat.zero_le _)⟩) hS hA (fun r_5 H locs hw_r_5 hkq hS => ?_)
    try dsimp only at hw_r_5
    have hPr := jkeep hPr hkq
    subst hw_r_5
    refine lv_isub hx hb dX4_firstWorthIn_22 ?_
    refine lv_iload_n hx hb dX4_firstWorthIn_23 rfl (lv_at hl 0 rfl) ?_
    refine lv_iadd hx hb dX4_firstWorthIn_24 ?_
    exact W.iret (v := (g - (jmo m0 y)) + 3) hx hb hr (fun t ht hW => ⟨⟨(g - (jmo m0 y)) + 3, (), rfl, (by simp [cfw, c_1]), trivial⟩, hS.F ht⟩) hS.2.2 dX4_firstWorthIn_25

set_option maxHeartbeats 4000000 in
set_option maxRecDepth 100000 in
theorem c_kindNumber_3 (l : Launch) (D : va_G) (cI cJ : ClassId) (h : Nat)  : jRi l yX3_kindNumber wsX3_kindNumber ({ frames := 0, cells := 0, slots := 0, locals := 0 }) [.ref h] D cI cJ (fun H => True) (fun r => r = ckn 3) := by
  intro sz
  refine Met.ofW (cc := cX3_kindNumber) (maxL := 1) (ret := (some .int)) (by decide) rfl ?_
  intro p e s m args below meth c s₁ B hml hv
  obtain ⟨rfl, hsz, hT, _⟩ := hv
  have hK := hT.1
  have hx := B.exec
  have hb := B.bytes
  have hr := B.returns
  have hts := atoms_spec (ws := wsX3_kindNumber) B.pre
  have hown : s.vm.findClass RX3 = some m.cls := findClass_of_methodNamed B.named
  have hlocks := B.notSynchronized
  subst hsz
  generalize hAe : va_A [] s.heap.size = A
  have hA : ∀ q : Nat, s.heap.size ≤ q → A q := fun q h => by rw [← hAe]; exact Or.inr h
  have hS : va_S A s.heap s.heap [] := va_S.rf
  have hl := lv_entry ([.ref h] : List Value) (n := 1) (Nat.le_of_ble_eq_true rfl)
  rw [lg_entry_eq]
  generalize (lg_sl ([.ref h]) ++ List.replicate (1 - (lg_sl ([.ref h])).length) Slot.unset).toArray = ls at hl ⊢
  have hl : lv_has ls 1 [(0, .ref h)] := hl
  refine lv_iconst (v := 0) hx hb dX3_kindNumber_0 (by decide) ?_
  exact W.iret (v := 0) hx hb hr (fun t ht hW => ⟨⟨0, (), rfl, rfl, trivial⟩, hS.F ht⟩) hS.2.2 dX3_kindNumber_1

set_option maxHeartbeats 4000000 in
set_option maxRecDepth 100000 in
theorem c_kindNumber_5 (l : Launch) (D : va_G) (cI cJ : ClassId) (h : Nat)  : jRi l yX5_kindNumber wsX5_kindNumber ({ frames := 0, cells := 0, slots := 0, locals := 0 }) [.ref h] D cI cJ (fun H => True) (fun r => r = ckn 5) := by
  intro sz
  refine Met.ofW (cc := cX5_kindNumber) (maxL := 1) (ret := (some .int)) (by decide) rfl ?_
  intro p e s m args below meth c s₁ B hml hv
  obtain ⟨rfl, hsz, hT, _⟩ := hv
  have hK := hT.1
  have hx := B.exec
  have hb := B.bytes
  have hr := B.returns
  have hts := atoms_spec (ws := wsX5_kindNumber) B.pre
  have hown : s.vm.findClass RX5 = some m.cls := findClass_of_methodNamed B.named
  have hlocks := B.notSynchronized
  subst hsz
  generalize hAe : va_A [] s.heap.size = A
  have hA : ∀ q : Nat, s.heap.size ≤ q → A q := fun q h => by rw [← hAe]; exact Or.inr h
  have hS : va_S A s.heap s.heap [] := va_S.rf
  have hl := lv_entry ([.ref h] : List Value) (n := 1) (Nat.le_of_ble_eq_true rfl)
  rw [lg_entry_eq]
  generalize (lg_sl ([.ref h]) ++ List.replicate (1 - (lg_sl ([.ref h])).length) Slot.unset).toArray = ls at hl ⊢
  have hl : lv_has ls 1 [(0, .ref h)] := hl
  refine lv_iconst (v := 1) hx hb dX5_kindNumber_0 (by decide) ?_
  exact W.iret (v := 1) hx hb hr (fun t ht hW => ⟨⟨1, (), rfl, rfl, trivial⟩, hS.F ht⟩) hS.2.2 dX5_kindNumber_1

set_option maxHeartbeats 4000000 in
set_option maxRecDepth 100000 in
theorem c_kindNumber_0 (l : Launch) (D : va_G) (cI cJ : ClassId) (h : Nat)  : jRi l yX0_kindNumber wsX0_kindNumber ({ frames := 0, cells := 0, slots := 0, locals := 0 }) [.ref h] D cI cJ (fun H => True) (fun r => r = ckn 0) := by
  intro sz
  refine Met.ofW (cc := cX0_kindNumber) (maxL := 1) (ret := (some .int)) (by decide) rfl ?_
  intro p e s m args below meth c s₁ B hml hv
  obtain ⟨rfl, hsz, hT, _⟩ := hv
  have hK := hT.1
  have hx := B.exec
  have hb := B.bytes
  have hr := B.returns
  have hts := atoms_spec (ws := wsX0_kindNumber) B.pre
  have hown : s.vm.findClass RX0 = some m.cls := findClass_of_methodNamed B.named
  have hlocks := B.notSynchronized
  subst hsz
  generalize hAe : va_A [] s.heap.size = A
  have hA : ∀ q : Nat, s.heap.size ≤ q → A q := fun q h => by rw [← hAe]; exact Or.inr h
  have hS : va_S A s.heap s.heap [] := va_S.rf
  have hl := lv_entry ([.ref h] : List Value) (n := 1) (Nat.le_of_ble_eq_true rfl)
  rw [lg_entry_eq]
  generalize (lg_sl ([.ref h]) ++ List.replicate (1 - (lg_sl ([.ref h])).length) Slot.unset).toArray = ls at hl ⊢
  have hl : lv_has ls 1 [(0, .ref h)] := hl
  refine lv_iconst (v := 2) hx hb dX0_kindNumber_0 (by decide) ?_
  exact W.iret (v := 2) hx hb hr (fun t ht hW => ⟨⟨2, (), rfl, rfl, trivial⟩, hS.F ht⟩) hS.2.2 dX0_kindNumber_1

set_option maxHeartbeats 4000000 in
set_option maxRecDepth 100000 in
theorem c_kindNumber_4 (l : Launch) (D : va_G) (cI cJ : ClassId) (h : Nat)  : jRi l yX4_kindNumber wsX4_kindNumber ({ frames := 0, cells := 0, slots := 0, locals := 0 }) [.ref h] D cI cJ (fun H => True) (fun r => r = ckn 4) := by
  intro sz
  refine Met.ofW (cc := cX4_kindNumber) (maxL := 1) (ret := (some .int)) (by decide) rfl ?_
  intro p e s m args below meth c s₁ B hml hv
  obtain ⟨rfl, hsz, hT, _⟩ := hv
  have hK := hT.1
  have hx := B.exec
  have hb := B.bytes
  have hr := B.returns
  have hts := atoms_spec (ws := wsX4_kindNumber) B.pre
  have hown : s.vm.findClass RX4 = some m.cls := findClass_of_methodNamed B.named
  have hlocks := B.notSynchronized
  subst hsz
  generalize hAe : va_A [] s.heap.size = A
  have hA : ∀ q : Nat, s.heap.size ≤ q → A q := fun q h => by rw [← hAe]; exact Or.inr h
  have hS : va_S A s.heap s.heap [] := va_S.rf
  have hl := lv_entry ([.ref h] : List Value) (n := 1) (Nat.le_of_ble_eq_true rfl)
  rw [lg_entry_eq]
  generalize (lg_sl ([.ref h]) ++ List.replicate (1 - (lg_sl ([.ref h])).length) Slot.unset).toArray = ls at hl ⊢
  have hl : lv_has ls 1 [(0, .ref h)] := hl
  refine lv_iconst (v := 3) hx hb dX4_kindNumber_0 (by decide) ?_
  exact W.iret (v := 3) hx hb hr (fun t ht hW => ⟨⟨3, (), rfl, rfl, trivial⟩, hS.F ht⟩) hS.2.2 dX4_kindNumber_1

set_option maxHeartbeats 4000000 in
set_option maxRecDepth 100000 in
theorem c_kindNumber_2 (l : Launch) (D : va_G) (cI cJ : ClassId) (h : Nat)  : jRi l yX2_kindNumber wsX2_kindNumber ({ frames := 0, cells := 0, slots := 0, locals := 0 }) [.ref h] D cI cJ (fun H => True) (fun r => r = ckn 2) := by
  intro sz
  refine Met.ofW (cc := cX2_kindNumber) (maxL := 1) (ret := (some .int)) (by decide) rfl ?_
  intro p e s m args below meth c s₁ B hml hv
  obtain ⟨rfl, hsz, hT, _⟩ := hv
  have hK := hT.1
  have hx := B.exec
  have hb := B.bytes
  have hr := B.returns
  have hts := atoms_spec (ws := wsX2_kindNumber) B.pre
  have hown : s.vm.findClass RX2 = some m.cls := findClass_of_methodNamed B.named
  have hlocks := B.notSynchronized
  subst hsz
  generalize hAe : va_A [] s.heap.size = A
  have hA : ∀ q : Nat, s.heap.size ≤ q → A q := fun q h => by rw [← hAe]; exact Or.inr h
  have hS : va_S A s.heap s.heap [] := va_S.rf
  have hl := lv_entry ([.ref h] : List Value) (n := 1) (Nat.le_of_ble_eq_true rfl)
  rw [lg_entry_eq]
  generalize (lg_sl ([.ref h]) ++ List.replicate (1 - (lg_sl ([.ref h])).length) Slot.unset).toArray = ls at hl ⊢
  have hl : lv_has ls 1 [(0, .ref h)] := hl
  refine lv_iconst (v := 4) hx hb dX2_kindNumber_0 (by decide) ?_
  exact W.iret (v := 4) hx hb hr (fun t ht hW => ⟨⟨4, (), rfl, rfl, trivial⟩, hS.F ht⟩) hS.2.2 dX2_kindNumber_1

set_option maxHeartbeats 4000000 in
set_option maxRecDepth 100000 in
theorem c_Jar_init3_0 (l : Launch) (D : va_G) (cI cJ : ClassId) (h : Nat) (v0 : Value) (v1 : Value) (v2 : Value) (g : Int32) (s0 : Int32) (m0 : Int32)  : jWv l yX3_init_ wsX3_init_ ({ frames := 1, cells := 0, slots := 0, locals := 12 }) 0 0 [.ref h, .int g, .int s0, .int m0] D cI cJ [(h, .inr (0, [v0, v1, v2]))] (fun H => True) (fun H => va_P D vwCl [(h, .inr (0, [.int g, .int s0, .int m0]))] H) := by
  intro sz
  refine Met.ofW (cc := cX3_init_) (maxL := 4) (ret := none) (by decide) rfl ?_
  intro p e s m args below meth c s₁ B hml hv
  obtain ⟨rfl, hsz, hT, hP, hD0, _⟩ := hv
  have hK := hT.1
  have hx := B.exec
  have hb := B.bytes
  have hr := B.returns
  have hts := atoms_spec (ws := wsX3_init_) B.pre
  have hown : s.vm.findClass RX3 = some m.cls := findClass_of_methodNamed B.named
  have hlocks := B.notSynchronized
  have hin : meth.name = "<init>" := (name_of_methodNamed B.named B.method).1
  subst hsz
  have hD := hD0.self (sz := s.heap.size)
  generalize hAe : va_A [(h, .inr (0, [v0, v1, v2]))] s.heap.size = A at hD ⊢
  have hA : ∀ q : Nat, s.heap.size ≤ q → A q := fun q h => by rw [← hAe]; exact Or.inr h
  have hS : va_S A s.heap s.heap [] := va_S.rf
  have hl := lv_entry ([.ref h, .int g, .int s0, .int m0] : List Value) (n := 4) (Nat.le_of_ble_eq_true rfl)
  rw [lg_entry_eq]
  generalize (lg_sl ([.ref h, .int g, .int s0, .int m0]) ++ List.replicate (4 - (lg_sl ([.ref h, .int g, .int s0, .int m0])).length) Slot.unset).toArray = ls at hl ⊢
  have hl : lv_has ls 4 [(0, .ref h), (1, .int g), (2, .int s0), (3, .int m0)] := hl
  refine lv_aload_n hx hb dX3_init__0 rfl (lv_at hl 0 rfl) ?_
  refine W.objInit hx hb hown (hts (Cond.methodLink RX3 13 objectInit) (List.mem_of_getElem? (i := 1) rfl)) (hts (Cond.instanceMethod objectInit) (List.mem_of_getElem? (i := 2) rfl)) (hts _ (List.mem_of_getElem? (i := 3) rfl)) rfl (by rw [hml]; exact hl.1) rfl dX3_init__1 (Nat.le_of_ble_eq_true rfl) (Nat.le_of_ble_eq_true rfl) ?_
  refine W.eq (g2 := F0 m 4 ls []) rfl ?_
  refine lv_aload_n hx hb dX3_init__4 rfl (lv_at hl 0 rfl) ?_
  refine lv_iload_n hx hb dX3_init__5 rfl (lv_at hl 1 rfl) ?_
  refine va_putF (D := D) (ci := 0) (v := .int g) (ty := .int) (C := RX0) (T := TX0) (N := 3) hx hb hts (fun w h => List.mem_cons_of_mem _ (List.mem_append_left _ (List.mem_append_left _ (List.mem_append_left _ (List.mem_append_left _ (List.mem_append_right _ h)))))) tyX0 tyX0_ok nmX0 hown hK hP hD hS 0 rfl rfl 0 (by decide) (hts (Cond.fieldLink RX3 18 "JamDays$Jar" "good" "I") (List.mem_of_getElem? (i := 4) rfl)) (fun _ h9 => h9) rfl hin rfl (by decide +kernel) rfl rfl (Nat.le_of_ble_eq_true rfl) dX3_init__6 (fun H locs hP hD hS => ?_)
  have hP : va_P D vwCl [(h, .inr (0, [.int g, v1, v2]))] H := hP
  have hD : va_D A [(h, .inr (0, [.int g, v1, v2]))] := hD
  refine lv_aload_n hx hb dX3_init__9 rfl (lv_at hl 0 rfl) ?_
  refine lv_iload_n hx hb dX3_init__10 rfl (lv_at hl 2 rfl) ?_
  refine va_putF (D := D) (ci := 0) (v := .int s0) (ty := .int) (C := RX0) (T := TX0) (N := 3) hx hb hts (fun w h => List.mem_cons_of_mem _ (List.mem_append_left _ (List.mem_append_left _ (List.mem_append_left _ (List.mem_append_left _ (List.mem_append_right _ h)))))) tyX0 tyX0_ok nmX0 hown hK hP hD hS 0 rfl rfl 1 (by decide) (hts (Cond.fieldLink RX3 22 "JamDays$Jar" "sugar" "I") (List.mem_of_getElem? (i := 5) rfl)) (fun _ h9 => h9) rfl hin rfl (by decide +kernel) rfl rfl (Nat.le_of_ble_eq_true rfl) dX3_init__11 (fun H locs hP hD hS => ?_)
  have hP : va_P D vwCl [(h, .inr (0, [.int g, .int s0, v2]))] H := hP
  have hD : va_D A [(h, .inr (0, [.int g, .int s0, v2]))] := hD
  refine lv_aload_n hx hb dX3_init__14 rfl (lv_at hl 0 rfl) ?_
  refine lv_iload_n hx hb dX3_init__15 rfl (lv_at hl 3 rfl) ?_
  refine va_putF (D := D) (ci := 0) (v := .int m0) (ty := .int) (C := RX0) (T := TX0) (N := 3) hx hb hts (fun w h => List.mem_cons_of_mem _ (List.mem_append_left _ (List.mem_append_left _ (List.mem_append_left _ (List.mem_append_left _ (List.mem_append_right _ h)))))) tyX0 tyX0_ok nmX0 hown hK hP hD hS 0 rfl rfl 2 (by decide) (hts (Cond.fieldLink RX3 25 "JamDays$Jar" "mouldEachYear" "I") (List.mem_of_getElem? (i := 6) rfl)) (fun _ h9 => h9) rfl hin rfl (by decide +kernel) rfl rfl (Nat.le_of_ble_eq_true rfl) dX3_init__16 (fun H locs hP hD hS => ?_)
  have hP : va_P D vwCl [(h, .inr (0, [.int g, .int s0, .int m0]))] H := hP
  have hD : va_D A [(h, .inr (0, [.int g, .int s0, .int m0]))] := hD
  exact W.vret hx hb hr (fun t ht hW => ⟨⟨(), rfl, trivial, by dsimp only; rw [ht]; exact hP⟩, hS.F ht⟩) hS.2.2 dX3_init__19

set_option maxHeartbeats 4000000 in
set_option maxRecDepth 100000 in
theorem c_Jar_init3_2 (l : Launch) (D : va_G) (cI cJ : ClassId) (h : Nat) (v0 : Value) (v1 : Value) (v2 : Value) (g : Int32) (s0 : Int32) (m0 : Int32)  : jWv l yX3_init_ wsX3_init_ ({ frames := 1, cells := 0, slots := 0, locals := 12 }) 0 0 [.ref h, .int g, .int s0, .int m0] D cI cJ [(h, .inr (2, [v0, v1, v2]))] (fun H => True) (fun H => va_P D vwCl [(h, .inr (2, [.int g, .int s0, .int m0]))] H) := by
  intro sz
  refine Met.ofW (cc := cX3_init_) (maxL := 4) (ret := none) (by decide) rfl ?_
  intro p e s m args below meth c s₁ B hml hv
  obtain ⟨rfl, hsz, hT, hP, hD0, _⟩ := hv
  have hK := hT.1
  have hx := B.exec
  have hb := B.bytes
  have hr := B.returns
  have hts := atoms_spec (ws := wsX3_init_) B.pre
  have hown : s.vm.findClass RX3 = some m.cls := findClass_of_methodNamed B.named
  have hlocks := B.notSynchronized
  have hin : meth.name = "<init>" := (name_of_methodNamed B.named B.method).1
  subst hsz
  have hD := hD0.self (sz := s.heap.size)
  generalize hAe : va_A [(h, .inr (2, [v0, v1, v2]))] s.heap.size = A at hD ⊢
  have hA : ∀ q : Nat, s.heap.size ≤ q → A q := fun q h => by rw [← hAe]; exact Or.inr h
  have hS : va_S A s.heap s.heap [] := va_S.rf
  have hl := lv_entry ([.ref h, .int g, .int s0, .int m0] : List Value) (n := 4) (Nat.le_of_ble_eq_true rfl)
  rw [lg_entry_eq]
  generalize (lg_sl ([.ref h, .int g, .int s0, .int m0]) ++ List.replicate (4 - (lg_sl ([.ref h, .int g, .int s0, .int m0])).length) Slot.unset).toArray = ls at hl ⊢
  have hl : lv_has ls 4 [(0, .ref h), (1, .int g), (2, .int s0), (3, .int m0)] := hl
  refine lv_aload_n hx hb dX3_init__0 rfl (lv_at hl 0 rfl) ?_
  refine W.objInit hx hb hown (hts (Cond.methodLink RX3 13 objectInit) (List.mem_of_getElem? (i := 1) rfl)) (hts (Cond.instanceMethod objectInit) (List.mem_of_getElem? (i := 2) rfl)) (hts _ (List.mem_of_getElem? (i := 3) rfl)) rfl (by rw [hml]; exact hl.1) rfl dX3_init__1 (Nat.le_of_ble_eq_true rfl) (Nat.le_of_ble_eq_true rfl) ?_
  refine W.eq (g2 := F0 m 4 ls []) rfl ?_
  refine lv_aload_n hx hb dX3_init__4 rfl (lv_at hl 0 rfl) ?_
  refine lv_iload_n hx hb dX3_init__5 rfl (lv_at hl 1 rfl) ?_
  refine va_putF (D := D) (ci := 2) (v := .int g) (ty := .int) (C := RX2) (T := TX2) (N := 3) hx hb hts (fun w h => List.mem_cons_of_mem _ (List.mem_append_left _ (List.mem_append_left _ (List.mem_append_left _ (List.mem_append_right _ h))))) tyX2 tyX2_ok nmX2 hown hK hP hD hS 0 rfl rfl 0 (by decide) (hts (Cond.fieldLink RX3 18 "JamDays$Jar" "good" "I") (List.mem_of_getElem? (i := 4) rfl)) (fun _ h9 => h9) rfl hin rfl (by decide +kernel) rfl rfl (Nat.le_of_ble_eq_true rfl) dX3_init__6 (fun H locs hP hD hS => ?_)
  have hP : va_P D vwCl [(h, .inr (2, [.int g, v1, v2]))] H := hP
  have hD : va_D A [(h, .inr (2, [.int g, v1, v2]))] := hD
  refine lv_aload_n hx hb dX3_init__9 rfl (lv_at hl 0 rfl) ?_
  refine lv_iload_n hx hb dX3_init__10 rfl (lv_at hl 2 rfl) ?_
  refine va_putF (D := D) (ci := 2) (v := .int s0) (ty := .int) (C := RX2) (T := TX2) (N := 3) hx hb hts (fun w h => List.mem_cons_of_mem _ (List.mem_append_left _ (List.mem_append_left _ (List.mem_append_left _ (List.mem_append_right _ h))))) tyX2 tyX2_ok nmX2 hown hK hP hD hS 0 rfl rfl 1 (by decide) (hts (Cond.fieldLink RX3 22 "JamDays$Jar" "sugar" "I") (List.mem_of_getElem? (i := 5) rfl)) (fun _ h9 => h9) rfl hin rfl (by decide +kernel) rfl rfl (Nat.le_of_ble_eq_true rfl) dX3_init__11 (fun H locs hP hD hS => ?_)
  have hP : va_P D vwCl [(h, .inr (2, [.int g, .int s0, v2]))] H := hP
  have hD : va_D A [(h, .inr (2, [.int g, .int s0, v2]))] := hD
  refine lv_aload_n hx hb dX3_init__14 rfl (lv_at hl 0 rfl) ?_
  refine lv_iload_n hx hb dX3_init__15 rfl (lv_at hl 3 rfl) ?_
  refine va_putF (D := D) (ci := 2) (v := .int m0) (ty := .int) (C := RX2) (T := TX2) (N := 3) hx hb hts (fun w h => List.mem_cons_of_mem _ (List.mem_append_left _ (List.mem_append_left _ (List.mem_append_left _ (List.mem_append_right _ h))))) tyX2 tyX2_ok nmX2 hown hK hP hD hS 0 rfl rfl 2 (by decide) (hts (Cond.fieldLink RX3 25 "JamDays$Jar" "mouldEachYear" "I") (List.mem_of_getElem? (i := 6) rfl)) (fun _ h9 => h9) rfl hin rfl (by decide +kernel) rfl rfl (Nat.le_of_ble_eq_true rfl) dX3_init__16 (fun H locs hP hD hS => ?_)
  have hP : va_P D vwCl [(h, .inr (2, [.int g, .int s0, .int m0]))] H := hP
  have hD : va_D A [(h, .inr (2, [.int g, .int s0, .int m0]))] := hD
  exact W.vret hx hb hr (fun t ht hW => ⟨⟨(), rfl, trivial, by dsimp only; rw [ht]; exact hP⟩, hS.F ht⟩) hS.2.2 dX3_init__19

set_option maxHeartbeats 4000000 in
set_option maxRecDepth 100000 in
theorem c_Jar_init3_3 (l : Launch) (D : va_G) (cI cJ : ClassId) (h : Nat) (v0 : Value) (v1 : Value) (v2 : Value) (g : Int32) (s0 : Int32) (m0 : Int32)  : jWv l yX3_init_ wsX3_init_ ({ frames := 1, cells := 0, slots := 0, locals := 12 }) 0 0 [.ref h, .int g, .int s0, .int m0] D cI cJ [(h, .inr (3, [v0, v1, v2]))] (fun H => True) (fun H => va_P D vwCl [(h, .inr (3, [.int g, .int s0, .int m0]))] H) := by
  intro sz
  refine Met.ofW (cc := cX3_init_) (maxL := 4) (ret := none) (by decide) rfl ?_
  intro p e s m args below meth c s₁ B hml hv
  obtain ⟨rfl, hsz, hT, hP, hD0, _⟩ := hv
  have hK := hT.1
  have hx := B.exec
  have hb := B.bytes
  have hr := B.returns
  have hts := atoms_spec (ws := wsX3_init_) B.pre
  have hown : s.vm.findClass RX3 = some m.cls := findClass_of_methodNamed B.named
  have hlocks := B.notSynchronized
  have hin : meth.name = "<init>" := (name_of_methodNamed B.named B.method).1
  subst hsz
  have hD := hD0.self (sz := s.heap.size)
  generalize hAe : va_A [(h, .inr (3, [v0, v1, v2]))] s.heap.size = A at hD ⊢
  have hA : ∀ q : Nat, s.heap.size ≤ q → A q := fun q h => by rw [← hAe]; exact Or.inr h
  have hS : va_S A s.heap s.heap [] := va_S.rf
  have hl := lv_entry ([.ref h, .int g, .int s0, .int m0] : List Value) (n := 4) (Nat.le_of_ble_eq_true rfl)
  rw [lg_entry_eq]
  generalize (lg_sl ([.ref h, .int g, .int s0, .int m0]) ++ List.replicate (4 - (lg_sl ([.ref h, .int g, .int s0, .int m0])).length) Slot.unset).toArray = ls at hl ⊢
  have hl : lv_has ls 4 [(0, .ref h), (1, .int g), (2, .int s0), (3, .int m0)] := hl
  refine lv_aload_n hx hb dX3_init__0 rfl (lv_at hl 0 rfl) ?_
  refine W.objInit hx hb hown (hts (Cond.methodLink RX3 13 objectInit) (List.mem_of_getElem? (i := 1) rfl)) (hts (Cond.instanceMethod objectInit) (List.mem_of_getElem? (i := 2) rfl)) (hts _ (List.mem_of_getElem? (i := 3) rfl)) rfl (by rw [hml]; exact hl.1) rfl dX3_init__1 (Nat.le_of_ble_eq_true rfl) (Nat.le_of_ble_eq_true rfl) ?_
  refine W.eq (g2 := F0 m 4 ls []) rfl ?_
  refine lv_aload_n hx hb dX3_init__4 rfl (lv_at hl 0 rfl) ?_
  refine lv_iload_n hx hb dX3_init__5 rfl (lv_at hl 1 rfl) ?_
  refine va_putF (D := D) (ci := 3) (v := .int g) (ty := .int) (C := RX3) (T := TX3) (N := 3) hx hb hts (fun w h => List.mem_cons_of_mem _ (List.mem_append_left _ (List.mem_append_left _ (List.mem_append_right _ h)))) tyX3 tyX3_ok nmX3 hown hK hP hD hS 0 rfl rfl 0 (by decide) (hts (Cond.fieldLink RX3 18 "JamDays$Jar" "good" "I") (List.mem_of_getElem? (i := 4) rfl)) (fun _ h9 => h9) rfl hin rfl (by decide +kernel) rfl rfl (Nat.le_of_ble_eq_true rfl) dX3_init__6 (fun H locs hP hD hS => ?_)
  have hP : va_P D vwCl [(h, .inr (3, [.int g, v1, v2]))] H := hP
  have hD : va_D A [(h, .inr (3, [.int g, v1, v2]))] := hD
  refine lv_aload_n hx hb dX3_init__9 rfl (lv_at hl 0 rfl) ?_
  refine lv_iload_n hx hb dX3_init__10 rfl (lv_at hl 2 rfl) ?_
  refine va_putF (D := D) (ci := 3) (v := .int s0) (ty := .int) (C := RX3) (T := TX3) (N := 3) hx hb hts (fun w h => List.mem_cons_of_mem _ (List.mem_append_left _ (List.mem_append_left _ (List.mem_append_right _ h)))) tyX3 tyX3_ok nmX3 hown hK hP hD hS 0 rfl rfl 1 (by decide) (hts (Cond.fieldLink RX3 22 "JamDays$Jar" "sugar" "I") (List.mem_of_getElem? (i := 5) rfl)) (fun _ h9 => h9) rfl hin rfl (by decide +kernel) rfl rfl (Nat.le_of_ble_eq_true rfl) dX3_init__11 (fun H locs hP hD hS => ?_)
  have hP : va_P D vwCl [(h, .inr (3, [.int g, .int s0, v2]))] H := hP
  have hD : va_D A [(h, .inr (3, [.int g, .int s0, v2]))] := hD
  refine lv_aload_n hx hb dX3_init__14 rfl (lv_at hl 0 rfl) ?_
  refine lv_iload_n hx hb dX3_init__15 rfl (lv_at hl 3 rfl) ?_
  refine va_putF (D := D) (ci := 3) (v := .int m0) (ty := .int) (C := RX3) (T := TX3) (N := 3) hx hb hts (fun w h => List.mem_cons_of_mem _ (List.mem_append_left _ (List.mem_append_left _ (List.mem_append_right _ h)))) tyX3 tyX3_ok nmX3 hown hK hP hD hS 0 rfl rfl 2 (by decide) (hts (Cond.fieldLink RX3 25 "JamDays$Jar" "mouldEachYear" "I") (List.mem_of_getElem? (i := 6) rfl)) (fun _ h9 => h9) rfl hin rfl (by decide +kernel) rfl rfl (Nat.le_of_ble_eq_true rfl) dX3_init__16 (fun H locs hP hD hS => ?_)
  have hP : va_P D vwCl [(h, .inr (3, [.int g, .int s0, .int m0]))] H := hP
  have hD : va_D A [(h, .inr (3, [.int g, .int s0, .int m0]))] := hD
  exact W.vret hx hb hr (fun t ht hW => ⟨⟨(), rfl, trivial, by dsimp only; rw [ht]; exact hP⟩, hS.F ht⟩) hS.2.2 dX3_init__19

set_option maxHeartbeats 4000000 in
set_option maxRecDepth 100000 in
theorem c_Jar_init3_4 (l : Launch) (D : va_G) (cI cJ : ClassId) (h : Nat) (v0 : Value) (v1 : Value) (v2 : Value) (g : Int32) (s0 : Int32) (m0 : Int32)  : jWv l yX3_init_ wsX3_init_ ({ frames := 1, cells := 0, slots := 0, locals := 12 }) 0 0 [.ref h, .int g, .int s0, .int m0] D cI cJ [(h, .inr (4, [v0, v1, v2]))] (fun H => True) (fun H => va_P D vwCl [(h, .inr (4, [.int g, .int s0, .int m0]))] H) := by
  intro sz
  refine Met.ofW (cc := cX3_init_) (maxL := 4) (ret := none) (by decide) rfl ?_
  intro p e s m args below meth c s₁ B hml hv
  obtain ⟨rfl, hsz, hT, hP, hD0, _⟩ := hv
  have hK := hT.1
  have hx := B.exec
  have hb := B.bytes
  have hr := B.returns
  have hts := atoms_spec (ws := wsX3_init_) B.pre
  have hown : s.vm.findClass RX3 = some m.cls := findClass_of_methodNamed B.named
  have hlocks := B.notSynchronized
  have hin : meth.name = "<init>" := (name_of_methodNamed B.named B.method).1
  subst hsz
  have hD := hD0.self (sz := s.heap.size)
  generalize hAe : va_A [(h, .inr (4, [v0, v1, v2]))] s.heap.size = A at hD ⊢
  have hA : ∀ q : Nat, s.heap.size ≤ q → A q := fun q h => by rw [← hAe]; exact Or.inr h
  have hS : va_S A s.heap s.heap [] := va_S.rf
  have hl := lv_entry ([.ref h, .int g, .int s0, .int m0] : List Value) (n := 4) (Nat.le_of_ble_eq_true rfl)
  rw [lg_entry_eq]
  generalize (lg_sl ([.ref h, .int g, .int s0, .int m0]) ++ List.replicate (4 - (lg_sl ([.ref h, .int g, .int s0, .int m0])).length) Slot.unset).toArray = ls at hl ⊢
  have hl : lv_has ls 4 [(0, .ref h), (1, .int g), (2, .int s0), (3, .int m0)] := hl
  refine lv_aload_n hx hb dX3_init__0 rfl (lv_at hl 0 rfl) ?_
  refine W.objInit hx hb hown (hts (Cond.methodLink RX3 13 objectInit) (List.mem_of_getElem? (i := 1) rfl)) (hts (Cond.instanceMethod objectInit) (List.mem_of_getElem? (i := 2) rfl)) (hts _ (List.mem_of_getElem? (i := 3) rfl)) rfl (by rw [hml]; exact hl.1) rfl dX3_init__1 (Nat.le_of_ble_eq_true rfl) (Nat.le_of_ble_eq_true rfl) ?_
  refine W.eq (g2 := F0 m 4 ls []) rfl ?_
  refine lv_aload_n hx hb dX3_init__4 rfl (lv_at hl 0 rfl) ?_
  refine lv_iload_n hx hb dX3_init__5 rfl (lv_at hl 1 rfl) ?_
  refine va_putF (D := D) (ci := 4) (v := .int g) (ty := .int) (C := RX4) (T := TX4) (N := 3) hx hb hts (fun w h => List.mem_cons_of_mem _ (List.mem_append_left _ (List.mem_append_right _ h))) tyX4 tyX4_ok nmX4 hown hK hP hD hS 0 rfl rfl 0 (by decide) (hts (Cond.fieldLink RX3 18 "JamDays$Jar" "good" "I") (List.mem_of_getElem? (i := 4) rfl)) (fun _ h9 => h9) rfl hin rfl (by decide +kernel) rfl rfl (Nat.le_of_ble_eq_true rfl) dX3_init__6 (fun H locs hP hD hS => ?_)
  have hP : va_P D vwCl [(h, .inr (4, [.int g, v1, v2]))] H := hP
  have hD : va_D A [(h, .inr (4, [.int g, v1, v2]))] := hD
  refine lv_aload_n hx hb dX3_init__9 rfl (lv_at hl 0 rfl) ?_
  refine lv_iload_n hx hb dX3_init__10 rfl (lv_at hl 2 rfl) ?_
  refine va_putF (D := D) (ci := 4) (v := .int s0) (ty := .int) (C := RX4) (T := TX4) (N := 3) hx hb hts (fun w h => List.mem_cons_of_mem _ (List.mem_append_left _ (List.mem_append_right _ h))) tyX4 tyX4_ok nmX4 hown hK hP hD hS 0 rfl rfl 1 (by decide) (hts (Cond.fieldLink RX3 22 "JamDays$Jar" "sugar" "I") (List.mem_of_getElem? (i := 5) rfl)) (fun _ h9 => h9) rfl hin rfl (by decide +kernel) rfl rfl (Nat.le_of_ble_eq_true rfl) dX3_init__11 (fun H locs hP hD hS => ?_)
  have hP : va_P D vwCl [(h, .inr (4, [.int g, .int s0, v2]))] H := hP
  have hD : va_D A [(h, .inr (4, [.int g, .int s0, v2]))] := hD
  refine lv_aload_n hx hb dX3_init__14 rfl (lv_at hl 0 rfl) ?_
  refine lv_iload_n hx hb dX3_init__15 rfl (lv_at hl 3 rfl) ?_
  refine va_putF (D := D) (ci := 4) (v := .int m0) (ty := .int) (C := RX4) (T := TX4) (N := 3) hx hb hts (fun w h => List.mem_cons_of_mem _ (List.mem_append_left _ (List.mem_append_right _ h))) tyX4 tyX4_ok nmX4 hown hK hP hD hS 0 rfl rfl 2 (by decide) (hts (Cond.fieldLink RX3 25 "JamDays$Jar" "mouldEachYear" "I") (List.mem_of_getElem? (i := 6) rfl)) (fun _ h9 => h9) rfl hin rfl (by decide +kernel) rfl rfl (Nat.le_of_ble_eq_true rfl) dX3_init__16 (fun H locs hP hD hS => ?_)
  have hP : va_P D vwCl [(h, .inr (4, [.int g, .int s0, .int m0]))] H := hP
  have hD : va_D A [(h, .inr (4, [.int g, .int s0, .int m0]))] := hD
  exact W.vret hx hb hr (fun t ht hW => ⟨⟨(), rfl, trivial, by dsimp only; rw [ht]; exact hP⟩, hS.F ht⟩) hS.2.2 dX3_init__19

set_option maxHeartbeats 4000000 in
set_option maxRecDepth 100000 in
theorem c_Jar_init3_5 (l : Launch) (D : va_G) (cI cJ : ClassId) (h : Nat) (v0 : Value) (v1 : Value) (v2 : Value) (g : Int32) (s0 : Int32) (m0 : Int32)  : jWv l yX3_init_ wsX3_init_ ({ frames := 1, cells := 0, slots := 0, locals := 12 }) 0 0 [.ref h, .int g, .int s0, .int m0] D cI cJ [(h, .inr (5, [v0, v1, v2]))] (fun H => True) (fun H => va_P D vwCl [(h, .inr (5, [.int g, .int s0, .int m0]))] H) := by
  intro sz
  refine Met.ofW (cc := cX3_init_) (maxL := 4) (ret := none) (by decide) rfl ?_
  intro p e s m args below meth c s₁ B hml hv
  obtain ⟨rfl, hsz, hT, hP, hD0, _⟩ := hv
  have hK := hT.1
  have hx := B.exec
  have hb := B.bytes
  have hr := B.returns
  have hts := atoms_spec (ws := wsX3_init_) B.pre
  have hown : s.vm.findClass RX3 = some m.cls := findClass_of_methodNamed B.named
  have hlocks := B.notSynchronized
  have hin : meth.name = "<init>" := (name_of_methodNamed B.named B.method).1
  subst hsz
  have hD := hD0.self (sz := s.heap.size)
  generalize hAe : va_A [(h, .inr (5, [v0, v1, v2]))] s.heap.size = A at hD ⊢
  have hA : ∀ q : Nat, s.heap.size ≤ q → A q := fun q h => by rw [← hAe]; exact Or.inr h
  have hS : va_S A s.heap s.heap [] := va_S.rf
  have hl := lv_entry ([.ref h, .int g, .int s0, .int m0] : List Value) (n := 4) (Nat.le_of_ble_eq_true rfl)
  rw [lg_entry_eq]
  generalize (lg_sl ([.ref h, .int g, .int s0, .int m0]) ++ List.replicate (4 - (lg_sl ([.ref h, .int g, .int s0, .int m0])).length) Slot.unset).toArray = ls at hl ⊢
  have hl : lv_has ls 4 [(0, .ref h), (1, .int g), (2, .int s0), (3, .int m0)] := hl
  refine lv_aload_n hx hb dX3_init__0 rfl (lv_at hl 0 rfl) ?_
  refine W.objInit hx hb hown (hts (Cond.methodLink RX3 13 objectInit) (List.mem_of_getElem? (i := 1) rfl)) (hts (Cond.instanceMethod objectInit) (List.mem_of_getElem? (i := 2) rfl)) (hts _ (List.mem_of_getElem? (i := 3) rfl)) rfl (by rw [hml]; exact hl.1) rfl dX3_init__1 (Nat.le_of_ble_eq_true rfl) (Nat.le_of_ble_eq_true rfl) ?_
  refine W.eq (g2 := F0 m 4 ls []) rfl ?_
  refine lv_aload_n hx hb dX3_init__4 rfl (lv_at hl 0 rfl) ?_
  refine lv_iload_n hx hb dX3_init__5 rfl (lv_at hl 1 rfl) ?_
  refine va_putF (D := D) (ci := 5) (v := .int g) (ty := .int) (C := RX5) (T := TX5) (N := 3) hx hb hts (fun w h => List.mem_cons_of_mem _ (List.mem_append_right _ h)) tyX5 tyX5_ok nmX5 hown hK hP hD hS 0 rfl rfl 0 (by decide) (hts (Cond.fieldLink RX3 18 "JamDays$Jar" "good" "I") (List.mem_of_getElem? (i := 4) rfl)) (fun _ h9 => h9) rfl hin rfl (by decide +kernel) rfl rfl (Nat.le_of_ble_eq_true rfl) dX3_init__6 (fun H locs hP hD hS => ?_)
  have hP : va_P D vwCl [(h, .inr (5, [.int g, v1, v2]))] H := hP
  have hD : va_D A [(h, .inr (5, [.int g, v1, v2]))] := hD
  refine lv_aload_n hx hb dX3_init__9 rfl (lv_at hl 0 rfl) ?_
  refine lv_iload_n hx hb dX3_init__10 rfl (lv_at hl 2 rfl) ?_
  refine va_putF (D := D) (ci := 5) (v := .int s0) (ty := .int) (C := RX5) (T := TX5) (N := 3) hx hb hts (fun w h => List.mem_cons_of_mem _ (List.mem_append_right _ h)) tyX5 tyX5_ok nmX5 hown hK hP hD hS 0 rfl rfl 1 (by decide) (hts (Cond.fieldLink RX3 22 "JamDays$Jar" "sugar" "I") (List.mem_of_getElem? (i := 5) rfl)) (fun _ h9 => h9) rfl hin rfl (by decide +kernel) rfl rfl (Nat.le_of_ble_eq_true rfl) dX3_init__11 (fun H locs hP hD hS => ?_)
  have hP : va_P D vwCl [(h, .inr (5, [.int g, .int s0, v2]))] H := hP
  have hD : va_D A [(h, .inr (5, [.int g, .int s0, v2]))] := hD
  refine lv_aload_n hx hb dX3_init__14 rfl (lv_at hl 0 rfl) ?_
  refine lv_iload_n hx hb dX3_init__15 rfl (lv_at hl 3 rfl) ?_
  refine va_putF (D := D) (ci := 5) (v := .int m0) (ty := .int) (C := RX5) (T := TX5) (N := 3) hx hb hts (fun w h => List.mem_cons_of_mem _ (List.mem_append_right _ h)) tyX5 tyX5_ok nmX5 hown hK hP hD hS 0 rfl rfl 2 (by decide) (hts (Cond.fieldLink RX3 25 "JamDays$Jar" "mouldEachYear" "I") (List.mem_of_getElem? (i := 6) rfl)) (fun _ h9 => h9) rfl hin rfl (by decide +kernel) rfl rfl (Nat.le_of_ble_eq_true rfl) dX3_init__16 (fun H locs hP hD hS => ?_)
  have hP : va_P D vwCl [(h, .inr (5, [.int g, .int s0, .int m0]))] H := hP
  have hD : va_D A [(h, .inr (5, [.int g, .int s0, .int m0]))] := hD
  exact W.vret hx hb hr (fun t ht hW => ⟨⟨(), rfl, trivial, by dsimp only; rw [ht]; exact hP⟩, hS.F ht⟩) hS.2.2 dX3_init__19

set_option maxHeartbeats 4000000 in
set_option maxRecDepth 100000 in
theorem c_Jar_init2_3 (l : Launch) (D : va_G) (cI cJ : ClassId) (h : Nat) (v0 : Value) (v1 : Value) (v2 : Value) (g : Int32) (s0 : Int32)  : jWv l yX3_init wsX3_init ({ frames := 2, cells := 0, slots := 0, locals := 41 }) 0 0 [.ref h, .int g, .int s0] D cI cJ [(h, .inr (3, [v0, v1, v2]))] (fun H => True) (fun H => va_P D vwCl [(h, .inr (3, [.int g, .int s0, .int (jpm s0)]))] H) := by
  intro sz
  refine Met.ofW (cc := cX3_init) (maxL := 3) (ret := none) (by decide) rfl ?_
  intro p e s m args below meth c s₁ B hml hv
  obtain ⟨rfl, hsz, hT, hP, hD0, _⟩ := hv
  have hK := hT.1
  have hx := B.exec
  have hb := B.bytes
  have hr := B.returns
  have hts := atoms_spec (ws := wsX3_init) B.pre
  have hown : s.vm.findClass RX3 = some m.cls := findClass_of_methodNamed B.named
  have hlocks := B.notSynchronized
  have hin : meth.name = "<init>" := (name_of_methodNamed B.named B.method).1
  subst hsz
  have hD := hD0.self (sz := s.heap.size)
  generalize hAe : va_A [(h, .inr (3, [v0, v1, v2]))] s.heap.size = A at hD ⊢
  have hA : ∀ q : Nat, s.heap.size ≤ q → A q := fun q h => by rw [← hAe]; exact Or.inr h
  have hS : va_S A s.heap s.heap [] := va_S.rf
  have hl := lv_entry ([.ref h, .int g, .int s0] : List Value) (n := 3) (Nat.le_of_ble_eq_true rfl)
  rw [lg_entry_eq]
  generalize (lg_sl ([.ref h, .int g, .int s0]) ++ List.replicate (3 - (lg_sl ([.ref h, .int g, .int s0])).length) Slot.unset).toArray = ls at hl ⊢
  have hl : lv_has ls 3 [(0, .ref h), (1, .int g), (2, .int s0)] := hl
  refine lv_aload_n hx hb dX3_init_0 rfl (lv_at hl 0 rfl) ?_
  refine lv_iload_n hx hb dX3_init_1 rfl (lv_at hl 1 rfl) ?_
  refine lv_iload_n hx hb dX3_init_2 rfl (lv_at hl 2 rfl) ?_
  refine lv_iload_n hx hb dX3_init_3 rfl (lv_at hl 2 rfl) ?_
  refine jcalli (va_runS (As := [.int s0]) (rest := [.int s0, .int g, .ref h]) ⟨hx, hb, hml, hown, hts⟩ (c_plainMould l D cI cJ s0 s.heap.size) (va_cwS 1 hts gX3_init_X3_plainMould rfl rfl rfl (by decide +kernel) ⟨Nat.le_of_ble_eq_true rfl, Nat.le_of_ble_eq_true rfl⟩) (jpreS hT trivial) rfl rfl hl.1 rfl (lv_room (Nat.le_of_ble_eq_true rfl)) dX3_init_4 ⟨(Nat.zero_le _), (Nat.zero_le _)⟩) hS hA (fun r_1 H locs hw_r_1 hkq hS => ?_)
  try dsimp only at hw_r_1
  have hP := jkeep hP hkq
  subst hw_r_1
  have hPc_2 := hP.sub (ws' := [(h, .inr (3, [v0, v1, v2]))]) [0] rfl
  have hDc_3 := hD.sub (ws' := [(h, .inr (3, [v0, v1, v2]))]) [0] (by decide) rfl
  have hFc_4 := va_free (wc := [(h, .inr (3, [v0, v1, v2]))]) hD hS hA [0] rfl
  refine jcallWv (post := fun H => va_P D vwCl [(h, .inr (3, [.int g, .int s0, .int (jpm s0)]))] H) (va_runI (As := [.int g, .int s0, .int (jpm s0)]) (rest := []) ⟨hx, hb, hml, hown, hts⟩ (c_Jar_init3_3 l D cI cJ h v0 v1 v2 g s0 (jpm s0) H.size) (cwI 3 hts gX3_init_X3_init_ rfl rfl rfl (hts (Cond.initialized RX3) (List.mem_of_getElem? (i := 3) rfl)) (hts (Cond.methodLink RX3 9 yX3_init_) (List.mem_of_getElem? (i := 9) rfl)) (hts (Cond.instanceMethod yX3_init_) (List.mem_of_getElem? (i := 10) rfl)) rfl (by decide +kernel) ⟨Nat.le_of_ble_eq_true rfl, Nat.le_of_ble_eq_true rfl⟩) (jpreS hT ⟨hPc_2, hDc_3.weaken (fun _ _ _ _ => trivial), trivial⟩) rfl rfl hl.1 rfl (lv_room (Nat.le_of_ble_eq_true rfl)) dX3_init_7 ⟨(Nat.zero_le _), (Nat.zero_le _)⟩) hS hFc_4 (fun H locs hw_r_5 hz hkq hS => ?_)
  have hP1 := hw_r_5
  obtain ⟨hP, hD⟩ := jjoin (wc := [(h, .inr (3, [v0, v1, v2]))]) (wr := []) (w1 := [(h, .inr (3, [.int g, .int s0, .int (jpm s0)]))]) (ws' := [(h, .inr (3, [.int g, .int s0, .int (jpm s0)]))]) hP hD hFc_4 [0] [] [0] rfl rfl (by decide) (by decide) (by decide) (by decide) hkq hP1 rfl rfl rfl
  exact W.vret hx hb hr (fun t ht hW => ⟨⟨(), rfl, trivial, by dsimp only; rw [ht]; exact hP⟩, hS.F ht⟩) hS.2.2 dX3_init_10

set_option maxHeartbeats 4000000 in
set_option maxRecDepth 100000 in
theorem c_Jar_init2_4 (l : Launch) (D : va_G) (cI cJ : ClassId) (h : Nat) (v0 : Value) (v1 : Value) (v2 : Value) (g : Int32) (s0 : Int32)  : jWv l yX3_init wsX3_init ({ frames := 2, cells := 0, slots := 0, locals := 41 }) 0 0 [.ref h, .int g, .int s0] D cI cJ [(h, .inr (4, [v0, v1, v2]))] (fun H => True) (fun H => va_P D vwCl [(h, .inr (4, [.int g, .int s0, .int (jpm s0)]))] H) := by
  intro sz
  refine Met.ofW (cc := cX3_init) (maxL := 3) (ret := none) (by decide) rfl ?_
  intro p e s m args below meth c s₁ B hml hv
  obtain ⟨rfl, hsz, hT, hP, hD0, _⟩ := hv
  have hK := hT.1
  have hx := B.exec
  have hb := B.bytes
  have hr := B.returns
  have hts := atoms_spec (ws := wsX3_init) B.pre
  have hown : s.vm.findClass RX3 = some m.cls := findClass_of_methodNamed B.named
  have hlocks := B.notSynchronized
  have hin : meth.name = "<init>" := (name_of_methodNamed B.named B.method).1
  subst hsz
  have hD := hD0.self (sz := s.heap.size)
  generalize hAe : va_A [(h, .inr (4, [v0, v1, v2]))] s.heap.size = A at hD ⊢
  have hA : ∀ q : Nat, s.heap.size ≤ q → A q := fun q h => by rw [← hAe]; exact Or.inr h
  have hS : va_S A s.heap s.heap [] := va_S.rf
  have hl := lv_entry ([.ref h, .int g, .int s0] : List Value) (n := 3) (Nat.le_of_ble_eq_true rfl)
  rw [lg_entry_eq]
  generalize (lg_sl ([.ref h, .int g, .int s0]) ++ List.replicate (3 - (lg_sl ([.ref h, .int g, .int s0])).length) Slot.unset).toArray = ls at hl ⊢
  have hl : lv_has ls 3 [(0, .ref h), (1, .int g), (2, .int s0)] := hl
  refine lv_aload_n hx hb dX3_init_0 rfl (lv_at hl 0 rfl) ?_
  refine lv_iload_n hx hb dX3_init_1 rfl (lv_at hl 1 rfl) ?_
  refine lv_iload_n hx hb dX3_init_2 rfl (lv_at hl 2 rfl) ?_
  refine lv_iload_n hx hb dX3_init_3 rfl (lv_at hl 2 rfl) ?_
  refine jcalli (va_runS (As := [.int s0]) (rest := [.int s0, .int g, .ref h]) ⟨hx, hb, hml, hown, hts⟩ (c_plainMould l D cI cJ s0 s.heap.size) (va_cwS 1 hts gX3_init_X3_plainMould rfl rfl rfl (by decide +kernel) ⟨Nat.le_of_ble_eq_true rfl, Nat.le_of_ble_eq_true rfl⟩) (jpreS hT trivial) rfl rfl hl.1 rfl (lv_room (Nat.le_of_ble_eq_true rfl)) dX3_init_4 ⟨(Nat.zero_le _), (Nat.zero_le _)⟩) hS hA (fun r_1 H locs hw_r_1 hkq hS => ?_)
  try dsimp only at hw_r_1
  have hP := jkeep hP hkq
  subst hw_r_1
  have hPc_2 := hP.sub (ws' := [(h, .inr (4, [v0, v1, v2]))]) [0] rfl
  have hDc_3 := hD.sub (ws' := [(h, .inr (4, [v0, v1, v2]))]) [0] (by decide) rfl
  have hFc_4 := va_free (wc := [(h, .inr (4, [v0, v1, v2]))]) hD hS hA [0] rfl
  refine jcallWv (post := fun H => va_P D vwCl [(h, .inr (4, [.int g, .int s0, .int (jpm s0)]))] H) (va_runI (As := [.int g, .int s0, .int (jpm s0)]) (rest := []) ⟨hx, hb, hml, hown, hts⟩ (c_Jar_init3_4 l D cI cJ h v0 v1 v2 g s0 (jpm s0) H.size) (cwI 3 hts gX3_init_X3_init_ rfl rfl rfl (hts (Cond.initialized RX3) (List.mem_of_getElem? (i := 3) rfl)) (hts (Cond.methodLink RX3 9 yX3_init_) (List.mem_of_getElem? (i := 9) rfl)) (hts (Cond.instanceMethod yX3_init_) (List.mem_of_getElem? (i := 10) rfl)) rfl (by decide +kernel) ⟨Nat.le_of_ble_eq_true rfl, Nat.le_of_ble_eq_true rfl⟩) (jpreS hT ⟨hPc_2, hDc_3.weaken (fun _ _ _ _ => trivial), trivial⟩) rfl rfl hl.1 rfl (lv_room (Nat.le_of_ble_eq_true rfl)) dX3_init_7 ⟨(Nat.zero_le _), (Nat.zero_le _)⟩) hS hFc_4 (fun H locs hw_r_5 hz hkq hS => ?_)
  have hP1 := hw_r_5
  obtain ⟨hP, hD⟩ := jjoin (wc := [(h, .inr (4, [v0, v1, v2]))]) (wr := []) (w1 := [(h, .inr (4, [.int g, .int s0, .int (jpm s0)]))]) (ws' := [(h, .inr (4, [.int g, .int s0, .int (jpm s0)]))]) hP hD hFc_4 [0] [] [0] rfl rfl (by decide) (by decide) (by decide) (by decide) hkq hP1 rfl rfl rfl
  exact W.vret hx hb hr (fun t ht hW => ⟨⟨(), rfl, trivial, by dsimp only; rw [ht]; exact hP⟩, hS.F ht⟩) hS.2.2 dX3_init_10

set_option maxHeartbeats 4000000 in
set_option maxRecDepth 100000 in
theorem c_Copper_init_0 (l : Launch) (D : va_G) (cI cJ : ClassId) (h : Nat) (v0 : Value) (v1 : Value) (v2 : Value) (g : Int32) (s0 : Int32)  : jWv l yX0_init wsX0_init ({ frames := 2, cells := 0, slots := 0, locals := 35 }) 0 0 [.ref h, .int g, .int s0] D cI cJ [(h, .inr (0, [v0, v1, v2]))] (fun H => True) (fun H => va_P D vwCl [(h, .inr (0, [.int g, .int s0, .int 0]))] H) := by
  intro sz
  refine Met.ofW (cc := cX0_init) (maxL := 3) (ret := none) (by decide) rfl ?_
  intro p e s m args below meth c s₁ B hml hv
  obtain ⟨rfl, hsz, hT, hP, hD0, _⟩ := hv
  have hK := hT.1
  have hx := B.exec
  have hb := B.bytes
  have hr := B.returns
  have hts := atoms_spec (ws := wsX0_init) B.pre
  have hown : s.vm.findClass RX0 = some m.cls := findClass_of_methodNamed B.named
  have hlocks := B.notSynchronized
  have hin : meth.name = "<init>" := (name_of_methodNamed B.named B.method).1
  subst hsz
  have hD := hD0.self (sz := s.heap.size)
  generalize hAe : va_A [(h, .inr (0, [v0, v1, v2]))] s.heap.size = A at hD ⊢
  have hA : ∀ q : Nat, s.heap.size ≤ q → A q := fun q h => by rw [← hAe]; exact Or.inr h
  have hS : va_S A s.heap s.heap [] := va_S.rf
  have hl := lv_entry ([.ref h, .int g, .int s0] : List Value) (n := 3) (Nat.le_of_ble_eq_true rfl)
  rw [lg_entry_eq]
  generalize (lg_sl ([.ref h, .int g, .int s0]) ++ List.replicate (3 - (lg_sl ([.ref h, .int g, .int s0])).length) Slot.unset).toArray = ls at hl ⊢
  have hl : lv_has ls 3 [(0, .ref h), (1, .int g), (2, .int s0)] := hl
  refine lv_aload_n hx hb dX0_init_0 rfl (lv_at hl 0 rfl) ?_
  refine lv_iload_n hx hb dX0_init_1 rfl (lv_at hl 1 rfl) ?_
  refine lv_iload_n hx hb dX0_init_2 rfl (lv_at hl 2 rfl) ?_
  refine lv_iconst (v := 0) hx hb dX0_init_3 (by decide) ?_
  have hPc_1 := hP.sub (ws' := [(h, .inr (0, [v0, v1, v2]))]) [0] rfl
  have hDc_2 := hD.sub (ws' := [(h, .inr (0, [v0, v1, v2]))]) [0] (by decide) rfl
  have hFc_3 := va_free (wc := [(h, .inr (0, [v0, v1, v2]))]) hD hS hA [0] rfl
  refine jcallWv (post := fun H => va_P D vwCl [(h, .inr (0, [.int g, .int s0, .int 0]))] H) (va_runI (As := [.int g, .int s0, .int 0]) (rest := []) ⟨hx, hb, hml, hown, hts⟩ (c_Jar_init3_0 l D cI cJ h v0 v1 v2 g s0 0 s.heap.size) (cwI 3 hts gX0_init_X3_init_ rfl rfl rfl (hts (Cond.initialized RX3) (List.mem_of_getElem? (i := 3) rfl)) (hts (Cond.methodLink RX0 3 yX3_init_) (List.mem_of_getElem? (i := 1) rfl)) (hts (Cond.instanceMethod yX3_init_) (List.mem_of_getElem? (i := 2) rfl)) rfl (by decide +kernel) ⟨Nat.le_of_ble_eq_true rfl, Nat.le_of_ble_eq_true rfl⟩) (jpreS hT ⟨hPc_1, hDc_2.weaken (fun _ _ _ _ => trivial), trivial⟩) rfl rfl hl.1 rfl (lv_room (Nat.le_of_ble_eq_true rfl)) dX0_init_4 ⟨(Nat.zero_le _), (Nat.zero_le _)⟩) hS hFc_3 (fun H locs hw_r_4 hz hkq hS => ?_)
  have hP1 := hw_r_4
  obtain ⟨hP, hD⟩ := jjoin (wc := [(h, .inr (0, [v0, v1, v2]))]) (wr := []) (w1 := [(h, .inr (0, [.int g, .int s0, .int 0]))]) (ws' := [(h, .inr (0, [.int g, .int s0, .int 0]))]) hP hD hFc_3 [0] [] [0] rfl rfl (by decide) (by decide) (by decide) (by decide) hkq hP1 rfl rfl rfl
  exact W.vret hx hb hr (fun t ht hW => ⟨⟨(), rfl, trivial, by dsimp only; rw [ht]; exact hP⟩, hS.F ht⟩) hS.2.2 dX0_init_7

set_option maxHeartbeats 4000000 in
set_option maxRecDepth 100000 in
theorem c_Copper_init_2 (l : Launch) (D : va_G) (cI cJ : ClassId) (h : Nat) (v0 : Value) (v1 : Value) (v2 : Value) (g : Int32) (s0 : Int32)  : jWv l yX0_init wsX0_init ({ frames := 2, cells := 0, slots := 0, locals := 35 }) 0 0 [.ref h, .int g, .int s0] D cI cJ [(h, .inr (2, [v0, v1, v2]))] (fun H => True) (fun H => va_P D vwCl [(h, .inr (2, [.int g, .int s0, .int 0]))] H) := by
  intro sz
  refine Met.ofW (cc := cX0_init) (maxL := 3) (ret := none) (by decide) rfl ?_
  intro p e s m args below meth c s₁ B hml hv
  obtain ⟨rfl, hsz, hT, hP, hD0, _⟩ := hv
  have hK := hT.1
  have hx := B.exec
  have hb := B.bytes
  have hr := B.returns
  have hts := atoms_spec (ws := wsX0_init) B.pre
  have hown : s.vm.findClass RX0 = some m.cls := findClass_of_methodNamed B.named
  have hlocks := B.notSynchronized
  have hin : meth.name = "<init>" := (name_of_methodNamed B.named B.method).1
  subst hsz
  have hD := hD0.self (sz := s.heap.size)
  generalize hAe : va_A [(h, .inr (2, [v0, v1, v2]))] s.heap.size = A at hD ⊢
  have hA : ∀ q : Nat, s.heap.size ≤ q → A q := fun q h => by rw [← hAe]; exact Or.inr h
  have hS : va_S A s.heap s.heap [] := va_S.rf
  have hl := lv_entry ([.ref h, .int g, .int s0] : List Value) (n := 3) (Nat.le_of_ble_eq_true rfl)
  rw [lg_entry_eq]
  generalize (lg_sl ([.ref h, .int g, .int s0]) ++ List.replicate (3 - (lg_sl ([.ref h, .int g, .int s0])).length) Slot.unset).toArray = ls at hl ⊢
  have hl : lv_has ls 3 [(0, .ref h), (1, .int g), (2, .int s0)] := hl
  refine lv_aload_n hx hb dX0_init_0 rfl (lv_at hl 0 rfl) ?_
  refine lv_iload_n hx hb dX0_init_1 rfl (lv_at hl 1 rfl) ?_
  refine lv_iload_n hx hb dX0_init_2 rfl (lv_at hl 2 rfl) ?_
  refine lv_iconst (v := 0) hx hb dX0_init_3 (by decide) ?_
  have hPc_1 := hP.sub (ws' := [(h, .inr (2, [v0, v1, v2]))]) [0] rfl
  have hDc_2 := hD.sub (ws' := [(h, .inr (2, [v0, v1, v2]))]) [0] (by decide) rfl
  have hFc_3 := va_free (wc := [(h, .inr (2, [v0, v1, v2]))]) hD hS hA [0] rfl
  refine jcallWv (post := fun H => va_P D vwCl [(h, .inr (2, [.int g, .int s0, .int 0]))] H) (va_runI (As := [.int g, .int s0, .int 0]) (rest := []) ⟨hx, hb, hml, hown, hts⟩ (c_Jar_init3_2 l D cI cJ h v0 v1 v2 g s0 0 s.heap.size) (cwI 3 hts gX0_init_X3_init_ rfl rfl rfl (hts (Cond.initialized RX3) (List.mem_of_getElem? (i := 3) rfl)) (hts (Cond.methodLink RX0 3 yX3_init_) (List.mem_of_getElem? (i := 1) rfl)) (hts (Cond.instanceMethod yX3_init_) (List.mem_of_getElem? (i := 2) rfl)) rfl (by decide +kernel) ⟨Nat.le_of_ble_eq_true rfl, Nat.le_of_ble_eq_true rfl⟩) (jpreS hT ⟨hPc_1, hDc_2.weaken (fun _ _ _ _ => trivial), trivial⟩) rfl rfl hl.1 rfl (lv_room (Nat.le_of_ble_eq_true rfl)) dX0_init_4 ⟨(Nat.zero_le _), (Nat.zero_le _)⟩) hS hFc_3 (fun H locs hw_r_4 hz hkq hS => ?_)
  have hP1 := hw_r_4
  obtain ⟨hP, hD⟩ := jjoin (wc := [(h, .inr (2, [v0, v1, v2]))]) (wr := []) (w1 := [(h, .inr (2, [.int g, .int s0, .int 0]))]) (ws' := [(h, .inr (2, [.int g, .int s0, .int 0]))]) hP hD hFc_3 [0] [] [0] rfl rfl (by decide) (by decide) (by decide) (by decide) hkq hP1 rfl rfl rfl
  exact W.vret hx hb hr (fun t ht hW => ⟨⟨(), rfl, trivial, by dsimp only; rw [ht]; exact hP⟩, hS.F ht⟩) hS.2.2 dX0_init_7

set_option maxHeartbeats 4000000 in
set_option maxRecDepth 100000 in
theorem c_Gold_init (l : Launch) (D : va_G) (cI cJ : ClassId) (h : Nat) (v0 : Value) (v1 : Value) (v2 : Value) (g : Int32) (s0 : Int32)  : jWv l yX2_init wsX2_init ({ frames := 3, cells := 0, slots := 0, locals := 57 }) 0 0 [.ref h, .int g, .int s0] D cI cJ [(h, .inr (2, [v0, v1, v2]))] (fun H => True) (fun H => va_P D vwCl [(h, .inr (2, [.int g, .int s0, .int 0]))] H) := by
  intro sz
  refine Met.ofW (cc := cX2_init) (maxL := 3) (ret := none) (by decide) rfl ?_
  intro p e s m args below meth c s₁ B hml hv
  obtain ⟨rfl, hsz, hT, hP, hD0, _⟩ := hv
  have hK := hT.1
  have hx := B.exec
  have hb := B.bytes
  have hr := B.returns
  have hts := atoms_spec (ws := wsX2_init) B.pre
  have hown : s.vm.findClass RX2 = some m.cls := findClass_of_methodNamed B.named
  have hlocks := B.notSynchronized
  have hin : meth.name = "<init>" := (name_of_methodNamed B.named B.method).1
  subst hsz
  have hD := hD0.self (sz := s.heap.size)
  generalize hAe : va_A [(h, .inr (2, [v0, v1, v2]))] s.heap.size = A at hD ⊢
  have hA : ∀ q : Nat, s.heap.size ≤ q → A q := fun q h => by rw [← hAe]; exact Or.inr h
  have hS : va_S A s.heap s.heap [] := va_S.rf
  have hl := lv_entry ([.ref h, .int g, .int s0] : List Value) (n := 3) (Nat.le_of_ble_eq_true rfl)
  rw [lg_entry_eq]
  generalize (lg_sl ([.ref h, .int g, .int s0]) ++ List.replicate (3 - (lg_sl ([.ref h, .int g, .int s0])).length) Slot.unset).toArray = ls at hl ⊢
  have hl : lv_has ls 3 [(0, .ref h), (1, .int g), (2, .int s0)] := hl
  refine lv_aload_n hx hb dX2_init_0 rfl (lv_at hl 0 rfl) ?_
  refine lv_iload_n hx hb dX2_init_1 rfl (lv_at hl 1 rfl) ?_
  refine lv_iload_n hx hb dX2_init_2 rfl (lv_at hl 2 rfl) ?_
  have hPc_1 := hP.sub (ws' := [(h, .inr (2, [v0, v1, v2]))]) [0] rfl
  have hDc_2 := hD.sub (ws' := [(h, .inr (2, [v0, v1, v2]))]) [0] (by decide) rfl
  have hFc_3 := va_free (wc := [(h, .inr (2, [v0, v1, v2]))]) hD hS hA [0] rfl
  refine jcallWv (post := fun H => va_P D vwCl [(h, .inr (2, [.int g, .int s0, .int 0]))] H) (va_runI (As := [.int g, .int s0]) (rest := []) ⟨hx, hb, hml, hown, hts⟩ (c_Copper_init_2 l D cI cJ h v0 v1 v2 g s0 s.heap.size) (cwI 2 hts gX2_init_X0_init rfl rfl rfl (hts (Cond.initialized RX0) (List.mem_of_getElem? (i := 3) rfl)) (hts (Cond.methodLink RX2 3 yX0_init) (List.mem_of_getElem? (i := 1) rfl)) (hts (Cond.instanceMethod yX0_init) (List.mem_of_getElem? (i := 2) rfl)) rfl (by decide +kernel) ⟨Nat.le_of_ble_eq_true rfl, Nat.le_of_ble_eq_true rfl⟩) (jpreS hT ⟨hPc_1, hDc_2.weaken (fun _ _ _ _ => trivial), trivial⟩) rfl rfl hl.1 rfl (lv_room (Nat.le_of_ble_eq_true rfl)) dX2_init_3 ⟨(Nat.zero_le _), (Nat.zero_le _)⟩) hS hFc_3 (fun H locs hw_r_4 hz hkq hS => ?_)
  have hP1 := hw_r_4
  obtain ⟨hP, hD⟩ := jjoin (wc := [(h, .inr (2, [v0, v1, v2]))]) (wr := []) (w1 := [(h, .inr (2, [.int g, .int s0, .int 0]))]) (ws' := [(h, .inr (2, [.int g, .int s0, .int 0]))]) hP hD hFc_3 [0] [] [0] rfl rfl (by decide) (by decide) (by decide) (by decide) hkq hP1 rfl rfl rfl
  exact W.vret hx hb hr (fun t ht hW => ⟨⟨(), rfl, trivial, by dsimp only; rw [ht]; exact hP⟩, hS.F ht⟩) hS.2.2 dX2_init_6

set_option maxHeartbeats 4000000 in
set_option maxRecDepth 100000 in
theorem c_Plum_init (l : Launch) (D : va_G) (cI cJ : ClassId) (h : Nat) (v0 : Value) (v1 : Value) (v2 : Value) (g : Int32) (s0 : Int32)  : jWv l yX4_init wsX4_init ({ frames := 3, cells := 0, slots := 0, locals := 63 }) 0 0 [.ref h, .int g, .int s0] D cI cJ [(h, .inr (4, [v0, v1, v2]))] (fun H => True) (fun H => va_P D vwCl [(h, .inr (4, [.int g, .int s0, .int (jpm s0)]))] H) := by
  intro sz
  refine Met.ofW (cc := cX4_init) (maxL := 3) (ret := none) (by decide) rfl ?_
  intro p e s m args below meth c s₁ B hml hv
  obtain ⟨rfl, hsz, hT, hP, hD0, _⟩ := hv
  have hK := hT.1
  have hx := B.exec
  have hb := B.bytes
  have hr := B.returns
  have hts := atoms_spec (ws := wsX4_init) B.pre
  have hown : s.vm.findClass RX4 = some m.cls := findClass_of_methodNamed B.named
  have hlocks := B.notSynchronized
  have hin : meth.name = "<init>" := (name_of_methodNamed B.named B.method).1
  subst hsz
  have hD := hD0.self (sz := s.heap.size)
  generalize hAe : va_A [(h, .inr (4, [v0, v1, v2]))] s.heap.size = A at hD ⊢
  have hA : ∀ q : Nat, s.heap.size ≤ q → A q := fun q h => by rw [← hAe]; exact Or.inr h
  have hS : va_S A s.heap s.heap [] := va_S.rf
  have hl := lv_entry ([.ref h, .int g, .int s0] : List Value) (n := 3) (Nat.le_of_ble_eq_true rfl)
  rw [lg_entry_eq]
  generalize (lg_sl ([.ref h, .int g, .int s0]) ++ List.replicate (3 - (lg_sl ([.ref h, .int g, .int s0])).length) Slot.unset).toArray = ls at hl ⊢
  have hl : lv_has ls 3 [(0, .ref h), (1, .int g), (2, .int s0)] := hl
  refine lv_aload_n hx hb dX4_init_0 rfl (lv_at hl 0 rfl) ?_
  refine lv_iload_n hx hb dX4_init_1 rfl (lv_at hl 1 rfl) ?_
  refine lv_iload_n hx hb dX4_init_2 rfl (lv_at hl 2 rfl) ?_
  have hPc_1 := hP.sub (ws' := [(h, .inr (4, [v0, v1, v2]))]) [0] rfl
  have hDc_2 := hD.sub (ws' := [(h, .inr (4, [v0, v1, v2]))]) [0] (by decide) rfl
  have hFc_3 := va_free (wc := [(h, .inr (4, [v0, v1, v2]))]) hD hS hA [0] rfl
  refine jcallWv (post := fun H => va_P D vwCl [(h, .inr (4, [.int g, .int s0, .int (jpm s0)]))] H) (va_runI (As := [.int g, .int s0]) (rest := []) ⟨hx, hb, hml, hown, hts⟩ (c_Jar_init2_4 l D cI cJ h v0 v1 v2 g s0 s.heap.size) (cwI 2 hts gX4_init_X3_init rfl rfl rfl (hts (Cond.initialized RX3) (List.mem_of_getElem? (i := 3) rfl)) (hts (Cond.methodLink RX4 3 yX3_init) (List.mem_of_getElem? (i := 1) rfl)) (hts (Cond.instanceMethod yX3_init) (List.mem_of_getElem? (i := 2) rfl)) rfl (by decide +kernel) ⟨Nat.le_of_ble_eq_true rfl, Nat.le_of_ble_eq_true rfl⟩) (jpreS hT ⟨hPc_1, hDc_2.weaken (fun _ _ _ _ => trivial), trivial⟩) rfl rfl hl.1 rfl (lv_room (Nat.le_of_ble_eq_true rfl)) dX4_init_3 ⟨(Nat.zero_le _), (Nat.zero_le _)⟩) hS hFc_3 (fun H locs hw_r_4 hz hkq hS => ?_)
  have hP1 := hw_r_4
  obtain ⟨hP, hD⟩ := jjoin (wc := [(h, .inr (4, [v0, v1, v2]))]) (wr := []) (w1 := [(h, .inr (4, [.int g, .int s0, .int (jpm s0)]))]) (ws' := [(h, .inr (4, [.int g, .int s0, .int (jpm s0)]))]) hP hD hFc_3 [0] [] [0] rfl rfl (by decide) (by decide) (by decide) (by decide) hkq hP1 rfl rfl rfl
  exact W.vret hx hb hr (fun t ht hW => ⟨⟨(), rfl, trivial, by dsimp only; rw [ht]; exact hP⟩, hS.F ht⟩) hS.2.2 dX4_init_6

