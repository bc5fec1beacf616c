/-- is a jar of class k such a kind -/
def jik (k c : Nat) : Bool := (c == 0) || (c == 1 && k == 5) || (c == 2 && (k == 0 || k == 2)) || (c == 3 && k == 4) || (c == 4 && k == 2)
def jas (k c j : Nat) : Int32 := if jik k c then nI j else -1
set_option maxHeartbeats 4000000 in
set_option maxRecDepth 100000 in
theorem c_isOfKind_0_0 (l : Launch) (D : va_G) (cI cJ : ClassId) (a : Nat) (v0 : Value) (v1 : Value) (v2 : Value)  : jRi l yX6_isOfKind wsX6_isOfKind ({ frames := 0, cells := 0, slots := 0, locals := 0 }) [.ref a, .int 0] D cI cJ (fun H => va_P D vwCl [(a, .inr (0, [v0, v1, v2]))] H) (fun r => r = 1) := by
  intro sz
  refine Met.ofW (cc := cX6_isOfKind) (maxL := 2) (ret := (some .boolean)) (by decide) rfl ?_
  intro p e s m args below meth c s₁ B hml hv
  obtain ⟨rfl, hsz, hT, hPr⟩ := hv
  have hK := hT.1
  have hx := B.exec
  have hb := B.bytes
  have hr := B.returns
  have hts := atoms_spec (ws := wsX6_isOfKind) B.pre
  have hown : s.vm.findClass RX6 = some m.cls := findClass_of_methodNamed B.named
  have hlocks := B.notSynchronized
  subst hsz
  generalize hAe : va_A [] s.heap.size = A
  have hA : ∀ q : Nat, s.heap.size ≤ q → A q := fun q h => by rw [← hAe]; exact Or.inr h
  have hS : va_S A s.heap s.heap [] := va_S.rf
  have hl := lv_entry ([.ref a, .int 0] : List Value) (n := 2) (Nat.le_of_ble_eq_true rfl)
  rw [lg_entry_eq]
  generalize (lg_sl ([.ref a, .int 0]) ++ List.replicate (2 - (lg_sl ([.ref a, .int 0])).length) Slot.unset).toArray = ls at hl ⊢
  have hl : lv_has ls 2 [(0, .ref a), (1, .int 0)] := hl
  refine lv_iload_n hx hb dX6_isOfKind_0 rfl (lv_at hl 1 rfl) ?_
  refine lv_tableIn (off := 35) (tgt := 36) hx hb dX6_isOfKind_1 (by decide) (by decide) (by decide) (by decide) ?_
  refine lv_aload_n hx hb dX6_isOfKind_36 rfl (lv_at hl 0 rfl) ?_
  refine lv_ifnull hx hb dX6_isOfKind_37 ?_
  refine lv_iconst (v := 1) hx hb dX6_isOfKind_40 (by decide) ?_
  refine lv_goto (tgt := 45) hx hb dX6_isOfKind_41 (by decide) ?_
  exact W.zret (v := 1) hx hb hr (by decide) (fun t ht hW => ⟨⟨1, (), rfl, rfl, trivial⟩, hS.F ht⟩) hS.2.2 dX6_isOfKind_45

set_option maxHeartbeats 4000000 in
set_option maxRecDepth 100000 in
theorem c_isOfKind_0_1 (l : Launch) (D : va_G) (cI cJ : ClassId) (a : Nat) (v0 : Value) (v1 : Value) (v2 : Value)  : jRi l yX6_isOfKind wsX6_isOfKind ({ frames := 0, cells := 0, slots := 0, locals := 0 }) [.ref a, .int 1] D cI cJ (fun H => va_P D vwCl [(a, .inr (0, [v0, v1, v2]))] H) (fun r => r = 0) := by
  intro sz
  refine Met.ofW (cc := cX6_isOfKind) (maxL := 2) (ret := (some .boolean)) (by decide) rfl ?_
  intro p e s m args below meth c s₁ B hml hv
  obtain ⟨rfl, hsz, hT, hPr⟩ := hv
  have hK := hT.1
  have hx := B.exec
  have hb := B.bytes
  have hr := B.returns
  have hts := atoms_spec (ws := wsX6_isOfKind) B.pre
  have hown : s.vm.findClass RX6 = some m.cls := findClass_of_methodNamed B.named
  have hlocks := B.notSynchronized
  subst hsz
  generalize hAe : va_A [] s.heap.size = A
  have hA : ∀ q : Nat, s.heap.size ≤ q → A q := fun q h => by rw [← hAe]; exact Or.inr h
  have hS : va_S A s.heap s.heap [] := va_S.rf
  have hl := lv_entry ([.ref a, .int 1] : List Value) (n := 2) (Nat.le_of_ble_eq_true rfl)
  rw [lg_entry_eq]
  generalize (lg_sl ([.ref a, .int 1]) ++ List.replicate (2 - (lg_sl ([.ref a, .int 1])).length) Slot.unset).toArray = ls at hl ⊢
  have hl : lv_has ls 2 [(0, .ref a), (1, .int 1)] := hl
  refine lv_iload_n hx hb dX6_isOfKind_0 rfl (lv_at hl 1 rfl) ?_
  refine lv_tableIn (off := 45) (tgt := 46) hx hb dX6_isOfKind_1 (by decide) (by decide) (by decide) (by decide) ?_
  refine lv_aload_n hx hb dX6_isOfKind_46 rfl (lv_at hl 0 rfl) ?_
  refine va_instNo (C := RX0) hx hb hown (hts (Cond.classLink RX6 203 "JamDays$Weak") (List.mem_of_getElem? (i := 1) rfl)) (hT.2.2.2 ("JamDays$Copper", "JamDays$Weak") (by decide)) (va_recv hK hPr (ci := 0) (q0 := 0) rfl rfl) dX6_isOfKind_47 ?_
  exact W.zret (v := 0) hx hb hr (by decide) (fun t ht hW => ⟨⟨0, (), rfl, rfl, trivial⟩, hS.F ht⟩) hS.2.2 dX6_isOfKind_50

set_option maxHeartbeats 4000000 in
set_option maxRecDepth 100000 in
theorem c_isOfKind_0_2 (l : Launch) (D : va_G) (cI cJ : ClassId) (a : Nat) (v0 : Value) (v1 : Value) (v2 : Value)  : jRi l yX6_isOfKind wsX6_isOfKind ({ frames := 0, cells := 0, slots := 0, locals := 0 }) [.ref a, .int 2] D cI cJ (fun H => va_P D vwCl [(a, .inr (0, [v0, v1, v2]))] H) (fun r => r = 1) := by
  intro sz
  refine Met.ofW (cc := cX6_isOfKind) (maxL := 2) (ret := (some .boolean)) (by decide) rfl ?_
  intro p e s m args below meth c s₁ B hml hv
  obtain ⟨rfl, hsz, hT, hPr⟩ := hv
  have hK := hT.1
  have hx := B.exec
  have hb := B.bytes
  have hr := B.returns
  have hts := atoms_spec (ws := wsX6_isOfKind) B.pre
  have hown : s.vm.findClass RX6 = some m.cls := findClass_of_methodNamed B.named
  have hlocks := B.notSynchronized
  subst hsz
  generalize hAe : va_A [] s.heap.size = A
  have hA : ∀ q : Nat, s.heap.size ≤ q → A q := fun q h => by rw [← hAe]; exact Or.inr h
  have hS : va_S A s.heap s.heap [] := va_S.rf
  have hl := lv_entry ([.ref a, .int 2] : List Value) (n := 2) (Nat.le_of_ble_eq_true rfl)
  rw [lg_entry_eq]
  generalize (lg_sl ([.ref a, .int 2]) ++ List.replicate (2 - (lg_sl ([.ref a, .int 2])).length) Slot.unset).toArray = ls at hl ⊢
  have hl : lv_has ls 2 [(0, .ref a), (1, .int 2)] := hl
  refine lv_iload_n hx hb dX6_isOfKind_0 rfl (lv_at hl 1 rfl) ?_
  refine lv_tableIn (off := 50) (tgt := 51) hx hb dX6_isOfKind_1 (by decide) (by decide) (by decide) (by decide) ?_
  refine lv_aload_n hx hb dX6_isOfKind_51 rfl (lv_at hl 0 rfl) ?_
  refine va_instS hx hb hown (hts (Cond.classLink RX6 208 "JamDays$Copper") (List.mem_of_getElem? (i := 2) rfl)) (hK.1 0 _ rfl).2 (va_recv hK hPr (ci := 0) (q0 := 0) rfl rfl) dX6_isOfKind_52 ?_
  exact W.zret (v := 1) hx hb hr (by decide) (fun t ht hW => ⟨⟨1, (), rfl, rfl, trivial⟩, hS.F ht⟩) hS.2.2 dX6_isOfKind_55

set_option maxHeartbeats 4000000 in
set_option maxRecDepth 100000 in
theorem c_isOfKind_0_3 (l : Launch) (D : va_G) (cI cJ : ClassId) (a : Nat) (v0 : Value) (v1 : Value) (v2 : Value)  : jRi l yX6_isOfKind wsX6_isOfKind ({ frames := 0, cells := 0, slots := 0, locals := 0 }) [.ref a, .int 3] D cI cJ (fun H => va_P D vwCl [(a, .inr (0, [v0, v1, v2]))] H) (fun r => r = 0) := by
  intro sz
  refine Met.ofW (cc := cX6_isOfKind) (maxL := 2) (ret := (some .boolean)) (by decide) rfl ?_
  intro p e s m args below meth c s₁ B hml hv
  obtain ⟨rfl, hsz, hT, hPr⟩ := hv
  have hK := hT.1
  have hx := B.exec
  have hb := B.bytes
  have hr := B.returns
  have hts := atoms_spec (ws := wsX6_isOfKind) B.pre
  have hown : s.vm.findClass RX6 = some m.cls := findClass_of_methodNamed B.named
  have hlocks := B.notSynchronized
  subst hsz
  generalize hAe : va_A [] s.heap.size = A
  have hA : ∀ q : Nat, s.heap.size ≤ q → A q := fun q h => by rw [← hAe]; exact Or.inr h
  have hS : va_S A s.heap s.heap [] := va_S.rf
  have hl := lv_entry ([.ref a, .int 3] : List Value) (n := 2) (Nat.le_of_ble_eq_true rfl)
  rw [lg_entry_eq]
  generalize (lg_sl ([.ref a, .int 3]) ++ List.replicate (2 - (lg_sl ([.ref a, .int 3])).length) Slot.unset).toArray = ls at hl ⊢
  have hl : lv_has ls 2 [(0, .ref a), (1, .int 3)] := hl
  refine lv_iload_n hx hb dX6_isOfKind_0 rfl (lv_at hl 1 rfl) ?_
  refine lv_tableIn (off := 55) (tgt := 56) hx hb dX6_isOfKind_1 (by decide) (by decide) (by decide) (by decide) ?_
  refine lv_aload_n hx hb dX6_isOfKind_56 rfl (lv_at hl 0 rfl) ?_
  refine va_instNo (C := RX0) hx hb hown (hts (Cond.classLink RX6 211 "JamDays$Plum") (List.mem_of_getElem? (i := 3) rfl)) (hT.2.2.2 ("JamDays$Copper", "JamDays$Plum") (by decide)) (va_recv hK hPr (ci := 0) (q0 := 0) rfl rfl) dX6_isOfKind_57 ?_
  exact W.zret (v := 0) hx hb hr (by decide) (fun t ht hW => ⟨⟨0, (), rfl, rfl, trivial⟩, hS.F ht⟩) hS.2.2 dX6_isOfKind_60

set_option maxHeartbeats 4000000 in
set_option maxRecDepth 100000 in
theorem c_isOfKind_0_4 (l : Launch) (D : va_G) (cI cJ : ClassId) (a : Nat) (v0 : Value) (v1 : Value) (v2 : Value)  : jRi l yX6_isOfKind wsX6_isOfKind ({ frames := 0, cells := 0, slots := 0, locals := 0 }) [.ref a, .int 4] D cI cJ (fun H => va_P D vwCl [(a, .inr (0, [v0, v1, v2]))] H) (fun r => r = 0) := by
  intro sz
  refine Met.ofW (cc := cX6_isOfKind) (maxL := 2) (ret := (some .boolean)) (by decide) rfl ?_
  intro p e s m args below meth c s₁ B hml hv
  obtain ⟨rfl, hsz, hT, hPr⟩ := hv
  have hK := hT.1
  have hx := B.exec
  have hb := B.bytes
  have hr := B.returns
  have hts := atoms_spec (ws := wsX6_isOfKind) B.pre
  have hown : s.vm.findClass RX6 = some m.cls := findClass_of_methodNamed B.named
  have hlocks := B.notSynchronized
  subst hsz
  generalize hAe : va_A [] s.heap.size = A
  have hA : ∀ q : Nat, s.heap.size ≤ q → A q := fun q h => by rw [← hAe]; exact Or.inr h
  have hS : va_S A s.heap s.heap [] := va_S.rf
  have hl := lv_entry ([.ref a, .int 4] : List Value) (n := 2) (Nat.le_of_ble_eq_true rfl)
  rw [lg_entry_eq]
  generalize (lg_sl ([.ref a, .int 4]) ++ List.replicate (2 - (lg_sl ([.ref a, .int 4])).length) Slot.unset).toArray = ls at hl ⊢
  have hl : lv_has ls 2 [(0, .ref a), (1, .int 4)] := hl
  refine lv_iload_n hx hb dX6_isOfKind_0 rfl (lv_at hl 1 rfl) ?_
  refine lv_tableIn (off := 60) (tgt := 61) hx hb dX6_isOfKind_1 (by decide) (by decide) (by decide) (by decide) ?_
  refine lv_aload_n hx hb dX6_isOfKind_61 rfl (lv_at hl 0 rfl) ?_
  refine va_instNo (C := RX0) hx hb hown (hts (Cond.classLink RX6 214 "JamDays$Gold") (List.mem_of_getElem? (i := 4) rfl)) (hT.2.2.2 ("JamDays$Copper", "JamDays$Gold") (by decide)) (va_recv hK hPr (ci := 0) (q0 := 0) rfl rfl) dX6_isOfKind_62 ?_
  exact W.zret (v := 0) hx hb hr (by decide) (fun t ht hW => ⟨⟨0, (), rfl, rfl, trivial⟩, hS.F ht⟩) hS.2.2 dX6_isOfKind_65

set_option maxHeartbeats 4000000 in
set_option maxRecDepth 100000 in
theorem c_isOfKind_2_0 (l : Launch) (D : va_G) (cI cJ : ClassId) (a : Nat) (v0 : Value) (v1 : Value) (v2 : Value)  : jRi l yX6_isOfKind wsX6_isOfKind ({ frames := 0, cells := 0, slots := 0, locals := 0 }) [.ref a, .int 0] D cI cJ (fun H => va_P D vwCl [(a, .inr (2, [v0, v1, v2]))] H) (fun r => r = 1) := by
  intro sz
  refine Met.ofW (cc := cX6_isOfKind) (maxL := 2) (ret := (some .boolean)) (by decide) rfl ?_
  intro p e s m args below meth c s₁ B hml hv
  obtain ⟨rfl, hsz, hT, hPr⟩ := hv
  have hK := hT.1
  have hx := B.exec
  have hb := B.bytes
  have hr := B.returns
  have hts := atoms_spec (ws := wsX6_isOfKind) B.pre
  have hown : s.vm.findClass RX6 = some m.cls := findClass_of_methodNamed B.named
  have hlocks := B.notSynchronized
  subst hsz
  generalize hAe : va_A [] s.heap.size = A
  have hA : ∀ q : Nat, s.heap.size ≤ q → A q := fun q h => by rw [← hAe]; exact Or.inr h
  have hS : va_S A s.heap s.heap [] := va_S.rf
  have hl := lv_entry ([.ref a, .int 0] : List Value) (n := 2) (Nat.le_of_ble_eq_true rfl)
  rw [lg_entry_eq]
  generalize (lg_sl ([.ref a, .int 0]) ++ List.replicate (2 - (lg_sl ([.ref a, .int 0])).length) Slot.unset).toArray = ls at hl ⊢
  have hl : lv_has ls 2 [(0, .ref a), (1, .int 0)] := hl
  refine lv_iload_n hx hb dX6_isOfKind_0 rfl (lv_at hl 1 rfl) ?_
  refine lv_tableIn (off := 35) (tgt := 36) hx hb dX6_isOfKind_1 (by decide) (by decide) (by decide) (by decide) ?_
  refine lv_aload_n hx hb dX6_isOfKind_36 rfl (lv_at hl 0 rfl) ?_
  refine lv_ifnull hx hb dX6_isOfKind_37 ?_
  refine lv_iconst (v := 1) hx hb dX6_isOfKind_40 (by decide) ?_
  refine lv_goto (tgt := 45) hx hb dX6_isOfKind_41 (by decide) ?_
  exact W.zret (v := 1) hx hb hr (by decide) (fun t ht hW => ⟨⟨1, (), rfl, rfl, trivial⟩, hS.F ht⟩) hS.2.2 dX6_isOfKind_45

set_option maxHeartbeats 4000000 in
set_option maxRecDepth 100000 in
theorem c_isOfKind_2_1 (l : Launch) (D : va_G) (cI cJ : ClassId) (a : Nat) (v0 : Value) (v1 : Value) (v2 : Value)  : jRi l yX6_isOfKind wsX6_isOfKind ({ frames := 0, cells := 0, slots := 0, locals := 0 }) [.ref a, .int 1] D cI cJ (fun H => va_P D vwCl [(a, .inr (2, [v0, v1, v2]))] H) (fun r => r = 0) := by
  intro sz
  refine Met.ofW (cc := cX6_isOfKind) (maxL := 2) (ret := (some .boolean)) (by decide) rfl ?_
  intro p e s m args below meth c s₁ B hml hv
  obtain ⟨rfl, hsz, hT, hPr⟩ := hv
  have hK := hT.1
  have hx := B.exec
  have hb := B.bytes
  have hr := B.returns
  have hts := atoms_spec (ws := wsX6_isOfKind) B.pre
  have hown : s.vm.findClass RX6 = some m.cls := findClass_of_methodNamed B.named
  have hlocks := B.notSynchronized
  subst hsz
  generalize hAe : va_A [] s.heap.size = A
  have hA : ∀ q : Nat, s.heap.size ≤ q → A q := fun q h => by rw [← hAe]; exact Or.inr h
  have hS : va_S A s.heap s.heap [] := va_S.rf
  have hl := lv_entry ([.ref a, .int 1] : List Value) (n := 2) (Nat.le_of_ble_eq_true rfl)
  rw [lg_entry_eq]
  generalize (lg_sl ([.ref a, .int 1]) ++ List.replicate (2 - (lg_sl ([.ref a, .int 1])).length) Slot.unset).toArray = ls at hl ⊢
  have hl : lv_has ls 2 [(0, .ref a), (1, .int 1)] := hl
  refine lv_iload_n hx hb dX6_isOfKind_0 rfl (lv_at hl 1 rfl) ?_
  refine lv_tableIn (off := 45) (tgt := 46) hx hb dX6_isOfKind_1 (by decide) (by decide) (by decide) (by decide) ?_
  refine lv_aload_n hx hb dX6_isOfKind_46 rfl (lv_at hl 0 rfl) ?_
  refine va_instNo (C := RX2) hx hb hown (hts (Cond.classLink RX6 203 "JamDays$Weak") (List.mem_of_getElem? (i := 1) rfl)) (hT.2.2.2 ("JamDays$Gold", "JamDays$Weak") (by decide)) (va_recv hK hPr (ci := 2) (q0 := 0) rfl rfl) dX6_isOfKind_47 ?_
  exact W.zret (v := 0) hx hb hr (by decide) (fun t ht hW => ⟨⟨0, (), rfl, rfl, trivial⟩, hS.F ht⟩) hS.2.2 dX6_isOfKind_50

set_option maxHeartbeats 4000000 in
set_option maxRecDepth 100000 in
theorem c_isOfKind_2_2 (l : Launch) (D : va_G) (cI cJ : ClassId) (a : Nat) (v0 : Value) (v1 : Value) (v2 : Value)  : jRi l yX6_isOfKind wsX6_isOfKind ({ frames := 0, cells := 0, slots := 0, locals := 0 }) [.ref a, .int 2] D cI cJ (fun H => va_P D vwCl [(a, .inr (2, [v0, v1, v2]))] H) (fun r => r = 1) := by
  intro sz
  refine Met.ofW (cc := cX6_isOfKind) (maxL := 2) (ret := (some .boolean)) (by decide) rfl ?_
  intro p e s m args below meth c s₁ B hml hv
  obtain ⟨rfl, hsz, hT, hPr⟩ := hv
  have hK := hT.1
  have hx := B.exec
  have hb := B.bytes
  have hr := B.returns
  have hts := atoms_spec (ws := wsX6_isOfKind) B.pre
  have hown : s.vm.findClass RX6 = some m.cls := findClass_of_methodNamed B.named
  have hlocks := B.notSynchronized
  subst hsz
  generalize hAe : va_A [] s.heap.size = A
  have hA : ∀ q : Nat, s.heap.size ≤ q → A q := fun q h => by rw [← hAe]; exact Or.inr h
  have hS : va_S A s.heap s.heap [] := va_S.rf
  have hl := lv_entry ([.ref a, .int 2] : List Value) (n := 2) (Nat.le_of_ble_eq_true rfl)
  rw [lg_entry_eq]
  generalize (lg_sl ([.ref a, .int 2]) ++ List.replicate (2 - (lg_sl ([.ref a, .int 2])).length) Slot.unset).toArray = ls at hl ⊢
  have hl : lv_has ls 2 [(0, .ref a), (1, .int 2)] := hl
  refine lv_iload_n hx hb dX6_isOfKind_0 rfl (lv_at hl 1 rfl) ?_
  refine lv_tableIn (off := 50) (tgt := 51) hx hb dX6_isOfKind_1 (by decide) (by decide) (by decide) (by decide) ?_
  refine lv_aload_n hx hb dX6_isOfKind_51 rfl (lv_at hl 0 rfl) ?_
  refine va_instY (C := RX2) hx hb hown (hts (Cond.classLink RX6 208 "JamDays$Copper") (List.mem_of_getElem? (i := 2) rfl)) (hT.2.2.1 ("JamDays$Gold", "JamDays$Copper") (by decide)) (va_recv hK hPr (ci := 2) (q0 := 0) rfl rfl) dX6_isOfKind_52 ?_
  exact W.zret (v := 1) hx hb hr (by decide) (fun t ht hW => ⟨⟨1, (), rfl, rfl, trivial⟩, hS.F ht⟩) hS.2.2 dX6_isOfKind_55

set_option maxHeartbeats 4000000 in
set_option maxRecDepth 100000 in
theorem c_isOfKind_2_3 (l : Launch) (D : va_G) (cI cJ : ClassId) (a : Nat) (v0 : Value) (v1 : Value) (v2 : Value)  : jRi l yX6_isOfKind wsX6_isOfKind ({ frames := 0, cells := 0, slots := 0, locals := 0 }) [.ref a, .int 3] D cI cJ (fun H => va_P D vwCl [(a, .inr (2, [v0, v1, v2]))] H) (fun r => r = 0) := by
  intro sz
  refine Met.ofW (cc := cX6_isOfKind) (maxL := 2) (ret := (some .boolean)) (by decide) rfl ?_
  intro p e s m args below meth c s₁ B hml hv
  obtain ⟨rfl, hsz, hT, hPr⟩ := hv
  have hK := hT.1
  have hx := B.exec
  have hb := B.bytes
  have hr := B.returns
  have hts := atoms_spec (ws := wsX6_isOfKind) B.pre
  have hown : s.vm.findClass RX6 = some m.cls := findClass_of_methodNamed B.named
  have hlocks := B.notSynchronized
  subst hsz
  generalize hAe : va_A [] s.heap.size = A
  have hA : ∀ q : Nat, s.heap.size ≤ q → A q := fun q h => by rw [← hAe]; exact Or.inr h
  have hS : va_S A s.heap s.heap [] := va_S.rf
  have hl := lv_entry ([.ref a, .int 3] : List Value) (n := 2) (Nat.le_of_ble_eq_true rfl)
  rw [lg_entry_eq]
  generalize (lg_sl ([.ref a, .int 3]) ++ List.replicate (2 - (lg_sl ([.ref a, .int 3])).length) Slot.unset).toArray = ls at hl ⊢
  have hl : lv_has ls 2 [(0, .ref a), (1, .int 3)] := hl
  refine lv_iload_n hx hb dX6_isOfKind_0 rfl (lv_at hl 1 rfl) ?_
  refine lv_tableIn (off := 55) (tgt := 56) hx hb dX6_isOfKind_1 (by decide) (by decide) (by decide) (by decide) ?_
  refine lv_aload_n hx hb dX6_isOfKind_56 rfl (lv_at hl 0 rfl) ?_
  refine va_instNo (C := RX2) hx hb hown (hts (Cond.classLink RX6 211 "JamDays$Plum") (List.mem_of_getElem? (i := 3) rfl)) (hT.2.2.2 ("JamDays$Gold", "JamDays$Plum") (by decide)) (va_recv hK hPr (ci := 2) (q0 := 0) rfl rfl) dX6_isOfKind_57 ?_
  exact W.zret (v := 0) hx hb hr (by decide) (fun t ht hW => ⟨⟨0, (), rfl, rfl, trivial⟩, hS.F ht⟩) hS.2.2 dX6_isOfKind_60

set_option maxHeartbeats 4000000 in
set_option maxRecDepth 100000 in
theorem c_isOfKind_2_4 (l : Launch) (D : va_G) (cI cJ : ClassId) (a : Nat) (v0 : Value) (v1 : Value) (v2 : Value)  : jRi l yX6_isOfKind wsX6_isOfKind ({ frames := 0, cells := 0, slots := 0, locals := 0 }) [.ref a, .int 4] D cI cJ (fun H => va_P D vwCl [(a, .inr (2, [v0, v1, v2]))] H) (fun r => r = 1) := by
  intro sz
  refine Met.ofW (cc := cX6_isOfKind) (maxL := 2) (ret := (some .boolean)) (by decide) rfl ?_
  intro p e s m args below meth c s₁ B hml hv
  obtain ⟨rfl, hsz, hT, hPr⟩ := hv
  have hK := hT.1
  have hx := B.exec
  have hb := B.bytes
  have hr := B.returns
  have hts := atoms_spec (ws := wsX6_isOfKind) B.pre
  have hown : s.vm.findClass RX6 = some m.cls := findClass_of_methodNamed B.named
  have hlocks := B.notSynchronized
  subst hsz
  generalize hAe : va_A [] s.heap.size = A
  have hA : ∀ q : Nat, s.heap.size ≤ q → A q := fun q h => by rw [← hAe]; exact Or.inr h
  have hS : va_S A s.heap s.heap [] := va_S.rf
  have hl := lv_entry ([.ref a, .int 4] : List Value) (n := 2) (Nat.le_of_ble_eq_true rfl)
  rw [lg_entry_eq]
  generalize (lg_sl ([.ref a, .int 4]) ++ List.replicate (2 - (lg_sl ([.ref a, .int 4])).length) Slot.unset).toArray = ls at hl ⊢
  have hl : lv_has ls 2 [(0, .ref a), (1, .int 4)] := hl
  refine lv_iload_n hx hb dX6_isOfKind_0 rfl (lv_at hl 1 rfl) ?_
  refine lv_tableIn (off := 60) (tgt := 61) hx hb dX6_isOfKind_1 (by decide) (by decide) (by decide) (by decide) ?_
  refine lv_aload_n hx hb dX6_isOfKind_61 rfl (lv_at hl 0 rfl) ?_
  refine va_instS hx hb hown (hts (Cond.classLink RX6 214 "JamDays$Gold") (List.mem_of_getElem? (i := 4) rfl)) (hK.1 2 _ rfl).2 (va_recv hK hPr (ci := 2) (q0 := 0) rfl rfl) dX6_isOfKind_62 ?_
  exact W.zret (v := 1) hx hb hr (by decide) (fun t ht hW => ⟨⟨1, (), rfl, rfl, trivial⟩, hS.F ht⟩) hS.2.2 dX6_isOfKind_65

set_option maxHeartbeats 4000000 in
set_option maxRecDepth 100000 in
theorem c_isOfKind_3_0 (l : Launch) (D : va_G) (cI cJ : ClassId) (a : Nat) (v0 : Value) (v1 : Value) (v2 : Value)  : jRi l yX6_isOfKind wsX6_isOfKind ({ frames := 0, cells := 0, slots := 0, locals := 0 }) [.ref a, .int 0] D cI cJ (fun H => va_P D vwCl [(a, .inr (3, [v0, v1, v2]))] H) (fun r => r = 1) := by
  intro sz
  refine Met.ofW (cc := cX6_isOfKind) (maxL := 2) (ret := (some .boolean)) (by decide) rfl ?_
  intro p e s m args below meth c s₁ B hml hv
  obtain ⟨rfl, hsz, hT, hPr⟩ := hv
  have hK := hT.1
  have hx := B.exec
  have hb := B.bytes
  have hr := B.returns
  have hts := atoms_spec (ws := wsX6_isOfKind) B.pre
  have hown : s.vm.findClass RX6 = some m.cls := findClass_of_methodNamed B.named
  have hlocks := B.notSynchronized
  subst hsz
  generalize hAe : va_A [] s.heap.size = A
  have hA : ∀ q : Nat, s.heap.size ≤ q → A q := fun q h => by rw [← hAe]; exact Or.inr h
  have hS : va_S A s.heap s.heap [] := va_S.rf
  have hl := lv_entry ([.ref a, .int 0] : List Value) (n := 2) (Nat.le_of_ble_eq_true rfl)
  rw [lg_entry_eq]
  generalize (lg_sl ([.ref a, .int 0]) ++ List.replicate (2 - (lg_sl ([.ref a, .int 0])).length) Slot.unset).toArray = ls at hl ⊢
  have hl : lv_has ls 2 [(0, .ref a), (1, .int 0)] := hl
  refine lv_iload_n hx hb dX6_isOfKind_0 rfl (lv_at hl 1 rfl) ?_
  refine lv_tableIn (off := 35) (tgt := 36) hx hb dX6_isOfKind_1 (by decide) (by decide) (by decide) (by decide) ?_
  refine lv_aload_n hx hb dX6_isOfKind_36 rfl (lv_at hl 0 rfl) ?_
  refine lv_ifnull hx hb dX6_isOfKind_37 ?_
  refine lv_iconst (v := 1) hx hb dX6_isOfKind_40 (by decide) ?_
  refine lv_goto (tgt := 45) hx hb dX6_isOfKind_41 (by decide) ?_
  exact W.zret (v := 1) hx hb hr (by decide) (fun t ht hW => ⟨⟨1, (), rfl, rfl, trivial⟩, hS.F ht⟩) hS.2.2 dX6_isOfKind_45

set_option maxHeartbeats 4000000 in
set_option maxRecDepth 100000 in
theorem c_isOfKind_3_1 (l : Launch) (D : va_G) (cI cJ : ClassId) (a : Nat) (v0 : Value) (v1 : Value) (v2 : Value)  : jRi l yX6_isOfKind wsX6_isOfKind ({ frames := 0, cells := 0, slots := 0, locals := 0 }) [.ref a, .int 1] D cI cJ (fun H => va_P D vwCl [(a, .inr (3, [v0, v1, v2]))] H) (fun r => r = 0) := by
  intro sz
  refine Met.ofW (cc := cX6_isOfKind) (maxL := 2) (ret := (some .boolean)) (by decide) rfl ?_
  intro p e s m args below meth c s₁ B hml hv
  obtain ⟨rfl, hsz, hT, hPr⟩ := hv
  have hK := hT.1
  have hx := B.exec
  have hb := B.bytes
  have hr := B.returns
  have hts := atoms_spec (ws := wsX6_isOfKind) B.pre
  have hown : s.vm.findClass RX6 = some m.cls := findClass_of_methodNamed B.named
  have hlocks := B.notSynchronized
  subst hsz
  generalize hAe : va_A [] s.heap.size = A
  have hA : ∀ q : Nat, s.heap.size ≤ q → A q := fun q h => by rw [← hAe]; exact Or.inr h
  have hS : va_S A s.heap s.heap [] := va_S.rf
  have hl := lv_entry ([.ref a, .int 1] : List Value) (n := 2) (Nat.le_of_ble_eq_true rfl)
  rw [lg_entry_eq]
  generalize (lg_sl ([.ref a, .int 1]) ++ List.replicate (2 - (lg_sl ([.ref a, .int 1])).length) Slot.unset).toArray = ls at hl ⊢
  have hl : lv_has ls 2 [(0, .ref a), (1, .int 1)] := hl
  refine lv_iload_n hx hb dX6_isOfKind_0 rfl (lv_at hl 1 rfl) ?_
  refine lv_tableIn (off := 45) (tgt := 46) hx hb dX6_isOfKind_1 (by decide) (by decide) (by decide) (by decide) ?_
  refine lv_aload_n hx hb dX6_isOfKind_46 rfl (lv_at hl 0 rfl) ?_
  refine va_instNo (C := RX3) hx hb hown (hts (Cond.classLink RX6 203 "JamDays$Weak") (List.mem_of_getElem? (i := 1) rfl)) (hT.2.2.2 ("JamDays$Jar", "JamDays$Weak") (by decide)) (va_recv hK hPr (ci := 3) (q0 := 0) rfl rfl) dX6_isOfKind_47 ?_
  exact W.zret (v := 0) hx hb hr (by decide) (fun t ht hW => ⟨⟨0, (), rfl, rfl, trivial⟩, hS.F ht⟩) hS.2.2 dX6_isOfKind_50

set_option maxHeartbeats 4000000 in
set_option maxRecDepth 100000 in
theorem c_isOfKind_3_2 (l : Launch) (D : va_G) (cI cJ : ClassId) (a : Nat) (v0 : Value) (v1 : Value) (v2 : Value)  : jRi l yX6_isOfKind wsX6_isOfKind ({ frames := 0, cells := 0, slots := 0, locals := 0 }) [.ref a, .int 2] D cI cJ (fun H => va_P D vwCl [(a, .inr (3, [v0, v1, v2]))] H) (fun r => r = 0) := by
  intro sz
  refine Met.ofW (cc := cX6_isOfKind) (maxL := 2) (ret := (some .boolean)) (by decide) rfl ?_
  intro p e s m args below meth c s₁ B hml hv
  obtain ⟨rfl, hsz, hT, hPr⟩ := hv
  have hK := hT.1
  have hx := B.exec
  have hb := B.bytes
  have hr := B.returns
  have hts := atoms_spec (ws := wsX6_isOfKind) B.pre
  have hown : s.vm.findClass RX6 = some m.cls := findClass_of_methodNamed B.named
  have hlocks := B.notSynchronized
  subst hsz
  generalize hAe : va_A [] s.heap.size = A
  have hA : ∀ q : Nat, s.heap.size ≤ q → A q := fun q h => by rw [← hAe]; exact Or.inr h
  have hS : va_S A s.heap s.heap [] := va_S.rf
  have hl := lv_entry ([.ref a, .int 2] : List Value) (n := 2) (Nat.le_of_ble_eq_true rfl)
  rw [lg_entry_eq]
  generalize (lg_sl ([.ref a, .int 2]) ++ List.replicate (2 - (lg_sl ([.ref a, .int 2])).length) Slot.unset).toArray = ls at hl ⊢
  have hl : lv_has ls 2 [(0, .ref a), (1, .int 2)] := hl
  refine lv_iload_n hx hb dX6_isOfKind_0 rfl (lv_at hl 1 rfl) ?_
  refine lv_tableIn (off := 50) (tgt := 51) hx hb dX6_isOfKind_1 (by decide) (by decide) (by decide) (by decide) ?_
  refine lv_aload_n hx hb dX6_isOfKind_51 rfl (lv_at hl 0 rfl) ?_
  refine va_instNo (C := RX3) hx hb hown (hts (Cond.classLink RX6 208 "JamDays$Copper") (List.mem_of_getElem? (i := 2) rfl)) (hT.2.2.2 ("JamDays$Jar", "JamDays$Copper") (by decide)) (va_recv hK hPr (ci := 3) (q0 := 0) rfl rfl) dX6_isOfKind_52 ?_
  exact W.zret (v := 0) hx hb hr (by decide) (fun t ht hW => ⟨⟨0, (), rfl, rfl, trivial⟩, hS.F ht⟩) hS.2.2 dX6_isOfKind_55

set_option maxHeartbeats 4000000 in
set_option maxRecDepth 100000 in
theorem c_isOfKind_3_3 (l : Launch) (D : va_G) (cI cJ : ClassId) (a : Nat) (v0 : Value) (v1 : Value) (v2 : Value)  : jRi l yX6_isOfKind wsX6_isOfKind ({ frames := 0, cells := 0, slots := 0, locals := 0 }) [.ref a, .int 3] D cI cJ (fun H => va_P D vwCl [(a, .inr (3, [v0, v1, v2]))] H) (fun r => r = 0) := by
  intro sz
  refine Met.ofW (cc := cX6_isOfKind) (maxL := 2) (ret := (some .boolean)) (by decide) rfl ?_
  intro p e s m args below meth c s₁ B hml hv
  obtain ⟨rfl, hsz, hT, hPr⟩ := hv
  have hK := hT.1
  have hx := B.exec
  have hb := B.bytes
  have hr := B.returns
  have hts := atoms_spec (ws := wsX6_isOfKind) B.pre
  have hown : s.vm.findClass RX6 = some m.cls := findClass_of_methodNamed B.named
  have hlocks := B.notSynchronized
  subst hsz
  generalize hAe : va_A [] s.heap.size = A
  have hA : ∀ q : Nat, s.heap.size ≤ q → A q := fun q h => by rw [← hAe]; exact Or.inr h
  have hS : va_S A s.heap s.heap [] := va_S.rf
  have hl := lv_entry ([.ref a, .int 3] : List Value) (n := 2) (Nat.le_of_ble_eq_true rfl)
  rw [lg_entry_eq]
  generalize (lg_sl ([.ref a, .int 3]) ++ List.replicate (2 - (lg_sl ([.ref a, .int 3])).length) Slot.unset).toArray = ls at hl ⊢
  have hl : lv_has ls 2 [(0, .ref a), (1, .int 3)] := hl
  refine lv_iload_n hx hb dX6_isOfKind_0 rfl (lv_at hl 1 rfl) ?_
  refine lv_tableIn (off := 55) (tgt := 56) hx hb dX6_isOfKind_1 (by decide) (by decide) (by decide) (by decide) ?_
  refine lv_aload_n hx hb dX6_isOfKind_56 rfl (lv_at hl 0 rfl) ?_
  refine va_instNo (C := RX3) hx hb hown (hts (Cond.classLink RX6 211 "JamDays$Plum") (List.mem_of_getElem? (i := 3) rfl)) (hT.2.2.2 ("JamDays$Jar", "JamDays$Plum") (by decide)) (va_recv hK hPr (ci := 3) (q0 := 0) rfl rfl) dX6_isOfKind_57 ?_
  exact W.zret (v := 0) hx hb hr (by decide) (fun t ht hW => ⟨⟨0, (), rfl, rfl, trivial⟩, hS.F ht⟩) hS.2.2 dX6_isOfKind_60

set_option maxHeartbeats 4000000 in
set_option maxRecDepth 100000 in
theorem c_isOfKind_3_4 (l : Launch) (D : va_G) (cI cJ : ClassId) (a : Nat) (v0 : Value) (v1 : Value) (v2 : Value)  : jRi l yX6_isOfKind wsX6_isOfKind ({ frames := 0, cells := 0, slots := 0, locals := 0 }) [.ref a, .int 4] D cI cJ (fun H => va_P D vwCl [(a, .inr (3, [v0, v1, v2]))] H) (fun r => r = 0) := by
  intro sz
  refine Met.ofW (cc := cX6_isOfKind) (maxL := 2) (ret := (some .boolean)) (by decide) rfl ?_
  intro p e s m args below meth c s₁ B hml hv
  obtain ⟨rfl, hsz, hT, hPr⟩ := hv
  have hK := hT.1
  have hx := B.exec
  have hb := B.bytes
  have hr := B.returns
  have hts := atoms_spec (ws := wsX6_isOfKind) B.pre
  have hown : s.vm.findClass RX6 = some m.cls := findClass_of_methodNamed B.named
  have hlocks := B.notSynchronized
  subst hsz
  generalize hAe : va_A [] s.heap.size = A
  have hA : ∀ q : Nat, s.heap.size ≤ q → A q := fun q h => by rw [← hAe]; exact Or.inr h
  have hS : va_S A s.heap s.heap [] := va_S.rf
  have hl := lv_entry ([.ref a, .int 4] : List Value) (n := 2) (Nat.le_of_ble_eq_true rfl)
  rw [lg_entry_eq]
  generalize (lg_sl ([.ref a, .int 4]) ++ List.replicate (2 - (lg_sl ([.ref a, .int 4])).length) Slot.unset).toArray = ls at hl ⊢
  have hl : lv_has ls 2 [(0, .ref a), (1, .int 4)] := hl
  refine lv_iload_n hx hb dX6_isOfKind_0 rfl (lv_at hl 1 rfl) ?_
  refine lv_tableIn (off := 60) (tgt := 61) hx hb dX6_isOfKind_1 (by decide) (by decide) (by decide) (by decide) ?_
  refine lv_aload_n hx hb dX6_isOfKind_61 rfl (lv_at hl 0 rfl) ?_
  refine va_instNo (C := RX3) hx hb hown (hts (Cond.classLink RX6 214 "JamDays$Gold") (List.mem_of_getElem? (i := 4) rfl)) (hT.2.2.2 ("JamDays$Jar", "JamDays$Gold") (by decide)) (va_recv hK hPr (ci := 3) (q0 := 0) rfl rfl) dX6_isOfKind_62 ?_
  exact W.zret (v := 0) hx hb hr (by decide) (fun t ht hW => ⟨⟨0, (), rfl, rfl, trivial⟩, hS.F ht⟩) hS.2.2 dX6_isOfKind_65

set_option maxHeartbeats 4000000 in
set_option maxRecDepth 100000 in
theorem c_isOfKind_4_0 (l : Launch) (D : va_G) (cI cJ : ClassId) (a : Nat) (v0 : Value) (v1 : Value) (v2 : Value)  : jRi l yX6_isOfKind wsX6_isOfKind ({ frames := 0, cells := 0, slots := 0, locals := 0 }) [.ref a, .int 0] D cI cJ (fun H => va_P D vwCl [(a, .inr (4, [v0, v1, v2]))] H) (fun r => r = 1) := by
  intro sz
  refine Met.ofW (cc := cX6_isOfKind) (maxL := 2) (ret := (some .boolean)) (by decide) rfl ?_
  intro p e s m args below meth c s₁ B hml hv
  obtain ⟨rfl, hsz, hT, hPr⟩ := hv
  have hK := hT.1
  have hx := B.exec
  have hb := B.bytes
  have hr := B.returns
  have hts := atoms_spec (ws := wsX6_isOfKind) B.pre
  have hown : s.vm.findClass RX6 = some m.cls := findClass_of_methodNamed B.named
  have hlocks := B.notSynchronized
  subst hsz
  generalize hAe : va_A [] s.heap.size = A
  have hA : ∀ q : Nat, s.heap.size ≤ q → A q := fun q h => by rw [← hAe]; exact Or.inr h
  have hS : va_S A s.heap s.heap [] := va_S.rf
  have hl := lv_entry ([.ref a, .int 0] : List Value) (n := 2) (Nat.le_of_ble_eq_true rfl)
  rw [lg_entry_eq]
  generalize (lg_sl ([.ref a, .int 0]) ++ List.replicate (2 - (lg_sl ([.ref a, .int 0])).length) Slot.unset).toArray = ls at hl ⊢
  have hl : lv_has ls 2 [(0, .ref a), (1, .int 0)] := hl
  refine lv_iload_n hx hb dX6_isOfKind_0 rfl (lv_at hl 1 rfl) ?_
  refine lv_tableIn (off := 35) (tgt := 36) hx hb dX6_isOfKind_1 (by decide) (by decide) (by decide) (by decide) ?_
  refine lv_aload_n hx hb dX6_isOfKind_36 rfl (lv_at hl 0 rfl) ?_
  refine lv_ifnull hx hb dX6_isOfKind_37 ?_
  refine lv_iconst (v := 1) hx hb dX6_isOfKind_40 (by decide) ?_
  refine lv_goto (tgt := 45) hx hb dX6_isOfKind_41 (by decide) ?_
  exact W.zret (v := 1) hx hb hr (by decide) (fun t ht hW => ⟨⟨1, (), rfl, rfl, trivial⟩, hS.F ht⟩) hS.2.2 dX6_isOfKind_45

set_option maxHeartbeats 4000000 in
set_option maxRecDepth 100000 in
theorem c_isOfKind_4_1 (l : Launch) (D : va_G) (cI cJ : ClassId) (a : Nat) (v0 : Value) (v1 : Value) (v2 : Value)  : jRi l yX6_isOfKind wsX6_isOfKind ({ frames := 0, cells := 0, slots := 0, locals := 0 }) [.ref a, .int 1] D cI cJ (fun H => va_P D vwCl [(a, .inr (4, [v0, v1, v2]))] H) (fun r => r = 0) := by
  intro sz
  refine Met.ofW (cc := cX6_isOfKind) (maxL := 2) (ret := (some .boolean)) (by decide) rfl ?_
  intro p e s m args below meth c s₁ B hml hv
  obtain ⟨rfl, hsz, hT, hPr⟩ := hv
  have hK := hT.1
  have hx := B.exec
  have hb := B.bytes
  have hr := B.returns
  have hts := atoms_spec (ws := wsX6_isOfKind) B.pre
  have hown : s.vm.findClass RX6 = some m.cls := findClass_of_methodNamed B.named
  have hlocks := B.notSynchronized
  subst hsz
  generalize hAe : va_A [] s.heap.size = A
  have hA : ∀ q : Nat, s.heap.size ≤ q → A q := fun q h => by rw [← hAe]; exact Or.inr h
  have hS : va_S A s.heap s.heap [] := va_S.rf
  have hl := lv_entry ([.ref a, .int 1] : List Value) (n := 2) (Nat.le_of_ble_eq_true rfl)
  rw [lg_entry_eq]
  generalize (lg_sl ([.ref a, .int 1]) ++ List.replicate (2 - (lg_sl ([.ref a, .int 1])).length) Slot.unset).toArray = ls at hl ⊢
  have hl : lv_has ls 2 [(0, .ref a), (1, .int 1)] := hl
  refine lv_iload_n hx hb dX6_isOfKind_0 rfl (lv_at hl 1 rfl) ?_
  refine lv_tableIn (off := 45) (tgt := 46) hx hb dX6_isOfKind_1 (by decide) (by decide) (by decide) (by decide) ?_
  refine lv_aload_n hx hb dX6_isOfKind_46 rfl (lv_at hl 0 rfl) ?_
  refine va_instNo (C := RX4) hx hb hown (hts (Cond.classLink RX6 203 "JamDays$Weak") (List.mem_of_getElem? (i := 1) rfl)) (hT.2.2.2 ("JamDays$Plum", "JamDays$Weak") (by decide)) (va_recv hK hPr (ci := 4) (q0 := 0) rfl rfl) dX6_isOfKind_47 ?_
  exact W.zret (v := 0) hx hb hr (by decide) (fun t ht hW => ⟨⟨0, (), rfl, rfl, trivial⟩, hS.F ht⟩) hS.2.2 dX6_isOfKind_50

set_option maxHeartbeats 4000000 in
set_option maxRecDepth 100000 in
theorem c_isOfKind_4_2 (l : Launch) (D : va_G) (cI cJ : ClassId) (a : Nat) (v0 : Value) (v1 : Value) (v2 : Value)  : jRi l yX6_isOfKind wsX6_isOfKind ({ frames := 0, cells := 0, slots := 0, locals := 0 }) [.ref a, .int 2] D cI cJ (fun H => va_P D vwCl [(a, .inr (4, [v0, v1, v2]))] H) (fun r => r = 0) := by
  intro sz
  refine Met.ofW (cc := cX6_isOfKind) (maxL := 2) (ret := (some .boolean)) (by decide) rfl ?_
  intro p e s m args below meth c s₁ B hml hv
  obtain ⟨rfl, hsz, hT, hPr⟩ := hv
  have hK := hT.1
  have hx := B.exec
  have hb := B.bytes
  have hr := B.returns
  have hts := atoms_spec (ws := wsX6_isOfKind) B.pre
  have hown : s.vm.findClass RX6 = some m.cls := findClass_of_methodNamed B.named
  have hlocks := B.notSynchronized
  subst hsz
  generalize hAe : va_A [] s.heap.size = A
  have hA : ∀ q : Nat, s.heap.size ≤ q → A q := fun q h => by rw [← hAe]; exact Or.inr h
  have hS : va_S A s.heap s.heap [] := va_S.rf
  have hl := lv_entry ([.ref a, .int 2] : List Value) (n := 2) (Nat.le_of_ble_eq_true rfl)
  rw [lg_entry_eq]
  generalize (lg_sl ([.ref a, .int 2]) ++ List.replicate (2 - (lg_sl ([.ref a, .int 2])).length) Slot.unset).toArray = ls at hl ⊢
  have hl : lv_has ls 2 [(0, .ref a), (1, .int 2)] := hl
  refine lv_iload_n hx hb dX6_isOfKind_0 rfl (lv_at hl 1 rfl) ?_
  refine lv_tableIn (off := 50) (tgt := 51) hx hb dX6_isOfKind_1 (by decide) (by decide) (by decide) (by decide) ?_
  refine lv_aload_n hx hb dX6_isOfKind_51 rfl (lv_at hl 0 rfl) ?_
  refine va_instNo (C := RX4) hx hb hown (hts (Cond.classLink RX6 208 "JamDays$Copper") (List.mem_of_getElem? (i := 2) rfl)) (hT.2.2.2 ("JamDays$Plum", "JamDays$Copper") (by decide)) (va_recv hK hPr (ci := 4) (q0 := 0) rfl rfl) dX6_isOfKind_52 ?_
  exact W.zret (v := 0) hx hb hr (by decide) (fun t ht hW => ⟨⟨0, (), rfl, rfl, trivial⟩, hS.F ht⟩) hS.2.2 dX6_isOfKind_55

set_option maxHeartbeats 4000000 in
set_option maxRecDepth 100000 in
theorem c_isOfKind_4_3 (l : Launch) (D : va_G) (cI cJ : ClassId) (a : Nat) (v0 : Value) (v1 : Value) (v2 : Value)  : jRi l yX6_isOfKind wsX6_isOfKind ({ frames := 0, cells := 0, slots := 0, locals := 0 }) [.ref a, .int 3] D cI cJ (fun H => va_P D vwCl [(a, .inr (4, [v0, v1, v2]))] H) (fun r => r = 1) := by
  intro sz
  refine Met.ofW (cc := cX6_isOfKind) (maxL := 2) (ret := (some .boolean)) (by decide) rfl ?_
  intro p e s m args below meth c s₁ B hml hv
  obtain ⟨rfl, hsz, hT, hPr⟩ := hv
  have hK := hT.1
  have hx := B.exec
  have hb := B.bytes
  have hr := B.returns
  have hts := atoms_spec (ws := wsX6_isOfKind) B.pre
  have hown : s.vm.findClass RX6 = some m.cls := findClass_of_methodNamed B.named
  have hlocks := B.notSynchronized
  subst hsz
  generalize hAe : va_A [] s.heap.size = A
  have hA : ∀ q : Nat, s.heap.size ≤ q → A q := fun q h => by rw [← hAe]; exact Or.inr h
  have hS : va_S A s.heap s.heap [] := va_S.rf
  have hl := lv_entry ([.ref a, .int 3] : List Value) (n := 2) (Nat.le_of_ble_eq_true rfl)
  rw [lg_entry_eq]
  generalize (lg_sl ([.ref a, .int 3]) ++ List.replicate (2 - (lg_sl ([.ref a, .int 3])).length) Slot.unset).toArray = ls at hl ⊢
  have hl : lv_has ls 2 [(0, .ref a), (1, .int 3)] := hl
  refine lv_iload_n hx hb dX6_isOfKind_0 rfl (lv_at hl 1 rfl) ?_
  refine lv_tableIn (off := 55) (tgt := 56) hx hb dX6_isOfKind_1 (by decide) (by decide) (by decide) (by decide) ?_
  refine lv_aload_n hx hb dX6_isOfKind_56 rfl (lv_at hl 0 rfl) ?_
  refine va_instS hx hb hown (hts (Cond.classLink RX6 211 "JamDays$Plum") (List.mem_of_getElem? (i := 3) rfl)) (hK.1 4 _ rfl).2 (va_recv hK hPr (ci := 4) (q0 := 0) rfl rfl) dX6_isOfKind_57 ?_
  exact W.zret (v := 1) hx hb hr (by decide) (fun t ht hW => ⟨⟨1, (), rfl, rfl, trivial⟩, hS.F ht⟩) hS.2.2 dX6_isOfKind_60

set_option maxHeartbeats 4000000 in
set_option maxRecDepth 100000 in
theorem c_isOfKind_4_4 (l : Launch) (D : va_G) (cI cJ : ClassId) (a : Nat) (v0 : Value) (v1 : Value) (v2 : Value)  : jRi l yX6_isOfKind wsX6_isOfKind ({ frames := 0, cells := 0, slots := 0, locals := 0 }) [.ref a, .int 4] D cI cJ (fun H => va_P D vwCl [(a, .inr (4, [v0, v1, v2]))] H) (fun r => r = 0) := by
  intro sz
  refine Met.ofW (cc := cX6_isOfKind) (maxL := 2) (ret := (some .boolean)) (by decide) rfl ?_
  intro p e s m args below meth c s₁ B hml hv
  obtain ⟨rfl, hsz, hT, hPr⟩ := hv
  have hK := hT.1
  have hx := B.exec
  have hb := B.bytes
  have hr := B.returns
  have hts := atoms_spec (ws := wsX6_isOfKind) B.pre
  have hown : s.vm.findClass RX6 = some m.cls := findClass_of_methodNamed B.named
  have hlocks := B.notSynchronized
  subst hsz
  generalize hAe : va_A [] s.heap.size = A
  have hA : ∀ q : Nat, s.heap.size ≤ q → A q := fun q h => by rw [← hAe]; exact Or.inr h
  have hS : va_S A s.heap s.heap [] := va_S.rf
  have hl := lv_entry ([.ref a, .int 4] : List Value) (n := 2) (Nat.le_of_ble_eq_true rfl)
  rw [lg_entry_eq]
  generalize (lg_sl ([.ref a, .int 4]) ++ List.replicate (2 - (lg_sl ([.ref a, .int 4])).length) Slot.unset).toArray = ls at hl ⊢
  have hl : lv_has ls 2 [(0, .ref a), (1, .int 4)] := hl
  refine lv_iload_n hx hb dX6_isOfKind_0 rfl (lv_at hl 1 rfl) ?_
  refine lv_tableIn (off := 60) (tgt := 61) hx hb dX6_isOfKind_1 (by decide) (by decide) (by decide) (by decide) ?_
  refine lv_aload_n hx hb dX6_isOfKind_61 rfl (lv_at hl 0 rfl) ?_
  refine va_instNo (C := RX4) hx hb hown (hts (Cond.classLink RX6 214 "JamDays$Gold") (List.mem_of_getElem? (i := 4) rfl)) (hT.2.2.2 ("JamDays$Plum", "JamDays$Gold") (by decide)) (va_recv hK hPr (ci := 4) (q0 := 0) rfl rfl) dX6_isOfKind_62 ?_
  exact W.zret (v := 0) hx hb hr (by decide) (fun t ht hW => ⟨⟨0, (), rfl, rfl, trivial⟩, hS.F ht⟩) hS.2.2 dX6_isOfKind_65

set_option maxHeartbeats 4000000 in
set_option maxRecDepth 100000 in
theorem c_isOfKind_5_0 (l : Launch) (D : va_G) (cI cJ : ClassId) (a : Nat) (v0 : Value) (v1 : Value) (v2 : Value)  : jRi l yX6_isOfKind wsX6_isOfKind ({ frames := 0, cells := 0, slots := 0, locals := 0 }) [.ref a, .int 0] D cI cJ (fun H => va_P D vwCl [(a, .inr (5, [v0, v1, v2]))] H) (fun r => r = 1) := by
  intro sz
  refine Met.ofW (cc := cX6_isOfKind) (maxL := 2) (ret := (some .boolean)) (by decide) rfl ?_
  intro p e s m args below meth c s₁ B hml hv
  obtain ⟨rfl, hsz, hT, hPr⟩ := hv
  have hK := hT.1
  have hx := B.exec
  have hb := B.bytes
  have hr := B.returns
  have hts := atoms_spec (ws := wsX6_isOfKind) B.pre
  have hown : s.vm.findClass RX6 = some m.cls := findClass_of_methodNamed B.named
  have hlocks := B.notSynchronized
  subst hsz
  generalize hAe : va_A [] s.heap.size = A
  have hA : ∀ q : Nat, s.heap.size ≤ q → A q := fun q h => by rw [← hAe]; exact Or.inr h
  have hS : va_S A s.heap s.heap [] := va_S.rf
  have hl := lv_entry ([.ref a, .int 0] : List Value) (n := 2) (Nat.le_of_ble_eq_true rfl)
  rw [lg_entry_eq]
  generalize (lg_sl ([.ref a, .int 0]) ++ List.replicate (2 - (lg_sl ([.ref a, .int 0])).length) Slot.unset).toArray = ls at hl ⊢
  have hl : lv_has ls 2 [(0, .ref a), (1, .int 0)] := hl
  refine lv_iload_n hx hb dX6_isOfKind_0 rfl (lv_at hl 1 rfl) ?_
  refine lv_tableIn (off := 35) (tgt := 36) hx hb dX6_isOfKind_1 (by decide) (by decide) (by decide) (by decide) ?_
  refine lv_aload_n hx hb dX6_isOfKind_36 rfl (lv_at hl 0 rfl) ?_
  refine lv_ifnull hx hb dX6_isOfKind_37 ?_
  refine lv_iconst (v := 1) hx hb dX6_isOfKind_40 (by decide) ?_
  refine lv_goto (tgt := 45) hx hb dX6_isOfKind_41 (by decide) ?_
  exact W.zret (v := 1) hx hb hr (by decide) (fun t ht hW => ⟨⟨1, (), rfl, rfl, trivial⟩, hS.F ht⟩) hS.2.2 dX6_isOfKind_45

set_option maxHeartbeats 4000000 in
set_option maxRecDepth 100000 in
theorem c_isOfKind_5_1 (l : Launch) (D : va_G) (cI cJ : ClassId) (a : Nat) (v0 : Value) (v1 : Value) (v2 : Value)  : jRi l yX6_isOfKind wsX6_isOfKind ({ frames := 0, cells := 0, slots := 0, locals := 0 }) [.ref a, .int 1] D cI cJ (fun H => va_P D vwCl [(a, .inr (5, [v0, v1, v2]))] H) (fun r => r = 1) := by
  intro sz
  refine Met.ofW (cc := cX6_isOfKind) (maxL := 2) (ret := (some .boolean)) (by decide) rfl ?_
  intro p e s m args below meth c s₁ B hml hv
  obtain ⟨rfl, hsz, hT, hPr⟩ := hv
  have hK := hT.1
  have hx := B.exec
  have hb := B.bytes
  have hr := B.returns
  have hts := atoms_spec (ws := wsX6_isOfKind) B.pre
  have hown : s.vm.findClass RX6 = some m.cls := findClass_of_methodNamed B.named
  have hlocks := B.notSynchronized
  subst hsz
  generalize hAe : va_A [] s.heap.size = A
  have hA : ∀ q : Nat, s.heap.size ≤ q → A q := fun q h => by rw [← hAe]; exact Or.inr h
  have hS : va_S A s.heap s.heap [] := va_S.rf
  have hl := lv_entry ([.ref a, .int 1] : List Value) (n := 2) (Nat.le_of_ble_eq_true rfl)
  rw [lg_entry_eq]
  generalize (lg_sl ([.ref a, .int 1]) ++ List.replicate (2 - (lg_sl ([.ref a, .int 1])).length) Slot.unset).toArray = ls at hl ⊢
  have hl : lv_has ls 2 [(0, .ref a), (1, .int 1)] := hl
  refine lv_iload_n hx hb dX6_isOfKind_0 rfl (lv_at hl 1 rfl) ?_
  refine lv_tableIn (off := 45) (tgt := 46) hx hb dX6_isOfKind_1 (by decide) (by decide) (by decide) (by decide) ?_
  refine lv_aload_n hx hb dX6_isOfKind_46 rfl (lv_at hl 0 rfl) ?_
  refine va_instS hx hb hown (hts (Cond.classLink RX6 203 "JamDays$Weak") (List.mem_of_getElem? (i := 1) rfl)) (hK.1 5 _ rfl).2 (va_recv hK hPr (ci := 5) (q0 := 0) rfl rfl) dX6_isOfKind_47 ?_
  exact W.zret (v := 1) hx hb hr (by decide) (fun t ht hW => ⟨⟨1, (), rfl, rfl, trivial⟩, hS.F ht⟩) hS.2.2 dX6_isOfKind_50

set_option maxHeartbeats 4000000 in
set_option maxRecDepth 100000 in
theorem c_isOfKind_5_2 (l : Launch) (D : va_G) (cI cJ : ClassId) (a : Nat) (v0 : Value) (v1 : Value) (v2 : Value)  : jRi l yX6_isOfKind wsX6_isOfKind ({ frames := 0, cells := 0, slots := 0, locals := 0 }) [.ref a, .int 2] D cI cJ (fun H => va_P D vwCl [(a, .inr (5, [v0, v1, v2]))] H) (fun r => r = 0) := by
  intro sz
  refine Met.ofW (cc := cX6_isOfKind) (maxL := 2) (ret := (some .boolean)) (by decide) rfl ?_
  intro p e s m args below meth c s₁ B hml hv
  obtain ⟨rfl, hsz, hT, hPr⟩ := hv
  have hK := hT.1
  have hx := B.exec
  have hb := B.bytes
  have hr := B.returns
  have hts := atoms_spec (ws := wsX6_isOfKind) B.pre
  have hown : s.vm.findClass RX6 = some m.cls := findClass_of_methodNamed B.named
  have hlocks := B.notSynchronized
  subst hsz
  generalize hAe : va_A [] s.heap.size = A
  have hA : ∀ q : Nat, s.heap.size ≤ q → A q := fun q h => by rw [← hAe]; exact Or.inr h
  have hS : va_S A s.heap s.heap [] := va_S.rf
  have hl := lv_entry ([.ref a, .int 2] : List Value) (n := 2) (Nat.le_of_ble_eq_true rfl)
  rw [lg_entry_eq]
  generalize (lg_sl ([.ref a, .int 2]) ++ List.replicate (2 - (lg_sl ([.ref a, .int 2])).length) Slot.unset).toArray = ls at hl ⊢
  have hl : lv_has ls 2 [(0, .ref a), (1, .int 2)] := hl
  refine lv_iload_n hx hb dX6_isOfKind_0 rfl (lv_at hl 1 rfl) ?_
  refine lv_tableIn (off := 50) (tgt := 51) hx hb dX6_isOfKind_1 (by decide) (by decide) (by decide) (by decide) ?_
  refine lv_aload_n hx hb dX6_isOfKind_51 rfl (lv_at hl 0 rfl) ?_
  refine va_instNo (C := RX5) hx hb hown (hts (Cond.classLink RX6 208 "JamDays$Copper") (List.mem_of_getElem? (i := 2) rfl)) (hT.2.2.2 ("JamDays$Weak", "JamDays$Copper") (by decide)) (va_recv hK hPr (ci := 5) (q0 := 0) rfl rfl) dX6_isOfKind_52 ?_
  exact W.zret (v := 0) hx hb hr (by decide) (fun t ht hW => ⟨⟨0, (), rfl, rfl, trivial⟩, hS.F ht⟩) hS.2.2 dX6_isOfKind_55

set_option maxHeartbeats 4000000 in
set_option maxRecDepth 100000 in
theorem c_isOfKind_5_3 (l : Launch) (D : va_G) (cI cJ : ClassId) (a : Nat) (v0 : Value) (v1 : Value) (v2 : Value)  : jRi l yX6_isOfKind wsX6_isOfKind ({ frames := 0, cells := 0, slots := 0, locals := 0 }) [.ref a, .int 3] D cI cJ (fun H => va_P D vwCl [(a, .inr (5, [v0, v1, v2]))] H) (fun r => r = 0) := by
  intro sz
  refine Met.ofW (cc := cX6_isOfKind) (maxL := 2) (ret := (some .boolean)) (by decide) rfl ?_
  intro p e s m args below meth c s₁ B hml hv
  obtain ⟨rfl, hsz, hT, hPr⟩ := hv
  have hK := hT.1
  have hx := B.exec
  have hb := B.bytes
  have hr := B.returns
  have hts := atoms_spec (ws := wsX6_isOfKind) B.pre
  have hown : s.vm.findClass RX6 = some m.cls := findClass_of_methodNamed B.named
  have hlocks := B.notSynchronized
  subst hsz
  generalize hAe : va_A [] s.heap.size = A
  have hA : ∀ q : Nat, s.heap.size ≤ q → A q := fun q h => by rw [← hAe]; exact Or.inr h
  have hS : va_S A s.heap s.heap [] := va_S.rf
  have hl := lv_entry ([.ref a, .int 3] : List Value) (n := 2) (Nat.le_of_ble_eq_true rfl)
  rw [lg_entry_eq]
  generalize (lg_sl ([.ref a, .int 3]) ++ List.replicate (2 - (lg_sl ([.ref a, .int 3])).length) Slot.unset).toArray = ls at hl ⊢
  have hl : lv_has ls 2 [(0, .ref a), (1, .int 3)] := hl
  refine lv_iload_n hx hb dX6_isOfKind_0 rfl (lv_at hl 1 rfl) ?_
  refine lv_tableIn (off := 55) (tgt := 56) hx hb dX6_isOfKind_1 (by decide) (by decide) (by decide) (by decide) ?_
  refine lv_aload_n hx hb dX6_isOfKind_56 rfl (lv_at hl 0 rfl) ?_
  refine va_instNo (C := RX5) hx hb hown (hts (Cond.classLink RX6 211 "JamDays$Plum") (List.mem_of_getElem? (i := 3) rfl)) (hT.2.2.2 ("JamDays$Weak", "JamDays$Plum") (by decide)) (va_recv hK hPr (ci := 5) (q0 := 0) rfl rfl) dX6_isOfKind_57 ?_
  exact W.zret (v := 0) hx hb hr (by decide) (fun t ht hW => ⟨⟨0, (), rfl, rfl, trivial⟩, hS.F ht⟩) hS.2.2 dX6_isOfKind_60

set_option maxHeartbeats 4000000 in
set_option maxRecDepth 100000 in
theorem c_isOfKind_5_4 (l : Launch) (D : va_G) (cI cJ : ClassId) (a : Nat) (v0 : Value) (v1 : Value) (v2 : Value)  : jRi l yX6_isOfKind wsX6_isOfKind ({ frames := 0, cells := 0, slots := 0, locals := 0 }) [.ref a, .int 4] D cI cJ (fun H => va_P D vwCl [(a, .inr (5, [v0, v1, v2]))] H) (fun r => r = 0) := by
  intro sz
  refine Met.ofW (cc := cX6_isOfKind) (maxL := 2) (ret := (some .boolean)) (by decide) rfl ?_
  intro p e s m args below meth c s₁ B hml hv
  obtain ⟨rfl, hsz, hT, hPr⟩ := hv
  have hK := hT.1
  have hx := B.exec
  have hb := B.bytes
  have hr := B.returns
  have hts := atoms_spec (ws := wsX6_isOfKind) B.pre
  have hown : s.vm.findClass RX6 = some m.cls := findClass_of_methodNamed B.named
  have hlocks := B.notSynchronized
  subst hsz
  generalize hAe : va_A [] s.heap.size = A
  have hA : ∀ q : Nat, s.heap.size ≤ q → A q := fun q h => by rw [← hAe]; exact Or.inr h
  have hS : va_S A s.heap s.heap [] := va_S.rf
  have hl := lv_entry ([.ref a, .int 4] : List Value) (n := 2) (Nat.le_of_ble_eq_true rfl)
  rw [lg_entry_eq]
  generalize (lg_sl ([.ref a, .int 4]) ++ List.replicate (2 - (lg_sl ([.ref a, .int 4])).length) Slot.unset).toArray = ls at hl ⊢
  have hl : lv_has ls 2 [(0, .ref a), (1, .int 4)] := hl
  refine lv_iload_n hx hb dX6_isOfKind_0 rfl (lv_at hl 1 rfl) ?_
  refine lv_tableIn (off := 60) (tgt := 61) hx hb dX6_isOfKind_1 (by decide) (by decide) (by decide) (by decide) ?_
  refine lv_aload_n hx hb dX6_isOfKind_61 rfl (lv_at hl 0 rfl) ?_
  refine va_instNo (C := RX5) hx hb hown (hts (Cond.classLink RX6 214 "JamDays$Gold") (List.mem_of_getElem? (i := 4) rfl)) (hT.2.2.2 ("JamDays$Weak", "JamDays$Gold") (by decide)) (va_recv hK hPr (ci := 5) (q0 := 0) rfl rfl) dX6_isOfKind_62 ?_
  exact W.zret (v := 0) hx hb hr (by decide) (fun t ht hW => ⟨⟨0, (), rfl, rfl, trivial⟩, hS.F ht⟩) hS.2.2 dX6_isOfKind_65

set_option maxHeartbeats 4000000 in
set_option maxRecDepth 100000 in
theorem c_as_no (l : Launch) (D : va_G) (cI cJ : ClassId) (x : Nat) (xj : Nat) (n : Nat) (a0 : Value) (a1 : Value) (a4 : Value) (a5 : Value) (a6 : Value) (a7 : Value) (a8 : Value) (a9 : Value) (a10 : Value) (a11 : Value) (jr : Nat → Option Nat) (p0 : Int32) (kd : Int32) (h9 : p0 < 0 ∨ nI n ≤ p0) : jRi l yX6_as wsX6_as ({ frames := 1, cells := 0, slots := 0, locals := 21 }) [.ref x, .int p0, .int kd] D cI cJ (fun H => va_P D vwCl [(x, .inr (6, [a0, a1, .ref xj, .int (nI n), a4, a5, a6, a7, a8, a9, a10, a11])), (xj, .inl (cJ, 6, .inr (.inr (.inr (.inr jr)))))] H) (fun r => r = -101) := by
  intro sz
  refine Met.ofW (cc := cX6_as) (maxL := 4) (ret := (some .int)) (by decide) rfl ?_
  intro p e s m args below meth c s₁ B hml hv
  obtain ⟨rfl, hsz, hT, hPr⟩ := hv
  have hK := hT.1
  have hx := B.exec
  have hb := B.bytes
  have hr := B.returns
  have hts := atoms_spec (ws := wsX6_as) B.pre
  have hown : s.vm.findClass RX6 = some m.cls := findClass_of_methodNamed B.named
  have hlocks := B.notSynchronized
  subst hsz
  generalize hAe : va_A [] s.heap.size = A
  have hA : ∀ q : Nat, s.heap.size ≤ q → A q := fun q h => by rw [← hAe]; exact Or.inr h
  have hS : va_S A s.heap s.heap [] := va_S.rf
  have hl := lv_entry ([.ref x, .int p0, .int kd] : List Value) (n := 4) (Nat.le_of_ble_eq_true rfl)
  rw [lg_entry_eq]
  generalize (lg_sl ([.ref x, .int p0, .int kd]) ++ List.replicate (4 - (lg_sl ([.ref x, .int p0, .int kd])).length) Slot.unset).toArray = ls at hl ⊢
  have hl : lv_has ls 4 [(0, .ref x), (1, .int p0), (2, .int kd)] := hl
  refine lv_aload_n hx hb dX6_as_0 rfl (lv_at hl 0 rfl) ?_
  refine lv_iload_n hx hb dX6_as_1 rfl (lv_at hl 1 rfl) ?_
  have hPc_1 := hPr.sub (ws' := [(x, .inr (6, [a0, a1, .ref xj, .int (nI n), a4, a5, a6, a7, a8, a9, a10, a11])), (xj, .inl (cJ, 6, .inr (.inr (.inr (.inr jr)))))]) [0, 1] rfl
  refine jcallq (va_runV (As := [.int p0]) (rest := []) ⟨hx, hb, hml, hown, hts⟩ (c_find_no l D cI cJ x xj n a0 a1 a4 a5 a6 a7 a8 a9 a10 a11 jr p0 h9 s.heap.size) (cwV 1 hts gX6_as_X6_find rfl rfl rfl (by decide +kernel) ⟨Nat.le_of_ble_eq_true rfl, Nat.le_of_ble_eq_true rfl⟩) (jpreV hT (va_recv hK hPr (ci := 6) (q0 := 0) rfl rfl) hPc_1) rfl rfl hl.1 rfl (lv_room (Nat.le_of_ble_eq_true rfl)) dX6_as_2 ⟨(Nat.zero_le _), (Nat.zero_le _)⟩) hS hA (fun r_2 H locs hw_r_2 hkq hS => ?_)
  try dsimp only at hw_r_2
  have hPr := jkeep hPr hkq
  subst hw_r_2
  try dsimp only [va_rf]
  refine lv_astore_nN (lv' := [(3, .null), (0, .ref x), (1, .int p0), (2, .int kd)]) hx hb dX6_as_5 rfl hl (by decide) rfl (fun ls hl => ?_)
  refine lv_aload_nN hx hb dX6_as_6 rfl (lv_at hl 0 rfl) ?_
  refine lv_ifnonnullN hx hb dX6_as_7 ?_
  refine lv_bipush (v := (-101)) hx hb dX6_as_10 (by decide) ?_
  exact W.iret (v := (-101)) hx hb hr (fun t ht hW => ⟨⟨(-101), (), rfl, rfl, trivial⟩, hS.F ht⟩) hS.2.2 dX6_as_12

set_option maxHeartbeats 4000000 in
set_option maxRecDepth 100000 in
theorem c_as_out (l : Launch) (D : va_G) (cI cJ : ClassId) (x : Nat) (xj : Nat) (n : Nat) (a0 : Value) (a1 : Value) (a4 : Value) (a5 : Value) (a6 : Value) (a7 : Value) (a8 : Value) (a9 : Value) (a10 : Value) (a11 : Value) (jr : Nat → Option Nat) (jk : Nat → Nat) (jg : Nat → Int32) (js : Nat → Int32) (jm : Nat → Int32) (j : Nat) (kd : Int32) (hj : j < n) (hn6 : n ≤ 6) (h8 : kd < 0 ∨ 4 < kd) : jRi l yX6_as wsX6_as ({ frames := 1, cells := 0, slots := 0, locals := 21 }) [.ref x, .int (nI j), .int kd] D cI cJ (fun H => va_P D vwCl [(x, .inr (6, [a0, a1, .ref xj, .int (nI n), a4, a5, a6, a7, a8, a9, a10, a11])), (xj, .inl (cJ, 6, .inr (.inr (.inr (.inr jr)))))] H ∧ jJ D n jr jk jg js jm H) (fun r => r = -102) := by
  intro sz
  refine Met.ofW (cc := cX6_as) (maxL := 4) (ret := (some .int)) (by decide) rfl ?_
  intro p e s m args below meth c s₁ B hml hv
  obtain ⟨rfl, hsz, hT, ⟨hPr, hJ⟩⟩ := hv
  have hK := hT.1
  have hx := B.exec
  have hb := B.bytes
  have hr := B.returns
  have hts := atoms_spec (ws := wsX6_as) B.pre
  have hown : s.vm.findClass RX6 = some m.cls := findClass_of_methodNamed B.named
  have hlocks := B.notSynchronized
  subst hsz
  generalize hAe : va_A [] s.heap.size = A
  have hA : ∀ q : Nat, s.heap.size ≤ q → A q := fun q h => by rw [← hAe]; exact Or.inr h
  have hS : va_S A s.heap s.heap [] := va_S.rf
  have hl := lv_entry ([.ref x, .int (nI j), .int kd] : List Value) (n := 4) (Nat.le_of_ble_eq_true rfl)
  rw [lg_entry_eq]
  generalize (lg_sl ([.ref x, .int (nI j), .int kd]) ++ List.replicate (4 - (lg_sl ([.ref x, .int (nI j), .int kd])).length) Slot.unset).toArray = ls at hl ⊢
  have hl : lv_has ls 4 [(0, .ref x), (1, .int (nI j)), (2, .int kd)] := hl
  refine lv_aload_n hx hb dX6_as_0 rfl (lv_at hl 0 rfl) ?_
  refine lv_iload_n hx hb dX6_as_1 rfl (lv_at hl 1 rfl) ?_
  have hPc_1 := hPr.sub (ws' := [(x, .inr (6, [a0, a1, .ref xj, .int (nI n), a4, a5, a6, a7, a8, a9, a10, a11])), (xj, .inl (cJ, 6, .inr (.inr (.inr (.inr jr)))))]) [0, 1] rfl
  refine jcallq (va_runV (As := [.int (nI j)]) (rest := []) ⟨hx, hb, hml, hown, hts⟩ (c_find_ok l D cI cJ x xj n a0 a1 a4 a5 a6 a7 a8 a9 a10 a11 jr j (by omega) (by omega) s.heap.size) (cwV 1 hts gX6_as_X6_find rfl rfl rfl (by decide +kernel) ⟨Nat.le_of_ble_eq_true rfl, Nat.le_of_ble_eq_true rfl⟩) (jpreV hT (va_recv hK hPr (ci := 6) (q0 := 0) rfl rfl) hPc_1) rfl rfl hl.1 rfl (lv_room (Nat.le_of_ble_eq_true rfl)) dX6_as_2 ⟨(Nat.zero_le _), (Nat.zero_le _)⟩) hS hA (fun r_2 H locs hw_r_2 hkq hS => ?_)
  try dsimp only at hw_r_2
  have hPr := jkeep hPr hkq
  have hJ := hJ.kept hkq
  obtain ⟨hk5, a, ea9, hat⟩ := hJ j (by omega)
  rw [ea9] at hw_r_2
  subst hw_r_2
  try dsimp only [va_rf]
  refine lv_astore_n (lv' := [(3, .ref a), (0, .ref x), (1, .int (nI j)), (2, .int kd)]) hx hb dX6_as_5 rfl hl (by decide) rfl (fun ls hl => ?_)
  refine lv_aload_n hx hb dX6_as_6 rfl (lv_at hl 0 rfl) ?_
  refine lv_ifnonnull (tgt := 13) hx hb dX6_as_7 (by decide) ?_
  refine lv_iload_n hx hb dX6_as_13 rfl (lv_at hl 3 rfl) ?_
  refine lv_if_lt (tgt := 22) hx hb dX6_as_14 (by decide) (fun c_3 => ?_) (fun c_3 => ?_)
  · skip
    refine lv_bipush (v := (-102)) hx hb dX6_as_22 (by decide) ?_
    exact W.iret (v := (-102)) hx hb hr (fun t ht hW => ⟨⟨(-102), (), rfl, rfl, trivial⟩, hS.F ht⟩) hS.2.2 dX6_as_24
  · skip
    refine lv_iload_n hx hb dX6_as_17 rfl (lv_at hl 3 rfl) ?_
    refine lv_iconst (v := 4) hx hb dX6_as_18 (by decide) ?_
    refine lv_icmp_le (tgt := 25) hx hb dX6_as_19 (by decide) (fun c_4 => ?_) (fun c_4 => ?_)
    · skip
      exact (h8.elim (fun h => c_3 h) (fun h => jlt_le h c_4)).elim
    · skip
      refine lv_bipush (v := (-102)) hx hb dX6_as_22 (by decide) ?_
      exact W.iret (v := (-102)) hx hb hr (fun t ht hW => ⟨⟨(-102), (), rfl, rfl, trivial⟩, hS.F ht⟩) hS.2.2 dX6_as_24

set_option maxHeartbeats 4000000 in
set_option maxRecDepth 100000 in
theorem c_as_ok (l : Launch) (D : va_G) (cI cJ : ClassId) (x : Nat) (xj : Nat) (n : Nat) (a0 : Value) (a1 : Value) (a4 : Value) (a5 : Value) (a6 : Value) (a7 : Value) (a8 : Value) (a9 : Value) (a10 : Value) (a11 : Value) (jr : Nat → Option Nat) (jk : Nat → Nat) (jg : Nat → Int32) (js : Nat → Int32) (jm : Nat → Int32) (j : Nat) (cq : Nat) (hj : j < n) (hn6 : n ≤ 6) (hc : cq < 5) : jRi l yX6_as wsX6_as ({ frames := 1, cells := 0, slots := 0, locals := 21 }) [.ref x, .int (nI j), .int (nI cq)] D cI cJ (fun H => va_P D vwCl [(x, .inr (6, [a0, a1, .ref xj, .int (nI n), a4, a5, a6, a7, a8, a9, a10, a11])), (xj, .inl (cJ, 6, .inr (.inr (.inr (.inr jr)))))] H ∧ jJ D n jr jk jg js jm H) (fun r => r = jas (jk j) cq j) := by
  intro sz
  refine Met.ofW (cc := cX6_as) (maxL := 4) (ret := (some .int)) (by decide) rfl ?_
  intro p e s m args below meth c s₁ B hml hv
  obtain ⟨rfl, hsz, hT, ⟨hPr, hJ⟩⟩ := hv
  have hK := hT.1
  have hx := B.exec
  have hb := B.bytes
  have hr := B.returns
  have hts := atoms_spec (ws := wsX6_as) B.pre
  have hown : s.vm.findClass RX6 = some m.cls := findClass_of_methodNamed B.named
  have hlocks := B.notSynchronized
  subst hsz
  generalize hAe : va_A [] s.heap.size = A
  have hA : ∀ q : Nat, s.heap.size ≤ q → A q := fun q h => by rw [← hAe]; exact Or.inr h
  have hS : va_S A s.heap s.heap [] := va_S.rf
  have hl := lv_entry ([.ref x, .int (nI j), .int (nI cq)] : List Value) (n := 4) (Nat.le_of_ble_eq_true rfl)
  rw [lg_entry_eq]
  generalize (lg_sl ([.ref x, .int (nI j), .int (nI cq)]) ++ List.replicate (4 - (lg_sl ([.ref x, .int (nI j), .int (nI cq)])).length) Slot.unset).toArray = ls at hl ⊢
  have hl : lv_has ls 4 [(0, .ref x), (1, .int (nI j)), (2, .int (nI cq))] := hl
  rcases (show cq = 0 ∨ cq = 1 ∨ cq = 2 ∨ cq = 3 ∨ cq = 4 from by omega) with rfl | rfl | rfl | rfl | rfl
  · skip
    have hl : lv_has ls 4 [(0, .ref x), (1, .int (nI j)), (2, .int 0)] := hl
    refine lv_aload_n hx hb dX6_as_0 rfl (lv_at hl 0 rfl) ?_
    refine lv_iload_n hx hb dX6_as_1 rfl (lv_at hl 1 rfl) ?_
    have hPc_1 := hPr.sub (ws' := [(x, .inr (6, [a0, a1, .ref xj, .int (nI n), a4, a5, a6, a7, a8, a9, a10, a11])), (xj, .inl (cJ, 6, .inr (.inr (.inr (.inr jr)))))]) [0, 1] rfl
    refine jcallq (va_runV (As := [.int (nI j)]) (rest := []) ⟨hx, hb, hml, hown, hts⟩ (c_find_ok l D cI cJ x xj n a0 a1 a4 a5 a6 a7 a8 a9 a10 a11 jr j (by omega) (by omega) s.heap.size) (cwV 1 hts gX6_as_X6_find rfl rfl rfl (by decide +kernel) ⟨Nat.le_of_ble_eq_true rfl, Nat.le_of_ble_eq_true rfl⟩) (jpreV hT (va_recv hK hPr (ci := 6) (q0 := 0) rfl rfl) hPc_1) rfl rfl hl.1 rfl (lv_room (Nat.le_of_ble_eq_true rfl)) dX6_as_2 ⟨(Nat.zero_le _), (Nat.zero_le _)⟩) hS hA (fun r_2 H locs hw_r_2 hkq hS => ?_)
    try dsimp only at hw_r_2
    have hPr := jkeep hPr hkq
    have hJ := hJ.kept hkq
    obtain ⟨hk5, a, ea9, hat⟩ := hJ j (by omega)
    rw [ea9] at hw_r_2
    subst hw_r_2
    try dsimp only [va_rf]
    refine lv_astore_n (lv' := [(3, .ref a), (0, .ref x), (1, .int (nI j)), (2, .int 0)]) hx hb dX6_as_5 rfl hl (by decide) rfl (fun ls hl => ?_)
    refine lv_aload_n hx hb dX6_as_6 rfl (lv_at hl 0 rfl) ?_
    refine lv_ifnonnull (tgt := 13) hx hb dX6_as_7 (by decide) ?_
    refine lv_iload_n hx hb dX6_as_13 rfl (lv_at hl 3 rfl) ?_
    refine lv_if_lt (tgt := 22) hx hb dX6_as_14 (by decide) (fun c_3 => ?_) (fun c_3 => ?_)
    · skip
      exact absurd c_3 (by decide)
    · skip
      refine lv_iload_n hx hb dX6_as_17 rfl (lv_at hl 3 rfl) ?_
      refine lv_iconst (v := 4) hx hb dX6_as_18 (by decide) ?_
      refine lv_icmp_le (tgt := 25) hx hb dX6_as_19 (by decide) (fun c_4 => ?_) (fun c_4 => ?_)
      · skip
        rcases hk5 with hk5 | hk5 | hk5 | hk5 | hk5
        · skip
          rw [hk5] at hat
          have hPj := jone hat
          refine lv_aload_n hx hb dX6_as_25 rfl (lv_at hl 0 rfl) ?_
          refine lv_iload_n hx hb dX6_as_26 rfl (lv_at hl 3 rfl) ?_
          have hPc_5 := hPj.sub (ws' := [(a, .inr (0, [.int (jg j), .int (js j), .int (jm j)]))]) [0] rfl
          refine jcalli (va_runS (As := [.ref a, .int 0]) (rest := []) ⟨hx, hb, hml, hown, hts⟩ (c_isOfKind_0_0 l D cI cJ a (.int (jg j)) (.int (js j)) (.int (jm j)) H.size) (va_cwS 2 hts gX6_as_X6_isOfKind rfl rfl rfl (by decide +kernel) ⟨Nat.le_of_ble_eq_true rfl, Nat.le_of_ble_eq_true rfl⟩) (jpreS hT hPc_5) rfl rfl hl.1 rfl (lv_room (Nat.le_of_ble_eq_true rfl)) dX6_as_27 ⟨(Nat.zero_le _), (Nat.zero_le _)⟩) hS hA (fun r_6 H locs hw_r_6 hkq hS => ?_)
          try dsimp only at hw_r_6
          have hPr := jkeep hPr hkq
          have hPj := jkeep hPj hkq
          have hJ := hJ.kept hkq
          subst hw_r_6
          refine lv_if_eq (tgt := 37) hx hb dX6_as_30 (by decide) (fun c_7 => ?_) (fun c_7 => ?_)
          · skip
            exact absurd c_7 (by decide)
          · skip
            refine lv_iload_n hx hb dX6_as_33 rfl (lv_at hl 2 rfl) ?_
            refine lv_goto (tgt := 38) hx hb dX6_as_34 (by decide) ?_
            exact W.iret (v := nI j) hx hb hr (fun t ht hW => ⟨⟨nI j, (), rfl, (by rw [hk5]; rfl), trivial⟩, hS.F ht⟩) hS.2.2 dX6_as_38
        · skip
          rw [hk5] at hat
          have hPj := jone hat
          refine lv_aload_n hx hb dX6_as_25 rfl (lv_at hl 0 rfl) ?_
          refine lv_iload_n hx hb dX6_as_26 rfl (lv_at hl 3 rfl) ?_
          have hPc_8 := hPj.sub (ws' := [(a, .inr (2, [.int (jg j), .int (js j), .int (jm j)]))]) [0] rfl
          refine jcalli (va_runS (As := [.ref a, .int 0]) (rest := []) ⟨hx, hb, hml, hown, hts⟩ (c_isOfKind_2_0 l D cI cJ a (.int (jg j)) (.int (js j)) (.int (jm j)) H.size) (va_cwS 2 hts gX6_as_X6_isOfKind rfl rfl rfl (by decide +kernel) ⟨Nat.le_of_ble_eq_true rfl, Nat.le_of_ble_eq_true rfl⟩) (jpreS hT hPc_8) rfl rfl hl.1 rfl (lv_room (Nat.le_of_ble_eq_true rfl)) dX6_as_27 ⟨(Nat.zero_le _), (Nat.zero_le _)⟩) hS hA (fun r_9 H locs hw_r_9 hkq hS => ?_)
          try dsimp only at hw_r_9
          have hPr := jkeep hPr hkq
          have hPj := jkeep hPj hkq
          have hJ := hJ.kept hkq
          subst hw_r_9
          refine lv_if_eq (tgt := 37) hx hb dX6_as_30 (by decide) (fun c_10 => ?_) (fun c_10 => ?_)
          · skip
            exact absurd c_10 (by decide)
          · skip
            refine lv_iload_n hx hb dX6_as_33 rfl (lv_at hl 2 rfl) ?_
            refine lv_goto (tgt := 38) hx hb dX6_as_34 (by decide) ?_
            exact W.iret (v := nI j) hx hb hr (fun t ht hW => ⟨⟨nI j, (), rfl, (by rw [hk5]; rfl), trivial⟩, hS.F ht⟩) hS.2.2 dX6_as_38
        · skip
          rw [hk5] at hat
          have hPj := jone hat
          refine lv_aload_n hx hb dX6_as_25 rfl (lv_at hl 0 rfl) ?_
          refine lv_iload_n hx hb dX6_as_26 rfl (lv_at hl 3 rfl) ?_
          have hPc_11 := hPj.sub (ws' := [(a, .inr (3, [.int (jg j), .int (js j), .int (jm j)]))]) [0] rfl
          refine jcalli (va_runS (As := [.ref a, .int 0]) (rest := []) ⟨hx, hb, hml, hown, hts⟩ (c_isOfKind_3_0 l D cI cJ a (.int (jg j)) (.int (js j)) (.int (jm j)) H.size) (va_cwS 2 hts gX6_as_X6_isOfKind rfl rfl rfl (by decide +kernel) ⟨Nat.le_of_ble_eq_true rfl, Nat.le_of_ble_eq_true rfl⟩) (jpreS hT hPc_11) rfl rfl hl.1 rfl (lv_room (Nat.le_of_ble_eq_true rfl)) dX6_as_27 ⟨(Nat.zero_le _), (Nat.zero_le _)⟩) hS hA (fun r_12 H locs hw_r_12 hkq hS => ?_)
          try dsimp only at hw_r_12
          have hPr := jkeep hPr hkq
          have hPj := jkeep hPj hkq
          have hJ := hJ.kept hkq
          subst hw_r_12
          refine lv_if_eq (tgt := 37) hx hb dX6_as_30 (by decide) (fun c_13 => ?_) (fun c_13 => ?_)
          · skip
            exact absurd c_13 (by decide)
          · skip
            refine lv_iload_n hx hb dX6_as_33 rfl (lv_at hl 2 rfl) ?_
            refine lv_goto (tgt := 38) hx hb dX6_as_34 (by decide) ?_
            exact W.iret (v := nI j) hx hb hr (fun t ht hW => ⟨⟨nI j, (), rfl, (by rw [hk5]; rfl), trivial⟩, hS.F ht⟩) hS.2.2 dX6_as_38
        · skip
          rw [hk5] at hat
          have hPj := jone hat
          refine lv_aload_n hx hb dX6_as_25 rfl (lv_at hl 0 rfl) ?_
          refine lv_iload_n hx hb dX6_as_26 rfl (lv_at hl 3 rfl) ?_
          have hPc_14 := hPj.sub (ws' := [(a, .inr (4, [.int (jg j), .int (js j), .int (jm j)]))]) [0] rfl
          refine jcalli (va_runS (As := [.ref a, .int 0]) (rest := []) ⟨hx, hb, hml, hown, hts⟩ (c_isOfKind_4_0 l D cI cJ a (.int (jg j)) (.int (js j)) (.int (jm j)) H.size) (va_cwS 2 hts gX6_as_X6_isOfKind rfl rfl rfl (by decide +kernel) ⟨Nat.le_of_ble_eq_true rfl, Nat.le_of_ble_eq_true rfl⟩) (jpreS hT hPc_14) rfl rfl hl.1 rfl (lv_room (Nat.le_of_ble_eq_true rfl)) dX6_as_27 ⟨(Nat.zero_le _), (Nat.zero_le _)⟩) hS hA (fun r_15 H locs hw_r_15 hkq hS => ?_)
          try dsimp only at hw_r_15
          have hPr := jkeep hPr hkq
          have hPj := jkeep hPj hkq
          have hJ := hJ.kept hkq
          subst hw_r_15
          refine lv_if_eq (tgt := 37) hx hb dX6_as_30 (by decide) (fun c_16 => ?_) (fun c_16 => ?_)
          · skip
            exact absurd c_16 (by decide)
          · skip
            refine lv_iload_n hx hb dX6_as_33 rfl (lv_at hl 2 rfl) ?_
            refine lv_goto (tgt := 38) hx hb dX6_as_34 (by decide) ?_
            exact W.iret (v := nI j) hx hb hr (fun t ht hW => ⟨⟨nI j, (), rfl, (by rw [hk5]; rfl), trivial⟩, hS.F ht⟩) hS.2.2 dX6_as_38
        · skip
          rw [hk5] at hat
          have hPj := jone hat
          refine lv_aload_n hx hb dX6_as_25 rfl (lv_at hl 0 rfl) ?_
          refine lv_iload_n hx hb dX6_as_26 rfl (lv_at hl 3 rfl) ?_
          have hPc_17 := hPj.sub (ws' := [(a, .inr (5, [.int (jg j), .int (js j), .int (jm j)]))]) [0] rfl
          refine jcalli (va_runS (As := [.ref a, .int 0]) (rest := []) ⟨hx, hb, hml, hown, hts⟩ (c_isOfKind_5_0 l D cI cJ a (.int (jg j)) (.int (js j)) (.int (jm j)) H.size) (va_cwS 2 hts gX6_as_X6_isOfKind rfl rfl rfl (by decide +kernel) ⟨Nat.le_of_ble_eq_true rfl, Nat.le_of_ble_eq_true rfl⟩) (jpreS hT hPc_17) rfl rfl hl.1 rfl (lv_room (Nat.le_of_ble_eq_true rfl)) dX6_as_27 ⟨(Nat.zero_le _), (Nat.zero_le _)⟩) hS hA (fun r_18 H locs hw_r_18 hkq hS => ?_)
          try dsimp only at hw_r_18
          have hPr := jkeep hPr hkq
          have hPj := jkeep hPj hkq
          have hJ := hJ.kept hkq
          subst hw_r_18
          refine lv_if_eq (tgt := 37) hx hb dX6_as_30 (by decide) (fun c_19 => ?_) (fun c_19 => ?_)
          · skip
            exact absurd c_19 (by decide)
          · skip
            refine lv_iload_n hx hb dX6_as_33 rfl (lv_at hl 2 rfl) ?_
            refine lv_goto (tgt := 38) hx hb dX6_as_34 (by decide) ?_
            exact W.iret (v := nI j) hx hb hr (fun t ht hW => ⟨⟨nI j, (), rfl, (by rw [hk5]; rfl), trivial⟩, hS.F ht⟩) hS.2.2 dX6_as_38
      · skip
        exact absurd c_4 (by decide)
  · skip
    have hl : lv_has ls 4 [(0, .ref x), (1, .int (nI j)), (2, .int 1)] := hl
    refine lv_aload_n hx hb dX6_as_0 rfl (lv_at hl 0 rfl) ?_
    refine lv_iload_n hx hb dX6_as_1 rfl (lv_at hl 1 rfl) ?_
    have hPc_20 := hPr.sub (ws' := [(x, .inr (6, [a0, a1, .ref xj, .int (nI n), a4, a5, a6, a7, a8, a9, a10, a11])), (xj, .inl (cJ, 6, .inr (.inr (.inr (.inr jr)))))]) [0, 1] rfl
    refine jcallq (va_runV (As := [.int (nI j)]) (rest := []) ⟨hx, hb, hml, hown, hts⟩ (c_find_ok l D cI cJ x xj n a0 a1 a4 a5 a6 a7 a8 a9 a10 a11 jr j (by omega) (by omega) s.heap.size) (cwV 1 hts gX6_as_X6_find rfl rfl rfl (by decide +kernel) ⟨Nat.le_of_ble_eq_true rfl, Nat.le_of_ble_eq_true rfl⟩) (jpreV hT (va_recv hK hPr (ci := 6) (q0 := 0) rfl rfl) hPc_20) rfl rfl hl.1 rfl (lv_room (Nat.le_of_ble_eq_true rfl)) dX6_as_2 ⟨(Nat.zero_le _), (Nat.zero_le _)⟩) hS hA (fun r_21 H locs hw_r_21 hkq hS => ?_)
    try dsimp only at hw_r_21
    have hPr := jkeep hPr hkq
    have hJ := hJ.kept hkq
    obtain ⟨hk5, a, ea9, hat⟩ := hJ j (by omega)
    rw [ea9] at hw_r_21
    subst hw_r_21
    try dsimp only [va_rf]
    refine lv_astore_n (lv' := [(3, .ref a), (0, .ref x), (1, .int (nI j)), (2, .int 1)]) hx hb dX6_as_5 rfl hl (by decide) rfl (fun ls hl => ?_)
    refine lv_aload_n hx hb dX6_as_6 rfl (lv_at hl 0 rfl) ?_
    refine lv_ifnonnull (tgt := 13) hx hb dX6_as_7 (by decide) ?_
    refine lv_iload_n hx hb dX6_as_13 rfl (lv_at hl 3 rfl) ?_
    refine lv_if_lt (tgt := 22) hx hb dX6_as_14 (by decide) (fun c_22 => ?_) (fun c_22 => ?_)
    · skip
      exact absurd c_22 (by decide)
    · skip
      refine lv_iload_n hx hb dX6_as_17 rfl (lv_at hl 3 rfl) ?_
      refine lv_iconst (v := 4) hx hb dX6_as_18 (by decide) ?_
      refine lv_icmp_le (tgt := 25) hx hb dX6_as_19 (by decide) (fun c_23 => ?_) (fun c_23 => ?_)
      · skip
        rcases hk5 with hk5 | hk5 | hk5 | hk5 | hk5
        · skip
          rw [hk5] at hat
          have hPj := jone hat
          refine lv_aload_n hx hb dX6_as_25 rfl (lv_at hl 0 rfl) ?_
          refine lv_iload_n hx hb dX6_as_26 rfl (lv_at hl 3 rfl) ?_
          have hPc_24 := hPj.sub (ws' := [(a, .inr (0, [.int (jg j), .int (js j), .int (jm j)]))]) [0] rfl
          refine jcalli (va_runS (As := [.ref a, .int 1]) (rest := []) ⟨hx, hb, hml, hown, hts⟩ (c_isOfKind_0_1 l D cI cJ a (.int (jg j)) (.int (js j)) (.int (jm j)) H.size) (va_cwS 2 hts gX6_as_X6_isOfKind rfl rfl rfl (by decide +kernel) ⟨Nat.le_of_ble_eq_true rfl, Nat.le_of_ble_eq_true rfl⟩) (jpreS hT hPc_24) rfl rfl hl.1 rfl (lv_room (Nat.le_of_ble_eq_true rfl)) dX6_as_27 ⟨(Nat.zero_le _), (Nat.zero_le _)⟩) hS hA (fun r_25 H locs hw_r_25 hkq hS => ?_)
          try dsimp only at hw_r_25
          have hPr := jkeep hPr hkq
          have hPj := jkeep hPj hkq
          have hJ := hJ.kept hkq
          subst hw_r_25
          refine lv_if_eq (tgt := 37) hx hb dX6_as_30 (by decide) (fun c_26 => ?_) (fun c_26 => ?_)
          · skip
            refine lv_iconst (v := (-1)) hx hb dX6_as_37 (by decide) ?_
            exact W.iret (v := (-1)) hx hb hr (fun t ht hW => ⟨⟨(-1), (), rfl, (by rw [hk5]; rfl), trivial⟩, hS.F ht⟩) hS.2.2 dX6_as_38
          · skip
            exact absurd c_26 (by decide)
        · skip
          rw [hk5] at hat
          have hPj := jone hat
          refine lv_aload_n hx hb dX6_as_25 rfl (lv_at hl 0 rfl) ?_
          refine lv_iload_n hx hb dX6_as_26 rfl (lv_at hl 3 rfl) ?_
          have hPc_27 := hPj.sub (ws' := [(a, .inr (2, [.int (jg j), .int (js j), .int (jm j)]))]) [0] rfl
          refine jcalli (va_runS (As := [.ref a, .int 1]) (rest := []) ⟨hx, hb, hml, hown, hts⟩ (c_isOfKind_2_1 l D cI cJ a (.int (jg j)) (.int (js j)) (.int (jm j)) H.size) (va_cwS 2 hts gX6_as_X6_isOfKind rfl rfl rfl (by decide +kernel) ⟨Nat.le_of_ble_eq_true rfl, Nat.le_of_ble_eq_true rfl⟩) (jpreS hT hPc_27) rfl rfl hl.1 rfl (lv_room (Nat.le_of_ble_eq_true rfl)) dX6_as_27 ⟨(Nat.zero_le _), (Nat.zero_le _)⟩) hS hA (fun r_28 H locs hw_r_28 hkq hS => ?_)
          try dsimp only at hw_r_28
          have hPr := jkeep hPr hkq
          have hPj := jkeep hPj hkq
          have hJ := hJ.kept hkq
          subst hw_r_28
          refine lv_if_eq (tgt := 37) hx hb dX6_as_30 (by decide) (fun c_29 => ?_) (fun c_29 => ?_)
          · skip
            refine lv_iconst (v := (-1)) hx hb dX6_as_37 (by decide) ?_
            exact W.iret (v := (-1)) hx hb hr (fun t ht hW => ⟨⟨(-1), (), rfl, (by rw [hk5]; rfl), trivial⟩, hS.F ht⟩) hS.2.2 dX6_as_38
          · skip
            exact absurd c_29 (by decide)
        · skip
          rw [hk5] at hat
          have hPj := jone hat
          refine lv_aload_n hx hb dX6_as_25 rfl (lv_at hl 0 rfl) ?_
          refine lv_iload_n hx hb dX6_as_26 rfl (lv_at hl 3 rfl) ?_
          have hPc_30 := hPj.sub (ws' := [(a, .inr (3, [.int (jg j), .int (js j), .int (jm j)]))]) [0] rfl
          refine jcalli (va_runS (As := [.ref a, .int 1]) (rest := []) ⟨hx, hb, hml, hown, hts⟩ (c_isOfKind_3_1 l D cI cJ a (.int (jg j)) (.int (js j)) (.int (jm j)) H.size) (va_cwS 2 hts gX6_as_X6_isOfKind rfl rfl rfl (by decide +kernel) ⟨Nat.le_of_ble_eq_true rfl, Nat.le_of_ble_eq_true rfl⟩) (jpreS hT hPc_30) rfl rfl hl.1 rfl (lv_room (Nat.le_of_ble_eq_true rfl)) dX6_as_27 ⟨(Nat.zero_le _), (Nat.zero_le _)⟩) hS hA (fun r_31 H locs hw_r_31 hkq hS => ?_)
          try dsimp only at hw_r_31
          have hPr := jkeep hPr hkq
          have hPj := jkeep hPj hkq
          have hJ := hJ.kept hkq
          subst hw_r_31
          refine lv_if_eq (tgt := 37) hx hb dX6_as_30 (by decide) (fun c_32 => ?_) (fun c_32 => ?_)
          · skip
            refine lv_iconst (v := (-1)) hx hb dX6_as_37 (by decide) ?_
            exact W.iret (v := (-1)) hx hb hr (fun t ht hW => ⟨⟨(-1), (), rfl, (by rw [hk5]; rfl), trivial⟩, hS.F ht⟩) hS.2.2 dX6_as_38
          · skip
            exact absurd c_32 (by decide)
        · skip
          rw [hk5] at hat
          have hPj := jone hat
          refine lv_aload_n hx hb dX6_as_25 rfl (lv_at hl 0 rfl) ?_
          refine lv_iload_n hx hb dX6_as_26 rfl (lv_at hl 3 rfl) ?_
          have hPc_33 := hPj.sub (ws' := [(a, .inr (4, [.int (jg j), .int (js j), .int (jm j)]))]) [0] rfl
          refine jcalli (va_runS (As := [.ref a, .int 1]) (rest := []) ⟨hx, hb, hml, hown, hts⟩ (c_isOfKind_4_1 l D cI cJ a (.int (jg j)) (.int (js j)) (.int (jm j)) H.size) (va_cwS 2 hts gX6_as_X6_isOfKind rfl rfl rfl (by decide +kernel) ⟨Nat.le_of_ble_eq_true rfl, Nat.le_of_ble_eq_true rfl⟩) (jpreS hT hPc_33) rfl rfl hl.1 rfl (lv_room (Nat.le_of_ble_eq_true rfl)) dX6_as_27 ⟨(Nat.zero_le _), (Nat.zero_le _)⟩) hS hA (fun r_34 H locs hw_r_34 hkq hS => ?_)
          try dsimp only at hw_r_34
          have hPr := jkeep hPr hkq
          have hPj := jkeep hPj hkq
          have hJ := hJ.kept hkq
          subst hw_r_34
          refine lv_if_eq (tgt := 37) hx hb dX6_as_30 (by decide) (fun c_35 => ?_) (fun c_35 => ?_)
          · skip
            refine lv_iconst (v := (-1)) hx hb dX6_as_37 (by decide) ?_
            exact W.iret (v := (-1)) hx hb hr (fun t ht hW => ⟨⟨(-1), (), rfl, (by rw [hk5]; rfl), trivial⟩, hS.F ht⟩) hS.2.2 dX6_as_38
          · skip
            exact absurd c_35 (by decide)
        · skip
          rw [hk5] at hat
          have hPj := jone hat
          refine lv_aload_n hx hb dX6_as_25 rfl (lv_at hl 0 rfl) ?_
          refine lv_iload_n hx hb dX6_as_26 rfl (lv_at hl 3 rfl) ?_
          have hPc_36 := hPj.sub (ws' := [(a, .inr (5, [.int (jg j), .int (js j), .int (jm j)]))]) [0] rfl
          refine jcalli (va_runS (As := [.ref a, .int 1]) (rest := []) ⟨hx, hb, hml, hown, hts⟩ (c_isOfKind_5_1 l D cI cJ a (.int (jg j)) (.int (js j)) (.int (jm j)) H.size) (va_cwS 2 hts gX6_as_X6_isOfKind rfl rfl rfl (by decide +kernel) ⟨Nat.le_of_ble_eq_true rfl, Nat.le_of_ble_eq_true rfl⟩) (jpreS hT hPc_36) rfl rfl hl.1 rfl (lv_room (Nat.le_of_ble_eq_true rfl)) dX6_as_27 ⟨(Nat.zero_le _), (Nat.zero_le _)⟩) hS hA (fun r_37 H locs hw_r_37 hkq hS => ?_)
          try dsimp only at hw_r_37
          have hPr := jkeep hPr hkq
          have hPj := jkeep hPj hkq
          have hJ := hJ.kept hkq
          subst hw_r_37
          refine lv_if_eq (tgt := 37) hx hb dX6_as_30 (by decide) (fun c_38 => ?_) (fun c_38 => ?_)
          · skip
            exact absurd c_38 (by decide)
          · skip
            refine lv_iload_n hx hb dX6_as_33 rfl (lv_at hl 2 rfl) ?_
            refine lv_goto (tgt := 38) hx hb dX6_as_34 (by decide) ?_
            exact W.iret (v := nI j) hx hb hr (fun t ht hW => ⟨⟨nI j, (), rfl, (by rw [hk5]; rfl), trivial⟩, hS.F ht⟩) hS.2.2 dX6_as_38
      · skip
        exact absurd c_23 (by decide)
  · skip
    have hl : lv_has ls 4 [(0, .ref x), (1, .int (nI j)), (2, .int 2)] := hl
    refine lv_aload_n hx hb dX6_as_0 rfl (lv_at hl 0 rfl) ?_
    refine lv_iload_n hx hb dX6_as_1 rfl (lv_at hl 1 rfl) ?_
    have hPc_39 := hPr.sub (ws' := [(x, .inr (6, [a0, a1, .ref xj, .int (nI n), a4, a5, a6, a7, a8, a9, a10, a11])), (xj, .inl (cJ, 6, .inr (.inr (.inr (.inr jr)))))]) [0, 1] rfl
    refine jcallq (va_runV (As := [.int (nI j)]) (rest := []) ⟨hx, hb, hml, hown, hts⟩ (c_find_ok l D cI cJ x xj n a0 a1 a4 a5 a6 a7 a8 a9 a10 a11 jr j (by omega) (by omega) s.heap.size) (cwV 1 hts gX6_as_X6_find rfl rfl rfl (by decide +kernel) ⟨Nat.le_of_ble_eq_true rfl, Nat.le_of_ble_eq_true rfl⟩) (jpreV hT (va_recv hK hPr (ci := 6) (q0 := 0) rfl rfl) hPc_39) rfl rfl hl.1 rfl (lv_room (Nat.le_of_ble_eq_true rfl)) dX6_as_2 ⟨(Nat.zero_le _), (Nat.zero_le _)⟩) hS hA (fun r_40 H locs hw_r_40 hkq hS => ?_)
    try dsimp only at hw_r_40
    have hPr := jkeep hPr hkq
    have hJ := hJ.kept hkq
    obtain ⟨hk5, a, ea9, hat⟩ := hJ j (by omega)
    rw [ea9] at hw_r_40
    subst hw_r_40
    try dsimp only [va_rf]
    refine lv_astore_n (lv' := [(3, .ref a), (0, .ref x), (1, .int (nI j)), (2, .int 2)]) hx hb dX6_as_5 rfl hl (by decide) rfl (fun ls hl => ?_)
    refine lv_aload_n hx hb dX6_as_6 rfl (lv_at hl 0 rfl) ?_
    refine lv_ifnonnull (tgt := 13) hx hb dX6_as_7 (by decide) ?_
    refine lv_iload_n hx hb dX6_as_13 rfl (lv_at hl 3 rfl) ?_
    refine lv_if_lt (tgt := 22) hx hb dX6_as_14 (by decide) (fun c_41 => ?_) (fun c_41 => ?_)
    · skip
      exact absurd c_41 (by decide)
    · skip
      refine lv_iload_n hx hb dX6_as_17 rfl (lv_at hl 3 rfl) ?_
      refine lv_iconst (v := 4) hx hb dX6_as_18 (by decide) ?_
      refine lv_icmp_le (tgt := 25) hx hb dX6_as_19 (by decide) (fun c_42 => ?_) (fun c_42 => ?_)
      · skip
        rcases hk5 with hk5 | hk5 | hk5 | hk5 | hk5
        · skip
          rw [hk5] at hat
          have hPj := jone hat
          refine lv_aload_n hx hb dX6_as_25 rfl (lv_at hl 0 rfl) ?_
          refine lv_iload_n hx hb dX6_as_26 rfl (lv_at hl 3 rfl) ?_
          have hPc_43 := hPj.sub (ws' := [(a, .inr (0, [.int (jg j), .int (js j), .int (jm j)]))]) [0] rfl
          refine jcalli (va_runS (As := [.ref a, .int 2]) (rest := []) ⟨hx, hb, hml, hown, hts⟩ (c_isOfKind_0_2 l D cI cJ a (.int (jg j)) (.int (js j)) (.int (jm j)) H.size) (va_cwS 2 hts gX6_as_X6_isOfKind rfl rfl rfl (by decide +kernel) ⟨Nat.le_of_ble_eq_true rfl, Nat.le_of_ble_eq_true rfl⟩) (jpreS hT hPc_43) rfl rfl hl.1 rfl (lv_room (Nat.le_of_ble_eq_true rfl)) dX6_as_27 ⟨(Nat.zero_le _), (Nat.zero_le _)⟩) hS hA (fun r_44 H locs hw_r_44 hkq hS => ?_)
          try dsimp only at hw_r_44
          have hPr := jkeep hPr hkq
          have hPj := jkeep hPj hkq
          have hJ := hJ.kept hkq
          subst hw_r_44
          refine lv_if_eq (tgt := 37) hx hb dX6_as_30 (by decide) (fun c_45 => ?_) (fun c_45 => ?_)
          · skip
            exact absurd c_45 (by decide)
          · skip
            refine lv_iload_n hx hb dX6_as_33 rfl (lv_at hl 2 rfl) ?_
            refine lv_goto (tgt := 38) hx hb dX6_as_34 (by decide) ?_
            exact W.iret (v := nI j) hx hb hr (fun t ht hW => ⟨⟨nI j, (), rfl, (by rw [hk5]; rfl), trivial⟩, hS.F ht⟩) hS.2.2 dX6_as_38
        · skip
          rw [hk5] at hat
          have hPj := jone hat
          refine lv_aload_n hx hb dX6_as_25 rfl (lv_at hl 0 rfl) ?_
          refine lv_iload_n hx hb dX6_as_26 rfl (lv_at hl 3 rfl) ?_
          have hPc_46 := hPj.sub (ws' := [(a, .inr (2, [.int (jg j), .int (js j), .int (jm j)]))]) [0] rfl
          refine jcalli (va_runS (As := [.ref a, .int 2]) (rest := []) ⟨hx, hb, hml, hown, hts⟩ (c_isOfKind_2_2 l D cI cJ a (.int (jg j)) (.int (js j)) (.int (jm j)) H.size) (va_cwS 2 hts gX6_as_X6_isOfKind rfl rfl rfl (by decide +kernel) ⟨Nat.le_of_ble_eq_true rfl, Nat.le_of_ble_eq_true rfl⟩) (jpreS hT hPc_46) rfl rfl hl.1 rfl (lv_room (Nat.le_of_ble_eq_true rfl)) dX6_as_27 ⟨(Nat.zero_le _), (Nat.zero_le _)⟩) hS hA (fun r_47 H locs hw_r_47 hkq hS => ?_)
          try dsimp only at hw_r_47
          have hPr := jkeep hPr hkq
          have hPj := jkeep hPj hkq
          have hJ := hJ.kept hkq
          subst hw_r_47
          refine lv_if_eq (tgt := 37) hx hb dX6_as_30 (by decide) (fun c_48 => ?_) (fun c_48 => ?_)
          · skip
            exact absurd c_48 (by decide)
          · skip
            refine lv_iload_n hx hb dX6_as_33 rfl (lv_at hl 2 rfl) ?_
            refine lv_goto (tgt := 38) hx hb dX6_as_34 (by decide) ?_
            exact W.iret (v := nI j) hx hb hr (fun t ht hW => ⟨⟨nI j, (), rfl, (by rw [hk5]; rfl), trivial⟩, hS.F ht⟩) hS.2.2 dX6_as_38
        · skip
          rw [hk5] at hat
          have hPj := jone hat
          refine lv_aload_n hx hb dX6_as_25 rfl (lv_at hl 0 rfl) ?_
          refine lv_iload_n hx hb dX6_as_26 rfl (lv_at hl 3 rfl) ?_
          have hPc_49 := hPj.sub (ws' := [(a, .inr (3, [.int (jg j), .int (js j), .int (jm j)]))]) [0] rfl
          refine jcalli (va_runS (As := [.ref a, .int 2]) (rest := []) ⟨hx, hb, hml, hown, hts⟩ (c_isOfKind_3_2 l D cI cJ a (.int (jg j)) (.int (js j)) (.int (jm j)) H.size) (va_cwS 2 hts gX6_as_X6_isOfKind rfl rfl rfl (by decide +kernel) ⟨Nat.le_of_ble_eq_true rfl, Nat.le_of_ble_eq_true rfl⟩) (jpreS hT hPc_49) rfl rfl hl.1 rfl (lv_room (Nat.le_of_ble_eq_true rfl)) dX6_as_27 ⟨(Nat.zero_le _), (Nat.zero_le _)⟩) hS hA (fun r_50 H locs hw_r_50 hkq hS => ?_)
          try dsimp only at hw_r_50
          have hPr := jkeep hPr hkq
          have hPj := jkeep hPj hkq
          have hJ := hJ.kept hkq
          subst hw_r_50
          refine lv_if_eq (tgt := 37) hx hb dX6_as_30 (by decide) (fun c_51 => ?_) (fun c_51 => ?_)
          · skip
            refine lv_iconst (v := (-1)) hx hb dX6_as_37 (by decide) ?_
            exact W.iret (v := (-1)) hx hb hr (fun t ht hW => ⟨⟨(-1), (), rfl, (by rw [hk5]; rfl), trivial⟩, hS.F ht⟩) hS.2.2 dX6_as_38
          · skip
            exact absurd c_51 (by decide)
        · skip
          rw [hk5] at hat
          have hPj := jone hat
          refine lv_aload_n hx hb dX6_as_25 rfl (lv_at hl 0 rfl) ?_
          refine lv_iload_n hx hb dX6_as_26 rfl (lv_at hl 3 rfl) ?_
          have hPc_52 := hPj.sub (ws' := [(a, .inr (4, [.int (jg j), .int (js j), .int (jm j)]))]) [0] rfl
          refine jcalli (va_runS (As := [.ref a, .int 2]) (rest := []) ⟨hx, hb, hml, hown, hts⟩ (c_isOfKind_4_2 l D cI cJ a (.int (jg j)) (.int (js j)) (.int (jm j)) H.size) (va_cwS 2 hts gX6_as_X6_isOfKind rfl rfl rfl (by decide +kernel) ⟨Nat.le_of_ble_eq_true rfl, Nat.le_of_ble_eq_true rfl⟩) (jpreS hT hPc_52) rfl rfl hl.1 rfl (lv_room (Nat.le_of_ble_eq_true rfl)) dX6_as_27 ⟨(Nat.zero_le _), (Nat.zero_le _)⟩) hS hA (fun r_53 H locs hw_r_53 hkq hS => ?_)
          try dsimp only at hw_r_53
          have hPr := jkeep hPr hkq
          have hPj := jkeep hPj hkq
          have hJ := hJ.kept hkq
          subst hw_r_53
          refine lv_if_eq (tgt := 37) hx hb dX6_as_30 (by decide) (fun c_54 => ?_) (fun c_54 => ?_)
          · skip
            refine lv_iconst (v := (-1)) hx hb dX6_as_37 (by decide) ?_
            exact W.iret (v := (-1)) hx hb hr (fun t ht hW => ⟨⟨(-1), (), rfl, (by rw [hk5]; rfl), trivial⟩, hS.F ht⟩) hS.2.2 dX6_as_38
          · skip
            exact absurd c_54 (by decide)
        · skip
          rw [hk5] at hat
          have hPj := jone hat
          refine lv_aload_n hx hb dX6_as_25 rfl (lv_at hl 0 rfl) ?_
          refine lv_iload_n hx hb dX6_as_26 rfl (lv_at hl 3 rfl) ?_
          have hPc_55 := hPj.sub (ws' := [(a, .inr (5, [.int (jg j), .int (js j), .int (jm j)]))]) [0] rfl
          refine jcalli (va_runS (As := [.ref a, .int 2]) (rest := []) ⟨hx, hb, hml, hown, hts⟩ (c_isOfKind_5_2 l D cI cJ a (.int (jg j)) (.int (js j)) (.int (jm j)) H.size) (va_cwS 2 hts gX6_as_X6_isOfKind rfl rfl rfl (by decide +kernel) ⟨Nat.le_of_ble_eq_true rfl, Nat.le_of_ble_eq_true rfl⟩) (jpreS hT hPc_55) rfl rfl hl.1 rfl (lv_room (Nat.le_of_ble_eq_true rfl)) dX6_as_27 ⟨(Nat.zero_le _), (Nat.zero_le _)⟩) hS hA (fun r_56 H locs hw_r_56 hkq hS => ?_)
          try dsimp only at hw_r_56
          have hPr := jkeep hPr hkq
          have hPj := jkeep hPj hkq
          have hJ := hJ.kept hkq
          subst hw_r_56
          refine lv_if_eq (tgt := 37) hx hb dX6_as_30 (by decide) (fun c_57 => ?_) (fun c_57 => ?_)
          · skip
            refine lv_iconst (v := (-1)) hx hb dX6_as_37 (by decide) ?_
            exact W.iret (v := (-1)) hx hb hr (fun t ht hW => ⟨⟨(-1), (), rfl, (by rw [hk5]; rfl), trivial⟩, hS.F ht⟩) hS.2.2 dX6_as_38
          · skip
            exact absurd c_57 (by decide)
      · skip
        exact absurd c_42 (by decide)
  · skip
    have hl : lv_has ls 4 [(0, .ref x), (1, .int (nI j)), (2, .int 3)] := hl
    refine lv_aload_n hx hb dX6_as_0 rfl (lv_at hl 0 rfl) ?_
    refine lv_iload_n hx hb dX6_as_1 rfl (lv_at hl 1 rfl) ?_
    have hPc_58 := hPr.sub (ws' := [(x, .inr (6, [a0, a1, .ref xj, .int (nI n), a4, a5, a6, a7, a8, a9, a10, a11])), (xj, .inl (cJ, 6, .inr (.inr (.inr (.inr jr)))))]) [0, 1] rfl
    refine jcallq (va_runV (As := [.int (nI j)]) (rest := []) ⟨hx, hb, hml, hown, hts⟩ (c_find_ok l D cI cJ x xj n a0 a1 a4 a5 a6 a7 a8 a9 a10 a11 jr j (by omega) (by omega) s.heap.size) (cwV 1 hts gX6_as_X6_find rfl rfl rfl (by decide +kernel) ⟨Nat.le_of_ble_eq_true rfl, Nat.le_of_ble_eq_true rfl⟩) (jpreV hT (va_recv hK hPr (ci := 6) (q0 := 0) rfl rfl) hPc_58) rfl rfl hl.1 rfl (lv_room (Nat.le_of_ble_eq_true rfl)) dX6_as_2 ⟨(Nat.zero_le _), (Nat.zero_le _)⟩) hS hA (fun r_59 H locs hw_r_59 hkq hS => ?_)
    try dsimp only at hw_r_59
    have hPr := jkeep hPr hkq
    have hJ := hJ.kept hkq
    obtain ⟨hk5, a, ea9, hat⟩ := hJ j (by omega)
    rw [ea9] at hw_r_59
    subst hw_r_59
    try dsimp only [va_rf]
    refine lv_astore_n (lv' := [(3, .ref a), (0, .ref x), (1, .int (nI j)), (2, .int 3)]) hx hb dX6_as_5 rfl hl (by decide) rfl (fun ls hl => ?_)
    refine lv_aload_n hx hb dX6_as_6 rfl (lv_at hl 0 rfl) ?_
    refine lv_ifnonnull (tgt := 13) hx hb dX6_as_7 (by decide) ?_
    refine lv_iload_n hx hb dX6_as_13 rfl (lv_at hl 3 rfl) ?_
    refine lv_if_lt (tgt := 22) hx hb dX6_as_14 (by decide) (fun c_60 => ?_) (fun c_60 => ?_)
    · skip
      exact absurd c_60 (by decide)
    · skip
      refine lv_iload_n hx hb dX6_as_17 rfl (lv_at hl 3 rfl) ?_
      refine lv_iconst (v := 4) hx hb dX6_as_18 (by decide) ?_
      refine lv_icmp_le (tgt := 25) hx hb dX6_as_19 (by decide) (fun c_61 => ?_) (fun c_61 => ?_)
      · skip
        rcases hk5 with hk5 | hk5 | hk5 | hk5 | hk5
        · skip
          rw [hk5] at hat
          have hPj := jone hat
          refine lv_aload_n hx hb dX6_as_25 rfl (lv_at hl 0 rfl) ?_
          refine lv_iload_n hx hb dX6_as_26 rfl (lv_at hl 3 rfl) ?_
          have hPc_62 := hPj.sub (ws' := [(a, .inr (0, [.int (jg j), .int (js j), .int (jm j)]))]) [0] rfl
          refine jcalli (va_runS (As := [.ref a, .int 3]) (rest := []) ⟨hx, hb, hml, hown, hts⟩ (c_isOfKind_0_3 l D cI cJ a (.int (jg j)) (.int (js j)) (.int (jm j)) H.size) (va_cwS 2 hts gX6_as_X6_isOfKind rfl rfl rfl (by decide +kernel) ⟨Nat.le_of_ble_eq_true rfl, Nat.le_of_ble_eq_true rfl⟩) (jpreS hT hPc_62) rfl rfl hl.1 rfl (lv_room (Nat.le_of_ble_eq_true rfl)) dX6_as_27 ⟨(Nat.zero_le _), (Nat.zero_le _)⟩) hS hA (fun r_63 H locs hw_r_63 hkq hS => ?_)
          try dsimp only at hw_r_63
          have hPr := jkeep hPr hkq
          have hPj := jkeep hPj hkq
          have hJ := hJ.kept hkq
          subst hw_r_63
          refine lv_if_eq (tgt := 37) hx hb dX6_as_30 (by decide) (fun c_64 => ?_) (fun c_64 => ?_)
          · skip
            refine lv_iconst (v := (-1)) hx hb dX6_as_37 (by decide) ?_
            exact W.iret (v := (-1)) hx hb hr (fun t ht hW => ⟨⟨(-1), (), rfl, (by rw [hk5]; rfl), trivial⟩, hS.F ht⟩) hS.2.2 dX6_as_38
          · skip
            exact absurd c_64 (by decide)
        · skip
          rw [hk5] at hat
          have hPj := jone hat
          refine lv_aload_n hx hb dX6_as_25 rfl (lv_at hl 0 rfl) ?_
          refine lv_iload_n hx hb dX6_as_26 rfl (lv_at hl 3 rfl) ?_
          have hPc_65 := hPj.sub (ws' := [(a, .inr (2, [.int (jg j), .int (js j), .int (jm j)]))]) [0] rfl
          refine jcalli (va_runS (As := [.ref a, .int 3]) (rest := []) ⟨hx, hb, hml, hown, hts⟩ (c_isOfKind_2_3 l D cI cJ a (.int (jg j)) (.int (js j)) (.int (jm j)) H.size) (va_cwS 2 hts gX6_as_X6_isOfKind rfl rfl rfl (by decide +kernel) ⟨Nat.le_of_ble_eq_true rfl, Nat.le_of_ble_eq_true rfl⟩) (jpreS hT hPc_65) rfl rfl hl.1 rfl (lv_room (Nat.le_of_ble_eq_true rfl)) dX6_as_27 ⟨(Nat.zero_le _), (Nat.zero_le _)⟩) hS hA (fun r_66 H locs hw_r_66 hkq hS => ?_)
          try dsimp only at hw_r_66
          have hPr := jkeep hPr hkq
          have hPj := jkeep hPj hkq
          have hJ := hJ.kept hkq
          subst hw_r_66
          refine lv_if_eq (tgt := 37) hx hb dX6_as_30 (by decide) (fun c_67 => ?_) (fun c_67 => ?_)
          · skip
            refine lv_iconst (v := (-1)) hx hb dX6_as_37 (by decide) ?_
            exact W.iret (v := (-1)) hx hb hr (fun t ht hW => ⟨⟨(-1), (), rfl, (by rw [hk5]; rfl), trivial⟩, hS.F ht⟩) hS.2.2 dX6_as_38
          · skip
            exact absurd c_67 (by decide)
        · skip
          rw [hk5] at hat
          have hPj := jone hat
          refine lv_aload_n hx hb dX6_as_25 rfl (lv_at hl 0 rfl) ?_
          refine lv_iload_n hx hb dX6_as_26 rfl (lv_at hl 3 rfl) ?_
          have hPc_68 := hPj.sub (ws' := [(a, .inr (3, [.int (jg j), .int (js j), .int (jm j)]))]) [0] rfl
          refine jcalli (va_runS (As := [.ref a, .int 3]) (rest := []) ⟨hx, hb, hml, hown, hts⟩ (c_isOfKind_3_3 l D cI cJ a (.int (jg j)) (.int (js j)) (.int (jm j)) H.size) (va_cwS 2 hts gX6_as_X6_isOfKind rfl rfl rfl (by decide +kernel) ⟨Nat.le_of_ble_eq_true rfl, Nat.le_of_ble_eq_true rfl⟩) (jpreS hT hPc_68) rfl rfl hl.1 rfl (lv_room (Nat.le_of_ble_eq_true rfl)) dX6_as_27 ⟨(Nat.zero_le _), (Nat.zero_le _)⟩) hS hA (fun r_69 H locs hw_r_69 hkq hS => ?_)
          try dsimp only at hw_r_69
          have hPr := jkeep hPr hkq
          have hPj := jkeep hPj hkq
          have hJ := hJ.kept hkq
          subst hw_r_69
          refine lv_if_eq (tgt := 37) hx hb dX6_as_30 (by decide) (fun c_70 => ?_) (fun c_70 => ?_)
          · skip
            refine lv_iconst (v := (-1)) hx hb dX6_as_37 (by decide) ?_
            exact W.iret (v := (-1)) hx hb hr (fun t ht hW => ⟨⟨(-1), (), rfl, (by rw [hk5]; rfl), trivial⟩, hS.F ht⟩) hS.2.2 dX6_as_38
          · skip
            exact absurd c_70 (by decide)
        · skip
          rw [hk5] at hat
          have hPj := jone hat
          refine lv_aload_n hx hb dX6_as_25 rfl (lv_at hl 0 rfl) ?_
          refine lv_iload_n hx hb dX6_as_26 rfl (lv_at hl 3 rfl) ?_
          have hPc_71 := hPj.sub (ws' := [(a, .inr (4, [.int (jg j), .int (js j), .int (jm j)]))]) [0] rfl
          refine jcalli (va_runS (As := [.ref a, .int 3]) (rest := []) ⟨hx, hb, hml, hown, hts⟩ (c_isOfKind_4_3 l D cI cJ a (.int (jg j)) (.int (js j)) (.int (jm j)) H.size) (va_cwS 2 hts gX6_as_X6_isOfKind rfl rfl rfl (by decide +kernel) ⟨Nat.le_of_ble_eq_true rfl, Nat.le_of_ble_eq_true rfl⟩) (jpreS hT hPc_71) rfl rfl hl.1 rfl (lv_room (Nat.le_of_ble_eq_true rfl)) dX6_as_27 ⟨(Nat.zero_le _), (Nat.zero_le _)⟩) hS hA (fun r_72 H locs hw_r_72 hkq hS => ?_)
          try dsimp only at hw_r_72
          have hPr := jkeep hPr hkq
          have hPj := jkeep hPj hkq
          have hJ := hJ.kept hkq
          subst hw_r_72
          refine lv_if_eq (tgt := 37) hx hb dX6_as_30 (by decide) (fun c_73 => ?_) (fun c_73 => ?_)
          · skip
            exact absurd c_73 (by decide)
          · skip
            refine lv_iload_n hx hb dX6_as_33 rfl (lv_at hl 2 rfl) ?_
            refine lv_goto (tgt := 38) hx hb dX6_as_34 (by decide) ?_
            exact W.iret (v := nI j) hx hb hr (fun t ht hW => ⟨⟨nI j, (), rfl, (by rw [hk5]; rfl), trivial⟩, hS.F ht⟩) hS.2.2 dX6_as_38
        · skip
          rw [hk5] at hat
          have hPj := jone hat
          refine lv_aload_n hx hb dX6_as_25 rfl (lv_at hl 0 rfl) ?_
          refine lv_iload_n hx hb dX6_as_26 rfl (lv_at hl 3 rfl) ?_
          have hPc_74 := hPj.sub (ws' := [(a, .inr (5, [.int (jg j), .int (js j), .int (jm j)]))]) [0] rfl
          refine jcalli (va_runS (As := [.ref a, .int 3]) (rest := []) ⟨hx, hb, hml, hown, hts⟩ (c_isOfKind_5_3 l D cI cJ a (.int (jg j)) (.int (js j)) (.int (jm j)) H.size) (va_cwS 2 hts gX6_as_X6_isOfKind rfl rfl rfl (by decide +kernel) ⟨Nat.le_of_ble_eq_true rfl, Nat.le_of_ble_eq_true rfl⟩) (jpreS hT hPc_74) rfl rfl hl.1 rfl (lv_room (Nat.le_of_ble_eq_true rfl)) dX6_as_27 ⟨(Nat.zero_le _), (Nat.zero_le _)⟩) hS hA (fun r_75 H locs hw_r_75 hkq hS => ?_)
          try dsimp only at hw_r_75
          have hPr := jkeep hPr hkq
          have hPj := jkeep hPj hkq
          have hJ := hJ.kept hkq
          subst hw_r_75
          refine lv_if_eq (tgt := 37) hx hb dX6_as_30 (by decide) (fun c_76 => ?_) (fun c_76 => ?_)
          · skip
            refine lv_iconst (v := (-1)) hx hb dX6_as_37 (by decide) ?_
            exact W.iret (v := (-1)) hx hb hr (fun t ht hW => ⟨⟨(-1), (), rfl, (by rw [hk5]; rfl), trivial⟩, hS.F ht⟩) hS.2.2 dX6_as_38
          · skip
            exact absurd c_76 (by decide)
      · skip
        exact absurd c_61 (by decide)
  · skip
    have hl : lv_has ls 4 [(0, .ref x), (1, .int (nI j)), (2, .int 4)] := hl
    refine lv_aload_n hx hb dX6_as_0 rfl (lv_at hl 0 rfl) ?_
    refine lv_iload_n hx hb dX6_as_1 rfl (lv_at hl 1 rfl) ?_
    have hPc_77 := hPr.sub (ws' := [(x, .inr (6, [a0, a1, .ref xj, .int (nI n), a4, a5, a6, a7, a8, a9, a10, a11])), (xj, .inl (cJ, 6, .inr (.inr (.inr (.inr jr)))))]) [0, 1] rfl
    refine jcallq (va_runV (As := [.int (nI j)]) (rest := []) ⟨hx, hb, hml, hown, hts⟩ (c_find_ok l D cI cJ x xj n a0 a1 a4 a5 a6 a7 a8 a9 a10 a11 jr j (by omega) (by omega) s.heap.size) (cwV 1 hts gX6_as_X6_find rfl rfl rfl (by decide +kernel) ⟨Nat.le_of_ble_eq_true rfl, Nat.le_of_ble_eq_true rfl⟩) (jpreV hT (va_recv hK hPr (ci := 6) (q0 := 0) rfl rfl) hPc_77) rfl rfl hl.1 rfl (lv_room (Nat.le_of_ble_eq_true rfl)) dX6_as_2 ⟨(Nat.zero_le _), (Nat.zero_le _)⟩) hS hA (fun r_78 H locs hw_r_78 hkq hS => ?_)
    try dsimp only at hw_r_78
    have hPr := jkeep hPr hkq
    have hJ := hJ.kept hkq
    obtain ⟨hk5, a, ea9, hat⟩ := hJ j (by omega)
    rw [ea9] at hw_r_78
    subst hw_r_78
    try dsimp only [va_rf]
    refine lv_astore_n (lv' := [(3, .ref a), (0, .ref x), (1, .int (nI j)), (2, .int 4)]) hx hb dX6_as_5 rfl hl (by decide) rfl (fun ls hl => ?_)
    refine lv_aload_n hx hb dX6_as_6 rfl (lv_at hl 0 rfl) ?_
    refine lv_ifnonnull (tgt := 13) hx hb dX6_as_7 (by decide) ?_
    refine lv_iload_n hx hb dX6_as_13 rfl (lv_at hl 3 rfl) ?_
    refine lv_if_lt (tgt := 22) hx hb dX6_as_14 (by decide) (fun c_79 => ?_) (fun c_79 => ?_)
    · skip
      exact absurd c_79 (by decide)
    · skip
      refine lv_iload_n hx hb dX6_as_17 rfl (lv_at hl 3 rfl) ?_
      refine lv_iconst (v := 4) hx hb dX6_as_18 (by decide) ?_
      refine lv_icmp_le (tgt := 25) hx hb dX6_as_19 (by decide) (fun c_80 => ?_) (fun c_80 => ?_)
      · skip
        rcases hk5 with hk5 | hk5 | hk5 | hk5 | hk5
        · skip
          rw [hk5] at hat
          have hPj := jone hat
          refine lv_aload_n hx hb dX6_as_25 rfl (lv_at hl 0 rfl) ?_
          refine lv_iload_n hx hb dX6_as_26 rfl (lv_at hl 3 rfl) ?_
          have hPc_81 := hPj.sub (ws' := [(a, .inr (0, [.int (jg j), .int (js j), .int (jm j)]))]) [0] rfl
          refine jcalli (va_runS (As := [.ref a, .int 4]) (rest := []) ⟨hx, hb, hml, hown, hts⟩ (c_isOfKind_0_4 l D cI cJ a (.int (jg j)) (.int (js j)) (.int (jm j)) H.size) (va_cwS 2 hts gX6_as_X6_isOfKind rfl rfl rfl (by decide +kernel) ⟨Nat.le_of_ble_eq_true rfl, Nat.le_of_ble_eq_true rfl⟩) (jpreS hT hPc_81) rfl rfl hl.1 rfl (lv_room (Nat.le_of_ble_eq_true rfl)) dX6_as_27 ⟨(Nat.zero_le _), (Nat.zero_le _)⟩) hS hA (fun r_82 H locs hw_r_82 hkq hS => ?_)
          try dsimp only at hw_r_82
          have hPr := jkeep hPr hkq
          have hPj := jkeep hPj hkq
          have hJ := hJ.kept hkq
          subst hw_r_82
          refine lv_if_eq (tgt := 37) hx hb dX6_as_30 (by decide) (fun c_83 => ?_) (fun c_83 => ?_)
          · skip
            refine lv_iconst (v := (-1)) hx hb dX6_as_37 (by decide) ?_
            exact W.iret (v := (-1)) hx hb hr (fun t ht hW => ⟨⟨(-1), (), rfl, (by rw [hk5]; rfl), trivial⟩, hS.F ht⟩) hS.2.2 dX6_as_38
          · skip
            exact absurd c_83 (by decide)
        · skip
          rw [hk5] at hat
          have hPj := jone hat
          refine lv_aload_n hx hb dX6_as_25 rfl (lv_at hl 0 rfl) ?_
          refine lv_iload_n hx hb dX6_as_26 rfl (lv_at hl 3 rfl) ?_
          have hPc_84 := hPj.sub (ws' := [(a, .inr (2, [.int (jg j), .int (js j), .int (jm j)]))]) [0] rfl
          refine jcalli (va_runS (As := [.ref a, .int 4]) (rest := []) ⟨hx, hb, hml, hown, hts⟩ (c_isOfKind_2_4 l D cI cJ a (.int (jg j)) (.int (js j)) (.int (jm j)) H.size) (va_cwS 2 hts gX6_as_X6_isOfKind rfl rfl rfl (by decide +kernel) ⟨Nat.le_of_ble_eq_true rfl, Nat.le_of_ble_eq_true rfl⟩) (jpreS hT hPc_84) rfl rfl hl.1 rfl (lv_room (Nat.le_of_ble_eq_true rfl)) dX6_as_27 ⟨(Nat.zero_le _), (Nat.zero_le _)⟩) hS hA (fun r_85 H locs hw_r_85 hkq hS => ?_)
          try dsimp only at hw_r_85
          have hPr := jkeep hPr hkq
          have hPj := jkeep hPj hkq
          have hJ := hJ.kept hkq
          subst hw_r_85
          refine lv_if_eq (tgt := 37) hx hb dX6_as_30 (by decide) (fun c_86 => ?_) (fun c_86 => ?_)
          · skip
            exact absurd c_86 (by decide)
          · skip
            refine lv_iload_n hx hb dX6_as_33 rfl (lv_at hl 2 rfl) ?_
            refine lv_goto (tgt := 38) hx hb dX6_as_34 (by decide) ?_
            exact W.iret (v := nI j) hx hb hr (fun t ht hW => ⟨⟨nI j, (), rfl, (by rw [hk5]; rfl), trivial⟩, hS.F ht⟩) hS.2.2 dX6_as_38
        · skip
          rw [hk5] at hat
          have hPj := jone hat
          refine lv_aload_n hx hb dX6_as_25 rfl (lv_at hl 0 rfl) ?_
          refine lv_iload_n hx hb dX6_as_26 rfl (lv_at hl 3 rfl) ?_
          have hPc_87 := hPj.sub (ws' := [(a, .inr (3, [.int (jg j), .int (js j), .int (jm j)]))]) [0] rfl
          refine jcalli (va_runS (As := [.ref a, .int 4]) (rest := []) ⟨hx, hb, hml, hown, hts⟩ (c_isOfKind_3_4 l D cI cJ a (.int (jg j)) (.int (js j)) (.int (jm j)) H.size) (va_cwS 2 hts gX6_as_X6_isOfKind rfl rfl rfl (by decide +kernel) ⟨Nat.le_of_ble_eq_true rfl, Nat.le_of_ble_eq_true rfl⟩) (jpreS hT hPc_87) rfl rfl hl.1 rfl (lv_room (Nat.le_of_ble_eq_true rfl)) dX6_as_27 ⟨(Nat.zero_le _), (Nat.zero_le _)⟩) hS hA (fun r_88 H locs hw_r_88 hkq hS => ?_)
          try dsimp only at hw_r_88
          have hPr := jkeep hPr hkq
          have hPj := jkeep hPj hkq
          have hJ := hJ.kept hkq
          subst hw_r_88
          refine lv_if_eq (tgt := 37) hx hb dX6_as_30 (by decide) (fun c_89 => ?_) (fun c_89 => ?_)
          · skip
            refine lv_iconst (v := (-1)) hx hb dX6_as_37 (by decide) ?_
            exact W.iret (v := (-1)) hx hb hr (fun t ht hW => ⟨⟨(-1), (), rfl, (by rw [hk5]; rfl), trivial⟩, hS.F ht⟩) hS.2.2 dX6_as_38
          · skip
            exact absurd c_89 (by decide)
        · skip
          rw [hk5] at hat
          have hPj := jone hat
          refine lv_aload_n hx hb dX6_as_25 rfl (lv_at hl 0 rfl) ?_
          refine lv_iload_n hx hb dX6_as_26 rfl (lv_at hl 3 rfl) ?_
          have hPc_90 := hPj.sub (ws' := [(a, .inr (4, [.int (jg j), .int (js j), .int (jm j)]))]) [0] rfl
          refine jcalli (va_runS (As := [.ref a, .int 4]) (rest := []) ⟨hx, hb, hml, hown, hts⟩ (c_isOfKind_4_4 l D cI cJ a (.int (jg j)) (.int (js j)) (.int (jm j)) H.size) (va_cwS 2 hts gX6_as_X6_isOfKind rfl rfl rfl (by decide +kernel) ⟨Nat.le_of_ble_eq_true rfl, Nat.le_of_ble_eq_true rfl⟩) (jpreS hT hPc_90) rfl rfl hl.1 rfl (lv_room (Nat.le_of_ble_eq_true rfl)) dX6_as_27 ⟨(Nat.zero_le _), (Nat.zero_le _)⟩) hS hA (fun r_91 H locs hw_r_91 hkq hS => ?_)
          try dsimp only at hw_r_91
          have hPr := jkeep hPr hkq
          have hPj := jkeep hPj hkq
          have hJ := hJ.kept hkq
          subst hw_r_91
          refine lv_if_eq (tgt := 37) hx hb dX6_as_30 (by decide) (fun c_92 => ?_) (fun c_92 => ?_)
          · skip
            refine lv_iconst (v := (-1)) hx hb dX6_as_37 (by decide) ?_
            exact W.iret (v := (-1)) hx hb hr (fun t ht hW => ⟨⟨(-1), (), rfl, (by rw [hk5]; rfl), trivial⟩, hS.F ht⟩) hS.2.2 dX6_as_38
          · skip
            exact absurd c_92 (by decide)
        · skip
          rw [hk5] at hat
          have hPj := jone hat
          refine lv_aload_n hx hb dX6_as_25 rfl (lv_at hl 0 rfl) ?_
          refine lv_iload_n hx hb dX6_as_26 rfl (lv_at hl 3 rfl) ?_
          have hPc_93 := hPj.sub (ws' := [(a, .inr (5, [.int (jg j), .int (js j), .int (jm j)]))]) [0] rfl
          refine jcalli (va_runS (As := [.ref a, .int 4]) (rest := []) ⟨hx, hb, hml, hown, hts⟩ (c_isOfKind_5_4 l D cI cJ a (.int (jg j)) (.int (js j)) (.int (jm j)) H.size) (va_cwS 2 hts gX6_as_X6_isOfKind rfl rfl rfl (by decide +kernel) ⟨Nat.le_of_ble_eq_true rfl, Nat.le_of_ble_eq_true rfl⟩) (jpreS hT hPc_93) rfl rfl hl.1 rfl (lv_room (Nat.le_of_ble_eq_true rfl)) dX6_as_27 ⟨(Nat.zero_le _), (Nat.zero_le _)⟩) hS hA (fun r_94 H locs hw_r_94 hkq hS => ?_)
          try dsimp only at hw_r_94
          have hPr := jkeep hPr hkq
          have hPj := jkeep hPj hkq
          have hJ := hJ.kept hkq
          subst hw_r_94
          refine lv_if_eq (tgt := 37) hx hb dX6_as_30 (by decide) (fun c_95 => ?_) (fun c_95 => ?_)
          · skip
            refine lv_iconst (v := (-1)) hx hb dX6_as_37 (by decide) ?_
            exact W.iret (v := (-1)) hx hb hr (fun t ht hW => ⟨⟨(-1), (), rfl, (by rw [hk5]; rfl), trivial⟩, hS.F ht⟩) hS.2.2 dX6_as_38
          · skip
            exact absurd c_95 (by decide)
      · skip
        exact absurd c_80 (by decide)

set_option maxHeartbeats 4000000 in
set_option maxRecDepth 100000 in
theorem c_worth_no (l : Launch) (D : va_G) (cI cJ : ClassId) (x : Nat) (xj : Nat) (n : Nat) (a0 : Value) (a1 : Value) (a4 : Value) (a5 : Value) (a6 : Value) (a7 : Value) (a8 : Value) (a9 : Value) (a10 : Value) (a11 : Value) (jr : Nat → Option Nat) (p0 : Int32) (y0 : Int32) (h9 : p0 < 0 ∨ nI n ≤ p0) : jRi l yX6_worth wsX6_worth ({ frames := 1, cells := 0, slots := 0, locals := 21 }) [.ref x, .int p0, .int y0] D cI cJ (fun H => va_P D vwCl [(x, .inr (6, [a0, a1, .ref xj, .int (nI n), a4, a5, a6, a7, a8, a9, a10, a11])), (xj, .inl (cJ, 6, .inr (.inr (.inr (.inr jr)))))] H) (fun r => r = -101) := by
  intro sz
  refine Met.ofW (cc := cX6_worth) (maxL := 3) (ret := (some .int)) (by decide) rfl ?_
  intro p e s m args below meth c s₁ B hml hv
  obtain ⟨rfl, hsz, hT, hPr⟩ := hv
  have hK := hT.1
  have hx := B.exec
  have hb := B.bytes
  have hr := B.returns
  have hts := atoms_spec (ws := wsX6_worth) B.pre
  have hown : s.vm.findClass RX6 = some m.cls := findClass_of_methodNamed B.named
  have hlocks := B.notSynchronized
  subst hsz
  generalize hAe : va_A [] s.heap.size = A
  have hA : ∀ q : Nat, s.heap.size ≤ q → A q := fun q h => by rw [← hAe]; exact Or.inr h
  have hS : va_S A s.heap s.heap [] := va_S.rf
  have hl := lv_entry ([.ref x, .int p0, .int y0] : List Value) (n := 3) (Nat.le_of_ble_eq_true rfl)
  rw [lg_entry_eq]
  generalize (lg_sl ([.ref x, .int p0, .int y0]) ++ List.replicate (3 - (lg_sl ([.ref x, .int p0, .int y0])).length) Slot.unset).toArray = ls at hl ⊢
  have hl : lv_has ls 3 [(0, .ref x), (1, .int p0), (2, .int y0)] := hl
  refine lv_aload_n hx hb dX6_worth_0 rfl (lv_at hl 0 rfl) ?_
  refine lv_iload_n hx hb dX6_worth_1 rfl (lv_at hl 1 rfl) ?_
  have hPc_1 := hPr.sub (ws' := [(x, .inr (6, [a0, a1, .ref xj, .int (nI n), a4, a5, a6, a7, a8, a9, a10, a11])), (xj, .inl (cJ, 6, .inr (.inr (.inr (.inr jr)))))]) [0, 1] rfl
  refine jcallq (va_runV (As := [.int p0]) (rest := []) ⟨hx, hb, hml, hown, hts⟩ (c_find_no l D cI cJ x xj n a0 a1 a4 a5 a6 a7 a8 a9 a10 a11 jr p0 h9 s.heap.size) (cwV 1 hts gX6_worth_X6_find rfl rfl rfl (by decide +kernel) ⟨Nat.le_of_ble_eq_true rfl, Nat.le_of_ble_eq_true rfl⟩) (jpreV hT (va_recv hK hPr (ci := 6) (q0 := 0) rfl rfl) hPc_1) rfl rfl hl.1 rfl (lv_room (Nat.le_of_ble_eq_true rfl)) dX6_worth_2 ⟨(Nat.zero_le _), (Nat.zero_le _)⟩) hS hA (fun r_2 H locs hw_r_2 hkq hS => ?_)
  try dsimp only at hw_r_2
  have hPr := jkeep hPr hkq
  subst hw_r_2
  try dsimp only [va_rf]
  refine lv_ifnonnullN hx hb dX6_worth_5 ?_
  refine lv_bipush (v := (-101)) hx hb dX6_worth_8 (by decide) ?_
  exact W.iret (v := (-101)) hx hb hr (fun t ht hW => ⟨⟨(-101), (), rfl, rfl, trivial⟩, hS.F ht⟩) hS.2.2 dX6_worth_10

set_option maxHeartbeats 4000000 in
set_option maxRecDepth 100000 in
theorem c_worth_out (l : Launch) (D : va_G) (cI cJ : ClassId) (x : Nat) (xj : Nat) (n : Nat) (a0 : Value) (a1 : Value) (a4 : Value) (a5 : Value) (a6 : Value) (a7 : Value) (a8 : Value) (a9 : Value) (a10 : Value) (a11 : Value) (jr : Nat → Option Nat) (jk : Nat → Nat) (jg : Nat → Int32) (js : Nat → Int32) (jm : Nat → Int32) (j : Nat) (y0 : Int32) (hj : j < n) (hn6 : n ≤ 6) (h8 : y0 < 0 ∨ 99 < y0) : jRi l yX6_worth wsX6_worth ({ frames := 1, cells := 0, slots := 0, locals := 21 }) [.ref x, .int (nI j), .int y0] D cI cJ (fun H => va_P D vwCl [(x, .inr (6, [a0, a1, .ref xj, .int (nI n), a4, a5, a6, a7, a8, a9, a10, a11])), (xj, .inl (cJ, 6, .inr (.inr (.inr (.inr jr)))))] H ∧ jJ D n jr jk jg js jm H) (fun r => r = -102) := by
  intro sz
  refine Met.ofW (cc := cX6_worth) (maxL := 3) (ret := (some .int)) (by decide) rfl ?_
  intro p e s m args below meth c s₁ B hml hv
  obtain ⟨rfl, hsz, hT, ⟨hPr, hJ⟩⟩ := hv
  have hK := hT.1
  have hx := B.exec
  have hb := B.bytes
  have hr := B.returns
  have hts := atoms_spec (ws := wsX6_worth) B.pre
  have hown : s.vm.findClass RX6 = some m.cls := findClass_of_methodNamed B.named
  have hlocks := B.notSynchronized
  subst hsz
  generalize hAe : va_A [] s.heap.size = A
  have hA : ∀ q : Nat, s.heap.size ≤ q → A q := fun q h => by rw [← hAe]; exact Or.inr h
  have hS : va_S A s.heap s.heap [] := va_S.rf
  have hl := lv_entry ([.ref x, .int (nI j), .int y0] : List Value) (n := 3) (Nat.le_of_ble_eq_true rfl)
  rw [lg_entry_eq]
  generalize (lg_sl ([.ref x, .int (nI j), .int y0]) ++ List.replicate (3 - (lg_sl ([.ref x, .int (nI j), .int y0])).length) Slot.unset).toArray = ls at hl ⊢
  have hl : lv_has ls 3 [(0, .ref x), (1, .int (nI j)), (2, .int y0)] := hl
  refine lv_aload_n hx hb dX6_worth_0 rfl (lv_at hl 0 rfl) ?_
  refine lv_iload_n hx hb dX6_worth_1 rfl (lv_at hl 1 rfl) ?_
  have hPc_1 := hPr.sub (ws' := [(x, .inr (6, [a0, a1, .ref xj, .int (nI n), a4, a5, a6, a7, a8, a9, a10, a11])), (xj, .inl (cJ, 6, .inr (.inr (.inr (.inr jr)))))]) [0, 1] rfl
  refine jcallq (va_runV (As := [.int (nI j)]) (rest := []) ⟨hx, hb, hml, hown, hts⟩ (c_find_ok l D cI cJ x xj n a0 a1 a4 a5 a6 a7 a8 a9 a10 a11 jr j (by omega) (by omega) s.heap.size) (cwV 1 hts gX6_worth_X6_find rfl rfl rfl (by decide +kernel) ⟨Nat.le_of_ble_eq_true rfl, Nat.le_of_ble_eq_true rfl⟩) (jpreV hT (va_recv hK hPr (ci := 6) (q0 := 0) rfl rfl) hPc_1) rfl rfl hl.1 rfl (lv_room (Nat.le_of_ble_eq_true rfl)) dX6_worth_2 ⟨(Nat.zero_le _), (Nat.zero_le _)⟩) hS hA (fun r_2 H locs hw_r_2 hkq hS => ?_)
  try dsimp only at hw_r_2
  have hPr := jkeep hPr hkq
  have hJ := hJ.kept hkq
  obtain ⟨hk5, a, ea9, hat⟩ := hJ j (by omega)
  rw [ea9] at hw_r_2
  subst hw_r_2
  try dsimp only [va_rf]
  refine lv_ifnonnull (tgt := 11) hx hb dX6_worth_5 (by decide) ?_
  refine lv_iload_n hx hb dX6_worth_11 rfl (lv_at hl 2 rfl) ?_
  refine jcalli (va_runS (As := [.int y0]) (rest := []) ⟨hx, hb, hml, hown, hts⟩ (c_isNoYear_y l D cI cJ y0 h8 H.size) (va_cwS 1 hts gX6_worth_X6_isNoYear rfl rfl rfl (by decide +kernel) ⟨Nat.le_of_ble_eq_true rfl, Nat.le_of_ble_eq_true rfl⟩) (jpreS hT trivial) rfl rfl hl.1 rfl (lv_room (Nat.le_of_ble_eq_true rfl)) dX6_worth_12 ⟨(Nat.zero_le _), (Nat.zero_le _)⟩) hS hA (fun r_3 H locs hw_r_3 hkq hS => ?_)
  try dsimp only at hw_r_3
  have hPr := jkeep hPr hkq
  have hJ := hJ.kept hkq
  subst hw_r_3
  refine lv_if_eq (tgt := 21) hx hb dX6_worth_15 (by decide) (fun c_4 => ?_) (fun c_4 => ?_)
  · skip
    exact absurd c_4 (by decide)
  · skip
    refine lv_bipush (v := (-102)) hx hb dX6_worth_18 (by decide) ?_
    exact W.iret (v := (-102)) hx hb hr (fun t ht hW => ⟨⟨(-102), (), rfl, rfl, trivial⟩, hS.F ht⟩) hS.2.2 dX6_worth_20

set_option maxHeartbeats 4000000 in
set_option maxRecDepth 100000 in
theorem c_worth_ok (l : Launch) (D : va_G) (cI cJ : ClassId) (x : Nat) (xj : Nat) (n : Nat) (a0 : Value) (a1 : Value) (a4 : Value) (a5 : Value) (a6 : Value) (a7 : Value) (a8 : Value) (a9 : Value) (a10 : Value) (a11 : Value) (jr : Nat → Option Nat) (jk : Nat → Nat) (jg : Nat → Int32) (js : Nat → Int32) (jm : Nat → Int32) (fw : Nat → Int32 → Int32) (j : Nat) (y0 : Int32) (hj : j < n) (hn6 : n ≤ 6) (hfw : ∀ i : Nat, i < n → ∀ z : Int32, cfw (jk i) (jg i) (jm i) z = fw i z) (h7 : ¬ y0 < 0) (h8 : y0 ≤ 99) : jRi l yX6_worth wsX6_worth ({ frames := 3, cells := 0, slots := 0, locals := 67 }) [.ref x, .int (nI j), .int y0] D cI cJ (fun H => va_P D vwCl [(x, .inr (6, [a0, a1, .ref xj, .int (nI n), a4, a5, a6, a7, a8, a9, a10, a11])), (xj, .inl (cJ, 6, .inr (.inr (.inr (.inr jr)))))] H ∧ jJ D n jr jk jg js jm H) (fun r => r = fw j y0 + 100) := by
  intro sz
  refine Met.ofW (cc := cX6_worth) (maxL := 3) (ret := (some .int)) (by decide) rfl ?_
  intro p e s m args below meth c s₁ B hml hv
  obtain ⟨rfl, hsz, hT, ⟨hPr, hJ⟩⟩ := hv
  have hK := hT.1
  have hx := B.exec
  have hb := B.bytes
  have hr := B.returns
  have hts := atoms_spec (ws := wsX6_worth) B.pre
  have hown : s.vm.findClass RX6 = some m.cls := findClass_of_methodNamed B.named
  have hlocks := B.notSynchronized
  subst hsz
  generalize hAe : va_A [] s.heap.size = A
  have hA : ∀ q : Nat, s.heap.size ≤ q → A q := fun q h => by rw [← hAe]; exact Or.inr h
  have hS : va_S A s.heap s.heap [] := va_S.rf
  have hl := lv_entry ([.ref x, .int (nI j), .int y0] : List Value) (n := 3) (Nat.le_of_ble_eq_true rfl)
  rw [lg_entry_eq]
  generalize (lg_sl ([.ref x, .int (nI j), .int y0]) ++ List.replicate (3 - (lg_sl ([.ref x, .int (nI j), .int y0])).length) Slot.unset).toArray = ls at hl ⊢
  have hl : lv_has ls 3 [(0, .ref x), (1, .int (nI j)), (2, .int y0)] := hl
  refine lv_aload_n hx hb dX6_worth_0 rfl (lv_at hl 0 rfl) ?_
  refine lv_iload_n hx hb dX6_worth_1 rfl (lv_at hl 1 rfl) ?_
  have hPc_1 := hPr.sub (ws' := [(x, .inr (6, [a0, a1, .ref xj, .int (nI n), a4, a5, a6, a7, a8, a9, a10, a11])), (xj, .inl (cJ, 6, .inr (.inr (.inr (.inr jr)))))]) [0, 1] rfl
  refine jcallq (va_runV (As := [.int (nI j)]) (rest := []) ⟨hx, hb, hml, hown, hts⟩ (c_find_ok l D cI cJ x xj n a0 a1 a4 a5 a6 a7 a8 a9 a10 a11 jr j (by omega) (by omega) s.heap.size) (cwV 1 hts gX6_worth_X6_find rfl rfl rfl (by decide +kernel) ⟨Nat.le_of_ble_eq_true rfl, Nat.le_of_ble_eq_true rfl⟩) (jpreV hT (va_recv hK hPr (ci := 6) (q0 := 0) rfl rfl) hPc_1) rfl rfl hl.1 rfl (lv_room (Nat.le_of_ble_eq_true rfl)) dX6_worth_2 ⟨(Nat.zero_le _), (Nat.zero_le _)⟩) hS hA (fun r_2 H locs hw_r_2 hkq hS => ?_)
  try dsimp only at hw_r_2
  have hPr := jkeep hPr hkq
  have hJ := hJ.kept hkq
  obtain ⟨hk5, a, ea9, hat⟩ := hJ j (by omega)
  rw [ea9] at hw_r_2
  subst hw_r_2
  try dsimp only [va_rf]
  refine lv_ifnonnull (tgt := 11) hx hb dX6_worth_5 (by decide) ?_
  refine lv_iload_n hx hb dX6_worth_11 rfl (lv_at hl 2 rfl) ?_
  refine jcalli (va_runS (As := [.int y0]) (rest := []) ⟨hx, hb, hml, hown, hts⟩ (c_isNoYear_n l D cI cJ y0 h7 h8 H.size) (va_cwS 1 hts gX6_worth_X6_isNoYear rfl rfl rfl (by decide +kernel) ⟨Nat.le_of_ble_eq_true rfl, Nat.le_of_ble_eq_true rfl⟩) (jpreS hT trivial) rfl rfl hl.1 rfl (lv_room (Nat.le_of_ble_eq_true rfl)) dX6_worth_12 ⟨(Nat.zero_le _), (Nat.zero_le _)⟩) hS hA (fun r_3 H locs hw_r_3 hkq hS => ?_)
  try dsimp only at hw_r_3
  have hPr := jkeep hPr hkq
  have hJ := hJ.kept hkq
  subst hw_r_3
  refine lv_if_eq (tgt := 21) hx hb dX6_worth_15 (by decide) (fun c_4 => ?_) (fun c_4 => ?_)
  · skip
    refine lv_aload_n hx hb dX6_worth_21 rfl (lv_at hl 0 rfl) ?_
    refine lv_iload_n hx hb dX6_worth_22 rfl (lv_at hl 1 rfl) ?_
    refine lv_iload_n hx hb dX6_worth_23 rfl (lv_at hl 2 rfl) ?_
    have hPc_5 := hPr.sub (ws' := [(x, .inr (6, [a0, a1, .ref xj, .int (nI n), a4, a5, a6, a7, a8, a9, a10, a11])), (xj, .inl (cJ, 6, .inr (.inr (.inr (.inr jr)))))]) [0, 1] rfl
    refine jcalli (va_runV (As := [.int (nI j), .int y0]) (rest := []) ⟨hx, hb, hml, hown, hts⟩ (c_firstWorth l D cI cJ x xj n a0 a1 a4 a5 a6 a7 a8 a9 a10 a11 jr jk jg js jm fw j y0 hj hn6 hfw H.size) (cwV 2 hts gX6_worth_X6_firstWorth rfl rfl rfl (by decide +kernel) ⟨Nat.le_of_ble_eq_true rfl, Nat.le_of_ble_eq_true rfl⟩) (jpreV hT (va_recv hK hPr (ci := 6) (q0 := 0) rfl rfl) ⟨hPc_5, hJ⟩) rfl rfl hl.1 rfl (lv_room (Nat.le_of_ble_eq_true rfl)) dX6_worth_24 ⟨(Nat.zero_le _), (Nat.zero_le _)⟩) hS hA (fun r_6 H locs hw_r_6 hkq hS => ?_)
    try dsimp only at hw_r_6
    have hPr := jkeep hPr hkq
    have hJ := hJ.kept hkq
    subst hw_r_6
    refine lv_bipush (v := 100) hx hb dX6_worth_27 (by decide) ?_
    refine lv_iadd hx hb dX6_worth_29 ?_
    exact W.iret (v := (fw j y0) + 100) hx hb hr (fun t ht hW => ⟨⟨(fw j y0) + 100, (), rfl, rfl, trivial⟩, hS.F ht⟩) hS.2.2 dX6_worth_30
  · skip
    exact absurd c_4 (by decide)

def jtl (kn gd sg spn mo nx ea wh : Int32) (c : Nat) : Int32 := if c = 0 then kn else if c = 1 then gd else if c = 2 then sg else if c = 3 then spn else if c = 4 then mo else if c = 5 then nx else if c = 6 then ea else wh
set_option maxHeartbeats 4000000 in
set_option maxRecDepth 100000 in
theorem c_jar_no (l : Launch) (D : va_G) (cI cJ : ClassId) (x : Nat) (xj : Nat) (n : Nat) (a0 : Value) (a1 : Value) (a4 : Value) (a5 : Value) (a6 : Value) (a7 : Value) (a8 : Value) (a9 : Value) (a10 : Value) (a11 : Value) (jr : Nat → Option Nat) (p0 : Int32) (wh : Int32) (h9 : p0 < 0 ∨ nI n ≤ p0) : jRi l yX6_jar wsX6_jar ({ frames := 1, cells := 0, slots := 0, locals := 21 }) [.ref x, .int p0, .int wh] D cI cJ (fun H => va_P D vwCl [(x, .inr (6, [a0, a1, .ref xj, .int (nI n), a4, a5, a6, a7, a8, a9, a10, a11])), (xj, .inl (cJ, 6, .inr (.inr (.inr (.inr jr)))))] H) (fun r => r = -101) := by
  intro sz
  refine Met.ofW (cc := cX6_jar) (maxL := 4) (ret := (some .int)) (by decide) rfl ?_
  intro p e s m args below meth c s₁ B hml hv
  obtain ⟨rfl, hsz, hT, hPr⟩ := hv
  have hK := hT.1
  have hx := B.exec
  have hb := B.bytes
  have hr := B.returns
  have hts := atoms_spec (ws := wsX6_jar) B.pre
  have hown : s.vm.findClass RX6 = some m.cls := findClass_of_methodNamed B.named
  have hlocks := B.notSynchronized
  subst hsz
  generalize hAe : va_A [] s.heap.size = A
  have hA : ∀ q : Nat, s.heap.size ≤ q → A q := fun q h => by rw [← hAe]; exact Or.inr h
  have hS : va_S A s.heap s.heap [] := va_S.rf
  have hl := lv_entry ([.ref x, .int p0, .int wh] : List Value) (n := 4) (Nat.le_of_ble_eq_true rfl)
  rw [lg_entry_eq]
  generalize (lg_sl ([.ref x, .int p0, .int wh]) ++ List.replicate (4 - (lg_sl ([.ref x, .int p0, .int wh])).length) Slot.unset).toArray = ls at hl ⊢
  have hl : lv_has ls 4 [(0, .ref x), (1, .int p0), (2, .int wh)] := hl
  refine lv_aload_n hx hb dX6_jar_0 rfl (lv_at hl 0 rfl) ?_
  refine lv_iload_n hx hb dX6_jar_1 rfl (lv_at hl 1 rfl) ?_
  have hPc_1 := hPr.sub (ws' := [(x, .inr (6, [a0, a1, .ref xj, .int (nI n), a4, a5, a6, a7, a8, a9, a10, a11])), (xj, .inl (cJ, 6, .inr (.inr (.inr (.inr jr)))))]) [0, 1] rfl
  refine jcallq (va_runV (As := [.int p0]) (rest := []) ⟨hx, hb, hml, hown, hts⟩ (c_find_no l D cI cJ x xj n a0 a1 a4 a5 a6 a7 a8 a9 a10 a11 jr p0 h9 s.heap.size) (cwV 1 hts gX6_jar_X6_find rfl rfl rfl (by decide +kernel) ⟨Nat.le_of_ble_eq_true rfl, Nat.le_of_ble_eq_true rfl⟩) (jpreV hT (va_recv hK hPr (ci := 6) (q0 := 0) rfl rfl) hPc_1) rfl rfl hl.1 rfl (lv_room (Nat.le_of_ble_eq_true rfl)) dX6_jar_2 ⟨(Nat.zero_le _), (Nat.zero_le _)⟩) hS hA (fun r_2 H locs hw_r_2 hkq hS => ?_)
  try dsimp only at hw_r_2
  have hPr := jkeep hPr hkq
  subst hw_r_2
  try dsimp only [va_rf]
  refine lv_astore_nN (lv' := [(3, .null), (0, .ref x), (1, .int p0), (2, .int wh)]) hx hb dX6_jar_5 rfl hl (by decide) rfl (fun ls hl => ?_)
  refine lv_aload_nN hx hb dX6_jar_6 rfl (lv_at hl 0 rfl) ?_
  refine lv_ifnonnullN hx hb dX6_jar_7 ?_
  refine lv_bipush (v := (-101)) hx hb dX6_jar_10 (by decide) ?_
  exact W.iret (v := (-101)) hx hb hr (fun t ht hW => ⟨⟨(-101), (), rfl, rfl, trivial⟩, hS.F ht⟩) hS.2.2 dX6_jar_12

set_option maxHeartbeats 4000000 in
set_option maxRecDepth 100000 in
theorem c_jar_out (l : Launch) (D : va_G) (cI cJ : ClassId) (x : Nat) (xj : Nat) (n : Nat) (a0 : Value) (a1 : Value) (a4 : Value) (a5 : Value) (a6 : Value) (a7 : Value) (a8 : Value) (a9 : Value) (a10 : Value) (a11 : Value) (jr : Nat → Option Nat) (jk : Nat → Nat) (jg : Nat → Int32) (js : Nat → Int32) (jm : Nat → Int32) (j : Nat) (wh : Int32) (hj : j < n) (hn6 : n ≤ 6) (h8 : wh.toInt < 0 ∨ 7 < wh.toInt) : jRi l yX6_jar wsX6_jar ({ frames := 1, cells := 0, slots := 0, locals := 21 }) [.ref x, .int (nI j), .int wh] D cI cJ (fun H => va_P D vwCl [(x, .inr (6, [a0, a1, .ref xj, .int (nI n), a4, a5, a6, a7, a8, a9, a10, a11])), (xj, .inl (cJ, 6, .inr (.inr (.inr (.inr jr)))))] H ∧ jJ D n jr jk jg js jm H) (fun r => r = -102) := by
  intro sz
  refine Met.ofW (cc := cX6_jar) (maxL := 4) (ret := (some .int)) (by decide) rfl ?_
  intro p e s m args below meth c s₁ B hml hv
  obtain ⟨rfl, hsz, hT, ⟨hPr, hJ⟩⟩ := hv
  have hK := hT.1
  have hx := B.exec
  have hb := B.bytes
  have hr := B.returns
  have hts := atoms_spec (ws := wsX6_jar) B.pre
  have hown : s.vm.findClass RX6 = some m.cls := findClass_of_methodNamed B.named
  have hlocks := B.notSynchronized
  subst hsz
  generalize hAe : va_A [] s.heap.size = A
  have hA : ∀ q : Nat, s.heap.size ≤ q → A q := fun q h => by rw [← hAe]; exact Or.inr h
  have hS : va_S A s.heap s.heap [] := va_S.rf
  have hl := lv_entry ([.ref x, .int (nI j), .int wh] : List Value) (n := 4) (Nat.le_of_ble_eq_true rfl)
  rw [lg_entry_eq]
  generalize (lg_sl ([.ref x, .int (nI j), .int wh]) ++ List.replicate (4 - (lg_sl ([.ref x, .int (nI j), .int wh])).length) Slot.unset).toArray = ls at hl ⊢
  have hl : lv_has ls 4 [(0, .ref x), (1, .int (nI j)), (2, .int wh)] := hl
  refine lv_aload_n hx hb dX6_jar_0 rfl (lv_at hl 0 rfl) ?_
  refine lv_iload_n hx hb dX6_jar_1 rfl (lv_at hl 1 rfl) ?_
  have hPc_1 := hPr.sub (ws' := [(x, .inr (6, [a0, a1, .ref xj, .int (nI n), a4, a5, a6, a7, a8, a9, a10, a11])), (xj, .inl (cJ, 6, .inr (.inr (.inr (.inr jr)))))]) [0, 1] rfl
  refine jcallq (va_runV (As := [.int (nI j)]) (rest := []) ⟨hx, hb, hml, hown, hts⟩ (c_find_ok l D cI cJ x xj n a0 a1 a4 a5 a6 a7 a8 a9 a10 a11 jr j (by omega) (by omega) s.heap.size) (cwV 1 hts gX6_jar_X6_find rfl rfl rfl (by decide +kernel) ⟨Nat.le_of_ble_eq_true rfl, Nat.le_of_ble_eq_true rfl⟩) (jpreV hT (va_recv hK hPr (ci := 6) (q0 := 0) rfl rfl) hPc_1) rfl rfl hl.1 rfl (lv_room (Nat.le_of_ble_eq_true rfl)) dX6_jar_2 ⟨(Nat.zero_le _), (Nat.zero_le _)⟩) hS hA (fun r_2 H locs hw_r_2 hkq hS => ?_)
  try dsimp only at hw_r_2
  have hPr := jkeep hPr hkq
  have hJ := hJ.kept hkq
  obtain ⟨hk5, a, ea9, hat⟩ := hJ j (by omega)
  rw [ea9] at hw_r_2
  subst hw_r_2
  try dsimp only [va_rf]
  refine lv_astore_n (lv' := [(3, .ref a), (0, .ref x), (1, .int (nI j)), (2, .int wh)]) hx hb dX6_jar_5 rfl hl (by decide) rfl (fun ls hl => ?_)
  refine lv_aload_n hx hb dX6_jar_6 rfl (lv_at hl 0 rfl) ?_
  refine lv_ifnonnull (tgt := 13) hx hb dX6_jar_7 (by decide) ?_
  refine lv_iload_n hx hb dX6_jar_13 rfl (lv_at hl 3 rfl) ?_
  refine lv_tableOut (tgt := 120) hx hb dX6_jar_14 h8 (by decide) ?_
  refine lv_bipush (v := (-102)) hx hb dX6_jar_120 (by decide) ?_
  exact W.iret (v := (-102)) hx hb hr (fun t ht hW => ⟨⟨(-102), (), rfl, rfl, trivial⟩, hS.F ht⟩) hS.2.2 dX6_jar_122

set_option maxHeartbeats 4000000 in
set_option maxRecDepth 100000 in
theorem c_jar_ok (l : Launch) (D : va_G) (cI cJ : ClassId) (x : Nat) (xj : Nat) (xn : Nat) (ns : Nat) (ne : Nat) (n : Nat) (a0 : Value) (a1 : Value) (a5 : Value) (a6 : Value) (a7 : Value) (a8 : Value) (a9 : Value) (a10 : Value) (a11 : Value) (b1 : Value) (b2 : Value) (b3 : Value) (b4 : Value) (b7 : Value) (b8 : Value) (jr : Nat → Option Nat) (jk : Nat → Nat) (jg : Nat → Int32) (js : Nat → Int32) (jm : Nat → Int32) (fw : Nat → Int32 → Int32) (sp : Nat → Int32) (en : Nat → Int32) (y : Int32) (j : Nat) (cq : Nat) (hj : j < n) (hn6 : n ≤ 6) (hfw : ∀ i : Nat, i < n → ∀ z : Int32, cfw (jk i) (jg i) (jm i) z = fw i z) (hc : cq < 8) : jRi l yX6_jar wsX6_jar ({ frames := 4, cells := 0, slots := 0, locals := 90 }) [.ref x, .int (nI j), .int (nI cq)] D cI cJ (fun H => va_P D vwCl [(x, .inr (6, [a0, a1, .ref xj, .int (nI n), .ref xn, a5, a6, a7, a8, a9, a10, a11])), (xj, .inl (cJ, 6, .inr (.inr (.inr (.inr jr))))), (xn, .inr (1, [.int y, b1, b2, b3, b4, .ref ns, .ref ne, b7, b8])), (ns, .inl (cI, 6, .inl sp)), (ne, .inl (cI, 6, .inl en))] H ∧ jJ D n jr jk jg js jm H) (fun r => r = jtl (ckn (jk j)) (jg j) (js j) (sp j) (jmo (jm j) y) (fw j y - en j + 100) (en j) (nI (jyb (fun i => fw j (y + nI i)) 10)) cq) := by
  intro sz
  refine Met.ofW (cc := cX6_jar) (maxL := 4) (ret := (some .int)) (by decide) rfl ?_
  intro p e s m args below meth c s₁ B hml hv
  obtain ⟨rfl, hsz, hT, ⟨hPr, hJ⟩⟩ := hv
  have hK := hT.1
  have hx := B.exec
  have hb := B.bytes
  have hr := B.returns
  have hts := atoms_spec (ws := wsX6_jar) B.pre
  have hown : s.vm.findClass RX6 = some m.cls := findClass_of_methodNamed B.named
  have hlocks := B.notSynchronized
  subst hsz
  generalize hAe : va_A [] s.heap.size = A
  have hA : ∀ q : Nat, s.heap.size ≤ q → A q := fun q h => by rw [← hAe]; exact Or.inr h
  have hS : va_S A s.heap s.heap [] := va_S.rf
  have hl := lv_entry ([.ref x, .int (nI j), .int (nI cq)] : List Value) (n := 4) (Nat.le_of_ble_eq_true rfl)
  rw [lg_entry_eq]
  generalize (lg_sl ([.ref x, .int (nI j), .int (nI cq)]) ++ List.replicate (4 - (lg_sl ([.ref x, .int (nI j), .int (nI cq)])).length) Slot.unset).toArray = ls at hl ⊢
  have hl : lv_has ls 4 [(0, .ref x), (1, .int (nI j)), (2, .int (nI cq))] := hl
  rcases (show cq = 0 ∨ cq = 1 ∨ cq = 2 ∨ cq = 3 ∨ cq = 4 ∨ cq = 5 ∨ cq = 6 ∨ cq = 7 from by omega) with rfl | rfl | rfl | rfl | rfl | rfl | rfl | rfl
  · skip
    have hl : lv_has ls 4 [(0, .ref x), (1, .int (nI j)), (2, .int 0)] := hl
    refine lv_aload_n hx hb dX6_jar_0 rfl (lv_at hl 0 rfl) ?_
    refine lv_iload_n hx hb dX6_jar_1 rfl (lv_at hl 1 rfl) ?_
    have hPc_1 := hPr.sub (ws' := [(x, .inr (6, [a0, a1, .ref xj, .int (nI n), .ref xn, a5, a6, a7, a8, a9, a10, a11])), (xj, .inl (cJ, 6, .inr (.inr (.inr (.inr jr)))))]) [0, 1] rfl
    refine jcallq (va_runV (As := [.int (nI j)]) (rest := []) ⟨hx, hb, hml, hown, hts⟩ (c_find_ok l D cI cJ x xj n a0 a1 (.ref xn) a5 a6 a7 a8 a9 a10 a11 jr j (by omega) (by omega) s.heap.size) (cwV 1 hts gX6_jar_X6_find rfl rfl rfl (by decide +kernel) ⟨Nat.le_of_ble_eq_true rfl, Nat.le_of_ble_eq_true rfl⟩) (jpreV hT (va_recv hK hPr (ci := 6) (q0 := 0) rfl rfl) hPc_1) rfl rfl hl.1 rfl (lv_room (Nat.le_of_ble_eq_true rfl)) dX6_jar_2 ⟨(Nat.zero_le _), (Nat.zero_le _)⟩) hS hA (fun r_2 H locs hw_r_2 hkq hS => ?_)
    try dsimp only at hw_r_2
    have hPr := jkeep hPr hkq
    have hJ := hJ.kept hkq
    obtain ⟨hk5, a, ea9, hat⟩ := hJ j (by omega)
    rw [ea9] at hw_r_2
    subst hw_r_2
    try dsimp only [va_rf]
    refine lv_astore_n (lv' := [(3, .ref a), (0, .ref x), (1, .int (nI j)), (2, .int 0)]) hx hb dX6_jar_5 rfl hl (by decide) rfl (fun ls hl => ?_)
    refine lv_aload_n hx hb dX6_jar_6 rfl (lv_at hl 0 rfl) ?_
    refine lv_ifnonnull (tgt := 13) hx hb dX6_jar_7 (by decide) ?_
    refine lv_iload_n hx hb dX6_jar_13 rfl (lv_at hl 3 rfl) ?_
    refine lv_tableIn (off := 46) (tgt := 60) hx hb dX6_jar_14 (by decide) (by decide) (by decide) (by decide) ?_
    rcases hk5 with hk5 | hk5 | hk5 | hk5 | hk5
    · skip
      rw [hk5] at hat
      have hPj := jone hat
      refine lv_aload_n hx hb dX6_jar_60 rfl (lv_at hl 0 rfl) ?_
      refine jcalli (va_runU (As := []) (rest := []) ⟨hx, hb, hml, hown, hts⟩ (c_kindNumber_0 l D cI cJ a H.size) (va_cwO 0 hts gX6_jar_X0_kindNumber_u78X0 rfl rfl rfl (List.mem_of_getElem? (i := 19) (show _ = some (Cond.code yX3_kindNumber cX3_kindNumber 1 (some .int)) from rfl)) (by decide +kernel) ⟨Nat.le_of_ble_eq_true rfl, Nat.le_of_ble_eq_true rfl⟩) (jpreV hT (va_recv hK hPj (ci := 0) (q0 := 0) rfl rfl) trivial) rfl rfl hl.1 rfl (lv_room (Nat.le_of_ble_eq_true rfl)) dX6_jar_61 ⟨(Nat.zero_le _), (Nat.zero_le _)⟩) hS hA (fun r_3 H locs hw_r_3 hkq hS => ?_)
      try dsimp only at hw_r_3
      have hPr := jkeep hPr hkq
      have hPj := jkeep hPj hkq
      have hJ := hJ.kept hkq
      subst hw_r_3
      exact W.iret (v := ckn 0) hx hb hr (fun t ht hW => ⟨⟨ckn 0, (), rfl, (by rw [hk5]; rfl), trivial⟩, hS.F ht⟩) hS.2.2 dX6_jar_64
    · skip
      rw [hk5] at hat
      have hPj := jone hat
      refine lv_aload_n hx hb dX6_jar_60 rfl (lv_at hl 0 rfl) ?_
      refine jcalli (va_runU (As := []) (rest := []) ⟨hx, hb, hml, hown, hts⟩ (c_kindNumber_2 l D cI cJ a H.size) (va_cwO 0 hts gX6_jar_X2_kindNumber_u78X2 rfl rfl rfl (List.mem_of_getElem? (i := 19) (show _ = some (Cond.code yX3_kindNumber cX3_kindNumber 1 (some .int)) from rfl)) (by decide +kernel) ⟨Nat.le_of_ble_eq_true rfl, Nat.le_of_ble_eq_true rfl⟩) (jpreV hT (va_recv hK hPj (ci := 2) (q0 := 0) rfl rfl) trivial) rfl rfl hl.1 rfl (lv_room (Nat.le_of_ble_eq_true rfl)) dX6_jar_61 ⟨(Nat.zero_le _), (Nat.zero_le _)⟩) hS hA (fun r_4 H locs hw_r_4 hkq hS => ?_)
      try dsimp only at hw_r_4
      have hPr := jkeep hPr hkq
      have hPj := jkeep hPj hkq
      have hJ := hJ.kept hkq
      subst hw_r_4
      exact W.iret (v := ckn 2) hx hb hr (fun t ht hW => ⟨⟨ckn 2, (), rfl, (by rw [hk5]; rfl), trivial⟩, hS.F ht⟩) hS.2.2 dX6_jar_64
    · skip
      rw [hk5] at hat
      have hPj := jone hat
      refine lv_aload_n hx hb dX6_jar_60 rfl (lv_at hl 0 rfl) ?_
      refine jcalli (va_runV (As := []) (rest := []) ⟨hx, hb, hml, hown, hts⟩ (c_kindNumber_3 l D cI cJ a H.size) (cwV 0 hts gX6_jar_X3_kindNumber rfl rfl rfl (by decide +kernel) ⟨Nat.le_of_ble_eq_true rfl, Nat.le_of_ble_eq_true rfl⟩) (jpreV hT (va_recv hK hPj (ci := 3) (q0 := 0) rfl rfl) trivial) rfl rfl hl.1 rfl (lv_room (Nat.le_of_ble_eq_true rfl)) dX6_jar_61 ⟨(Nat.zero_le _), (Nat.zero_le _)⟩) hS hA (fun r_5 H locs hw_r_5 hkq hS => ?_)
      try dsimp only at hw_r_5
      have hPr := jkeep hPr hkq
      have hPj := jkeep hPj hkq
      have hJ := hJ.kept hkq
      subst hw_r_5
      exact W.iret (v := ckn 3) hx hb hr (fun t ht hW => ⟨⟨ckn 3, (), rfl, (by rw [hk5]; rfl), trivial⟩, hS.F ht⟩) hS.2.2 dX6_jar_64
    · skip
      rw [hk5] at hat
      have hPj := jone hat
      refine lv_aload_n hx hb dX6_jar_60 rfl (lv_at hl 0 rfl) ?_
      refine jcalli (va_runU (As := []) (rest := []) ⟨hx, hb, hml, hown, hts⟩ (c_kindNumber_4 l D cI cJ a H.size) (va_cwO 0 hts gX6_jar_X4_kindNumber_u78X4 rfl rfl rfl (List.mem_of_getElem? (i := 19) (show _ = some (Cond.code yX3_kindNumber cX3_kindNumber 1 (some .int)) from rfl)) (by decide +kernel) ⟨Nat.le_of_ble_eq_true rfl, Nat.le_of_ble_eq_true rfl⟩) (jpreV hT (va_recv hK hPj (ci := 4) (q0 := 0) rfl rfl) trivial) rfl rfl hl.1 rfl (lv_room (Nat.le_of_ble_eq_true rfl)) dX6_jar_61 ⟨(Nat.zero_le _), (Nat.zero_le _)⟩) hS hA (fun r_6 H locs hw_r_6 hkq hS => ?_)
      try dsimp only at hw_r_6
      have hPr := jkeep hPr hkq
      have hPj := jkeep hPj hkq
      have hJ := hJ.kept hkq
      subst hw_r_6
      exact W.iret (v := ckn 4) hx hb hr (fun t ht hW => ⟨⟨ckn 4, (), rfl, (by rw [hk5]; rfl), trivial⟩, hS.F ht⟩) hS.2.2 dX6_jar_64
    · skip
      rw [hk5] at hat
      have hPj := jone hat
      refine lv_aload_n hx hb dX6_jar_60 rfl (lv_at hl 0 rfl) ?_
      refine jcalli (va_runU (As := []) (rest := []) ⟨hx, hb, hml, hown, hts⟩ (c_kindNumber_5 l D cI cJ a H.size) (va_cwO 0 hts gX6_jar_X5_kindNumber_u78X5 rfl rfl rfl (List.mem_of_getElem? (i := 19) (show _ = some (Cond.code yX3_kindNumber cX3_kindNumber 1 (some .int)) from rfl)) (by decide +kernel) ⟨Nat.le_of_ble_eq_true rfl, Nat.le_of_ble_eq_true rfl⟩) (jpreV hT (va_recv hK hPj (ci := 5) (q0 := 0) rfl rfl) trivial) rfl rfl hl.1 rfl (lv_room (Nat.le_of_ble_eq_true rfl)) dX6_jar_61 ⟨(Nat.zero_le _), (Nat.zero_le _)⟩) hS hA (fun r_7 H locs hw_r_7 hkq hS => ?_)
      try dsimp only at hw_r_7
      have hPr := jkeep hPr hkq
      have hPj := jkeep hPj hkq
      have hJ := hJ.kept hkq
      subst hw_r_7
      exact W.iret (v := ckn 5) hx hb hr (fun t ht hW => ⟨⟨ckn 5, (), rfl, (by rw [hk5]; rfl), trivial⟩, hS.F ht⟩) hS.2.2 dX6_jar_64
  · skip
    have hl : lv_has ls 4 [(0, .ref x), (1, .int (nI j)), (2, .int 1)] := hl
    refine lv_aload_n hx hb dX6_jar_0 rfl (lv_at hl 0 rfl) ?_
    refine lv_iload_n hx hb dX6_jar_1 rfl (lv_at hl 1 rfl) ?_
    have hPc_8 := hPr.sub (ws' := [(x, .inr (6, [a0, a1, .ref xj, .int (nI n), .ref xn, a5, a6, a7, a8, a9, a10, a11])), (xj, .inl (cJ, 6, .inr (.inr (.inr (.inr jr)))))]) [0, 1] rfl
    refine jcallq (va_runV (As := [.int (nI j)]) (rest := []) ⟨hx, hb, hml, hown, hts⟩ (c_find_ok l D cI cJ x xj n a0 a1 (.ref xn) a5 a6 a7 a8 a9 a10 a11 jr j (by omega) (by omega) s.heap.size) (cwV 1 hts gX6_jar_X6_find rfl rfl rfl (by decide +kernel) ⟨Nat.le_of_ble_eq_true rfl, Nat.le_of_ble_eq_true rfl⟩) (jpreV hT (va_recv hK hPr (ci := 6) (q0 := 0) rfl rfl) hPc_8) rfl rfl hl.1 rfl (lv_room (Nat.le_of_ble_eq_true rfl)) dX6_jar_2 ⟨(Nat.zero_le _), (Nat.zero_le _)⟩) hS hA (fun r_9 H locs hw_r_9 hkq hS => ?_)
    try dsimp only at hw_r_9
    have hPr := jkeep hPr hkq
    have hJ := hJ.kept hkq
    obtain ⟨hk5, a, ea9, hat⟩ := hJ j (by omega)
    rw [ea9] at hw_r_9
    subst hw_r_9
    try dsimp only [va_rf]
    refine lv_astore_n (lv' := [(3, .ref a), (0, .ref x), (1, .int (nI j)), (2, .int 1)]) hx hb dX6_jar_5 rfl hl (by decide) rfl (fun ls hl => ?_)
    refine lv_aload_n hx hb dX6_jar_6 rfl (lv_at hl 0 rfl) ?_
    refine lv_ifnonnull (tgt := 13) hx hb dX6_jar_7 (by decide) ?_
    refine lv_iload_n hx hb dX6_jar_13 rfl (lv_at hl 3 rfl) ?_
    refine lv_tableIn (off := 51) (tgt := 65) hx hb dX6_jar_14 (by decide) (by decide) (by decide) (by decide) ?_
    rcases hk5 with hk5 | hk5 | hk5 | hk5 | hk5
    · skip
      rw [hk5] at hat
      have hPj := jone hat
      refine lv_aload_n hx hb dX6_jar_65 rfl (lv_at hl 0 rfl) ?_
      refine va_get (D := D) (ci := 0) (v := .int (jg j)) (C := RX0) (T := TX0) (N := 3) hx hb hts (fun w h => List.mem_cons_of_mem _ (List.mem_append_left _ (List.mem_append_left _ (List.mem_append_left _ (List.mem_append_left _ (List.mem_append_left _ (List.mem_append_left _ (List.mem_append_right _ h)))))))) hown hK hPj 0 rfl rfl 0 (by decide) (hts (Cond.fieldLink RX6 82 "JamDays$Jar" "good" "I") (List.mem_of_getElem? (i := 1) rfl)) (fun _ h9 => h9) rfl dX6_jar_66 ?_
      exact W.iret (v := jg j) hx hb hr (fun t ht hW => ⟨⟨jg j, (), rfl, rfl, trivial⟩, hS.F ht⟩) hS.2.2 dX6_jar_69
    · skip
      rw [hk5] at hat
      have hPj := jone hat
      refine lv_aload_n hx hb dX6_jar_65 rfl (lv_at hl 0 rfl) ?_
      refine va_get (D := D) (ci := 2) (v := .int (jg j)) (C := RX2) (T := TX2) (N := 3) hx hb hts (fun w h => List.mem_cons_of_mem _ (List.mem_append_left _ (List.mem_append_left _ (List.mem_append_left _ (List.mem_append_left _ (List.mem_append_left _ (List.mem_append_right _ h))))))) hown hK hPj 0 rfl rfl 0 (by decide) (hts (Cond.fieldLink RX6 82 "JamDays$Jar" "good" "I") (List.mem_of_getElem? (i := 1) rfl)) (fun _ h9 => h9) rfl dX6_jar_66 ?_
      exact W.iret (v := jg j) hx hb hr (fun t ht hW => ⟨⟨jg j, (), rfl, rfl, trivial⟩, hS.F ht⟩) hS.2.2 dX6_jar_69
    · skip
      rw [hk5] at hat
      have hPj := jone hat
      refine lv_aload_n hx hb dX6_jar_65 rfl (lv_at hl 0 rfl) ?_
      refine va_get (D := D) (ci := 3) (v := .int (jg j)) (C := RX3) (T := TX3) (N := 3) hx hb hts (fun w h => List.mem_cons_of_mem _ (List.mem_append_left _ (List.mem_append_left _ (List.mem_append_left _ (List.mem_append_left _ (List.mem_append_right _ h)))))) hown hK hPj 0 rfl rfl 0 (by decide) (hts (Cond.fieldLink RX6 82 "JamDays$Jar" "good" "I") (List.mem_of_getElem? (i := 1) rfl)) (fun _ h9 => h9) rfl dX6_jar_66 ?_
      exact W.iret (v := jg j) hx hb hr (fun t ht hW => ⟨⟨jg j, (), rfl, rfl, trivial⟩, hS.F ht⟩) hS.2.2 dX6_jar_69
    · skip
      rw [hk5] at hat
      have hPj := jone hat
      refine lv_aload_n hx hb dX6_jar_65 rfl (lv_at hl 0 rfl) ?_
      refine va_get (D := D) (ci := 4) (v := .int (jg j)) (C := RX4) (T := TX4) (N := 3) hx hb hts (fun w h => List.mem_cons_of_mem _ (List.mem_append_left _ (List.mem_append_left _ (List.mem_append_left _ (List.mem_append_right _ h))))) hown hK hPj 0 rfl rfl 0 (by decide) (hts (Cond.fieldLink RX6 82 "JamDays$Jar" "good" "I") (List.mem_of_getElem? (i := 1) rfl)) (fun _ h9 => h9) rfl dX6_jar_66 ?_
      exact W.iret (v := jg j) hx hb hr (fun t ht hW => ⟨⟨jg j, (), rfl, rfl, trivial⟩, hS.F ht⟩) hS.2.2 dX6_jar_69
    · skip
      rw [hk5] at hat
      have hPj := jone hat
      refine lv_aload_n hx hb dX6_jar_65 rfl (lv_at hl 0 rfl) ?_
      refine va_get (D := D) (ci := 5) (v := .int (jg j)) (C := RX5) (T := TX5) (N := 3) hx hb hts (fun w h => List.mem_cons_of_mem _ (List.mem_append_left _ (List.mem_append_left _ (List.mem_append_right _ h)))) hown hK hPj 0 rfl rfl 0 (by decide) (hts (Cond.fieldLink RX6 82 "JamDays$Jar" "good" "I") (List.mem_of_getElem? (i := 1) rfl)) (fun _ h9 => h9) rfl dX6_jar_66 ?_
      exact W.iret (v := jg j) hx hb hr (fun t ht hW => ⟨⟨jg j, (), rfl, rfl, trivial⟩, hS.F ht⟩) hS.2.2 dX6_jar_69
  · skip
    have hl : lv_has ls 4 [(0, .ref x), (1, .int (nI j)), (2, .int 2)] := hl
    refine lv_aload_n hx hb dX6_jar_0 rfl (lv_at hl 0 rfl) ?_
    refine lv_iload_n hx hb dX6_jar_1 rfl (lv_at hl 1 rfl) ?_
    have hPc_10 := hPr.sub (ws' := [(x, .inr (6, [a0, a1, .ref xj, .int (nI n), .ref xn, a5, a6, a7, a8, a9, a10, a11])), (xj, .inl (cJ, 6, .inr (.inr (.inr (.inr jr)))))]) [0, 1] rfl
    refine jcallq (va_runV (As := [.int (nI j)]) (rest := []) ⟨hx, hb, hml, hown, hts⟩ (c_find_ok l D cI cJ x xj n a0 a1 (.ref xn) a5 a6 a7 a8 a9 a10 a11 jr j (by omega) (by omega) s.heap.size) (cwV 1 hts gX6_jar_X6_find rfl rfl rfl (by decide +kernel) ⟨Nat.le_of_ble_eq_true rfl, Nat.le_of_ble_eq_true rfl⟩) (jpreV hT (va_recv hK hPr (ci := 6) (q0 := 0) rfl rfl) hPc_10) rfl rfl hl.1 rfl (lv_room (Nat.le_of_ble_eq_true rfl)) dX6_jar_2 ⟨(Nat.zero_le _), (Nat.zero_le _)⟩) hS hA (fun r_11 H locs hw_r_11 hkq hS => ?_)
    try dsimp only at hw_r_11
    have hPr := jkeep hPr hkq
    have hJ := hJ.kept hkq
    obtain ⟨hk5, a, ea9, hat⟩ := hJ j (by omega)
    rw [ea9] at hw_r_11
    subst hw_r_11
    try dsimp only [va_rf]
    refine lv_astore_n (lv' := [(3, .ref a), (0, .ref x), (1, .int (nI j)), (2, .int 2)]) hx hb dX6_jar_5 rfl hl (by decide) rfl (fun ls hl => ?_)
    refine lv_aload_n hx hb dX6_jar_6 rfl (lv_at hl 0 rfl) ?_
    refine lv_ifnonnull (tgt := 13) hx hb dX6_jar_7 (by decide) ?_
    refine lv_iload_n hx hb dX6_jar_13 rfl (lv_at hl 3 rfl) ?_
    refine lv_tableIn (off := 56) (tgt := 70) hx hb dX6_jar_14 (by decide) (by decide) (by decide) (by decide) ?_
    rcases hk5 with hk5 | hk5 | hk5 | hk5 | hk5
    · skip
      rw [hk5] at hat
      have hPj := jone hat
      refine lv_aload_n hx hb dX6_jar_70 rfl (lv_at hl 0 rfl) ?_
      refine va_get (D := D) (ci := 0) (v := .int (js j)) (C := RX0) (T := TX0) (N := 3) hx hb hts (fun w h => List.mem_cons_of_mem _ (List.mem_append_left _ (List.mem_append_left _ (List.mem_append_left _ (List.mem_append_left _ (List.mem_append_left _ (List.mem_append_left _ (List.mem_append_right _ h)))))))) hown hK hPj 0 rfl rfl 1 (by decide) (hts (Cond.fieldLink RX6 85 "JamDays$Jar" "sugar" "I") (List.mem_of_getElem? (i := 2) rfl)) (fun _ h9 => h9) rfl dX6_jar_71 ?_
      exact W.iret (v := js j) hx hb hr (fun t ht hW => ⟨⟨js j, (), rfl, rfl, trivial⟩, hS.F ht⟩) hS.2.2 dX6_jar_74
    · skip
      rw [hk5] at hat
      have hPj := jone hat
      refine lv_aload_n hx hb dX6_jar_70 rfl (lv_at hl 0 rfl) ?_
      refine va_get (D := D) (ci := 2) (v := .int (js j)) (C := RX2) (T := TX2) (N := 3) hx hb hts (fun w h => List.mem_cons_of_mem _ (List.mem_append_left _ (List.mem_append_left _ (List.mem_append_left _ (List.mem_append_left _ (List.mem_append_left _ (List.mem_append_right _ h))))))) hown hK hPj 0 rfl rfl 1 (by decide) (hts (Cond.fieldLink RX6 85 "JamDays$Jar" "sugar" "I") (List.mem_of_getElem? (i := 2) rfl)) (fun _ h9 => h9) rfl dX6_jar_71 ?_
      exact W.iret (v := js j) hx hb hr (fun t ht hW => ⟨⟨js j, (), rfl, rfl, trivial⟩, hS.F ht⟩) hS.2.2 dX6_jar_74
    · skip
      rw [hk5] at hat
      have hPj := jone hat
      refine lv_aload_n hx hb dX6_jar_70 rfl (lv_at hl 0 rfl) ?_
      refine va_get (D := D) (ci := 3) (v := .int (js j)) (C := RX3) (T := TX3) (N := 3) hx hb hts (fun w h => List.mem_cons_of_mem _ (List.mem_append_left _ (List.mem_append_left _ (List.mem_append_left _ (List.mem_append_left _ (List.mem_append_right _ h)))))) hown hK hPj 0 rfl rfl 1 (by decide) (hts (Cond.fieldLink RX6 85 "JamDays$Jar" "sugar" "I") (List.mem_of_getElem? (i := 2) rfl)) (fun _ h9 => h9) rfl dX6_jar_71 ?_
      exact W.iret (v := js j) hx hb hr (fun t ht hW => ⟨⟨js j, (), rfl, rfl, trivial⟩, hS.F ht⟩) hS.2.2 dX6_jar_74
    · skip
      rw [hk5] at hat
      have hPj := jone hat
      refine lv_aload_n hx hb dX6_jar_70 rfl (lv_at hl 0 rfl) ?_
      refine va_get (D := D) (ci := 4) (v := .int (js j)) (C := RX4) (T := TX4) (N := 3) hx hb hts (fun w h => List.mem_cons_of_mem _ (List.mem_append_left _ (List.mem_append_left _ (List.mem_append_left _ (List.mem_append_right _ h))))) hown hK hPj 0 rfl rfl 1 (by decide) (hts (Cond.fieldLink RX6 85 "JamDays$Jar" "sugar" "I") (List.mem_of_getElem? (i := 2) rfl)) (fun _ h9 => h9) rfl dX6_jar_71 ?_
      exact W.iret (v := js j) hx hb hr (fun t ht hW => ⟨⟨js j, (), rfl, rfl, trivial⟩, hS.F ht⟩) hS.2.2 dX6_jar_74
    · skip
      rw [hk5] at hat
      have hPj := jone hat
      refine lv_aload_n hx hb dX6_jar_70 rfl (lv_at hl 0 rfl) ?_
      refine va_get (D := D) (ci := 5) (v := .int (js j)) (C := RX5) (T := TX5) (N := 3) hx hb hts (fun w h => List.mem_cons_of_mem _ (List.mem_append_left _ (List.mem_append_left _ (List.mem_append_right _ h)))) hown hK hPj 0 rfl rfl 1 (by decide) (hts (Cond.fieldLink RX6 85 "JamDays$Jar" "sugar" "I") (List.mem_of_getElem? (i := 2) rfl)) (fun _ h9 => h9) rfl dX6_jar_71 ?_
      exact W.iret (v := js j) hx hb hr (fun t ht hW => ⟨⟨js j, (), rfl, rfl, trivial⟩, hS.F ht⟩) hS.2.2 dX6_jar_74
  · skip
    have hl : lv_has ls 4 [(0, .ref x), (1, .int (nI j)), (2, .int 3)] := hl
    refine lv_aload_n hx hb dX6_jar_0 rfl (lv_at hl 0 rfl) ?_
    refine lv_iload_n hx hb dX6_jar_1 rfl (lv_at hl 1 rfl) ?_
    have hPc_12 := hPr.sub (ws' := [(x, .inr (6, [a0, a1, .ref xj, .int (nI n), .ref xn, a5, a6, a7, a8, a9, a10, a11])), (xj, .inl (cJ, 6, .inr (.inr (.inr (.inr jr)))))]) [0, 1] rfl
    refine jcallq (va_runV (As := [.int (nI j)]) (rest := []) ⟨hx, hb, hml, hown, hts⟩ (c_find_ok l D cI cJ x xj n a0 a1 (.ref xn) a5 a6 a7 a8 a9 a10 a11 jr j (by omega) (by omega) s.heap.size) (cwV 1 hts gX6_jar_X6_find rfl rfl rfl (by decide +kernel) ⟨Nat.le_of_ble_eq_true rfl, Nat.le_of_ble_eq_true rfl⟩) (jpreV hT (va_recv hK hPr (ci := 6) (q0 := 0) rfl rfl) hPc_12) rfl rfl hl.1 rfl (lv_room (Nat.le_of_ble_eq_true rfl)) dX6_jar_2 ⟨(Nat.zero_le _), (Nat.zero_le _)⟩) hS hA (fun r_13 H locs hw_r_13 hkq hS => ?_)
    try dsimp only at hw_r_13
    have hPr := jkeep hPr hkq
    have hJ := hJ.kept hkq
    obtain ⟨hk5, a, ea9, hat⟩ := hJ j (by omega)
    rw [ea9] at hw_r_13
    subst hw_r_13
    try dsimp only [va_rf]
    refine lv_astore_n (lv' := [(3, .ref a), (0, .ref x), (1, .int (nI j)), (2, .int 3)]) hx hb dX6_jar_5 rfl hl (by decide) rfl (fun ls hl => ?_)
    refine lv_aload_n hx hb dX6_jar_6 rfl (lv_at hl 0 rfl) ?_
    refine lv_ifnonnull (tgt := 13) hx hb dX6_jar_7 (by decide) ?_
    refine lv_iload_n hx hb dX6_jar_13 rfl (lv_at hl 3 rfl) ?_
    refine lv_tableIn (off := 61) (tgt := 75) hx hb dX6_jar_14 (by decide) (by decide) (by decide) (by decide) ?_
    refine lv_aload_n hx hb dX6_jar_75 rfl (lv_at hl 1 rfl) ?_
    refine va_get (D := D) (ci := 6) (v := .ref xn) (C := RX6) (T := TX6) (N := 12) hx hb hts (fun w h => List.mem_cons_of_mem _ (List.mem_append_left _ (List.mem_append_right _ h))) hown hK hPr 0 rfl rfl 4 (by decide) (hts (Cond.fieldLink RX6 29 "JamDays" "now" "LJamDays$Days;") (List.mem_of_getElem? (i := 3) rfl)) (fun _ h9 => h9) rfl dX6_jar_76 ?_
    refine lv_iload_n hx hb dX6_jar_79 rfl (lv_at hl 2 rfl) ?_
    have hPc_14 := hPr.sub (ws' := [(xn, .inr (1, [.int y, b1, b2, b3, b4, .ref ns, .ref ne, b7, b8])), (ns, .inl (cI, 6, .inl sp))]) [2, 3] rfl
    refine jcalli (va_runV (As := [.int (nI j)]) (rest := []) ⟨hx, hb, hml, hown, hts⟩ (c_spoonsOf l D cI cJ xn ns (.int y) b1 b2 b3 b4 (.ref ne) b7 b8 sp j (by omega) H.size) (cwV 1 hts gX6_jar_X1_spoonsOf rfl rfl rfl (by decide +kernel) ⟨Nat.le_of_ble_eq_true rfl, Nat.le_of_ble_eq_true rfl⟩) (jpreV hT (va_recv hK hPr (ci := 1) (q0 := 2) rfl rfl) hPc_14) rfl rfl hl.1 rfl (lv_room (Nat.le_of_ble_eq_true rfl)) dX6_jar_80 ⟨(Nat.zero_le _), (Nat.zero_le _)⟩) hS hA (fun r_15 H locs hw_r_15 hkq hS => ?_)
    try dsimp only at hw_r_15
    have hPr := jkeep hPr hkq
    have hJ := hJ.kept hkq
    subst hw_r_15
    exact W.iret (v := sp j) hx hb hr (fun t ht hW => ⟨⟨sp j, (), rfl, rfl, trivial⟩, hS.F ht⟩) hS.2.2 dX6_jar_83
  · skip
    have hl : lv_has ls 4 [(0, .ref x), (1, .int (nI j)), (2, .int 4)] := hl
    refine lv_aload_n hx hb dX6_jar_0 rfl (lv_at hl 0 rfl) ?_
    refine lv_iload_n hx hb dX6_jar_1 rfl (lv_at hl 1 rfl) ?_
    have hPc_16 := hPr.sub (ws' := [(x, .inr (6, [a0, a1, .ref xj, .int (nI n), .ref xn, a5, a6, a7, a8, a9, a10, a11])), (xj, .inl (cJ, 6, .inr (.inr (.inr (.inr jr)))))]) [0, 1] rfl
    refine jcallq (va_runV (As := [.int (nI j)]) (rest := []) ⟨hx, hb, hml, hown, hts⟩ (c_find_ok l D cI cJ x xj n a0 a1 (.ref xn) a5 a6 a7 a8 a9 a10 a11 jr j (by omega) (by omega) s.heap.size) (cwV 1 hts gX6_jar_X6_find rfl rfl rfl (by decide +kernel) ⟨Nat.le_of_ble_eq_true rfl, Nat.le_of_ble_eq_true rfl⟩) (jpreV hT (va_recv hK hPr (ci := 6) (q0 := 0) rfl rfl) hPc_16) rfl rfl hl.1 rfl (lv_room (Nat.le_of_ble_eq_true rfl)) dX6_jar_2 ⟨(Nat.zero_le _), (Nat.zero_le _)⟩) hS hA (fun r_17 H locs hw_r_17 hkq hS => ?_)
    try dsimp only at hw_r_17
    have hPr := jkeep hPr hkq
    have hJ := hJ.kept hkq
    obtain ⟨hk5, a, ea9, hat⟩ := hJ j (by omega)
    rw [ea9] at hw_r_17
    subst hw_r_17
    try dsimp only [va_rf]
    refine lv_astore_n (lv' := [(3, .ref a), (0, .ref x), (1, .int (nI j)), (2, .int 4)]) hx hb dX6_jar_5 rfl hl (by decide) rfl (fun ls hl => ?_)
    refine lv_aload_n hx hb dX6_jar_6 rfl (lv_at hl 0 rfl) ?_
    refine lv_ifnonnull (tgt := 13) hx hb dX6_jar_7 (by decide) ?_
    refine lv_iload_n hx hb dX6_jar_13 rfl (lv_at hl 3 rfl) ?_
    refine lv_tableIn (off := 70) (tgt := 84) hx hb dX6_jar_14 (by decide) (by decide) (by decide) (by decide) ?_
    rcases hk5 with hk5 | hk5 | hk5 | hk5 | hk5
    · skip
      rw [hk5] at hat
      have hPj := jone hat
      refine lv_aload_n hx hb dX6_jar_84 rfl (lv_at hl 0 rfl) ?_
      refine lv_aload_n hx hb dX6_jar_85 rfl (lv_at hl 1 rfl) ?_
      refine va_get (D := D) (ci := 6) (v := .ref xn) (C := RX6) (T := TX6) (N := 12) hx hb hts (fun w h => List.mem_cons_of_mem _ (List.mem_append_left _ (List.mem_append_right _ h))) hown hK hPr 0 rfl rfl 4 (by decide) (hts (Cond.fieldLink RX6 29 "JamDays" "now" "LJamDays$Days;") (List.mem_of_getElem? (i := 3) rfl)) (fun _ h9 => h9) rfl dX6_jar_86 ?_
      refine va_get (D := D) (ci := 1) (v := .int y) (C := RX1) (T := TX1) (N := 9) hx hb hts (fun w h => List.mem_cons_of_mem _ (List.mem_append_right _ h)) hown hK hPr 2 rfl rfl 0 (by decide) (hts (Cond.fieldLink RX6 91 "JamDays$Days" "year" "I") (List.mem_of_getElem? (i := 4) rfl)) (fun _ h9 => h9) rfl dX6_jar_89 ?_
      have hPc_18 := hPj.sub (ws' := [(a, .inr (0, [.int (jg j), .int (js j), .int (jm j)]))]) [0] rfl
      refine jcalli (va_runU (As := [.int y]) (rest := []) ⟨hx, hb, hml, hown, hts⟩ (c_mouldIn_0 l D cI cJ a (jg j) (js j) (jm j) y H.size) (va_cwU 1 hts gX6_jar_X3_mouldIn_u94X0 rfl rfl rfl rfl (by decide +kernel) ⟨Nat.le_of_ble_eq_true rfl, Nat.le_of_ble_eq_true rfl⟩) (jpreV hT (va_recv hK hPj (ci := 0) (q0 := 0) rfl rfl) hPc_18) rfl rfl hl.1 rfl (lv_room (Nat.le_of_ble_eq_true rfl)) dX6_jar_92 ⟨(Nat.zero_le _), (Nat.zero_le _)⟩) hS hA (fun r_19 H locs hw_r_19 hkq hS => ?_)
      try dsimp only at hw_r_19
      have hPr := jkeep hPr hkq
      have hPj := jkeep hPj hkq
      have hJ := hJ.kept hkq
      subst hw_r_19
      exact W.iret (v := jmo (jm j) y) hx hb hr (fun t ht hW => ⟨⟨jmo (jm j) y, (), rfl, rfl, trivial⟩, hS.F ht⟩) hS.2.2 dX6_jar_95
    · skip
      rw [hk5] at hat
      have hPj := jone hat
      refine lv_aload_n hx hb dX6_jar_84 rfl (lv_at hl 0 rfl) ?_
      refine lv_aload_n hx hb dX6_jar_85 rfl (lv_at hl 1 rfl) ?_
      refine va_get (D := D) (ci := 6) (v := .ref xn) (C := RX6) (T := TX6) (N := 12) hx hb hts (fun w h => List.mem_cons_of_mem _ (List.mem_append_left _ (List.mem_append_right _ h))) hown hK hPr 0 rfl rfl 4 (by decide) (hts (Cond.fieldLink RX6 29 "JamDays" "now" "LJamDays$Days;") (List.mem_of_getElem? (i := 3) rfl)) (fun _ h9 => h9) rfl dX6_jar_86 ?_
      refine va_get (D := D) (ci := 1) (v := .int y) (C := RX1) (T := TX1) (N := 9) hx hb hts (fun w h => List.mem_cons_of_mem _ (List.mem_append_right _ h)) hown hK hPr 2 rfl rfl 0 (by decide) (hts (Cond.fieldLink RX6 91 "JamDays$Days" "year" "I") (List.mem_of_getElem? (i := 4) rfl)) (fun _ h9 => h9) rfl dX6_jar_89 ?_
      have hPc_20 := hPj.sub (ws' := [(a, .inr (2, [.int (jg j), .int (js j), .int (jm j)]))]) [0] rfl
      refine jcalli (va_runU (As := [.int y]) (rest := []) ⟨hx, hb, hml, hown, hts⟩ (c_mouldIn_2 l D cI cJ a (jg j) (js j) (jm j) y H.size) (va_cwU 1 hts gX6_jar_X3_mouldIn_u94X2 rfl rfl rfl rfl (by decide +kernel) ⟨Nat.le_of_ble_eq_true rfl, Nat.le_of_ble_eq_true rfl⟩) (jpreV hT (va_recv hK hPj (ci := 2) (q0 := 0) rfl rfl) hPc_20) rfl rfl hl.1 rfl (lv_room (Nat.le_of_ble_eq_true rfl)) dX6_jar_92 ⟨(Nat.zero_le _), (Nat.zero_le _)⟩) hS hA (fun r_21 H locs hw_r_21 hkq hS => ?_)
      try dsimp only at hw_r_21
      have hPr := jkeep hPr hkq
      have hPj := jkeep hPj hkq
      have hJ := hJ.kept hkq
      subst hw_r_21
      exact W.iret (v := jmo (jm j) y) hx hb hr (fun t ht hW => ⟨⟨jmo (jm j) y, (), rfl, rfl, trivial⟩, hS.F ht⟩) hS.2.2 dX6_jar_95
    · skip
      rw [hk5] at hat
      have hPj := jone hat
      refine lv_aload_n hx hb dX6_jar_84 rfl (lv_at hl 0 rfl) ?_
      refine lv_aload_n hx hb dX6_jar_85 rfl (lv_at hl 1 rfl) ?_
      refine va_get (D := D) (ci := 6) (v := .ref xn) (C := RX6) (T := TX6) (N := 12) hx hb hts (fun w h => List.mem_cons_of_mem _ (List.mem_append_left _ (List.mem_append_right _ h))) hown hK hPr 0 rfl rfl 4 (by decide) (hts (Cond.fieldLink RX6 29 "JamDays" "now" "LJamDays$Days;") (List.mem_of_getElem? (i := 3) rfl)) (fun _ h9 => h9) rfl dX6_jar_86 ?_
      refine va_get (D := D) (ci := 1) (v := .int y) (C := RX1) (T := TX1) (N := 9) hx hb hts (fun w h => List.mem_cons_of_mem _ (List.mem_append_right _ h)) hown hK hPr 2 rfl rfl 0 (by decide) (hts (Cond.fieldLink RX6 91 "JamDays$Days" "year" "I") (List.mem_of_getElem? (i := 4) rfl)) (fun _ h9 => h9) rfl dX6_jar_89 ?_
      have hPc_22 := hPj.sub (ws' := [(a, .inr (3, [.int (jg j), .int (js j), .int (jm j)]))]) [0] rfl
      refine jcalli (va_runV (As := [.int y]) (rest := []) ⟨hx, hb, hml, hown, hts⟩ (c_mouldIn_3 l D cI cJ a (jg j) (js j) (jm j) y H.size) (cwV 1 hts gX6_jar_X3_mouldIn rfl rfl rfl (by decide +kernel) ⟨Nat.le_of_ble_eq_true rfl, Nat.le_of_ble_eq_true rfl⟩) (jpreV hT (va_recv hK hPj (ci := 3) (q0 := 0) rfl rfl) hPc_22) rfl rfl hl.1 rfl (lv_room (Nat.le_of_ble_eq_true rfl)) dX6_jar_92 ⟨(Nat.zero_le _), (Nat.zero_le _)⟩) hS hA (fun r_23 H locs hw_r_23 hkq hS => ?_)
      try dsimp only at hw_r_23
      have hPr := jkeep hPr hkq
      have hPj := jkeep hPj hkq
      have hJ := hJ.kept hkq
      subst hw_r_23
      exact W.iret (v := jmo (jm j) y) hx hb hr (fun t ht hW => ⟨⟨jmo (jm j) y, (), rfl, rfl, trivial⟩, hS.F ht⟩) hS.2.2 dX6_jar_95
    · skip
      rw [hk5] at hat
      have hPj := jone hat
      refine lv_aload_n hx hb dX6_jar_84 rfl (lv_at hl 0 rfl) ?_
      refine lv_aload_n hx hb dX6_jar_85 rfl (lv_at hl 1 rfl) ?_
      refine va_get (D := D) (ci := 6) (v := .ref xn) (C := RX6) (T := TX6) (N := 12) hx hb hts (fun w h => List.mem_cons_of_mem _ (List.mem_append_left _ (List.mem_append_right _ h))) hown hK hPr 0 rfl rfl 4 (by decide) (hts (Cond.fieldLink RX6 29 "JamDays" "now" "LJamDays$Days;") (List.mem_of_getElem? (i := 3) rfl)) (fun _ h9 => h9) rfl dX6_jar_86 ?_
      refine va_get (D := D) (ci := 1) (v := .int y) (C := RX1) (T := TX1) (N := 9) hx hb hts (fun w h => List.mem_cons_of_mem _ (List.mem_append_right _ h)) hown hK hPr 2 rfl rfl 0 (by decide) (hts (Cond.fieldLink RX6 91 "JamDays$Days" "year" "I") (List.mem_of_getElem? (i := 4) rfl)) (fun _ h9 => h9) rfl dX6_jar_89 ?_
      have hPc_24 := hPj.sub (ws' := [(a, .inr (4, [.int (jg j), .int (js j), .int (jm j)]))]) [0] rfl
      refine jcalli (va_runU (As := [.int y]) (rest := []) ⟨hx, hb, hml, hown, hts⟩ (c_mouldIn_4 l D cI cJ a (jg j) (js j) (jm j) y H.size) (va_cwU 1 hts gX6_jar_X3_mouldIn_u94X4 rfl rfl rfl rfl (by decide +kernel) ⟨Nat.le_of_ble_eq_true rfl, Nat.le_of_ble_eq_true rfl⟩) (jpreV hT (va_recv hK hPj (ci := 4) (q0 := 0) rfl rfl) hPc_24) rfl rfl hl.1 rfl (lv_room (Nat.le_of_ble_eq_true rfl)) dX6_jar_92 ⟨(Nat.zero_le _), (Nat.zero_le _)⟩) hS hA (fun r_25 H locs hw_r_25 hkq hS => ?_)
      try dsimp only at hw_r_25
      have hPr := jkeep hPr hkq
      have hPj := jkeep hPj hkq
      have hJ := hJ.kept hkq
      subst hw_r_25
      exact W.iret (v := jmo (jm j) y) hx hb hr (fun t ht hW => ⟨⟨jmo (jm j) y, (), rfl, rfl, trivial⟩, hS.F ht⟩) hS.2.2 dX6_jar_95
    · skip
      rw [hk5] at hat
      have hPj := jone hat
      refine lv_aload_n hx hb dX6_jar_84 rfl (lv_at hl 0 rfl) ?_
      refine lv_aload_n hx hb dX6_jar_85 rfl (lv_at hl 1 rfl) ?_
      refine va_get (D := D) (ci := 6) (v := .ref xn) (C := RX6) (T := TX6) (N := 12) hx hb hts (fun w h => List.mem_cons_of_mem _ (List.mem_append_left _ (List.mem_append_right _ h))) hown hK hPr 0 rfl rfl 4 (by decide) (hts (Cond.fieldLink RX6 29 "JamDays" "now" "LJamDays$Days;") (List.mem_of_getElem? (i := 3) rfl)) (fun _ h9 => h9) rfl dX6_jar_86 ?_
      refine va_get (D := D) (ci := 1) (v := .int y) (C := RX1) (T := TX1) (N := 9) hx hb hts (fun w h => List.mem_cons_of_mem _ (List.mem_append_right _ h)) hown hK hPr 2 rfl rfl 0 (by decide) (hts (Cond.fieldLink RX6 91 "JamDays$Days" "year" "I") (List.mem_of_getElem? (i := 4) rfl)) (fun _ h9 => h9) rfl dX6_jar_89 ?_
      have hPc_26 := hPj.sub (ws' := [(a, .inr (5, [.int (jg j), .int (js j), .int (jm j)]))]) [0] rfl
      refine jcalli (va_runU (As := [.int y]) (rest := []) ⟨hx, hb, hml, hown, hts⟩ (c_mouldIn_5 l D cI cJ a (jg j) (js j) (jm j) y H.size) (va_cwU 1 hts gX6_jar_X3_mouldIn_u94X5 rfl rfl rfl rfl (by decide +kernel) ⟨Nat.le_of_ble_eq_true rfl, Nat.le_of_ble_eq_true rfl⟩) (jpreV hT (va_recv hK hPj (ci := 5) (q0 := 0) rfl rfl) hPc_26) rfl rfl hl.1 rfl (lv_room (Nat.le_of_ble_eq_true rfl)) dX6_jar_92 ⟨(Nat.zero_le _), (Nat.zero_le _)⟩) hS hA (fun r_27 H locs hw_r_27 hkq hS => ?_)
      try dsimp only at hw_r_27
      have hPr := jkeep hPr hkq
      have hPj := jkeep hPj hkq
      have hJ := hJ.kept hkq
      subst hw_r_27
      exact W.iret (v := jmo (jm j) y) hx hb hr (fun t ht hW => ⟨⟨jmo (jm j) y, (), rfl, rfl, trivial⟩, hS.F ht⟩) hS.2.2 dX6_jar_95
  · skip
    have hl : lv_has ls 4 [(0, .ref x), (1, .int (nI j)), (2, .int 5)] := hl
    refine lv_aload_n hx hb dX6_jar_0 rfl (lv_at hl 0 rfl) ?_
    refine lv_iload_n hx hb dX6_jar_1 rfl (lv_at hl 1 rfl) ?_
    have hPc_28 := hPr.sub (ws' := [(x, .inr (6, [a0, a1, .ref xj, .int (nI n), .ref xn, a5, a6, a7, a8, a9, a10, a11])), (xj, .inl (cJ, 6, .inr (.inr (.inr (.inr jr)))))]) [0, 1] rfl
    refine jcallq (va_runV (As := [.int (nI j)]) (rest := []) ⟨hx, hb, hml, hown, hts⟩ (c_find_ok l D cI cJ x xj n a0 a1 (.ref xn) a5 a6 a7 a8 a9 a10 a11 jr j (by omega) (by omega) s.heap.size) (cwV 1 hts gX6_jar_X6_find rfl rfl rfl (by decide +kernel) ⟨Nat.le_of_ble_eq_true rfl, Nat.le_of_ble_eq_true rfl⟩) (jpreV hT (va_recv hK hPr (ci := 6) (q0 := 0) rfl rfl) hPc_28) rfl rfl hl.1 rfl (lv_room (Nat.le_of_ble_eq_true rfl)) dX6_jar_2 ⟨(Nat.zero_le _), (Nat.zero_le _)⟩) hS hA (fun r_29 H locs hw_r_29 hkq hS => ?_)
    try dsimp only at hw_r_29
    have hPr := jkeep hPr hkq
    have hJ := hJ.kept hkq
    obtain ⟨hk5, a, ea9, hat⟩ := hJ j (by omega)
    rw [ea9] at hw_r_29
    subst hw_r_29
    try dsimp only [va_rf]
    refine lv_astore_n (lv' := [(3, .ref a), (0, .ref x), (1, .int (nI j)), (2, .int 5)]) hx hb dX6_jar_5 rfl hl (by decide) rfl (fun ls hl => ?_)
    refine lv_aload_n hx hb dX6_jar_6 rfl (lv_at hl 0 rfl) ?_
    refine lv_ifnonnull (tgt := 13) hx hb dX6_jar_7 (by decide) ?_
    refine lv_iload_n hx hb dX6_jar_13 rfl (lv_at hl 3 rfl) ?_
    refine lv_tableIn (off := 82) (tgt := 96) hx hb dX6_jar_14 (by decide) (by decide) (by decide) (by decide) ?_
    refine lv_aload_n hx hb dX6_jar_96 rfl (lv_at hl 1 rfl) ?_
    refine lv_iload_n hx hb dX6_jar_97 rfl (lv_at hl 2 rfl) ?_
    have hPc_30 := hPr.sub (ws' := [(x, .inr (6, [a0, a1, .ref xj, .int (nI n), .ref xn, a5, a6, a7, a8, a9, a10, a11])), (xj, .inl (cJ, 6, .inr (.inr (.inr (.inr jr))))), (xn, .inr (1, [.int y, b1, b2, b3, b4, .ref ns, .ref ne, b7, b8])), (ne, .inl (cI, 6, .inl en))]) [0, 1, 2, 4] rfl
    refine jcalli (va_runV (As := [.int (nI j)]) (rest := []) ⟨hx, hb, hml, hown, hts⟩ (c_nextWorth l D cI cJ x xj xn ne n a0 a1 a5 a6 a7 a8 a9 a10 a11 b1 b2 b3 b4 (.ref ns) b7 b8 jr jk jg js jm fw en y j hj hn6 hfw H.size) (cwV 1 hts gX6_jar_X6_nextWorth rfl rfl rfl (by decide +kernel) ⟨Nat.le_of_ble_eq_true rfl, Nat.le_of_ble_eq_true rfl⟩) (jpreV hT (va_recv hK hPr (ci := 6) (q0 := 0) rfl rfl) ⟨hPc_30, hJ⟩) rfl rfl hl.1 rfl (lv_room (Nat.le_of_ble_eq_true rfl)) dX6_jar_98 ⟨(Nat.zero_le _), (Nat.zero_le _)⟩) hS hA (fun r_31 H locs hw_r_31 hkq hS => ?_)
    try dsimp only at hw_r_31
    have hPr := jkeep hPr hkq
    have hJ := hJ.kept hkq
    subst hw_r_31
    refine lv_bipush (v := 100) hx hb dX6_jar_101 (by decide) ?_
    refine lv_iadd hx hb dX6_jar_103 ?_
    exact W.iret (v := (fw j y - en j) + 100) hx hb hr (fun t ht hW => ⟨⟨(fw j y - en j) + 100, (), rfl, rfl, trivial⟩, hS.F ht⟩) hS.2.2 dX6_jar_104
  · skip
    have hl : lv_has ls 4 [(0, .ref x), (1, .int (nI j)), (2, .int 6)] := hl
    refine lv_aload_n hx hb dX6_jar_0 rfl (lv_at hl 0 rfl) ?_
    refine lv_iload_n hx hb dX6_jar_1 rfl (lv_at hl 1 rfl) ?_
    have hPc_32 := hPr.sub (ws' := [(x, .inr (6, [a0, a1, .ref xj, .int (nI n), .ref xn, a5, a6, a7, a8, a9, a10, a11])), (xj, .inl (cJ, 6, .inr (.inr (.inr (.inr jr)))))]) [0, 1] rfl
    refine jcallq (va_runV (As := [.int (nI j)]) (rest := []) ⟨hx, hb, hml, hown, hts⟩ (c_find_ok l D cI cJ x xj n a0 a1 (.ref xn) a5 a6 a7 a8 a9 a10 a11 jr j (by omega) (by omega) s.heap.size) (cwV 1 hts gX6_jar_X6_find rfl rfl rfl (by decide +kernel) ⟨Nat.le_of_ble_eq_true rfl, Nat.le_of_ble_eq_true rfl⟩) (jpreV hT (va_recv hK hPr (ci := 6) (q0 := 0) rfl rfl) hPc_32) rfl rfl hl.1 rfl (lv_room (Nat.le_of_ble_eq_true rfl)) dX6_jar_2 ⟨(Nat.zero_le _), (Nat.zero_le _)⟩) hS hA (fun r_33 H locs hw_r_33 hkq hS => ?_)
    try dsimp only at hw_r_33
    have hPr := jkeep hPr hkq
    have hJ := hJ.kept hkq
    obtain ⟨hk5, a, ea9, hat⟩ := hJ j (by omega)
    rw [ea9] at hw_r_33
    subst hw_r_33
    try dsimp only [va_rf]
    refine lv_astore_n (lv' := [(3, .ref a), (0, .ref x), (1, .int (nI j)), (2, .int 6)]) hx hb dX6_jar_5 rfl hl (by decide) rfl (fun ls hl => ?_)
    refine lv_aload_n hx hb dX6_jar_6 rfl (lv_at hl 0 rfl) ?_
    refine lv_ifnonnull (tgt := 13) hx hb dX6_jar_7 (by decide) ?_
    refine lv_iload_n hx hb dX6_jar_13 rfl (lv_at hl 3 rfl) ?_
    refine lv_tableIn (off := 91) (tgt := 105) hx hb dX6_jar_14 (by decide) (by decide) (by decide) (by decide) ?_
    refine lv_aload_n hx hb dX6_jar_105 rfl (lv_at hl 1 rfl) ?_
    refine va_get (D := D) (ci := 6) (v := .ref xn) (C := RX6) (T := TX6) (N := 12) hx hb hts (fun w h => List.mem_cons_of_mem _ (List.mem_append_left _ (List.mem_append_right _ h))) hown hK hPr 0 rfl rfl 4 (by decide) (hts (Cond.fieldLink RX6 29 "JamDays" "now" "LJamDays$Days;") (List.mem_of_getElem? (i := 3) rfl)) (fun _ h9 => h9) rfl dX6_jar_106 ?_
    refine lv_iload_n hx hb dX6_jar_109 rfl (lv_at hl 2 rfl) ?_
    have hPc_34 := hPr.sub (ws' := [(xn, .inr (1, [.int y, b1, b2, b3, b4, .ref ns, .ref ne, b7, b8])), (ne, .inl (cI, 6, .inl en))]) [2, 4] rfl
    refine jcalli (va_runV (As := [.int (nI j)]) (rest := []) ⟨hx, hb, hml, hown, hts⟩ (c_eatenNowOf l D cI cJ xn ne (.int y) b1 b2 b3 b4 (.ref ns) b7 b8 en j (by omega) H.size) (cwV 1 hts gX6_jar_X1_eatenNowOf rfl rfl rfl (by decide +kernel) ⟨Nat.le_of_ble_eq_true rfl, Nat.le_of_ble_eq_true rfl⟩) (jpreV hT (va_recv hK hPr (ci := 1) (q0 := 2) rfl rfl) hPc_34) rfl rfl hl.1 rfl (lv_room (Nat.le_of_ble_eq_true rfl)) dX6_jar_110 ⟨(Nat.zero_le _), (Nat.zero_le _)⟩) hS hA (fun r_35 H locs hw_r_35 hkq hS => ?_)
    try dsimp only at hw_r_35
    have hPr := jkeep hPr hkq
    have hJ := hJ.kept hkq
    subst hw_r_35
    exact W.iret (v := en j) hx hb hr (fun t ht hW => ⟨⟨en j, (), rfl, rfl, trivial⟩, hS.F ht⟩) hS.2.2 dX6_jar_113
  · skip
    have hl : lv_has ls 4 [(0, .ref x), (1, .int (nI j)), (2, .int 7)] := hl
    refine lv_aload_n hx hb dX6_jar_0 rfl (lv_at hl 0 rfl) ?_
    refine lv_iload_n hx hb dX6_jar_1 rfl (lv_at hl 1 rfl) ?_
    have hPc_36 := hPr.sub (ws' := [(x, .inr (6, [a0, a1, .ref xj, .int (nI n), .ref xn, a5, a6, a7, a8, a9, a10, a11])), (xj, .inl (cJ, 6, .inr (.inr (.inr (.inr jr)))))]) [0, 1] rfl
    refine jcallq (va_runV (As := [.int (nI j)]) (rest := []) ⟨hx, hb, hml, hown, hts⟩ (c_find_ok l D cI cJ x xj n a0 a1 (.ref xn) a5 a6 a7 a8 a9 a10 a11 jr j (by omega) (by omega) s.heap.size) (cwV 1 hts gX6_jar_X6_find rfl rfl rfl (by decide +kernel) ⟨Nat.le_of_ble_eq_true rfl, Nat.le_of_ble_eq_true rfl⟩) (jpreV hT (va_recv hK hPr (ci := 6) (q0 := 0) rfl rfl) hPc_36) rfl rfl hl.1 rfl (lv_room (Nat.le_of_ble_eq_true rfl)) dX6_jar_2 ⟨(Nat.zero_le _), (Nat.zero_le _)⟩) hS hA (fun r_37 H locs hw_r_37 hkq hS => ?_)
    try dsimp only at hw_r_37
    have hPr := jkeep hPr hkq
    have hJ := hJ.kept hkq
    obtain ⟨hk5, a, ea9, hat⟩ := hJ j (by omega)
    rw [ea9] at hw_r_37
    subst hw_r_37
    try dsimp only [va_rf]
    refine lv_astore_n (lv' := [(3, .ref a), (0, .ref x), (1, .int (nI j)), (2, .int 7)]) hx hb dX6_jar_5 rfl hl (by decide) rfl (fun ls hl => ?_)
    refine lv_aload_n hx hb dX6_jar_6 rfl (lv_at hl 0 rfl) ?_
    refine lv_ifnonnull (tgt := 13) hx hb dX6_jar_7 (by decide) ?_
    refine lv_iload_n hx hb dX6_jar_13 rfl (lv_at hl 3 rfl) ?_
    refine lv_tableIn (off := 100) (tgt := 114) hx hb dX6_jar_14 (by decide) (by decide) (by decide) (by decide) ?_
    refine lv_aload_n hx hb dX6_jar_114 rfl (lv_at hl 1 rfl) ?_
    refine lv_iload_n hx hb dX6_jar_115 rfl (lv_at hl 2 rfl) ?_
    have hPc_38 := hPr.sub (ws' := [(x, .inr (6, [a0, a1, .ref xj, .int (nI n), .ref xn, a5, a6, a7, a8, a9, a10, a11])), (xj, .inl (cJ, 6, .inr (.inr (.inr (.inr jr))))), (xn, .inr (1, [.int y, b1, b2, b3, b4, .ref ns, .ref ne, b7, b8]))]) [0, 1, 2] rfl
    refine jcalli (va_runV (As := [.int (nI j)]) (rest := []) ⟨hx, hb, hml, hown, hts⟩ (c_yearsToBest l D cI cJ x xj xn n a0 a1 a5 a6 a7 a8 a9 a10 a11 b1 b2 b3 b4 (.ref ns) (.ref ne) b7 b8 jr jk jg js jm fw y j hj hn6 hfw H.size) (cwV 1 hts gX6_jar_X6_yearsToBest rfl rfl rfl (by decide +kernel) ⟨Nat.le_of_ble_eq_true rfl, Nat.le_of_ble_eq_true rfl⟩) (jpreV hT (va_recv hK hPr (ci := 6) (q0 := 0) rfl rfl) ⟨hPc_38, hJ⟩) rfl rfl hl.1 rfl (lv_room (Nat.le_of_ble_eq_true rfl)) dX6_jar_116 ⟨(Nat.zero_le _), (Nat.zero_le _)⟩) hS hA (fun r_39 H locs hw_r_39 hkq hS => ?_)
    try dsimp only at hw_r_39
    have hPr := jkeep hPr hkq
    have hJ := hJ.kept hkq
    subst hw_r_39
    exact W.iret (v := nI (jyb (fun i => fw j (y + nI i)) 10)) hx hb hr (fun t ht hW => ⟨⟨nI (jyb (fun i => fw j (y + nI i)) 10), (), rfl, rfl, trivial⟩, hS.F ht⟩) hS.2.2 dX6_jar_119

def jct (n y s jo em ea lo tn pn lr bd : Int32) (c : Nat) : Int32 := if c = 0 then n else if c = 1 then y else if c = 2 then s else if c = 3 then jo else if c = 4 then em else if c = 5 then ea else if c = 6 then lo else if c = 7 then tn else if c = 8 then pn else if c = 9 then lr else bd
set_option maxHeartbeats 4000000 in
set_option maxRecDepth 100000 in
theorem c_count_out (l : Launch) (D : va_G) (cI cJ : ClassId) (x : Nat) (wh : Int32) (h8 : wh.toInt < 0 ∨ 10 < wh.toInt) : jRi l yX6_count wsX6_count ({ frames := 0, cells := 0, slots := 0, locals := 0 }) [.ref x, .int wh] D cI cJ (fun H => True) (fun r => r = -102) := by
  intro sz
  refine Met.ofW (cc := cX6_count) (maxL := 2) (ret := (some .int)) (by decide) rfl ?_
  intro p e s m args below meth c s₁ B hml hv
  obtain ⟨rfl, hsz, hT, _⟩ := hv
  have hK := hT.1
  have hx := B.exec
  have hb := B.bytes
  have hr := B.returns
  have hts := atoms_spec (ws := wsX6_count) B.pre
  have hown : s.vm.findClass RX6 = some m.cls := findClass_of_methodNamed B.named
  have hlocks := B.notSynchronized
  subst hsz
  generalize hAe : va_A [] s.heap.size = A
  have hA : ∀ q : Nat, s.heap.size ≤ q → A q := fun q h => by rw [← hAe]; exact Or.inr h
  have hS : va_S A s.heap s.heap [] := va_S.rf
  have hl := lv_entry ([.ref x, .int wh] : List Value) (n := 2) (Nat.le_of_ble_eq_true rfl)
  rw [lg_entry_eq]
  generalize (lg_sl ([.ref x, .int wh]) ++ List.replicate (2 - (lg_sl ([.ref x, .int wh])).length) Slot.unset).toArray = ls at hl ⊢
  have hl : lv_has ls 2 [(0, .ref x), (1, .int wh)] := hl
  refine lv_iload_n hx hb dX6_count_0 rfl (lv_at hl 1 rfl) ?_
  refine lv_tableOut (tgt := 137) hx hb dX6_count_1 h8 (by decide) ?_
  refine lv_bipush (v := (-102)) hx hb dX6_count_137 (by decide) ?_
  exact W.iret (v := (-102)) hx hb hr (fun t ht hW => ⟨⟨(-102), (), rfl, rfl, trivial⟩, hS.F ht⟩) hS.2.2 dX6_count_139

set_option maxHeartbeats 4000000 in
set_option maxRecDepth 100000 in
theorem c_count_ok (l : Launch) (D : va_G) (cI cJ : ClassId) (x : Nat) (xn : Nat) (ns : Nat) (n : Nat) (pn : Nat) (tn : Nat) (a0 : Value) (a2 : Value) (a5 : Value) (a6 : Value) (a7 : Value) (a10 : Value) (a11 : Value) (b6 : Value) (b7 : Value) (b8 : Value) (lr : Int32) (bd : Int32) (y : Int32) (ea : Int32) (lo : Int32) (jo : Int32) (sp : Nat → Int32) (cq : Nat) (hn6 : n ≤ 6) (hc : cq < 11) : jRi l yX6_count wsX6_count ({ frames := 2, cells := 0, slots := 0, locals := 43 }) [.ref x, .int (nI cq)] D cI cJ (fun H => va_P D vwCl [(x, .inr (6, [a0, .int (nI pn), a2, .int (nI n), .ref xn, a5, a6, a7, .int lr, .int bd, a10, a11])), (xn, .inr (1, [.int y, .int ea, .int lo, .int jo, .int (nI tn), .ref ns, b6, b7, b8])), (ns, .inl (cI, 6, .inl sp))] H) (fun r => r = jct (nI n) y (jsum sp 6) (jo + 2000) (jemp sp n) ea lo (nI tn) (nI pn) lr bd cq) := by
  intro sz
  refine Met.ofW (cc := cX6_count) (maxL := 2) (ret := (some .int)) (by decide) rfl ?_
  intro p e s m args below meth c s₁ B hml hv
  obtain ⟨rfl, hsz, hT, hPr⟩ := hv
  have hK := hT.1
  have hx := B.exec
  have hb := B.bytes
  have hr := B.returns
  have hts := atoms_spec (ws := wsX6_count) B.pre
  have hown : s.vm.findClass RX6 = some m.cls := findClass_of_methodNamed B.named
  have hlocks := B.notSynchronized
  subst hsz
  generalize hAe : va_A [] s.heap.size = A
  have hA : ∀ q : Nat, s.heap.size ≤ q → A q := fun q h => by rw [← hAe]; exact Or.inr h
  have hS : va_S A s.heap s.heap [] := va_S.rf
  have hl := lv_entry ([.ref x, .int (nI cq)] : List Value) (n := 2) (Nat.le_of_ble_eq_true rfl)
  rw [lg_entry_eq]
  generalize (lg_sl ([.ref x, .int (nI cq)]) ++ List.replicate (2 - (lg_sl ([.ref x, .int (nI cq)])).length) Slot.unset).toArray = ls at hl ⊢
  have hl : lv_has ls 2 [(0, .ref x), (1, .int (nI cq))] := hl
  rcases (show cq = 0 ∨ cq = 1 ∨ cq = 2 ∨ cq = 3 ∨ cq = 4 ∨ cq = 5 ∨ cq = 6 ∨ cq = 7 ∨ cq = 8 ∨ cq = 9 ∨ cq = 10 from by omega) with rfl | rfl | rfl | rfl | rfl | rfl | rfl | rfl | rfl | rfl | rfl
  · skip
    have hl : lv_has ls 2 [(0, .ref x), (1, .int 0)] := hl
    refine lv_iload_n hx hb dX6_count_0 rfl (lv_at hl 1 rfl) ?_
    refine lv_tableIn (off := 59) (tgt := 60) hx hb dX6_count_1 (by decide) (by decide) (by decide) (by decide) ?_
    refine lv_aload_n hx hb dX6_count_60 rfl (lv_at hl 0 rfl) ?_
    refine va_get (D := D) (ci := 6) (v := .int (nI n)) (C := RX6) (T := TX6) (N := 12) hx hb hts (fun w h => List.mem_cons_of_mem _ (List.mem_append_left _ (List.mem_append_right _ h))) hown hK hPr 0 rfl rfl 3 (by decide) (hts (Cond.fieldLink RX6 23 "JamDays" "jarCount" "I") (List.mem_of_getElem? (i := 1) rfl)) (fun _ h9 => h9) rfl dX6_count_61 ?_
    exact W.iret (v := nI n) hx hb hr (fun t ht hW => ⟨⟨nI n, (), rfl, rfl, trivial⟩, hS.F ht⟩) hS.2.2 dX6_count_64
  · skip
    have hl : lv_has ls 2 [(0, .ref x), (1, .int 1)] := hl
    refine lv_iload_n hx hb dX6_count_0 rfl (lv_at hl 1 rfl) ?_
    refine lv_tableIn (off := 64) (tgt := 65) hx hb dX6_count_1 (by decide) (by decide) (by decide) (by decide) ?_
    refine lv_aload_n hx hb dX6_count_65 rfl (lv_at hl 0 rfl) ?_
    refine va_get (D := D) (ci := 6) (v := .ref xn) (C := RX6) (T := TX6) (N := 12) hx hb hts (fun w h => List.mem_cons_of_mem _ (List.mem_append_left _ (List.mem_append_right _ h))) hown hK hPr 0 rfl rfl 4 (by decide) (hts (Cond.fieldLink RX6 29 "JamDays" "now" "LJamDays$Days;") (List.mem_of_getElem? (i := 2) rfl)) (fun _ h9 => h9) rfl dX6_count_66 ?_
    refine va_get (D := D) (ci := 1) (v := .int y) (C := RX1) (T := TX1) (N := 9) hx hb hts (fun w h => List.mem_cons_of_mem _ (List.mem_append_right _ h)) hown hK hPr 1 rfl rfl 0 (by decide) (hts (Cond.fieldLink RX6 91 "JamDays$Days" "year" "I") (List.mem_of_getElem? (i := 3) rfl)) (fun _ h9 => h9) rfl dX6_count_69 ?_
    exact W.iret (v := y) hx hb hr (fun t ht hW => ⟨⟨y, (), rfl, rfl, trivial⟩, hS.F ht⟩) hS.2.2 dX6_count_72
  · skip
    have hl : lv_has ls 2 [(0, .ref x), (1, .int 2)] := hl
    refine lv_iload_n hx hb dX6_count_0 rfl (lv_at hl 1 rfl) ?_
    refine lv_tableIn (off := 72) (tgt := 73) hx hb dX6_count_1 (by decide) (by decide) (by decide) (by decide) ?_
    refine lv_aload_n hx hb dX6_count_73 rfl (lv_at hl 0 rfl) ?_
    refine va_get (D := D) (ci := 6) (v := .ref xn) (C := RX6) (T := TX6) (N := 12) hx hb hts (fun w h => List.mem_cons_of_mem _ (List.mem_append_left _ (List.mem_append_right _ h))) hown hK hPr 0 rfl rfl 4 (by decide) (hts (Cond.fieldLink RX6 29 "JamDays" "now" "LJamDays$Days;") (List.mem_of_getElem? (i := 2) rfl)) (fun _ h9 => h9) rfl dX6_count_74 ?_
    have hPc_1 := hPr.sub (ws' := [(xn, .inr (1, [.int y, .int ea, .int lo, .int jo, .int (nI tn), .ref ns, b6, b7, b8])), (ns, .inl (cI, 6, .inl sp))]) [1, 2] rfl
    refine jcalli (va_runV (As := []) (rest := []) ⟨hx, hb, hml, hown, hts⟩ (c_spoonsOfAll l D cI cJ xn ns (.int y) (.int ea) (.int lo) (.int jo) (.int (nI tn)) b6 b7 b8 sp s.heap.size) (cwV 0 hts gX6_count_X1_spoonsOfAll rfl rfl rfl (by decide +kernel) ⟨Nat.le_of_ble_eq_true rfl, Nat.le_of_ble_eq_true rfl⟩) (jpreV hT (va_recv hK hPr (ci := 1) (q0 := 1) rfl rfl) hPc_1) rfl rfl hl.1 rfl (lv_room (Nat.le_of_ble_eq_true rfl)) dX6_count_77 ⟨(Nat.zero_le _), (Nat.zero_le _)⟩) hS hA (fun r_2 H locs hw_r_2 hkq hS => ?_)
    try dsimp only at hw_r_2
    have hPr := jkeep hPr hkq
    subst hw_r_2
    exact W.iret (v := jsum sp 6) hx hb hr (fun t ht hW => ⟨⟨jsum sp 6, (), rfl, rfl, trivial⟩, hS.F ht⟩) hS.2.2 dX6_count_80
  · skip
    have hl : lv_has ls 2 [(0, .ref x), (1, .int 3)] := hl
    refine lv_iload_n hx hb dX6_count_0 rfl (lv_at hl 1 rfl) ?_
    refine lv_tableIn (off := 80) (tgt := 81) hx hb dX6_count_1 (by decide) (by decide) (by decide) (by decide) ?_
    refine lv_aload_n hx hb dX6_count_81 rfl (lv_at hl 0 rfl) ?_
    refine va_get (D := D) (ci := 6) (v := .ref xn) (C := RX6) (T := TX6) (N := 12) hx hb hts (fun w h => List.mem_cons_of_mem _ (List.mem_append_left _ (List.mem_append_right _ h))) hown hK hPr 0 rfl rfl 4 (by decide) (hts (Cond.fieldLink RX6 29 "JamDays" "now" "LJamDays$Days;") (List.mem_of_getElem? (i := 2) rfl)) (fun _ h9 => h9) rfl dX6_count_82 ?_
    refine va_get (D := D) (ci := 1) (v := .int jo) (C := RX1) (T := TX1) (N := 9) hx hb hts (fun w h => List.mem_cons_of_mem _ (List.mem_append_right _ h)) hown hK hPr 1 rfl rfl 3 (by decide) (hts (Cond.fieldLink RX6 158 "JamDays$Days" "joy" "I") (List.mem_of_getElem? (i := 4) rfl)) (fun _ h9 => h9) rfl dX6_count_85 ?_
    refine lv_sipush (v := 2000) hx hb dX6_count_88 (by decide) ?_
    refine lv_iadd hx hb dX6_count_91 ?_
    exact W.iret (v := jo + 2000) hx hb hr (fun t ht hW => ⟨⟨jo + 2000, (), rfl, rfl, trivial⟩, hS.F ht⟩) hS.2.2 dX6_count_92
  · skip
    have hl : lv_has ls 2 [(0, .ref x), (1, .int 4)] := hl
    refine lv_iload_n hx hb dX6_count_0 rfl (lv_at hl 1 rfl) ?_
    refine lv_tableIn (off := 92) (tgt := 93) hx hb dX6_count_1 (by decide) (by decide) (by decide) (by decide) ?_
    refine lv_aload_n hx hb dX6_count_93 rfl (lv_at hl 0 rfl) ?_
    have hPc_3 := hPr.sub (ws' := [(x, .inr (6, [a0, .int (nI pn), a2, .int (nI n), .ref xn, a5, a6, a7, .int lr, .int bd, a10, a11])), (xn, .inr (1, [.int y, .int ea, .int lo, .int jo, .int (nI tn), .ref ns, b6, b7, b8])), (ns, .inl (cI, 6, .inl sp))]) [0, 1, 2] rfl
    refine jcalli (va_runV (As := []) (rest := []) ⟨hx, hb, hml, hown, hts⟩ (c_emptyJars l D cI cJ x xn ns n a0 (.int (nI pn)) a2 a5 a6 a7 (.int lr) (.int bd) a10 a11 (.int y) (.int ea) (.int lo) (.int jo) (.int (nI tn)) b6 b7 b8 sp hn6 s.heap.size) (cwV 0 hts gX6_count_X6_emptyJars rfl rfl rfl (by decide +kernel) ⟨Nat.le_of_ble_eq_true rfl, Nat.le_of_ble_eq_true rfl⟩) (jpreV hT (va_recv hK hPr (ci := 6) (q0 := 0) rfl rfl) hPc_3) rfl rfl hl.1 rfl (lv_room (Nat.le_of_ble_eq_true rfl)) dX6_count_94 ⟨(Nat.zero_le _), (Nat.zero_le _)⟩) hS hA (fun r_4 H locs hw_r_4 hkq hS => ?_)
    try dsimp only at hw_r_4
    have hPr := jkeep hPr hkq
    subst hw_r_4
    exact W.iret (v := jemp sp n) hx hb hr (fun t ht hW => ⟨⟨jemp sp n, (), rfl, rfl, trivial⟩, hS.F ht⟩) hS.2.2 dX6_count_97
  · skip
    have hl : lv_has ls 2 [(0, .ref x), (1, .int 5)] := hl
    refine lv_iload_n hx hb dX6_count_0 rfl (lv_at hl 1 rfl) ?_
    refine lv_tableIn (off := 97) (tgt := 98) hx hb dX6_count_1 (by decide) (by decide) (by decide) (by decide) ?_
    refine lv_aload_n hx hb dX6_count_98 rfl (lv_at hl 0 rfl) ?_
    refine va_get (D := D) (ci := 6) (v := .ref xn) (C := RX6) (T := TX6) (N := 12) hx hb hts (fun w h => List.mem_cons_of_mem _ (List.mem_append_left _ (List.mem_append_right _ h))) hown hK hPr 0 rfl rfl 4 (by decide) (hts (Cond.fieldLink RX6 29 "JamDays" "now" "LJamDays$Days;") (List.mem_of_getElem? (i := 2) rfl)) (fun _ h9 => h9) rfl dX6_count_99 ?_
    refine va_get (D := D) (ci := 1) (v := .int ea) (C := RX1) (T := TX1) (N := 9) hx hb hts (fun w h => List.mem_cons_of_mem _ (List.mem_append_right _ h)) hown hK hPr 1 rfl rfl 1 (by decide) (hts (Cond.fieldLink RX6 168 "JamDays$Days" "eaten" "I") (List.mem_of_getElem? (i := 5) rfl)) (fun _ h9 => h9) rfl dX6_count_102 ?_
    exact W.iret (v := ea) hx hb hr (fun t ht hW => ⟨⟨ea, (), rfl, rfl, trivial⟩, hS.F ht⟩) hS.2.2 dX6_count_105
  · skip
    have hl : lv_has ls 2 [(0, .ref x), (1, .int 6)] := hl
    refine lv_iload_n hx hb dX6_count_0 rfl (lv_at hl 1 rfl) ?_
    refine lv_tableIn (off := 105) (tgt := 106) hx hb dX6_count_1 (by decide) (by decide) (by decide) (by decide) ?_
    refine lv_aload_n hx hb dX6_count_106 rfl (lv_at hl 0 rfl) ?_
    refine va_get (D := D) (ci := 6) (v := .ref xn) (C := RX6) (T := TX6) (N := 12) hx hb hts (fun w h => List.mem_cons_of_mem _ (List.mem_append_left _ (List.mem_append_right _ h))) hown hK hPr 0 rfl rfl 4 (by decide) (hts (Cond.fieldLink RX6 29 "JamDays" "now" "LJamDays$Days;") (List.mem_of_getElem? (i := 2) rfl)) (fun _ h9 => h9) rfl dX6_count_107 ?_
    refine va_get (D := D) (ci := 1) (v := .int lo) (C := RX1) (T := TX1) (N := 9) hx hb hts (fun w h => List.mem_cons_of_mem _ (List.mem_append_right _ h)) hown hK hPr 1 rfl rfl 2 (by decide) (hts (Cond.fieldLink RX6 171 "JamDays$Days" "lost" "I") (List.mem_of_getElem? (i := 6) rfl)) (fun _ h9 => h9) rfl dX6_count_110 ?_
    exact W.iret (v := lo) hx hb hr (fun t ht hW => ⟨⟨lo, (), rfl, rfl, trivial⟩, hS.F ht⟩) hS.2.2 dX6_count_113
  · skip
    have hl : lv_has ls 2 [(0, .ref x), (1, .int 7)] := hl
    refine lv_iload_n hx hb dX6_count_0 rfl (lv_at hl 1 rfl) ?_
    refine lv_tableIn (off := 113) (tgt := 114) hx hb dX6_count_1 (by decide) (by decide) (by decide) (by decide) ?_
    refine lv_aload_n hx hb dX6_count_114 rfl (lv_at hl 0 rfl) ?_
    refine va_get (D := D) (ci := 6) (v := .ref xn) (C := RX6) (T := TX6) (N := 12) hx hb hts (fun w h => List.mem_cons_of_mem _ (List.mem_append_left _ (List.mem_append_right _ h))) hown hK hPr 0 rfl rfl 4 (by decide) (hts (Cond.fieldLink RX6 29 "JamDays" "now" "LJamDays$Days;") (List.mem_of_getElem? (i := 2) rfl)) (fun _ h9 => h9) rfl dX6_count_115 ?_
    refine va_get (D := D) (ci := 1) (v := .int (nI tn)) (C := RX1) (T := TX1) (N := 9) hx hb hts (fun w h => List.mem_cons_of_mem _ (List.mem_append_right _ h)) hown hK hPr 1 rfl rfl 4 (by decide) (hts (Cond.fieldLink RX6 143 "JamDays$Days" "tasted" "I") (List.mem_of_getElem? (i := 7) rfl)) (fun _ h9 => h9) rfl dX6_count_118 ?_
    exact W.iret (v := nI tn) hx hb hr (fun t ht hW => ⟨⟨nI tn, (), rfl, rfl, trivial⟩, hS.F ht⟩) hS.2.2 dX6_count_121
  · skip
    have hl : lv_has ls 2 [(0, .ref x), (1, .int 8)] := hl
    refine lv_iload_n hx hb dX6_count_0 rfl (lv_at hl 1 rfl) ?_
    refine lv_tableIn (off := 121) (tgt := 122) hx hb dX6_count_1 (by decide) (by decide) (by decide) (by decide) ?_
    refine lv_aload_n hx hb dX6_count_122 rfl (lv_at hl 0 rfl) ?_
    refine va_get (D := D) (ci := 6) (v := .int (nI pn)) (C := RX6) (T := TX6) (N := 12) hx hb hts (fun w h => List.mem_cons_of_mem _ (List.mem_append_left _ (List.mem_append_right _ h))) hown hK hPr 0 rfl rfl 1 (by decide) (hts (Cond.fieldLink RX6 13 "JamDays" "pageSize" "I") (List.mem_of_getElem? (i := 8) rfl)) (fun _ h9 => h9) rfl dX6_count_123 ?_
    exact W.iret (v := nI pn) hx hb hr (fun t ht hW => ⟨⟨nI pn, (), rfl, rfl, trivial⟩, hS.F ht⟩) hS.2.2 dX6_count_126
  · skip
    have hl : lv_has ls 2 [(0, .ref x), (1, .int 9)] := hl
    refine lv_iload_n hx hb dX6_count_0 rfl (lv_at hl 1 rfl) ?_
    refine lv_tableIn (off := 126) (tgt := 127) hx hb dX6_count_1 (by decide) (by decide) (by decide) (by decide) ?_
    refine lv_aload_n hx hb dX6_count_127 rfl (lv_at hl 0 rfl) ?_
    refine va_get (D := D) (ci := 6) (v := .int lr) (C := RX6) (T := TX6) (N := 12) hx hb hts (fun w h => List.mem_cons_of_mem _ (List.mem_append_left _ (List.mem_append_right _ h))) hown hK hPr 0 rfl rfl 8 (by decide) (hts (Cond.fieldLink RX6 43 "JamDays" "lardersRead" "I") (List.mem_of_getElem? (i := 9) rfl)) (fun _ h9 => h9) rfl dX6_count_128 ?_
    exact W.iret (v := lr) hx hb hr (fun t ht hW => ⟨⟨lr, (), rfl, rfl, trivial⟩, hS.F ht⟩) hS.2.2 dX6_count_131
  · skip
    have hl : lv_has ls 2 [(0, .ref x), (1, .int 10)] := hl
    refine lv_iload_n hx hb dX6_count_0 rfl (lv_at hl 1 rfl) ?_
    refine lv_tableIn (off := 131) (tgt := 132) hx hb dX6_count_1 (by decide) (by decide) (by decide) (by decide) ?_
    refine lv_aload_n hx hb dX6_count_132 rfl (lv_at hl 0 rfl) ?_
    refine va_get (D := D) (ci := 6) (v := .int bd) (C := RX6) (T := TX6) (N := 12) hx hb hts (fun w h => List.mem_cons_of_mem _ (List.mem_append_left _ (List.mem_append_right _ h))) hown hK hPr 0 rfl rfl 9 (by decide) (hts (Cond.fieldLink RX6 46 "JamDays" "bestsDone" "I") (List.mem_of_getElem? (i := 10) rfl)) (fun _ h9 => h9) rfl dX6_count_133 ?_
    exact W.iret (v := bd) hx hb hr (fun t ht hW => ⟨⟨bd, (), rfl, rfl, trivial⟩, hS.F ht⟩) hS.2.2 dX6_count_136

def jmx (f : Nat → Int32) (h : Int64) : Nat → Int64
  | 0 => h
  | k + 1 => 31 * jmx f h k + (f k).toInt64
def jdj (tl : Nat → Nat → Int32) (w1 w2 : Nat → Int32) (h : Int64) : Nat → Int64
  | 0 => h
  | k + 1 => 31 * (31 * jmx (tl k) (jdj tl w1 w2 h k) 8 + (w1 k).toInt64) + (w2 k).toInt64
