theorem jcell {cA : ClassId} {n : Nat} {f g : Nat → Int32} (h : ∀ i : Nat, i < n → f i = g i) : vp_cell cA (n, .inl f) = vp_cell cA (n, .inl g) := by
  have e : (fun j : Fin n => Value.int (f j.val)) = fun j : Fin n => Value.int (g j.val) := funext fun j => by rw [h j.val j.isLt]
  rw [vp_cell_i, vp_cell_i]
  unfold arrV
  simp only [e]
/-- an int array's cell tells its contents as far as its length alone -/
theorem jP_arr {D : va_G} {cl : List vw_C} {ws : va_W} {H : Heap} {a n : Nat} {cA : ClassId} {f g : Nat → Int32} (hP : va_P D cl ws H) (p : Nat) (hp : ws[p]? = some (a, .inl (cA, n, .inl f))) (h : ∀ i : Nat, i < n → f i = g i) : va_P D cl (ws.set p (a, .inl (cA, n, .inl g))) H := by
  intro k q hk
  by_cases hkp : p = k
  · subst hkp
    rw [List.getElem?_set_self (List.getElem?_eq_some_iff.mp hp).1] at hk
    cases hk
    have h1 : H[a]? = some (vp_cell cA (n, .inl f)) := hP p _ hp
    show H[a]? = some (vp_cell cA (n, .inl g))
    rw [h1, jcell h]
  · rw [List.getElem?_set_ne hkp] at hk
    exact hP k q hk
set_option maxHeartbeats 4000000 in
set_option maxRecDepth 100000 in
theorem c_mletter_out (l : Launch) (D : va_G) (cI cJ : ClassId) (z : Nat) (p0 : Int32) (h9 : p0 < 1 ∨ 126 < p0) : jRi l yX7_letter wsX7_letter ({ frames := 1, cells := 0, slots := 0, locals := 25 }) [.ref z, .int p0] D cI cJ (fun H => True) (fun r => r = -102) := by
  intro sz
  refine Met.ofW (cc := cX7_letter) (maxL := 2) (ret := (some .int)) (by decide) rfl ?_
  intro p e s m args below meth c s₁ B hml hv
  obtain ⟨rfl, hsz, hT, _⟩ := hv
  have hK := hT.1
  have hx := B.exec
  have hb := B.bytes
  have hr := B.returns
  have hts := atoms_spec (ws := wsX7_letter) B.pre
  have hown : s.vm.findClass RX7 = some m.cls := findClass_of_methodNamed B.named
  have hlocks := B.notSynchronized
  subst hsz
  generalize hAe : va_A [] s.heap.size = A
  have hA : ∀ q : Nat, s.heap.size ≤ q → A q := fun q h => by rw [← hAe]; exact Or.inr h
  have hS : va_S A s.heap s.heap [] := va_S.rf
  have hl := lv_entry ([.ref z, .int p0] : List Value) (n := 2) (Nat.le_of_ble_eq_true rfl)
  rw [lg_entry_eq]
  generalize (lg_sl ([.ref z, .int p0]) ++ List.replicate (2 - (lg_sl ([.ref z, .int p0])).length) Slot.unset).toArray = ls at hl ⊢
  have hl : lv_has ls 2 [(0, .ref z), (1, .int p0)] := hl
  refine lv_iload_n hx hb dX7_letter_0 rfl (lv_at hl 1 rfl) ?_
  refine lv_i2l (v := p0.toInt64) hx hb dX7_letter_1 rfl ?_
  refine lv_lconst (v := 1) hx hb dX7_letter_2 (by decide) ?_
  refine lv_ldc2 (v := 126) hx hb hown (hts (Cond.constantLong RX7 38 (126)) (List.mem_of_getElem? (i := 1) rfl)) dX7_letter_3 ?_
  refine jcalli (va_runS (As := [.long p0.toInt64, .long 1, .long 126]) (rest := []) ⟨hx, hb, hml, hown, hts⟩ (c_in_n l D cI cJ p0.toInt64 1 126 (h9.elim (fun h => Or.inl (jw_lt (b := 1) h)) (fun h => Or.inr (jw_lt (a := 126) h))) s.heap.size) (va_cwS 3 hts gX7_letter_X7_in rfl rfl rfl (by decide +kernel) ⟨Nat.le_of_ble_eq_true rfl, Nat.le_of_ble_eq_true rfl⟩) (jpreS hT trivial) rfl rfl hl.1 rfl (lv_room (Nat.le_of_ble_eq_true rfl)) dX7_letter_6 ⟨(Nat.zero_le _), (Nat.zero_le _)⟩) hS hA (fun r_1 H locs hw_r_1 hkq hS => ?_)
  try dsimp only at hw_r_1
  subst hw_r_1
  refine lv_if_ne (tgt := 15) hx hb dX7_letter_9 (by decide) (fun c_2 => ?_) (fun c_2 => ?_)
  · skip
    exact absurd c_2 (by decide)
  · skip
    refine lv_bipush (v := (-102)) hx hb dX7_letter_12 (by decide) ?_
    exact W.iret (v := (-102)) hx hb hr (fun t ht hW => ⟨⟨(-102), (), rfl, rfl, trivial⟩, hS.F ht⟩) hS.2.2 dX7_letter_14

set_option maxHeartbeats 4000000 in
set_option maxRecDepth 100000 in
theorem c_mletter_full (l : Launch) (D : va_G) (cI cJ : ClassId) (z : Nat) (zp : Nat) (pn : Nat) (a2 : Value) (a3 : Value) (a4 : Value) (a5 : Value) (a6 : Value) (a7 : Value) (a8 : Value) (a9 : Value) (a10 : Value) (a11 : Value) (a12 : Value) (a13 : Value) (a14 : Value) (a15 : Value) (a16 : Value) (a17 : Value) (a18 : Value) (a19 : Value) (a20 : Value) (a21 : Value) (a22 : Value) (a23 : Value) (a24 : Value) (pg : Nat → Int32) (p0 : Int32) (h1 : 1 ≤ p0) (h2 : p0 ≤ 126) (hp : pn = 25) : jRi l yX7_letter wsX7_letter ({ frames := 1, cells := 0, slots := 0, locals := 25 }) [.ref z, .int p0] D cI cJ (fun H => va_P D vwCl [(z, .inr (7, [.ref zp, .int (nI pn), a2, a3, a4, a5, a6, a7, a8, a9, a10, a11, a12, a13, a14, a15, a16, a17, a18, a19, a20, a21, a22, a23, a24])), (zp, .inl (cI, 25, .inl pg))] H) (fun r => r = -104) := by
  intro sz
  refine Met.ofW (cc := cX7_letter) (maxL := 2) (ret := (some .int)) (by decide) rfl ?_
  intro p e s m args below meth c s₁ B hml hv
  obtain ⟨rfl, hsz, hT, hPr⟩ := hv
  have hK := hT.1
  have hx := B.exec
  have hb := B.bytes
  have hr := B.returns
  have hts := atoms_spec (ws := wsX7_letter) B.pre
  have hown : s.vm.findClass RX7 = some m.cls := findClass_of_methodNamed B.named
  have hlocks := B.notSynchronized
  subst hsz
  generalize hAe : va_A [] s.heap.size = A
  have hA : ∀ q : Nat, s.heap.size ≤ q → A q := fun q h => by rw [← hAe]; exact Or.inr h
  have hS : va_S A s.heap s.heap [] := va_S.rf
  have hl := lv_entry ([.ref z, .int p0] : List Value) (n := 2) (Nat.le_of_ble_eq_true rfl)
  rw [lg_entry_eq]
  generalize (lg_sl ([.ref z, .int p0]) ++ List.replicate (2 - (lg_sl ([.ref z, .int p0])).length) Slot.unset).toArray = ls at hl ⊢
  have hl : lv_has ls 2 [(0, .ref z), (1, .int p0)] := hl
  refine lv_iload_n hx hb dX7_letter_0 rfl (lv_at hl 1 rfl) ?_
  refine lv_i2l (v := p0.toInt64) hx hb dX7_letter_1 rfl ?_
  refine lv_lconst (v := 1) hx hb dX7_letter_2 (by decide) ?_
  refine lv_ldc2 (v := 126) hx hb hown (hts (Cond.constantLong RX7 38 (126)) (List.mem_of_getElem? (i := 1) rfl)) dX7_letter_3 ?_
  refine jcalli (va_runS (As := [.long p0.toInt64, .long 1, .long 126]) (rest := []) ⟨hx, hb, hml, hown, hts⟩ (c_in_y l D cI cJ p0.toInt64 1 126 (jw_le (a := 1) h1) (jw_le (b := 126) h2) s.heap.size) (va_cwS 3 hts gX7_letter_X7_in rfl rfl rfl (by decide +kernel) ⟨Nat.le_of_ble_eq_true rfl, Nat.le_of_ble_eq_true rfl⟩) (jpreS hT trivial) rfl rfl hl.1 rfl (lv_room (Nat.le_of_ble_eq_true rfl)) dX7_letter_6 ⟨(Nat.zero_le _), (Nat.zero_le _)⟩) hS hA (fun r_1 H locs hw_r_1 hkq hS => ?_)
  try dsimp only at hw_r_1
  have hPr := jkeep hPr hkq
  subst hw_r_1
  refine lv_if_ne (tgt := 15) hx hb dX7_letter_9 (by decide) (fun c_2 => ?_) (fun c_2 => ?_)
  · skip
    refine lv_aload_n hx hb dX7_letter_15 rfl (lv_at hl 0 rfl) ?_
    refine va_get (D := D) (ci := 7) (v := .int (nI pn)) (C := RX7) (T := TX7) (N := 25) hx hb hts (fun w h => List.mem_cons_of_mem _ (List.mem_append_right _ h)) hown hK hPr 0 rfl rfl 1 (by decide) (hts (Cond.fieldLink RX7 44 "JamDaysModel" "pageMany" "I") (List.mem_of_getElem? (i := 2) rfl)) (fun _ h9 => h9) rfl dX7_letter_16 ?_
    refine lv_bipush (v := 25) hx hb dX7_letter_19 (by decide) ?_
    refine lv_icmp_ne (tgt := 27) hx hb dX7_letter_21 (by decide) (fun c_3 => ?_) (fun c_3 => ?_)
    · skip
      replace c_3 : ¬ pn = 25 := fun h => c_3 ((nI_eq (a := pn) (b := 25) (by omega) (by omega)).mpr h)
      exact absurd c_3 (by omega)
    · skip
      replace c_3 : pn = 25 := (nI_eq (a := pn) (b := 25) (by omega) (by omega)).mp c_3
      refine lv_bipush (v := (-104)) hx hb dX7_letter_24 (by decide) ?_
      exact W.iret (v := (-104)) hx hb hr (fun t ht hW => ⟨⟨(-104), (), rfl, rfl, trivial⟩, hS.F ht⟩) hS.2.2 dX7_letter_26
  · skip
    exact absurd c_2 (by decide)

set_option maxHeartbeats 4000000 in
set_option maxRecDepth 100000 in
theorem c_mletter_ok (l : Launch) (D : va_G) (cI cJ : ClassId) (z : Nat) (zp : Nat) (pn : Nat) (a2 : Value) (a3 : Value) (a4 : Value) (a5 : Value) (a6 : Value) (a7 : Value) (a8 : Value) (a9 : Value) (a10 : Value) (a11 : Value) (a12 : Value) (a13 : Value) (a14 : Value) (a15 : Value) (a16 : Value) (a17 : Value) (a18 : Value) (a19 : Value) (a20 : Value) (a21 : Value) (a22 : Value) (a23 : Value) (a24 : Value) (pg : Nat → Int32) (p0 : Int32) (h1 : 1 ≤ p0) (h2 : p0 ≤ 126) (hp : pn < 25) : jWi l yX7_letter wsX7_letter ({ frames := 1, cells := 0, slots := 0, locals := 25 }) 0 0 [.ref z, .int p0] D cI cJ [(z, .inr (7, [.ref zp, .int (nI pn), a2, a3, a4, a5, a6, a7, a8, a9, a10, a11, a12, a13, a14, a15, a16, a17, a18, a19, a20, a21, a22, a23, a24])), (zp, .inl (cI, 25, .inl pg))] (fun H => True) (fun r H => r = nI (pn + 1) ∧ va_P D vwCl [(z, .inr (7, [.ref zp, .int (nI (pn + 1)), a2, a3, a4, a5, a6, a7, a8, a9, a10, a11, a12, a13, a14, a15, a16, a17, a18, a19, a20, a21, a22, a23, a24])), (zp, .inl (cI, 25, .inl (upd pg pn p0)))] H) := by
  intro sz
  refine Met.ofW (cc := cX7_letter) (maxL := 2) (ret := (some .int)) (by decide) rfl ?_
  intro p e s m args below meth c s₁ B hml hv
  obtain ⟨rfl, hsz, hT, hP, hD0, _⟩ := hv
  have hK := hT.1
  have hx := B.exec
  have hb := B.bytes
  have hr := B.returns
  have hts := atoms_spec (ws := wsX7_letter) B.pre
  have hown : s.vm.findClass RX7 = some m.cls := findClass_of_methodNamed B.named
  have hlocks := B.notSynchronized
  subst hsz
  have hD := hD0.self (sz := s.heap.size)
  generalize hAe : va_A [(z, .inr (7, [.ref zp, .int (nI pn), a2, a3, a4, a5, a6, a7, a8, a9, a10, a11, a12, a13, a14, a15, a16, a17, a18, a19, a20, a21, a22, a23, a24])), (zp, .inl (cI, 25, .inl pg))] s.heap.size = A at hD ⊢
  have hA : ∀ q : Nat, s.heap.size ≤ q → A q := fun q h => by rw [← hAe]; exact Or.inr h
  have hS : va_S A s.heap s.heap [] := va_S.rf
  have hl := lv_entry ([.ref z, .int p0] : List Value) (n := 2) (Nat.le_of_ble_eq_true rfl)
  rw [lg_entry_eq]
  generalize (lg_sl ([.ref z, .int p0]) ++ List.replicate (2 - (lg_sl ([.ref z, .int p0])).length) Slot.unset).toArray = ls at hl ⊢
  have hl : lv_has ls 2 [(0, .ref z), (1, .int p0)] := hl
  refine lv_iload_n hx hb dX7_letter_0 rfl (lv_at hl 1 rfl) ?_
  refine lv_i2l (v := p0.toInt64) hx hb dX7_letter_1 rfl ?_
  refine lv_lconst (v := 1) hx hb dX7_letter_2 (by decide) ?_
  refine lv_ldc2 (v := 126) hx hb hown (hts (Cond.constantLong RX7 38 (126)) (List.mem_of_getElem? (i := 1) rfl)) dX7_letter_3 ?_
  refine jcalli (va_runS (As := [.long p0.toInt64, .long 1, .long 126]) (rest := []) ⟨hx, hb, hml, hown, hts⟩ (c_in_y l D cI cJ p0.toInt64 1 126 (jw_le (a := 1) h1) (jw_le (b := 126) h2) s.heap.size) (va_cwS 3 hts gX7_letter_X7_in rfl rfl rfl (by decide +kernel) ⟨Nat.le_of_ble_eq_true rfl, Nat.le_of_ble_eq_true rfl⟩) (jpreS hT trivial) rfl rfl hl.1 rfl (lv_room (Nat.le_of_ble_eq_true rfl)) dX7_letter_6 ⟨(Nat.zero_le _), (Nat.zero_le _)⟩) hS hA (fun r_1 H locs hw_r_1 hkq hS => ?_)
  try dsimp only at hw_r_1
  have hP := jkeep hP hkq
  subst hw_r_1
  refine lv_if_ne (tgt := 15) hx hb dX7_letter_9 (by decide) (fun c_2 => ?_) (fun c_2 => ?_)
  · skip
    refine lv_aload_n hx hb dX7_letter_15 rfl (lv_at hl 0 rfl) ?_
    refine va_get (D := D) (ci := 7) (v := .int (nI pn)) (C := RX7) (T := TX7) (N := 25) hx hb hts (fun w h => List.mem_cons_of_mem _ (List.mem_append_right _ h)) hown hK hP 0 rfl rfl 1 (by decide) (hts (Cond.fieldLink RX7 44 "JamDaysModel" "pageMany" "I") (List.mem_of_getElem? (i := 2) rfl)) (fun _ h9 => h9) rfl dX7_letter_16 ?_
    refine lv_bipush (v := 25) hx hb dX7_letter_19 (by decide) ?_
    refine lv_icmp_ne (tgt := 27) hx hb dX7_letter_21 (by decide) (fun c_3 => ?_) (fun c_3 => ?_)
    · skip
      replace c_3 : ¬ pn = 25 := fun h => c_3 ((nI_eq (a := pn) (b := 25) (by omega) (by omega)).mpr h)
      refine lv_aload_n hx hb dX7_letter_27 rfl (lv_at hl 0 rfl) ?_
      refine va_get (D := D) (ci := 7) (v := .ref zp) (C := RX7) (T := TX7) (N := 25) hx hb hts (fun w h => List.mem_cons_of_mem _ (List.mem_append_right _ h)) hown hK hP 0 rfl rfl 0 (by decide) (hts (Cond.fieldLink RX7 7 "JamDaysModel" "page" "[I") (List.mem_of_getElem? (i := 3) rfl)) (fun _ h9 => h9) rfl dX7_letter_28 ?_
      refine lv_aload_n hx hb dX7_letter_31 rfl (lv_at hl 0 rfl) ?_
      refine va_get (D := D) (ci := 7) (v := .int (nI pn)) (C := RX7) (T := TX7) (N := 25) hx hb hts (fun w h => List.mem_cons_of_mem _ (List.mem_append_right _ h)) hown hK hP 0 rfl rfl 1 (by decide) (hts (Cond.fieldLink RX7 44 "JamDaysModel" "pageMany" "I") (List.mem_of_getElem? (i := 2) rfl)) (fun _ h9 => h9) rfl dX7_letter_32 ?_
      refine lv_iload_n hx hb dX7_letter_35 rfl (lv_at hl 1 rfl) ?_
      refine jv_ast (k := pn) (x := p0) hx hb hK hP hD hS 1 0 rfl rfl (by omega) (by decide) dX7_letter_36 (fun H locs hP hD hS => ?_)
      have hP : va_P D vwCl [(z, .inr (7, [.ref zp, .int (nI pn), a2, a3, a4, a5, a6, a7, a8, a9, a10, a11, a12, a13, a14, a15, a16, a17, a18, a19, a20, a21, a22, a23, a24])), (zp, .inl (cI, 25, .inl (upd pg pn p0)))] H := hP
      have hD : va_D A [(z, .inr (7, [.ref zp, .int (nI pn), a2, a3, a4, a5, a6, a7, a8, a9, a10, a11, a12, a13, a14, a15, a16, a17, a18, a19, a20, a21, a22, a23, a24])), (zp, .inl (cI, 25, .inl (upd pg pn p0)))] := hD
      refine lv_aload_n hx hb dX7_letter_37 rfl (lv_at hl 0 rfl) ?_
      refine lv_dup hx hb dX7_letter_38 rfl ?_
      refine va_get (D := D) (ci := 7) (v := .int (nI pn)) (C := RX7) (T := TX7) (N := 25) hx hb hts (fun w h => List.mem_cons_of_mem _ (List.mem_append_right _ h)) hown hK hP 0 rfl rfl 1 (by decide) (hts (Cond.fieldLink RX7 44 "JamDaysModel" "pageMany" "I") (List.mem_of_getElem? (i := 2) rfl)) (fun _ h9 => h9) rfl dX7_letter_39 ?_
      refine lv_iconst (v := 1) hx hb dX7_letter_42 (by decide) ?_
      refine lv_iadd hx hb dX7_letter_43 ?_
      refine jv_as (y := nI (pn + 1)) (nI_add pn 1) ?_
      refine va_put (D := D) (ci := 7) (v := .int (nI (pn + 1))) (ty := .int) (C := RX7) (T := TX7) (N := 25) hx hb hts (fun w h => List.mem_cons_of_mem _ (List.mem_append_right _ h)) tyX7 tyX7_ok nmX7 hown hK hP hD hS 0 rfl rfl 1 (by decide) (hts (Cond.fieldLink RX7 44 "JamDaysModel" "pageMany" "I") (List.mem_of_getElem? (i := 2) rfl)) (fun _ h9 => h9) rfl (by decide +kernel) rfl rfl (Nat.le_of_ble_eq_true rfl) dX7_letter_44 (fun H locs hP hD hS => ?_)
      have hP : va_P D vwCl [(z, .inr (7, [.ref zp, .int (nI (pn + 1)), a2, a3, a4, a5, a6, a7, a8, a9, a10, a11, a12, a13, a14, a15, a16, a17, a18, a19, a20, a21, a22, a23, a24])), (zp, .inl (cI, 25, .inl (upd pg pn p0)))] H := hP
      have hD : va_D A [(z, .inr (7, [.ref zp, .int (nI (pn + 1)), a2, a3, a4, a5, a6, a7, a8, a9, a10, a11, a12, a13, a14, a15, a16, a17, a18, a19, a20, a21, a22, a23, a24])), (zp, .inl (cI, 25, .inl (upd pg pn p0)))] := hD
      refine lv_aload_n hx hb dX7_letter_47 rfl (lv_at hl 0 rfl) ?_
      refine va_get (D := D) (ci := 7) (v := .int (nI (pn + 1))) (C := RX7) (T := TX7) (N := 25) hx hb hts (fun w h => List.mem_cons_of_mem _ (List.mem_append_right _ h)) hown hK hP 0 rfl rfl 1 (by decide) (hts (Cond.fieldLink RX7 44 "JamDaysModel" "pageMany" "I") (List.mem_of_getElem? (i := 2) rfl)) (fun _ h9 => h9) rfl dX7_letter_48 ?_
      exact W.iret (v := nI (pn + 1)) hx hb hr (fun t ht hW => ⟨⟨nI (pn + 1), nI (pn + 1), rfl, rfl, by dsimp only; rw [ht]; exact ⟨rfl, hP⟩⟩, hS.F ht⟩) hS.2.2 dX7_letter_51
    · skip
      replace c_3 : pn = 25 := (nI_eq (a := pn) (b := 25) (by omega) (by omega)).mp c_3
      exact absurd c_3 (by omega)
  · skip
    exact absurd c_2 (by decide)

set_option maxHeartbeats 4000000 in
set_option maxRecDepth 100000 in
theorem c_mblank (l : Launch) (D : va_G) (cI cJ : ClassId) (z : Nat) (pn : Nat) (a0 : Value) (a2 : Value) (a3 : Value) (a4 : Value) (a5 : Value) (a6 : Value) (a7 : Value) (a8 : Value) (a9 : Value) (a10 : Value) (a11 : Value) (a12 : Value) (a13 : Value) (a14 : Value) (a15 : Value) (a16 : Value) (a17 : Value) (a18 : Value) (a19 : Value) (a20 : Value) (a21 : Value) (a22 : Value) (a23 : Value) (a24 : Value)  : jWi l yX7_blank wsX7_blank ({ frames := 0, cells := 0, slots := 0, locals := 0 }) 0 0 [.ref z] D cI cJ [(z, .inr (7, [a0, .int (nI pn), a2, a3, a4, a5, a6, a7, a8, a9, a10, a11, a12, a13, a14, a15, a16, a17, a18, a19, a20, a21, a22, a23, a24]))] (fun H => True) (fun r H => r = nI pn ∧ va_P D vwCl [(z, .inr (7, [a0, .int 0, a2, a3, a4, a5, a6, a7, a8, a9, a10, a11, a12, a13, a14, a15, a16, a17, a18, a19, a20, a21, a22, a23, a24]))] H) := by
  intro sz
  refine Met.ofW (cc := cX7_blank) (maxL := 2) (ret := (some .int)) (by decide) rfl ?_
  intro p e s m args below meth c s₁ B hml hv
  obtain ⟨rfl, hsz, hT, hP, hD0, _⟩ := hv
  have hK := hT.1
  have hx := B.exec
  have hb := B.bytes
  have hr := B.returns
  have hts := atoms_spec (ws := wsX7_blank) B.pre
  have hown : s.vm.findClass RX7 = some m.cls := findClass_of_methodNamed B.named
  have hlocks := B.notSynchronized
  subst hsz
  have hD := hD0.self (sz := s.heap.size)
  generalize hAe : va_A [(z, .inr (7, [a0, .int (nI pn), a2, a3, a4, a5, a6, a7, a8, a9, a10, a11, a12, a13, a14, a15, a16, a17, a18, a19, a20, a21, a22, a23, a24]))] s.heap.size = A at hD ⊢
  have hA : ∀ q : Nat, s.heap.size ≤ q → A q := fun q h => by rw [← hAe]; exact Or.inr h
  have hS : va_S A s.heap s.heap [] := va_S.rf
  have hl := lv_entry ([.ref z] : List Value) (n := 2) (Nat.le_of_ble_eq_true rfl)
  rw [lg_entry_eq]
  generalize (lg_sl ([.ref z]) ++ List.replicate (2 - (lg_sl ([.ref z])).length) Slot.unset).toArray = ls at hl ⊢
  have hl : lv_has ls 2 [(0, .ref z)] := hl
  refine lv_aload_n hx hb dX7_blank_0 rfl (lv_at hl 0 rfl) ?_
  refine va_get (D := D) (ci := 7) (v := .int (nI pn)) (C := RX7) (T := TX7) (N := 25) hx hb hts (fun w h => List.mem_cons_of_mem _ (List.mem_append_right _ h)) hown hK hP 0 rfl rfl 1 (by decide) (hts (Cond.fieldLink RX7 44 "JamDaysModel" "pageMany" "I") (List.mem_of_getElem? (i := 1) rfl)) (fun _ h9 => h9) rfl dX7_blank_1 ?_
  refine lv_istore_n (lv' := [(1, .int (nI pn)), (0, .ref z)]) hx hb dX7_blank_4 rfl hl (by decide) rfl (fun ls hl => ?_)
  refine lv_aload_n hx hb dX7_blank_5 rfl (lv_at hl 1 rfl) ?_
  refine lv_iconst (v := 0) hx hb dX7_blank_6 (by decide) ?_
  refine va_put (D := D) (ci := 7) (v := .int 0) (ty := .int) (C := RX7) (T := TX7) (N := 25) hx hb hts (fun w h => List.mem_cons_of_mem _ (List.mem_append_right _ h)) tyX7 tyX7_ok nmX7 hown hK hP hD hS 0 rfl rfl 1 (by decide) (hts (Cond.fieldLink RX7 44 "JamDaysModel" "pageMany" "I") (List.mem_of_getElem? (i := 1) rfl)) (fun _ h9 => h9) rfl (by decide +kernel) rfl rfl (Nat.le_of_ble_eq_true rfl) dX7_blank_7 (fun H locs hP hD hS => ?_)
  have hP : va_P D vwCl [(z, .inr (7, [a0, .int 0, a2, a3, a4, a5, a6, a7, a8, a9, a10, a11, a12, a13, a14, a15, a16, a17, a18, a19, a20, a21, a22, a23, a24]))] H := hP
  have hD : va_D A [(z, .inr (7, [a0, .int 0, a2, a3, a4, a5, a6, a7, a8, a9, a10, a11, a12, a13, a14, a15, a16, a17, a18, a19, a20, a21, a22, a23, a24]))] := hD
  refine lv_iload_n hx hb dX7_blank_10 rfl (lv_at hl 0 rfl) ?_
  exact W.iret (v := nI pn) hx hb hr (fun t ht hW => ⟨⟨nI pn, nI pn, rfl, rfl, by dsimp only; rw [ht]; exact ⟨rfl, hP⟩⟩, hS.F ht⟩) hS.2.2 dX7_blank_11

set_option maxHeartbeats 4000000 in
set_option maxRecDepth 100000 in
theorem c_meat_no (l : Launch) (D : va_G) (cI cJ : ClassId) (z : Nat) (n : Nat) (a0 : Value) (a1 : Value) (a3 : Value) (a4 : Value) (a5 : Value) (a6 : Value) (a7 : Value) (a8 : Value) (a9 : Value) (a10 : Value) (a11 : Value) (a12 : Value) (a13 : Value) (a14 : Value) (a15 : Value) (a16 : Value) (a17 : Value) (a18 : Value) (a19 : Value) (a20 : Value) (a21 : Value) (a22 : Value) (a23 : Value) (a24 : Value) (p0 : Int32) (h9 : p0 < 0 ∨ nI n ≤ p0) (hn6 : n ≤ 6) : jRi l yX7_eat wsX7_eat ({ frames := 2, cells := 0, slots := 0, locals := 46 }) [.ref z, .int p0] D cI cJ (fun H => va_P D vwCl [(z, .inr (7, [a0, a1, .int (nI n), a3, a4, a5, a6, a7, a8, a9, a10, a11, a12, a13, a14, a15, a16, a17, a18, a19, a20, a21, a22, a23, a24]))] H) (fun r => r = -101) := by
  intro sz
  refine Met.ofW (cc := cX7_eat) (maxL := 3) (ret := (some .int)) (by decide) rfl ?_
  intro p e s m args below meth c s₁ B hml hv
  obtain ⟨rfl, hsz, hT, hPr⟩ := hv
  have hK := hT.1
  have hx := B.exec
  have hb := B.bytes
  have hr := B.returns
  have hts := atoms_spec (ws := wsX7_eat) B.pre
  have hown : s.vm.findClass RX7 = some m.cls := findClass_of_methodNamed B.named
  have hlocks := B.notSynchronized
  subst hsz
  generalize hAe : va_A [] s.heap.size = A
  have hA : ∀ q : Nat, s.heap.size ≤ q → A q := fun q h => by rw [← hAe]; exact Or.inr h
  have hS : va_S A s.heap s.heap [] := va_S.rf
  have hl := lv_entry ([.ref z, .int p0] : List Value) (n := 3) (Nat.le_of_ble_eq_true rfl)
  rw [lg_entry_eq]
  generalize (lg_sl ([.ref z, .int p0]) ++ List.replicate (3 - (lg_sl ([.ref z, .int p0])).length) Slot.unset).toArray = ls at hl ⊢
  have hl : lv_has ls 3 [(0, .ref z), (1, .int p0)] := hl
  refine lv_aload_n hx hb dX7_eat_0 rfl (lv_at hl 0 rfl) ?_
  refine lv_iload_n hx hb dX7_eat_1 rfl (lv_at hl 1 rfl) ?_
  have hPc_1 := hPr.sub (ws' := [(z, .inr (7, [a0, a1, .int (nI n), a3, a4, a5, a6, a7, a8, a9, a10, a11, a12, a13, a14, a15, a16, a17, a18, a19, a20, a21, a22, a23, a24]))]) [0] rfl
  refine jcalli (va_runV (As := [.int p0]) (rest := []) ⟨hx, hb, hml, hown, hts⟩ (c_isJar_n l D cI cJ z n a0 a1 a3 a4 a5 a6 a7 a8 a9 a10 a11 a12 a13 a14 a15 a16 a17 a18 a19 a20 a21 a22 a23 a24 p0 h9 hn6 s.heap.size) (cwV 1 hts gX7_eat_X7_isJar rfl rfl rfl (by decide +kernel) ⟨Nat.le_of_ble_eq_true rfl, Nat.le_of_ble_eq_true rfl⟩) (jpreV hT (va_recv hK hPr (ci := 7) (q0 := 0) rfl rfl) hPc_1) rfl rfl hl.1 rfl (lv_room (Nat.le_of_ble_eq_true rfl)) dX7_eat_2 ⟨(Nat.zero_le _), (Nat.zero_le _)⟩) hS hA (fun r_2 H locs hw_r_2 hkq hS => ?_)
  try dsimp only at hw_r_2
  have hPr := jkeep hPr hkq
  subst hw_r_2
  refine lv_if_ne (tgt := 11) hx hb dX7_eat_5 (by decide) (fun c_3 => ?_) (fun c_3 => ?_)
  · skip
    exact absurd c_3 (by decide)
  · skip
    refine lv_bipush (v := (-101)) hx hb dX7_eat_8 (by decide) ?_
    exact W.iret (v := (-101)) hx hb hr (fun t ht hW => ⟨⟨(-101), (), rfl, rfl, trivial⟩, hS.F ht⟩) hS.2.2 dX7_eat_10

set_option maxHeartbeats 4000000 in
set_option maxRecDepth 100000 in
theorem c_mwasps_no (l : Launch) (D : va_G) (cI cJ : ClassId) (z : Nat) (n : Nat) (a0 : Value) (a1 : Value) (a3 : Value) (a4 : Value) (a5 : Value) (a6 : Value) (a7 : Value) (a8 : Value) (a9 : Value) (a10 : Value) (a11 : Value) (a12 : Value) (a13 : Value) (a14 : Value) (a15 : Value) (a16 : Value) (a17 : Value) (a18 : Value) (a19 : Value) (a20 : Value) (a21 : Value) (a22 : Value) (a23 : Value) (a24 : Value) (p0 : Int32) (h9 : p0 < 0 ∨ nI n ≤ p0) (hn6 : n ≤ 6) : jRi l yX7_wasps wsX7_wasps ({ frames := 2, cells := 0, slots := 0, locals := 46 }) [.ref z, .int p0] D cI cJ (fun H => va_P D vwCl [(z, .inr (7, [a0, a1, .int (nI n), a3, a4, a5, a6, a7, a8, a9, a10, a11, a12, a13, a14, a15, a16, a17, a18, a19, a20, a21, a22, a23, a24]))] H) (fun r => r = -101) := by
  intro sz
  refine Met.ofW (cc := cX7_wasps) (maxL := 2) (ret := (some .int)) (by decide) rfl ?_
  intro p e s m args below meth c s₁ B hml hv
  obtain ⟨rfl, hsz, hT, hPr⟩ := hv
  have hK := hT.1
  have hx := B.exec
  have hb := B.bytes
  have hr := B.returns
  have hts := atoms_spec (ws := wsX7_wasps) B.pre
  have hown : s.vm.findClass RX7 = some m.cls := findClass_of_methodNamed B.named
  have hlocks := B.notSynchronized
  subst hsz
  generalize hAe : va_A [] s.heap.size = A
  have hA : ∀ q : Nat, s.heap.size ≤ q → A q := fun q h => by rw [← hAe]; exact Or.inr h
  have hS : va_S A s.heap s.heap [] := va_S.rf
  have hl := lv_entry ([.ref z, .int p0] : List Value) (n := 2) (Nat.le_of_ble_eq_true rfl)
  rw [lg_entry_eq]
  generalize (lg_sl ([.ref z, .int p0]) ++ List.replicate (2 - (lg_sl ([.ref z, .int p0])).length) Slot.unset).toArray = ls at hl ⊢
  have hl : lv_has ls 2 [(0, .ref z), (1, .int p0)] := hl
  refine lv_aload_n hx hb dX7_wasps_0 rfl (lv_at hl 0 rfl) ?_
  refine lv_iload_n hx hb dX7_wasps_1 rfl (lv_at hl 1 rfl) ?_
  have hPc_1 := hPr.sub (ws' := [(z, .inr (7, [a0, a1, .int (nI n), a3, a4, a5, a6, a7, a8, a9, a10, a11, a12, a13, a14, a15, a16, a17, a18, a19, a20, a21, a22, a23, a24]))]) [0] rfl
  refine jcalli (va_runV (As := [.int p0]) (rest := []) ⟨hx, hb, hml, hown, hts⟩ (c_isJar_n l D cI cJ z n a0 a1 a3 a4 a5 a6 a7 a8 a9 a10 a11 a12 a13 a14 a15 a16 a17 a18 a19 a20 a21 a22 a23 a24 p0 h9 hn6 s.heap.size) (cwV 1 hts gX7_wasps_X7_isJar rfl rfl rfl (by decide +kernel) ⟨Nat.le_of_ble_eq_true rfl, Nat.le_of_ble_eq_true rfl⟩) (jpreV hT (va_recv hK hPr (ci := 7) (q0 := 0) rfl rfl) hPc_1) rfl rfl hl.1 rfl (lv_room (Nat.le_of_ble_eq_true rfl)) dX7_wasps_2 ⟨(Nat.zero_le _), (Nat.zero_le _)⟩) hS hA (fun r_2 H locs hw_r_2 hkq hS => ?_)
  try dsimp only at hw_r_2
  have hPr := jkeep hPr hkq
  subst hw_r_2
  refine lv_if_ne (tgt := 11) hx hb dX7_wasps_5 (by decide) (fun c_3 => ?_) (fun c_3 => ?_)
  · skip
    exact absurd c_3 (by decide)
  · skip
    refine lv_bipush (v := (-101)) hx hb dX7_wasps_8 (by decide) ?_
    exact W.iret (v := (-101)) hx hb hr (fun t ht hW => ⟨⟨(-101), (), rfl, rfl, trivial⟩, hS.F ht⟩) hS.2.2 dX7_wasps_10

set_option maxHeartbeats 4000000 in
set_option maxRecDepth 100000 in
theorem c_meat_none (l : Launch) (D : va_G) (cI cJ : ClassId) (z : Nat) (zr : Nat) (n : Nat) (a0 : Value) (a1 : Value) (a3 : Value) (a4 : Value) (a5 : Value) (a6 : Value) (a7 : Value) (a9 : Value) (a10 : Value) (a11 : Value) (a12 : Value) (a13 : Value) (a14 : Value) (a15 : Value) (a16 : Value) (a17 : Value) (a18 : Value) (a19 : Value) (a20 : Value) (a21 : Value) (a22 : Value) (a23 : Value) (a24 : Value) (Rw : Nat → Int32) (j : Nat) (hj : j < n) (hn6 : n ≤ 6) (h0 : Rw (5 * j + 3) = 0) : jRi l yX7_eat wsX7_eat ({ frames := 2, cells := 0, slots := 0, locals := 46 }) [.ref z, .int (nI j)] D cI cJ (fun H => va_P D vwCl [(z, .inr (7, [a0, a1, .int (nI n), a3, a4, a5, a6, a7, .ref zr, a9, a10, a11, a12, a13, a14, a15, a16, a17, a18, a19, a20, a21, a22, a23, a24])), (zr, .inl (cI, 30, .inl Rw))] H) (fun r => r = -103) := by
  intro sz
  refine Met.ofW (cc := cX7_eat) (maxL := 3) (ret := (some .int)) (by decide) rfl ?_
  intro p e s m args below meth c s₁ B hml hv
  obtain ⟨rfl, hsz, hT, hPr⟩ := hv
  have hK := hT.1
  have hx := B.exec
  have hb := B.bytes
  have hr := B.returns
  have hts := atoms_spec (ws := wsX7_eat) B.pre
  have hown : s.vm.findClass RX7 = some m.cls := findClass_of_methodNamed B.named
  have hlocks := B.notSynchronized
  subst hsz
  generalize hAe : va_A [] s.heap.size = A
  have hA : ∀ q : Nat, s.heap.size ≤ q → A q := fun q h => by rw [← hAe]; exact Or.inr h
  have hS : va_S A s.heap s.heap [] := va_S.rf
  have hl := lv_entry ([.ref z, .int (nI j)] : List Value) (n := 3) (Nat.le_of_ble_eq_true rfl)
  rw [lg_entry_eq]
  generalize (lg_sl ([.ref z, .int (nI j)]) ++ List.replicate (3 - (lg_sl ([.ref z, .int (nI j)])).length) Slot.unset).toArray = ls at hl ⊢
  have hl : lv_has ls 3 [(0, .ref z), (1, .int (nI j))] := hl
  refine lv_aload_n hx hb dX7_eat_0 rfl (lv_at hl 0 rfl) ?_
  refine lv_iload_n hx hb dX7_eat_1 rfl (lv_at hl 1 rfl) ?_
  have hPc_1 := hPr.sub (ws' := [(z, .inr (7, [a0, a1, .int (nI n), a3, a4, a5, a6, a7, .ref zr, a9, a10, a11, a12, a13, a14, a15, a16, a17, a18, a19, a20, a21, a22, a23, a24]))]) [0] rfl
  refine jcalli (va_runV (As := [.int (nI j)]) (rest := []) ⟨hx, hb, hml, hown, hts⟩ (c_isJar_y l D cI cJ z n j a0 a1 a3 a4 a5 a6 a7 (.ref zr) a9 a10 a11 a12 a13 a14 a15 a16 a17 a18 a19 a20 a21 a22 a23 a24 hj hn6 s.heap.size) (cwV 1 hts gX7_eat_X7_isJar rfl rfl rfl (by decide +kernel) ⟨Nat.le_of_ble_eq_true rfl, Nat.le_of_ble_eq_true rfl⟩) (jpreV hT (va_recv hK hPr (ci := 7) (q0 := 0) rfl rfl) hPc_1) rfl rfl hl.1 rfl (lv_room (Nat.le_of_ble_eq_true rfl)) dX7_eat_2 ⟨(Nat.zero_le _), (Nat.zero_le _)⟩) hS hA (fun r_2 H locs hw_r_2 hkq hS => ?_)
  try dsimp only at hw_r_2
  have hPr := jkeep hPr hkq
  subst hw_r_2
  refine lv_if_ne (tgt := 11) hx hb dX7_eat_5 (by decide) (fun c_3 => ?_) (fun c_3 => ?_)
  · skip
    refine lv_aload_n hx hb dX7_eat_11 rfl (lv_at hl 0 rfl) ?_
    refine va_get (D := D) (ci := 7) (v := .ref zr) (C := RX7) (T := TX7) (N := 25) hx hb hts (fun w h => List.mem_cons_of_mem _ (List.mem_append_right _ h)) hown hK hPr 0 rfl rfl 8 (by decide) (hts (Cond.fieldLink RX7 13 "JamDaysModel" "rows" "[I") (List.mem_of_getElem? (i := 1) rfl)) (fun _ h9 => h9) rfl dX7_eat_12 ?_
    refine lv_iconst (v := 5) hx hb dX7_eat_15 (by decide) ?_
    refine lv_iload_n hx hb dX7_eat_16 rfl (lv_at hl 1 rfl) ?_
    refine lv_imul hx hb dX7_eat_17 ?_
    refine jv_as (y := nI (5 * j)) (pk_mul 5 j) ?_
    refine lv_iconst (v := 3) hx hb dX7_eat_18 (by decide) ?_
    refine lv_iadd hx hb dX7_eat_19 ?_
    refine jv_as (y := nI ((5 * j) + 3)) (nI_add (5 * j) 3) ?_
    refine jv_ald (k := (5 * j) + 3) hx hb hK hPr 1 0 rfl rfl (by omega) (by decide) dX7_eat_20 ?_
    refine lv_if_ne (tgt := 27) hx hb dX7_eat_21 (by decide) (fun c_4 => ?_) (fun c_4 => ?_)
    · skip
      exact absurd h0 c_4
    · skip
      refine lv_bipush (v := (-103)) hx hb dX7_eat_24 (by decide) ?_
      exact W.iret (v := (-103)) hx hb hr (fun t ht hW => ⟨⟨(-103), (), rfl, rfl, trivial⟩, hS.F ht⟩) hS.2.2 dX7_eat_26
  · skip
    exact absurd c_3 (by decide)

set_option maxHeartbeats 4000000 in
set_option maxRecDepth 100000 in
theorem c_mwasps_none (l : Launch) (D : va_G) (cI cJ : ClassId) (z : Nat) (zr : Nat) (n : Nat) (a0 : Value) (a1 : Value) (a3 : Value) (a4 : Value) (a5 : Value) (a6 : Value) (a7 : Value) (a9 : Value) (a10 : Value) (a11 : Value) (a12 : Value) (a13 : Value) (a14 : Value) (a15 : Value) (a16 : Value) (a17 : Value) (a18 : Value) (a19 : Value) (a20 : Value) (a21 : Value) (a22 : Value) (a23 : Value) (a24 : Value) (Rw : Nat → Int32) (j : Nat) (hj : j < n) (hn6 : n ≤ 6) (h0 : Rw (5 * j + 3) = 0) : jRi l yX7_wasps wsX7_wasps ({ frames := 2, cells := 0, slots := 0, locals := 46 }) [.ref z, .int (nI j)] D cI cJ (fun H => va_P D vwCl [(z, .inr (7, [a0, a1, .int (nI n), a3, a4, a5, a6, a7, .ref zr, a9, a10, a11, a12, a13, a14, a15, a16, a17, a18, a19, a20, a21, a22, a23, a24])), (zr, .inl (cI, 30, .inl Rw))] H) (fun r => r = -103) := by
  intro sz
  refine Met.ofW (cc := cX7_wasps) (maxL := 2) (ret := (some .int)) (by decide) rfl ?_
  intro p e s m args below meth c s₁ B hml hv
  obtain ⟨rfl, hsz, hT, hPr⟩ := hv
  have hK := hT.1
  have hx := B.exec
  have hb := B.bytes
  have hr := B.returns
  have hts := atoms_spec (ws := wsX7_wasps) B.pre
  have hown : s.vm.findClass RX7 = some m.cls := findClass_of_methodNamed B.named
  have hlocks := B.notSynchronized
  subst hsz
  generalize hAe : va_A [] s.heap.size = A
  have hA : ∀ q : Nat, s.heap.size ≤ q → A q := fun q h => by rw [← hAe]; exact Or.inr h
  have hS : va_S A s.heap s.heap [] := va_S.rf
  have hl := lv_entry ([.ref z, .int (nI j)] : List Value) (n := 2) (Nat.le_of_ble_eq_true rfl)
  rw [lg_entry_eq]
  generalize (lg_sl ([.ref z, .int (nI j)]) ++ List.replicate (2 - (lg_sl ([.ref z, .int (nI j)])).length) Slot.unset).toArray = ls at hl ⊢
  have hl : lv_has ls 2 [(0, .ref z), (1, .int (nI j))] := hl
  refine lv_aload_n hx hb dX7_wasps_0 rfl (lv_at hl 0 rfl) ?_
  refine lv_iload_n hx hb dX7_wasps_1 rfl (lv_at hl 1 rfl) ?_
  have hPc_1 := hPr.sub (ws' := [(z, .inr (7, [a0, a1, .int (nI n), a3, a4, a5, a6, a7, .ref zr, a9, a10, a11, a12, a13, a14, a15, a16, a17, a18, a19, a20, a21, a22, a23, a24]))]) [0] rfl
  refine jcalli (va_runV (As := [.int (nI j)]) (rest := []) ⟨hx, hb, hml, hown, hts⟩ (c_isJar_y l D cI cJ z n j a0 a1 a3 a4 a5 a6 a7 (.ref zr) a9 a10 a11 a12 a13 a14 a15 a16 a17 a18 a19 a20 a21 a22 a23 a24 hj hn6 s.heap.size) (cwV 1 hts gX7_wasps_X7_isJar rfl rfl rfl (by decide +kernel) ⟨Nat.le_of_ble_eq_true rfl, Nat.le_of_ble_eq_true rfl⟩) (jpreV hT (va_recv hK hPr (ci := 7) (q0 := 0) rfl rfl) hPc_1) rfl rfl hl.1 rfl (lv_room (Nat.le_of_ble_eq_true rfl)) dX7_wasps_2 ⟨(Nat.zero_le _), (Nat.zero_le _)⟩) hS hA (fun r_2 H locs hw_r_2 hkq hS => ?_)
  try dsimp only at hw_r_2
  have hPr := jkeep hPr hkq
  subst hw_r_2
  refine lv_if_ne (tgt := 11) hx hb dX7_wasps_5 (by decide) (fun c_3 => ?_) (fun c_3 => ?_)
  · skip
    refine lv_aload_n hx hb dX7_wasps_11 rfl (lv_at hl 0 rfl) ?_
    refine va_get (D := D) (ci := 7) (v := .ref zr) (C := RX7) (T := TX7) (N := 25) hx hb hts (fun w h => List.mem_cons_of_mem _ (List.mem_append_right _ h)) hown hK hPr 0 rfl rfl 8 (by decide) (hts (Cond.fieldLink RX7 13 "JamDaysModel" "rows" "[I") (List.mem_of_getElem? (i := 1) rfl)) (fun _ h9 => h9) rfl dX7_wasps_12 ?_
    refine lv_iconst (v := 5) hx hb dX7_wasps_15 (by decide) ?_
    refine lv_iload_n hx hb dX7_wasps_16 rfl (lv_at hl 1 rfl) ?_
    refine lv_imul hx hb dX7_wasps_17 ?_
    refine jv_as (y := nI (5 * j)) (pk_mul 5 j) ?_
    refine lv_iconst (v := 3) hx hb dX7_wasps_18 (by decide) ?_
    refine lv_iadd hx hb dX7_wasps_19 ?_
    refine jv_as (y := nI ((5 * j) + 3)) (nI_add (5 * j) 3) ?_
    refine jv_ald (k := (5 * j) + 3) hx hb hK hPr 1 0 rfl rfl (by omega) (by decide) dX7_wasps_20 ?_
    refine lv_if_ne (tgt := 27) hx hb dX7_wasps_21 (by decide) (fun c_4 => ?_) (fun c_4 => ?_)
    · skip
      exact absurd h0 c_4
    · skip
      refine lv_bipush (v := (-103)) hx hb dX7_wasps_24 (by decide) ?_
      exact W.iret (v := (-103)) hx hb hr (fun t ht hW => ⟨⟨(-103), (), rfl, rfl, trivial⟩, hS.F ht⟩) hS.2.2 dX7_wasps_26
  · skip
    exact absurd c_3 (by decide)

set_option maxHeartbeats 4000000 in
set_option maxRecDepth 100000 in
theorem c_meat_ok (l : Launch) (D : va_G) (cI cJ : ClassId) (z : Nat) (zr : Nat) (n : Nat) (a0 : Value) (a1 : Value) (a6 : Value) (a7 : Value) (a9 : Value) (a10 : Value) (a11 : Value) (a12 : Value) (a13 : Value) (a14 : Value) (a15 : Value) (a16 : Value) (a17 : Value) (a18 : Value) (a19 : Value) (a20 : Value) (a21 : Value) (a22 : Value) (a23 : Value) (a24 : Value) (Rw : Nat → Int32) (y : Int32) (jo : Int32) (ea : Int32) (j : Nat) (hj : j < n) (hn6 : n ≤ 6) (h0 : ¬ Rw (5 * j + 3) = 0) : jWi l yX7_eat wsX7_eat ({ frames := 3, cells := 0, slots := 0, locals := 70 }) 0 0 [.ref z, .int (nI j)] D cI cJ [(z, .inr (7, [a0, a1, .int (nI n), .int y, .int jo, .int ea, a6, a7, .ref zr, a9, a10, a11, a12, a13, a14, a15, a16, a17, a18, a19, a20, a21, a22, a23, a24])), (zr, .inl (cI, 30, .inl Rw))] (fun H => True) (fun r H => r = mfi Rw j y - Rw (5 * j + 4) + 100 ∧ va_P D vwCl [(z, .inr (7, [a0, a1, .int (nI n), .int y, .int (jo + (mfi Rw j y - Rw (5 * j + 4))), .int (ea + 1), a6, a7, .ref zr, a9, a10, a11, a12, a13, a14, a15, a16, a17, a18, a19, a20, a21, a22, a23, a24])), (zr, .inl (cI, 30, .inl (upd (upd Rw (5 * j + 3) (Rw (5 * j + 3) - 1)) (5 * j + 4) (Rw (5 * j + 4) + 1))))] H) := by
  intro sz
  refine Met.ofW (cc := cX7_eat) (maxL := 3) (ret := (some .int)) (by decide) rfl ?_
  intro p e s m args below meth c s₁ B hml hv
  obtain ⟨rfl, hsz, hT, hP, hD0, _⟩ := hv
  have hK := hT.1
  have hx := B.exec
  have hb := B.bytes
  have hr := B.returns
  have hts := atoms_spec (ws := wsX7_eat) B.pre
  have hown : s.vm.findClass RX7 = some m.cls := findClass_of_methodNamed B.named
  have hlocks := B.notSynchronized
  subst hsz
  have hD := hD0.self (sz := s.heap.size)
  generalize hAe : va_A [(z, .inr (7, [a0, a1, .int (nI n), .int y, .int jo, .int ea, a6, a7, .ref zr, a9, a10, a11, a12, a13, a14, a15, a16, a17, a18, a19, a20, a21, a22, a23, a24])), (zr, .inl (cI, 30, .inl Rw))] s.heap.size = A at hD ⊢
  have hA : ∀ q : Nat, s.heap.size ≤ q → A q := fun q h => by rw [← hAe]; exact Or.inr h
  have hS : va_S A s.heap s.heap [] := va_S.rf
  have hl := lv_entry ([.ref z, .int (nI j)] : List Value) (n := 3) (Nat.le_of_ble_eq_true rfl)
  rw [lg_entry_eq]
  generalize (lg_sl ([.ref z, .int (nI j)]) ++ List.replicate (3 - (lg_sl ([.ref z, .int (nI j)])).length) Slot.unset).toArray = ls at hl ⊢
  have hl : lv_has ls 3 [(0, .ref z), (1, .int (nI j))] := hl
  refine lv_aload_n hx hb dX7_eat_0 rfl (lv_at hl 0 rfl) ?_
  refine lv_iload_n hx hb dX7_eat_1 rfl (lv_at hl 1 rfl) ?_
  have hPc_1 := hP.sub (ws' := [(z, .inr (7, [a0, a1, .int (nI n), .int y, .int jo, .int ea, a6, a7, .ref zr, a9, a10, a11, a12, a13, a14, a15, a16, a17, a18, a19, a20, a21, a22, a23, a24]))]) [0] rfl
  refine jcalli (va_runV (As := [.int (nI j)]) (rest := []) ⟨hx, hb, hml, hown, hts⟩ (c_isJar_y l D cI cJ z n j a0 a1 (.int y) (.int jo) (.int ea) a6 a7 (.ref zr) a9 a10 a11 a12 a13 a14 a15 a16 a17 a18 a19 a20 a21 a22 a23 a24 hj hn6 s.heap.size) (cwV 1 hts gX7_eat_X7_isJar rfl rfl rfl (by decide +kernel) ⟨Nat.le_of_ble_eq_true rfl, Nat.le_of_ble_eq_true rfl⟩) (jpreV hT (va_recv hK hP (ci := 7) (q0 := 0) rfl rfl) hPc_1) rfl rfl hl.1 rfl (lv_room (Nat.le_of_ble_eq_true rfl)) dX7_eat_2 ⟨(Nat.zero_le _), (Nat.zero_le _)⟩) hS hA (fun r_2 H locs hw_r_2 hkq hS => ?_)
  try dsimp only at hw_r_2
  have hP := jkeep hP hkq
  subst hw_r_2
  refine lv_if_ne (tgt := 11) hx hb dX7_eat_5 (by decide) (fun c_3 => ?_) (fun c_3 => ?_)
  · skip
    refine lv_aload_n hx hb dX7_eat_11 rfl (lv_at hl 0 rfl) ?_
    refine va_get (D := D) (ci := 7) (v := .ref zr) (C := RX7) (T := TX7) (N := 25) hx hb hts (fun w h => List.mem_cons_of_mem _ (List.mem_append_right _ h)) hown hK hP 0 rfl rfl 8 (by decide) (hts (Cond.fieldLink RX7 13 "JamDaysModel" "rows" "[I") (List.mem_of_getElem? (i := 1) rfl)) (fun _ h9 => h9) rfl dX7_eat_12 ?_
    refine lv_iconst (v := 5) hx hb dX7_eat_15 (by decide) ?_
    refine lv_iload_n hx hb dX7_eat_16 rfl (lv_at hl 1 rfl) ?_
    refine lv_imul hx hb dX7_eat_17 ?_
    refine jv_as (y := nI (5 * j)) (pk_mul 5 j) ?_
    refine lv_iconst (v := 3) hx hb dX7_eat_18 (by decide) ?_
    refine lv_iadd hx hb dX7_eat_19 ?_
    refine jv_as (y := nI ((5 * j) + 3)) (nI_add (5 * j) 3) ?_
    refine jv_ald (k := (5 * j) + 3) hx hb hK hP 1 0 rfl rfl (by omega) (by decide) dX7_eat_20 ?_
    refine lv_if_ne (tgt := 27) hx hb dX7_eat_21 (by decide) (fun c_4 => ?_) (fun c_4 => ?_)
    · skip
      refine lv_aload_n hx hb dX7_eat_27 rfl (lv_at hl 0 rfl) ?_
      refine lv_iload_n hx hb dX7_eat_28 rfl (lv_at hl 1 rfl) ?_
      have hPc_5 := hP.sub (ws' := [(z, .inr (7, [a0, a1, .int (nI n), .int y, .int jo, .int ea, a6, a7, .ref zr, a9, a10, a11, a12, a13, a14, a15, a16, a17, a18, a19, a20, a21, a22, a23, a24])), (zr, .inl (cI, 30, .inl Rw))]) [0, 1] rfl
      refine jcalli (va_runV (As := [.int (nI j)]) (rest := []) ⟨hx, hb, hml, hown, hts⟩ (c_nextNow l D cI cJ z zr a0 a1 (.int (nI n)) (.int jo) (.int ea) a6 a7 a9 a10 a11 a12 a13 a14 a15 a16 a17 a18 a19 a20 a21 a22 a23 a24 Rw y j (by omega) H.size) (cwV 1 hts gX7_eat_X7_nextNow rfl rfl rfl (by decide +kernel) ⟨Nat.le_of_ble_eq_true rfl, Nat.le_of_ble_eq_true rfl⟩) (jpreV hT (va_recv hK hP (ci := 7) (q0 := 0) rfl rfl) hPc_5) rfl rfl hl.1 rfl (lv_room (Nat.le_of_ble_eq_true rfl)) dX7_eat_29 ⟨(Nat.zero_le _), (Nat.zero_le _)⟩) hS hA (fun r_6 H locs hw_r_6 hkq hS => ?_)
      try dsimp only at hw_r_6
      have hP := jkeep hP hkq
      subst hw_r_6
      refine lv_istore_n (lv' := [(2, .int (mfi Rw j y - Rw (5 * j + 4))), (0, .ref z), (1, .int (nI j))]) hx hb dX7_eat_32 rfl hl (by decide) rfl (fun ls hl => ?_)
      refine lv_aload_n hx hb dX7_eat_33 rfl (lv_at hl 1 rfl) ?_
      refine va_get (D := D) (ci := 7) (v := .ref zr) (C := RX7) (T := TX7) (N := 25) hx hb hts (fun w h => List.mem_cons_of_mem _ (List.mem_append_right _ h)) hown hK hP 0 rfl rfl 8 (by decide) (hts (Cond.fieldLink RX7 13 "JamDaysModel" "rows" "[I") (List.mem_of_getElem? (i := 1) rfl)) (fun _ h9 => h9) rfl dX7_eat_34 ?_
      refine lv_iconst (v := 5) hx hb dX7_eat_37 (by decide) ?_
      refine lv_iload_n hx hb dX7_eat_38 rfl (lv_at hl 2 rfl) ?_
      refine lv_imul hx hb dX7_eat_39 ?_
      refine jv_as (y := nI (5 * j)) (pk_mul 5 j) ?_
      refine lv_iconst (v := 3) hx hb dX7_eat_40 (by decide) ?_
      refine lv_iadd hx hb dX7_eat_41 ?_
      refine jv_as (y := nI ((5 * j) + 3)) (nI_add (5 * j) 3) ?_
      refine lv_dup2_11 hx hb dX7_eat_42 rfl rfl ?_
      refine jv_ald (k := (5 * j) + 3) hx hb hK hP 1 0 rfl rfl (by omega) (by decide) dX7_eat_43 ?_
      refine lv_iconst (v := 1) hx hb dX7_eat_44 (by decide) ?_
      refine lv_isub hx hb dX7_eat_45 ?_
      refine jv_ast (k := (5 * j) + 3) (x := (Rw ((5 * j) + 3)) - 1) hx hb hK hP hD hS 1 0 rfl rfl (by omega) (by decide) dX7_eat_46 (fun H locs hP hD hS => ?_)
      have hP : va_P D vwCl [(z, .inr (7, [a0, a1, .int (nI n), .int y, .int jo, .int ea, a6, a7, .ref zr, a9, a10, a11, a12, a13, a14, a15, a16, a17, a18, a19, a20, a21, a22, a23, a24])), (zr, .inl (cI, 30, .inl (upd Rw ((5 * j) + 3) ((Rw ((5 * j) + 3)) - 1))))] H := hP
      have hD : va_D A [(z, .inr (7, [a0, a1, .int (nI n), .int y, .int jo, .int ea, a6, a7, .ref zr, a9, a10, a11, a12, a13, a14, a15, a16, a17, a18, a19, a20, a21, a22, a23, a24])), (zr, .inl (cI, 30, .inl (upd Rw ((5 * j) + 3) ((Rw ((5 * j) + 3)) - 1))))] := hD
      refine lv_aload_n hx hb dX7_eat_47 rfl (lv_at hl 1 rfl) ?_
      refine va_get (D := D) (ci := 7) (v := .ref zr) (C := RX7) (T := TX7) (N := 25) hx hb hts (fun w h => List.mem_cons_of_mem _ (List.mem_append_right _ h)) hown hK hP 0 rfl rfl 8 (by decide) (hts (Cond.fieldLink RX7 13 "JamDaysModel" "rows" "[I") (List.mem_of_getElem? (i := 1) rfl)) (fun _ h9 => h9) rfl dX7_eat_48 ?_
      refine lv_iconst (v := 5) hx hb dX7_eat_51 (by decide) ?_
      refine lv_iload_n hx hb dX7_eat_52 rfl (lv_at hl 2 rfl) ?_
      refine lv_imul hx hb dX7_eat_53 ?_
      refine jv_as (y := nI (5 * j)) (pk_mul 5 j) ?_
      refine lv_iconst (v := 4) hx hb dX7_eat_54 (by decide) ?_
      refine lv_iadd hx hb dX7_eat_55 ?_
      refine jv_as (y := nI ((5 * j) + 4)) (nI_add (5 * j) 4) ?_
      refine lv_dup2_11 hx hb dX7_eat_56 rfl rfl ?_
      refine jv_ald (k := (5 * j) + 4) hx hb hK hP 1 0 rfl rfl (by omega) (by decide) dX7_eat_57 ?_
      refine jv_as (y := Rw (5 * j + 4)) (pk_un (by omega)) ?_
      refine lv_iconst (v := 1) hx hb dX7_eat_58 (by decide) ?_
      refine lv_iadd hx hb dX7_eat_59 ?_
      refine jv_ast (k := (5 * j) + 4) (x := (Rw (5 * j + 4)) + 1) hx hb hK hP hD hS 1 0 rfl rfl (by omega) (by decide) dX7_eat_60 (fun H locs hP hD hS => ?_)
      have hP : va_P D vwCl [(z, .inr (7, [a0, a1, .int (nI n), .int y, .int jo, .int ea, a6, a7, .ref zr, a9, a10, a11, a12, a13, a14, a15, a16, a17, a18, a19, a20, a21, a22, a23, a24])), (zr, .inl (cI, 30, .inl (upd (upd Rw ((5 * j) + 3) ((Rw ((5 * j) + 3)) - 1)) ((5 * j) + 4) ((Rw (5 * j + 4)) + 1))))] H := hP
      have hD : va_D A [(z, .inr (7, [a0, a1, .int (nI n), .int y, .int jo, .int ea, a6, a7, .ref zr, a9, a10, a11, a12, a13, a14, a15, a16, a17, a18, a19, a20, a21, a22, a23, a24])), (zr, .inl (cI, 30, .inl (upd (upd Rw ((5 * j) + 3) ((Rw ((5 * j) + 3)) - 1)) ((5 * j) + 4) ((Rw (5 * j + 4)) + 1))))] := hD
      refine lv_aload_n hx hb dX7_eat_61 rfl (lv_at hl 1 rfl) ?_
      refine lv_dup hx hb dX7_eat_62 rfl ?_
      refine va_get (D := D) (ci := 7) (v := .int jo) (C := RX7) (T := TX7) (N := 25) hx hb hts (fun w h => List.mem_cons_of_mem _ (List.mem_append_right _ h)) hown hK hP 0 rfl rfl 4 (by decide) (hts (Cond.fieldLink RX7 69 "JamDaysModel" "joy" "I") (List.mem_of_getElem? (i := 2) rfl)) (fun _ h9 => h9) rfl dX7_eat_63 ?_
      refine lv_iload_n hx hb dX7_eat_66 rfl (lv_at hl 0 rfl) ?_
      refine lv_iadd hx hb dX7_eat_67 ?_
      refine va_put (D := D) (ci := 7) (v := .int (jo + (mfi Rw j y - Rw (5 * j + 4)))) (ty := .int) (C := RX7) (T := TX7) (N := 25) hx hb hts (fun w h => List.mem_cons_of_mem _ (List.mem_append_right _ h)) tyX7 tyX7_ok nmX7 hown hK hP hD hS 0 rfl rfl 4 (by decide) (hts (Cond.fieldLink RX7 69 "JamDaysModel" "joy" "I") (List.mem_of_getElem? (i := 2) rfl)) (fun _ h9 => h9) rfl (by decide +kernel) rfl rfl (Nat.le_of_ble_eq_true rfl) dX7_eat_68 (fun H locs hP hD hS => ?_)
      have hP : va_P D vwCl [(z, .inr (7, [a0, a1, .int (nI n), .int y, .int (jo + (mfi Rw j y - Rw (5 * j + 4))), .int ea, a6, a7, .ref zr, a9, a10, a11, a12, a13, a14, a15, a16, a17, a18, a19, a20, a21, a22, a23, a24])), (zr, .inl (cI, 30, .inl (upd (upd Rw ((5 * j) + 3) ((Rw ((5 * j) + 3)) - 1)) ((5 * j) + 4) ((Rw (5 * j + 4)) + 1))))] H := hP
      have hD : va_D A [(z, .inr (7, [a0, a1, .int (nI n), .int y, .int (jo + (mfi Rw j y - Rw (5 * j + 4))), .int ea, a6, a7, .ref zr, a9, a10, a11, a12, a13, a14, a15, a16, a17, a18, a19, a20, a21, a22, a23, a24])), (zr, .inl (cI, 30, .inl (upd (upd Rw ((5 * j) + 3) ((Rw ((5 * j) + 3)) - 1)) ((5 * j) + 4) ((Rw (5 * j + 4)) + 1))))] := hD
      refine lv_aload_n hx hb dX7_eat_71 rfl (lv_at hl 1 rfl) ?_
      refine lv_dup hx hb dX7_eat_72 rfl ?_
      refine va_get (D := D) (ci := 7) (v := .int ea) (C := RX7) (T := TX7) (N := 25) hx hb hts (fun w h => List.mem_cons_of_mem _ (List.mem_append_right _ h)) hown hK hP 0 rfl rfl 5 (by decide) (hts (Cond.fieldLink RX7 72 "JamDaysModel" "eaten" "I") (List.mem_of_getElem? (i := 3) rfl)) (fun _ h9 => h9) rfl dX7_eat_73 ?_
      refine lv_iconst (v := 1) hx hb dX7_eat_76 (by decide) ?_
      refine lv_iadd hx hb dX7_eat_77 ?_
      refine va_put (D := D) (ci := 7) (v := .int (ea + 1)) (ty := .int) (C := RX7) (T := TX7) (N := 25) hx hb hts (fun w h => List.mem_cons_of_mem _ (List.mem_append_right _ h)) tyX7 tyX7_ok nmX7 hown hK hP hD hS 0 rfl rfl 5 (by decide) (hts (Cond.fieldLink RX7 72 "JamDaysModel" "eaten" "I") (List.mem_of_getElem? (i := 3) rfl)) (fun _ h9 => h9) rfl (by decide +kernel) rfl rfl (Nat.le_of_ble_eq_true rfl) dX7_eat_78 (fun H locs hP hD hS => ?_)
      have hP : va_P D vwCl [(z, .inr (7, [a0, a1, .int (nI n), .int y, .int (jo + (mfi Rw j y - Rw (5 * j + 4))), .int (ea + 1), a6, a7, .ref zr, a9, a10, a11, a12, a13, a14, a15, a16, a17, a18, a19, a20, a21, a22, a23, a24])), (zr, .inl (cI, 30, .inl (upd (upd Rw ((5 * j) + 3) ((Rw ((5 * j) + 3)) - 1)) ((5 * j) + 4) ((Rw (5 * j + 4)) + 1))))] H := hP
      have hD : va_D A [(z, .inr (7, [a0, a1, .int (nI n), .int y, .int (jo + (mfi Rw j y - Rw (5 * j + 4))), .int (ea + 1), a6, a7, .ref zr, a9, a10, a11, a12, a13, a14, a15, a16, a17, a18, a19, a20, a21, a22, a23, a24])), (zr, .inl (cI, 30, .inl (upd (upd Rw ((5 * j) + 3) ((Rw ((5 * j) + 3)) - 1)) ((5 * j) + 4) ((Rw (5 * j + 4)) + 1))))] := hD
      refine lv_iload_n hx hb dX7_eat_81 rfl (lv_at hl 0 rfl) ?_
      refine lv_bipush (v := 100) hx hb dX7_eat_82 (by decide) ?_
      refine lv_iadd hx hb dX7_eat_84 ?_
      exact W.iret (v := (mfi Rw j y - Rw (5 * j + 4)) + 100) hx hb hr (fun t ht hW => ⟨⟨(mfi Rw j y - Rw (5 * j + 4)) + 100, (mfi Rw j y - Rw (5 * j + 4)) + 100, rfl, rfl, by dsimp only; rw [ht]; exact ⟨rfl, hP⟩⟩, hS.F ht⟩) hS.2.2 dX7_eat_85
    · skip
      exact absurd c_4 h0
  · skip
    exact absurd c_3 (by decide)

set_option maxHeartbeats 4000000 in
set_option maxRecDepth 100000 in
theorem c_mwasps_ok (l : Launch) (D : va_G) (cI cJ : ClassId) (z : Nat) (zr : Nat) (n : Nat) (a0 : Value) (a1 : Value) (a3 : Value) (a4 : Value) (a5 : Value) (a7 : Value) (a9 : Value) (a10 : Value) (a11 : Value) (a12 : Value) (a13 : Value) (a14 : Value) (a15 : Value) (a16 : Value) (a17 : Value) (a18 : Value) (a19 : Value) (a20 : Value) (a21 : Value) (a22 : Value) (a23 : Value) (a24 : Value) (Rw : Nat → Int32) (lo : Int32) (j : Nat) (hj : j < n) (hn6 : n ≤ 6) (h0 : ¬ Rw (5 * j + 3) = 0) : jWi l yX7_wasps wsX7_wasps ({ frames := 2, cells := 0, slots := 0, locals := 46 }) 0 0 [.ref z, .int (nI j)] D cI cJ [(z, .inr (7, [a0, a1, .int (nI n), a3, a4, a5, .int lo, a7, .ref zr, a9, a10, a11, a12, a13, a14, a15, a16, a17, a18, a19, a20, a21, a22, a23, a24])), (zr, .inl (cI, 30, .inl Rw))] (fun H => True) (fun r H => r = Rw (5 * j + 3) - 1 ∧ va_P D vwCl [(z, .inr (7, [a0, a1, .int (nI n), a3, a4, a5, .int (lo + 1), a7, .ref zr, a9, a10, a11, a12, a13, a14, a15, a16, a17, a18, a19, a20, a21, a22, a23, a24])), (zr, .inl (cI, 30, .inl (upd Rw (5 * j + 3) (Rw (5 * j + 3) - 1))))] H) := by
  intro sz
  refine Met.ofW (cc := cX7_wasps) (maxL := 2) (ret := (some .int)) (by decide) rfl ?_
  intro p e s m args below meth c s₁ B hml hv
  obtain ⟨rfl, hsz, hT, hP, hD0, _⟩ := hv
  have hK := hT.1
  have hx := B.exec
  have hb := B.bytes
  have hr := B.returns
  have hts := atoms_spec (ws := wsX7_wasps) B.pre
  have hown : s.vm.findClass RX7 = some m.cls := findClass_of_methodNamed B.named
  have hlocks := B.notSynchronized
  subst hsz
  have hD := hD0.self (sz := s.heap.size)
  generalize hAe : va_A [(z, .inr (7, [a0, a1, .int (nI n), a3, a4, a5, .int lo, a7, .ref zr, a9, a10, a11, a12, a13, a14, a15, a16, a17, a18, a19, a20, a21, a22, a23, a24])), (zr, .inl (cI, 30, .inl Rw))] s.heap.size = A at hD ⊢
  have hA : ∀ q : Nat, s.heap.size ≤ q → A q := fun q h => by rw [← hAe]; exact Or.inr h
  have hS : va_S A s.heap s.heap [] := va_S.rf
  have hl := lv_entry ([.ref z, .int (nI j)] : List Value) (n := 2) (Nat.le_of_ble_eq_true rfl)
  rw [lg_entry_eq]
  generalize (lg_sl ([.ref z, .int (nI j)]) ++ List.replicate (2 - (lg_sl ([.ref z, .int (nI j)])).length) Slot.unset).toArray = ls at hl ⊢
  have hl : lv_has ls 2 [(0, .ref z), (1, .int (nI j))] := hl
  refine lv_aload_n hx hb dX7_wasps_0 rfl (lv_at hl 0 rfl) ?_
  refine lv_iload_n hx hb dX7_wasps_1 rfl (lv_at hl 1 rfl) ?_
  have hPc_1 := hP.sub (ws' := [(z, .inr (7, [a0, a1, .int (nI n), a3, a4, a5, .int lo, a7, .ref zr, a9, a10, a11, a12, a13, a14, a15, a16, a17, a18, a19, a20, a21, a22, a23, a24]))]) [0] rfl
  refine jcalli (va_runV (As := [.int (nI j)]) (rest := []) ⟨hx, hb, hml, hown, hts⟩ (c_isJar_y l D cI cJ z n j a0 a1 a3 a4 a5 (.int lo) a7 (.ref zr) a9 a10 a11 a12 a13 a14 a15 a16 a17 a18 a19 a20 a21 a22 a23 a24 hj hn6 s.heap.size) (cwV 1 hts gX7_wasps_X7_isJar rfl rfl rfl (by decide +kernel) ⟨Nat.le_of_ble_eq_true rfl, Nat.le_of_ble_eq_true rfl⟩) (jpreV hT (va_recv hK hP (ci := 7) (q0 := 0) rfl rfl) hPc_1) rfl rfl hl.1 rfl (lv_room (Nat.le_of_ble_eq_true rfl)) dX7_wasps_2 ⟨(Nat.zero_le _), (Nat.zero_le _)⟩) hS hA (fun r_2 H locs hw_r_2 hkq hS => ?_)
  try dsimp only at hw_r_2
  have hP := jkeep hP hkq
  subst hw_r_2
  refine lv_if_ne (tgt := 11) hx hb dX7_wasps_5 (by decide) (fun c_3 => ?_) (fun c_3 => ?_)
  · skip
    refine lv_aload_n hx hb dX7_wasps_11 rfl (lv_at hl 0 rfl) ?_
    refine va_get (D := D) (ci := 7) (v := .ref zr) (C := RX7) (T := TX7) (N := 25) hx hb hts (fun w h => List.mem_cons_of_mem _ (List.mem_append_right _ h)) hown hK hP 0 rfl rfl 8 (by decide) (hts (Cond.fieldLink RX7 13 "JamDaysModel" "rows" "[I") (List.mem_of_getElem? (i := 1) rfl)) (fun _ h9 => h9) rfl dX7_wasps_12 ?_
    refine lv_iconst (v := 5) hx hb dX7_wasps_15 (by decide) ?_
    refine lv_iload_n hx hb dX7_wasps_16 rfl (lv_at hl 1 rfl) ?_
    refine lv_imul hx hb dX7_wasps_17 ?_
    refine jv_as (y := nI (5 * j)) (pk_mul 5 j) ?_
    refine lv_iconst (v := 3) hx hb dX7_wasps_18 (by decide) ?_
    refine lv_iadd hx hb dX7_wasps_19 ?_
    refine jv_as (y := nI ((5 * j) + 3)) (nI_add (5 * j) 3) ?_
    refine jv_ald (k := (5 * j) + 3) hx hb hK hP 1 0 rfl rfl (by omega) (by decide) dX7_wasps_20 ?_
    refine lv_if_ne (tgt := 27) hx hb dX7_wasps_21 (by decide) (fun c_4 => ?_) (fun c_4 => ?_)
    · skip
      refine lv_aload_n hx hb dX7_wasps_27 rfl (lv_at hl 0 rfl) ?_
      refine va_get (D := D) (ci := 7) (v := .ref zr) (C := RX7) (T := TX7) (N := 25) hx hb hts (fun w h => List.mem_cons_of_mem _ (List.mem_append_right _ h)) hown hK hP 0 rfl rfl 8 (by decide) (hts (Cond.fieldLink RX7 13 "JamDaysModel" "rows" "[I") (List.mem_of_getElem? (i := 1) rfl)) (fun _ h9 => h9) rfl dX7_wasps_28 ?_
      refine lv_iconst (v := 5) hx hb dX7_wasps_31 (by decide) ?_
      refine lv_iload_n hx hb dX7_wasps_32 rfl (lv_at hl 1 rfl) ?_
      refine lv_imul hx hb dX7_wasps_33 ?_
      refine jv_as (y := nI (5 * j)) (pk_mul 5 j) ?_
      refine lv_iconst (v := 3) hx hb dX7_wasps_34 (by decide) ?_
      refine lv_iadd hx hb dX7_wasps_35 ?_
      refine jv_as (y := nI ((5 * j) + 3)) (nI_add (5 * j) 3) ?_
      refine lv_dup2_11 hx hb dX7_wasps_36 rfl rfl ?_
      refine jv_ald (k := (5 * j) + 3) hx hb hK hP 1 0 rfl rfl (by omega) (by decide) dX7_wasps_37 ?_
      refine lv_iconst (v := 1) hx hb dX7_wasps_38 (by decide) ?_
      refine lv_isub hx hb dX7_wasps_39 ?_
      refine jv_ast (k := (5 * j) + 3) (x := (Rw ((5 * j) + 3)) - 1) hx hb hK hP hD hS 1 0 rfl rfl (by omega) (by decide) dX7_wasps_40 (fun H locs hP hD hS => ?_)
      have hP : va_P D vwCl [(z, .inr (7, [a0, a1, .int (nI n), a3, a4, a5, .int lo, a7, .ref zr, a9, a10, a11, a12, a13, a14, a15, a16, a17, a18, a19, a20, a21, a22, a23, a24])), (zr, .inl (cI, 30, .inl (upd Rw ((5 * j) + 3) ((Rw ((5 * j) + 3)) - 1))))] H := hP
      have hD : va_D A [(z, .inr (7, [a0, a1, .int (nI n), a3, a4, a5, .int lo, a7, .ref zr, a9, a10, a11, a12, a13, a14, a15, a16, a17, a18, a19, a20, a21, a22, a23, a24])), (zr, .inl (cI, 30, .inl (upd Rw ((5 * j) + 3) ((Rw ((5 * j) + 3)) - 1))))] := hD
      refine lv_aload_n hx hb dX7_wasps_41 rfl (lv_at hl 0 rfl) ?_
      refine lv_dup hx hb dX7_wasps_42 rfl ?_
      refine va_get (D := D) (ci := 7) (v := .int lo) (C := RX7) (T := TX7) (N := 25) hx hb hts (fun w h => List.mem_cons_of_mem _ (List.mem_append_right _ h)) hown hK hP 0 rfl rfl 6 (by decide) (hts (Cond.fieldLink RX7 75 "JamDaysModel" "taken" "I") (List.mem_of_getElem? (i := 2) rfl)) (fun _ h9 => h9) rfl dX7_wasps_43 ?_
      refine lv_iconst (v := 1) hx hb dX7_wasps_46 (by decide) ?_
      refine lv_iadd hx hb dX7_wasps_47 ?_
      refine va_put (D := D) (ci := 7) (v := .int (lo + 1)) (ty := .int) (C := RX7) (T := TX7) (N := 25) hx hb hts (fun w h => List.mem_cons_of_mem _ (List.mem_append_right _ h)) tyX7 tyX7_ok nmX7 hown hK hP hD hS 0 rfl rfl 6 (by decide) (hts (Cond.fieldLink RX7 75 "JamDaysModel" "taken" "I") (List.mem_of_getElem? (i := 2) rfl)) (fun _ h9 => h9) rfl (by decide +kernel) rfl rfl (Nat.le_of_ble_eq_true rfl) dX7_wasps_48 (fun H locs hP hD hS => ?_)
      have hP : va_P D vwCl [(z, .inr (7, [a0, a1, .int (nI n), a3, a4, a5, .int (lo + 1), a7, .ref zr, a9, a10, a11, a12, a13, a14, a15, a16, a17, a18, a19, a20, a21, a22, a23, a24])), (zr, .inl (cI, 30, .inl (upd Rw ((5 * j) + 3) ((Rw ((5 * j) + 3)) - 1))))] H := hP
      have hD : va_D A [(z, .inr (7, [a0, a1, .int (nI n), a3, a4, a5, .int (lo + 1), a7, .ref zr, a9, a10, a11, a12, a13, a14, a15, a16, a17, a18, a19, a20, a21, a22, a23, a24])), (zr, .inl (cI, 30, .inl (upd Rw ((5 * j) + 3) ((Rw ((5 * j) + 3)) - 1))))] := hD
      refine lv_aload_n hx hb dX7_wasps_51 rfl (lv_at hl 0 rfl) ?_
      refine va_get (D := D) (ci := 7) (v := .ref zr) (C := RX7) (T := TX7) (N := 25) hx hb hts (fun w h => List.mem_cons_of_mem _ (List.mem_append_right _ h)) hown hK hP 0 rfl rfl 8 (by decide) (hts (Cond.fieldLink RX7 13 "JamDaysModel" "rows" "[I") (List.mem_of_getElem? (i := 1) rfl)) (fun _ h9 => h9) rfl dX7_wasps_52 ?_
      refine lv_iconst (v := 5) hx hb dX7_wasps_55 (by decide) ?_
      refine lv_iload_n hx hb dX7_wasps_56 rfl (lv_at hl 1 rfl) ?_
      refine lv_imul hx hb dX7_wasps_57 ?_
      refine jv_as (y := nI (5 * j)) (pk_mul 5 j) ?_
      refine lv_iconst (v := 3) hx hb dX7_wasps_58 (by decide) ?_
      refine lv_iadd hx hb dX7_wasps_59 ?_
      refine jv_as (y := nI ((5 * j) + 3)) (nI_add (5 * j) 3) ?_
      refine jv_ald (k := (5 * j) + 3) hx hb hK hP 1 0 rfl rfl (by omega) (by decide) dX7_wasps_60 ?_
      refine jv_as (y := Rw (5 * j + 3) - 1) pk_us ?_
      exact W.iret (v := Rw (5 * j + 3) - 1) hx hb hr (fun t ht hW => ⟨⟨Rw (5 * j + 3) - 1, Rw (5 * j + 3) - 1, rfl, rfl, by dsimp only; rw [ht]; exact ⟨rfl, hP⟩⟩, hS.F ht⟩) hS.2.2 dX7_wasps_61
    · skip
      exact absurd c_4 h0
  · skip
    exact absurd c_3 (by decide)

/-- the rows, none eaten of the first k jars -/
def mne (Rw : Nat → Int32) (k : Nat) : Nat → Int32 := fun i => if i % 5 = 4 ∧ i / 5 < k then 0 else Rw i
theorem mne_0 {Rw : Nat → Int32} : mne Rw 0 = Rw := by funext i; simp [mne]
theorem mne_s {Rw : Nat → Int32} {k : Nat} : mne Rw (k + 1) = upd (mne Rw k) (5 * k + 4) 0 := by
  funext i
  by_cases h : i = 5 * k + 4
  · subst h; simp [mne, upd]; omega
  · have e : (i % 5 = 4 ∧ i / 5 < k + 1) ↔ (i % 5 = 4 ∧ i / 5 < k) := by omega
    simp [mne, upd, h, e]
set_option maxHeartbeats 4000000 in
set_option maxRecDepth 100000 in
theorem c_noneEaten (l : Launch) (D : va_G) (cI cJ : ClassId) (z : Nat) (zr : Nat) (n : Nat) (a0 : Value) (a1 : Value) (a3 : Value) (a4 : Value) (a5 : Value) (a6 : Value) (a7 : Value) (a9 : Value) (a10 : Value) (a11 : Value) (a12 : Value) (a13 : Value) (a14 : Value) (a15 : Value) (a16 : Value) (a17 : Value) (a18 : Value) (a19 : Value) (a20 : Value) (a21 : Value) (a22 : Value) (a23 : Value) (a24 : Value) (Rw : Nat → Int32) (hn6 : n ≤ 6) : jWv l yX7_noneEaten wsX7_noneEaten ({ frames := 0, cells := 0, slots := 0, locals := 0 }) 0 0 [.ref z] D cI cJ [(z, .inr (7, [a0, a1, .int (nI n), a3, a4, a5, a6, a7, .ref zr, a9, a10, a11, a12, a13, a14, a15, a16, a17, a18, a19, a20, a21, a22, a23, a24])), (zr, .inl (cI, 30, .inl Rw))] (fun H => True) (fun H => va_P D vwCl [(z, .inr (7, [a0, a1, .int (nI n), a3, a4, a5, a6, a7, .ref zr, a9, a10, a11, a12, a13, a14, a15, a16, a17, a18, a19, a20, a21, a22, a23, a24])), (zr, .inl (cI, 30, .inl (mne Rw n)))] H) := by
  intro sz
  refine Met.ofW (cc := cX7_noneEaten) (maxL := 2) (ret := none) (by decide) rfl ?_
  intro p e s m args below meth c s₁ B hml hv
  obtain ⟨rfl, hsz, hT, hP, hD0, _⟩ := hv
  have hK := hT.1
  have hx := B.exec
  have hb := B.bytes
  have hr := B.returns
  have hts := atoms_spec (ws := wsX7_noneEaten) B.pre
  have hown : s.vm.findClass RX7 = some m.cls := findClass_of_methodNamed B.named
  have hlocks := B.notSynchronized
  subst hsz
  have hD := hD0.self (sz := s.heap.size)
  generalize hAe : va_A [(z, .inr (7, [a0, a1, .int (nI n), a3, a4, a5, a6, a7, .ref zr, a9, a10, a11, a12, a13, a14, a15, a16, a17, a18, a19, a20, a21, a22, a23, a24])), (zr, .inl (cI, 30, .inl Rw))] s.heap.size = A at hD ⊢
  have hA : ∀ q : Nat, s.heap.size ≤ q → A q := fun q h => by rw [← hAe]; exact Or.inr h
  have hS : va_S A s.heap s.heap [] := va_S.rf
  have hl := lv_entry ([.ref z] : List Value) (n := 2) (Nat.le_of_ble_eq_true rfl)
  rw [lg_entry_eq]
  generalize (lg_sl ([.ref z]) ++ List.replicate (2 - (lg_sl ([.ref z])).length) Slot.unset).toArray = ls at hl ⊢
  have hl : lv_has ls 2 [(0, .ref z)] := hl
  refine lv_iconst (v := 0) hx hb dX7_noneEaten_0 (by decide) ?_
  refine lv_istore_n (lv' := [(1, .int 0), (0, .ref z)]) hx hb dX7_noneEaten_1 rfl hl (by decide) rfl (fun ls hl => ?_)
  have hP : va_P D vwCl [(z, .inr (7, [a0, a1, .int (nI n), a3, a4, a5, a6, a7, .ref zr, a9, a10, a11, a12, a13, a14, a15, a16, a17, a18, a19, a20, a21, a22, a23, a24])), (zr, .inl (cI, 30, .inl (mne Rw 0)))] s.heap := by rw [mne_0]; exact hP
  have hD : va_D A [(z, .inr (7, [a0, a1, .int (nI n), a3, a4, a5, a6, a7, .ref zr, a9, a10, a11, a12, a13, a14, a15, a16, a17, a18, a19, a20, a21, a22, a23, a24])), (zr, .inl (cI, 30, .inl (mne Rw 0)))] := jD_of hD rfl
  refine jloop (α := Nat) (fun (k : Nat) (H : Heap) (locs : List Loc) (ls : Array Slot) => (va_P D vwCl [(z, .inr (7, [a0, a1, .int (nI n), a3, a4, a5, a6, a7, .ref zr, a9, a10, a11, a12, a13, a14, a15, a16, a17, a18, a19, a20, a21, a22, a23, a24])), (zr, .inl (cI, 30, .inl (mne Rw k)))] H) ∧ (va_D A [(z, .inr (7, [a0, a1, .int (nI n), a3, a4, a5, a6, a7, .ref zr, a9, a10, a11, a12, a13, a14, a15, a16, a17, a18, a19, a20, a21, a22, a23, a24])), (zr, .inl (cI, 30, .inl (mne Rw k)))]) ∧ (va_S A s.heap H locs) ∧ (lv_has ls 2 [(0, .ref z), (1, .int (nI k))]) ∧ (k ≤ n)) (fun (k : Nat) => n - k) (fun k H locs ls hx9 ih_2 => ?_) 0 _ _ _ ⟨hP, hD, hS, lv_sub hl [1, 0] rfl, (by omega)⟩
  obtain ⟨hP, hD, hS, hl, hk9⟩ := hx9
  refine lv_iload_n hx hb dX7_noneEaten_2 rfl (lv_at hl 1 rfl) ?_
  refine lv_aload_n hx hb dX7_noneEaten_3 rfl (lv_at hl 0 rfl) ?_
  refine va_get (D := D) (ci := 7) (v := .int (nI n)) (C := RX7) (T := TX7) (N := 25) hx hb hts (fun w h => List.mem_cons_of_mem _ (List.mem_append_right _ h)) hown hK hP 0 rfl rfl 2 (by decide) (hts (Cond.fieldLink RX7 63 "JamDaysModel" "jars" "I") (List.mem_of_getElem? (i := 1) rfl)) (fun _ h9 => h9) rfl dX7_noneEaten_4 ?_
  refine lv_icmp_ge (tgt := 27) hx hb dX7_noneEaten_7 (by decide) (fun c_1 => ?_) (fun c_1 => ?_)
  · skip
    replace c_1 : n ≤ k := (nI_leI (a := n) (b := k) (by omega) (by omega)).mp c_1
    exact W.vret hx hb hr (fun t ht hW => ⟨⟨(), rfl, trivial, by dsimp only; rw [ht]; exact (by rw [show k = n by omega] at hP; exact hP)⟩, hS.F ht⟩) hS.2.2 dX7_noneEaten_27
  · skip
    replace c_1 : ¬ n ≤ k := fun h => c_1 ((nI_leI (a := n) (b := k) (by omega) (by omega)).mpr h)
    refine lv_aload_n hx hb dX7_noneEaten_10 rfl (lv_at hl 0 rfl) ?_
    refine va_get (D := D) (ci := 7) (v := .ref zr) (C := RX7) (T := TX7) (N := 25) hx hb hts (fun w h => List.mem_cons_of_mem _ (List.mem_append_right _ h)) hown hK hP 0 rfl rfl 8 (by decide) (hts (Cond.fieldLink RX7 13 "JamDaysModel" "rows" "[I") (List.mem_of_getElem? (i := 2) rfl)) (fun _ h9 => h9) rfl dX7_noneEaten_11 ?_
    refine lv_iconst (v := 5) hx hb dX7_noneEaten_14 (by decide) ?_
    refine lv_iload_n hx hb dX7_noneEaten_15 rfl (lv_at hl 1 rfl) ?_
    refine lv_imul hx hb dX7_noneEaten_16 ?_
    refine jv_as (y := nI (5 * k)) (pk_mul 5 k) ?_
    refine lv_iconst (v := 4) hx hb dX7_noneEaten_17 (by decide) ?_
    refine lv_iadd hx hb dX7_noneEaten_18 ?_
    refine jv_as (y := nI ((5 * k) + 4)) (nI_add (5 * k) 4) ?_
    refine lv_iconst (v := 0) hx hb dX7_noneEaten_19 (by decide) ?_
    refine jv_ast (k := (5 * k) + 4) (x := 0) hx hb hK hP hD hS 1 0 rfl rfl (by omega) (by decide) dX7_noneEaten_20 (fun H locs hP hD hS => ?_)
    have hP : va_P D vwCl [(z, .inr (7, [a0, a1, .int (nI n), a3, a4, a5, a6, a7, .ref zr, a9, a10, a11, a12, a13, a14, a15, a16, a17, a18, a19, a20, a21, a22, a23, a24])), (zr, .inl (cI, 30, .inl (upd (mne Rw k) ((5 * k) + 4) 0)))] H := hP
    have hD : va_D A [(z, .inr (7, [a0, a1, .int (nI n), a3, a4, a5, a6, a7, .ref zr, a9, a10, a11, a12, a13, a14, a15, a16, a17, a18, a19, a20, a21, a22, a23, a24])), (zr, .inl (cI, 30, .inl (upd (mne Rw k) ((5 * k) + 4) 0)))] := hD
    refine lv_iinc (v := nI (k + 1)) (lv' := [(1, .int (nI (k + 1))), (0, .ref z)]) hx hb dX7_noneEaten_21 hl (k := 1) rfl ((rfl : nI k + Int32.ofInt 1 = nI k + nI 1).trans (nI_add k 1)) (by decide) rfl (fun ls hl => ?_)
    refine lv_goto (tgt := 2) hx hb dX7_noneEaten_24 (by decide) ?_
    have hP : va_P D vwCl [(z, .inr (7, [a0, a1, .int (nI n), a3, a4, a5, a6, a7, .ref zr, a9, a10, a11, a12, a13, a14, a15, a16, a17, a18, a19, a20, a21, a22, a23, a24])), (zr, .inl (cI, 30, .inl (mne Rw (k + 1))))] H := by rw [mne_s]; exact hP
    have hD : va_D A [(z, .inr (7, [a0, a1, .int (nI n), a3, a4, a5, a6, a7, .ref zr, a9, a10, a11, a12, a13, a14, a15, a16, a17, a18, a19, a20, a21, a22, a23, a24])), (zr, .inl (cI, 30, .inl (mne Rw (k + 1))))] := jD_of hD rfl
    exact ih_2 (k + 1) _ _ _ ⟨hP, hD, hS, lv_sub hl [1, 0] rfl, (by omega)⟩ (by omega)

set_option maxHeartbeats 4000000 in
set_option maxRecDepth 100000 in
theorem c_myear_n (l : Launch) (D : va_G) (cI cJ : ClassId) (z : Nat) (n : Nat) (a0 : Value) (a1 : Value) (a3 : Value) (a4 : Value) (a5 : Value) (a6 : Value) (a7 : Value) (a8 : Value) (a9 : Value) (a10 : Value) (a11 : Value) (a12 : Value) (a13 : Value) (a14 : Value) (a15 : Value) (a16 : Value) (a17 : Value) (a18 : Value) (a19 : Value) (a20 : Value) (a21 : Value) (a22 : Value) (a23 : Value) (a24 : Value) (hn0 : n = 0) : jRi l yX7_year wsX7_year ({ frames := 1, cells := 0, slots := 0, locals := 20 }) [.ref z] D cI cJ (fun H => va_P D vwCl [(z, .inr (7, [a0, a1, .int (nI n), a3, a4, a5, a6, a7, a8, a9, a10, a11, a12, a13, a14, a15, a16, a17, a18, a19, a20, a21, a22, a23, a24]))] H) (fun r => r = -103) := by
  intro sz
  refine Met.ofW (cc := cX7_year) (maxL := 1) (ret := (some .int)) (by decide) rfl ?_
  intro p e s m args below meth c s₁ B hml hv
  obtain ⟨rfl, hsz, hT, hPr⟩ := hv
  have hK := hT.1
  have hx := B.exec
  have hb := B.bytes
  have hr := B.returns
  have hts := atoms_spec (ws := wsX7_year) B.pre
  have hown : s.vm.findClass RX7 = some m.cls := findClass_of_methodNamed B.named
  have hlocks := B.notSynchronized
  subst hsz
  generalize hAe : va_A [] s.heap.size = A
  have hA : ∀ q : Nat, s.heap.size ≤ q → A q := fun q h => by rw [← hAe]; exact Or.inr h
  have hS : va_S A s.heap s.heap [] := va_S.rf
  have hl := lv_entry ([.ref z] : List Value) (n := 1) (Nat.le_of_ble_eq_true rfl)
  rw [lg_entry_eq]
  generalize (lg_sl ([.ref z]) ++ List.replicate (1 - (lg_sl ([.ref z])).length) Slot.unset).toArray = ls at hl ⊢
  have hl : lv_has ls 1 [(0, .ref z)] := hl
  refine lv_aload_n hx hb dX7_year_0 rfl (lv_at hl 0 rfl) ?_
  have hPc_1 := hPr.sub (ws' := [(z, .inr (7, [a0, a1, .int (nI n), a3, a4, a5, a6, a7, a8, a9, a10, a11, a12, a13, a14, a15, a16, a17, a18, a19, a20, a21, a22, a23, a24]))]) [0] rfl
  refine jcalli (va_runV (As := []) (rest := []) ⟨hx, hb, hml, hown, hts⟩ (c_lacks_y l D cI cJ z n a0 a1 a3 a4 a5 a6 a7 a8 a9 a10 a11 a12 a13 a14 a15 a16 a17 a18 a19 a20 a21 a22 a23 a24 hn0 s.heap.size) (cwV 0 hts gX7_year_X7_lacks rfl rfl rfl (by decide +kernel) ⟨Nat.le_of_ble_eq_true rfl, Nat.le_of_ble_eq_true rfl⟩) (jpreV hT (va_recv hK hPr (ci := 7) (q0 := 0) rfl rfl) hPc_1) rfl rfl hl.1 rfl (lv_room (Nat.le_of_ble_eq_true rfl)) dX7_year_1 ⟨(Nat.zero_le _), (Nat.zero_le _)⟩) hS hA (fun r_2 H locs hw_r_2 hkq hS => ?_)
  try dsimp only at hw_r_2
  have hPr := jkeep hPr hkq
  subst hw_r_2
  refine lv_if_eq (tgt := 10) hx hb dX7_year_4 (by decide) (fun c_3 => ?_) (fun c_3 => ?_)
  · skip
    exact absurd c_3 (by decide)
  · skip
    refine lv_bipush (v := (-103)) hx hb dX7_year_7 (by decide) ?_
    exact W.iret (v := (-103)) hx hb hr (fun t ht hW => ⟨⟨(-103), (), rfl, rfl, trivial⟩, hS.F ht⟩) hS.2.2 dX7_year_9

set_option maxHeartbeats 4000000 in
set_option maxRecDepth 100000 in
theorem c_myear_full (l : Launch) (D : va_G) (cI cJ : ClassId) (z : Nat) (n : Nat) (a0 : Value) (a1 : Value) (a4 : Value) (a5 : Value) (a6 : Value) (a7 : Value) (a8 : Value) (a9 : Value) (a10 : Value) (a11 : Value) (a12 : Value) (a13 : Value) (a14 : Value) (a15 : Value) (a16 : Value) (a17 : Value) (a18 : Value) (a19 : Value) (a20 : Value) (a21 : Value) (a22 : Value) (a23 : Value) (a24 : Value) (y : Int32) (hn0 : 0 < n) (hn6 : n ≤ 6) (h9 : y = 99) : jRi l yX7_year wsX7_year ({ frames := 1, cells := 0, slots := 0, locals := 20 }) [.ref z] D cI cJ (fun H => va_P D vwCl [(z, .inr (7, [a0, a1, .int (nI n), .int y, a4, a5, a6, a7, a8, a9, a10, a11, a12, a13, a14, a15, a16, a17, a18, a19, a20, a21, a22, a23, a24]))] H) (fun r => r = -104) := by
  intro sz
  refine Met.ofW (cc := cX7_year) (maxL := 1) (ret := (some .int)) (by decide) rfl ?_
  intro p e s m args below meth c s₁ B hml hv
  obtain ⟨rfl, hsz, hT, hPr⟩ := hv
  have hK := hT.1
  have hx := B.exec
  have hb := B.bytes
  have hr := B.returns
  have hts := atoms_spec (ws := wsX7_year) B.pre
  have hown : s.vm.findClass RX7 = some m.cls := findClass_of_methodNamed B.named
  have hlocks := B.notSynchronized
  subst hsz
  generalize hAe : va_A [] s.heap.size = A
  have hA : ∀ q : Nat, s.heap.size ≤ q → A q := fun q h => by rw [← hAe]; exact Or.inr h
  have hS : va_S A s.heap s.heap [] := va_S.rf
  have hl := lv_entry ([.ref z] : List Value) (n := 1) (Nat.le_of_ble_eq_true rfl)
  rw [lg_entry_eq]
  generalize (lg_sl ([.ref z]) ++ List.replicate (1 - (lg_sl ([.ref z])).length) Slot.unset).toArray = ls at hl ⊢
  have hl : lv_has ls 1 [(0, .ref z)] := hl
  refine lv_aload_n hx hb dX7_year_0 rfl (lv_at hl 0 rfl) ?_
  have hPc_1 := hPr.sub (ws' := [(z, .inr (7, [a0, a1, .int (nI n), .int y, a4, a5, a6, a7, a8, a9, a10, a11, a12, a13, a14, a15, a16, a17, a18, a19, a20, a21, a22, a23, a24]))]) [0] rfl
  refine jcalli (va_runV (As := []) (rest := []) ⟨hx, hb, hml, hown, hts⟩ (c_lacks_n l D cI cJ z n a0 a1 (.int y) a4 a5 a6 a7 a8 a9 a10 a11 a12 a13 a14 a15 a16 a17 a18 a19 a20 a21 a22 a23 a24 hn0 hn6 s.heap.size) (cwV 0 hts gX7_year_X7_lacks rfl rfl rfl (by decide +kernel) ⟨Nat.le_of_ble_eq_true rfl, Nat.le_of_ble_eq_true rfl⟩) (jpreV hT (va_recv hK hPr (ci := 7) (q0 := 0) rfl rfl) hPc_1) rfl rfl hl.1 rfl (lv_room (Nat.le_of_ble_eq_true rfl)) dX7_year_1 ⟨(Nat.zero_le _), (Nat.zero_le _)⟩) hS hA (fun r_2 H locs hw_r_2 hkq hS => ?_)
  try dsimp only at hw_r_2
  have hPr := jkeep hPr hkq
  subst hw_r_2
  refine lv_if_eq (tgt := 10) hx hb dX7_year_4 (by decide) (fun c_3 => ?_) (fun c_3 => ?_)
  · skip
    refine lv_aload_n hx hb dX7_year_10 rfl (lv_at hl 0 rfl) ?_
    refine va_get (D := D) (ci := 7) (v := .int y) (C := RX7) (T := TX7) (N := 25) hx hb hts (fun w h => List.mem_cons_of_mem _ (List.mem_append_right _ h)) hown hK hPr 0 rfl rfl 3 (by decide) (hts (Cond.fieldLink RX7 66 "JamDaysModel" "yearNow" "I") (List.mem_of_getElem? (i := 1) rfl)) (fun _ h9 => h9) rfl dX7_year_11 ?_
    refine lv_bipush (v := 99) hx hb dX7_year_14 (by decide) ?_
    refine lv_icmp_ne (tgt := 22) hx hb dX7_year_16 (by decide) (fun c_4 => ?_) (fun c_4 => ?_)
    · skip
      exact absurd h9 c_4
    · skip
      refine lv_bipush (v := (-104)) hx hb dX7_year_19 (by decide) ?_
      exact W.iret (v := (-104)) hx hb hr (fun t ht hW => ⟨⟨(-104), (), rfl, rfl, trivial⟩, hS.F ht⟩) hS.2.2 dX7_year_21
  · skip
    exact absurd c_3 (by decide)

set_option maxHeartbeats 4000000 in
set_option maxRecDepth 100000 in
theorem c_myear_ok (l : Launch) (D : va_G) (cI cJ : ClassId) (z : Nat) (zr : Nat) (n : Nat) (a0 : Value) (a1 : Value) (a4 : Value) (a5 : Value) (a6 : Value) (a7 : Value) (a9 : Value) (a10 : Value) (a11 : Value) (a12 : Value) (a13 : Value) (a14 : Value) (a15 : Value) (a16 : Value) (a17 : Value) (a18 : Value) (a19 : Value) (a20 : Value) (a21 : Value) (a22 : Value) (a23 : Value) (a24 : Value) (Rw : Nat → Int32) (y : Int32) (hn0 : 0 < n) (hn6 : n ≤ 6) (h9 : ¬ y = 99) : jWi l yX7_year wsX7_year ({ frames := 1, cells := 0, slots := 0, locals := 21 }) 0 0 [.ref z] D cI cJ [(z, .inr (7, [a0, a1, .int (nI n), .int y, a4, a5, a6, a7, .ref zr, a9, a10, a11, a12, a13, a14, a15, a16, a17, a18, a19, a20, a21, a22, a23, a24])), (zr, .inl (cI, 30, .inl Rw))] (fun H => True) (fun r H => r = y + 1 ∧ va_P D vwCl [(z, .inr (7, [a0, a1, .int (nI n), .int (y + 1), a4, a5, a6, a7, .ref zr, a9, a10, a11, a12, a13, a14, a15, a16, a17, a18, a19, a20, a21, a22, a23, a24])), (zr, .inl (cI, 30, .inl (mne Rw n)))] H) := by
  intro sz
  refine Met.ofW (cc := cX7_year) (maxL := 1) (ret := (some .int)) (by decide) rfl ?_
  intro p e s m args below meth c s₁ B hml hv
  obtain ⟨rfl, hsz, hT, hP, hD0, _⟩ := hv
  have hK := hT.1
  have hx := B.exec
  have hb := B.bytes
  have hr := B.returns
  have hts := atoms_spec (ws := wsX7_year) B.pre
  have hown : s.vm.findClass RX7 = some m.cls := findClass_of_methodNamed B.named
  have hlocks := B.notSynchronized
  subst hsz
  have hD := hD0.self (sz := s.heap.size)
  generalize hAe : va_A [(z, .inr (7, [a0, a1, .int (nI n), .int y, a4, a5, a6, a7, .ref zr, a9, a10, a11, a12, a13, a14, a15, a16, a17, a18, a19, a20, a21, a22, a23, a24])), (zr, .inl (cI, 30, .inl Rw))] s.heap.size = A at hD ⊢
  have hA : ∀ q : Nat, s.heap.size ≤ q → A q := fun q h => by rw [← hAe]; exact Or.inr h
  have hS : va_S A s.heap s.heap [] := va_S.rf
  have hl := lv_entry ([.ref z] : List Value) (n := 1) (Nat.le_of_ble_eq_true rfl)
  rw [lg_entry_eq]
  generalize (lg_sl ([.ref z]) ++ List.replicate (1 - (lg_sl ([.ref z])).length) Slot.unset).toArray = ls at hl ⊢
  have hl : lv_has ls 1 [(0, .ref z)] := hl
  refine lv_aload_n hx hb dX7_year_0 rfl (lv_at hl 0 rfl) ?_
  have hPc_1 := hP.sub (ws' := [(z, .inr (7, [a0, a1, .int (nI n), .int y, a4, a5, a6, a7, .ref zr, a9, a10, a11, a12, a13, a14, a15, a16, a17, a18, a19, a20, a21, a22, a23, a24]))]) [0] rfl
  refine jcalli (va_runV (As := []) (rest := []) ⟨hx, hb, hml, hown, hts⟩ (c_lacks_n l D cI cJ z n a0 a1 (.int y) a4 a5 a6 a7 (.ref zr) a9 a10 a11 a12 a13 a14 a15 a16 a17 a18 a19 a20 a21 a22 a23 a24 hn0 hn6 s.heap.size) (cwV 0 hts gX7_year_X7_lacks rfl rfl rfl (by decide +kernel) ⟨Nat.le_of_ble_eq_true rfl, Nat.le_of_ble_eq_true rfl⟩) (jpreV hT (va_recv hK hP (ci := 7) (q0 := 0) rfl rfl) hPc_1) rfl rfl hl.1 rfl (lv_room (Nat.le_of_ble_eq_true rfl)) dX7_year_1 ⟨(Nat.zero_le _), (Nat.zero_le _)⟩) hS hA (fun r_2 H locs hw_r_2 hkq hS => ?_)
  try dsimp only at hw_r_2
  have hP := jkeep hP hkq
  subst hw_r_2
  refine lv_if_eq (tgt := 10) hx hb dX7_year_4 (by decide) (fun c_3 => ?_) (fun c_3 => ?_)
  · skip
    refine lv_aload_n hx hb dX7_year_10 rfl (lv_at hl 0 rfl) ?_
    refine va_get (D := D) (ci := 7) (v := .int y) (C := RX7) (T := TX7) (N := 25) hx hb hts (fun w h => List.mem_cons_of_mem _ (List.mem_append_right _ h)) hown hK hP 0 rfl rfl 3 (by decide) (hts (Cond.fieldLink RX7 66 "JamDaysModel" "yearNow" "I") (List.mem_of_getElem? (i := 1) rfl)) (fun _ h9 => h9) rfl dX7_year_11 ?_
    refine lv_bipush (v := 99) hx hb dX7_year_14 (by decide) ?_
    refine lv_icmp_ne (tgt := 22) hx hb dX7_year_16 (by decide) (fun c_4 => ?_) (fun c_4 => ?_)
    · skip
      refine lv_aload_n hx hb dX7_year_22 rfl (lv_at hl 0 rfl) ?_
      refine lv_dup hx hb dX7_year_23 rfl ?_
      refine va_get (D := D) (ci := 7) (v := .int y) (C := RX7) (T := TX7) (N := 25) hx hb hts (fun w h => List.mem_cons_of_mem _ (List.mem_append_right _ h)) hown hK hP 0 rfl rfl 3 (by decide) (hts (Cond.fieldLink RX7 66 "JamDaysModel" "yearNow" "I") (List.mem_of_getElem? (i := 1) rfl)) (fun _ h9 => h9) rfl dX7_year_24 ?_
      refine lv_iconst (v := 1) hx hb dX7_year_27 (by decide) ?_
      refine lv_iadd hx hb dX7_year_28 ?_
      refine va_put (D := D) (ci := 7) (v := .int (y + 1)) (ty := .int) (C := RX7) (T := TX7) (N := 25) hx hb hts (fun w h => List.mem_cons_of_mem _ (List.mem_append_right _ h)) tyX7 tyX7_ok nmX7 hown hK hP hD hS 0 rfl rfl 3 (by decide) (hts (Cond.fieldLink RX7 66 "JamDaysModel" "yearNow" "I") (List.mem_of_getElem? (i := 1) rfl)) (fun _ h9 => h9) rfl (by decide +kernel) rfl rfl (Nat.le_of_ble_eq_true rfl) dX7_year_29 (fun H locs hP hD hS => ?_)
      have hP : va_P D vwCl [(z, .inr (7, [a0, a1, .int (nI n), .int (y + 1), a4, a5, a6, a7, .ref zr, a9, a10, a11, a12, a13, a14, a15, a16, a17, a18, a19, a20, a21, a22, a23, a24])), (zr, .inl (cI, 30, .inl Rw))] H := hP
      have hD : va_D A [(z, .inr (7, [a0, a1, .int (nI n), .int (y + 1), a4, a5, a6, a7, .ref zr, a9, a10, a11, a12, a13, a14, a15, a16, a17, a18, a19, a20, a21, a22, a23, a24])), (zr, .inl (cI, 30, .inl Rw))] := hD
      refine lv_aload_n hx hb dX7_year_32 rfl (lv_at hl 0 rfl) ?_
      have hPc_5 := hP.sub (ws' := [(z, .inr (7, [a0, a1, .int (nI n), .int (y + 1), a4, a5, a6, a7, .ref zr, a9, a10, a11, a12, a13, a14, a15, a16, a17, a18, a19, a20, a21, a22, a23, a24])), (zr, .inl (cI, 30, .inl Rw))]) [0, 1] rfl
      have hDc_6 := hD.sub (ws' := [(z, .inr (7, [a0, a1, .int (nI n), .int (y + 1), a4, a5, a6, a7, .ref zr, a9, a10, a11, a12, a13, a14, a15, a16, a17, a18, a19, a20, a21, a22, a23, a24])), (zr, .inl (cI, 30, .inl Rw))]) [0, 1] (by decide) rfl
      have hFc_7 := va_free (wc := [(z, .inr (7, [a0, a1, .int (nI n), .int (y + 1), a4, a5, a6, a7, .ref zr, a9, a10, a11, a12, a13, a14, a15, a16, a17, a18, a19, a20, a21, a22, a23, a24])), (zr, .inl (cI, 30, .inl Rw))]) hD hS hA [0, 1] rfl
      refine jcallWv (post := fun H => va_P D vwCl [(z, .inr (7, [a0, a1, .int (nI n), (.int (y + 1)), a4, a5, a6, a7, .ref zr, a9, a10, a11, a12, a13, a14, a15, a16, a17, a18, a19, a20, a21, a22, a23, a24])), (zr, .inl (cI, 30, .inl (mne Rw n)))] H) (va_runV (As := []) (rest := []) ⟨hx, hb, hml, hown, hts⟩ (c_noneEaten l D cI cJ z zr n a0 a1 (.int (y + 1)) a4 a5 a6 a7 a9 a10 a11 a12 a13 a14 a15 a16 a17 a18 a19 a20 a21 a22 a23 a24 Rw hn6 H.size) (cwV 0 hts gX7_year_X7_noneEaten rfl rfl rfl (by decide +kernel) ⟨Nat.le_of_ble_eq_true rfl, Nat.le_of_ble_eq_true rfl⟩) (jpreV hT (va_recv hK hP (ci := 7) (q0 := 0) rfl rfl) ⟨hPc_5, hDc_6.weaken (fun _ _ _ _ => trivial), trivial⟩) rfl rfl hl.1 rfl (lv_room (Nat.le_of_ble_eq_true rfl)) dX7_year_33 ⟨(Nat.zero_le _), (Nat.zero_le _)⟩) hS hFc_7 (fun H locs hw_r_8 hz hkq hS => ?_)
      have hP1 := hw_r_8
      obtain ⟨hP, hD⟩ := jjoin (wc := [(z, .inr (7, [a0, a1, .int (nI n), .int (y + 1), a4, a5, a6, a7, .ref zr, a9, a10, a11, a12, a13, a14, a15, a16, a17, a18, a19, a20, a21, a22, a23, a24])), (zr, .inl (cI, 30, .inl Rw))]) (wr := []) (w1 := [(z, .inr (7, [a0, a1, .int (nI n), .int (y + 1), a4, a5, a6, a7, .ref zr, a9, a10, a11, a12, a13, a14, a15, a16, a17, a18, a19, a20, a21, a22, a23, a24])), (zr, .inl (cI, 30, .inl (mne Rw n)))]) (ws' := [(z, .inr (7, [a0, a1, .int (nI n), .int (y + 1), a4, a5, a6, a7, .ref zr, a9, a10, a11, a12, a13, a14, a15, a16, a17, a18, a19, a20, a21, a22, a23, a24])), (zr, .inl (cI, 30, .inl (mne Rw n)))]) hP hD hFc_7 [0, 1] [] [0, 1] rfl rfl (by decide) (by decide) (by decide) (by decide) hkq hP1 rfl rfl rfl
      refine lv_aload_n hx hb dX7_year_36 rfl (lv_at hl 0 rfl) ?_
      refine va_get (D := D) (ci := 7) (v := .int (y + 1)) (C := RX7) (T := TX7) (N := 25) hx hb hts (fun w h => List.mem_cons_of_mem _ (List.mem_append_right _ h)) hown hK hP 0 rfl rfl 3 (by decide) (hts (Cond.fieldLink RX7 66 "JamDaysModel" "yearNow" "I") (List.mem_of_getElem? (i := 1) rfl)) (fun _ h9 => h9) rfl dX7_year_37 ?_
      exact W.iret (v := y + 1) hx hb hr (fun t ht hW => ⟨⟨y + 1, y + 1, rfl, rfl, by dsimp only; rw [ht]; exact ⟨rfl, hP⟩⟩, hS.F ht⟩) hS.2.2 dX7_year_40
    · skip
      exact absurd c_4 h9
  · skip
    exact absurd c_3 (by decide)

set_option maxHeartbeats 4000000 in
set_option maxRecDepth 100000 in
theorem c_mtaste_out1 (l : Launch) (D : va_G) (cI cJ : ClassId) (z : Nat) (y0 : Int32) (w0 : Int32) (h9 : y0 < 0 ∨ 99 < y0) : jRi l yX7_taste wsX7_taste ({ frames := 1, cells := 0, slots := 0, locals := 25 }) [.ref z, .int y0, .int w0] D cI cJ (fun H => True) (fun r => r = -102) := by
  intro sz
  refine Met.ofW (cc := cX7_taste) (maxL := 3) (ret := (some .int)) (by decide) rfl ?_
  intro p e s m args below meth c s₁ B hml hv
  obtain ⟨rfl, hsz, hT, _⟩ := hv
  have hK := hT.1
  have hx := B.exec
  have hb := B.bytes
  have hr := B.returns
  have hts := atoms_spec (ws := wsX7_taste) B.pre
  have hown : s.vm.findClass RX7 = some m.cls := findClass_of_methodNamed B.named
  have hlocks := B.notSynchronized
  subst hsz
  generalize hAe : va_A [] s.heap.size = A
  have hA : ∀ q : Nat, s.heap.size ≤ q → A q := fun q h => by rw [← hAe]; exact Or.inr h
  have hS : va_S A s.heap s.heap [] := va_S.rf
  have hl := lv_entry ([.ref z, .int y0, .int w0] : List Value) (n := 3) (Nat.le_of_ble_eq_true rfl)
  rw [lg_entry_eq]
  generalize (lg_sl ([.ref z, .int y0, .int w0]) ++ List.replicate (3 - (lg_sl ([.ref z, .int y0, .int w0])).length) Slot.unset).toArray = ls at hl ⊢
  have hl : lv_has ls 3 [(0, .ref z), (1, .int y0), (2, .int w0)] := hl
  refine lv_iload_n hx hb dX7_taste_0 rfl (lv_at hl 1 rfl) ?_
  refine lv_i2l (v := y0.toInt64) hx hb dX7_taste_1 rfl ?_
  refine lv_lconst (v := 0) hx hb dX7_taste_2 (by decide) ?_
  refine lv_ldc2 (v := 99) hx hb hown (hts (Cond.constantLong RX7 107 (99)) (List.mem_of_getElem? (i := 1) rfl)) dX7_taste_3 ?_
  refine jcalli (va_runS (As := [.long y0.toInt64, .long 0, .long 99]) (rest := []) ⟨hx, hb, hml, hown, hts⟩ (c_in_n l D cI cJ y0.toInt64 0 99 (h9.elim (fun h => Or.inl (jw_lt (b := 0) h)) (fun h => Or.inr (jw_lt (a := 99) h))) s.heap.size) (va_cwS 3 hts gX7_taste_X7_in rfl rfl rfl (by decide +kernel) ⟨Nat.le_of_ble_eq_true rfl, Nat.le_of_ble_eq_true rfl⟩) (jpreS hT trivial) rfl rfl hl.1 rfl (lv_room (Nat.le_of_ble_eq_true rfl)) dX7_taste_6 ⟨(Nat.zero_le _), (Nat.zero_le _)⟩) hS hA (fun r_1 H locs hw_r_1 hkq hS => ?_)
  try dsimp only at hw_r_1
  subst hw_r_1
  refine lv_if_eq (tgt := 26) hx hb dX7_taste_9 (by decide) (fun c_2 => ?_) (fun c_2 => ?_)
  · skip
    refine lv_bipush (v := (-102)) hx hb dX7_taste_26 (by decide) ?_
    exact W.iret (v := (-102)) hx hb hr (fun t ht hW => ⟨⟨(-102), (), rfl, rfl, trivial⟩, hS.F ht⟩) hS.2.2 dX7_taste_28
  · skip
    exact absurd c_2 (by decide)

set_option maxHeartbeats 4000000 in
set_option maxRecDepth 100000 in
theorem c_mtaste_out2 (l : Launch) (D : va_G) (cI cJ : ClassId) (z : Nat) (y0 : Int32) (w0 : Int32) (h1 : 0 ≤ y0) (h2 : y0 ≤ 99) (h9 : w0 < -20 ∨ 30 < w0) : jRi l yX7_taste wsX7_taste ({ frames := 1, cells := 0, slots := 0, locals := 25 }) [.ref z, .int y0, .int w0] D cI cJ (fun H => True) (fun r => r = -102) := by
  intro sz
  refine Met.ofW (cc := cX7_taste) (maxL := 3) (ret := (some .int)) (by decide) rfl ?_
  intro p e s m args below meth c s₁ B hml hv
  obtain ⟨rfl, hsz, hT, _⟩ := hv
  have hK := hT.1
  have hx := B.exec
  have hb := B.bytes
  have hr := B.returns
  have hts := atoms_spec (ws := wsX7_taste) B.pre
  have hown : s.vm.findClass RX7 = some m.cls := findClass_of_methodNamed B.named
  have hlocks := B.notSynchronized
  subst hsz
  generalize hAe : va_A [] s.heap.size = A
  have hA : ∀ q : Nat, s.heap.size ≤ q → A q := fun q h => by rw [← hAe]; exact Or.inr h
  have hS : va_S A s.heap s.heap [] := va_S.rf
  have hl := lv_entry ([.ref z, .int y0, .int w0] : List Value) (n := 3) (Nat.le_of_ble_eq_true rfl)
  rw [lg_entry_eq]
  generalize (lg_sl ([.ref z, .int y0, .int w0]) ++ List.replicate (3 - (lg_sl ([.ref z, .int y0, .int w0])).length) Slot.unset).toArray = ls at hl ⊢
  have hl : lv_has ls 3 [(0, .ref z), (1, .int y0), (2, .int w0)] := hl
  refine lv_iload_n hx hb dX7_taste_0 rfl (lv_at hl 1 rfl) ?_
  refine lv_i2l (v := y0.toInt64) hx hb dX7_taste_1 rfl ?_
  refine lv_lconst (v := 0) hx hb dX7_taste_2 (by decide) ?_
  refine lv_ldc2 (v := 99) hx hb hown (hts (Cond.constantLong RX7 107 (99)) (List.mem_of_getElem? (i := 1) rfl)) dX7_taste_3 ?_
  refine jcalli (va_runS (As := [.long y0.toInt64, .long 0, .long 99]) (rest := []) ⟨hx, hb, hml, hown, hts⟩ (c_in_y l D cI cJ y0.toInt64 0 99 (jw_le (a := 0) h1) (jw_le (b := 99) h2) s.heap.size) (va_cwS 3 hts gX7_taste_X7_in rfl rfl rfl (by decide +kernel) ⟨Nat.le_of_ble_eq_true rfl, Nat.le_of_ble_eq_true rfl⟩) (jpreS hT trivial) rfl rfl hl.1 rfl (lv_room (Nat.le_of_ble_eq_true rfl)) dX7_taste_6 ⟨(Nat.zero_le _), (Nat.zero_le _)⟩) hS hA (fun r_1 H locs hw_r_1 hkq hS => ?_)
  try dsimp only at hw_r_1
  subst hw_r_1
  refine lv_if_eq (tgt := 26) hx hb dX7_taste_9 (by decide) (fun c_2 => ?_) (fun c_2 => ?_)
  · skip
    exact absurd c_2 (by decide)
  · skip
    refine lv_iload_n hx hb dX7_taste_12 rfl (lv_at hl 2 rfl) ?_
    refine lv_i2l (v := w0.toInt64) hx hb dX7_taste_13 rfl ?_
    refine lv_ldc2 (v := (-20)) hx hb hown (hts (Cond.constantLong RX7 137 (-20)) (List.mem_of_getElem? (i := 2) rfl)) dX7_taste_14 ?_
    refine lv_ldc2 (v := 30) hx hb hown (hts (Cond.constantLong RX7 139 (30)) (List.mem_of_getElem? (i := 3) rfl)) dX7_taste_17 ?_
    refine jcalli (va_runS (As := [.long w0.toInt64, .long (-20), .long 30]) (rest := []) ⟨hx, hb, hml, hown, hts⟩ (c_in_n l D cI cJ w0.toInt64 (-20) 30 (h9.elim (fun h => Or.inl (jw_lt (b := -20) h)) (fun h => Or.inr (jw_lt (a := 30) h))) H.size) (va_cwS 3 hts gX7_taste_X7_in rfl rfl rfl (by decide +kernel) ⟨Nat.le_of_ble_eq_true rfl, Nat.le_of_ble_eq_true rfl⟩) (jpreS hT trivial) rfl rfl hl.1 rfl (lv_room (Nat.le_of_ble_eq_true rfl)) dX7_taste_20 ⟨(Nat.zero_le _), (Nat.zero_le _)⟩) hS hA (fun r_3 H locs hw_r_3 hkq hS => ?_)
    try dsimp only at hw_r_3
    subst hw_r_3
    refine lv_if_ne (tgt := 29) hx hb dX7_taste_23 (by decide) (fun c_4 => ?_) (fun c_4 => ?_)
    · skip
      exact absurd c_4 (by decide)
    · skip
      refine lv_bipush (v := (-102)) hx hb dX7_taste_26 (by decide) ?_
      exact W.iret (v := (-102)) hx hb hr (fun t ht hW => ⟨⟨(-102), (), rfl, rfl, trivial⟩, hS.F ht⟩) hS.2.2 dX7_taste_28

set_option maxHeartbeats 4000000 in
set_option maxRecDepth 100000 in
theorem c_mtaste_full (l : Launch) (D : va_G) (cI cJ : ClassId) (z : Nat) (zt : Nat) (tn : Nat) (a0 : Value) (a1 : Value) (a2 : Value) (a3 : Value) (a4 : Value) (a5 : Value) (a6 : Value) (a7 : Value) (a8 : Value) (a9 : Value) (a10 : Value) (a11 : Value) (a14 : Value) (a15 : Value) (a16 : Value) (a17 : Value) (a18 : Value) (a19 : Value) (a20 : Value) (a21 : Value) (a22 : Value) (a23 : Value) (a24 : Value) (Tt : Nat → Int32) (y0 : Int32) (w0 : Int32) (h1 : 0 ≤ y0) (h2 : y0 ≤ 99) (h3 : -20 ≤ w0) (h4 : w0 ≤ 30) (ht : tn = 6) : jRi l yX7_taste wsX7_taste ({ frames := 1, cells := 0, slots := 0, locals := 25 }) [.ref z, .int y0, .int w0] D cI cJ (fun H => va_P D vwCl [(z, .inr (7, [a0, a1, a2, a3, a4, a5, a6, a7, a8, a9, a10, a11, .int (nI tn), .ref zt, a14, a15, a16, a17, a18, a19, a20, a21, a22, a23, a24])), (zt, .inl (cI, 12, .inl Tt))] H) (fun r => r = -104) := by
  intro sz
  refine Met.ofW (cc := cX7_taste) (maxL := 3) (ret := (some .int)) (by decide) rfl ?_
  intro p e s m args below meth c s₁ B hml hv
  obtain ⟨rfl, hsz, hT, hPr⟩ := hv
  have hK := hT.1
  have hx := B.exec
  have hb := B.bytes
  have hr := B.returns
  have hts := atoms_spec (ws := wsX7_taste) B.pre
  have hown : s.vm.findClass RX7 = some m.cls := findClass_of_methodNamed B.named
  have hlocks := B.notSynchronized
  subst hsz
  generalize hAe : va_A [] s.heap.size = A
  have hA : ∀ q : Nat, s.heap.size ≤ q → A q := fun q h => by rw [← hAe]; exact Or.inr h
  have hS : va_S A s.heap s.heap [] := va_S.rf
  have hl := lv_entry ([.ref z, .int y0, .int w0] : List Value) (n := 3) (Nat.le_of_ble_eq_true rfl)
  rw [lg_entry_eq]
  generalize (lg_sl ([.ref z, .int y0, .int w0]) ++ List.replicate (3 - (lg_sl ([.ref z, .int y0, .int w0])).length) Slot.unset).toArray = ls at hl ⊢
  have hl : lv_has ls 3 [(0, .ref z), (1, .int y0), (2, .int w0)] := hl
  refine lv_iload_n hx hb dX7_taste_0 rfl (lv_at hl 1 rfl) ?_
  refine lv_i2l (v := y0.toInt64) hx hb dX7_taste_1 rfl ?_
  refine lv_lconst (v := 0) hx hb dX7_taste_2 (by decide) ?_
  refine lv_ldc2 (v := 99) hx hb hown (hts (Cond.constantLong RX7 107 (99)) (List.mem_of_getElem? (i := 1) rfl)) dX7_taste_3 ?_
  refine jcalli (va_runS (As := [.long y0.toInt64, .long 0, .long 99]) (rest := []) ⟨hx, hb, hml, hown, hts⟩ (c_in_y l D cI cJ y0.toInt64 0 99 (jw_le (a := 0) h1) (jw_le (b := 99) h2) s.heap.size) (va_cwS 3 hts gX7_taste_X7_in rfl rfl rfl (by decide +kernel) ⟨Nat.le_of_ble_eq_true rfl, Nat.le_of_ble_eq_true rfl⟩) (jpreS hT trivial) rfl rfl hl.1 rfl (lv_room (Nat.le_of_ble_eq_true rfl)) dX7_taste_6 ⟨(Nat.zero_le _), (Nat.zero_le _)⟩) hS hA (fun r_1 H locs hw_r_1 hkq hS => ?_)
  try dsimp only at hw_r_1
  have hPr := jkeep hPr hkq
  subst hw_r_1
  refine lv_if_eq (tgt := 26) hx hb dX7_taste_9 (by decide) (fun c_2 => ?_) (fun c_2 => ?_)
  · skip
    exact absurd c_2 (by decide)
  · skip
    refine lv_iload_n hx hb dX7_taste_12 rfl (lv_at hl 2 rfl) ?_
    refine lv_i2l (v := w0.toInt64) hx hb dX7_taste_13 rfl ?_
    refine lv_ldc2 (v := (-20)) hx hb hown (hts (Cond.constantLong RX7 137 (-20)) (List.mem_of_getElem? (i := 2) rfl)) dX7_taste_14 ?_
    refine lv_ldc2 (v := 30) hx hb hown (hts (Cond.constantLong RX7 139 (30)) (List.mem_of_getElem? (i := 3) rfl)) dX7_taste_17 ?_
    refine jcalli (va_runS (As := [.long w0.toInt64, .long (-20), .long 30]) (rest := []) ⟨hx, hb, hml, hown, hts⟩ (c_in_y l D cI cJ w0.toInt64 (-20) 30 (jw_le (a := -20) h3) (jw_le (b := 30) h4) H.size) (va_cwS 3 hts gX7_taste_X7_in rfl rfl rfl (by decide +kernel) ⟨Nat.le_of_ble_eq_true rfl, Nat.le_of_ble_eq_true rfl⟩) (jpreS hT trivial) rfl rfl hl.1 rfl (lv_room (Nat.le_of_ble_eq_true rfl)) dX7_taste_20 ⟨(Nat.zero_le _), (Nat.zero_le _)⟩) hS hA (fun r_3 H locs hw_r_3 hkq hS => ?_)
    try dsimp only at hw_r_3
    have hPr := jkeep hPr hkq
    subst hw_r_3
    refine lv_if_ne (tgt := 29) hx hb dX7_taste_23 (by decide) (fun c_4 => ?_) (fun c_4 => ?_)
    · skip
      refine lv_aload_n hx hb dX7_taste_29 rfl (lv_at hl 0 rfl) ?_
      refine va_get (D := D) (ci := 7) (v := .int (nI tn)) (C := RX7) (T := TX7) (N := 25) hx hb hts (fun w h => List.mem_cons_of_mem _ (List.mem_append_right _ h)) hown hK hPr 0 rfl rfl 12 (by decide) (hts (Cond.fieldLink RX7 78 "JamDaysModel" "tastedMany" "I") (List.mem_of_getElem? (i := 4) rfl)) (fun _ h9 => h9) rfl dX7_taste_30 ?_
      refine lv_bipush (v := 6) hx hb dX7_taste_33 (by decide) ?_
      refine lv_icmp_ne (tgt := 41) hx hb dX7_taste_35 (by decide) (fun c_5 => ?_) (fun c_5 => ?_)
      · skip
        replace c_5 : ¬ tn = 6 := fun h => c_5 ((nI_eq (a := tn) (b := 6) (by omega) (by omega)).mpr h)
        exact absurd c_5 (by omega)
      · skip
        replace c_5 : tn = 6 := (nI_eq (a := tn) (b := 6) (by omega) (by omega)).mp c_5
        refine lv_bipush (v := (-104)) hx hb dX7_taste_38 (by decide) ?_
        exact W.iret (v := (-104)) hx hb hr (fun t ht hW => ⟨⟨(-104), (), rfl, rfl, trivial⟩, hS.F ht⟩) hS.2.2 dX7_taste_40
    · skip
      exact absurd c_4 (by decide)

set_option maxHeartbeats 4000000 in
set_option maxRecDepth 100000 in
theorem c_mtaste_ok (l : Launch) (D : va_G) (cI cJ : ClassId) (z : Nat) (zt : Nat) (tn : Nat) (a0 : Value) (a1 : Value) (a2 : Value) (a3 : Value) (a4 : Value) (a5 : Value) (a6 : Value) (a7 : Value) (a8 : Value) (a9 : Value) (a10 : Value) (a11 : Value) (a14 : Value) (a15 : Value) (a16 : Value) (a17 : Value) (a18 : Value) (a19 : Value) (a20 : Value) (a21 : Value) (a22 : Value) (a23 : Value) (a24 : Value) (Tt : Nat → Int32) (y0 : Int32) (w0 : Int32) (h1 : 0 ≤ y0) (h2 : y0 ≤ 99) (h3 : -20 ≤ w0) (h4 : w0 ≤ 30) (ht : tn < 6) : jWi l yX7_taste wsX7_taste ({ frames := 1, cells := 0, slots := 0, locals := 25 }) 0 0 [.ref z, .int y0, .int w0] D cI cJ [(z, .inr (7, [a0, a1, a2, a3, a4, a5, a6, a7, a8, a9, a10, a11, .int (nI tn), .ref zt, a14, a15, a16, a17, a18, a19, a20, a21, a22, a23, a24])), (zt, .inl (cI, 12, .inl Tt))] (fun H => True) (fun r H => r = nI (tn + 1) ∧ va_P D vwCl [(z, .inr (7, [a0, a1, a2, a3, a4, a5, a6, a7, a8, a9, a10, a11, .int (nI (tn + 1)), .ref zt, a14, a15, a16, a17, a18, a19, a20, a21, a22, a23, a24])), (zt, .inl (cI, 12, .inl (upd (upd Tt (2 * tn) y0) (2 * tn + 1) w0)))] H) := by
  intro sz
  refine Met.ofW (cc := cX7_taste) (maxL := 3) (ret := (some .int)) (by decide) rfl ?_
  intro p e s m args below meth c s₁ B hml hv
  obtain ⟨rfl, hsz, hT, hP, hD0, _⟩ := hv
  have hK := hT.1
  have hx := B.exec
  have hb := B.bytes
  have hr := B.returns
  have hts := atoms_spec (ws := wsX7_taste) B.pre
  have hown : s.vm.findClass RX7 = some m.cls := findClass_of_methodNamed B.named
  have hlocks := B.notSynchronized
  subst hsz
  have hD := hD0.self (sz := s.heap.size)
  generalize hAe : va_A [(z, .inr (7, [a0, a1, a2, a3, a4, a5, a6, a7, a8, a9, a10, a11, .int (nI tn), .ref zt, a14, a15, a16, a17, a18, a19, a20, a21, a22, a23, a24])), (zt, .inl (cI, 12, .inl Tt))] s.heap.size = A at hD ⊢
  have hA : ∀ q : Nat, s.heap.size ≤ q → A q := fun q h => by rw [← hAe]; exact Or.inr h
  have hS : va_S A s.heap s.heap [] := va_S.rf
  have hl := lv_entry ([.ref z, .int y0, .int w0] : List Value) (n := 3) (Nat.le_of_ble_eq_true rfl)
  rw [lg_entry_eq]
  generalize (lg_sl ([.ref z, .int y0, .int w0]) ++ List.replicate (3 - (lg_sl ([.ref z, .int y0, .int w0])).length) Slot.unset).toArray = ls at hl ⊢
  have hl : lv_has ls 3 [(0, .ref z), (1, .int y0), (2, .int w0)] := hl
  refine lv_iload_n hx hb dX7_taste_0 rfl (lv_at hl 1 rfl) ?_
  refine lv_i2l (v := y0.toInt64) hx hb dX7_taste_1 rfl ?_
  refine lv_lconst (v := 0) hx hb dX7_taste_2 (by decide) ?_
  refine lv_ldc2 (v := 99) hx hb hown (hts (Cond.constantLong RX7 107 (99)) (List.mem_of_getElem? (i := 1) rfl)) dX7_taste_3 ?_
  refine jcalli (va_runS (As := [.long y0.toInt64, .long 0, .long 99]) (rest := []) ⟨hx, hb, hml, hown, hts⟩ (c_in_y l D cI cJ y0.toInt64 0 99 (jw_le (a := 0) h1) (jw_le (b := 99) h2) s.heap.size) (va_cwS 3 hts gX7_taste_X7_in rfl rfl rfl (by decide +kernel) ⟨Nat.le_of_ble_eq_true rfl, Nat.le_of_ble_eq_true rfl⟩) (jpreS hT trivial) rfl rfl hl.1 rfl (lv_room (Nat.le_of_ble_eq_true rfl)) dX7_taste_6 ⟨(Nat.zero_le _), (Nat.zero_le _)⟩) hS hA (fun r_1 H locs hw_r_1 hkq hS => ?_)
  try dsimp only at hw_r_1
  have hP := jkeep hP hkq
  subst hw_r_1
  refine lv_if_eq (tgt := 26) hx hb dX7_taste_9 (by decide) (fun c_2 => ?_) (fun c_2 => ?_)
  · skip
    exact absurd c_2 (by decide)
  · skip
    refine lv_iload_n hx hb dX7_taste_12 rfl (lv_at hl 2 rfl) ?_
    refine lv_i2l (v := w0.toInt64) hx hb dX7_taste_13 rfl ?_
    refine lv_ldc2 (v := (-20)) hx hb hown (hts (Cond.constantLong RX7 137 (-20)) (List.mem_of_getElem? (i := 2) rfl)) dX7_taste_14 ?_
    refine lv_ldc2 (v := 30) hx hb hown (hts (Cond.constantLong RX7 139 (30)) (List.mem_of_getElem? (i := 3) rfl)) dX7_taste_17 ?_
    refine jcalli (va_runS (As := [.long w0.toInt64, .long (-20), .long 30]) (rest := []) ⟨hx, hb, hml, hown, hts⟩ (c_in_y l D cI cJ w0.toInt64 (-20) 30 (jw_le (a := -20) h3) (jw_le (b := 30) h4) H.size) (va_cwS 3 hts gX7_taste_X7_in rfl rfl rfl (by decide +kernel) ⟨Nat.le_of_ble_eq_true rfl, Nat.le_of_ble_eq_true rfl⟩) (jpreS hT trivial) rfl rfl hl.1 rfl (lv_room (Nat.le_of_ble_eq_true rfl)) dX7_taste_20 ⟨(Nat.zero_le _), (Nat.zero_le _)⟩) hS hA (fun r_3 H locs hw_r_3 hkq hS => ?_)
    try dsimp only at hw_r_3
    have hP := jkeep hP hkq
    subst hw_r_3
    refine lv_if_ne (tgt := 29) hx hb dX7_taste_23 (by decide) (fun c_4 => ?_) (fun c_4 => ?_)
    · skip
      refine lv_aload_n hx hb dX7_taste_29 rfl (lv_at hl 0 rfl) ?_
      refine va_get (D := D) (ci := 7) (v := .int (nI tn)) (C := RX7) (T := TX7) (N := 25) hx hb hts (fun w h => List.mem_cons_of_mem _ (List.mem_append_right _ h)) hown hK hP 0 rfl rfl 12 (by decide) (hts (Cond.fieldLink RX7 78 "JamDaysModel" "tastedMany" "I") (List.mem_of_getElem? (i := 4) rfl)) (fun _ h9 => h9) rfl dX7_taste_30 ?_
      refine lv_bipush (v := 6) hx hb dX7_taste_33 (by decide) ?_
      refine lv_icmp_ne (tgt := 41) hx hb dX7_taste_35 (by decide) (fun c_5 => ?_) (fun c_5 => ?_)
      · skip
        replace c_5 : ¬ tn = 6 := fun h => c_5 ((nI_eq (a := tn) (b := 6) (by omega) (by omega)).mpr h)
        refine lv_aload_n hx hb dX7_taste_41 rfl (lv_at hl 0 rfl) ?_
        refine va_get (D := D) (ci := 7) (v := .ref zt) (C := RX7) (T := TX7) (N := 25) hx hb hts (fun w h => List.mem_cons_of_mem _ (List.mem_append_right _ h)) hown hK hP 0 rfl rfl 13 (by decide) (hts (Cond.fieldLink RX7 22 "JamDaysModel" "tastes" "[I") (List.mem_of_getElem? (i := 5) rfl)) (fun _ h9 => h9) rfl dX7_taste_42 ?_
        refine lv_iconst (v := 2) hx hb dX7_taste_45 (by decide) ?_
        refine lv_aload_n hx hb dX7_taste_46 rfl (lv_at hl 0 rfl) ?_
        refine va_get (D := D) (ci := 7) (v := .int (nI tn)) (C := RX7) (T := TX7) (N := 25) hx hb hts (fun w h => List.mem_cons_of_mem _ (List.mem_append_right _ h)) hown hK hP 0 rfl rfl 12 (by decide) (hts (Cond.fieldLink RX7 78 "JamDaysModel" "tastedMany" "I") (List.mem_of_getElem? (i := 4) rfl)) (fun _ h9 => h9) rfl dX7_taste_47 ?_
        refine lv_imul hx hb dX7_taste_50 ?_
        refine jv_as (y := nI (2 * tn)) (pk_mul 2 tn) ?_
        refine lv_iload_n hx hb dX7_taste_51 rfl (lv_at hl 1 rfl) ?_
        refine jv_ast (k := 2 * tn) (x := y0) hx hb hK hP hD hS 1 0 rfl rfl (by omega) (by decide) dX7_taste_52 (fun H locs hP hD hS => ?_)
        have hP : va_P D vwCl [(z, .inr (7, [a0, a1, a2, a3, a4, a5, a6, a7, a8, a9, a10, a11, .int (nI tn), .ref zt, a14, a15, a16, a17, a18, a19, a20, a21, a22, a23, a24])), (zt, .inl (cI, 12, .inl (upd Tt (2 * tn) y0)))] H := hP
        have hD : va_D A [(z, .inr (7, [a0, a1, a2, a3, a4, a5, a6, a7, a8, a9, a10, a11, .int (nI tn), .ref zt, a14, a15, a16, a17, a18, a19, a20, a21, a22, a23, a24])), (zt, .inl (cI, 12, .inl (upd Tt (2 * tn) y0)))] := hD
        refine lv_aload_n hx hb dX7_taste_53 rfl (lv_at hl 0 rfl) ?_
        refine va_get (D := D) (ci := 7) (v := .ref zt) (C := RX7) (T := TX7) (N := 25) hx hb hts (fun w h => List.mem_cons_of_mem _ (List.mem_append_right _ h)) hown hK hP 0 rfl rfl 13 (by decide) (hts (Cond.fieldLink RX7 22 "JamDaysModel" "tastes" "[I") (List.mem_of_getElem? (i := 5) rfl)) (fun _ h9 => h9) rfl dX7_taste_54 ?_
        refine lv_iconst (v := 2) hx hb dX7_taste_57 (by decide) ?_
        refine lv_aload_n hx hb dX7_taste_58 rfl (lv_at hl 0 rfl) ?_
        refine va_get (D := D) (ci := 7) (v := .int (nI tn)) (C := RX7) (T := TX7) (N := 25) hx hb hts (fun w h => List.mem_cons_of_mem _ (List.mem_append_right _ h)) hown hK hP 0 rfl rfl 12 (by decide) (hts (Cond.fieldLink RX7 78 "JamDaysModel" "tastedMany" "I") (List.mem_of_getElem? (i := 4) rfl)) (fun _ h9 => h9) rfl dX7_taste_59 ?_
        refine lv_imul hx hb dX7_taste_62 ?_
        refine jv_as (y := nI (2 * tn)) (pk_mul 2 tn) ?_
        refine lv_iconst (v := 1) hx hb dX7_taste_63 (by decide) ?_
        refine lv_iadd hx hb dX7_taste_64 ?_
        refine jv_as (y := nI ((2 * tn) + 1)) (nI_add (2 * tn) 1) ?_
        refine lv_iload_n hx hb dX7_taste_65 rfl (lv_at hl 2 rfl) ?_
        refine jv_ast (k := (2 * tn) + 1) (x := w0) hx hb hK hP hD hS 1 0 rfl rfl (by omega) (by decide) dX7_taste_66 (fun H locs hP hD hS => ?_)
        have hP : va_P D vwCl [(z, .inr (7, [a0, a1, a2, a3, a4, a5, a6, a7, a8, a9, a10, a11, .int (nI tn), .ref zt, a14, a15, a16, a17, a18, a19, a20, a21, a22, a23, a24])), (zt, .inl (cI, 12, .inl (upd (upd Tt (2 * tn) y0) ((2 * tn) + 1) w0)))] H := hP
        have hD : va_D A [(z, .inr (7, [a0, a1, a2, a3, a4, a5, a6, a7, a8, a9, a10, a11, .int (nI tn), .ref zt, a14, a15, a16, a17, a18, a19, a20, a21, a22, a23, a24])), (zt, .inl (cI, 12, .inl (upd (upd Tt (2 * tn) y0) ((2 * tn) + 1) w0)))] := hD
        refine lv_aload_n hx hb dX7_taste_67 rfl (lv_at hl 0 rfl) ?_
        refine lv_dup hx hb dX7_taste_68 rfl ?_
        refine va_get (D := D) (ci := 7) (v := .int (nI tn)) (C := RX7) (T := TX7) (N := 25) hx hb hts (fun w h => List.mem_cons_of_mem _ (List.mem_append_right _ h)) hown hK hP 0 rfl rfl 12 (by decide) (hts (Cond.fieldLink RX7 78 "JamDaysModel" "tastedMany" "I") (List.mem_of_getElem? (i := 4) rfl)) (fun _ h9 => h9) rfl dX7_taste_69 ?_
        refine lv_iconst (v := 1) hx hb dX7_taste_72 (by decide) ?_
        refine lv_iadd hx hb dX7_taste_73 ?_
        refine jv_as (y := nI (tn + 1)) (nI_add tn 1) ?_
        refine va_put (D := D) (ci := 7) (v := .int (nI (tn + 1))) (ty := .int) (C := RX7) (T := TX7) (N := 25) hx hb hts (fun w h => List.mem_cons_of_mem _ (List.mem_append_right _ h)) tyX7 tyX7_ok nmX7 hown hK hP hD hS 0 rfl rfl 12 (by decide) (hts (Cond.fieldLink RX7 78 "JamDaysModel" "tastedMany" "I") (List.mem_of_getElem? (i := 4) rfl)) (fun _ h9 => h9) rfl (by decide +kernel) rfl rfl (Nat.le_of_ble_eq_true rfl) dX7_taste_74 (fun H locs hP hD hS => ?_)
        have hP : va_P D vwCl [(z, .inr (7, [a0, a1, a2, a3, a4, a5, a6, a7, a8, a9, a10, a11, .int (nI (tn + 1)), .ref zt, a14, a15, a16, a17, a18, a19, a20, a21, a22, a23, a24])), (zt, .inl (cI, 12, .inl (upd (upd Tt (2 * tn) y0) ((2 * tn) + 1) w0)))] H := hP
        have hD : va_D A [(z, .inr (7, [a0, a1, a2, a3, a4, a5, a6, a7, a8, a9, a10, a11, .int (nI (tn + 1)), .ref zt, a14, a15, a16, a17, a18, a19, a20, a21, a22, a23, a24])), (zt, .inl (cI, 12, .inl (upd (upd Tt (2 * tn) y0) ((2 * tn) + 1) w0)))] := hD
        refine lv_aload_n hx hb dX7_taste_77 rfl (lv_at hl 0 rfl) ?_
        refine va_get (D := D) (ci := 7) (v := .int (nI (tn + 1))) (C := RX7) (T := TX7) (N := 25) hx hb hts (fun w h => List.mem_cons_of_mem _ (List.mem_append_right _ h)) hown hK hP 0 rfl rfl 12 (by decide) (hts (Cond.fieldLink RX7 78 "JamDaysModel" "tastedMany" "I") (List.mem_of_getElem? (i := 4) rfl)) (fun _ h9 => h9) rfl dX7_taste_78 ?_
        exact W.iret (v := nI (tn + 1)) hx hb hr (fun t ht hW => ⟨⟨nI (tn + 1), nI (tn + 1), rfl, rfl, by dsimp only; rw [ht]; exact ⟨rfl, hP⟩⟩, hS.F ht⟩) hS.2.2 dX7_taste_81
      · skip
        replace c_5 : tn = 6 := (nI_eq (a := tn) (b := 6) (by omega) (by omega)).mp c_5
        exact absurd c_5 (by omega)
    · skip
      exact absurd c_4 (by decide)

set_option maxHeartbeats 4000000 in
set_option maxRecDepth 100000 in
theorem c_mforget (l : Launch) (D : va_G) (cI cJ : ClassId) (z : Nat) (tn : Nat) (a0 : Value) (a1 : Value) (a2 : Value) (a3 : Value) (a4 : Value) (a5 : Value) (a6 : Value) (a7 : Value) (a8 : Value) (a9 : Value) (a10 : Value) (a11 : Value) (a13 : Value) (a14 : Value) (a15 : Value) (a16 : Value) (a17 : Value) (a18 : Value) (a19 : Value) (a20 : Value) (a21 : Value) (a22 : Value) (a23 : Value) (a24 : Value)  : jWi l yX7_forget wsX7_forget ({ frames := 0, cells := 0, slots := 0, locals := 0 }) 0 0 [.ref z] D cI cJ [(z, .inr (7, [a0, a1, a2, a3, a4, a5, a6, a7, a8, a9, a10, a11, .int (nI tn), a13, a14, a15, a16, a17, a18, a19, a20, a21, a22, a23, a24]))] (fun H => True) (fun r H => r = nI tn ∧ va_P D vwCl [(z, .inr (7, [a0, a1, a2, a3, a4, a5, a6, a7, a8, a9, a10, a11, .int 0, a13, a14, a15, a16, a17, a18, a19, a20, a21, a22, a23, a24]))] H) := by
  intro sz
  refine Met.ofW (cc := cX7_forget) (maxL := 2) (ret := (some .int)) (by decide) rfl ?_
  intro p e s m args below meth c s₁ B hml hv
  obtain ⟨rfl, hsz, hT, hP, hD0, _⟩ := hv
  have hK := hT.1
  have hx := B.exec
  have hb := B.bytes
  have hr := B.returns
  have hts := atoms_spec (ws := wsX7_forget) B.pre
  have hown : s.vm.findClass RX7 = some m.cls := findClass_of_methodNamed B.named
  have hlocks := B.notSynchronized
  subst hsz
  have hD := hD0.self (sz := s.heap.size)
  generalize hAe : va_A [(z, .inr (7, [a0, a1, a2, a3, a4, a5, a6, a7, a8, a9, a10, a11, .int (nI tn), a13, a14, a15, a16, a17, a18, a19, a20, a21, a22, a23, a24]))] s.heap.size = A at hD ⊢
  have hA : ∀ q : Nat, s.heap.size ≤ q → A q := fun q h => by rw [← hAe]; exact Or.inr h
  have hS : va_S A s.heap s.heap [] := va_S.rf
  have hl := lv_entry ([.ref z] : List Value) (n := 2) (Nat.le_of_ble_eq_true rfl)
  rw [lg_entry_eq]
  generalize (lg_sl ([.ref z]) ++ List.replicate (2 - (lg_sl ([.ref z])).length) Slot.unset).toArray = ls at hl ⊢
  have hl : lv_has ls 2 [(0, .ref z)] := hl
  refine lv_aload_n hx hb dX7_forget_0 rfl (lv_at hl 0 rfl) ?_
  refine va_get (D := D) (ci := 7) (v := .int (nI tn)) (C := RX7) (T := TX7) (N := 25) hx hb hts (fun w h => List.mem_cons_of_mem _ (List.mem_append_right _ h)) hown hK hP 0 rfl rfl 12 (by decide) (hts (Cond.fieldLink RX7 78 "JamDaysModel" "tastedMany" "I") (List.mem_of_getElem? (i := 1) rfl)) (fun _ h9 => h9) rfl dX7_forget_1 ?_
  refine lv_istore_n (lv' := [(1, .int (nI tn)), (0, .ref z)]) hx hb dX7_forget_4 rfl hl (by decide) rfl (fun ls hl => ?_)
  refine lv_aload_n hx hb dX7_forget_5 rfl (lv_at hl 1 rfl) ?_
  refine lv_iconst (v := 0) hx hb dX7_forget_6 (by decide) ?_
  refine va_put (D := D) (ci := 7) (v := .int 0) (ty := .int) (C := RX7) (T := TX7) (N := 25) hx hb hts (fun w h => List.mem_cons_of_mem _ (List.mem_append_right _ h)) tyX7 tyX7_ok nmX7 hown hK hP hD hS 0 rfl rfl 12 (by decide) (hts (Cond.fieldLink RX7 78 "JamDaysModel" "tastedMany" "I") (List.mem_of_getElem? (i := 1) rfl)) (fun _ h9 => h9) rfl (by decide +kernel) rfl rfl (Nat.le_of_ble_eq_true rfl) dX7_forget_7 (fun H locs hP hD hS => ?_)
  have hP : va_P D vwCl [(z, .inr (7, [a0, a1, a2, a3, a4, a5, a6, a7, a8, a9, a10, a11, .int 0, a13, a14, a15, a16, a17, a18, a19, a20, a21, a22, a23, a24]))] H := hP
  have hD : va_D A [(z, .inr (7, [a0, a1, a2, a3, a4, a5, a6, a7, a8, a9, a10, a11, .int 0, a13, a14, a15, a16, a17, a18, a19, a20, a21, a22, a23, a24]))] := hD
  refine lv_iload_n hx hb dX7_forget_10 rfl (lv_at hl 0 rfl) ?_
  exact W.iret (v := nI tn) hx hb hr (fun t ht hW => ⟨⟨nI tn, nI tn, rfl, rfl, by dsimp only; rw [ht]; exact ⟨rfl, hP⟩⟩, hS.F ht⟩) hS.2.2 dX7_forget_11

set_option maxHeartbeats 4000000 in
set_option maxRecDepth 100000 in
theorem c_copy (l : Launch) (D : va_G) (cI cJ : ClassId) (f : Nat) (t : Nat) (nn : Nat) (ff : Nat → Int32) (tt : Nat → Int32) (hnn : nn ≤ 100) : jWv l yX7_copy wsX7_copy ({ frames := 0, cells := 0, slots := 0, locals := 0 }) 0 0 [.ref f, .ref t] D cI cJ [(f, .inl (cI, nn, .inl ff)), (t, .inl (cI, nn, .inl tt))] (fun H => True) (fun H => va_P D vwCl [(f, .inl (cI, nn, .inl ff)), (t, .inl (cI, nn, .inl (jfl ff tt nn)))] H) := by
  intro sz
  refine Met.ofW (cc := cX7_copy) (maxL := 3) (ret := none) (by decide) rfl ?_
  intro p e s m args below meth c s₁ B hml hv
  obtain ⟨rfl, hsz, hT, hP, hD0, _⟩ := hv
  have hK := hT.1
  have hx := B.exec
  have hb := B.bytes
  have hr := B.returns
  have hts := atoms_spec (ws := wsX7_copy) B.pre
  have hown : s.vm.findClass RX7 = some m.cls := findClass_of_methodNamed B.named
  have hlocks := B.notSynchronized
  subst hsz
  have hD := hD0.self (sz := s.heap.size)
  generalize hAe : va_A [(f, .inl (cI, nn, .inl ff)), (t, .inl (cI, nn, .inl tt))] s.heap.size = A at hD ⊢
  have hA : ∀ q : Nat, s.heap.size ≤ q → A q := fun q h => by rw [← hAe]; exact Or.inr h
  have hS : va_S A s.heap s.heap [] := va_S.rf
  have hl := lv_entry ([.ref f, .ref t] : List Value) (n := 3) (Nat.le_of_ble_eq_true rfl)
  rw [lg_entry_eq]
  generalize (lg_sl ([.ref f, .ref t]) ++ List.replicate (3 - (lg_sl ([.ref f, .ref t])).length) Slot.unset).toArray = ls at hl ⊢
  have hl : lv_has ls 3 [(0, .ref f), (1, .ref t)] := hl
  refine lv_iconst (v := 0) hx hb dX7_copy_0 (by decide) ?_
  refine lv_istore_n (lv' := [(2, .int 0), (0, .ref f), (1, .ref t)]) hx hb dX7_copy_1 rfl hl (by decide) rfl (fun ls hl => ?_)
  have hP : va_P D vwCl [(f, .inl (cI, nn, .inl ff)), (t, .inl (cI, nn, .inl (jfl ff tt 0)))] s.heap := by rw [jfl_0]; exact hP
  have hD : va_D A [(f, .inl (cI, nn, .inl ff)), (t, .inl (cI, nn, .inl (jfl ff tt 0)))] := jD_of hD rfl
  refine jloop (α := Nat) (fun (k : Nat) (H : Heap) (locs : List Loc) (ls : Array Slot) => (va_P D vwCl [(f, .inl (cI, nn, .inl ff)), (t, .inl (cI, nn, .inl (jfl ff tt k)))] H) ∧ (va_D A [(f, .inl (cI, nn, .inl ff)), (t, .inl (cI, nn, .inl (jfl ff tt k)))]) ∧ (va_S A s.heap H locs) ∧ (lv_has ls 3 [(0, .ref f), (1, .ref t), (2, .int (nI k))]) ∧ (k ≤ nn)) (fun (k : Nat) => nn - k) (fun k H locs ls hx9 ih_2 => ?_) 0 _ _ _ ⟨hP, hD, hS, lv_sub hl [1, 2, 0] rfl, (by omega)⟩
  obtain ⟨hP, hD, hS, hl, hk9⟩ := hx9
  refine lv_iload_n hx hb dX7_copy_2 rfl (lv_at hl 2 rfl) ?_
  refine lv_aload_n hx hb dX7_copy_3 rfl (lv_at hl 0 rfl) ?_
  refine va_alen (v := nI nn) hx hb hK hP 0 0 rfl rfl rfl dX7_copy_4 ?_
  refine lv_icmp_ge (tgt := 20) hx hb dX7_copy_5 (by decide) (fun c_1 => ?_) (fun c_1 => ?_)
  · skip
    replace c_1 : nn ≤ k := (nI_leI (a := nn) (b := k) (by omega) (by omega)).mp c_1
    exact W.vret hx hb hr (fun t ht hW => ⟨⟨(), rfl, trivial, by dsimp only; rw [ht]; exact (by rw [show k = nn by omega] at hP; exact hP)⟩, hS.F ht⟩) hS.2.2 dX7_copy_20
  · skip
    replace c_1 : ¬ nn ≤ k := fun h => c_1 ((nI_leI (a := nn) (b := k) (by omega) (by omega)).mpr h)
    refine lv_aload_n hx hb dX7_copy_8 rfl (lv_at hl 1 rfl) ?_
    refine lv_iload_n hx hb dX7_copy_9 rfl (lv_at hl 2 rfl) ?_
    refine lv_aload_n hx hb dX7_copy_10 rfl (lv_at hl 0 rfl) ?_
    refine lv_iload_n hx hb dX7_copy_11 rfl (lv_at hl 2 rfl) ?_
    refine jv_ald (k := k) hx hb hK hP 0 0 rfl rfl (by omega) (by omega) dX7_copy_12 ?_
    refine jv_ast (k := k) (x := ff k) hx hb hK hP hD hS 1 0 rfl rfl (by omega) (by omega) dX7_copy_13 (fun H locs hP hD hS => ?_)
    have hP : va_P D vwCl [(f, .inl (cI, nn, .inl ff)), (t, .inl (cI, nn, .inl (upd (jfl ff tt k) k (ff k))))] H := hP
    have hD : va_D A [(f, .inl (cI, nn, .inl ff)), (t, .inl (cI, nn, .inl (upd (jfl ff tt k) k (ff k))))] := hD
    refine lv_iinc (v := nI (k + 1)) (lv' := [(2, .int (nI (k + 1))), (0, .ref f), (1, .ref t)]) hx hb dX7_copy_14 hl (k := 2) rfl ((rfl : nI k + Int32.ofInt 1 = nI k + nI 1).trans (nI_add k 1)) (by decide) rfl (fun ls hl => ?_)
    refine lv_goto (tgt := 2) hx hb dX7_copy_17 (by decide) ?_
    have hP : va_P D vwCl [(f, .inl (cI, nn, .inl ff)), (t, .inl (cI, nn, .inl (jfl ff tt (k + 1))))] H := by rw [jfl_s (x := (ff k)) rfl]; exact hP
    have hD : va_D A [(f, .inl (cI, nn, .inl ff)), (t, .inl (cI, nn, .inl (jfl ff tt (k + 1))))] := jD_of hD rfl
    exact ih_2 (k + 1) _ _ _ ⟨hP, hD, hS, lv_sub hl [1, 2, 0] rfl, (by omega)⟩ (by omega)

set_option maxHeartbeats 4000000 in
set_option maxRecDepth 100000 in
theorem c_mimage_n (l : Launch) (D : va_G) (cI cJ : ClassId) (z : Nat) (n : Nat) (a0 : Value) (a1 : Value) (a3 : Value) (a4 : Value) (a5 : Value) (a6 : Value) (a7 : Value) (a8 : Value) (a9 : Value) (a10 : Value) (a11 : Value) (a12 : Value) (a13 : Value) (a14 : Value) (a15 : Value) (a16 : Value) (a17 : Value) (a18 : Value) (a19 : Value) (a20 : Value) (a21 : Value) (a22 : Value) (a23 : Value) (a24 : Value) (hn0 : n = 0) : jRi l yX7_image wsX7_image ({ frames := 1, cells := 0, slots := 0, locals := 20 }) [.ref z] D cI cJ (fun H => va_P D vwCl [(z, .inr (7, [a0, a1, .int (nI n), a3, a4, a5, a6, a7, a8, a9, a10, a11, a12, a13, a14, a15, a16, a17, a18, a19, a20, a21, a22, a23, a24]))] H) (fun r => r = -103) := by
  intro sz
  refine Met.ofW (cc := cX7_image) (maxL := 1) (ret := (some .int)) (by decide) rfl ?_
  intro p e s m args below meth c s₁ B hml hv
  obtain ⟨rfl, hsz, hT, hPr⟩ := hv
  have hK := hT.1
  have hx := B.exec
  have hb := B.bytes
  have hr := B.returns
  have hts := atoms_spec (ws := wsX7_image) B.pre
  have hown : s.vm.findClass RX7 = some m.cls := findClass_of_methodNamed B.named
  have hlocks := B.notSynchronized
  subst hsz
  generalize hAe : va_A [] s.heap.size = A
  have hA : ∀ q : Nat, s.heap.size ≤ q → A q := fun q h => by rw [← hAe]; exact Or.inr h
  have hS : va_S A s.heap s.heap [] := va_S.rf
  have hl := lv_entry ([.ref z] : List Value) (n := 1) (Nat.le_of_ble_eq_true rfl)
  rw [lg_entry_eq]
  generalize (lg_sl ([.ref z]) ++ List.replicate (1 - (lg_sl ([.ref z])).length) Slot.unset).toArray = ls at hl ⊢
  have hl : lv_has ls 1 [(0, .ref z)] := hl
  refine lv_aload_n hx hb dX7_image_0 rfl (lv_at hl 0 rfl) ?_
  have hPc_1 := hPr.sub (ws' := [(z, .inr (7, [a0, a1, .int (nI n), a3, a4, a5, a6, a7, a8, a9, a10, a11, a12, a13, a14, a15, a16, a17, a18, a19, a20, a21, a22, a23, a24]))]) [0] rfl
  refine jcalli (va_runV (As := []) (rest := []) ⟨hx, hb, hml, hown, hts⟩ (c_lacks_y l D cI cJ z n a0 a1 a3 a4 a5 a6 a7 a8 a9 a10 a11 a12 a13 a14 a15 a16 a17 a18 a19 a20 a21 a22 a23 a24 hn0 s.heap.size) (cwV 0 hts gX7_image_X7_lacks rfl rfl rfl (by decide +kernel) ⟨Nat.le_of_ble_eq_true rfl, Nat.le_of_ble_eq_true rfl⟩) (jpreV hT (va_recv hK hPr (ci := 7) (q0 := 0) rfl rfl) hPc_1) rfl rfl hl.1 rfl (lv_room (Nat.le_of_ble_eq_true rfl)) dX7_image_1 ⟨(Nat.zero_le _), (Nat.zero_le _)⟩) hS hA (fun r_2 H locs hw_r_2 hkq hS => ?_)
  try dsimp only at hw_r_2
  have hPr := jkeep hPr hkq
  subst hw_r_2
  refine lv_if_eq (tgt := 10) hx hb dX7_image_4 (by decide) (fun c_3 => ?_) (fun c_3 => ?_)
  · skip
    exact absurd c_3 (by decide)
  · skip
    refine lv_bipush (v := (-103)) hx hb dX7_image_7 (by decide) ?_
    exact W.iret (v := (-103)) hx hb hr (fun t ht hW => ⟨⟨(-103), (), rfl, rfl, trivial⟩, hS.F ht⟩) hS.2.2 dX7_image_9

set_option maxHeartbeats 4000000 in
set_option maxRecDepth 100000 in
theorem c_mimage_ok (l : Launch) (D : va_G) (cI cJ : ClassId) (z : Nat) (zr : Nat) (zt : Nat) (zk : Nat) (zl : Nat) (n : Nat) (a0 : Value) (a1 : Value) (a9 : Value) (a10 : Value) (a11 : Value) (a14 : Value) (a15 : Value) (a24 : Value) (y : Int32) (jo : Int32) (ea : Int32) (lo : Int32) (lr : Int32) (tn : Int32) (kl : Int32) (ky : Int32) (kj : Int32) (ke : Int32) (kk : Int32) (kt : Int32) (Rw : Nat → Int32) (Tt : Nat → Int32) (Rk : Nat → Int32) (Tk : Nat → Int32) (hn0 : 0 < n) (hn6 : n ≤ 6) : jWi l yX7_image wsX7_image ({ frames := 1, cells := 0, slots := 0, locals := 22 }) 0 0 [.ref z] D cI cJ [(z, .inr (7, [a0, a1, .int (nI n), .int y, .int jo, .int ea, .int lo, .int lr, .ref zr, a9, a10, a11, .int tn, .ref zt, a14, a15, .int kl, .int ky, .int kj, .int ke, .int kk, .int kt, .ref zk, .ref zl, a24])), (zr, .inl (cI, 30, .inl Rw)), (zt, .inl (cI, 12, .inl Tt)), (zk, .inl (cI, 30, .inl Rk)), (zl, .inl (cI, 12, .inl Tk))] (fun H => True) (fun r H => r = y ∧ va_P D vwCl [(z, .inr (7, [a0, a1, .int (nI n), .int y, .int jo, .int ea, .int lo, .int lr, .ref zr, a9, a10, a11, .int tn, .ref zt, a14, a15, .int lr, .int y, .int jo, .int ea, .int lo, .int tn, .ref zk, .ref zl, a24])), (zr, .inl (cI, 30, .inl Rw)), (zt, .inl (cI, 12, .inl Tt)), (zk, .inl (cI, 30, .inl (jfl Rw Rk 30))), (zl, .inl (cI, 12, .inl (jfl Tt Tk 12)))] H) := by
  intro sz
  refine Met.ofW (cc := cX7_image) (maxL := 1) (ret := (some .int)) (by decide) rfl ?_
  intro p e s m args below meth c s₁ B hml hv
  obtain ⟨rfl, hsz, hT, hP, hD0, _⟩ := hv
  have hK := hT.1
  have hx := B.exec
  have hb := B.bytes
  have hr := B.returns
  have hts := atoms_spec (ws := wsX7_image) B.pre
  have hown : s.vm.findClass RX7 = some m.cls := findClass_of_methodNamed B.named
  have hlocks := B.notSynchronized
  subst hsz
  have hD := hD0.self (sz := s.heap.size)
  generalize hAe : va_A [(z, .inr (7, [a0, a1, .int (nI n), .int y, .int jo, .int ea, .int lo, .int lr, .ref zr, a9, a10, a11, .int tn, .ref zt, a14, a15, .int kl, .int ky, .int kj, .int ke, .int kk, .int kt, .ref zk, .ref zl, a24])), (zr, .inl (cI, 30, .inl Rw)), (zt, .inl (cI, 12, .inl Tt)), (zk, .inl (cI, 30, .inl Rk)), (zl, .inl (cI, 12, .inl Tk))] s.heap.size = A at hD ⊢
  have hA : ∀ q : Nat, s.heap.size ≤ q → A q := fun q h => by rw [← hAe]; exact Or.inr h
  have hS : va_S A s.heap s.heap [] := va_S.rf
  have hl := lv_entry ([.ref z] : List Value) (n := 1) (Nat.le_of_ble_eq_true rfl)
  rw [lg_entry_eq]
  generalize (lg_sl ([.ref z]) ++ List.replicate (1 - (lg_sl ([.ref z])).length) Slot.unset).toArray = ls at hl ⊢
  have hl : lv_has ls 1 [(0, .ref z)] := hl
  refine lv_aload_n hx hb dX7_image_0 rfl (lv_at hl 0 rfl) ?_
  have hPc_1 := hP.sub (ws' := [(z, .inr (7, [a0, a1, .int (nI n), .int y, .int jo, .int ea, .int lo, .int lr, .ref zr, a9, a10, a11, .int tn, .ref zt, a14, a15, .int kl, .int ky, .int kj, .int ke, .int kk, .int kt, .ref zk, .ref zl, a24]))]) [0] rfl
  refine jcalli (va_runV (As := []) (rest := []) ⟨hx, hb, hml, hown, hts⟩ (c_lacks_n l D cI cJ z n a0 a1 (.int y) (.int jo) (.int ea) (.int lo) (.int lr) (.ref zr) a9 a10 a11 (.int tn) (.ref zt) a14 a15 (.int kl) (.int ky) (.int kj) (.int ke) (.int kk) (.int kt) (.ref zk) (.ref zl) a24 hn0 hn6 s.heap.size) (cwV 0 hts gX7_image_X7_lacks rfl rfl rfl (by decide +kernel) ⟨Nat.le_of_ble_eq_true rfl, Nat.le_of_ble_eq_true rfl⟩) (jpreV hT (va_recv hK hP (ci := 7) (q0 := 0) rfl rfl) hPc_1) rfl rfl hl.1 rfl (lv_room (Nat.le_of_ble_eq_true rfl)) dX7_image_1 ⟨(Nat.zero_le _), (Nat.zero_le _)⟩) hS hA (fun r_2 H locs hw_r_2 hkq hS => ?_)
  try dsimp only at hw_r_2
  have hP := jkeep hP hkq
  subst hw_r_2
  refine lv_if_eq (tgt := 10) hx hb dX7_image_4 (by decide) (fun c_3 => ?_) (fun c_3 => ?_)
  · skip
    refine lv_aload_n hx hb dX7_image_10 rfl (lv_at hl 0 rfl) ?_
    refine va_get (D := D) (ci := 7) (v := .ref zr) (C := RX7) (T := TX7) (N := 25) hx hb hts (fun w h => List.mem_cons_of_mem _ (List.mem_append_right _ h)) hown hK hP 0 rfl rfl 8 (by decide) (hts (Cond.fieldLink RX7 13 "JamDaysModel" "rows" "[I") (List.mem_of_getElem? (i := 1) rfl)) (fun _ h9 => h9) rfl dX7_image_11 ?_
    refine lv_aload_n hx hb dX7_image_14 rfl (lv_at hl 0 rfl) ?_
    refine va_get (D := D) (ci := 7) (v := .ref zk) (C := RX7) (T := TX7) (N := 25) hx hb hts (fun w h => List.mem_cons_of_mem _ (List.mem_append_right _ h)) hown hK hP 0 rfl rfl 22 (by decide) (hts (Cond.fieldLink RX7 28 "JamDaysModel" "keptRows" "[I") (List.mem_of_getElem? (i := 2) rfl)) (fun _ h9 => h9) rfl dX7_image_15 ?_
    have hPc_4 := hP.sub (ws' := [(zr, .inl (cI, 30, .inl Rw)), (zk, .inl (cI, 30, .inl Rk))]) [1, 3] rfl
    have hDc_5 := hD.sub (ws' := [(zr, .inl (cI, 30, .inl Rw)), (zk, .inl (cI, 30, .inl Rk))]) [1, 3] (by decide) rfl
    have hFc_6 := va_free (wc := [(zr, .inl (cI, 30, .inl Rw)), (zk, .inl (cI, 30, .inl Rk))]) hD hS hA [1, 3] rfl
    refine jcallWv (post := fun H => va_P D vwCl [(zr, .inl (cI, 30, .inl Rw)), (zk, .inl (cI, 30, .inl (jfl Rw Rk 30)))] H) (va_runS (As := [.ref zr, .ref zk]) (rest := []) ⟨hx, hb, hml, hown, hts⟩ (c_copy l D cI cJ zr zk 30 Rw Rk (by decide) H.size) (va_cwS 2 hts gX7_image_X7_copy rfl rfl rfl (by decide +kernel) ⟨Nat.le_of_ble_eq_true rfl, Nat.le_of_ble_eq_true rfl⟩) (jpreS hT ⟨hPc_4, hDc_5.weaken (fun _ _ _ _ => trivial), trivial⟩) rfl rfl hl.1 rfl (lv_room (Nat.le_of_ble_eq_true rfl)) dX7_image_18 ⟨(Nat.zero_le _), (Nat.zero_le _)⟩) hS hFc_6 (fun H locs hw_r_7 hz hkq hS => ?_)
    have hP1 := hw_r_7
    obtain ⟨hP, hD⟩ := jjoin (wc := [(zr, .inl (cI, 30, .inl Rw)), (zk, .inl (cI, 30, .inl Rk))]) (wr := [(z, .inr (7, [a0, a1, .int (nI n), .int y, .int jo, .int ea, .int lo, .int lr, .ref zr, a9, a10, a11, .int tn, .ref zt, a14, a15, .int kl, .int ky, .int kj, .int ke, .int kk, .int kt, .ref zk, .ref zl, a24])), (zt, .inl (cI, 12, .inl Tt)), (zl, .inl (cI, 12, .inl Tk))]) (w1 := [(zr, .inl (cI, 30, .inl Rw)), (zk, .inl (cI, 30, .inl (jfl Rw Rk 30)))]) (ws' := [(z, .inr (7, [a0, a1, .int (nI n), .int y, .int jo, .int ea, .int lo, .int lr, .ref zr, a9, a10, a11, .int tn, .ref zt, a14, a15, .int kl, .int ky, .int kj, .int ke, .int kk, .int kt, .ref zk, .ref zl, a24])), (zr, .inl (cI, 30, .inl Rw)), (zt, .inl (cI, 12, .inl Tt)), (zk, .inl (cI, 30, .inl (jfl Rw Rk 30))), (zl, .inl (cI, 12, .inl Tk))]) hP hD hFc_6 [1, 3] [0, 2, 4] [0, 3, 1, 4, 2] rfl rfl (by decide) (by decide) (by decide) (by decide) hkq hP1 rfl rfl rfl
    refine lv_aload_n hx hb dX7_image_21 rfl (lv_at hl 0 rfl) ?_
    refine va_get (D := D) (ci := 7) (v := .ref zt) (C := RX7) (T := TX7) (N := 25) hx hb hts (fun w h => List.mem_cons_of_mem _ (List.mem_append_right _ h)) hown hK hP 0 rfl rfl 13 (by decide) (hts (Cond.fieldLink RX7 22 "JamDaysModel" "tastes" "[I") (List.mem_of_getElem? (i := 3) rfl)) (fun _ h9 => h9) rfl dX7_image_22 ?_
    refine lv_aload_n hx hb dX7_image_25 rfl (lv_at hl 0 rfl) ?_
    refine va_get (D := D) (ci := 7) (v := .ref zl) (C := RX7) (T := TX7) (N := 25) hx hb hts (fun w h => List.mem_cons_of_mem _ (List.mem_append_right _ h)) hown hK hP 0 rfl rfl 23 (by decide) (hts (Cond.fieldLink RX7 31 "JamDaysModel" "keptTastes" "[I") (List.mem_of_getElem? (i := 4) rfl)) (fun _ h9 => h9) rfl dX7_image_26 ?_
    have hPc_8 := hP.sub (ws' := [(zt, .inl (cI, 12, .inl Tt)), (zl, .inl (cI, 12, .inl Tk))]) [2, 4] rfl
    have hDc_9 := hD.sub (ws' := [(zt, .inl (cI, 12, .inl Tt)), (zl, .inl (cI, 12, .inl Tk))]) [2, 4] (by decide) rfl
    have hFc_10 := va_free (wc := [(zt, .inl (cI, 12, .inl Tt)), (zl, .inl (cI, 12, .inl Tk))]) hD hS hA [2, 4] rfl
    refine jcallWv (post := fun H => va_P D vwCl [(zt, .inl (cI, 12, .inl Tt)), (zl, .inl (cI, 12, .inl (jfl Tt Tk 12)))] H) (va_runS (As := [.ref zt, .ref zl]) (rest := []) ⟨hx, hb, hml, hown, hts⟩ (c_copy l D cI cJ zt zl 12 Tt Tk (by decide) H.size) (va_cwS 2 hts gX7_image_X7_copy rfl rfl rfl (by decide +kernel) ⟨Nat.le_of_ble_eq_true rfl, Nat.le_of_ble_eq_true rfl⟩) (jpreS hT ⟨hPc_8, hDc_9.weaken (fun _ _ _ _ => trivial), trivial⟩) rfl rfl hl.1 rfl (lv_room (Nat.le_of_ble_eq_true rfl)) dX7_image_29 ⟨(Nat.zero_le _), (Nat.zero_le _)⟩) hS hFc_10 (fun H locs hw_r_11 hz hkq hS => ?_)
    have hP1 := hw_r_11
    obtain ⟨hP, hD⟩ := jjoin (wc := [(zt, .inl (cI, 12, .inl Tt)), (zl, .inl (cI, 12, .inl Tk))]) (wr := [(z, .inr (7, [a0, a1, .int (nI n), .int y, .int jo, .int ea, .int lo, .int lr, .ref zr, a9, a10, a11, .int tn, .ref zt, a14, a15, .int kl, .int ky, .int kj, .int ke, .int kk, .int kt, .ref zk, .ref zl, a24])), (zr, .inl (cI, 30, .inl Rw)), (zk, .inl (cI, 30, .inl (jfl Rw Rk 30)))]) (w1 := [(zt, .inl (cI, 12, .inl Tt)), (zl, .inl (cI, 12, .inl (jfl Tt Tk 12)))]) (ws' := [(z, .inr (7, [a0, a1, .int (nI n), .int y, .int jo, .int ea, .int lo, .int lr, .ref zr, a9, a10, a11, .int tn, .ref zt, a14, a15, .int kl, .int ky, .int kj, .int ke, .int kk, .int kt, .ref zk, .ref zl, a24])), (zr, .inl (cI, 30, .inl Rw)), (zt, .inl (cI, 12, .inl Tt)), (zk, .inl (cI, 30, .inl (jfl Rw Rk 30))), (zl, .inl (cI, 12, .inl (jfl Tt Tk 12)))]) hP hD hFc_10 [2, 4] [0, 1, 3] [0, 1, 3, 2, 4] rfl rfl (by decide) (by decide) (by decide) (by decide) hkq hP1 rfl rfl rfl
    refine lv_aload_n hx hb dX7_image_32 rfl (lv_at hl 0 rfl) ?_
    refine lv_aload_n hx hb dX7_image_33 rfl (lv_at hl 0 rfl) ?_
    refine va_get (D := D) (ci := 7) (v := .int y) (C := RX7) (T := TX7) (N := 25) hx hb hts (fun w h => List.mem_cons_of_mem _ (List.mem_append_right _ h)) hown hK hP 0 rfl rfl 3 (by decide) (hts (Cond.fieldLink RX7 66 "JamDaysModel" "yearNow" "I") (List.mem_of_getElem? (i := 5) rfl)) (fun _ h9 => h9) rfl dX7_image_34 ?_
    refine va_put (D := D) (ci := 7) (v := .int y) (ty := .int) (C := RX7) (T := TX7) (N := 25) hx hb hts (fun w h => List.mem_cons_of_mem _ (List.mem_append_right _ h)) tyX7 tyX7_ok nmX7 hown hK hP hD hS 0 rfl rfl 17 (by decide) (hts (Cond.fieldLink RX7 172 "JamDaysModel" "keptYear" "I") (List.mem_of_getElem? (i := 6) rfl)) (fun _ h9 => h9) rfl (by decide +kernel) rfl rfl (Nat.le_of_ble_eq_true rfl) dX7_image_37 (fun H locs hP hD hS => ?_)
    have hP : va_P D vwCl [(z, .inr (7, [a0, a1, .int (nI n), .int y, .int jo, .int ea, .int lo, .int lr, .ref zr, a9, a10, a11, .int tn, .ref zt, a14, a15, .int kl, .int y, .int kj, .int ke, .int kk, .int kt, .ref zk, .ref zl, a24])), (zr, .inl (cI, 30, .inl Rw)), (zt, .inl (cI, 12, .inl Tt)), (zk, .inl (cI, 30, .inl (jfl Rw Rk 30))), (zl, .inl (cI, 12, .inl (jfl Tt Tk 12)))] H := hP
    have hD : va_D A [(z, .inr (7, [a0, a1, .int (nI n), .int y, .int jo, .int ea, .int lo, .int lr, .ref zr, a9, a10, a11, .int tn, .ref zt, a14, a15, .int kl, .int y, .int kj, .int ke, .int kk, .int kt, .ref zk, .ref zl, a24])), (zr, .inl (cI, 30, .inl Rw)), (zt, .inl (cI, 12, .inl Tt)), (zk, .inl (cI, 30, .inl (jfl Rw Rk 30))), (zl, .inl (cI, 12, .inl (jfl Tt Tk 12)))] := hD
    refine lv_aload_n hx hb dX7_image_40 rfl (lv_at hl 0 rfl) ?_
    refine lv_aload_n hx hb dX7_image_41 rfl (lv_at hl 0 rfl) ?_
    refine va_get (D := D) (ci := 7) (v := .int jo) (C := RX7) (T := TX7) (N := 25) hx hb hts (fun w h => List.mem_cons_of_mem _ (List.mem_append_right _ h)) hown hK hP 0 rfl rfl 4 (by decide) (hts (Cond.fieldLink RX7 69 "JamDaysModel" "joy" "I") (List.mem_of_getElem? (i := 7) rfl)) (fun _ h9 => h9) rfl dX7_image_42 ?_
    refine va_put (D := D) (ci := 7) (v := .int jo) (ty := .int) (C := RX7) (T := TX7) (N := 25) hx hb hts (fun w h => List.mem_cons_of_mem _ (List.mem_append_right _ h)) tyX7 tyX7_ok nmX7 hown hK hP hD hS 0 rfl rfl 18 (by decide) (hts (Cond.fieldLink RX7 175 "JamDaysModel" "keptJoy" "I") (List.mem_of_getElem? (i := 8) rfl)) (fun _ h9 => h9) rfl (by decide +kernel) rfl rfl (Nat.le_of_ble_eq_true rfl) dX7_image_45 (fun H locs hP hD hS => ?_)
    have hP : va_P D vwCl [(z, .inr (7, [a0, a1, .int (nI n), .int y, .int jo, .int ea, .int lo, .int lr, .ref zr, a9, a10, a11, .int tn, .ref zt, a14, a15, .int kl, .int y, .int jo, .int ke, .int kk, .int kt, .ref zk, .ref zl, a24])), (zr, .inl (cI, 30, .inl Rw)), (zt, .inl (cI, 12, .inl Tt)), (zk, .inl (cI, 30, .inl (jfl Rw Rk 30))), (zl, .inl (cI, 12, .inl (jfl Tt Tk 12)))] H := hP
    have hD : va_D A [(z, .inr (7, [a0, a1, .int (nI n), .int y, .int jo, .int ea, .int lo, .int lr, .ref zr, a9, a10, a11, .int tn, .ref zt, a14, a15, .int kl, .int y, .int jo, .int ke, .int kk, .int kt, .ref zk, .ref zl, a24])), (zr, .inl (cI, 30, .inl Rw)), (zt, .inl (cI, 12, .inl Tt)), (zk, .inl (cI, 30, .inl (jfl Rw Rk 30))), (zl, .inl (cI, 12, .inl (jfl Tt Tk 12)))] := hD
    refine lv_aload_n hx hb dX7_image_48 rfl (lv_at hl 0 rfl) ?_
    refine lv_aload_n hx hb dX7_image_49 rfl (lv_at hl 0 rfl) ?_
    refine va_get (D := D) (ci := 7) (v := .int ea) (C := RX7) (T := TX7) (N := 25) hx hb hts (fun w h => List.mem_cons_of_mem _ (List.mem_append_right _ h)) hown hK hP 0 rfl rfl 5 (by decide) (hts (Cond.fieldLink RX7 72 "JamDaysModel" "eaten" "I") (List.mem_of_getElem? (i := 9) rfl)) (fun _ h9 => h9) rfl dX7_image_50 ?_
    refine va_put (D := D) (ci := 7) (v := .int ea) (ty := .int) (C := RX7) (T := TX7) (N := 25) hx hb hts (fun w h => List.mem_cons_of_mem _ (List.mem_append_right _ h)) tyX7 tyX7_ok nmX7 hown hK hP hD hS 0 rfl rfl 19 (by decide) (hts (Cond.fieldLink RX7 178 "JamDaysModel" "keptEaten" "I") (List.mem_of_getElem? (i := 10) rfl)) (fun _ h9 => h9) rfl (by decide +kernel) rfl rfl (Nat.le_of_ble_eq_true rfl) dX7_image_53 (fun H locs hP hD hS => ?_)
    have hP : va_P D vwCl [(z, .inr (7, [a0, a1, .int (nI n), .int y, .int jo, .int ea, .int lo, .int lr, .ref zr, a9, a10, a11, .int tn, .ref zt, a14, a15, .int kl, .int y, .int jo, .int ea, .int kk, .int kt, .ref zk, .ref zl, a24])), (zr, .inl (cI, 30, .inl Rw)), (zt, .inl (cI, 12, .inl Tt)), (zk, .inl (cI, 30, .inl (jfl Rw Rk 30))), (zl, .inl (cI, 12, .inl (jfl Tt Tk 12)))] H := hP
    have hD : va_D A [(z, .inr (7, [a0, a1, .int (nI n), .int y, .int jo, .int ea, .int lo, .int lr, .ref zr, a9, a10, a11, .int tn, .ref zt, a14, a15, .int kl, .int y, .int jo, .int ea, .int kk, .int kt, .ref zk, .ref zl, a24])), (zr, .inl (cI, 30, .inl Rw)), (zt, .inl (cI, 12, .inl Tt)), (zk, .inl (cI, 30, .inl (jfl Rw Rk 30))), (zl, .inl (cI, 12, .inl (jfl Tt Tk 12)))] := hD
    refine lv_aload_n hx hb dX7_image_56 rfl (lv_at hl 0 rfl) ?_
    refine lv_aload_n hx hb dX7_image_57 rfl (lv_at hl 0 rfl) ?_
    refine va_get (D := D) (ci := 7) (v := .int lo) (C := RX7) (T := TX7) (N := 25) hx hb hts (fun w h => List.mem_cons_of_mem _ (List.mem_append_right _ h)) hown hK hP 0 rfl rfl 6 (by decide) (hts (Cond.fieldLink RX7 75 "JamDaysModel" "taken" "I") (List.mem_of_getElem? (i := 11) rfl)) (fun _ h9 => h9) rfl dX7_image_58 ?_
    refine va_put (D := D) (ci := 7) (v := .int lo) (ty := .int) (C := RX7) (T := TX7) (N := 25) hx hb hts (fun w h => List.mem_cons_of_mem _ (List.mem_append_right _ h)) tyX7 tyX7_ok nmX7 hown hK hP hD hS 0 rfl rfl 20 (by decide) (hts (Cond.fieldLink RX7 181 "JamDaysModel" "keptTaken" "I") (List.mem_of_getElem? (i := 12) rfl)) (fun _ h9 => h9) rfl (by decide +kernel) rfl rfl (Nat.le_of_ble_eq_true rfl) dX7_image_61 (fun H locs hP hD hS => ?_)
    have hP : va_P D vwCl [(z, .inr (7, [a0, a1, .int (nI n), .int y, .int jo, .int ea, .int lo, .int lr, .ref zr, a9, a10, a11, .int tn, .ref zt, a14, a15, .int kl, .int y, .int jo, .int ea, .int lo, .int kt, .ref zk, .ref zl, a24])), (zr, .inl (cI, 30, .inl Rw)), (zt, .inl (cI, 12, .inl Tt)), (zk, .inl (cI, 30, .inl (jfl Rw Rk 30))), (zl, .inl (cI, 12, .inl (jfl Tt Tk 12)))] H := hP
    have hD : va_D A [(z, .inr (7, [a0, a1, .int (nI n), .int y, .int jo, .int ea, .int lo, .int lr, .ref zr, a9, a10, a11, .int tn, .ref zt, a14, a15, .int kl, .int y, .int jo, .int ea, .int lo, .int kt, .ref zk, .ref zl, a24])), (zr, .inl (cI, 30, .inl Rw)), (zt, .inl (cI, 12, .inl Tt)), (zk, .inl (cI, 30, .inl (jfl Rw Rk 30))), (zl, .inl (cI, 12, .inl (jfl Tt Tk 12)))] := hD
    refine lv_aload_n hx hb dX7_image_64 rfl (lv_at hl 0 rfl) ?_
    refine lv_aload_n hx hb dX7_image_65 rfl (lv_at hl 0 rfl) ?_
    refine va_get (D := D) (ci := 7) (v := .int tn) (C := RX7) (T := TX7) (N := 25) hx hb hts (fun w h => List.mem_cons_of_mem _ (List.mem_append_right _ h)) hown hK hP 0 rfl rfl 12 (by decide) (hts (Cond.fieldLink RX7 78 "JamDaysModel" "tastedMany" "I") (List.mem_of_getElem? (i := 13) rfl)) (fun _ h9 => h9) rfl dX7_image_66 ?_
    refine va_put (D := D) (ci := 7) (v := .int tn) (ty := .int) (C := RX7) (T := TX7) (N := 25) hx hb hts (fun w h => List.mem_cons_of_mem _ (List.mem_append_right _ h)) tyX7 tyX7_ok nmX7 hown hK hP hD hS 0 rfl rfl 21 (by decide) (hts (Cond.fieldLink RX7 184 "JamDaysModel" "keptTasted" "I") (List.mem_of_getElem? (i := 14) rfl)) (fun _ h9 => h9) rfl (by decide +kernel) rfl rfl (Nat.le_of_ble_eq_true rfl) dX7_image_69 (fun H locs hP hD hS => ?_)
    have hP : va_P D vwCl [(z, .inr (7, [a0, a1, .int (nI n), .int y, .int jo, .int ea, .int lo, .int lr, .ref zr, a9, a10, a11, .int tn, .ref zt, a14, a15, .int kl, .int y, .int jo, .int ea, .int lo, .int tn, .ref zk, .ref zl, a24])), (zr, .inl (cI, 30, .inl Rw)), (zt, .inl (cI, 12, .inl Tt)), (zk, .inl (cI, 30, .inl (jfl Rw Rk 30))), (zl, .inl (cI, 12, .inl (jfl Tt Tk 12)))] H := hP
    have hD : va_D A [(z, .inr (7, [a0, a1, .int (nI n), .int y, .int jo, .int ea, .int lo, .int lr, .ref zr, a9, a10, a11, .int tn, .ref zt, a14, a15, .int kl, .int y, .int jo, .int ea, .int lo, .int tn, .ref zk, .ref zl, a24])), (zr, .inl (cI, 30, .inl Rw)), (zt, .inl (cI, 12, .inl Tt)), (zk, .inl (cI, 30, .inl (jfl Rw Rk 30))), (zl, .inl (cI, 12, .inl (jfl Tt Tk 12)))] := hD
    refine lv_aload_n hx hb dX7_image_72 rfl (lv_at hl 0 rfl) ?_
    refine lv_aload_n hx hb dX7_image_73 rfl (lv_at hl 0 rfl) ?_
    refine va_get (D := D) (ci := 7) (v := .int lr) (C := RX7) (T := TX7) (N := 25) hx hb hts (fun w h => List.mem_cons_of_mem _ (List.mem_append_right _ h)) hown hK hP 0 rfl rfl 7 (by decide) (hts (Cond.fieldLink RX7 81 "JamDaysModel" "lardersRead" "I") (List.mem_of_getElem? (i := 15) rfl)) (fun _ h9 => h9) rfl dX7_image_74 ?_
    refine va_put (D := D) (ci := 7) (v := .int lr) (ty := .int) (C := RX7) (T := TX7) (N := 25) hx hb hts (fun w h => List.mem_cons_of_mem _ (List.mem_append_right _ h)) tyX7 tyX7_ok nmX7 hown hK hP hD hS 0 rfl rfl 16 (by decide) (hts (Cond.fieldLink RX7 34 "JamDaysModel" "keptLarder" "I") (List.mem_of_getElem? (i := 16) rfl)) (fun _ h9 => h9) rfl (by decide +kernel) rfl rfl (Nat.le_of_ble_eq_true rfl) dX7_image_77 (fun H locs hP hD hS => ?_)
    have hP : va_P D vwCl [(z, .inr (7, [a0, a1, .int (nI n), .int y, .int jo, .int ea, .int lo, .int lr, .ref zr, a9, a10, a11, .int tn, .ref zt, a14, a15, .int lr, .int y, .int jo, .int ea, .int lo, .int tn, .ref zk, .ref zl, a24])), (zr, .inl (cI, 30, .inl Rw)), (zt, .inl (cI, 12, .inl Tt)), (zk, .inl (cI, 30, .inl (jfl Rw Rk 30))), (zl, .inl (cI, 12, .inl (jfl Tt Tk 12)))] H := hP
    have hD : va_D A [(z, .inr (7, [a0, a1, .int (nI n), .int y, .int jo, .int ea, .int lo, .int lr, .ref zr, a9, a10, a11, .int tn, .ref zt, a14, a15, .int lr, .int y, .int jo, .int ea, .int lo, .int tn, .ref zk, .ref zl, a24])), (zr, .inl (cI, 30, .inl Rw)), (zt, .inl (cI, 12, .inl Tt)), (zk, .inl (cI, 30, .inl (jfl Rw Rk 30))), (zl, .inl (cI, 12, .inl (jfl Tt Tk 12)))] := hD
    refine lv_aload_n hx hb dX7_image_80 rfl (lv_at hl 0 rfl) ?_
    refine va_get (D := D) (ci := 7) (v := .int y) (C := RX7) (T := TX7) (N := 25) hx hb hts (fun w h => List.mem_cons_of_mem _ (List.mem_append_right _ h)) hown hK hP 0 rfl rfl 3 (by decide) (hts (Cond.fieldLink RX7 66 "JamDaysModel" "yearNow" "I") (List.mem_of_getElem? (i := 5) rfl)) (fun _ h9 => h9) rfl dX7_image_81 ?_
    exact W.iret (v := y) hx hb hr (fun t ht hW => ⟨⟨y, y, rfl, rfl, by dsimp only; rw [ht]; exact ⟨rfl, hP⟩⟩, hS.F ht⟩) hS.2.2 dX7_image_84
  · skip
    exact absurd c_3 (by decide)

set_option maxHeartbeats 4000000 in
set_option maxRecDepth 100000 in
theorem c_mrestore_no (l : Launch) (D : va_G) (cI cJ : ClassId) (z : Nat) (a0 : Value) (a1 : Value) (a2 : Value) (a3 : Value) (a4 : Value) (a5 : Value) (a6 : Value) (a8 : Value) (a9 : Value) (a10 : Value) (a11 : Value) (a12 : Value) (a13 : Value) (a14 : Value) (a15 : Value) (a17 : Value) (a18 : Value) (a19 : Value) (a20 : Value) (a21 : Value) (a22 : Value) (a23 : Value) (a24 : Value) (kl : Int32) (lr : Int32) (h9 : ¬ kl = lr) : jRi l yX7_restore wsX7_restore ({ frames := 0, cells := 0, slots := 0, locals := 0 }) [.ref z] D cI cJ (fun H => va_P D vwCl [(z, .inr (7, [a0, a1, a2, a3, a4, a5, a6, .int lr, a8, a9, a10, a11, a12, a13, a14, a15, .int kl, a17, a18, a19, a20, a21, a22, a23, a24]))] H) (fun r => r = -103) := by
  intro sz
  refine Met.ofW (cc := cX7_restore) (maxL := 1) (ret := (some .int)) (by decide) rfl ?_
  intro p e s m args below meth c s₁ B hml hv
  obtain ⟨rfl, hsz, hT, hPr⟩ := hv
  have hK := hT.1
  have hx := B.exec
  have hb := B.bytes
  have hr := B.returns
  have hts := atoms_spec (ws := wsX7_restore) B.pre
  have hown : s.vm.findClass RX7 = some m.cls := findClass_of_methodNamed B.named
  have hlocks := B.notSynchronized
  subst hsz
  generalize hAe : va_A [] s.heap.size = A
  have hA : ∀ q : Nat, s.heap.size ≤ q → A q := fun q h => by rw [← hAe]; exact Or.inr h
  have hS : va_S A s.heap s.heap [] := va_S.rf
  have hl := lv_entry ([.ref z] : List Value) (n := 1) (Nat.le_of_ble_eq_true rfl)
  rw [lg_entry_eq]
  generalize (lg_sl ([.ref z]) ++ List.replicate (1 - (lg_sl ([.ref z])).length) Slot.unset).toArray = ls at hl ⊢
  have hl : lv_has ls 1 [(0, .ref z)] := hl
  refine lv_aload_n hx hb dX7_restore_0 rfl (lv_at hl 0 rfl) ?_
  refine va_get (D := D) (ci := 7) (v := .int kl) (C := RX7) (T := TX7) (N := 25) hx hb hts (fun w h => List.mem_cons_of_mem _ (List.mem_append_right _ h)) hown hK hPr 0 rfl rfl 16 (by decide) (hts (Cond.fieldLink RX7 34 "JamDaysModel" "keptLarder" "I") (List.mem_of_getElem? (i := 1) rfl)) (fun _ h9 => h9) rfl dX7_restore_1 ?_
  refine lv_aload_n hx hb dX7_restore_4 rfl (lv_at hl 0 rfl) ?_
  refine va_get (D := D) (ci := 7) (v := .int lr) (C := RX7) (T := TX7) (N := 25) hx hb hts (fun w h => List.mem_cons_of_mem _ (List.mem_append_right _ h)) hown hK hPr 0 rfl rfl 7 (by decide) (hts (Cond.fieldLink RX7 81 "JamDaysModel" "lardersRead" "I") (List.mem_of_getElem? (i := 2) rfl)) (fun _ h9 => h9) rfl dX7_restore_5 ?_
  refine lv_icmp_eq (tgt := 14) hx hb dX7_restore_8 (by decide) (fun c_1 => ?_) (fun c_1 => ?_)
  · skip
    exact absurd c_1 h9
  · skip
    refine lv_bipush (v := (-103)) hx hb dX7_restore_11 (by decide) ?_
    exact W.iret (v := (-103)) hx hb hr (fun t ht hW => ⟨⟨(-103), (), rfl, rfl, trivial⟩, hS.F ht⟩) hS.2.2 dX7_restore_13

set_option maxHeartbeats 4000000 in
set_option maxRecDepth 100000 in
theorem c_mrestore_ok (l : Launch) (D : va_G) (cI cJ : ClassId) (z : Nat) (zr : Nat) (zt : Nat) (zk : Nat) (zl : Nat) (n : Nat) (a0 : Value) (a1 : Value) (a9 : Value) (a10 : Value) (a11 : Value) (a14 : Value) (a15 : Value) (a24 : Value) (y : Int32) (jo : Int32) (ea : Int32) (lo : Int32) (lr : Int32) (tn : Int32) (kl : Int32) (ky : Int32) (kj : Int32) (ke : Int32) (kk : Int32) (kt : Int32) (Rw : Nat → Int32) (Tt : Nat → Int32) (Rk : Nat → Int32) (Tk : Nat → Int32) (h9 : kl = lr) : jWi l yX7_restore wsX7_restore ({ frames := 1, cells := 0, slots := 0, locals := 22 }) 0 0 [.ref z] D cI cJ [(z, .inr (7, [a0, a1, .int (nI n), .int y, .int jo, .int ea, .int lo, .int lr, .ref zr, a9, a10, a11, .int tn, .ref zt, a14, a15, .int kl, .int ky, .int kj, .int ke, .int kk, .int kt, .ref zk, .ref zl, a24])), (zr, .inl (cI, 30, .inl Rw)), (zt, .inl (cI, 12, .inl Tt)), (zk, .inl (cI, 30, .inl Rk)), (zl, .inl (cI, 12, .inl Tk))] (fun H => True) (fun r H => r = ky ∧ va_P D vwCl [(z, .inr (7, [a0, a1, .int (nI n), .int ky, .int kj, .int ke, .int kk, .int lr, .ref zr, a9, a10, a11, .int kt, .ref zt, a14, a15, .int kl, .int ky, .int kj, .int ke, .int kk, .int kt, .ref zk, .ref zl, a24])), (zr, .inl (cI, 30, .inl (jfl Rk Rw 30))), (zt, .inl (cI, 12, .inl (jfl Tk Tt 12))), (zk, .inl (cI, 30, .inl Rk)), (zl, .inl (cI, 12, .inl Tk))] H) := by
  intro sz
  refine Met.ofW (cc := cX7_restore) (maxL := 1) (ret := (some .int)) (by decide) rfl ?_
  intro p e s m args below meth c s₁ B hml hv
  obtain ⟨rfl, hsz, hT, hP, hD0, _⟩ := hv
  have hK := hT.1
  have hx := B.exec
  have hb := B.bytes
  have hr := B.returns
  have hts := atoms_spec (ws := wsX7_restore) B.pre
  have hown : s.vm.findClass RX7 = some m.cls := findClass_of_methodNamed B.named
  have hlocks := B.notSynchronized
  subst hsz
  have hD := hD0.self (sz := s.heap.size)
  generalize hAe : va_A [(z, .inr (7, [a0, a1, .int (nI n), .int y, .int jo, .int ea, .int lo, .int lr, .ref zr, a9, a10, a11, .int tn, .ref zt, a14, a15, .int kl, .int ky, .int kj, .int ke, .int kk, .int kt, .ref zk, .ref zl, a24])), (zr, .inl (cI, 30, .inl Rw)), (zt, .inl (cI, 12, .inl Tt)), (zk, .inl (cI, 30, .inl Rk)), (zl, .inl (cI, 12, .inl Tk))] s.heap.size = A at hD ⊢
  have hA : ∀ q : Nat, s.heap.size ≤ q → A q := fun q h => by rw [← hAe]; exact Or.inr h
  have hS : va_S A s.heap s.heap [] := va_S.rf
  have hl := lv_entry ([.ref z] : List Value) (n := 1) (Nat.le_of_ble_eq_true rfl)
  rw [lg_entry_eq]
  generalize (lg_sl ([.ref z]) ++ List.replicate (1 - (lg_sl ([.ref z])).length) Slot.unset).toArray = ls at hl ⊢
  have hl : lv_has ls 1 [(0, .ref z)] := hl
  refine lv_aload_n hx hb dX7_restore_0 rfl (lv_at hl 0 rfl) ?_
  refine va_get (D := D) (ci := 7) (v := .int kl) (C := RX7) (T := TX7) (N := 25) hx hb hts (fun w h => List.mem_cons_of_mem _ (List.mem_append_right _ h)) hown hK hP 0 rfl rfl 16 (by decide) (hts (Cond.fieldLink RX7 34 "JamDaysModel" "keptLarder" "I") (List.mem_of_getElem? (i := 1) rfl)) (fun _ h9 => h9) rfl dX7_restore_1 ?_
  refine lv_aload_n hx hb dX7_restore_4 rfl (lv_at hl 0 rfl) ?_
  refine va_get (D := D) (ci := 7) (v := .int lr) (C := RX7) (T := TX7) (N := 25) hx hb hts (fun w h => List.mem_cons_of_mem _ (List.mem_append_right _ h)) hown hK hP 0 rfl rfl 7 (by decide) (hts (Cond.fieldLink RX7 81 "JamDaysModel" "lardersRead" "I") (List.mem_of_getElem? (i := 2) rfl)) (fun _ h9 => h9) rfl dX7_restore_5 ?_
  refine lv_icmp_eq (tgt := 14) hx hb dX7_restore_8 (by decide) (fun c_1 => ?_) (fun c_1 => ?_)
  · skip
    refine lv_aload_n hx hb dX7_restore_14 rfl (lv_at hl 0 rfl) ?_
    refine va_get (D := D) (ci := 7) (v := .ref zk) (C := RX7) (T := TX7) (N := 25) hx hb hts (fun w h => List.mem_cons_of_mem _ (List.mem_append_right _ h)) hown hK hP 0 rfl rfl 22 (by decide) (hts (Cond.fieldLink RX7 28 "JamDaysModel" "keptRows" "[I") (List.mem_of_getElem? (i := 3) rfl)) (fun _ h9 => h9) rfl dX7_restore_15 ?_
    refine lv_aload_n hx hb dX7_restore_18 rfl (lv_at hl 0 rfl) ?_
    refine va_get (D := D) (ci := 7) (v := .ref zr) (C := RX7) (T := TX7) (N := 25) hx hb hts (fun w h => List.mem_cons_of_mem _ (List.mem_append_right _ h)) hown hK hP 0 rfl rfl 8 (by decide) (hts (Cond.fieldLink RX7 13 "JamDaysModel" "rows" "[I") (List.mem_of_getElem? (i := 4) rfl)) (fun _ h9 => h9) rfl dX7_restore_19 ?_
    have hPc_2 := hP.sub (ws' := [(zk, .inl (cI, 30, .inl Rk)), (zr, .inl (cI, 30, .inl Rw))]) [3, 1] rfl
    have hDc_3 := hD.sub (ws' := [(zk, .inl (cI, 30, .inl Rk)), (zr, .inl (cI, 30, .inl Rw))]) [3, 1] (by decide) rfl
    have hFc_4 := va_free (wc := [(zk, .inl (cI, 30, .inl Rk)), (zr, .inl (cI, 30, .inl Rw))]) hD hS hA [3, 1] rfl
    refine jcallWv (post := fun H => va_P D vwCl [(zk, .inl (cI, 30, .inl Rk)), (zr, .inl (cI, 30, .inl (jfl Rk Rw 30)))] H) (va_runS (As := [.ref zk, .ref zr]) (rest := []) ⟨hx, hb, hml, hown, hts⟩ (c_copy l D cI cJ zk zr 30 Rk Rw (by decide) s.heap.size) (va_cwS 2 hts gX7_restore_X7_copy rfl rfl rfl (by decide +kernel) ⟨Nat.le_of_ble_eq_true rfl, Nat.le_of_ble_eq_true rfl⟩) (jpreS hT ⟨hPc_2, hDc_3.weaken (fun _ _ _ _ => trivial), trivial⟩) rfl rfl hl.1 rfl (lv_room (Nat.le_of_ble_eq_true rfl)) dX7_restore_22 ⟨(Nat.zero_le _), (Nat.zero_le _)⟩) hS hFc_4 (fun H locs hw_r_5 hz hkq hS => ?_)
    have hP1 := hw_r_5
    obtain ⟨hP, hD⟩ := jjoin (wc := [(zk, .inl (cI, 30, .inl Rk)), (zr, .inl (cI, 30, .inl Rw))]) (wr := [(z, .inr (7, [a0, a1, .int (nI n), .int y, .int jo, .int ea, .int lo, .int lr, .ref zr, a9, a10, a11, .int tn, .ref zt, a14, a15, .int kl, .int ky, .int kj, .int ke, .int kk, .int kt, .ref zk, .ref zl, a24])), (zt, .inl (cI, 12, .inl Tt)), (zl, .inl (cI, 12, .inl Tk))]) (w1 := [(zk, .inl (cI, 30, .inl Rk)), (zr, .inl (cI, 30, .inl (jfl Rk Rw 30)))]) (ws' := [(z, .inr (7, [a0, a1, .int (nI n), .int y, .int jo, .int ea, .int lo, .int lr, .ref zr, a9, a10, a11, .int tn, .ref zt, a14, a15, .int kl, .int ky, .int kj, .int ke, .int kk, .int kt, .ref zk, .ref zl, a24])), (zr, .inl (cI, 30, .inl (jfl Rk Rw 30))), (zt, .inl (cI, 12, .inl Tt)), (zk, .inl (cI, 30, .inl Rk)), (zl, .inl (cI, 12, .inl Tk))]) hP hD hFc_4 [3, 1] [0, 2, 4] [0, 4, 1, 3, 2] rfl rfl (by decide) (by decide) (by decide) (by decide) hkq hP1 rfl rfl rfl
    refine lv_aload_n hx hb dX7_restore_25 rfl (lv_at hl 0 rfl) ?_
    refine va_get (D := D) (ci := 7) (v := .ref zl) (C := RX7) (T := TX7) (N := 25) hx hb hts (fun w h => List.mem_cons_of_mem _ (List.mem_append_right _ h)) hown hK hP 0 rfl rfl 23 (by decide) (hts (Cond.fieldLink RX7 31 "JamDaysModel" "keptTastes" "[I") (List.mem_of_getElem? (i := 5) rfl)) (fun _ h9 => h9) rfl dX7_restore_26 ?_
    refine lv_aload_n hx hb dX7_restore_29 rfl (lv_at hl 0 rfl) ?_
    refine va_get (D := D) (ci := 7) (v := .ref zt) (C := RX7) (T := TX7) (N := 25) hx hb hts (fun w h => List.mem_cons_of_mem _ (List.mem_append_right _ h)) hown hK hP 0 rfl rfl 13 (by decide) (hts (Cond.fieldLink RX7 22 "JamDaysModel" "tastes" "[I") (List.mem_of_getElem? (i := 6) rfl)) (fun _ h9 => h9) rfl dX7_restore_30 ?_
    have hPc_6 := hP.sub (ws' := [(zl, .inl (cI, 12, .inl Tk)), (zt, .inl (cI, 12, .inl Tt))]) [4, 2] rfl
    have hDc_7 := hD.sub (ws' := [(zl, .inl (cI, 12, .inl Tk)), (zt, .inl (cI, 12, .inl Tt))]) [4, 2] (by decide) rfl
    have hFc_8 := va_free (wc := [(zl, .inl (cI, 12, .inl Tk)), (zt, .inl (cI, 12, .inl Tt))]) hD hS hA [4, 2] rfl
    refine jcallWv (post := fun H => va_P D vwCl [(zl, .inl (cI, 12, .inl Tk)), (zt, .inl (cI, 12, .inl (jfl Tk Tt 12)))] H) (va_runS (As := [.ref zl, .ref zt]) (rest := []) ⟨hx, hb, hml, hown, hts⟩ (c_copy l D cI cJ zl zt 12 Tk Tt (by decide) H.size) (va_cwS 2 hts gX7_restore_X7_copy rfl rfl rfl (by decide +kernel) ⟨Nat.le_of_ble_eq_true rfl, Nat.le_of_ble_eq_true rfl⟩) (jpreS hT ⟨hPc_6, hDc_7.weaken (fun _ _ _ _ => trivial), trivial⟩) rfl rfl hl.1 rfl (lv_room (Nat.le_of_ble_eq_true rfl)) dX7_restore_33 ⟨(Nat.zero_le _), (Nat.zero_le _)⟩) hS hFc_8 (fun H locs hw_r_9 hz hkq hS => ?_)
    have hP1 := hw_r_9
    obtain ⟨hP, hD⟩ := jjoin (wc := [(zl, .inl (cI, 12, .inl Tk)), (zt, .inl (cI, 12, .inl Tt))]) (wr := [(z, .inr (7, [a0, a1, .int (nI n), .int y, .int jo, .int ea, .int lo, .int lr, .ref zr, a9, a10, a11, .int tn, .ref zt, a14, a15, .int kl, .int ky, .int kj, .int ke, .int kk, .int kt, .ref zk, .ref zl, a24])), (zr, .inl (cI, 30, .inl (jfl Rk Rw 30))), (zk, .inl (cI, 30, .inl Rk))]) (w1 := [(zl, .inl (cI, 12, .inl Tk)), (zt, .inl (cI, 12, .inl (jfl Tk Tt 12)))]) (ws' := [(z, .inr (7, [a0, a1, .int (nI n), .int y, .int jo, .int ea, .int lo, .int lr, .ref zr, a9, a10, a11, .int tn, .ref zt, a14, a15, .int kl, .int ky, .int kj, .int ke, .int kk, .int kt, .ref zk, .ref zl, a24])), (zr, .inl (cI, 30, .inl (jfl Rk Rw 30))), (zt, .inl (cI, 12, .inl (jfl Tk Tt 12))), (zk, .inl (cI, 30, .inl Rk)), (zl, .inl (cI, 12, .inl Tk))]) hP hD hFc_8 [4, 2] [0, 1, 3] [0, 1, 4, 2, 3] rfl rfl (by decide) (by decide) (by decide) (by decide) hkq hP1 rfl rfl rfl
    refine lv_aload_n hx hb dX7_restore_36 rfl (lv_at hl 0 rfl) ?_
    refine lv_aload_n hx hb dX7_restore_37 rfl (lv_at hl 0 rfl) ?_
    refine va_get (D := D) (ci := 7) (v := .int ky) (C := RX7) (T := TX7) (N := 25) hx hb hts (fun w h => List.mem_cons_of_mem _ (List.mem_append_right _ h)) hown hK hP 0 rfl rfl 17 (by decide) (hts (Cond.fieldLink RX7 172 "JamDaysModel" "keptYear" "I") (List.mem_of_getElem? (i := 7) rfl)) (fun _ h9 => h9) rfl dX7_restore_38 ?_
    refine va_put (D := D) (ci := 7) (v := .int ky) (ty := .int) (C := RX7) (T := TX7) (N := 25) hx hb hts (fun w h => List.mem_cons_of_mem _ (List.mem_append_right _ h)) tyX7 tyX7_ok nmX7 hown hK hP hD hS 0 rfl rfl 3 (by decide) (hts (Cond.fieldLink RX7 66 "JamDaysModel" "yearNow" "I") (List.mem_of_getElem? (i := 8) rfl)) (fun _ h9 => h9) rfl (by decide +kernel) rfl rfl (Nat.le_of_ble_eq_true rfl) dX7_restore_41 (fun H locs hP hD hS => ?_)
    have hP : va_P D vwCl [(z, .inr (7, [a0, a1, .int (nI n), .int ky, .int jo, .int ea, .int lo, .int lr, .ref zr, a9, a10, a11, .int tn, .ref zt, a14, a15, .int kl, .int ky, .int kj, .int ke, .int kk, .int kt, .ref zk, .ref zl, a24])), (zr, .inl (cI, 30, .inl (jfl Rk Rw 30))), (zt, .inl (cI, 12, .inl (jfl Tk Tt 12))), (zk, .inl (cI, 30, .inl Rk)), (zl, .inl (cI, 12, .inl Tk))] H := hP
    have hD : va_D A [(z, .inr (7, [a0, a1, .int (nI n), .int ky, .int jo, .int ea, .int lo, .int lr, .ref zr, a9, a10, a11, .int tn, .ref zt, a14, a15, .int kl, .int ky, .int kj, .int ke, .int kk, .int kt, .ref zk, .ref zl, a24])), (zr, .inl (cI, 30, .inl (jfl Rk Rw 30))), (zt, .inl (cI, 12, .inl (jfl Tk Tt 12))), (zk, .inl (cI, 30, .inl Rk)), (zl, .inl (cI, 12, .inl Tk))] := hD
    refine lv_aload_n hx hb dX7_restore_44 rfl (lv_at hl 0 rfl) ?_
    refine lv_aload_n hx hb dX7_restore_45 rfl (lv_at hl 0 rfl) ?_
    refine va_get (D := D) (ci := 7) (v := .int kj) (C := RX7) (T := TX7) (N := 25) hx hb hts (fun w h => List.mem_cons_of_mem _ (List.mem_append_right _ h)) hown hK hP 0 rfl rfl 18 (by decide) (hts (Cond.fieldLink RX7 175 "JamDaysModel" "keptJoy" "I") (List.mem_of_getElem? (i := 9) rfl)) (fun _ h9 => h9) rfl dX7_restore_46 ?_
    refine va_put (D := D) (ci := 7) (v := .int kj) (ty := .int) (C := RX7) (T := TX7) (N := 25) hx hb hts (fun w h => List.mem_cons_of_mem _ (List.mem_append_right _ h)) tyX7 tyX7_ok nmX7 hown hK hP hD hS 0 rfl rfl 4 (by decide) (hts (Cond.fieldLink RX7 69 "JamDaysModel" "joy" "I") (List.mem_of_getElem? (i := 10) rfl)) (fun _ h9 => h9) rfl (by decide +kernel) rfl rfl (Nat.le_of_ble_eq_true rfl) dX7_restore_49 (fun H locs hP hD hS => ?_)
    have hP : va_P D vwCl [(z, .inr (7, [a0, a1, .int (nI n), .int ky, .int kj, .int ea, .int lo, .int lr, .ref zr, a9, a10, a11, .int tn, .ref zt, a14, a15, .int kl, .int ky, .int kj, .int ke, .int kk, .int kt, .ref zk, .ref zl, a24])), (zr, .inl (cI, 30, .inl (jfl Rk Rw 30))), (zt, .inl (cI, 12, .inl (jfl Tk Tt 12))), (zk, .inl (cI, 30, .inl Rk)), (zl, .inl (cI, 12, .inl Tk))] H := hP
    have hD : va_D A [(z, .inr (7, [a0, a1, .int (nI n), .int ky, .int kj, .int ea, .int lo, .int lr, .ref zr, a9, a10, a11, .int tn, .ref zt, a14, a15, .int kl, .int ky, .int kj, .int ke, .int kk, .int kt, .ref zk, .ref zl, a24])), (zr, .inl (cI, 30, .inl (jfl Rk Rw 30))), (zt, .inl (cI, 12, .inl (jfl Tk Tt 12))), (zk, .inl (cI, 30, .inl Rk)), (zl, .inl (cI, 12, .inl Tk))] := hD
    refine lv_aload_n hx hb dX7_restore_52 rfl (lv_at hl 0 rfl) ?_
    refine lv_aload_n hx hb dX7_restore_53 rfl (lv_at hl 0 rfl) ?_
    refine va_get (D := D) (ci := 7) (v := .int ke) (C := RX7) (T := TX7) (N := 25) hx hb hts (fun w h => List.mem_cons_of_mem _ (List.mem_append_right _ h)) hown hK hP 0 rfl rfl 19 (by decide) (hts (Cond.fieldLink RX7 178 "JamDaysModel" "keptEaten" "I") (List.mem_of_getElem? (i := 11) rfl)) (fun _ h9 => h9) rfl dX7_restore_54 ?_
    refine va_put (D := D) (ci := 7) (v := .int ke) (ty := .int) (C := RX7) (T := TX7) (N := 25) hx hb hts (fun w h => List.mem_cons_of_mem _ (List.mem_append_right _ h)) tyX7 tyX7_ok nmX7 hown hK hP hD hS 0 rfl rfl 5 (by decide) (hts (Cond.fieldLink RX7 72 "JamDaysModel" "eaten" "I") (List.mem_of_getElem? (i := 12) rfl)) (fun _ h9 => h9) rfl (by decide +kernel) rfl rfl (Nat.le_of_ble_eq_true rfl) dX7_restore_57 (fun H locs hP hD hS => ?_)
    have hP : va_P D vwCl [(z, .inr (7, [a0, a1, .int (nI n), .int ky, .int kj, .int ke, .int lo, .int lr, .ref zr, a9, a10, a11, .int tn, .ref zt, a14, a15, .int kl, .int ky, .int kj, .int ke, .int kk, .int kt, .ref zk, .ref zl, a24])), (zr, .inl (cI, 30, .inl (jfl Rk Rw 30))), (zt, .inl (cI, 12, .inl (jfl Tk Tt 12))), (zk, .inl (cI, 30, .inl Rk)), (zl, .inl (cI, 12, .inl Tk))] H := hP
    have hD : va_D A [(z, .inr (7, [a0, a1, .int (nI n), .int ky, .int kj, .int ke, .int lo, .int lr, .ref zr, a9, a10, a11, .int tn, .ref zt, a14, a15, .int kl, .int ky, .int kj, .int ke, .int kk, .int kt, .ref zk, .ref zl, a24])), (zr, .inl (cI, 30, .inl (jfl Rk Rw 30))), (zt, .inl (cI, 12, .inl (jfl Tk Tt 12))), (zk, .inl (cI, 30, .inl Rk)), (zl, .inl (cI, 12, .inl Tk))] := hD
    refine lv_aload_n hx hb dX7_restore_60 rfl (lv_at hl 0 rfl) ?_
    refine lv_aload_n hx hb dX7_restore_61 rfl (lv_at hl 0 rfl) ?_
    refine va_get (D := D) (ci := 7) (v := .int kk) (C := RX7) (T := TX7) (N := 25) hx hb hts (fun w h => List.mem_cons_of_mem _ (List.mem_append_right _ h)) hown hK hP 0 rfl rfl 20 (by decide) (hts (Cond.fieldLink RX7 181 "JamDaysModel" "keptTaken" "I") (List.mem_of_getElem? (i := 13) rfl)) (fun _ h9 => h9) rfl dX7_restore_62 ?_
    refine va_put (D := D) (ci := 7) (v := .int kk) (ty := .int) (C := RX7) (T := TX7) (N := 25) hx hb hts (fun w h => List.mem_cons_of_mem _ (List.mem_append_right _ h)) tyX7 tyX7_ok nmX7 hown hK hP hD hS 0 rfl rfl 6 (by decide) (hts (Cond.fieldLink RX7 75 "JamDaysModel" "taken" "I") (List.mem_of_getElem? (i := 14) rfl)) (fun _ h9 => h9) rfl (by decide +kernel) rfl rfl (Nat.le_of_ble_eq_true rfl) dX7_restore_65 (fun H locs hP hD hS => ?_)
    have hP : va_P D vwCl [(z, .inr (7, [a0, a1, .int (nI n), .int ky, .int kj, .int ke, .int kk, .int lr, .ref zr, a9, a10, a11, .int tn, .ref zt, a14, a15, .int kl, .int ky, .int kj, .int ke, .int kk, .int kt, .ref zk, .ref zl, a24])), (zr, .inl (cI, 30, .inl (jfl Rk Rw 30))), (zt, .inl (cI, 12, .inl (jfl Tk Tt 12))), (zk, .inl (cI, 30, .inl Rk)), (zl, .inl (cI, 12, .inl Tk))] H := hP
    have hD : va_D A [(z, .inr (7, [a0, a1, .int (nI n), .int ky, .int kj, .int ke, .int kk, .int lr, .ref zr, a9, a10, a11, .int tn, .ref zt, a14, a15, .int kl, .int ky, .int kj, .int ke, .int kk, .int kt, .ref zk, .ref zl, a24])), (zr, .inl (cI, 30, .inl (jfl Rk Rw 30))), (zt, .inl (cI, 12, .inl (jfl Tk Tt 12))), (zk, .inl (cI, 30, .inl Rk)), (zl, .inl (cI, 12, .inl Tk))] := hD
    refine lv_aload_n hx hb dX7_restore_68 rfl (lv_at hl 0 rfl) ?_
    refine lv_aload_n hx hb dX7_restore_69 rfl (lv_at hl 0 rfl) ?_
    refine va_get (D := D) (ci := 7) (v := .int kt) (C := RX7) (T := TX7) (N := 25) hx hb hts (fun w h => List.mem_cons_of_mem _ (List.mem_append_right _ h)) hown hK hP 0 rfl rfl 21 (by decide) (hts (Cond.fieldLink RX7 184 "JamDaysModel" "keptTasted" "I") (List.mem_of_getElem? (i := 15) rfl)) (fun _ h9 => h9) rfl dX7_restore_70 ?_
    refine va_put (D := D) (ci := 7) (v := .int kt) (ty := .int) (C := RX7) (T := TX7) (N := 25) hx hb hts (fun w h => List.mem_cons_of_mem _ (List.mem_append_right _ h)) tyX7 tyX7_ok nmX7 hown hK hP hD hS 0 rfl rfl 12 (by decide) (hts (Cond.fieldLink RX7 78 "JamDaysModel" "tastedMany" "I") (List.mem_of_getElem? (i := 16) rfl)) (fun _ h9 => h9) rfl (by decide +kernel) rfl rfl (Nat.le_of_ble_eq_true rfl) dX7_restore_73 (fun H locs hP hD hS => ?_)
    have hP : va_P D vwCl [(z, .inr (7, [a0, a1, .int (nI n), .int ky, .int kj, .int ke, .int kk, .int lr, .ref zr, a9, a10, a11, .int kt, .ref zt, a14, a15, .int kl, .int ky, .int kj, .int ke, .int kk, .int kt, .ref zk, .ref zl, a24])), (zr, .inl (cI, 30, .inl (jfl Rk Rw 30))), (zt, .inl (cI, 12, .inl (jfl Tk Tt 12))), (zk, .inl (cI, 30, .inl Rk)), (zl, .inl (cI, 12, .inl Tk))] H := hP
    have hD : va_D A [(z, .inr (7, [a0, a1, .int (nI n), .int ky, .int kj, .int ke, .int kk, .int lr, .ref zr, a9, a10, a11, .int kt, .ref zt, a14, a15, .int kl, .int ky, .int kj, .int ke, .int kk, .int kt, .ref zk, .ref zl, a24])), (zr, .inl (cI, 30, .inl (jfl Rk Rw 30))), (zt, .inl (cI, 12, .inl (jfl Tk Tt 12))), (zk, .inl (cI, 30, .inl Rk)), (zl, .inl (cI, 12, .inl Tk))] := hD
    refine lv_aload_n hx hb dX7_restore_76 rfl (lv_at hl 0 rfl) ?_
    refine va_get (D := D) (ci := 7) (v := .int ky) (C := RX7) (T := TX7) (N := 25) hx hb hts (fun w h => List.mem_cons_of_mem _ (List.mem_append_right _ h)) hown hK hP 0 rfl rfl 3 (by decide) (hts (Cond.fieldLink RX7 66 "JamDaysModel" "yearNow" "I") (List.mem_of_getElem? (i := 8) rfl)) (fun _ h9 => h9) rfl dX7_restore_77 ?_
    exact W.iret (v := ky) hx hb hr (fun t ht hW => ⟨⟨ky, ky, rfl, rfl, by dsimp only; rw [ht]; exact ⟨rfl, hP⟩⟩, hS.F ht⟩) hS.2.2 dX7_restore_80
  · skip
    exact absurd h9 c_1

theorem mland {a : Nat} : lN a &&& (2147483647 : Int64) = lN (a % 2147483648) := by
  have h : ∀ a b : Nat, lN a &&& lN b = lN (a &&& b) := by
    intro a b
    apply Int64.toBitVec_inj.1
    show BitVec.ofNat 64 a &&& BitVec.ofNat 64 b = BitVec.ofNat 64 (a &&& b)
    apply BitVec.eq_of_getLsbD_eq
    intro i hi
    simp [hi]
  rw [show (2147483647 : Int64) = lN 2147483647 from rfl, h, show (2147483647 : Nat) = 2 ^ 31 - 1 from rfl, Nat.and_two_pow_sub_one_eq_mod]
theorem msd_eq {q : Nat} (h : q < 2147483648) : ((1103515245 : Int64) * (nI q).toInt64 + 12345 &&& 2147483647).toInt32 = nI (jsd q) := by
  rw [nI_l h, show (1103515245 : Int64) = lN 1103515245 from rfl, show (12345 : Int64) = lN 12345 from rfl, lN_mul, lN_add, mland, lN_i]
  rfl
set_option maxHeartbeats 4000000 in
set_option maxRecDepth 100000 in
theorem c_mdraw (l : Launch) (D : va_G) (cI cJ : ClassId) (z : Nat) (q : Nat) (of : Nat) (a0 : Value) (a1 : Value) (a2 : Value) (a3 : Value) (a4 : Value) (a5 : Value) (a6 : Value) (a7 : Value) (a8 : Value) (a9 : Value) (a10 : Value) (a11 : Value) (a12 : Value) (a13 : Value) (a15 : Value) (a16 : Value) (a17 : Value) (a18 : Value) (a19 : Value) (a20 : Value) (a21 : Value) (a22 : Value) (a23 : Value) (a24 : Value) (hq : q < 2147483648) (h0 : 0 < of) (h6 : of ≤ 6) : jWi l yX7_draw wsX7_draw ({ frames := 0, cells := 0, slots := 0, locals := 0 }) 0 0 [.ref z, .int (nI of)] D cI cJ [(z, .inr (7, [a0, a1, a2, a3, a4, a5, a6, a7, a8, a9, a10, a11, a12, a13, .int (nI q), a15, a16, a17, a18, a19, a20, a21, a22, a23, a24]))] (fun H => True) (fun r H => r = nI (jsd q / 65536 % of) ∧ va_P D vwCl [(z, .inr (7, [a0, a1, a2, a3, a4, a5, a6, a7, a8, a9, a10, a11, a12, a13, .int (nI (jsd q)), a15, a16, a17, a18, a19, a20, a21, a22, a23, a24]))] H) := by
  intro sz
  refine Met.ofW (cc := cX7_draw) (maxL := 2) (ret := (some .int)) (by decide) rfl ?_
  intro p e s m args below meth c s₁ B hml hv
  obtain ⟨rfl, hsz, hT, hP, hD0, _⟩ := hv
  have hK := hT.1
  have hx := B.exec
  have hb := B.bytes
  have hr := B.returns
  have hts := atoms_spec (ws := wsX7_draw) B.pre
  have hown : s.vm.findClass RX7 = some m.cls := findClass_of_methodNamed B.named
  have hlocks := B.notSynchronized
  subst hsz
  have hD := hD0.self (sz := s.heap.size)
  generalize hAe : va_A [(z, .inr (7, [a0, a1, a2, a3, a4, a5, a6, a7, a8, a9, a10, a11, a12, a13, .int (nI q), a15, a16, a17, a18, a19, a20, a21, a22, a23, a24]))] s.heap.size = A at hD ⊢
  have hA : ∀ q : Nat, s.heap.size ≤ q → A q := fun q h => by rw [← hAe]; exact Or.inr h
  have hS : va_S A s.heap s.heap [] := va_S.rf
  have hl := lv_entry ([.ref z, .int (nI of)] : List Value) (n := 2) (Nat.le_of_ble_eq_true rfl)
  rw [lg_entry_eq]
  generalize (lg_sl ([.ref z, .int (nI of)]) ++ List.replicate (2 - (lg_sl ([.ref z, .int (nI of)])).length) Slot.unset).toArray = ls at hl ⊢
  have hl : lv_has ls 2 [(0, .ref z), (1, .int (nI of))] := hl
  refine lv_aload_n hx hb dX7_draw_0 rfl (lv_at hl 0 rfl) ?_
  refine lv_ldc2 (v := 1103515245) hx hb hown (hts (Cond.constantLong RX7 151 (1103515245)) (List.mem_of_getElem? (i := 1) rfl)) dX7_draw_1 ?_
  refine lv_aload_n hx hb dX7_draw_4 rfl (lv_at hl 0 rfl) ?_
  refine va_get (D := D) (ci := 7) (v := .int (nI q)) (C := RX7) (T := TX7) (N := 25) hx hb hts (fun w h => List.mem_cons_of_mem _ (List.mem_append_right _ h)) hown hK hP 0 rfl rfl 14 (by decide) (hts (Cond.fieldLink RX7 153 "JamDaysModel" "seedNow" "I") (List.mem_of_getElem? (i := 2) rfl)) (fun _ h9 => h9) rfl dX7_draw_5 ?_
  refine lv_i2l (v := (nI q).toInt64) hx hb dX7_draw_8 rfl ?_
  refine lv_lmul hx hb dX7_draw_9 ?_
  refine lv_ldc2 (v := 12345) hx hb hown (hts (Cond.constantLong RX7 156 (12345)) (List.mem_of_getElem? (i := 3) rfl)) dX7_draw_10 ?_
  refine lv_ladd hx hb dX7_draw_13 ?_
  refine lv_ldc2 (v := 2147483647) hx hb hown (hts (Cond.constantLong RX7 158 (2147483647)) (List.mem_of_getElem? (i := 4) rfl)) dX7_draw_14 ?_
  refine lv_land hx hb dX7_draw_17 ?_
  refine lv_l2i (v := (((1103515245 * ((nI q).toInt64)) + 12345) &&& 2147483647).toInt32) hx hb dX7_draw_18 rfl ?_
  refine jv_as (y := nI (jsd q)) (msd_eq hq) ?_
  refine va_put (D := D) (ci := 7) (v := .int (nI (jsd q))) (ty := .int) (C := RX7) (T := TX7) (N := 25) hx hb hts (fun w h => List.mem_cons_of_mem _ (List.mem_append_right _ h)) tyX7 tyX7_ok nmX7 hown hK hP hD hS 0 rfl rfl 14 (by decide) (hts (Cond.fieldLink RX7 153 "JamDaysModel" "seedNow" "I") (List.mem_of_getElem? (i := 2) rfl)) (fun _ h9 => h9) rfl (by decide +kernel) rfl rfl (Nat.le_of_ble_eq_true rfl) dX7_draw_19 (fun H locs hP hD hS => ?_)
  have hP : va_P D vwCl [(z, .inr (7, [a0, a1, a2, a3, a4, a5, a6, a7, a8, a9, a10, a11, a12, a13, .int (nI (jsd q)), a15, a16, a17, a18, a19, a20, a21, a22, a23, a24]))] H := hP
  have hD : va_D A [(z, .inr (7, [a0, a1, a2, a3, a4, a5, a6, a7, a8, a9, a10, a11, a12, a13, .int (nI (jsd q)), a15, a16, a17, a18, a19, a20, a21, a22, a23, a24]))] := hD
  refine lv_aload_n hx hb dX7_draw_22 rfl (lv_at hl 0 rfl) ?_
  refine va_get (D := D) (ci := 7) (v := .int (nI (jsd q))) (C := RX7) (T := TX7) (N := 25) hx hb hts (fun w h => List.mem_cons_of_mem _ (List.mem_append_right _ h)) hown hK hP 0 rfl rfl 14 (by decide) (hts (Cond.fieldLink RX7 153 "JamDaysModel" "seedNow" "I") (List.mem_of_getElem? (i := 2) rfl)) (fun _ h9 => h9) rfl dX7_draw_23 ?_
  refine lv_ldc (v := 65536) hx hb hown (hts (Cond.constant RX7 160 (65536)) (List.mem_of_getElem? (i := 5) rfl)) dX7_draw_26 ?_
  refine lv_idiv hx hb dX7_draw_28 (by decide) ?_
  refine jv_as (y := nI (jsd q / 65536)) (pk_div (a := jsd q) (d := 65536) (by have := jsd_lt q; omega) (by decide) (by decide)) ?_
  refine lv_iload_n hx hb dX7_draw_29 rfl (lv_at hl 1 rfl) ?_
  refine lv_irem hx hb dX7_draw_30 (nI_ne0 h0 (by omega)) ?_
  refine jv_as (y := nI (jsd q / 65536 % of)) (pk_rem (by have := jsd_lt q; omega) h0 (by omega)) ?_
  exact W.iret (v := nI (jsd q / 65536 % of)) hx hb hr (fun t ht hW => ⟨⟨nI (jsd q / 65536 % of), nI (jsd q / 65536 % of), rfl, rfl, by dsimp only; rw [ht]; exact ⟨rfl, hP⟩⟩, hS.F ht⟩) hS.2.2 dX7_draw_31

set_option maxHeartbeats 4000000 in
set_option maxRecDepth 100000 in
theorem c_say (l : Launch) (D : va_G) (cI cJ : ClassId) (z : Nat) (a0 : Value) (a1 : Value) (a2 : Value) (a3 : Value) (a4 : Value) (a5 : Value) (a6 : Value) (a7 : Value) (a8 : Value) (a9 : Value) (a10 : Value) (a11 : Value) (a12 : Value) (a13 : Value) (a14 : Value) (a15 : Value) (a16 : Value) (a17 : Value) (a18 : Value) (a19 : Value) (a20 : Value) (a21 : Value) (a22 : Value) (a23 : Value) (hs : Int64) (v : Int64)  : jWv l yX7_say wsX7_say ({ frames := 0, cells := 0, slots := 0, locals := 0 }) 0 0 [.ref z, .long v] D cI cJ [(z, .inr (7, [a0, a1, a2, a3, a4, a5, a6, a7, a8, a9, a10, a11, a12, a13, a14, a15, a16, a17, a18, a19, a20, a21, a22, a23, .long hs]))] (fun H => True) (fun H => va_P D vwCl [(z, .inr (7, [a0, a1, a2, a3, a4, a5, a6, a7, a8, a9, a10, a11, a12, a13, a14, a15, a16, a17, a18, a19, a20, a21, a22, a23, .long (31 * hs + v)]))] H) := by
  intro sz
  refine Met.ofW (cc := cX7_say) (maxL := 3) (ret := none) (by decide) rfl ?_
  intro p e s m args below meth c s₁ B hml hv
  obtain ⟨rfl, hsz, hT, hP, hD0, _⟩ := hv
  have hK := hT.1
  have hx := B.exec
  have hb := B.bytes
  have hr := B.returns
  have hts := atoms_spec (ws := wsX7_say) B.pre
  have hown : s.vm.findClass RX7 = some m.cls := findClass_of_methodNamed B.named
  have hlocks := B.notSynchronized
  subst hsz
  have hD := hD0.self (sz := s.heap.size)
  generalize hAe : va_A [(z, .inr (7, [a0, a1, a2, a3, a4, a5, a6, a7, a8, a9, a10, a11, a12, a13, a14, a15, a16, a17, a18, a19, a20, a21, a22, a23, .long hs]))] s.heap.size = A at hD ⊢
  have hA : ∀ q : Nat, s.heap.size ≤ q → A q := fun q h => by rw [← hAe]; exact Or.inr h
  have hS : va_S A s.heap s.heap [] := va_S.rf
  have hl := lv_entry ([.ref z, .long v] : List Value) (n := 3) (Nat.le_of_ble_eq_true rfl)
  rw [lg_entry_eq]
  generalize (lg_sl ([.ref z, .long v]) ++ List.replicate (3 - (lg_sl ([.ref z, .long v])).length) Slot.unset).toArray = ls at hl ⊢
  have hl : lv_has ls 3 [(0, .ref z), (1, .long v)] := hl
  refine lv_aload_n hx hb dX7_say_0 rfl (lv_at hl 0 rfl) ?_
  refine lv_ldc2 (v := 31) hx hb hown (hts (Cond.constantLong RX7 193 (31)) (List.mem_of_getElem? (i := 1) rfl)) dX7_say_1 ?_
  refine lv_aload_n hx hb dX7_say_4 rfl (lv_at hl 0 rfl) ?_
  refine va_get (D := D) (ci := 7) (v := .long hs) (C := RX7) (T := TX7) (N := 25) hx hb hts (fun w h => List.mem_cons_of_mem _ (List.mem_append_right _ h)) hown hK hP 0 rfl rfl 24 (by decide) (hts (Cond.fieldLink RX7 195 "JamDaysModel" "hash" "J") (List.mem_of_getElem? (i := 2) rfl)) (fun _ h9 => h9) rfl dX7_say_5 ?_
  refine lv_lmul hx hb dX7_say_8 ?_
  refine lv_lload_n hx hb dX7_say_9 rfl (lv_at hl 1 rfl) ?_
  refine lv_ladd hx hb dX7_say_10 ?_
  refine va_put (D := D) (ci := 7) (v := .long ((31 * hs) + v)) (ty := .long) (C := RX7) (T := TX7) (N := 25) hx hb hts (fun w h => List.mem_cons_of_mem _ (List.mem_append_right _ h)) tyX7 tyX7_ok nmX7 hown hK hP hD hS 0 rfl rfl 24 (by decide) (hts (Cond.fieldLink RX7 195 "JamDaysModel" "hash" "J") (List.mem_of_getElem? (i := 2) rfl)) (fun _ h9 => h9) rfl (by decide +kernel) rfl rfl (Nat.le_of_ble_eq_true rfl) dX7_say_11 (fun H locs hP hD hS => ?_)
  have hP : va_P D vwCl [(z, .inr (7, [a0, a1, a2, a3, a4, a5, a6, a7, a8, a9, a10, a11, a12, a13, a14, a15, a16, a17, a18, a19, a20, a21, a22, a23, .long ((31 * hs) + v)]))] H := hP
  have hD : va_D A [(z, .inr (7, [a0, a1, a2, a3, a4, a5, a6, a7, a8, a9, a10, a11, a12, a13, a14, a15, a16, a17, a18, a19, a20, a21, a22, a23, .long ((31 * hs) + v)]))] := hD
  exact W.vret hx hb hr (fun t ht hW => ⟨⟨(), rfl, trivial, by dsimp only; rw [ht]; exact hP⟩, hS.F ht⟩) hS.2.2 dX7_say_14

