set_option maxHeartbeats 4000000 in
set_option maxRecDepth 100000 in
theorem c_letter_out (l : Launch) (D : va_G) (cI cJ : ClassId) (x : Nat) (p0 : Int32) (h9 : p0 < 1 ∨ 126 < p0) : jRi l yX6_letter wsX6_letter ({ frames := 0, cells := 0, slots := 0, locals := 0 }) [.ref x, .int p0] D cI cJ (fun H => True) (fun r => r = -102) := by
  intro sz
  refine Met.ofW (cc := cX6_letter) (maxL := 2) (ret := (some .int)) (by decide) rfl ?_
  intro p e s m args below meth c s₁ B hml hv
  obtain ⟨rfl, hsz, hT, _⟩ := hv
  have hK := hT.1
  have hx := B.exec
  have hb := B.bytes
  have hr := B.returns
  have hts := atoms_spec (ws := wsX6_letter) B.pre
  have hown : s.vm.findClass RX6 = some m.cls := findClass_of_methodNamed B.named
  have hlocks := B.notSynchronized
  subst hsz
  generalize hAe : va_A [] s.heap.size = A
  have hA : ∀ q : Nat, s.heap.size ≤ q → A q := fun q h => by rw [← hAe]; exact Or.inr h
  have hS : va_S A s.heap s.heap [] := va_S.rf
  have hl := lv_entry ([.ref x, .int p0] : List Value) (n := 2) (Nat.le_of_ble_eq_true rfl)
  rw [lg_entry_eq]
  generalize (lg_sl ([.ref x, .int p0]) ++ List.replicate (2 - (lg_sl ([.ref x, .int p0])).length) Slot.unset).toArray = ls at hl ⊢
  have hl : lv_has ls 2 [(0, .ref x), (1, .int p0)] := hl
  refine lv_iload_n hx hb dX6_letter_0 rfl (lv_at hl 1 rfl) ?_
  refine lv_iconst (v := 1) hx hb dX6_letter_1 (by decide) ?_
  refine lv_icmp_lt (tgt := 11) hx hb dX6_letter_2 (by decide) (fun c_1 => ?_) (fun c_1 => ?_)
  · skip
    refine lv_bipush (v := (-102)) hx hb dX6_letter_11 (by decide) ?_
    exact W.iret (v := (-102)) hx hb hr (fun t ht hW => ⟨⟨(-102), (), rfl, rfl, trivial⟩, hS.F ht⟩) hS.2.2 dX6_letter_13
  · skip
    refine lv_iload_n hx hb dX6_letter_5 rfl (lv_at hl 1 rfl) ?_
    refine lv_bipush (v := 126) hx hb dX6_letter_6 (by decide) ?_
    refine lv_icmp_le (tgt := 14) hx hb dX6_letter_8 (by decide) (fun c_2 => ?_) (fun c_2 => ?_)
    · skip
      exact (h9.elim (fun h => c_1 h) (fun h => jlt_le h c_2)).elim
    · skip
      refine lv_bipush (v := (-102)) hx hb dX6_letter_11 (by decide) ?_
      exact W.iret (v := (-102)) hx hb hr (fun t ht hW => ⟨⟨(-102), (), rfl, rfl, trivial⟩, hS.F ht⟩) hS.2.2 dX6_letter_13

set_option maxHeartbeats 4000000 in
set_option maxRecDepth 100000 in
theorem c_letter_full (l : Launch) (D : va_G) (cI cJ : ClassId) (x : Nat) (xp : Nat) (pn : Nat) (a2 : Value) (a3 : Value) (a4 : Value) (a5 : Value) (a6 : Value) (a7 : Value) (a8 : Value) (a9 : Value) (a10 : Value) (a11 : Value) (pg : Nat → Int32) (p0 : Int32) (h1 : 1 ≤ p0) (h2 : p0 ≤ 126) (hp : pn = 25) : jRi l yX6_letter wsX6_letter ({ frames := 0, cells := 0, slots := 0, locals := 0 }) [.ref x, .int p0] D cI cJ (fun H => va_P D vwCl [(x, .inr (6, [.ref xp, .int (nI pn), a2, a3, a4, a5, a6, a7, a8, a9, a10, a11])), (xp, .inl (cI, 25, .inl pg))] H) (fun r => r = -104) := by
  intro sz
  refine Met.ofW (cc := cX6_letter) (maxL := 2) (ret := (some .int)) (by decide) rfl ?_
  intro p e s m args below meth c s₁ B hml hv
  obtain ⟨rfl, hsz, hT, hPr⟩ := hv
  have hK := hT.1
  have hx := B.exec
  have hb := B.bytes
  have hr := B.returns
  have hts := atoms_spec (ws := wsX6_letter) B.pre
  have hown : s.vm.findClass RX6 = some m.cls := findClass_of_methodNamed B.named
  have hlocks := B.notSynchronized
  subst hsz
  generalize hAe : va_A [] s.heap.size = A
  have hA : ∀ q : Nat, s.heap.size ≤ q → A q := fun q h => by rw [← hAe]; exact Or.inr h
  have hS : va_S A s.heap s.heap [] := va_S.rf
  have hl := lv_entry ([.ref x, .int p0] : List Value) (n := 2) (Nat.le_of_ble_eq_true rfl)
  rw [lg_entry_eq]
  generalize (lg_sl ([.ref x, .int p0]) ++ List.replicate (2 - (lg_sl ([.ref x, .int p0])).length) Slot.unset).toArray = ls at hl ⊢
  have hl : lv_has ls 2 [(0, .ref x), (1, .int p0)] := hl
  refine lv_iload_n hx hb dX6_letter_0 rfl (lv_at hl 1 rfl) ?_
  refine lv_iconst (v := 1) hx hb dX6_letter_1 (by decide) ?_
  refine lv_icmp_lt (tgt := 11) hx hb dX6_letter_2 (by decide) (fun c_1 => ?_) (fun c_1 => ?_)
  · skip
    exact (jlt_le c_1 h1).elim
  · skip
    refine lv_iload_n hx hb dX6_letter_5 rfl (lv_at hl 1 rfl) ?_
    refine lv_bipush (v := 126) hx hb dX6_letter_6 (by decide) ?_
    refine lv_icmp_le (tgt := 14) hx hb dX6_letter_8 (by decide) (fun c_2 => ?_) (fun c_2 => ?_)
    · skip
      refine lv_aload_n hx hb dX6_letter_14 rfl (lv_at hl 0 rfl) ?_
      refine va_get (D := D) (ci := 6) (v := .int (nI pn)) (C := RX6) (T := TX6) (N := 12) hx hb hts (fun w h => List.mem_cons_of_mem _ (List.mem_append_right _ h)) hown hK hPr 0 rfl rfl 1 (by decide) (hts (Cond.fieldLink RX6 13 "JamDays" "pageSize" "I") (List.mem_of_getElem? (i := 1) rfl)) (fun _ h9 => h9) rfl dX6_letter_15 ?_
      refine lv_if_lt (tgt := 30) hx hb dX6_letter_18 (by decide) (fun c_3 => ?_) (fun c_3 => ?_)
      · skip
        replace c_3 : pn < 0 := (nI_ltI (a := pn) (b := 0) (by omega) (by omega)).mp c_3
        exact absurd c_3 (by omega)
      · skip
        replace c_3 : ¬ pn < 0 := fun h => c_3 ((nI_ltI (a := pn) (b := 0) (by omega) (by omega)).mpr h)
        refine lv_aload_n hx hb dX6_letter_21 rfl (lv_at hl 0 rfl) ?_
        refine va_get (D := D) (ci := 6) (v := .int (nI pn)) (C := RX6) (T := TX6) (N := 12) hx hb hts (fun w h => List.mem_cons_of_mem _ (List.mem_append_right _ h)) hown hK hPr 0 rfl rfl 1 (by decide) (hts (Cond.fieldLink RX6 13 "JamDays" "pageSize" "I") (List.mem_of_getElem? (i := 1) rfl)) (fun _ h9 => h9) rfl dX6_letter_22 ?_
        refine lv_bipush (v := 25) hx hb dX6_letter_25 (by decide) ?_
        refine lv_icmp_lt (tgt := 33) hx hb dX6_letter_27 (by decide) (fun c_4 => ?_) (fun c_4 => ?_)
        · skip
          replace c_4 : pn < 25 := (nI_ltI (a := pn) (b := 25) (by omega) (by omega)).mp c_4
          exact absurd c_4 (by omega)
        · skip
          replace c_4 : ¬ pn < 25 := fun h => c_4 ((nI_ltI (a := pn) (b := 25) (by omega) (by omega)).mpr h)
          refine lv_bipush (v := (-104)) hx hb dX6_letter_30 (by decide) ?_
          exact W.iret (v := (-104)) hx hb hr (fun t ht hW => ⟨⟨(-104), (), rfl, rfl, trivial⟩, hS.F ht⟩) hS.2.2 dX6_letter_32
    · skip
      exact absurd h2 c_2

set_option maxHeartbeats 4000000 in
set_option maxRecDepth 100000 in
theorem c_letter_ok (l : Launch) (D : va_G) (cI cJ : ClassId) (x : Nat) (xp : Nat) (pn : Nat) (a2 : Value) (a3 : Value) (a4 : Value) (a5 : Value) (a6 : Value) (a7 : Value) (a8 : Value) (a9 : Value) (a10 : Value) (a11 : Value) (pg : Nat → Int32) (p0 : Int32) (h1 : 1 ≤ p0) (h2 : p0 ≤ 126) (hp : pn < 25) : jWi l yX6_letter wsX6_letter ({ frames := 0, cells := 0, slots := 0, locals := 0 }) 0 0 [.ref x, .int p0] D cI cJ [(x, .inr (6, [.ref xp, .int (nI pn), a2, a3, a4, a5, a6, a7, a8, a9, a10, a11])), (xp, .inl (cI, 25, .inl pg))] (fun H => True) (fun r H => r = nI (pn + 1) ∧ va_P D vwCl [(x, .inr (6, [.ref xp, .int (nI (pn + 1)), a2, a3, a4, a5, a6, a7, a8, a9, a10, a11])), (xp, .inl (cI, 25, .inl (upd pg pn p0)))] H) := by
  intro sz
  refine Met.ofW (cc := cX6_letter) (maxL := 2) (ret := (some .int)) (by decide) rfl ?_
  intro p e s m args below meth c s₁ B hml hv
  obtain ⟨rfl, hsz, hT, hP, hD0, _⟩ := hv
  have hK := hT.1
  have hx := B.exec
  have hb := B.bytes
  have hr := B.returns
  have hts := atoms_spec (ws := wsX6_letter) B.pre
  have hown : s.vm.findClass RX6 = some m.cls := findClass_of_methodNamed B.named
  have hlocks := B.notSynchronized
  subst hsz
  have hD := hD0.self (sz := s.heap.size)
  generalize hAe : va_A [(x, .inr (6, [.ref xp, .int (nI pn), a2, a3, a4, a5, a6, a7, a8, a9, a10, a11])), (xp, .inl (cI, 25, .inl pg))] s.heap.size = A at hD ⊢
  have hA : ∀ q : Nat, s.heap.size ≤ q → A q := fun q h => by rw [← hAe]; exact Or.inr h
  have hS : va_S A s.heap s.heap [] := va_S.rf
  have hl := lv_entry ([.ref x, .int p0] : List Value) (n := 2) (Nat.le_of_ble_eq_true rfl)
  rw [lg_entry_eq]
  generalize (lg_sl ([.ref x, .int p0]) ++ List.replicate (2 - (lg_sl ([.ref x, .int p0])).length) Slot.unset).toArray = ls at hl ⊢
  have hl : lv_has ls 2 [(0, .ref x), (1, .int p0)] := hl
  refine lv_iload_n hx hb dX6_letter_0 rfl (lv_at hl 1 rfl) ?_
  refine lv_iconst (v := 1) hx hb dX6_letter_1 (by decide) ?_
  refine lv_icmp_lt (tgt := 11) hx hb dX6_letter_2 (by decide) (fun c_1 => ?_) (fun c_1 => ?_)
  · skip
    exact (jlt_le c_1 h1).elim
  · skip
    refine lv_iload_n hx hb dX6_letter_5 rfl (lv_at hl 1 rfl) ?_
    refine lv_bipush (v := 126) hx hb dX6_letter_6 (by decide) ?_
    refine lv_icmp_le (tgt := 14) hx hb dX6_letter_8 (by decide) (fun c_2 => ?_) (fun c_2 => ?_)
    · skip
      refine lv_aload_n hx hb dX6_letter_14 rfl (lv_at hl 0 rfl) ?_
      refine va_get (D := D) (ci := 6) (v := .int (nI pn)) (C := RX6) (T := TX6) (N := 12) hx hb hts (fun w h => List.mem_cons_of_mem _ (List.mem_append_right _ h)) hown hK hP 0 rfl rfl 1 (by decide) (hts (Cond.fieldLink RX6 13 "JamDays" "pageSize" "I") (List.mem_of_getElem? (i := 1) rfl)) (fun _ h9 => h9) rfl dX6_letter_15 ?_
      refine lv_if_lt (tgt := 30) hx hb dX6_letter_18 (by decide) (fun c_3 => ?_) (fun c_3 => ?_)
      · skip
        replace c_3 : pn < 0 := (nI_ltI (a := pn) (b := 0) (by omega) (by omega)).mp c_3
        exact absurd c_3 (by omega)
      · skip
        replace c_3 : ¬ pn < 0 := fun h => c_3 ((nI_ltI (a := pn) (b := 0) (by omega) (by omega)).mpr h)
        refine lv_aload_n hx hb dX6_letter_21 rfl (lv_at hl 0 rfl) ?_
        refine va_get (D := D) (ci := 6) (v := .int (nI pn)) (C := RX6) (T := TX6) (N := 12) hx hb hts (fun w h => List.mem_cons_of_mem _ (List.mem_append_right _ h)) hown hK hP 0 rfl rfl 1 (by decide) (hts (Cond.fieldLink RX6 13 "JamDays" "pageSize" "I") (List.mem_of_getElem? (i := 1) rfl)) (fun _ h9 => h9) rfl dX6_letter_22 ?_
        refine lv_bipush (v := 25) hx hb dX6_letter_25 (by decide) ?_
        refine lv_icmp_lt (tgt := 33) hx hb dX6_letter_27 (by decide) (fun c_4 => ?_) (fun c_4 => ?_)
        · skip
          replace c_4 : pn < 25 := (nI_ltI (a := pn) (b := 25) (by omega) (by omega)).mp c_4
          refine lv_aload_n hx hb dX6_letter_33 rfl (lv_at hl 0 rfl) ?_
          refine va_get (D := D) (ci := 6) (v := .ref xp) (C := RX6) (T := TX6) (N := 12) hx hb hts (fun w h => List.mem_cons_of_mem _ (List.mem_append_right _ h)) hown hK hP 0 rfl rfl 0 (by decide) (hts (Cond.fieldLink RX6 9 "JamDays" "page" "[I") (List.mem_of_getElem? (i := 2) rfl)) (fun _ h9 => h9) rfl dX6_letter_34 ?_
          refine lv_aload_n hx hb dX6_letter_37 rfl (lv_at hl 0 rfl) ?_
          refine va_get (D := D) (ci := 6) (v := .int (nI pn)) (C := RX6) (T := TX6) (N := 12) hx hb hts (fun w h => List.mem_cons_of_mem _ (List.mem_append_right _ h)) hown hK hP 0 rfl rfl 1 (by decide) (hts (Cond.fieldLink RX6 13 "JamDays" "pageSize" "I") (List.mem_of_getElem? (i := 1) rfl)) (fun _ h9 => h9) rfl dX6_letter_38 ?_
          refine lv_iload_n hx hb dX6_letter_41 rfl (lv_at hl 1 rfl) ?_
          refine jv_ast (k := pn) (x := p0) hx hb hK hP hD hS 1 0 rfl rfl (by omega) (by decide) dX6_letter_42 (fun H locs hP hD hS => ?_)
          have hP : va_P D vwCl [(x, .inr (6, [.ref xp, .int (nI pn), a2, a3, a4, a5, a6, a7, a8, a9, a10, a11])), (xp, .inl (cI, 25, .inl (upd pg pn p0)))] H := hP
          have hD : va_D A [(x, .inr (6, [.ref xp, .int (nI pn), a2, a3, a4, a5, a6, a7, a8, a9, a10, a11])), (xp, .inl (cI, 25, .inl (upd pg pn p0)))] := hD
          refine lv_aload_n hx hb dX6_letter_43 rfl (lv_at hl 0 rfl) ?_
          refine lv_dup hx hb dX6_letter_44 rfl ?_
          refine va_get (D := D) (ci := 6) (v := .int (nI pn)) (C := RX6) (T := TX6) (N := 12) hx hb hts (fun w h => List.mem_cons_of_mem _ (List.mem_append_right _ h)) hown hK hP 0 rfl rfl 1 (by decide) (hts (Cond.fieldLink RX6 13 "JamDays" "pageSize" "I") (List.mem_of_getElem? (i := 1) rfl)) (fun _ h9 => h9) rfl dX6_letter_45 ?_
          refine lv_iconst (v := 1) hx hb dX6_letter_48 (by decide) ?_
          refine lv_iadd hx hb dX6_letter_49 ?_
          refine jv_as (y := nI (pn + 1)) (nI_add pn 1) ?_
          refine va_put (D := D) (ci := 6) (v := .int (nI (pn + 1))) (ty := .int) (C := RX6) (T := TX6) (N := 12) hx hb hts (fun w h => List.mem_cons_of_mem _ (List.mem_append_right _ h)) tyX6 tyX6_ok nmX6 hown hK hP hD hS 0 rfl rfl 1 (by decide) (hts (Cond.fieldLink RX6 13 "JamDays" "pageSize" "I") (List.mem_of_getElem? (i := 1) rfl)) (fun _ h9 => h9) rfl (by decide +kernel) rfl rfl (Nat.le_of_ble_eq_true rfl) dX6_letter_50 (fun H locs hP hD hS => ?_)
          have hP : va_P D vwCl [(x, .inr (6, [.ref xp, .int (nI (pn + 1)), a2, a3, a4, a5, a6, a7, a8, a9, a10, a11])), (xp, .inl (cI, 25, .inl (upd pg pn p0)))] H := hP
          have hD : va_D A [(x, .inr (6, [.ref xp, .int (nI (pn + 1)), a2, a3, a4, a5, a6, a7, a8, a9, a10, a11])), (xp, .inl (cI, 25, .inl (upd pg pn p0)))] := hD
          refine lv_aload_n hx hb dX6_letter_53 rfl (lv_at hl 0 rfl) ?_
          refine va_get (D := D) (ci := 6) (v := .int (nI (pn + 1))) (C := RX6) (T := TX6) (N := 12) hx hb hts (fun w h => List.mem_cons_of_mem _ (List.mem_append_right _ h)) hown hK hP 0 rfl rfl 1 (by decide) (hts (Cond.fieldLink RX6 13 "JamDays" "pageSize" "I") (List.mem_of_getElem? (i := 1) rfl)) (fun _ h9 => h9) rfl dX6_letter_54 ?_
          exact W.iret (v := nI (pn + 1)) hx hb hr (fun t ht hW => ⟨⟨nI (pn + 1), nI (pn + 1), rfl, rfl, by dsimp only; rw [ht]; exact ⟨rfl, hP⟩⟩, hS.F ht⟩) hS.2.2 dX6_letter_57
        · skip
          replace c_4 : ¬ pn < 25 := fun h => c_4 ((nI_ltI (a := pn) (b := 25) (by omega) (by omega)).mpr h)
          exact absurd hp c_4
    · skip
      exact absurd h2 c_2

set_option maxHeartbeats 4000000 in
set_option maxRecDepth 100000 in
theorem c_eat_no (l : Launch) (D : va_G) (cI cJ : ClassId) (x : Nat) (xj : Nat) (n : Nat) (a0 : Value) (a1 : Value) (a4 : Value) (a5 : Value) (a6 : Value) (a7 : Value) (a8 : Value) (a9 : Value) (a10 : Value) (a11 : Value) (jr : Nat → Option Nat) (p0 : Int32) (h9 : p0 < 0 ∨ nI n ≤ p0) : jRi l yX6_eat wsX6_eat ({ frames := 1, cells := 0, slots := 0, locals := 21 }) [.ref x, .int p0] D cI cJ (fun H => va_P D vwCl [(x, .inr (6, [a0, a1, .ref xj, .int (nI n), a4, a5, a6, a7, a8, a9, a10, a11])), (xj, .inl (cJ, 6, .inr (.inr (.inr (.inr jr)))))] H) (fun r => r = -101) := by
  intro sz
  refine Met.ofW (cc := cX6_eat) (maxL := 3) (ret := (some .int)) (by decide) rfl ?_
  intro p e s m args below meth c s₁ B hml hv
  obtain ⟨rfl, hsz, hT, hPr⟩ := hv
  have hK := hT.1
  have hx := B.exec
  have hb := B.bytes
  have hr := B.returns
  have hts := atoms_spec (ws := wsX6_eat) B.pre
  have hown : s.vm.findClass RX6 = some m.cls := findClass_of_methodNamed B.named
  have hlocks := B.notSynchronized
  subst hsz
  generalize hAe : va_A [] s.heap.size = A
  have hA : ∀ q : Nat, s.heap.size ≤ q → A q := fun q h => by rw [← hAe]; exact Or.inr h
  have hS : va_S A s.heap s.heap [] := va_S.rf
  have hl := lv_entry ([.ref x, .int p0] : List Value) (n := 3) (Nat.le_of_ble_eq_true rfl)
  rw [lg_entry_eq]
  generalize (lg_sl ([.ref x, .int p0]) ++ List.replicate (3 - (lg_sl ([.ref x, .int p0])).length) Slot.unset).toArray = ls at hl ⊢
  have hl : lv_has ls 3 [(0, .ref x), (1, .int p0)] := hl
  refine lv_aload_n hx hb dX6_eat_0 rfl (lv_at hl 0 rfl) ?_
  refine lv_iload_n hx hb dX6_eat_1 rfl (lv_at hl 1 rfl) ?_
  have hPc_1 := hPr.sub (ws' := [(x, .inr (6, [a0, a1, .ref xj, .int (nI n), a4, a5, a6, a7, a8, a9, a10, a11])), (xj, .inl (cJ, 6, .inr (.inr (.inr (.inr jr)))))]) [0, 1] rfl
  refine jcallq (va_runV (As := [.int p0]) (rest := []) ⟨hx, hb, hml, hown, hts⟩ (c_find_no l D cI cJ x xj n a0 a1 a4 a5 a6 a7 a8 a9 a10 a11 jr p0 h9 s.heap.size) (cwV 1 hts gX6_eat_X6_find rfl rfl rfl (by decide +kernel) ⟨Nat.le_of_ble_eq_true rfl, Nat.le_of_ble_eq_true rfl⟩) (jpreV hT (va_recv hK hPr (ci := 6) (q0 := 0) rfl rfl) hPc_1) rfl rfl hl.1 rfl (lv_room (Nat.le_of_ble_eq_true rfl)) dX6_eat_2 ⟨(Nat.zero_le _), (Nat.zero_le _)⟩) hS hA (fun r_2 H locs hw_r_2 hkq hS => ?_)
  try dsimp only at hw_r_2
  have hPr := jkeep hPr hkq
  subst hw_r_2
  try dsimp only [va_rf]
  refine lv_ifnonnullN hx hb dX6_eat_5 ?_
  refine lv_bipush (v := (-101)) hx hb dX6_eat_8 (by decide) ?_
  exact W.iret (v := (-101)) hx hb hr (fun t ht hW => ⟨⟨(-101), (), rfl, rfl, trivial⟩, hS.F ht⟩) hS.2.2 dX6_eat_10

set_option maxHeartbeats 4000000 in
set_option maxRecDepth 100000 in
theorem c_wasps_no (l : Launch) (D : va_G) (cI cJ : ClassId) (x : Nat) (xj : Nat) (n : Nat) (a0 : Value) (a1 : Value) (a4 : Value) (a5 : Value) (a6 : Value) (a7 : Value) (a8 : Value) (a9 : Value) (a10 : Value) (a11 : Value) (jr : Nat → Option Nat) (p0 : Int32) (h9 : p0 < 0 ∨ nI n ≤ p0) : jRi l yX6_wasps wsX6_wasps ({ frames := 1, cells := 0, slots := 0, locals := 21 }) [.ref x, .int p0] D cI cJ (fun H => va_P D vwCl [(x, .inr (6, [a0, a1, .ref xj, .int (nI n), a4, a5, a6, a7, a8, a9, a10, a11])), (xj, .inl (cJ, 6, .inr (.inr (.inr (.inr jr)))))] H) (fun r => r = -101) := by
  intro sz
  refine Met.ofW (cc := cX6_wasps) (maxL := 2) (ret := (some .int)) (by decide) rfl ?_
  intro p e s m args below meth c s₁ B hml hv
  obtain ⟨rfl, hsz, hT, hPr⟩ := hv
  have hK := hT.1
  have hx := B.exec
  have hb := B.bytes
  have hr := B.returns
  have hts := atoms_spec (ws := wsX6_wasps) B.pre
  have hown : s.vm.findClass RX6 = some m.cls := findClass_of_methodNamed B.named
  have hlocks := B.notSynchronized
  subst hsz
  generalize hAe : va_A [] s.heap.size = A
  have hA : ∀ q : Nat, s.heap.size ≤ q → A q := fun q h => by rw [← hAe]; exact Or.inr h
  have hS : va_S A s.heap s.heap [] := va_S.rf
  have hl := lv_entry ([.ref x, .int p0] : List Value) (n := 2) (Nat.le_of_ble_eq_true rfl)
  rw [lg_entry_eq]
  generalize (lg_sl ([.ref x, .int p0]) ++ List.replicate (2 - (lg_sl ([.ref x, .int p0])).length) Slot.unset).toArray = ls at hl ⊢
  have hl : lv_has ls 2 [(0, .ref x), (1, .int p0)] := hl
  refine lv_aload_n hx hb dX6_wasps_0 rfl (lv_at hl 0 rfl) ?_
  refine lv_iload_n hx hb dX6_wasps_1 rfl (lv_at hl 1 rfl) ?_
  have hPc_1 := hPr.sub (ws' := [(x, .inr (6, [a0, a1, .ref xj, .int (nI n), a4, a5, a6, a7, a8, a9, a10, a11])), (xj, .inl (cJ, 6, .inr (.inr (.inr (.inr jr)))))]) [0, 1] rfl
  refine jcallq (va_runV (As := [.int p0]) (rest := []) ⟨hx, hb, hml, hown, hts⟩ (c_find_no l D cI cJ x xj n a0 a1 a4 a5 a6 a7 a8 a9 a10 a11 jr p0 h9 s.heap.size) (cwV 1 hts gX6_wasps_X6_find rfl rfl rfl (by decide +kernel) ⟨Nat.le_of_ble_eq_true rfl, Nat.le_of_ble_eq_true rfl⟩) (jpreV hT (va_recv hK hPr (ci := 6) (q0 := 0) rfl rfl) hPc_1) rfl rfl hl.1 rfl (lv_room (Nat.le_of_ble_eq_true rfl)) dX6_wasps_2 ⟨(Nat.zero_le _), (Nat.zero_le _)⟩) hS hA (fun r_2 H locs hw_r_2 hkq hS => ?_)
  try dsimp only at hw_r_2
  have hPr := jkeep hPr hkq
  subst hw_r_2
  try dsimp only [va_rf]
  refine lv_ifnonnullN hx hb dX6_wasps_5 ?_
  refine lv_bipush (v := (-101)) hx hb dX6_wasps_8 (by decide) ?_
  exact W.iret (v := (-101)) hx hb hr (fun t ht hW => ⟨⟨(-101), (), rfl, rfl, trivial⟩, hS.F ht⟩) hS.2.2 dX6_wasps_10

set_option maxHeartbeats 4000000 in
set_option maxRecDepth 100000 in
theorem c_eat_ok (l : Launch) (D : va_G) (cI cJ : ClassId) (x : Nat) (xj : Nat) (xn : Nat) (ns : Nat) (ne : Nat) (n7 : Nat) (n8 : Nat) (n : Nat) (a0 : Value) (a1 : Value) (a5 : Value) (a6 : Value) (a7 : Value) (a8 : Value) (a9 : Value) (a10 : Value) (a11 : Value) (jr : Nat → Option Nat) (jk : Nat → Nat) (jg : Nat → Int32) (js : Nat → Int32) (jm : Nat → Int32) (fw : Nat → Int32 → Int32) (y : Int32) (ea : Int32) (lo : Int32) (jo : Int32) (ta : Int32) (sp : Nat → Int32) (en : Nat → Int32) (tY : Nat → Int32) (tW : Nat → Int32) (j : Nat) (hj : j < n) (hn6 : n ≤ 6) (hfw : ∀ i : Nat, i < n → ∀ z : Int32, cfw (jk i) (jg i) (jm i) z = fw i z) (h0 : 0 < sp j) : jWi l yX6_eat wsX6_eat ({ frames := 4, cells := 0, slots := 0, locals := 88 }) 0 0 [.ref x, .int (nI j)] D cI cJ [(x, .inr (6, [a0, a1, .ref xj, .int (nI n), .ref xn, a5, a6, a7, a8, a9, a10, a11])), (xj, .inl (cJ, 6, .inr (.inr (.inr (.inr jr))))), (xn, .inr (1, [.int y, .int ea, .int lo, .int jo, .int ta, .ref ns, .ref ne, .ref n7, .ref n8])), (ns, .inl (cI, 6, .inl sp)), (ne, .inl (cI, 6, .inl en)), (n7, .inl (cI, 6, .inl tY)), (n8, .inl (cI, 6, .inl tW))] (fun H => jJ D n jr jk jg js jm H) (fun r H => r = fw j y - en j + 100 ∧ va_P D vwCl [(x, .inr (6, [a0, a1, .ref xj, .int (nI n), .ref xn, a5, a6, a7, a8, a9, a10, a11])), (xj, .inl (cJ, 6, .inr (.inr (.inr (.inr jr))))), (xn, .inr (1, [.int y, .int (ea + 1), .int lo, .int (jo + (fw j y - en j)), .int ta, .ref ns, .ref ne, .ref n7, .ref n8])), (ns, .inl (cI, 6, .inl (upd sp j (sp j - 1)))), (ne, .inl (cI, 6, .inl (upd en j (en j + 1)))), (n7, .inl (cI, 6, .inl tY)), (n8, .inl (cI, 6, .inl tW))] H) := by
  intro sz
  refine Met.ofW (cc := cX6_eat) (maxL := 3) (ret := (some .int)) (by decide) rfl ?_
  intro p e s m args below meth c s₁ B hml hv
  obtain ⟨rfl, hsz, hT, hP, hD0, hJ⟩ := hv
  have hK := hT.1
  have hx := B.exec
  have hb := B.bytes
  have hr := B.returns
  have hts := atoms_spec (ws := wsX6_eat) B.pre
  have hown : s.vm.findClass RX6 = some m.cls := findClass_of_methodNamed B.named
  have hlocks := B.notSynchronized
  subst hsz
  have hD := hD0.self (sz := s.heap.size)
  generalize hAe : va_A [(x, .inr (6, [a0, a1, .ref xj, .int (nI n), .ref xn, a5, a6, a7, a8, a9, a10, a11])), (xj, .inl (cJ, 6, .inr (.inr (.inr (.inr jr))))), (xn, .inr (1, [.int y, .int ea, .int lo, .int jo, .int ta, .ref ns, .ref ne, .ref n7, .ref n8])), (ns, .inl (cI, 6, .inl sp)), (ne, .inl (cI, 6, .inl en)), (n7, .inl (cI, 6, .inl tY)), (n8, .inl (cI, 6, .inl tW))] s.heap.size = A at hD ⊢
  have hA : ∀ q : Nat, s.heap.size ≤ q → A q := fun q h => by rw [← hAe]; exact Or.inr h
  have hS : va_S A s.heap s.heap [] := va_S.rf
  have hl := lv_entry ([.ref x, .int (nI j)] : List Value) (n := 3) (Nat.le_of_ble_eq_true rfl)
  rw [lg_entry_eq]
  generalize (lg_sl ([.ref x, .int (nI j)]) ++ List.replicate (3 - (lg_sl ([.ref x, .int (nI j)])).length) Slot.unset).toArray = ls at hl ⊢
  have hl : lv_has ls 3 [(0, .ref x), (1, .int (nI j))] := hl
  refine lv_aload_n hx hb dX6_eat_0 rfl (lv_at hl 0 rfl) ?_
  refine lv_iload_n hx hb dX6_eat_1 rfl (lv_at hl 1 rfl) ?_
  have hPc_1 := hP.sub (ws' := [(x, .inr (6, [a0, a1, .ref xj, .int (nI n), .ref xn, a5, a6, a7, a8, a9, a10, a11])), (xj, .inl (cJ, 6, .inr (.inr (.inr (.inr jr)))))]) [0, 1] rfl
  refine jcallq (va_runV (As := [.int (nI j)]) (rest := []) ⟨hx, hb, hml, hown, hts⟩ (c_find_ok l D cI cJ x xj n a0 a1 (.ref xn) a5 a6 a7 a8 a9 a10 a11 jr j (by omega) (by omega) s.heap.size) (cwV 1 hts gX6_eat_X6_find rfl rfl rfl (by decide +kernel) ⟨Nat.le_of_ble_eq_true rfl, Nat.le_of_ble_eq_true rfl⟩) (jpreV hT (va_recv hK hP (ci := 6) (q0 := 0) rfl rfl) hPc_1) rfl rfl hl.1 rfl (lv_room (Nat.le_of_ble_eq_true rfl)) dX6_eat_2 ⟨(Nat.zero_le _), (Nat.zero_le _)⟩) hS hA (fun r_2 H locs hw_r_2 hkq hS => ?_)
  try dsimp only at hw_r_2
  have hP := jkeep hP hkq
  have hJ := hJ.kept hkq
  obtain ⟨hk5, a, ea9, hat⟩ := hJ j (by omega)
  rw [ea9] at hw_r_2
  subst hw_r_2
  try dsimp only [va_rf]
  refine lv_ifnonnull (tgt := 11) hx hb dX6_eat_5 (by decide) ?_
  refine lv_aload_n hx hb dX6_eat_11 rfl (lv_at hl 0 rfl) ?_
  refine lv_iload_n hx hb dX6_eat_12 rfl (lv_at hl 1 rfl) ?_
  have hPc_3 := hP.sub (ws' := [(x, .inr (6, [a0, a1, .ref xj, .int (nI n), .ref xn, a5, a6, a7, a8, a9, a10, a11])), (xj, .inl (cJ, 6, .inr (.inr (.inr (.inr jr))))), (xn, .inr (1, [.int y, .int ea, .int lo, .int jo, .int ta, .ref ns, .ref ne, .ref n7, .ref n8])), (ne, .inl (cI, 6, .inl en))]) [0, 1, 2, 4] rfl
  refine jcalli (va_runV (As := [.int (nI j)]) (rest := []) ⟨hx, hb, hml, hown, hts⟩ (c_nextWorth l D cI cJ x xj xn ne n a0 a1 a5 a6 a7 a8 a9 a10 a11 (.int ea) (.int lo) (.int jo) (.int ta) (.ref ns) (.ref n7) (.ref n8) jr jk jg js jm fw en y j hj hn6 hfw H.size) (cwV 1 hts gX6_eat_X6_nextWorth rfl rfl rfl (by decide +kernel) ⟨Nat.le_of_ble_eq_true rfl, Nat.le_of_ble_eq_true rfl⟩) (jpreV hT (va_recv hK hP (ci := 6) (q0 := 0) rfl rfl) ⟨hPc_3, hJ⟩) rfl rfl hl.1 rfl (lv_room (Nat.le_of_ble_eq_true rfl)) dX6_eat_13 ⟨(Nat.zero_le _), (Nat.zero_le _)⟩) hS hA (fun r_4 H locs hw_r_4 hkq hS => ?_)
  try dsimp only at hw_r_4
  have hP := jkeep hP hkq
  have hJ := hJ.kept hkq
  subst hw_r_4
  refine lv_istore_n (lv' := [(2, .int (fw j y - en j)), (0, .ref x), (1, .int (nI j))]) hx hb dX6_eat_16 rfl hl (by decide) rfl (fun ls hl => ?_)
  refine lv_aload_n hx hb dX6_eat_17 rfl (lv_at hl 1 rfl) ?_
  refine va_get (D := D) (ci := 6) (v := .ref xn) (C := RX6) (T := TX6) (N := 12) hx hb hts (fun w h => List.mem_cons_of_mem _ (List.mem_append_left _ (List.mem_append_left _ (List.mem_append_left _ (List.mem_append_left _ (List.mem_append_left _ (List.mem_append_left _ (List.mem_append_right _ h)))))))) hown hK hP 0 rfl rfl 4 (by decide) (hts (Cond.fieldLink RX6 29 "JamDays" "now" "LJamDays$Days;") (List.mem_of_getElem? (i := 1) rfl)) (fun _ h9 => h9) rfl dX6_eat_18 ?_
  refine lv_iload_n hx hb dX6_eat_21 rfl (lv_at hl 2 rfl) ?_
  refine lv_iload_n hx hb dX6_eat_22 rfl (lv_at hl 0 rfl) ?_
  have hPc_5 := hP.sub (ws' := [(xn, .inr (1, [.int y, .int ea, .int lo, .int jo, .int ta, .ref ns, .ref ne, .ref n7, .ref n8])), (ns, .inl (cI, 6, .inl sp)), (ne, .inl (cI, 6, .inl en)), (n7, .inl (cI, 6, .inl tY)), (n8, .inl (cI, 6, .inl tW))]) [2, 3, 4, 5, 6] rfl
  have hDc_6 := hD.sub (ws' := [(xn, .inr (1, [.int y, .int ea, .int lo, .int jo, .int ta, .ref ns, .ref ne, .ref n7, .ref n8])), (ns, .inl (cI, 6, .inl sp)), (ne, .inl (cI, 6, .inl en)), (n7, .inl (cI, 6, .inl tY)), (n8, .inl (cI, 6, .inl tW))]) [2, 3, 4, 5, 6] (by decide) rfl
  have hFc_7 := va_free (wc := [(xn, .inr (1, [.int y, .int ea, .int lo, .int jo, .int ta, .ref ns, .ref ne, .ref n7, .ref n8])), (ns, .inl (cI, 6, .inl sp)), (ne, .inl (cI, 6, .inl en)), (n7, .inl (cI, 6, .inl tY)), (n8, .inl (cI, 6, .inl tW))]) hD hS hA [2, 3, 4, 5, 6] rfl
  refine jcallWi (post := fun r H => r = (if 0 < sp j then 1 else 0) ∧ va_P D vwCl [(xn, .inr (1, [.int y, .int (if 0 < sp j then ea + 1 else ea), .int lo, .int (if 0 < sp j then jo + (fw j y - en j) else jo), .int ta, .ref ns, .ref ne, .ref n7, .ref n8])), (ns, .inl (cI, 6, .inl (if 0 < sp j then upd sp j (sp j - 1) else sp))), (ne, .inl (cI, 6, .inl (if 0 < sp j then upd en j (en j + 1) else en))), (n7, .inl (cI, 6, .inl tY)), (n8, .inl (cI, 6, .inl tW))] H) (va_runV (As := [.int (nI j), .int (fw j y - en j)]) (rest := []) ⟨hx, hb, hml, hown, hts⟩ (c_eatSpoon l D cI cJ xn ns ne n7 n8 y ea lo jo ta sp en tY tW j (fw j y - en j) (by omega) H.size) (cwV 2 hts gX6_eat_X1_eatSpoon rfl rfl rfl (by decide +kernel) ⟨Nat.le_of_ble_eq_true rfl, Nat.le_of_ble_eq_true rfl⟩) (jpreV hT (va_recv hK hP (ci := 1) (q0 := 2) rfl rfl) ⟨hPc_5, hDc_6.weaken (fun _ _ _ _ => trivial), trivial⟩) rfl rfl hl.1 rfl (lv_room (Nat.le_of_ble_eq_true rfl)) dX6_eat_23 ⟨(Nat.zero_le _), (Nat.zero_le _)⟩) hS hFc_7 (fun r_8 H locs hw_r_8 hz hkq hS => ?_)
  obtain ⟨hr9, hP1⟩ := hw_r_8
  obtain ⟨hP, hD⟩ := jjoin (wc := [(xn, .inr (1, [.int y, .int ea, .int lo, .int jo, .int ta, .ref ns, .ref ne, .ref n7, .ref n8])), (ns, .inl (cI, 6, .inl sp)), (ne, .inl (cI, 6, .inl en)), (n7, .inl (cI, 6, .inl tY)), (n8, .inl (cI, 6, .inl tW))]) (wr := [(x, .inr (6, [a0, a1, .ref xj, .int (nI n), .ref xn, a5, a6, a7, a8, a9, a10, a11])), (xj, .inl (cJ, 6, .inr (.inr (.inr (.inr jr)))))]) (w1 := [(xn, .inr (1, [.int y, .int (if 0 < sp j then ea + 1 else ea), .int lo, .int (if 0 < sp j then jo + (fw j y - en j) else jo), .int ta, .ref ns, .ref ne, .ref n7, .ref n8])), (ns, .inl (cI, 6, .inl (if 0 < sp j then upd sp j (sp j - 1) else sp))), (ne, .inl (cI, 6, .inl (if 0 < sp j then upd en j (en j + 1) else en))), (n7, .inl (cI, 6, .inl tY)), (n8, .inl (cI, 6, .inl tW))]) (ws' := [(x, .inr (6, [a0, a1, .ref xj, .int (nI n), .ref xn, a5, a6, a7, a8, a9, a10, a11])), (xj, .inl (cJ, 6, .inr (.inr (.inr (.inr jr))))), (xn, .inr (1, [.int y, .int (if 0 < sp j then ea + 1 else ea), .int lo, .int (if 0 < sp j then jo + (fw j y - en j) else jo), .int ta, .ref ns, .ref ne, .ref n7, .ref n8])), (ns, .inl (cI, 6, .inl (if 0 < sp j then upd sp j (sp j - 1) else sp))), (ne, .inl (cI, 6, .inl (if 0 < sp j then upd en j (en j + 1) else en))), (n7, .inl (cI, 6, .inl tY)), (n8, .inl (cI, 6, .inl tW))]) hP hD hFc_7 [2, 3, 4, 5, 6] [0, 1] [0, 1, 2, 3, 4, 5, 6] rfl rfl (by decide) (by decide) (by decide) (by decide) hkq hP1 rfl rfl rfl
  simp only [if_pos h0] at hr9
  subst hr9
  simp only [if_pos h0] at hP hD
  have hP : va_P D vwCl [(x, .inr (6, [a0, a1, .ref xj, .int (nI n), .ref xn, a5, a6, a7, a8, a9, a10, a11])), (xj, .inl (cJ, 6, .inr (.inr (.inr (.inr jr))))), (xn, .inr (1, [.int y, .int (ea + 1), .int lo, .int (jo + (fw j y - en j)), .int ta, .ref ns, .ref ne, .ref n7, .ref n8])), (ns, .inl (cI, 6, .inl (upd sp j (sp j - 1)))), (ne, .inl (cI, 6, .inl (upd en j (en j + 1)))), (n7, .inl (cI, 6, .inl tY)), (n8, .inl (cI, 6, .inl tW))] H := hP
  have hD : va_D A [(x, .inr (6, [a0, a1, .ref xj, .int (nI n), .ref xn, a5, a6, a7, a8, a9, a10, a11])), (xj, .inl (cJ, 6, .inr (.inr (.inr (.inr jr))))), (xn, .inr (1, [.int y, .int (ea + 1), .int lo, .int (jo + (fw j y - en j)), .int ta, .ref ns, .ref ne, .ref n7, .ref n8])), (ns, .inl (cI, 6, .inl (upd sp j (sp j - 1)))), (ne, .inl (cI, 6, .inl (upd en j (en j + 1)))), (n7, .inl (cI, 6, .inl tY)), (n8, .inl (cI, 6, .inl tW))] := hD
  refine lv_if_eq (tgt := 36) hx hb dX6_eat_26 (by decide) (fun c_9 => ?_) (fun c_9 => ?_)
  · skip
    exact absurd c_9 (by decide)
  · skip
    refine lv_iload_n hx hb dX6_eat_29 rfl (lv_at hl 0 rfl) ?_
    refine lv_bipush (v := 100) hx hb dX6_eat_30 (by decide) ?_
    refine lv_iadd hx hb dX6_eat_32 ?_
    refine lv_goto (tgt := 38) hx hb dX6_eat_33 (by decide) ?_
    exact W.iret (v := (fw j y - en j) + 100) hx hb hr (fun t ht hW => ⟨⟨(fw j y - en j) + 100, (fw j y - en j) + 100, rfl, rfl, by dsimp only; rw [ht]; exact ⟨rfl, hP⟩⟩, hS.F ht⟩) hS.2.2 dX6_eat_38

set_option maxHeartbeats 4000000 in
set_option maxRecDepth 100000 in
theorem c_wasps_ok (l : Launch) (D : va_G) (cI cJ : ClassId) (x : Nat) (xj : Nat) (xn : Nat) (ns : Nat) (ne : Nat) (n7 : Nat) (n8 : Nat) (n : Nat) (a0 : Value) (a1 : Value) (a5 : Value) (a6 : Value) (a7 : Value) (a8 : Value) (a9 : Value) (a10 : Value) (a11 : Value) (jr : Nat → Option Nat) (jk : Nat → Nat) (jg : Nat → Int32) (js : Nat → Int32) (jm : Nat → Int32) (y : Int32) (ea : Int32) (lo : Int32) (jo : Int32) (ta : Int32) (sp : Nat → Int32) (en : Nat → Int32) (tY : Nat → Int32) (tW : Nat → Int32) (j : Nat) (hj : j < n) (hn6 : n ≤ 6) (h0 : 0 < sp j) : jWi l yX6_wasps wsX6_wasps ({ frames := 2, cells := 0, slots := 0, locals := 42 }) 0 0 [.ref x, .int (nI j)] D cI cJ [(x, .inr (6, [a0, a1, .ref xj, .int (nI n), .ref xn, a5, a6, a7, a8, a9, a10, a11])), (xj, .inl (cJ, 6, .inr (.inr (.inr (.inr jr))))), (xn, .inr (1, [.int y, .int ea, .int lo, .int jo, .int ta, .ref ns, .ref ne, .ref n7, .ref n8])), (ns, .inl (cI, 6, .inl sp)), (ne, .inl (cI, 6, .inl en)), (n7, .inl (cI, 6, .inl tY)), (n8, .inl (cI, 6, .inl tW))] (fun H => jJ D n jr jk jg js jm H) (fun r H => r = sp j - 1 ∧ va_P D vwCl [(x, .inr (6, [a0, a1, .ref xj, .int (nI n), .ref xn, a5, a6, a7, a8, a9, a10, a11])), (xj, .inl (cJ, 6, .inr (.inr (.inr (.inr jr))))), (xn, .inr (1, [.int y, .int ea, .int (lo + 1), .int jo, .int ta, .ref ns, .ref ne, .ref n7, .ref n8])), (ns, .inl (cI, 6, .inl (upd sp j (sp j - 1)))), (ne, .inl (cI, 6, .inl en)), (n7, .inl (cI, 6, .inl tY)), (n8, .inl (cI, 6, .inl tW))] H) := by
  intro sz
  refine Met.ofW (cc := cX6_wasps) (maxL := 2) (ret := (some .int)) (by decide) rfl ?_
  intro p e s m args below meth c s₁ B hml hv
  obtain ⟨rfl, hsz, hT, hP, hD0, hJ⟩ := hv
  have hK := hT.1
  have hx := B.exec
  have hb := B.bytes
  have hr := B.returns
  have hts := atoms_spec (ws := wsX6_wasps) B.pre
  have hown : s.vm.findClass RX6 = some m.cls := findClass_of_methodNamed B.named
  have hlocks := B.notSynchronized
  subst hsz
  have hD := hD0.self (sz := s.heap.size)
  generalize hAe : va_A [(x, .inr (6, [a0, a1, .ref xj, .int (nI n), .ref xn, a5, a6, a7, a8, a9, a10, a11])), (xj, .inl (cJ, 6, .inr (.inr (.inr (.inr jr))))), (xn, .inr (1, [.int y, .int ea, .int lo, .int jo, .int ta, .ref ns, .ref ne, .ref n7, .ref n8])), (ns, .inl (cI, 6, .inl sp)), (ne, .inl (cI, 6, .inl en)), (n7, .inl (cI, 6, .inl tY)), (n8, .inl (cI, 6, .inl tW))] s.heap.size = A at hD ⊢
  have hA : ∀ q : Nat, s.heap.size ≤ q → A q := fun q h => by rw [← hAe]; exact Or.inr h
  have hS : va_S A s.heap s.heap [] := va_S.rf
  have hl := lv_entry ([.ref x, .int (nI j)] : List Value) (n := 2) (Nat.le_of_ble_eq_true rfl)
  rw [lg_entry_eq]
  generalize (lg_sl ([.ref x, .int (nI j)]) ++ List.replicate (2 - (lg_sl ([.ref x, .int (nI j)])).length) Slot.unset).toArray = ls at hl ⊢
  have hl : lv_has ls 2 [(0, .ref x), (1, .int (nI j))] := hl
  refine lv_aload_n hx hb dX6_wasps_0 rfl (lv_at hl 0 rfl) ?_
  refine lv_iload_n hx hb dX6_wasps_1 rfl (lv_at hl 1 rfl) ?_
  have hPc_1 := hP.sub (ws' := [(x, .inr (6, [a0, a1, .ref xj, .int (nI n), .ref xn, a5, a6, a7, a8, a9, a10, a11])), (xj, .inl (cJ, 6, .inr (.inr (.inr (.inr jr)))))]) [0, 1] rfl
  refine jcallq (va_runV (As := [.int (nI j)]) (rest := []) ⟨hx, hb, hml, hown, hts⟩ (c_find_ok l D cI cJ x xj n a0 a1 (.ref xn) a5 a6 a7 a8 a9 a10 a11 jr j (by omega) (by omega) s.heap.size) (cwV 1 hts gX6_wasps_X6_find rfl rfl rfl (by decide +kernel) ⟨Nat.le_of_ble_eq_true rfl, Nat.le_of_ble_eq_true rfl⟩) (jpreV hT (va_recv hK hP (ci := 6) (q0 := 0) rfl rfl) hPc_1) rfl rfl hl.1 rfl (lv_room (Nat.le_of_ble_eq_true rfl)) dX6_wasps_2 ⟨(Nat.zero_le _), (Nat.zero_le _)⟩) hS hA (fun r_2 H locs hw_r_2 hkq hS => ?_)
  try dsimp only at hw_r_2
  have hP := jkeep hP hkq
  have hJ := hJ.kept hkq
  obtain ⟨hk5, a, ea9, hat⟩ := hJ j (by omega)
  rw [ea9] at hw_r_2
  subst hw_r_2
  try dsimp only [va_rf]
  refine lv_ifnonnull (tgt := 11) hx hb dX6_wasps_5 (by decide) ?_
  refine lv_aload_n hx hb dX6_wasps_11 rfl (lv_at hl 0 rfl) ?_
  refine va_get (D := D) (ci := 6) (v := .ref xn) (C := RX6) (T := TX6) (N := 12) hx hb hts (fun w h => List.mem_cons_of_mem _ (List.mem_append_left _ (List.mem_append_right _ h))) hown hK hP 0 rfl rfl 4 (by decide) (hts (Cond.fieldLink RX6 29 "JamDays" "now" "LJamDays$Days;") (List.mem_of_getElem? (i := 1) rfl)) (fun _ h9 => h9) rfl dX6_wasps_12 ?_
  refine lv_iload_n hx hb dX6_wasps_15 rfl (lv_at hl 1 rfl) ?_
  have hPc_3 := hP.sub (ws' := [(xn, .inr (1, [.int y, .int ea, .int lo, .int jo, .int ta, .ref ns, .ref ne, .ref n7, .ref n8])), (ns, .inl (cI, 6, .inl sp)), (ne, .inl (cI, 6, .inl en)), (n7, .inl (cI, 6, .inl tY)), (n8, .inl (cI, 6, .inl tW))]) [2, 3, 4, 5, 6] rfl
  have hDc_4 := hD.sub (ws' := [(xn, .inr (1, [.int y, .int ea, .int lo, .int jo, .int ta, .ref ns, .ref ne, .ref n7, .ref n8])), (ns, .inl (cI, 6, .inl sp)), (ne, .inl (cI, 6, .inl en)), (n7, .inl (cI, 6, .inl tY)), (n8, .inl (cI, 6, .inl tW))]) [2, 3, 4, 5, 6] (by decide) rfl
  have hFc_5 := va_free (wc := [(xn, .inr (1, [.int y, .int ea, .int lo, .int jo, .int ta, .ref ns, .ref ne, .ref n7, .ref n8])), (ns, .inl (cI, 6, .inl sp)), (ne, .inl (cI, 6, .inl en)), (n7, .inl (cI, 6, .inl tY)), (n8, .inl (cI, 6, .inl tW))]) hD hS hA [2, 3, 4, 5, 6] rfl
  refine jcallWi (post := fun r H => r = (if 0 < sp j then 1 else 0) ∧ va_P D vwCl [(xn, .inr (1, [.int y, .int ea, .int (if 0 < sp j then lo + 1 else lo), .int jo, .int ta, .ref ns, .ref ne, .ref n7, .ref n8])), (ns, .inl (cI, 6, .inl (if 0 < sp j then upd sp j (sp j - 1) else sp))), (ne, .inl (cI, 6, .inl en)), (n7, .inl (cI, 6, .inl tY)), (n8, .inl (cI, 6, .inl tW))] H) (va_runV (As := [.int (nI j)]) (rest := []) ⟨hx, hb, hml, hown, hts⟩ (c_loseSpoon l D cI cJ xn ns ne n7 n8 y ea lo jo ta sp en tY tW j (by omega) H.size) (cwV 1 hts gX6_wasps_X1_loseSpoon rfl rfl rfl (by decide +kernel) ⟨Nat.le_of_ble_eq_true rfl, Nat.le_of_ble_eq_true rfl⟩) (jpreV hT (va_recv hK hP (ci := 1) (q0 := 2) rfl rfl) ⟨hPc_3, hDc_4.weaken (fun _ _ _ _ => trivial), trivial⟩) rfl rfl hl.1 rfl (lv_room (Nat.le_of_ble_eq_true rfl)) dX6_wasps_16 ⟨(Nat.zero_le _), (Nat.zero_le _)⟩) hS hFc_5 (fun r_6 H locs hw_r_6 hz hkq hS => ?_)
  obtain ⟨hr9, hP1⟩ := hw_r_6
  obtain ⟨hP, hD⟩ := jjoin (wc := [(xn, .inr (1, [.int y, .int ea, .int lo, .int jo, .int ta, .ref ns, .ref ne, .ref n7, .ref n8])), (ns, .inl (cI, 6, .inl sp)), (ne, .inl (cI, 6, .inl en)), (n7, .inl (cI, 6, .inl tY)), (n8, .inl (cI, 6, .inl tW))]) (wr := [(x, .inr (6, [a0, a1, .ref xj, .int (nI n), .ref xn, a5, a6, a7, a8, a9, a10, a11])), (xj, .inl (cJ, 6, .inr (.inr (.inr (.inr jr)))))]) (w1 := [(xn, .inr (1, [.int y, .int ea, .int (if 0 < sp j then lo + 1 else lo), .int jo, .int ta, .ref ns, .ref ne, .ref n7, .ref n8])), (ns, .inl (cI, 6, .inl (if 0 < sp j then upd sp j (sp j - 1) else sp))), (ne, .inl (cI, 6, .inl en)), (n7, .inl (cI, 6, .inl tY)), (n8, .inl (cI, 6, .inl tW))]) (ws' := [(x, .inr (6, [a0, a1, .ref xj, .int (nI n), .ref xn, a5, a6, a7, a8, a9, a10, a11])), (xj, .inl (cJ, 6, .inr (.inr (.inr (.inr jr))))), (xn, .inr (1, [.int y, .int ea, .int (if 0 < sp j then lo + 1 else lo), .int jo, .int ta, .ref ns, .ref ne, .ref n7, .ref n8])), (ns, .inl (cI, 6, .inl (if 0 < sp j then upd sp j (sp j - 1) else sp))), (ne, .inl (cI, 6, .inl en)), (n7, .inl (cI, 6, .inl tY)), (n8, .inl (cI, 6, .inl tW))]) hP hD hFc_5 [2, 3, 4, 5, 6] [0, 1] [0, 1, 2, 3, 4, 5, 6] rfl rfl (by decide) (by decide) (by decide) (by decide) hkq hP1 rfl rfl rfl
  simp only [if_pos h0] at hr9
  subst hr9
  simp only [if_pos h0] at hP hD
  have hP : va_P D vwCl [(x, .inr (6, [a0, a1, .ref xj, .int (nI n), .ref xn, a5, a6, a7, a8, a9, a10, a11])), (xj, .inl (cJ, 6, .inr (.inr (.inr (.inr jr))))), (xn, .inr (1, [.int y, .int ea, .int (lo + 1), .int jo, .int ta, .ref ns, .ref ne, .ref n7, .ref n8])), (ns, .inl (cI, 6, .inl (upd sp j (sp j - 1)))), (ne, .inl (cI, 6, .inl en)), (n7, .inl (cI, 6, .inl tY)), (n8, .inl (cI, 6, .inl tW))] H := hP
  have hD : va_D A [(x, .inr (6, [a0, a1, .ref xj, .int (nI n), .ref xn, a5, a6, a7, a8, a9, a10, a11])), (xj, .inl (cJ, 6, .inr (.inr (.inr (.inr jr))))), (xn, .inr (1, [.int y, .int ea, .int (lo + 1), .int jo, .int ta, .ref ns, .ref ne, .ref n7, .ref n8])), (ns, .inl (cI, 6, .inl (upd sp j (sp j - 1)))), (ne, .inl (cI, 6, .inl en)), (n7, .inl (cI, 6, .inl tY)), (n8, .inl (cI, 6, .inl tW))] := hD
  refine lv_if_eq (tgt := 33) hx hb dX6_wasps_19 (by decide) (fun c_7 => ?_) (fun c_7 => ?_)
  · skip
    exact absurd c_7 (by decide)
  · skip
    refine lv_aload_n hx hb dX6_wasps_22 rfl (lv_at hl 0 rfl) ?_
    refine va_get (D := D) (ci := 6) (v := .ref xn) (C := RX6) (T := TX6) (N := 12) hx hb hts (fun w h => List.mem_cons_of_mem _ (List.mem_append_left _ (List.mem_append_right _ h))) hown hK hP 0 rfl rfl 4 (by decide) (hts (Cond.fieldLink RX6 29 "JamDays" "now" "LJamDays$Days;") (List.mem_of_getElem? (i := 1) rfl)) (fun _ h9 => h9) rfl dX6_wasps_23 ?_
    refine lv_iload_n hx hb dX6_wasps_26 rfl (lv_at hl 1 rfl) ?_
    have hPc_8 := hP.sub (ws' := [(xn, .inr (1, [.int y, .int ea, .int (lo + 1), .int jo, .int ta, .ref ns, .ref ne, .ref n7, .ref n8])), (ns, .inl (cI, 6, .inl (upd sp j (sp j - 1))))]) [2, 3] rfl
    refine jcalli (va_runV (As := [.int (nI j)]) (rest := []) ⟨hx, hb, hml, hown, hts⟩ (c_spoonsOf l D cI cJ xn ns (.int y) (.int ea) (.int (lo + 1)) (.int jo) (.int ta) (.ref ne) (.ref n7) (.ref n8) (upd sp j (sp j - 1)) j (by omega) H.size) (cwV 1 hts gX6_wasps_X1_spoonsOf rfl rfl rfl (by decide +kernel) ⟨Nat.le_of_ble_eq_true rfl, Nat.le_of_ble_eq_true rfl⟩) (jpreV hT (va_recv hK hP (ci := 1) (q0 := 2) rfl rfl) hPc_8) rfl rfl hl.1 rfl (lv_room (Nat.le_of_ble_eq_true rfl)) dX6_wasps_27 ⟨(Nat.zero_le _), (Nat.zero_le _)⟩) hS hA (fun r_9 H locs hw_r_9 hkq hS => ?_)
    try dsimp only at hw_r_9
    have hP := jkeep hP hkq
    subst hw_r_9
    refine lv_goto (tgt := 35) hx hb dX6_wasps_30 (by decide) ?_
    exact W.iret (v := (upd sp j (sp j - 1)) j) hx hb hr (fun t ht hW => ⟨⟨(upd sp j (sp j - 1)) j, (upd sp j (sp j - 1)) j, rfl, rfl, by dsimp only; rw [ht]; exact ⟨pk_us, hP⟩⟩, hS.F ht⟩) hS.2.2 dX6_wasps_35

set_option maxHeartbeats 4000000 in
set_option maxRecDepth 100000 in
theorem c_eat_none (l : Launch) (D : va_G) (cI cJ : ClassId) (x : Nat) (xj : Nat) (xn : Nat) (ns : Nat) (ne : Nat) (n7 : Nat) (n8 : Nat) (n : Nat) (a0 : Value) (a1 : Value) (a5 : Value) (a6 : Value) (a7 : Value) (a8 : Value) (a9 : Value) (a10 : Value) (a11 : Value) (jr : Nat → Option Nat) (jk : Nat → Nat) (jg : Nat → Int32) (js : Nat → Int32) (jm : Nat → Int32) (fw : Nat → Int32 → Int32) (y : Int32) (ea : Int32) (lo : Int32) (jo : Int32) (ta : Int32) (sp : Nat → Int32) (en : Nat → Int32) (tY : Nat → Int32) (tW : Nat → Int32) (j : Nat) (hj : j < n) (hn6 : n ≤ 6) (hfw : ∀ i : Nat, i < n → ∀ z : Int32, cfw (jk i) (jg i) (jm i) z = fw i z) (h0 : ¬ 0 < sp j) : jWi l yX6_eat wsX6_eat ({ frames := 4, cells := 0, slots := 0, locals := 88 }) 0 0 [.ref x, .int (nI j)] D cI cJ [(x, .inr (6, [a0, a1, .ref xj, .int (nI n), .ref xn, a5, a6, a7, a8, a9, a10, a11])), (xj, .inl (cJ, 6, .inr (.inr (.inr (.inr jr))))), (xn, .inr (1, [.int y, .int ea, .int lo, .int jo, .int ta, .ref ns, .ref ne, .ref n7, .ref n8])), (ns, .inl (cI, 6, .inl sp)), (ne, .inl (cI, 6, .inl en)), (n7, .inl (cI, 6, .inl tY)), (n8, .inl (cI, 6, .inl tW))] (fun H => jJ D n jr jk jg js jm H) (fun r H => r = -103 ∧ va_P D vwCl [(x, .inr (6, [a0, a1, .ref xj, .int (nI n), .ref xn, a5, a6, a7, a8, a9, a10, a11])), (xj, .inl (cJ, 6, .inr (.inr (.inr (.inr jr))))), (xn, .inr (1, [.int y, .int ea, .int lo, .int jo, .int ta, .ref ns, .ref ne, .ref n7, .ref n8])), (ns, .inl (cI, 6, .inl sp)), (ne, .inl (cI, 6, .inl en)), (n7, .inl (cI, 6, .inl tY)), (n8, .inl (cI, 6, .inl tW))] H) := by
  intro sz
  refine Met.ofW (cc := cX6_eat) (maxL := 3) (ret := (some .int)) (by decide) rfl ?_
  intro p e s m args below meth c s₁ B hml hv
  obtain ⟨rfl, hsz, hT, hP, hD0, hJ⟩ := hv
  have hK := hT.1
  have hx := B.exec
  have hb := B.bytes
  have hr := B.returns
  have hts := atoms_spec (ws := wsX6_eat) B.pre
  have hown : s.vm.findClass RX6 = some m.cls := findClass_of_methodNamed B.named
  have hlocks := B.notSynchronized
  subst hsz
  have hD := hD0.self (sz := s.heap.size)
  generalize hAe : va_A [(x, .inr (6, [a0, a1, .ref xj, .int (nI n), .ref xn, a5, a6, a7, a8, a9, a10, a11])), (xj, .inl (cJ, 6, .inr (.inr (.inr (.inr jr))))), (xn, .inr (1, [.int y, .int ea, .int lo, .int jo, .int ta, .ref ns, .ref ne, .ref n7, .ref n8])), (ns, .inl (cI, 6, .inl sp)), (ne, .inl (cI, 6, .inl en)), (n7, .inl (cI, 6, .inl tY)), (n8, .inl (cI, 6, .inl tW))] s.heap.size = A at hD ⊢
  have hA : ∀ q : Nat, s.heap.size ≤ q → A q := fun q h => by rw [← hAe]; exact Or.inr h
  have hS : va_S A s.heap s.heap [] := va_S.rf
  have hl := lv_entry ([.ref x, .int (nI j)] : List Value) (n := 3) (Nat.le_of_ble_eq_true rfl)
  rw [lg_entry_eq]
  generalize (lg_sl ([.ref x, .int (nI j)]) ++ List.replicate (3 - (lg_sl ([.ref x, .int (nI j)])).length) Slot.unset).toArray = ls at hl ⊢
  have hl : lv_has ls 3 [(0, .ref x), (1, .int (nI j))] := hl
  refine lv_aload_n hx hb dX6_eat_0 rfl (lv_at hl 0 rfl) ?_
  refine lv_iload_n hx hb dX6_eat_1 rfl (lv_at hl 1 rfl) ?_
  have hPc_1 := hP.sub (ws' := [(x, .inr (6, [a0, a1, .ref xj, .int (nI n), .ref xn, a5, a6, a7, a8, a9, a10, a11])), (xj, .inl (cJ, 6, .inr (.inr (.inr (.inr jr)))))]) [0, 1] rfl
  refine jcallq (va_runV (As := [.int (nI j)]) (rest := []) ⟨hx, hb, hml, hown, hts⟩ (c_find_ok l D cI cJ x xj n a0 a1 (.ref xn) a5 a6 a7 a8 a9 a10 a11 jr j (by omega) (by omega) s.heap.size) (cwV 1 hts gX6_eat_X6_find rfl rfl rfl (by decide +kernel) ⟨Nat.le_of_ble_eq_true rfl, Nat.le_of_ble_eq_true rfl⟩) (jpreV hT (va_recv hK hP (ci := 6) (q0 := 0) rfl rfl) hPc_1) rfl rfl hl.1 rfl (lv_room (Nat.le_of_ble_eq_true rfl)) dX6_eat_2 ⟨(Nat.zero_le _), (Nat.zero_le _)⟩) hS hA (fun r_2 H locs hw_r_2 hkq hS => ?_)
  try dsimp only at hw_r_2
  have hP := jkeep hP hkq
  have hJ := hJ.kept hkq
  obtain ⟨hk5, a, ea9, hat⟩ := hJ j (by omega)
  rw [ea9] at hw_r_2
  subst hw_r_2
  try dsimp only [va_rf]
  refine lv_ifnonnull (tgt := 11) hx hb dX6_eat_5 (by decide) ?_
  refine lv_aload_n hx hb dX6_eat_11 rfl (lv_at hl 0 rfl) ?_
  refine lv_iload_n hx hb dX6_eat_12 rfl (lv_at hl 1 rfl) ?_
  have hPc_3 := hP.sub (ws' := [(x, .inr (6, [a0, a1, .ref xj, .int (nI n), .ref xn, a5, a6, a7, a8, a9, a10, a11])), (xj, .inl (cJ, 6, .inr (.inr (.inr (.inr jr))))), (xn, .inr (1, [.int y, .int ea, .int lo, .int jo, .int ta, .ref ns, .ref ne, .ref n7, .ref n8])), (ne, .inl (cI, 6, .inl en))]) [0, 1, 2, 4] rfl
  refine jcalli (va_runV (As := [.int (nI j)]) (rest := []) ⟨hx, hb, hml, hown, hts⟩ (c_nextWorth l D cI cJ x xj xn ne n a0 a1 a5 a6 a7 a8 a9 a10 a11 (.int ea) (.int lo) (.int jo) (.int ta) (.ref ns) (.ref n7) (.ref n8) jr jk jg js jm fw en y j hj hn6 hfw H.size) (cwV 1 hts gX6_eat_X6_nextWorth rfl rfl rfl (by decide +kernel) ⟨Nat.le_of_ble_eq_true rfl, Nat.le_of_ble_eq_true rfl⟩) (jpreV hT (va_recv hK hP (ci := 6) (q0 := 0) rfl rfl) ⟨hPc_3, hJ⟩) rfl rfl hl.1 rfl (lv_room (Nat.le_of_ble_eq_true rfl)) dX6_eat_13 ⟨(Nat.zero_le _), (Nat.zero_le _)⟩) hS hA (fun r_4 H locs hw_r_4 hkq hS => ?_)
  try dsimp only at hw_r_4
  have hP := jkeep hP hkq
  have hJ := hJ.kept hkq
  subst hw_r_4
  refine lv_istore_n (lv' := [(2, .int (fw j y - en j)), (0, .ref x), (1, .int (nI j))]) hx hb dX6_eat_16 rfl hl (by decide) rfl (fun ls hl => ?_)
  refine lv_aload_n hx hb dX6_eat_17 rfl (lv_at hl 1 rfl) ?_
  refine va_get (D := D) (ci := 6) (v := .ref xn) (C := RX6) (T := TX6) (N := 12) hx hb hts (fun w h => List.mem_cons_of_mem _ (List.mem_append_left _ (List.mem_append_left _ (List.mem_append_left _ (List.mem_append_left _ (List.mem_append_left _ (List.mem_append_left _ (List.mem_append_right _ h)))))))) hown hK hP 0 rfl rfl 4 (by decide) (hts (Cond.fieldLink RX6 29 "JamDays" "now" "LJamDays$Days;") (List.mem_of_getElem? (i := 1) rfl)) (fun _ h9 => h9) rfl dX6_eat_18 ?_
  refine lv_iload_n hx hb dX6_eat_21 rfl (lv_at hl 2 rfl) ?_
  refine lv_iload_n hx hb dX6_eat_22 rfl (lv_at hl 0 rfl) ?_
  have hPc_5 := hP.sub (ws' := [(xn, .inr (1, [.int y, .int ea, .int lo, .int jo, .int ta, .ref ns, .ref ne, .ref n7, .ref n8])), (ns, .inl (cI, 6, .inl sp)), (ne, .inl (cI, 6, .inl en)), (n7, .inl (cI, 6, .inl tY)), (n8, .inl (cI, 6, .inl tW))]) [2, 3, 4, 5, 6] rfl
  have hDc_6 := hD.sub (ws' := [(xn, .inr (1, [.int y, .int ea, .int lo, .int jo, .int ta, .ref ns, .ref ne, .ref n7, .ref n8])), (ns, .inl (cI, 6, .inl sp)), (ne, .inl (cI, 6, .inl en)), (n7, .inl (cI, 6, .inl tY)), (n8, .inl (cI, 6, .inl tW))]) [2, 3, 4, 5, 6] (by decide) rfl
  have hFc_7 := va_free (wc := [(xn, .inr (1, [.int y, .int ea, .int lo, .int jo, .int ta, .ref ns, .ref ne, .ref n7, .ref n8])), (ns, .inl (cI, 6, .inl sp)), (ne, .inl (cI, 6, .inl en)), (n7, .inl (cI, 6, .inl tY)), (n8, .inl (cI, 6, .inl tW))]) hD hS hA [2, 3, 4, 5, 6] rfl
  refine jcallWi (post := fun r H => r = (if 0 < sp j then 1 else 0) ∧ va_P D vwCl [(xn, .inr (1, [.int y, .int (if 0 < sp j then ea + 1 else ea), .int lo, .int (if 0 < sp j then jo + (fw j y - en j) else jo), .int ta, .ref ns, .ref ne, .ref n7, .ref n8])), (ns, .inl (cI, 6, .inl (if 0 < sp j then upd sp j (sp j - 1) else sp))), (ne, .inl (cI, 6, .inl (if 0 < sp j then upd en j (en j + 1) else en))), (n7, .inl (cI, 6, .inl tY)), (n8, .inl (cI, 6, .inl tW))] H) (va_runV (As := [.int (nI j), .int (fw j y - en j)]) (rest := []) ⟨hx, hb, hml, hown, hts⟩ (c_eatSpoon l D cI cJ xn ns ne n7 n8 y ea lo jo ta sp en tY tW j (fw j y - en j) (by omega) H.size) (cwV 2 hts gX6_eat_X1_eatSpoon rfl rfl rfl (by decide +kernel) ⟨Nat.le_of_ble_eq_true rfl, Nat.le_of_ble_eq_true rfl⟩) (jpreV hT (va_recv hK hP (ci := 1) (q0 := 2) rfl rfl) ⟨hPc_5, hDc_6.weaken (fun _ _ _ _ => trivial), trivial⟩) rfl rfl hl.1 rfl (lv_room (Nat.le_of_ble_eq_true rfl)) dX6_eat_23 ⟨(Nat.zero_le _), (Nat.zero_le _)⟩) hS hFc_7 (fun r_8 H locs hw_r_8 hz hkq hS => ?_)
  obtain ⟨hr9, hP1⟩ := hw_r_8
  obtain ⟨hP, hD⟩ := jjoin (wc := [(xn, .inr (1, [.int y, .int ea, .int lo, .int jo, .int ta, .ref ns, .ref ne, .ref n7, .ref n8])), (ns, .inl (cI, 6, .inl sp)), (ne, .inl (cI, 6, .inl en)), (n7, .inl (cI, 6, .inl tY)), (n8, .inl (cI, 6, .inl tW))]) (wr := [(x, .inr (6, [a0, a1, .ref xj, .int (nI n), .ref xn, a5, a6, a7, a8, a9, a10, a11])), (xj, .inl (cJ, 6, .inr (.inr (.inr (.inr jr)))))]) (w1 := [(xn, .inr (1, [.int y, .int (if 0 < sp j then ea + 1 else ea), .int lo, .int (if 0 < sp j then jo + (fw j y - en j) else jo), .int ta, .ref ns, .ref ne, .ref n7, .ref n8])), (ns, .inl (cI, 6, .inl (if 0 < sp j then upd sp j (sp j - 1) else sp))), (ne, .inl (cI, 6, .inl (if 0 < sp j then upd en j (en j + 1) else en))), (n7, .inl (cI, 6, .inl tY)), (n8, .inl (cI, 6, .inl tW))]) (ws' := [(x, .inr (6, [a0, a1, .ref xj, .int (nI n), .ref xn, a5, a6, a7, a8, a9, a10, a11])), (xj, .inl (cJ, 6, .inr (.inr (.inr (.inr jr))))), (xn, .inr (1, [.int y, .int (if 0 < sp j then ea + 1 else ea), .int lo, .int (if 0 < sp j then jo + (fw j y - en j) else jo), .int ta, .ref ns, .ref ne, .ref n7, .ref n8])), (ns, .inl (cI, 6, .inl (if 0 < sp j then upd sp j (sp j - 1) else sp))), (ne, .inl (cI, 6, .inl (if 0 < sp j then upd en j (en j + 1) else en))), (n7, .inl (cI, 6, .inl tY)), (n8, .inl (cI, 6, .inl tW))]) hP hD hFc_7 [2, 3, 4, 5, 6] [0, 1] [0, 1, 2, 3, 4, 5, 6] rfl rfl (by decide) (by decide) (by decide) (by decide) hkq hP1 rfl rfl rfl
  simp only [if_neg h0] at hr9
  subst hr9
  simp only [if_neg h0] at hP hD
  have hP : va_P D vwCl [(x, .inr (6, [a0, a1, .ref xj, .int (nI n), .ref xn, a5, a6, a7, a8, a9, a10, a11])), (xj, .inl (cJ, 6, .inr (.inr (.inr (.inr jr))))), (xn, .inr (1, [.int y, .int ea, .int lo, .int jo, .int ta, .ref ns, .ref ne, .ref n7, .ref n8])), (ns, .inl (cI, 6, .inl sp)), (ne, .inl (cI, 6, .inl en)), (n7, .inl (cI, 6, .inl tY)), (n8, .inl (cI, 6, .inl tW))] H := hP
  have hD : va_D A [(x, .inr (6, [a0, a1, .ref xj, .int (nI n), .ref xn, a5, a6, a7, a8, a9, a10, a11])), (xj, .inl (cJ, 6, .inr (.inr (.inr (.inr jr))))), (xn, .inr (1, [.int y, .int ea, .int lo, .int jo, .int ta, .ref ns, .ref ne, .ref n7, .ref n8])), (ns, .inl (cI, 6, .inl sp)), (ne, .inl (cI, 6, .inl en)), (n7, .inl (cI, 6, .inl tY)), (n8, .inl (cI, 6, .inl tW))] := hD
  refine lv_if_eq (tgt := 36) hx hb dX6_eat_26 (by decide) (fun c_9 => ?_) (fun c_9 => ?_)
  · skip
    refine lv_bipush (v := (-103)) hx hb dX6_eat_36 (by decide) ?_
    exact W.iret (v := (-103)) hx hb hr (fun t ht hW => ⟨⟨(-103), (-103), rfl, rfl, by dsimp only; rw [ht]; exact ⟨rfl, hP⟩⟩, hS.F ht⟩) hS.2.2 dX6_eat_38
  · skip
    exact absurd c_9 (by decide)

set_option maxHeartbeats 4000000 in
set_option maxRecDepth 100000 in
theorem c_wasps_none (l : Launch) (D : va_G) (cI cJ : ClassId) (x : Nat) (xj : Nat) (xn : Nat) (ns : Nat) (ne : Nat) (n7 : Nat) (n8 : Nat) (n : Nat) (a0 : Value) (a1 : Value) (a5 : Value) (a6 : Value) (a7 : Value) (a8 : Value) (a9 : Value) (a10 : Value) (a11 : Value) (jr : Nat → Option Nat) (jk : Nat → Nat) (jg : Nat → Int32) (js : Nat → Int32) (jm : Nat → Int32) (y : Int32) (ea : Int32) (lo : Int32) (jo : Int32) (ta : Int32) (sp : Nat → Int32) (en : Nat → Int32) (tY : Nat → Int32) (tW : Nat → Int32) (j : Nat) (hj : j < n) (hn6 : n ≤ 6) (h0 : ¬ 0 < sp j) : jWi l yX6_wasps wsX6_wasps ({ frames := 2, cells := 0, slots := 0, locals := 42 }) 0 0 [.ref x, .int (nI j)] D cI cJ [(x, .inr (6, [a0, a1, .ref xj, .int (nI n), .ref xn, a5, a6, a7, a8, a9, a10, a11])), (xj, .inl (cJ, 6, .inr (.inr (.inr (.inr jr))))), (xn, .inr (1, [.int y, .int ea, .int lo, .int jo, .int ta, .ref ns, .ref ne, .ref n7, .ref n8])), (ns, .inl (cI, 6, .inl sp)), (ne, .inl (cI, 6, .inl en)), (n7, .inl (cI, 6, .inl tY)), (n8, .inl (cI, 6, .inl tW))] (fun H => jJ D n jr jk jg js jm H) (fun r H => r = -103 ∧ va_P D vwCl [(x, .inr (6, [a0, a1, .ref xj, .int (nI n), .ref xn, a5, a6, a7, a8, a9, a10, a11])), (xj, .inl (cJ, 6, .inr (.inr (.inr (.inr jr))))), (xn, .inr (1, [.int y, .int ea, .int lo, .int jo, .int ta, .ref ns, .ref ne, .ref n7, .ref n8])), (ns, .inl (cI, 6, .inl sp)), (ne, .inl (cI, 6, .inl en)), (n7, .inl (cI, 6, .inl tY)), (n8, .inl (cI, 6, .inl tW))] H) := by
  intro sz
  refine Met.ofW (cc := cX6_wasps) (maxL := 2) (ret := (some .int)) (by decide) rfl ?_
  intro p e s m args below meth c s₁ B hml hv
  obtain ⟨rfl, hsz, hT, hP, hD0, hJ⟩ := hv
  have hK := hT.1
  have hx := B.exec
  have hb := B.bytes
  have hr := B.returns
  have hts := atoms_spec (ws := wsX6_wasps) B.pre
  have hown : s.vm.findClass RX6 = some m.cls := findClass_of_methodNamed B.named
  have hlocks := B.notSynchronized
  subst hsz
  have hD := hD0.self (sz := s.heap.size)
  generalize hAe : va_A [(x, .inr (6, [a0, a1, .ref xj, .int (nI n), .ref xn, a5, a6, a7, a8, a9, a10, a11])), (xj, .inl (cJ, 6, .inr (.inr (.inr (.inr jr))))), (xn, .inr (1, [.int y, .int ea, .int lo, .int jo, .int ta, .ref ns, .ref ne, .ref n7, .ref n8])), (ns, .inl (cI, 6, .inl sp)), (ne, .inl (cI, 6, .inl en)), (n7, .inl (cI, 6, .inl tY)), (n8, .inl (cI, 6, .inl tW))] s.heap.size = A at hD ⊢
  have hA : ∀ q : Nat, s.heap.size ≤ q → A q := fun q h => by rw [← hAe]; exact Or.inr h
  have hS : va_S A s.heap s.heap [] := va_S.rf
  have hl := lv_entry ([.ref x, .int (nI j)] : List Value) (n := 2) (Nat.le_of_ble_eq_true rfl)
  rw [lg_entry_eq]
  generalize (lg_sl ([.ref x, .int (nI j)]) ++ List.replicate (2 - (lg_sl ([.ref x, .int (nI j)])).length) Slot.unset).toArray = ls at hl ⊢
  have hl : lv_has ls 2 [(0, .ref x), (1, .int (nI j))] := hl
  refine lv_aload_n hx hb dX6_wasps_0 rfl (lv_at hl 0 rfl) ?_
  refine lv_iload_n hx hb dX6_wasps_1 rfl (lv_at hl 1 rfl) ?_
  have hPc_1 := hP.sub (ws' := [(x, .inr (6, [a0, a1, .ref xj, .int (nI n), .ref xn, a5, a6, a7, a8, a9, a10, a11])), (xj, .inl (cJ, 6, .inr (.inr (.inr (.inr jr)))))]) [0, 1] rfl
  refine jcallq (va_runV (As := [.int (nI j)]) (rest := []) ⟨hx, hb, hml, hown, hts⟩ (c_find_ok l D cI cJ x xj n a0 a1 (.ref xn) a5 a6 a7 a8 a9 a10 a11 jr j (by omega) (by omega) s.heap.size) (cwV 1 hts gX6_wasps_X6_find rfl rfl rfl (by decide +kernel) ⟨Nat.le_of_ble_eq_true rfl, Nat.le_of_ble_eq_true rfl⟩) (jpreV hT (va_recv hK hP (ci := 6) (q0 := 0) rfl rfl) hPc_1) rfl rfl hl.1 rfl (lv_room (Nat.le_of_ble_eq_true rfl)) dX6_wasps_2 ⟨(Nat.zero_le _), (Nat.zero_le _)⟩) hS hA (fun r_2 H locs hw_r_2 hkq hS => ?_)
  try dsimp only at hw_r_2
  have hP := jkeep hP hkq
  have hJ := hJ.kept hkq
  obtain ⟨hk5, a, ea9, hat⟩ := hJ j (by omega)
  rw [ea9] at hw_r_2
  subst hw_r_2
  try dsimp only [va_rf]
  refine lv_ifnonnull (tgt := 11) hx hb dX6_wasps_5 (by decide) ?_
  refine lv_aload_n hx hb dX6_wasps_11 rfl (lv_at hl 0 rfl) ?_
  refine va_get (D := D) (ci := 6) (v := .ref xn) (C := RX6) (T := TX6) (N := 12) hx hb hts (fun w h => List.mem_cons_of_mem _ (List.mem_append_left _ (List.mem_append_right _ h))) hown hK hP 0 rfl rfl 4 (by decide) (hts (Cond.fieldLink RX6 29 "JamDays" "now" "LJamDays$Days;") (List.mem_of_getElem? (i := 1) rfl)) (fun _ h9 => h9) rfl dX6_wasps_12 ?_
  refine lv_iload_n hx hb dX6_wasps_15 rfl (lv_at hl 1 rfl) ?_
  have hPc_3 := hP.sub (ws' := [(xn, .inr (1, [.int y, .int ea, .int lo, .int jo, .int ta, .ref ns, .ref ne, .ref n7, .ref n8])), (ns, .inl (cI, 6, .inl sp)), (ne, .inl (cI, 6, .inl en)), (n7, .inl (cI, 6, .inl tY)), (n8, .inl (cI, 6, .inl tW))]) [2, 3, 4, 5, 6] rfl
  have hDc_4 := hD.sub (ws' := [(xn, .inr (1, [.int y, .int ea, .int lo, .int jo, .int ta, .ref ns, .ref ne, .ref n7, .ref n8])), (ns, .inl (cI, 6, .inl sp)), (ne, .inl (cI, 6, .inl en)), (n7, .inl (cI, 6, .inl tY)), (n8, .inl (cI, 6, .inl tW))]) [2, 3, 4, 5, 6] (by decide) rfl
  have hFc_5 := va_free (wc := [(xn, .inr (1, [.int y, .int ea, .int lo, .int jo, .int ta, .ref ns, .ref ne, .ref n7, .ref n8])), (ns, .inl (cI, 6, .inl sp)), (ne, .inl (cI, 6, .inl en)), (n7, .inl (cI, 6, .inl tY)), (n8, .inl (cI, 6, .inl tW))]) hD hS hA [2, 3, 4, 5, 6] rfl
  refine jcallWi (post := fun r H => r = (if 0 < sp j then 1 else 0) ∧ va_P D vwCl [(xn, .inr (1, [.int y, .int ea, .int (if 0 < sp j then lo + 1 else lo), .int jo, .int ta, .ref ns, .ref ne, .ref n7, .ref n8])), (ns, .inl (cI, 6, .inl (if 0 < sp j then upd sp j (sp j - 1) else sp))), (ne, .inl (cI, 6, .inl en)), (n7, .inl (cI, 6, .inl tY)), (n8, .inl (cI, 6, .inl tW))] H) (va_runV (As := [.int (nI j)]) (rest := []) ⟨hx, hb, hml, hown, hts⟩ (c_loseSpoon l D cI cJ xn ns ne n7 n8 y ea lo jo ta sp en tY tW j (by omega) H.size) (cwV 1 hts gX6_wasps_X1_loseSpoon rfl rfl rfl (by decide +kernel) ⟨Nat.le_of_ble_eq_true rfl, Nat.le_of_ble_eq_true rfl⟩) (jpreV hT (va_recv hK hP (ci := 1) (q0 := 2) rfl rfl) ⟨hPc_3, hDc_4.weaken (fun _ _ _ _ => trivial), trivial⟩) rfl rfl hl.1 rfl (lv_room (Nat.le_of_ble_eq_true rfl)) dX6_wasps_16 ⟨(Nat.zero_le _), (Nat.zero_le _)⟩) hS hFc_5 (fun r_6 H locs hw_r_6 hz hkq hS => ?_)
  obtain ⟨hr9, hP1⟩ := hw_r_6
  obtain ⟨hP, hD⟩ := jjoin (wc := [(xn, .inr (1, [.int y, .int ea, .int lo, .int jo, .int ta, .ref ns, .ref ne, .ref n7, .ref n8])), (ns, .inl (cI, 6, .inl sp)), (ne, .inl (cI, 6, .inl en)), (n7, .inl (cI, 6, .inl tY)), (n8, .inl (cI, 6, .inl tW))]) (wr := [(x, .inr (6, [a0, a1, .ref xj, .int (nI n), .ref xn, a5, a6, a7, a8, a9, a10, a11])), (xj, .inl (cJ, 6, .inr (.inr (.inr (.inr jr)))))]) (w1 := [(xn, .inr (1, [.int y, .int ea, .int (if 0 < sp j then lo + 1 else lo), .int jo, .int ta, .ref ns, .ref ne, .ref n7, .ref n8])), (ns, .inl (cI, 6, .inl (if 0 < sp j then upd sp j (sp j - 1) else sp))), (ne, .inl (cI, 6, .inl en)), (n7, .inl (cI, 6, .inl tY)), (n8, .inl (cI, 6, .inl tW))]) (ws' := [(x, .inr (6, [a0, a1, .ref xj, .int (nI n), .ref xn, a5, a6, a7, a8, a9, a10, a11])), (xj, .inl (cJ, 6, .inr (.inr (.inr (.inr jr))))), (xn, .inr (1, [.int y, .int ea, .int (if 0 < sp j then lo + 1 else lo), .int jo, .int ta, .ref ns, .ref ne, .ref n7, .ref n8])), (ns, .inl (cI, 6, .inl (if 0 < sp j then upd sp j (sp j - 1) else sp))), (ne, .inl (cI, 6, .inl en)), (n7, .inl (cI, 6, .inl tY)), (n8, .inl (cI, 6, .inl tW))]) hP hD hFc_5 [2, 3, 4, 5, 6] [0, 1] [0, 1, 2, 3, 4, 5, 6] rfl rfl (by decide) (by decide) (by decide) (by decide) hkq hP1 rfl rfl rfl
  simp only [if_neg h0] at hr9
  subst hr9
  simp only [if_neg h0] at hP hD
  have hP : va_P D vwCl [(x, .inr (6, [a0, a1, .ref xj, .int (nI n), .ref xn, a5, a6, a7, a8, a9, a10, a11])), (xj, .inl (cJ, 6, .inr (.inr (.inr (.inr jr))))), (xn, .inr (1, [.int y, .int ea, .int lo, .int jo, .int ta, .ref ns, .ref ne, .ref n7, .ref n8])), (ns, .inl (cI, 6, .inl sp)), (ne, .inl (cI, 6, .inl en)), (n7, .inl (cI, 6, .inl tY)), (n8, .inl (cI, 6, .inl tW))] H := hP
  have hD : va_D A [(x, .inr (6, [a0, a1, .ref xj, .int (nI n), .ref xn, a5, a6, a7, a8, a9, a10, a11])), (xj, .inl (cJ, 6, .inr (.inr (.inr (.inr jr))))), (xn, .inr (1, [.int y, .int ea, .int lo, .int jo, .int ta, .ref ns, .ref ne, .ref n7, .ref n8])), (ns, .inl (cI, 6, .inl sp)), (ne, .inl (cI, 6, .inl en)), (n7, .inl (cI, 6, .inl tY)), (n8, .inl (cI, 6, .inl tW))] := hD
  refine lv_if_eq (tgt := 33) hx hb dX6_wasps_19 (by decide) (fun c_7 => ?_) (fun c_7 => ?_)
  · skip
    refine lv_bipush (v := (-103)) hx hb dX6_wasps_33 (by decide) ?_
    exact W.iret (v := (-103)) hx hb hr (fun t ht hW => ⟨⟨(-103), (-103), rfl, rfl, by dsimp only; rw [ht]; exact ⟨rfl, hP⟩⟩, hS.F ht⟩) hS.2.2 dX6_wasps_35
  · skip
    exact absurd c_7 (by decide)

set_option maxHeartbeats 4000000 in
set_option maxRecDepth 100000 in
theorem c_year_n (l : Launch) (D : va_G) (cI cJ : ClassId) (x : Nat) (n : Nat) (a0 : Value) (a1 : Value) (a2 : Value) (a4 : Value) (a5 : Value) (a6 : Value) (a7 : Value) (a8 : Value) (a9 : Value) (a10 : Value) (a11 : Value) (hn0 : n = 0) : jRi l yX6_year wsX6_year ({ frames := 1, cells := 0, slots := 0, locals := 20 }) [.ref x] D cI cJ (fun H => va_P D vwCl [(x, .inr (6, [a0, a1, a2, .int (nI n), a4, a5, a6, a7, a8, a9, a10, a11]))] H) (fun r => r = -103) := by
  intro sz
  refine Met.ofW (cc := cX6_year) (maxL := 1) (ret := (some .int)) (by decide) rfl ?_
  intro p e s m args below meth c s₁ B hml hv
  obtain ⟨rfl, hsz, hT, hPr⟩ := hv
  have hK := hT.1
  have hx := B.exec
  have hb := B.bytes
  have hr := B.returns
  have hts := atoms_spec (ws := wsX6_year) B.pre
  have hown : s.vm.findClass RX6 = some m.cls := findClass_of_methodNamed B.named
  have hlocks := B.notSynchronized
  subst hsz
  generalize hAe : va_A [] s.heap.size = A
  have hA : ∀ q : Nat, s.heap.size ≤ q → A q := fun q h => by rw [← hAe]; exact Or.inr h
  have hS : va_S A s.heap s.heap [] := va_S.rf
  have hl := lv_entry ([.ref x] : List Value) (n := 1) (Nat.le_of_ble_eq_true rfl)
  rw [lg_entry_eq]
  generalize (lg_sl ([.ref x]) ++ List.replicate (1 - (lg_sl ([.ref x])).length) Slot.unset).toArray = ls at hl ⊢
  have hl : lv_has ls 1 [(0, .ref x)] := hl
  refine lv_aload_n hx hb dX6_year_0 rfl (lv_at hl 0 rfl) ?_
  have hPc_1 := hPr.sub (ws' := [(x, .inr (6, [a0, a1, a2, .int (nI n), a4, a5, a6, a7, a8, a9, a10, a11]))]) [0] rfl
  refine jcalli (va_runV (As := []) (rest := []) ⟨hx, hb, hml, hown, hts⟩ (c_hasNoLarder_y l D cI cJ x n a0 a1 a2 a4 a5 a6 a7 a8 a9 a10 a11 hn0 s.heap.size) (cwV 0 hts gX6_year_X6_hasNoLarder rfl rfl rfl (by decide +kernel) ⟨Nat.le_of_ble_eq_true rfl, Nat.le_of_ble_eq_true rfl⟩) (jpreV hT (va_recv hK hPr (ci := 6) (q0 := 0) rfl rfl) hPc_1) rfl rfl hl.1 rfl (lv_room (Nat.le_of_ble_eq_true rfl)) dX6_year_1 ⟨(Nat.zero_le _), (Nat.zero_le _)⟩) hS hA (fun r_2 H locs hw_r_2 hkq hS => ?_)
  try dsimp only at hw_r_2
  have hPr := jkeep hPr hkq
  subst hw_r_2
  refine lv_if_eq (tgt := 10) hx hb dX6_year_4 (by decide) (fun c_3 => ?_) (fun c_3 => ?_)
  · skip
    exact absurd c_3 (by decide)
  · skip
    refine lv_bipush (v := (-103)) hx hb dX6_year_7 (by decide) ?_
    exact W.iret (v := (-103)) hx hb hr (fun t ht hW => ⟨⟨(-103), (), rfl, rfl, trivial⟩, hS.F ht⟩) hS.2.2 dX6_year_9

set_option maxHeartbeats 4000000 in
set_option maxRecDepth 100000 in
theorem c_year_full (l : Launch) (D : va_G) (cI cJ : ClassId) (x : Nat) (xn : Nat) (n : Nat) (a0 : Value) (a1 : Value) (a2 : Value) (a5 : Value) (a6 : Value) (a7 : Value) (a8 : Value) (a9 : Value) (a10 : Value) (a11 : Value) (b1 : Value) (b2 : Value) (b3 : Value) (b4 : Value) (b5 : Value) (b6 : Value) (b7 : Value) (b8 : Value) (y : Int32) (hn0 : 0 < n) (hn6 : n ≤ 6) (h9 : 99 ≤ y) : jRi l yX6_year wsX6_year ({ frames := 1, cells := 0, slots := 0, locals := 20 }) [.ref x] D cI cJ (fun H => va_P D vwCl [(x, .inr (6, [a0, a1, a2, .int (nI n), .ref xn, a5, a6, a7, a8, a9, a10, a11])), (xn, .inr (1, [.int y, b1, b2, b3, b4, b5, b6, b7, b8]))] H) (fun r => r = -104) := by
  intro sz
  refine Met.ofW (cc := cX6_year) (maxL := 1) (ret := (some .int)) (by decide) rfl ?_
  intro p e s m args below meth c s₁ B hml hv
  obtain ⟨rfl, hsz, hT, hPr⟩ := hv
  have hK := hT.1
  have hx := B.exec
  have hb := B.bytes
  have hr := B.returns
  have hts := atoms_spec (ws := wsX6_year) B.pre
  have hown : s.vm.findClass RX6 = some m.cls := findClass_of_methodNamed B.named
  have hlocks := B.notSynchronized
  subst hsz
  generalize hAe : va_A [] s.heap.size = A
  have hA : ∀ q : Nat, s.heap.size ≤ q → A q := fun q h => by rw [← hAe]; exact Or.inr h
  have hS : va_S A s.heap s.heap [] := va_S.rf
  have hl := lv_entry ([.ref x] : List Value) (n := 1) (Nat.le_of_ble_eq_true rfl)
  rw [lg_entry_eq]
  generalize (lg_sl ([.ref x]) ++ List.replicate (1 - (lg_sl ([.ref x])).length) Slot.unset).toArray = ls at hl ⊢
  have hl : lv_has ls 1 [(0, .ref x)] := hl
  refine lv_aload_n hx hb dX6_year_0 rfl (lv_at hl 0 rfl) ?_
  have hPc_1 := hPr.sub (ws' := [(x, .inr (6, [a0, a1, a2, .int (nI n), .ref xn, a5, a6, a7, a8, a9, a10, a11]))]) [0] rfl
  refine jcalli (va_runV (As := []) (rest := []) ⟨hx, hb, hml, hown, hts⟩ (c_hasNoLarder_n l D cI cJ x n a0 a1 a2 (.ref xn) a5 a6 a7 a8 a9 a10 a11 hn0 hn6 s.heap.size) (cwV 0 hts gX6_year_X6_hasNoLarder rfl rfl rfl (by decide +kernel) ⟨Nat.le_of_ble_eq_true rfl, Nat.le_of_ble_eq_true rfl⟩) (jpreV hT (va_recv hK hPr (ci := 6) (q0 := 0) rfl rfl) hPc_1) rfl rfl hl.1 rfl (lv_room (Nat.le_of_ble_eq_true rfl)) dX6_year_1 ⟨(Nat.zero_le _), (Nat.zero_le _)⟩) hS hA (fun r_2 H locs hw_r_2 hkq hS => ?_)
  try dsimp only at hw_r_2
  have hPr := jkeep hPr hkq
  subst hw_r_2
  refine lv_if_eq (tgt := 10) hx hb dX6_year_4 (by decide) (fun c_3 => ?_) (fun c_3 => ?_)
  · skip
    refine lv_aload_n hx hb dX6_year_10 rfl (lv_at hl 0 rfl) ?_
    refine va_get (D := D) (ci := 6) (v := .ref xn) (C := RX6) (T := TX6) (N := 12) hx hb hts (fun w h => List.mem_cons_of_mem _ (List.mem_append_left _ (List.mem_append_right _ h))) hown hK hPr 0 rfl rfl 4 (by decide) (hts (Cond.fieldLink RX6 29 "JamDays" "now" "LJamDays$Days;") (List.mem_of_getElem? (i := 1) rfl)) (fun _ h9 => h9) rfl dX6_year_11 ?_
    refine va_get (D := D) (ci := 1) (v := .int y) (C := RX1) (T := TX1) (N := 9) hx hb hts (fun w h => List.mem_cons_of_mem _ (List.mem_append_right _ h)) hown hK hPr 1 rfl rfl 0 (by decide) (hts (Cond.fieldLink RX6 91 "JamDays$Days" "year" "I") (List.mem_of_getElem? (i := 2) rfl)) (fun _ h9 => h9) rfl dX6_year_14 ?_
    refine lv_bipush (v := 99) hx hb dX6_year_17 (by decide) ?_
    refine lv_icmp_lt (tgt := 25) hx hb dX6_year_19 (by decide) (fun c_4 => ?_) (fun c_4 => ?_)
    · skip
      exact (jlt_le c_4 h9).elim
    · skip
      refine lv_bipush (v := (-104)) hx hb dX6_year_22 (by decide) ?_
      exact W.iret (v := (-104)) hx hb hr (fun t ht hW => ⟨⟨(-104), (), rfl, rfl, trivial⟩, hS.F ht⟩) hS.2.2 dX6_year_24
  · skip
    exact absurd c_3 (by decide)

set_option maxHeartbeats 4000000 in
set_option maxRecDepth 100000 in
theorem c_year_ok (l : Launch) (D : va_G) (cI cJ : ClassId) (x : Nat) (xn : Nat) (ns : Nat) (ne : Nat) (n7 : Nat) (n8 : Nat) (n : Nat) (a0 : Value) (a1 : Value) (a2 : Value) (a5 : Value) (a6 : Value) (a7 : Value) (a8 : Value) (a9 : Value) (a10 : Value) (a11 : Value) (y : Int32) (ea : Int32) (lo : Int32) (jo : Int32) (ta : Int32) (sp : Nat → Int32) (en : Nat → Int32) (tY : Nat → Int32) (tW : Nat → Int32) (hn0 : 0 < n) (hn6 : n ≤ 6) (h9 : y < 99) : jWi l yX6_year wsX6_year ({ frames := 1, cells := 0, slots := 0, locals := 21 }) 0 0 [.ref x] D cI cJ [(x, .inr (6, [a0, a1, a2, .int (nI n), .ref xn, a5, a6, a7, a8, a9, a10, a11])), (xn, .inr (1, [.int y, .int ea, .int lo, .int jo, .int ta, .ref ns, .ref ne, .ref n7, .ref n8])), (ns, .inl (cI, 6, .inl sp)), (ne, .inl (cI, 6, .inl en)), (n7, .inl (cI, 6, .inl tY)), (n8, .inl (cI, 6, .inl tW))] (fun H => True) (fun r H => r = y + 1 ∧ va_P D vwCl [(x, .inr (6, [a0, a1, a2, .int (nI n), .ref xn, a5, a6, a7, a8, a9, a10, a11])), (xn, .inr (1, [.int (y + 1), .int ea, .int lo, .int jo, .int ta, .ref ns, .ref ne, .ref n7, .ref n8])), (ns, .inl (cI, 6, .inl sp)), (ne, .inl (cI, 6, .inl (jfl (fun _ => 0) en 6))), (n7, .inl (cI, 6, .inl tY)), (n8, .inl (cI, 6, .inl tW))] H) := by
  intro sz
  refine Met.ofW (cc := cX6_year) (maxL := 1) (ret := (some .int)) (by decide) rfl ?_
  intro p e s m args below meth c s₁ B hml hv
  obtain ⟨rfl, hsz, hT, hP, hD0, _⟩ := hv
  have hK := hT.1
  have hx := B.exec
  have hb := B.bytes
  have hr := B.returns
  have hts := atoms_spec (ws := wsX6_year) B.pre
  have hown : s.vm.findClass RX6 = some m.cls := findClass_of_methodNamed B.named
  have hlocks := B.notSynchronized
  subst hsz
  have hD := hD0.self (sz := s.heap.size)
  generalize hAe : va_A [(x, .inr (6, [a0, a1, a2, .int (nI n), .ref xn, a5, a6, a7, a8, a9, a10, a11])), (xn, .inr (1, [.int y, .int ea, .int lo, .int jo, .int ta, .ref ns, .ref ne, .ref n7, .ref n8])), (ns, .inl (cI, 6, .inl sp)), (ne, .inl (cI, 6, .inl en)), (n7, .inl (cI, 6, .inl tY)), (n8, .inl (cI, 6, .inl tW))] s.heap.size = A at hD ⊢
  have hA : ∀ q : Nat, s.heap.size ≤ q → A q := fun q h => by rw [← hAe]; exact Or.inr h
  have hS : va_S A s.heap s.heap [] := va_S.rf
  have hl := lv_entry ([.ref x] : List Value) (n := 1) (Nat.le_of_ble_eq_true rfl)
  rw [lg_entry_eq]
  generalize (lg_sl ([.ref x]) ++ List.replicate (1 - (lg_sl ([.ref x])).length) Slot.unset).toArray = ls at hl ⊢
  have hl : lv_has ls 1 [(0, .ref x)] := hl
  refine lv_aload_n hx hb dX6_year_0 rfl (lv_at hl 0 rfl) ?_
  have hPc_1 := hP.sub (ws' := [(x, .inr (6, [a0, a1, a2, .int (nI n), .ref xn, a5, a6, a7, a8, a9, a10, a11]))]) [0] rfl
  refine jcalli (va_runV (As := []) (rest := []) ⟨hx, hb, hml, hown, hts⟩ (c_hasNoLarder_n l D cI cJ x n a0 a1 a2 (.ref xn) a5 a6 a7 a8 a9 a10 a11 hn0 hn6 s.heap.size) (cwV 0 hts gX6_year_X6_hasNoLarder rfl rfl rfl (by decide +kernel) ⟨Nat.le_of_ble_eq_true rfl, Nat.le_of_ble_eq_true rfl⟩) (jpreV hT (va_recv hK hP (ci := 6) (q0 := 0) rfl rfl) hPc_1) rfl rfl hl.1 rfl (lv_room (Nat.le_of_ble_eq_true rfl)) dX6_year_1 ⟨(Nat.zero_le _), (Nat.zero_le _)⟩) hS hA (fun r_2 H locs hw_r_2 hkq hS => ?_)
  try dsimp only at hw_r_2
  have hP := jkeep hP hkq
  subst hw_r_2
  refine lv_if_eq (tgt := 10) hx hb dX6_year_4 (by decide) (fun c_3 => ?_) (fun c_3 => ?_)
  · skip
    refine lv_aload_n hx hb dX6_year_10 rfl (lv_at hl 0 rfl) ?_
    refine va_get (D := D) (ci := 6) (v := .ref xn) (C := RX6) (T := TX6) (N := 12) hx hb hts (fun w h => List.mem_cons_of_mem _ (List.mem_append_left _ (List.mem_append_right _ h))) hown hK hP 0 rfl rfl 4 (by decide) (hts (Cond.fieldLink RX6 29 "JamDays" "now" "LJamDays$Days;") (List.mem_of_getElem? (i := 1) rfl)) (fun _ h9 => h9) rfl dX6_year_11 ?_
    refine va_get (D := D) (ci := 1) (v := .int y) (C := RX1) (T := TX1) (N := 9) hx hb hts (fun w h => List.mem_cons_of_mem _ (List.mem_append_right _ h)) hown hK hP 1 rfl rfl 0 (by decide) (hts (Cond.fieldLink RX6 91 "JamDays$Days" "year" "I") (List.mem_of_getElem? (i := 2) rfl)) (fun _ h9 => h9) rfl dX6_year_14 ?_
    refine lv_bipush (v := 99) hx hb dX6_year_17 (by decide) ?_
    refine lv_icmp_lt (tgt := 25) hx hb dX6_year_19 (by decide) (fun c_4 => ?_) (fun c_4 => ?_)
    · skip
      refine lv_aload_n hx hb dX6_year_25 rfl (lv_at hl 0 rfl) ?_
      refine va_get (D := D) (ci := 6) (v := .ref xn) (C := RX6) (T := TX6) (N := 12) hx hb hts (fun w h => List.mem_cons_of_mem _ (List.mem_append_left _ (List.mem_append_right _ h))) hown hK hP 0 rfl rfl 4 (by decide) (hts (Cond.fieldLink RX6 29 "JamDays" "now" "LJamDays$Days;") (List.mem_of_getElem? (i := 1) rfl)) (fun _ h9 => h9) rfl dX6_year_26 ?_
      have hPc_5 := hP.sub (ws' := [(xn, .inr (1, [.int y, .int ea, .int lo, .int jo, .int ta, .ref ns, .ref ne, .ref n7, .ref n8])), (ns, .inl (cI, 6, .inl sp)), (ne, .inl (cI, 6, .inl en)), (n7, .inl (cI, 6, .inl tY)), (n8, .inl (cI, 6, .inl tW))]) [1, 2, 3, 4, 5] rfl
      have hDc_6 := hD.sub (ws' := [(xn, .inr (1, [.int y, .int ea, .int lo, .int jo, .int ta, .ref ns, .ref ne, .ref n7, .ref n8])), (ns, .inl (cI, 6, .inl sp)), (ne, .inl (cI, 6, .inl en)), (n7, .inl (cI, 6, .inl tY)), (n8, .inl (cI, 6, .inl tW))]) [1, 2, 3, 4, 5] (by decide) rfl
      have hFc_7 := va_free (wc := [(xn, .inr (1, [.int y, .int ea, .int lo, .int jo, .int ta, .ref ns, .ref ne, .ref n7, .ref n8])), (ns, .inl (cI, 6, .inl sp)), (ne, .inl (cI, 6, .inl en)), (n7, .inl (cI, 6, .inl tY)), (n8, .inl (cI, 6, .inl tW))]) hD hS hA [1, 2, 3, 4, 5] rfl
      refine jcallWv (post := fun H => va_P D vwCl [(xn, .inr (1, [.int (y + 1), .int ea, .int lo, .int jo, .int ta, .ref ns, .ref ne, .ref n7, .ref n8])), (ns, .inl (cI, 6, .inl sp)), (ne, .inl (cI, 6, .inl (jfl (fun _ => 0) en 6))), (n7, .inl (cI, 6, .inl tY)), (n8, .inl (cI, 6, .inl tW))] H) (va_runV (As := []) (rest := []) ⟨hx, hb, hml, hown, hts⟩ (c_passYear l D cI cJ xn ns ne n7 n8 y ea lo jo ta sp en tY tW H.size) (cwV 0 hts gX6_year_X1_passYear rfl rfl rfl (by decide +kernel) ⟨Nat.le_of_ble_eq_true rfl, Nat.le_of_ble_eq_true rfl⟩) (jpreV hT (va_recv hK hP (ci := 1) (q0 := 1) rfl rfl) ⟨hPc_5, hDc_6.weaken (fun _ _ _ _ => trivial), trivial⟩) rfl rfl hl.1 rfl (lv_room (Nat.le_of_ble_eq_true rfl)) dX6_year_29 ⟨(Nat.zero_le _), (Nat.zero_le _)⟩) hS hFc_7 (fun H locs hw_r_8 hz hkq hS => ?_)
      have hP1 := hw_r_8
      obtain ⟨hP, hD⟩ := jjoin (wc := [(xn, .inr (1, [.int y, .int ea, .int lo, .int jo, .int ta, .ref ns, .ref ne, .ref n7, .ref n8])), (ns, .inl (cI, 6, .inl sp)), (ne, .inl (cI, 6, .inl en)), (n7, .inl (cI, 6, .inl tY)), (n8, .inl (cI, 6, .inl tW))]) (wr := [(x, .inr (6, [a0, a1, a2, .int (nI n), .ref xn, a5, a6, a7, a8, a9, a10, a11]))]) (w1 := [(xn, .inr (1, [.int (y + 1), .int ea, .int lo, .int jo, .int ta, .ref ns, .ref ne, .ref n7, .ref n8])), (ns, .inl (cI, 6, .inl sp)), (ne, .inl (cI, 6, .inl (jfl (fun _ => 0) en 6))), (n7, .inl (cI, 6, .inl tY)), (n8, .inl (cI, 6, .inl tW))]) (ws' := [(x, .inr (6, [a0, a1, a2, .int (nI n), .ref xn, a5, a6, a7, a8, a9, a10, a11])), (xn, .inr (1, [.int (y + 1), .int ea, .int lo, .int jo, .int ta, .ref ns, .ref ne, .ref n7, .ref n8])), (ns, .inl (cI, 6, .inl sp)), (ne, .inl (cI, 6, .inl (jfl (fun _ => 0) en 6))), (n7, .inl (cI, 6, .inl tY)), (n8, .inl (cI, 6, .inl tW))]) hP hD hFc_7 [1, 2, 3, 4, 5] [0] [0, 1, 2, 3, 4, 5] rfl rfl (by decide) (by decide) (by decide) (by decide) hkq hP1 rfl rfl rfl
      refine lv_aload_n hx hb dX6_year_32 rfl (lv_at hl 0 rfl) ?_
      refine va_get (D := D) (ci := 6) (v := .ref xn) (C := RX6) (T := TX6) (N := 12) hx hb hts (fun w h => List.mem_cons_of_mem _ (List.mem_append_left _ (List.mem_append_right _ h))) hown hK hP 0 rfl rfl 4 (by decide) (hts (Cond.fieldLink RX6 29 "JamDays" "now" "LJamDays$Days;") (List.mem_of_getElem? (i := 1) rfl)) (fun _ h9 => h9) rfl dX6_year_33 ?_
      refine va_get (D := D) (ci := 1) (v := .int (y + 1)) (C := RX1) (T := TX1) (N := 9) hx hb hts (fun w h => List.mem_cons_of_mem _ (List.mem_append_right _ h)) hown hK hP 1 rfl rfl 0 (by decide) (hts (Cond.fieldLink RX6 91 "JamDays$Days" "year" "I") (List.mem_of_getElem? (i := 2) rfl)) (fun _ h9 => h9) rfl dX6_year_36 ?_
      exact W.iret (v := y + 1) hx hb hr (fun t ht hW => ⟨⟨y + 1, y + 1, rfl, rfl, by dsimp only; rw [ht]; exact ⟨rfl, hP⟩⟩, hS.F ht⟩) hS.2.2 dX6_year_39
    · skip
      exact absurd h9 c_4
  · skip
    exact absurd c_3 (by decide)

