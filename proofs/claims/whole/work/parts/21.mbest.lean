set_option maxHeartbeats 4000000 in
set_option maxRecDepth 100000 in
theorem c_mbest_out1 (l : Launch) (D : va_G) (cI cJ : ClassId) (z : Nat) (p0 : Int32) (p1 : Int32) (h9 : p0 < 0 ∨ 12 < p0) : jRi l yX7_best wsX7_best ({ frames := 1, cells := 0, slots := 0, locals := 25 }) [.ref z, .int p0, .int p1] D cI cJ (fun H => True) (fun r => r = -102) := by
  intro sz
  refine Met.ofW (cc := cX7_best) (maxL := 3) (ret := (some .int)) (by decide) rfl ?_
  intro p e s m args below meth c s₁ B hml hv
  obtain ⟨rfl, hsz, hT, _⟩ := hv
  have hK := hT.1
  have hx := B.exec
  have hb := B.bytes
  have hr := B.returns
  have hts := atoms_spec (ws := wsX7_best) B.pre
  have hown : s.vm.findClass RX7 = some m.cls := findClass_of_methodNamed B.named
  have hlocks := B.notSynchronized
  subst hsz
  generalize hAe : va_A [] s.heap.size = A
  have hA : ∀ q : Nat, s.heap.size ≤ q → A q := fun q h => by rw [← hAe]; exact Or.inr h
  have hS : va_S A s.heap s.heap [] := va_S.rf
  have hl := lv_entry ([.ref z, .int p0, .int p1] : List Value) (n := 3) (Nat.le_of_ble_eq_true rfl)
  rw [lg_entry_eq]
  generalize (lg_sl ([.ref z, .int p0, .int p1]) ++ List.replicate (3 - (lg_sl ([.ref z, .int p0, .int p1])).length) Slot.unset).toArray = ls at hl ⊢
  have hl : lv_has ls 3 [(0, .ref z), (1, .int p0), (2, .int p1)] := hl
  refine lv_iload_n hx hb dX7_best_0 rfl (lv_at hl 1 rfl) ?_
  refine lv_i2l (v := p0.toInt64) hx hb dX7_best_1 rfl ?_
  refine lv_lconst (v := 0) hx hb dX7_best_2 (by decide) ?_
  refine lv_ldc2 (v := 12) hx hb hown (hts (Cond.constantLong RX7 125 (12)) (List.mem_of_getElem? (i := 1) rfl)) dX7_best_3 ?_
  refine jcalli (va_runS (As := [.long p0.toInt64, .long 0, .long 12]) (rest := []) ⟨hx, hb, hml, hown, hts⟩ (c_in_n l D cI cJ p0.toInt64 0 12 (h9.elim (fun h => Or.inl (jw_lt (b := 0) h)) (fun h => Or.inr (jw_lt (a := 12) h))) s.heap.size) (va_cwS 3 hts gX7_best_X7_in rfl rfl rfl (by decide +kernel) ⟨Nat.le_of_ble_eq_true rfl, Nat.le_of_ble_eq_true rfl⟩) (jpreS hT trivial) rfl rfl hl.1 rfl (lv_room (Nat.le_of_ble_eq_true rfl)) dX7_best_6 ⟨(Nat.zero_le _), (Nat.zero_le _)⟩) hS hA (fun r_1 H locs hw_r_1 hkq hS => ?_)
  try dsimp only at hw_r_1
  subst hw_r_1
  refine lv_if_eq (tgt := 30) hx hb dX7_best_9 (by decide) (fun c_2 => ?_) (fun c_2 => ?_)
  · skip
    refine lv_bipush (v := (-102)) hx hb dX7_best_30 (by decide) ?_
    exact W.iret (v := (-102)) hx hb hr (fun t ht hW => ⟨⟨(-102), (), rfl, rfl, trivial⟩, hS.F ht⟩) hS.2.2 dX7_best_32
  · skip
    exact absurd c_2 (by decide)

set_option maxHeartbeats 4000000 in
set_option maxRecDepth 100000 in
theorem c_mbest_out2 (l : Launch) (D : va_G) (cI cJ : ClassId) (z : Nat) (p0 : Int32) (p1 : Int32) (h1 : 0 ≤ p0) (h2 : p0 ≤ 12) (h8 : ¬ p1 = 0) (h9 : p1 < 10 ∨ 15 < p1) : jRi l yX7_best wsX7_best ({ frames := 1, cells := 0, slots := 0, locals := 25 }) [.ref z, .int p0, .int p1] D cI cJ (fun H => True) (fun r => r = -102) := by
  intro sz
  refine Met.ofW (cc := cX7_best) (maxL := 3) (ret := (some .int)) (by decide) rfl ?_
  intro p e s m args below meth c s₁ B hml hv
  obtain ⟨rfl, hsz, hT, _⟩ := hv
  have hK := hT.1
  have hx := B.exec
  have hb := B.bytes
  have hr := B.returns
  have hts := atoms_spec (ws := wsX7_best) B.pre
  have hown : s.vm.findClass RX7 = some m.cls := findClass_of_methodNamed B.named
  have hlocks := B.notSynchronized
  subst hsz
  generalize hAe : va_A [] s.heap.size = A
  have hA : ∀ q : Nat, s.heap.size ≤ q → A q := fun q h => by rw [← hAe]; exact Or.inr h
  have hS : va_S A s.heap s.heap [] := va_S.rf
  have hl := lv_entry ([.ref z, .int p0, .int p1] : List Value) (n := 3) (Nat.le_of_ble_eq_true rfl)
  rw [lg_entry_eq]
  generalize (lg_sl ([.ref z, .int p0, .int p1]) ++ List.replicate (3 - (lg_sl ([.ref z, .int p0, .int p1])).length) Slot.unset).toArray = ls at hl ⊢
  have hl : lv_has ls 3 [(0, .ref z), (1, .int p0), (2, .int p1)] := hl
  refine lv_iload_n hx hb dX7_best_0 rfl (lv_at hl 1 rfl) ?_
  refine lv_i2l (v := p0.toInt64) hx hb dX7_best_1 rfl ?_
  refine lv_lconst (v := 0) hx hb dX7_best_2 (by decide) ?_
  refine lv_ldc2 (v := 12) hx hb hown (hts (Cond.constantLong RX7 125 (12)) (List.mem_of_getElem? (i := 1) rfl)) dX7_best_3 ?_
  refine jcalli (va_runS (As := [.long p0.toInt64, .long 0, .long 12]) (rest := []) ⟨hx, hb, hml, hown, hts⟩ (c_in_y l D cI cJ p0.toInt64 0 12 (jw_le (a := 0) h1) (jw_le (b := 12) h2) s.heap.size) (va_cwS 3 hts gX7_best_X7_in rfl rfl rfl (by decide +kernel) ⟨Nat.le_of_ble_eq_true rfl, Nat.le_of_ble_eq_true rfl⟩) (jpreS hT trivial) rfl rfl hl.1 rfl (lv_room (Nat.le_of_ble_eq_true rfl)) dX7_best_6 ⟨(Nat.zero_le _), (Nat.zero_le _)⟩) hS hA (fun r_1 H locs hw_r_1 hkq hS => ?_)
  try dsimp only at hw_r_1
  subst hw_r_1
  refine lv_if_eq (tgt := 30) hx hb dX7_best_9 (by decide) (fun c_2 => ?_) (fun c_2 => ?_)
  · skip
    exact absurd c_2 (by decide)
  · skip
    refine lv_iload_n hx hb dX7_best_12 rfl (lv_at hl 2 rfl) ?_
    refine lv_if_eq (tgt := 33) hx hb dX7_best_13 (by decide) (fun c_3 => ?_) (fun c_3 => ?_)
    · skip
      exact absurd c_3 h8
    · skip
      refine lv_iload_n hx hb dX7_best_16 rfl (lv_at hl 2 rfl) ?_
      refine lv_i2l (v := p1.toInt64) hx hb dX7_best_17 rfl ?_
      refine lv_ldc2 (v := 10) hx hb hown (hts (Cond.constantLong RX7 127 (10)) (List.mem_of_getElem? (i := 2) rfl)) dX7_best_18 ?_
      refine lv_ldc2 (v := 15) hx hb hown (hts (Cond.constantLong RX7 129 (15)) (List.mem_of_getElem? (i := 3) rfl)) dX7_best_21 ?_
      refine jcalli (va_runS (As := [.long p1.toInt64, .long 10, .long 15]) (rest := []) ⟨hx, hb, hml, hown, hts⟩ (c_in_n l D cI cJ p1.toInt64 10 15 (h9.elim (fun h => Or.inl (jw_lt (b := 10) h)) (fun h => Or.inr (jw_lt (a := 15) h))) H.size) (va_cwS 3 hts gX7_best_X7_in rfl rfl rfl (by decide +kernel) ⟨Nat.le_of_ble_eq_true rfl, Nat.le_of_ble_eq_true rfl⟩) (jpreS hT trivial) rfl rfl hl.1 rfl (lv_room (Nat.le_of_ble_eq_true rfl)) dX7_best_24 ⟨(Nat.zero_le _), (Nat.zero_le _)⟩) hS hA (fun r_4 H locs hw_r_4 hkq hS => ?_)
      try dsimp only at hw_r_4
      subst hw_r_4
      refine lv_if_ne (tgt := 33) hx hb dX7_best_27 (by decide) (fun c_5 => ?_) (fun c_5 => ?_)
      · skip
        exact absurd c_5 (by decide)
      · skip
        refine lv_bipush (v := (-102)) hx hb dX7_best_30 (by decide) ?_
        exact W.iret (v := (-102)) hx hb hr (fun t ht hW => ⟨⟨(-102), (), rfl, rfl, trivial⟩, hS.F ht⟩) hS.2.2 dX7_best_32

set_option maxHeartbeats 4000000 in
set_option maxRecDepth 100000 in
theorem c_mbest_n0 (l : Launch) (D : va_G) (cI cJ : ClassId) (z : Nat) (n : Nat) (s9 : Nat) (a0 : Value) (a1 : Value) (a3 : Value) (a4 : Value) (a5 : Value) (a6 : Value) (a7 : Value) (a8 : Value) (a9 : Value) (a10 : Value) (a11 : Value) (a12 : Value) (a13 : Value) (a14 : Value) (a15 : Value) (a16 : Value) (a17 : Value) (a18 : Value) (a19 : Value) (a20 : Value) (a21 : Value) (a22 : Value) (a23 : Value) (a24 : Value) (hs : s9 < 13) (hn0 : n = 0) : jRi l yX7_best wsX7_best ({ frames := 1, cells := 0, slots := 0, locals := 25 }) [.ref z, .int (nI s9), .int 0] D cI cJ (fun H => va_P D vwCl [(z, .inr (7, [a0, a1, .int (nI n), a3, a4, a5, a6, a7, a8, a9, a10, a11, a12, a13, a14, a15, a16, a17, a18, a19, a20, a21, a22, a23, a24]))] H) (fun r => r = -103) := by
  intro sz
  refine Met.ofW (cc := cX7_best) (maxL := 3) (ret := (some .int)) (by decide) rfl ?_
  intro p e s m args below meth c s₁ B hml hv
  obtain ⟨rfl, hsz, hT, hPr⟩ := hv
  have hK := hT.1
  have hx := B.exec
  have hb := B.bytes
  have hr := B.returns
  have hts := atoms_spec (ws := wsX7_best) B.pre
  have hown : s.vm.findClass RX7 = some m.cls := findClass_of_methodNamed B.named
  have hlocks := B.notSynchronized
  subst hsz
  generalize hAe : va_A [] s.heap.size = A
  have hA : ∀ q : Nat, s.heap.size ≤ q → A q := fun q h => by rw [← hAe]; exact Or.inr h
  have hS : va_S A s.heap s.heap [] := va_S.rf
  have hl := lv_entry ([.ref z, .int (nI s9), .int 0] : List Value) (n := 3) (Nat.le_of_ble_eq_true rfl)
  rw [lg_entry_eq]
  generalize (lg_sl ([.ref z, .int (nI s9), .int 0]) ++ List.replicate (3 - (lg_sl ([.ref z, .int (nI s9), .int 0])).length) Slot.unset).toArray = ls at hl ⊢
  have hl : lv_has ls 3 [(0, .ref z), (1, .int (nI s9)), (2, .int 0)] := hl
  refine lv_iload_n hx hb dX7_best_0 rfl (lv_at hl 1 rfl) ?_
  refine lv_i2l (v := (nI s9).toInt64) hx hb dX7_best_1 rfl ?_
  refine lv_lconst (v := 0) hx hb dX7_best_2 (by decide) ?_
  refine lv_ldc2 (v := 12) hx hb hown (hts (Cond.constantLong RX7 125 (12)) (List.mem_of_getElem? (i := 1) rfl)) dX7_best_3 ?_
  refine jcalli (va_runS (As := [.long ((nI s9).toInt64), .long 0, .long 12]) (rest := []) ⟨hx, hb, hml, hown, hts⟩ (c_in_y l D cI cJ ((nI s9).toInt64) 0 12 (jw_le (a := 0) (nI_pos' (by omega))) (jw_le (b := 12) ((nI_leI (a := s9) (b := 12) (by omega) (by omega)).mpr (by omega))) s.heap.size) (va_cwS 3 hts gX7_best_X7_in rfl rfl rfl (by decide +kernel) ⟨Nat.le_of_ble_eq_true rfl, Nat.le_of_ble_eq_true rfl⟩) (jpreS hT trivial) rfl rfl hl.1 rfl (lv_room (Nat.le_of_ble_eq_true rfl)) dX7_best_6 ⟨(Nat.zero_le _), (Nat.zero_le _)⟩) hS hA (fun r_1 H locs hw_r_1 hkq hS => ?_)
  try dsimp only at hw_r_1
  have hPr := jkeep hPr hkq
  subst hw_r_1
  refine lv_if_eq (tgt := 30) hx hb dX7_best_9 (by decide) (fun c_2 => ?_) (fun c_2 => ?_)
  · skip
    exact absurd c_2 (by decide)
  · skip
    refine lv_iload_n hx hb dX7_best_12 rfl (lv_at hl 2 rfl) ?_
    refine lv_if_eq (tgt := 33) hx hb dX7_best_13 (by decide) (fun c_3 => ?_) (fun c_3 => ?_)
    · skip
      refine lv_aload_n hx hb dX7_best_33 rfl (lv_at hl 0 rfl) ?_
      have hPc_4 := hPr.sub (ws' := [(z, .inr (7, [a0, a1, .int (nI n), a3, a4, a5, a6, a7, a8, a9, a10, a11, a12, a13, a14, a15, a16, a17, a18, a19, a20, a21, a22, a23, a24]))]) [0] rfl
      refine jcalli (va_runV (As := []) (rest := []) ⟨hx, hb, hml, hown, hts⟩ (c_lacks_y l D cI cJ z n a0 a1 a3 a4 a5 a6 a7 a8 a9 a10 a11 a12 a13 a14 a15 a16 a17 a18 a19 a20 a21 a22 a23 a24 hn0 H.size) (cwV 0 hts gX7_best_X7_lacks rfl rfl rfl (by decide +kernel) ⟨Nat.le_of_ble_eq_true rfl, Nat.le_of_ble_eq_true rfl⟩) (jpreV hT (va_recv hK hPr (ci := 7) (q0 := 0) rfl rfl) hPc_4) rfl rfl hl.1 rfl (lv_room (Nat.le_of_ble_eq_true rfl)) dX7_best_34 ⟨(Nat.zero_le _), (Nat.zero_le _)⟩) hS hA (fun r_5 H locs hw_r_5 hkq hS => ?_)
      try dsimp only at hw_r_5
      have hPr := jkeep hPr hkq
      subst hw_r_5
      refine lv_if_ne (tgt := 49) hx hb dX7_best_37 (by decide) (fun c_6 => ?_) (fun c_6 => ?_)
      · skip
        refine lv_bipush (v := (-103)) hx hb dX7_best_49 (by decide) ?_
        exact W.iret (v := (-103)) hx hb hr (fun t ht hW => ⟨⟨(-103), (), rfl, rfl, trivial⟩, hS.F ht⟩) hS.2.2 dX7_best_51
      · skip
        exact absurd c_6 (by decide)
    · skip
      exact absurd c_3 (by decide)

set_option maxHeartbeats 4000000 in
set_option maxRecDepth 100000 in
theorem c_mbest_full0 (l : Launch) (D : va_G) (cI cJ : ClassId) (z : Nat) (n : Nat) (bd : Nat) (s9 : Nat) (a0 : Value) (a1 : Value) (a3 : Value) (a4 : Value) (a5 : Value) (a6 : Value) (a7 : Value) (a8 : Value) (a10 : Value) (a11 : Value) (a12 : Value) (a13 : Value) (a14 : Value) (a15 : Value) (a16 : Value) (a17 : Value) (a18 : Value) (a19 : Value) (a20 : Value) (a21 : Value) (a22 : Value) (a23 : Value) (a24 : Value) (hs : s9 < 13) (hn0 : 0 < n) (hn6 : n ≤ 6) (hbd : bd = 40) : jRi l yX7_best wsX7_best ({ frames := 1, cells := 0, slots := 0, locals := 25 }) [.ref z, .int (nI s9), .int 0] D cI cJ (fun H => va_P D vwCl [(z, .inr (7, [a0, a1, .int (nI n), a3, a4, a5, a6, a7, a8, .int (nI bd), a10, a11, a12, a13, a14, a15, a16, a17, a18, a19, a20, a21, a22, a23, a24]))] H) (fun r => r = -103) := by
  intro sz
  refine Met.ofW (cc := cX7_best) (maxL := 3) (ret := (some .int)) (by decide) rfl ?_
  intro p e s m args below meth c s₁ B hml hv
  obtain ⟨rfl, hsz, hT, hPr⟩ := hv
  have hK := hT.1
  have hx := B.exec
  have hb := B.bytes
  have hr := B.returns
  have hts := atoms_spec (ws := wsX7_best) B.pre
  have hown : s.vm.findClass RX7 = some m.cls := findClass_of_methodNamed B.named
  have hlocks := B.notSynchronized
  subst hsz
  generalize hAe : va_A [] s.heap.size = A
  have hA : ∀ q : Nat, s.heap.size ≤ q → A q := fun q h => by rw [← hAe]; exact Or.inr h
  have hS : va_S A s.heap s.heap [] := va_S.rf
  have hl := lv_entry ([.ref z, .int (nI s9), .int 0] : List Value) (n := 3) (Nat.le_of_ble_eq_true rfl)
  rw [lg_entry_eq]
  generalize (lg_sl ([.ref z, .int (nI s9), .int 0]) ++ List.replicate (3 - (lg_sl ([.ref z, .int (nI s9), .int 0])).length) Slot.unset).toArray = ls at hl ⊢
  have hl : lv_has ls 3 [(0, .ref z), (1, .int (nI s9)), (2, .int 0)] := hl
  refine lv_iload_n hx hb dX7_best_0 rfl (lv_at hl 1 rfl) ?_
  refine lv_i2l (v := (nI s9).toInt64) hx hb dX7_best_1 rfl ?_
  refine lv_lconst (v := 0) hx hb dX7_best_2 (by decide) ?_
  refine lv_ldc2 (v := 12) hx hb hown (hts (Cond.constantLong RX7 125 (12)) (List.mem_of_getElem? (i := 1) rfl)) dX7_best_3 ?_
  refine jcalli (va_runS (As := [.long ((nI s9).toInt64), .long 0, .long 12]) (rest := []) ⟨hx, hb, hml, hown, hts⟩ (c_in_y l D cI cJ ((nI s9).toInt64) 0 12 (jw_le (a := 0) (nI_pos' (by omega))) (jw_le (b := 12) ((nI_leI (a := s9) (b := 12) (by omega) (by omega)).mpr (by omega))) s.heap.size) (va_cwS 3 hts gX7_best_X7_in rfl rfl rfl (by decide +kernel) ⟨Nat.le_of_ble_eq_true rfl, Nat.le_of_ble_eq_true rfl⟩) (jpreS hT trivial) rfl rfl hl.1 rfl (lv_room (Nat.le_of_ble_eq_true rfl)) dX7_best_6 ⟨(Nat.zero_le _), (Nat.zero_le _)⟩) hS hA (fun r_1 H locs hw_r_1 hkq hS => ?_)
  try dsimp only at hw_r_1
  have hPr := jkeep hPr hkq
  subst hw_r_1
  refine lv_if_eq (tgt := 30) hx hb dX7_best_9 (by decide) (fun c_2 => ?_) (fun c_2 => ?_)
  · skip
    exact absurd c_2 (by decide)
  · skip
    refine lv_iload_n hx hb dX7_best_12 rfl (lv_at hl 2 rfl) ?_
    refine lv_if_eq (tgt := 33) hx hb dX7_best_13 (by decide) (fun c_3 => ?_) (fun c_3 => ?_)
    · skip
      refine lv_aload_n hx hb dX7_best_33 rfl (lv_at hl 0 rfl) ?_
      have hPc_4 := hPr.sub (ws' := [(z, .inr (7, [a0, a1, .int (nI n), a3, a4, a5, a6, a7, a8, .int (nI bd), a10, a11, a12, a13, a14, a15, a16, a17, a18, a19, a20, a21, a22, a23, a24]))]) [0] rfl
      refine jcalli (va_runV (As := []) (rest := []) ⟨hx, hb, hml, hown, hts⟩ (c_lacks_n l D cI cJ z n a0 a1 a3 a4 a5 a6 a7 a8 (.int (nI bd)) a10 a11 a12 a13 a14 a15 a16 a17 a18 a19 a20 a21 a22 a23 a24 hn0 hn6 H.size) (cwV 0 hts gX7_best_X7_lacks rfl rfl rfl (by decide +kernel) ⟨Nat.le_of_ble_eq_true rfl, Nat.le_of_ble_eq_true rfl⟩) (jpreV hT (va_recv hK hPr (ci := 7) (q0 := 0) rfl rfl) hPc_4) rfl rfl hl.1 rfl (lv_room (Nat.le_of_ble_eq_true rfl)) dX7_best_34 ⟨(Nat.zero_le _), (Nat.zero_le _)⟩) hS hA (fun r_5 H locs hw_r_5 hkq hS => ?_)
      try dsimp only at hw_r_5
      have hPr := jkeep hPr hkq
      subst hw_r_5
      refine lv_if_ne (tgt := 49) hx hb dX7_best_37 (by decide) (fun c_6 => ?_) (fun c_6 => ?_)
      · skip
        exact absurd c_6 (by decide)
      · skip
        refine lv_aload_n hx hb dX7_best_40 rfl (lv_at hl 0 rfl) ?_
        refine va_get (D := D) (ci := 7) (v := .int (nI bd)) (C := RX7) (T := TX7) (N := 25) hx hb hts (fun w h => List.mem_cons_of_mem _ (List.mem_append_right _ h)) hown hK hPr 0 rfl rfl 9 (by decide) (hts (Cond.fieldLink RX7 131 "JamDaysModel" "bestDone" "I") (List.mem_of_getElem? (i := 4) rfl)) (fun _ h9 => h9) rfl dX7_best_41 ?_
        refine lv_bipush (v := 40) hx hb dX7_best_44 (by decide) ?_
        refine lv_icmp_ne (tgt := 52) hx hb dX7_best_46 (by decide) (fun c_7 => ?_) (fun c_7 => ?_)
        · skip
          replace c_7 : ¬ bd = 40 := fun h => c_7 ((nI_eq (a := bd) (b := 40) (by omega) (by omega)).mpr h)
          exact absurd c_7 (by omega)
        · skip
          replace c_7 : bd = 40 := (nI_eq (a := bd) (b := 40) (by omega) (by omega)).mp c_7
          refine lv_bipush (v := (-103)) hx hb dX7_best_49 (by decide) ?_
          exact W.iret (v := (-103)) hx hb hr (fun t ht hW => ⟨⟨(-103), (), rfl, rfl, trivial⟩, hS.F ht⟩) hS.2.2 dX7_best_51
    · skip
      exact absurd c_3 (by decide)

set_option maxHeartbeats 4000000 in
set_option maxRecDepth 100000 in
theorem c_mbest_n1 (l : Launch) (D : va_G) (cI cJ : ClassId) (z : Nat) (n : Nat) (s9 : Nat) (a0 : Value) (a1 : Value) (a3 : Value) (a4 : Value) (a5 : Value) (a6 : Value) (a7 : Value) (a8 : Value) (a9 : Value) (a10 : Value) (a11 : Value) (a12 : Value) (a13 : Value) (a14 : Value) (a15 : Value) (a16 : Value) (a17 : Value) (a18 : Value) (a19 : Value) (a20 : Value) (a21 : Value) (a22 : Value) (a23 : Value) (a24 : Value) (wq : Nat) (hs : s9 < 13) (h10 : 10 ≤ wq) (h16 : wq < 16) (hn0 : n = 0) : jRi l yX7_best wsX7_best ({ frames := 1, cells := 0, slots := 0, locals := 25 }) [.ref z, .int (nI s9), .int (nI wq)] D cI cJ (fun H => va_P D vwCl [(z, .inr (7, [a0, a1, .int (nI n), a3, a4, a5, a6, a7, a8, a9, a10, a11, a12, a13, a14, a15, a16, a17, a18, a19, a20, a21, a22, a23, a24]))] H) (fun r => r = -103) := by
  intro sz
  refine Met.ofW (cc := cX7_best) (maxL := 3) (ret := (some .int)) (by decide) rfl ?_
  intro p e s m args below meth c s₁ B hml hv
  obtain ⟨rfl, hsz, hT, hPr⟩ := hv
  have hK := hT.1
  have hx := B.exec
  have hb := B.bytes
  have hr := B.returns
  have hts := atoms_spec (ws := wsX7_best) B.pre
  have hown : s.vm.findClass RX7 = some m.cls := findClass_of_methodNamed B.named
  have hlocks := B.notSynchronized
  subst hsz
  generalize hAe : va_A [] s.heap.size = A
  have hA : ∀ q : Nat, s.heap.size ≤ q → A q := fun q h => by rw [← hAe]; exact Or.inr h
  have hS : va_S A s.heap s.heap [] := va_S.rf
  have hl := lv_entry ([.ref z, .int (nI s9), .int (nI wq)] : List Value) (n := 3) (Nat.le_of_ble_eq_true rfl)
  rw [lg_entry_eq]
  generalize (lg_sl ([.ref z, .int (nI s9), .int (nI wq)]) ++ List.replicate (3 - (lg_sl ([.ref z, .int (nI s9), .int (nI wq)])).length) Slot.unset).toArray = ls at hl ⊢
  have hl : lv_has ls 3 [(0, .ref z), (1, .int (nI s9)), (2, .int (nI wq))] := hl
  refine lv_iload_n hx hb dX7_best_0 rfl (lv_at hl 1 rfl) ?_
  refine lv_i2l (v := (nI s9).toInt64) hx hb dX7_best_1 rfl ?_
  refine lv_lconst (v := 0) hx hb dX7_best_2 (by decide) ?_
  refine lv_ldc2 (v := 12) hx hb hown (hts (Cond.constantLong RX7 125 (12)) (List.mem_of_getElem? (i := 1) rfl)) dX7_best_3 ?_
  refine jcalli (va_runS (As := [.long ((nI s9).toInt64), .long 0, .long 12]) (rest := []) ⟨hx, hb, hml, hown, hts⟩ (c_in_y l D cI cJ ((nI s9).toInt64) 0 12 (jw_le (a := 0) (nI_pos' (by omega))) (jw_le (b := 12) ((nI_leI (a := s9) (b := 12) (by omega) (by omega)).mpr (by omega))) s.heap.size) (va_cwS 3 hts gX7_best_X7_in rfl rfl rfl (by decide +kernel) ⟨Nat.le_of_ble_eq_true rfl, Nat.le_of_ble_eq_true rfl⟩) (jpreS hT trivial) rfl rfl hl.1 rfl (lv_room (Nat.le_of_ble_eq_true rfl)) dX7_best_6 ⟨(Nat.zero_le _), (Nat.zero_le _)⟩) hS hA (fun r_1 H locs hw_r_1 hkq hS => ?_)
  try dsimp only at hw_r_1
  have hPr := jkeep hPr hkq
  subst hw_r_1
  refine lv_if_eq (tgt := 30) hx hb dX7_best_9 (by decide) (fun c_2 => ?_) (fun c_2 => ?_)
  · skip
    exact absurd c_2 (by decide)
  · skip
    refine lv_iload_n hx hb dX7_best_12 rfl (lv_at hl 2 rfl) ?_
    refine lv_if_eq (tgt := 33) hx hb dX7_best_13 (by decide) (fun c_3 => ?_) (fun c_3 => ?_)
    · skip
      replace c_3 : wq = 0 := (nI_eq (a := wq) (b := 0) (by omega) (by omega)).mp c_3
      exact absurd c_3 (by omega)
    · skip
      replace c_3 : ¬ wq = 0 := fun h => c_3 ((nI_eq (a := wq) (b := 0) (by omega) (by omega)).mpr h)
      refine lv_iload_n hx hb dX7_best_16 rfl (lv_at hl 2 rfl) ?_
      refine lv_i2l (v := (nI wq).toInt64) hx hb dX7_best_17 rfl ?_
      refine lv_ldc2 (v := 10) hx hb hown (hts (Cond.constantLong RX7 127 (10)) (List.mem_of_getElem? (i := 2) rfl)) dX7_best_18 ?_
      refine lv_ldc2 (v := 15) hx hb hown (hts (Cond.constantLong RX7 129 (15)) (List.mem_of_getElem? (i := 3) rfl)) dX7_best_21 ?_
      refine jcalli (va_runS (As := [.long ((nI wq).toInt64), .long 10, .long 15]) (rest := []) ⟨hx, hb, hml, hown, hts⟩ (c_in_y l D cI cJ ((nI wq).toInt64) 10 15 (jw_le (a := 10) ((nI_leI (a := 10) (b := wq) (by omega) (by omega)).mpr h10)) (jw_le (b := 15) ((nI_leI (a := wq) (b := 15) (by omega) (by omega)).mpr (by omega))) H.size) (va_cwS 3 hts gX7_best_X7_in rfl rfl rfl (by decide +kernel) ⟨Nat.le_of_ble_eq_true rfl, Nat.le_of_ble_eq_true rfl⟩) (jpreS hT trivial) rfl rfl hl.1 rfl (lv_room (Nat.le_of_ble_eq_true rfl)) dX7_best_24 ⟨(Nat.zero_le _), (Nat.zero_le _)⟩) hS hA (fun r_4 H locs hw_r_4 hkq hS => ?_)
      try dsimp only at hw_r_4
      have hPr := jkeep hPr hkq
      subst hw_r_4
      refine lv_if_ne (tgt := 33) hx hb dX7_best_27 (by decide) (fun c_5 => ?_) (fun c_5 => ?_)
      · skip
        refine lv_aload_n hx hb dX7_best_33 rfl (lv_at hl 0 rfl) ?_
        have hPc_6 := hPr.sub (ws' := [(z, .inr (7, [a0, a1, .int (nI n), a3, a4, a5, a6, a7, a8, a9, a10, a11, a12, a13, a14, a15, a16, a17, a18, a19, a20, a21, a22, a23, a24]))]) [0] rfl
        refine jcalli (va_runV (As := []) (rest := []) ⟨hx, hb, hml, hown, hts⟩ (c_lacks_y l D cI cJ z n a0 a1 a3 a4 a5 a6 a7 a8 a9 a10 a11 a12 a13 a14 a15 a16 a17 a18 a19 a20 a21 a22 a23 a24 hn0 H.size) (cwV 0 hts gX7_best_X7_lacks rfl rfl rfl (by decide +kernel) ⟨Nat.le_of_ble_eq_true rfl, Nat.le_of_ble_eq_true rfl⟩) (jpreV hT (va_recv hK hPr (ci := 7) (q0 := 0) rfl rfl) hPc_6) rfl rfl hl.1 rfl (lv_room (Nat.le_of_ble_eq_true rfl)) dX7_best_34 ⟨(Nat.zero_le _), (Nat.zero_le _)⟩) hS hA (fun r_7 H locs hw_r_7 hkq hS => ?_)
        try dsimp only at hw_r_7
        have hPr := jkeep hPr hkq
        subst hw_r_7
        refine lv_if_ne (tgt := 49) hx hb dX7_best_37 (by decide) (fun c_8 => ?_) (fun c_8 => ?_)
        · skip
          refine lv_bipush (v := (-103)) hx hb dX7_best_49 (by decide) ?_
          exact W.iret (v := (-103)) hx hb hr (fun t ht hW => ⟨⟨(-103), (), rfl, rfl, trivial⟩, hS.F ht⟩) hS.2.2 dX7_best_51
        · skip
          exact absurd c_8 (by decide)
      · skip
        exact absurd c_5 (by decide)

set_option maxHeartbeats 4000000 in
set_option maxRecDepth 100000 in
theorem c_mbest_full1 (l : Launch) (D : va_G) (cI cJ : ClassId) (z : Nat) (n : Nat) (bd : Nat) (s9 : Nat) (a0 : Value) (a1 : Value) (a3 : Value) (a4 : Value) (a5 : Value) (a6 : Value) (a7 : Value) (a8 : Value) (a10 : Value) (a11 : Value) (a12 : Value) (a13 : Value) (a14 : Value) (a15 : Value) (a16 : Value) (a17 : Value) (a18 : Value) (a19 : Value) (a20 : Value) (a21 : Value) (a22 : Value) (a23 : Value) (a24 : Value) (wq : Nat) (hs : s9 < 13) (h10 : 10 ≤ wq) (h16 : wq < 16) (hn0 : 0 < n) (hn6 : n ≤ 6) (hbd : bd = 40) : jRi l yX7_best wsX7_best ({ frames := 1, cells := 0, slots := 0, locals := 25 }) [.ref z, .int (nI s9), .int (nI wq)] D cI cJ (fun H => va_P D vwCl [(z, .inr (7, [a0, a1, .int (nI n), a3, a4, a5, a6, a7, a8, .int (nI bd), a10, a11, a12, a13, a14, a15, a16, a17, a18, a19, a20, a21, a22, a23, a24]))] H) (fun r => r = -103) := by
  intro sz
  refine Met.ofW (cc := cX7_best) (maxL := 3) (ret := (some .int)) (by decide) rfl ?_
  intro p e s m args below meth c s₁ B hml hv
  obtain ⟨rfl, hsz, hT, hPr⟩ := hv
  have hK := hT.1
  have hx := B.exec
  have hb := B.bytes
  have hr := B.returns
  have hts := atoms_spec (ws := wsX7_best) B.pre
  have hown : s.vm.findClass RX7 = some m.cls := findClass_of_methodNamed B.named
  have hlocks := B.notSynchronized
  subst hsz
  generalize hAe : va_A [] s.heap.size = A
  have hA : ∀ q : Nat, s.heap.size ≤ q → A q := fun q h => by rw [← hAe]; exact Or.inr h
  have hS : va_S A s.heap s.heap [] := va_S.rf
  have hl := lv_entry ([.ref z, .int (nI s9), .int (nI wq)] : List Value) (n := 3) (Nat.le_of_ble_eq_true rfl)
  rw [lg_entry_eq]
  generalize (lg_sl ([.ref z, .int (nI s9), .int (nI wq)]) ++ List.replicate (3 - (lg_sl ([.ref z, .int (nI s9), .int (nI wq)])).length) Slot.unset).toArray = ls at hl ⊢
  have hl : lv_has ls 3 [(0, .ref z), (1, .int (nI s9)), (2, .int (nI wq))] := hl
  refine lv_iload_n hx hb dX7_best_0 rfl (lv_at hl 1 rfl) ?_
  refine lv_i2l (v := (nI s9).toInt64) hx hb dX7_best_1 rfl ?_
  refine lv_lconst (v := 0) hx hb dX7_best_2 (by decide) ?_
  refine lv_ldc2 (v := 12) hx hb hown (hts (Cond.constantLong RX7 125 (12)) (List.mem_of_getElem? (i := 1) rfl)) dX7_best_3 ?_
  refine jcalli (va_runS (As := [.long ((nI s9).toInt64), .long 0, .long 12]) (rest := []) ⟨hx, hb, hml, hown, hts⟩ (c_in_y l D cI cJ ((nI s9).toInt64) 0 12 (jw_le (a := 0) (nI_pos' (by omega))) (jw_le (b := 12) ((nI_leI (a := s9) (b := 12) (by omega) (by omega)).mpr (by omega))) s.heap.size) (va_cwS 3 hts gX7_best_X7_in rfl rfl rfl (by decide +kernel) ⟨Nat.le_of_ble_eq_true rfl, Nat.le_of_ble_eq_true rfl⟩) (jpreS hT trivial) rfl rfl hl.1 rfl (lv_room (Nat.le_of_ble_eq_true rfl)) dX7_best_6 ⟨(Nat.zero_le _), (Nat.zero_le _)⟩) hS hA (fun r_1 H locs hw_r_1 hkq hS => ?_)
  try dsimp only at hw_r_1
  have hPr := jkeep hPr hkq
  subst hw_r_1
  refine lv_if_eq (tgt := 30) hx hb dX7_best_9 (by decide) (fun c_2 => ?_) (fun c_2 => ?_)
  · skip
    exact absurd c_2 (by decide)
  · skip
    refine lv_iload_n hx hb dX7_best_12 rfl (lv_at hl 2 rfl) ?_
    refine lv_if_eq (tgt := 33) hx hb dX7_best_13 (by decide) (fun c_3 => ?_) (fun c_3 => ?_)
    · skip
      replace c_3 : wq = 0 := (nI_eq (a := wq) (b := 0) (by omega) (by omega)).mp c_3
      exact absurd c_3 (by omega)
    · skip
      replace c_3 : ¬ wq = 0 := fun h => c_3 ((nI_eq (a := wq) (b := 0) (by omega) (by omega)).mpr h)
      refine lv_iload_n hx hb dX7_best_16 rfl (lv_at hl 2 rfl) ?_
      refine lv_i2l (v := (nI wq).toInt64) hx hb dX7_best_17 rfl ?_
      refine lv_ldc2 (v := 10) hx hb hown (hts (Cond.constantLong RX7 127 (10)) (List.mem_of_getElem? (i := 2) rfl)) dX7_best_18 ?_
      refine lv_ldc2 (v := 15) hx hb hown (hts (Cond.constantLong RX7 129 (15)) (List.mem_of_getElem? (i := 3) rfl)) dX7_best_21 ?_
      refine jcalli (va_runS (As := [.long ((nI wq).toInt64), .long 10, .long 15]) (rest := []) ⟨hx, hb, hml, hown, hts⟩ (c_in_y l D cI cJ ((nI wq).toInt64) 10 15 (jw_le (a := 10) ((nI_leI (a := 10) (b := wq) (by omega) (by omega)).mpr h10)) (jw_le (b := 15) ((nI_leI (a := wq) (b := 15) (by omega) (by omega)).mpr (by omega))) H.size) (va_cwS 3 hts gX7_best_X7_in rfl rfl rfl (by decide +kernel) ⟨Nat.le_of_ble_eq_true rfl, Nat.le_of_ble_eq_true rfl⟩) (jpreS hT trivial) rfl rfl hl.1 rfl (lv_room (Nat.le_of_ble_eq_true rfl)) dX7_best_24 ⟨(Nat.zero_le _), (Nat.zero_le _)⟩) hS hA (fun r_4 H locs hw_r_4 hkq hS => ?_)
      try dsimp only at hw_r_4
      have hPr := jkeep hPr hkq
      subst hw_r_4
      refine lv_if_ne (tgt := 33) hx hb dX7_best_27 (by decide) (fun c_5 => ?_) (fun c_5 => ?_)
      · skip
        refine lv_aload_n hx hb dX7_best_33 rfl (lv_at hl 0 rfl) ?_
        have hPc_6 := hPr.sub (ws' := [(z, .inr (7, [a0, a1, .int (nI n), a3, a4, a5, a6, a7, a8, .int (nI bd), a10, a11, a12, a13, a14, a15, a16, a17, a18, a19, a20, a21, a22, a23, a24]))]) [0] rfl
        refine jcalli (va_runV (As := []) (rest := []) ⟨hx, hb, hml, hown, hts⟩ (c_lacks_n l D cI cJ z n a0 a1 a3 a4 a5 a6 a7 a8 (.int (nI bd)) a10 a11 a12 a13 a14 a15 a16 a17 a18 a19 a20 a21 a22 a23 a24 hn0 hn6 H.size) (cwV 0 hts gX7_best_X7_lacks rfl rfl rfl (by decide +kernel) ⟨Nat.le_of_ble_eq_true rfl, Nat.le_of_ble_eq_true rfl⟩) (jpreV hT (va_recv hK hPr (ci := 7) (q0 := 0) rfl rfl) hPc_6) rfl rfl hl.1 rfl (lv_room (Nat.le_of_ble_eq_true rfl)) dX7_best_34 ⟨(Nat.zero_le _), (Nat.zero_le _)⟩) hS hA (fun r_7 H locs hw_r_7 hkq hS => ?_)
        try dsimp only at hw_r_7
        have hPr := jkeep hPr hkq
        subst hw_r_7
        refine lv_if_ne (tgt := 49) hx hb dX7_best_37 (by decide) (fun c_8 => ?_) (fun c_8 => ?_)
        · skip
          exact absurd c_8 (by decide)
        · skip
          refine lv_aload_n hx hb dX7_best_40 rfl (lv_at hl 0 rfl) ?_
          refine va_get (D := D) (ci := 7) (v := .int (nI bd)) (C := RX7) (T := TX7) (N := 25) hx hb hts (fun w h => List.mem_cons_of_mem _ (List.mem_append_right _ h)) hown hK hPr 0 rfl rfl 9 (by decide) (hts (Cond.fieldLink RX7 131 "JamDaysModel" "bestDone" "I") (List.mem_of_getElem? (i := 4) rfl)) (fun _ h9 => h9) rfl dX7_best_41 ?_
          refine lv_bipush (v := 40) hx hb dX7_best_44 (by decide) ?_
          refine lv_icmp_ne (tgt := 52) hx hb dX7_best_46 (by decide) (fun c_9 => ?_) (fun c_9 => ?_)
          · skip
            replace c_9 : ¬ bd = 40 := fun h => c_9 ((nI_eq (a := bd) (b := 40) (by omega) (by omega)).mpr h)
            exact absurd c_9 (by omega)
          · skip
            replace c_9 : bd = 40 := (nI_eq (a := bd) (b := 40) (by omega) (by omega)).mp c_9
            refine lv_bipush (v := (-103)) hx hb dX7_best_49 (by decide) ?_
            exact W.iret (v := (-103)) hx hb hr (fun t ht hW => ⟨⟨(-103), (), rfl, rfl, trivial⟩, hS.F ht⟩) hS.2.2 dX7_best_51
      · skip
        exact absurd c_5 (by decide)

set_option maxHeartbeats 4000000 in
set_option maxRecDepth 100000 in
theorem c_mbest_all (l : Launch) (D : va_G) (cI cJ : ClassId) (z : Nat) (zr : Nat) (zb : Nat) (zc : Nat) (n : Nat) (bd : Nat) (a0 : Value) (a1 : Value) (a4 : Value) (a5 : Value) (a6 : Value) (a7 : Value) (a12 : Value) (a13 : Value) (a14 : Value) (a15 : Value) (a16 : Value) (a17 : Value) (a18 : Value) (a19 : Value) (a20 : Value) (a21 : Value) (a22 : Value) (a23 : Value) (a24 : Value) (Rw : Nat → Int32) (T : Nat → Int32) (C : Nat → Int32) (y : Int32) (s9 : Nat) (hn6 : n ≤ 6) (hs : s9 < 13) (hn0 : 0 < n) (hbd : bd < 40) (hex : ∀ i : Nat, i < n → ∃ k0 : Nat, k0 ≤ mpl (mwo Rw y) (mdl (mwo Rw y) T n n) s9 i ∧ mwo Rw y i k0 + (mdl (mwo Rw y) T n n) (13 * (i + 1) + mpl (mwo Rw y) (mdl (mwo Rw y) T n n) s9 i - k0) = (mdl (mwo Rw y) T n n) (13 * i + mpl (mwo Rw y) (mdl (mwo Rw y) T n n) s9 i)) (hle : nI s9 ≤ msum Rw n) : jWi l yX7_best wsX7_best ({ frames := 6, cells := 0, slots := 0, locals := 142 }) 0 0 [.ref z, .int (nI s9), .int 0] D cI cJ [(z, .inr (7, [a0, a1, .int (nI n), .int y, a4, a5, a6, a7, .ref zr, .int (nI bd), .ref zb, .ref zc, a12, a13, a14, a15, a16, a17, a18, a19, a20, a21, a22, a23, a24])), (zr, .inl (cI, 30, .inl Rw)), (zb, .inl (cI, 91, .inl T)), (zc, .inl (cI, 6, .inl C))] (fun H => True) (fun r H => r = (mdl (mwo Rw y) T n n) s9 + 1000 ∧ va_P D vwCl [(z, .inr (7, [a0, a1, .int (nI n), .int y, a4, a5, a6, a7, .ref zr, .int (nI (bd + 1)), .ref zb, .ref zc, a12, a13, a14, a15, a16, a17, a18, a19, a20, a21, a22, a23, a24])), (zr, .inl (cI, 30, .inl Rw)), (zb, .inl (cI, 91, .inl (mdl (mwo Rw y) T n n))), (zc, .inl (cI, 6, .inl (mcu (mwo Rw y) (mdl (mwo Rw y) T n n) s9 C n)))] H) := by
  intro sz
  refine Met.ofW (cc := cX7_best) (maxL := 3) (ret := (some .int)) (by decide) rfl ?_
  intro p e s m args below meth c s₁ B hml hv
  obtain ⟨rfl, hsz, hT, hP, hD0, _⟩ := hv
  have hK := hT.1
  have hx := B.exec
  have hb := B.bytes
  have hr := B.returns
  have hts := atoms_spec (ws := wsX7_best) B.pre
  have hown : s.vm.findClass RX7 = some m.cls := findClass_of_methodNamed B.named
  have hlocks := B.notSynchronized
  subst hsz
  have hD := hD0.self (sz := s.heap.size)
  generalize hAe : va_A [(z, .inr (7, [a0, a1, .int (nI n), .int y, a4, a5, a6, a7, .ref zr, .int (nI bd), .ref zb, .ref zc, a12, a13, a14, a15, a16, a17, a18, a19, a20, a21, a22, a23, a24])), (zr, .inl (cI, 30, .inl Rw)), (zb, .inl (cI, 91, .inl T)), (zc, .inl (cI, 6, .inl C))] s.heap.size = A at hD ⊢
  have hA : ∀ q : Nat, s.heap.size ≤ q → A q := fun q h => by rw [← hAe]; exact Or.inr h
  have hS : va_S A s.heap s.heap [] := va_S.rf
  have hl := lv_entry ([.ref z, .int (nI s9), .int 0] : List Value) (n := 3) (Nat.le_of_ble_eq_true rfl)
  rw [lg_entry_eq]
  generalize (lg_sl ([.ref z, .int (nI s9), .int 0]) ++ List.replicate (3 - (lg_sl ([.ref z, .int (nI s9), .int 0])).length) Slot.unset).toArray = ls at hl ⊢
  have hl : lv_has ls 3 [(0, .ref z), (1, .int (nI s9)), (2, .int 0)] := hl
  refine lv_iload_n hx hb dX7_best_0 rfl (lv_at hl 1 rfl) ?_
  refine lv_i2l (v := (nI s9).toInt64) hx hb dX7_best_1 rfl ?_
  refine lv_lconst (v := 0) hx hb dX7_best_2 (by decide) ?_
  refine lv_ldc2 (v := 12) hx hb hown (hts (Cond.constantLong RX7 125 (12)) (List.mem_of_getElem? (i := 1) rfl)) dX7_best_3 ?_
  refine jcalli (va_runS (As := [.long ((nI s9).toInt64), .long 0, .long 12]) (rest := []) ⟨hx, hb, hml, hown, hts⟩ (c_in_y l D cI cJ ((nI s9).toInt64) 0 12 (jw_le (a := 0) (nI_pos' (by omega))) (jw_le (b := 12) ((nI_leI (a := s9) (b := 12) (by omega) (by omega)).mpr (by omega))) s.heap.size) (va_cwS 3 hts gX7_best_X7_in rfl rfl rfl (by decide +kernel) ⟨Nat.le_of_ble_eq_true rfl, Nat.le_of_ble_eq_true rfl⟩) (jpreS hT trivial) rfl rfl hl.1 rfl (lv_room (Nat.le_of_ble_eq_true rfl)) dX7_best_6 ⟨(Nat.zero_le _), (Nat.zero_le _)⟩) hS hA (fun r_1 H locs hw_r_1 hkq hS => ?_)
  try dsimp only at hw_r_1
  have hP := jkeep hP hkq
  subst hw_r_1
  refine lv_if_eq (tgt := 30) hx hb dX7_best_9 (by decide) (fun c_2 => ?_) (fun c_2 => ?_)
  · skip
    exact absurd c_2 (by decide)
  · skip
    refine lv_iload_n hx hb dX7_best_12 rfl (lv_at hl 2 rfl) ?_
    refine lv_if_eq (tgt := 33) hx hb dX7_best_13 (by decide) (fun c_3 => ?_) (fun c_3 => ?_)
    · skip
      refine lv_aload_n hx hb dX7_best_33 rfl (lv_at hl 0 rfl) ?_
      have hPc_4 := hP.sub (ws' := [(z, .inr (7, [a0, a1, .int (nI n), .int y, a4, a5, a6, a7, .ref zr, .int (nI bd), .ref zb, .ref zc, a12, a13, a14, a15, a16, a17, a18, a19, a20, a21, a22, a23, a24]))]) [0] rfl
      refine jcalli (va_runV (As := []) (rest := []) ⟨hx, hb, hml, hown, hts⟩ (c_lacks_n l D cI cJ z n a0 a1 (.int y) a4 a5 a6 a7 (.ref zr) (.int (nI bd)) (.ref zb) (.ref zc) a12 a13 a14 a15 a16 a17 a18 a19 a20 a21 a22 a23 a24 hn0 hn6 H.size) (cwV 0 hts gX7_best_X7_lacks rfl rfl rfl (by decide +kernel) ⟨Nat.le_of_ble_eq_true rfl, Nat.le_of_ble_eq_true rfl⟩) (jpreV hT (va_recv hK hP (ci := 7) (q0 := 0) rfl rfl) hPc_4) rfl rfl hl.1 rfl (lv_room (Nat.le_of_ble_eq_true rfl)) dX7_best_34 ⟨(Nat.zero_le _), (Nat.zero_le _)⟩) hS hA (fun r_5 H locs hw_r_5 hkq hS => ?_)
      try dsimp only at hw_r_5
      have hP := jkeep hP hkq
      subst hw_r_5
      refine lv_if_ne (tgt := 49) hx hb dX7_best_37 (by decide) (fun c_6 => ?_) (fun c_6 => ?_)
      · skip
        exact absurd c_6 (by decide)
      · skip
        refine lv_aload_n hx hb dX7_best_40 rfl (lv_at hl 0 rfl) ?_
        refine va_get (D := D) (ci := 7) (v := .int (nI bd)) (C := RX7) (T := TX7) (N := 25) hx hb hts (fun w h => List.mem_cons_of_mem _ (List.mem_append_right _ h)) hown hK hP 0 rfl rfl 9 (by decide) (hts (Cond.fieldLink RX7 131 "JamDaysModel" "bestDone" "I") (List.mem_of_getElem? (i := 4) rfl)) (fun _ h9 => h9) rfl dX7_best_41 ?_
        refine lv_bipush (v := 40) hx hb dX7_best_44 (by decide) ?_
        refine lv_icmp_ne (tgt := 52) hx hb dX7_best_46 (by decide) (fun c_7 => ?_) (fun c_7 => ?_)
        · skip
          replace c_7 : ¬ bd = 40 := fun h => c_7 ((nI_eq (a := bd) (b := 40) (by omega) (by omega)).mpr h)
          refine lv_aload_n hx hb dX7_best_52 rfl (lv_at hl 0 rfl) ?_
          refine lv_dup hx hb dX7_best_53 rfl ?_
          refine va_get (D := D) (ci := 7) (v := .int (nI bd)) (C := RX7) (T := TX7) (N := 25) hx hb hts (fun w h => List.mem_cons_of_mem _ (List.mem_append_right _ h)) hown hK hP 0 rfl rfl 9 (by decide) (hts (Cond.fieldLink RX7 131 "JamDaysModel" "bestDone" "I") (List.mem_of_getElem? (i := 4) rfl)) (fun _ h9 => h9) rfl dX7_best_54 ?_
          refine lv_iconst (v := 1) hx hb dX7_best_57 (by decide) ?_
          refine lv_iadd hx hb dX7_best_58 ?_
          refine jv_as (y := nI (bd + 1)) (nI_add bd 1) ?_
          refine va_put (D := D) (ci := 7) (v := .int (nI (bd + 1))) (ty := .int) (C := RX7) (T := TX7) (N := 25) hx hb hts (fun w h => List.mem_cons_of_mem _ (List.mem_append_right _ h)) tyX7 tyX7_ok nmX7 hown hK hP hD hS 0 rfl rfl 9 (by decide) (hts (Cond.fieldLink RX7 131 "JamDaysModel" "bestDone" "I") (List.mem_of_getElem? (i := 4) rfl)) (fun _ h9 => h9) rfl (by decide +kernel) rfl rfl (Nat.le_of_ble_eq_true rfl) dX7_best_59 (fun H locs hP hD hS => ?_)
          have hP : va_P D vwCl [(z, .inr (7, [a0, a1, .int (nI n), .int y, a4, a5, a6, a7, .ref zr, .int (nI (bd + 1)), .ref zb, .ref zc, a12, a13, a14, a15, a16, a17, a18, a19, a20, a21, a22, a23, a24])), (zr, .inl (cI, 30, .inl Rw)), (zb, .inl (cI, 91, .inl T)), (zc, .inl (cI, 6, .inl C))] H := hP
          have hD : va_D A [(z, .inr (7, [a0, a1, .int (nI n), .int y, a4, a5, a6, a7, .ref zr, .int (nI (bd + 1)), .ref zb, .ref zc, a12, a13, a14, a15, a16, a17, a18, a19, a20, a21, a22, a23, a24])), (zr, .inl (cI, 30, .inl Rw)), (zb, .inl (cI, 91, .inl T)), (zc, .inl (cI, 6, .inl C))] := hD
          refine lv_aload_n hx hb dX7_best_62 rfl (lv_at hl 0 rfl) ?_
          refine lv_iload_n hx hb dX7_best_63 rfl (lv_at hl 1 rfl) ?_
          refine lv_iload_n hx hb dX7_best_64 rfl (lv_at hl 2 rfl) ?_
          have hPc_8 := hP.sub (ws' := [(z, .inr (7, [a0, a1, .int (nI n), .int y, a4, a5, a6, a7, .ref zr, .int (nI (bd + 1)), .ref zb, .ref zc, a12, a13, a14, a15, a16, a17, a18, a19, a20, a21, a22, a23, a24])), (zr, .inl (cI, 30, .inl Rw)), (zb, .inl (cI, 91, .inl T)), (zc, .inl (cI, 6, .inl C))]) [0, 1, 2, 3] rfl
          have hDc_9 := hD.sub (ws' := [(z, .inr (7, [a0, a1, .int (nI n), .int y, a4, a5, a6, a7, .ref zr, .int (nI (bd + 1)), .ref zb, .ref zc, a12, a13, a14, a15, a16, a17, a18, a19, a20, a21, a22, a23, a24])), (zr, .inl (cI, 30, .inl Rw)), (zb, .inl (cI, 91, .inl T)), (zc, .inl (cI, 6, .inl C))]) [0, 1, 2, 3] (by decide) rfl
          have hFc_10 := va_free (wc := [(z, .inr (7, [a0, a1, .int (nI n), .int y, a4, a5, a6, a7, .ref zr, .int (nI (bd + 1)), .ref zb, .ref zc, a12, a13, a14, a15, a16, a17, a18, a19, a20, a21, a22, a23, a24])), (zr, .inl (cI, 30, .inl Rw)), (zb, .inl (cI, 91, .inl T)), (zc, .inl (cI, 6, .inl C))]) hD hS hA [0, 1, 2, 3] rfl
          refine jcallWi (post := fun r H => r = (mdl (mwo Rw y) T n n) s9 + 1000 ∧ va_P D vwCl [(z, .inr (7, [a0, a1, .int (nI n), .int y, a4, a5, a6, a7, .ref zr, (.int (nI (bd + 1))), .ref zb, .ref zc, a12, a13, a14, a15, a16, a17, a18, a19, a20, a21, a22, a23, a24])), (zr, .inl (cI, 30, .inl Rw)), (zb, .inl (cI, 91, .inl (mdl (mwo Rw y) T n n))), (zc, .inl (cI, 6, .inl (mcu (mwo Rw y) (mdl (mwo Rw y) T n n) s9 C n)))] H) (va_runV (As := [.int (nI s9), .int 0]) (rest := []) ⟨hx, hb, hml, hown, hts⟩ (c_bestOf_all l D cI cJ z zr zb zc n a0 a1 a4 a5 a6 a7 (.int (nI (bd + 1))) a12 a13 a14 a15 a16 a17 a18 a19 a20 a21 a22 a23 a24 Rw T C y s9 hn6 hs hex hle H.size) (cwV 2 hts gX7_best_X7_bestOf rfl rfl rfl (by decide +kernel) ⟨Nat.le_of_ble_eq_true rfl, Nat.le_of_ble_eq_true rfl⟩) (jpreV hT (va_recv hK hP (ci := 7) (q0 := 0) rfl rfl) ⟨hPc_8, hDc_9.weaken (fun _ _ _ _ => trivial), trivial⟩) rfl rfl hl.1 rfl (lv_room (Nat.le_of_ble_eq_true rfl)) dX7_best_65 ⟨(Nat.zero_le _), (Nat.zero_le _)⟩) hS hFc_10 (fun r_11 H locs hw_r_11 hz hkq hS => ?_)
          obtain ⟨hr9, hP1⟩ := hw_r_11
          obtain ⟨hP, hD⟩ := jjoin (wc := [(z, .inr (7, [a0, a1, .int (nI n), .int y, a4, a5, a6, a7, .ref zr, .int (nI (bd + 1)), .ref zb, .ref zc, a12, a13, a14, a15, a16, a17, a18, a19, a20, a21, a22, a23, a24])), (zr, .inl (cI, 30, .inl Rw)), (zb, .inl (cI, 91, .inl T)), (zc, .inl (cI, 6, .inl C))]) (wr := []) (w1 := [(z, .inr (7, [a0, a1, .int (nI n), .int y, a4, a5, a6, a7, .ref zr, .int (nI (bd + 1)), .ref zb, .ref zc, a12, a13, a14, a15, a16, a17, a18, a19, a20, a21, a22, a23, a24])), (zr, .inl (cI, 30, .inl Rw)), (zb, .inl (cI, 91, .inl (mdl (mwo Rw y) T n n))), (zc, .inl (cI, 6, .inl (mcu (mwo Rw y) (mdl (mwo Rw y) T n n) s9 C n)))]) (ws' := [(z, .inr (7, [a0, a1, .int (nI n), .int y, a4, a5, a6, a7, .ref zr, .int (nI (bd + 1)), .ref zb, .ref zc, a12, a13, a14, a15, a16, a17, a18, a19, a20, a21, a22, a23, a24])), (zr, .inl (cI, 30, .inl Rw)), (zb, .inl (cI, 91, .inl (mdl (mwo Rw y) T n n))), (zc, .inl (cI, 6, .inl (mcu (mwo Rw y) (mdl (mwo Rw y) T n n) s9 C n)))]) hP hD hFc_10 [0, 1, 2, 3] [] [0, 1, 2, 3] rfl rfl (by decide) (by decide) (by decide) (by decide) hkq hP1 rfl rfl rfl
          exact W.iret (v := r_11) hx hb hr (fun t ht hW => ⟨⟨r_11, r_11, rfl, rfl, by dsimp only; rw [ht]; exact ⟨hr9, hP⟩⟩, hS.F ht⟩) hS.2.2 dX7_best_68
        · skip
          replace c_7 : bd = 40 := (nI_eq (a := bd) (b := 40) (by omega) (by omega)).mp c_7
          exact absurd c_7 (by omega)
    · skip
      exact absurd c_3 (by decide)

set_option maxHeartbeats 4000000 in
set_option maxRecDepth 100000 in
theorem c_mbest_one (l : Launch) (D : va_G) (cI cJ : ClassId) (z : Nat) (zr : Nat) (zb : Nat) (zc : Nat) (n : Nat) (bd : Nat) (a0 : Value) (a1 : Value) (a4 : Value) (a5 : Value) (a6 : Value) (a7 : Value) (a12 : Value) (a13 : Value) (a14 : Value) (a15 : Value) (a16 : Value) (a17 : Value) (a18 : Value) (a19 : Value) (a20 : Value) (a21 : Value) (a22 : Value) (a23 : Value) (a24 : Value) (Rw : Nat → Int32) (T : Nat → Int32) (C : Nat → Int32) (y : Int32) (s9 : Nat) (j : Nat) (wq : Nat) (hn6 : n ≤ 6) (hs : s9 < 13) (hn0 : 0 < n) (hbd : bd < 40) (hex : ∀ i : Nat, i < n → ∃ k0 : Nat, k0 ≤ mpl (mwo Rw y) (mdl (mwo Rw y) T n n) s9 i ∧ mwo Rw y i k0 + (mdl (mwo Rw y) T n n) (13 * (i + 1) + mpl (mwo Rw y) (mdl (mwo Rw y) T n n) s9 i - k0) = (mdl (mwo Rw y) T n n) (13 * i + mpl (mwo Rw y) (mdl (mwo Rw y) T n n) s9 i)) (hle : nI s9 ≤ msum Rw n) (h10 : 10 ≤ wq) (h16 : wq < 16) (hj : j < n) (h7 : wq = j + 10) : jWi l yX7_best wsX7_best ({ frames := 6, cells := 0, slots := 0, locals := 142 }) 0 0 [.ref z, .int (nI s9), .int (nI wq)] D cI cJ [(z, .inr (7, [a0, a1, .int (nI n), .int y, a4, a5, a6, a7, .ref zr, .int (nI bd), .ref zb, .ref zc, a12, a13, a14, a15, a16, a17, a18, a19, a20, a21, a22, a23, a24])), (zr, .inl (cI, 30, .inl Rw)), (zb, .inl (cI, 91, .inl T)), (zc, .inl (cI, 6, .inl C))] (fun H => True) (fun r H => r = (mcu (mwo Rw y) (mdl (mwo Rw y) T n n) s9 C n) j ∧ va_P D vwCl [(z, .inr (7, [a0, a1, .int (nI n), .int y, a4, a5, a6, a7, .ref zr, .int (nI (bd + 1)), .ref zb, .ref zc, a12, a13, a14, a15, a16, a17, a18, a19, a20, a21, a22, a23, a24])), (zr, .inl (cI, 30, .inl Rw)), (zb, .inl (cI, 91, .inl (mdl (mwo Rw y) T n n))), (zc, .inl (cI, 6, .inl (mcu (mwo Rw y) (mdl (mwo Rw y) T n n) s9 C n)))] H) := by
  intro sz
  refine Met.ofW (cc := cX7_best) (maxL := 3) (ret := (some .int)) (by decide) rfl ?_
  intro p e s m args below meth c s₁ B hml hv
  obtain ⟨rfl, hsz, hT, hP, hD0, _⟩ := hv
  have hK := hT.1
  have hx := B.exec
  have hb := B.bytes
  have hr := B.returns
  have hts := atoms_spec (ws := wsX7_best) B.pre
  have hown : s.vm.findClass RX7 = some m.cls := findClass_of_methodNamed B.named
  have hlocks := B.notSynchronized
  subst hsz
  have hD := hD0.self (sz := s.heap.size)
  generalize hAe : va_A [(z, .inr (7, [a0, a1, .int (nI n), .int y, a4, a5, a6, a7, .ref zr, .int (nI bd), .ref zb, .ref zc, a12, a13, a14, a15, a16, a17, a18, a19, a20, a21, a22, a23, a24])), (zr, .inl (cI, 30, .inl Rw)), (zb, .inl (cI, 91, .inl T)), (zc, .inl (cI, 6, .inl C))] s.heap.size = A at hD ⊢
  have hA : ∀ q : Nat, s.heap.size ≤ q → A q := fun q h => by rw [← hAe]; exact Or.inr h
  have hS : va_S A s.heap s.heap [] := va_S.rf
  have hl := lv_entry ([.ref z, .int (nI s9), .int (nI wq)] : List Value) (n := 3) (Nat.le_of_ble_eq_true rfl)
  rw [lg_entry_eq]
  generalize (lg_sl ([.ref z, .int (nI s9), .int (nI wq)]) ++ List.replicate (3 - (lg_sl ([.ref z, .int (nI s9), .int (nI wq)])).length) Slot.unset).toArray = ls at hl ⊢
  have hl : lv_has ls 3 [(0, .ref z), (1, .int (nI s9)), (2, .int (nI wq))] := hl
  refine lv_iload_n hx hb dX7_best_0 rfl (lv_at hl 1 rfl) ?_
  refine lv_i2l (v := (nI s9).toInt64) hx hb dX7_best_1 rfl ?_
  refine lv_lconst (v := 0) hx hb dX7_best_2 (by decide) ?_
  refine lv_ldc2 (v := 12) hx hb hown (hts (Cond.constantLong RX7 125 (12)) (List.mem_of_getElem? (i := 1) rfl)) dX7_best_3 ?_
  refine jcalli (va_runS (As := [.long ((nI s9).toInt64), .long 0, .long 12]) (rest := []) ⟨hx, hb, hml, hown, hts⟩ (c_in_y l D cI cJ ((nI s9).toInt64) 0 12 (jw_le (a := 0) (nI_pos' (by omega))) (jw_le (b := 12) ((nI_leI (a := s9) (b := 12) (by omega) (by omega)).mpr (by omega))) s.heap.size) (va_cwS 3 hts gX7_best_X7_in rfl rfl rfl (by decide +kernel) ⟨Nat.le_of_ble_eq_true rfl, Nat.le_of_ble_eq_true rfl⟩) (jpreS hT trivial) rfl rfl hl.1 rfl (lv_room (Nat.le_of_ble_eq_true rfl)) dX7_best_6 ⟨(Nat.zero_le _), (Nat.zero_le _)⟩) hS hA (fun r_1 H locs hw_r_1 hkq hS => ?_)
  try dsimp only at hw_r_1
  have hP := jkeep hP hkq
  subst hw_r_1
  refine lv_if_eq (tgt := 30) hx hb dX7_best_9 (by decide) (fun c_2 => ?_) (fun c_2 => ?_)
  · skip
    exact absurd c_2 (by decide)
  · skip
    refine lv_iload_n hx hb dX7_best_12 rfl (lv_at hl 2 rfl) ?_
    refine lv_if_eq (tgt := 33) hx hb dX7_best_13 (by decide) (fun c_3 => ?_) (fun c_3 => ?_)
    · skip
      replace c_3 : wq = 0 := (nI_eq (a := wq) (b := 0) (by omega) (by omega)).mp c_3
      exact absurd c_3 (by omega)
    · skip
      replace c_3 : ¬ wq = 0 := fun h => c_3 ((nI_eq (a := wq) (b := 0) (by omega) (by omega)).mpr h)
      refine lv_iload_n hx hb dX7_best_16 rfl (lv_at hl 2 rfl) ?_
      refine lv_i2l (v := (nI wq).toInt64) hx hb dX7_best_17 rfl ?_
      refine lv_ldc2 (v := 10) hx hb hown (hts (Cond.constantLong RX7 127 (10)) (List.mem_of_getElem? (i := 2) rfl)) dX7_best_18 ?_
      refine lv_ldc2 (v := 15) hx hb hown (hts (Cond.constantLong RX7 129 (15)) (List.mem_of_getElem? (i := 3) rfl)) dX7_best_21 ?_
      refine jcalli (va_runS (As := [.long ((nI wq).toInt64), .long 10, .long 15]) (rest := []) ⟨hx, hb, hml, hown, hts⟩ (c_in_y l D cI cJ ((nI wq).toInt64) 10 15 (jw_le (a := 10) ((nI_leI (a := 10) (b := wq) (by omega) (by omega)).mpr h10)) (jw_le (b := 15) ((nI_leI (a := wq) (b := 15) (by omega) (by omega)).mpr (by omega))) H.size) (va_cwS 3 hts gX7_best_X7_in rfl rfl rfl (by decide +kernel) ⟨Nat.le_of_ble_eq_true rfl, Nat.le_of_ble_eq_true rfl⟩) (jpreS hT trivial) rfl rfl hl.1 rfl (lv_room (Nat.le_of_ble_eq_true rfl)) dX7_best_24 ⟨(Nat.zero_le _), (Nat.zero_le _)⟩) hS hA (fun r_4 H locs hw_r_4 hkq hS => ?_)
      try dsimp only at hw_r_4
      have hP := jkeep hP hkq
      subst hw_r_4
      refine lv_if_ne (tgt := 33) hx hb dX7_best_27 (by decide) (fun c_5 => ?_) (fun c_5 => ?_)
      · skip
        refine lv_aload_n hx hb dX7_best_33 rfl (lv_at hl 0 rfl) ?_
        have hPc_6 := hP.sub (ws' := [(z, .inr (7, [a0, a1, .int (nI n), .int y, a4, a5, a6, a7, .ref zr, .int (nI bd), .ref zb, .ref zc, a12, a13, a14, a15, a16, a17, a18, a19, a20, a21, a22, a23, a24]))]) [0] rfl
        refine jcalli (va_runV (As := []) (rest := []) ⟨hx, hb, hml, hown, hts⟩ (c_lacks_n l D cI cJ z n a0 a1 (.int y) a4 a5 a6 a7 (.ref zr) (.int (nI bd)) (.ref zb) (.ref zc) a12 a13 a14 a15 a16 a17 a18 a19 a20 a21 a22 a23 a24 hn0 hn6 H.size) (cwV 0 hts gX7_best_X7_lacks rfl rfl rfl (by decide +kernel) ⟨Nat.le_of_ble_eq_true rfl, Nat.le_of_ble_eq_true rfl⟩) (jpreV hT (va_recv hK hP (ci := 7) (q0 := 0) rfl rfl) hPc_6) rfl rfl hl.1 rfl (lv_room (Nat.le_of_ble_eq_true rfl)) dX7_best_34 ⟨(Nat.zero_le _), (Nat.zero_le _)⟩) hS hA (fun r_7 H locs hw_r_7 hkq hS => ?_)
        try dsimp only at hw_r_7
        have hP := jkeep hP hkq
        subst hw_r_7
        refine lv_if_ne (tgt := 49) hx hb dX7_best_37 (by decide) (fun c_8 => ?_) (fun c_8 => ?_)
        · skip
          exact absurd c_8 (by decide)
        · skip
          refine lv_aload_n hx hb dX7_best_40 rfl (lv_at hl 0 rfl) ?_
          refine va_get (D := D) (ci := 7) (v := .int (nI bd)) (C := RX7) (T := TX7) (N := 25) hx hb hts (fun w h => List.mem_cons_of_mem _ (List.mem_append_right _ h)) hown hK hP 0 rfl rfl 9 (by decide) (hts (Cond.fieldLink RX7 131 "JamDaysModel" "bestDone" "I") (List.mem_of_getElem? (i := 4) rfl)) (fun _ h9 => h9) rfl dX7_best_41 ?_
          refine lv_bipush (v := 40) hx hb dX7_best_44 (by decide) ?_
          refine lv_icmp_ne (tgt := 52) hx hb dX7_best_46 (by decide) (fun c_9 => ?_) (fun c_9 => ?_)
          · skip
            replace c_9 : ¬ bd = 40 := fun h => c_9 ((nI_eq (a := bd) (b := 40) (by omega) (by omega)).mpr h)
            refine lv_aload_n hx hb dX7_best_52 rfl (lv_at hl 0 rfl) ?_
            refine lv_dup hx hb dX7_best_53 rfl ?_
            refine va_get (D := D) (ci := 7) (v := .int (nI bd)) (C := RX7) (T := TX7) (N := 25) hx hb hts (fun w h => List.mem_cons_of_mem _ (List.mem_append_right _ h)) hown hK hP 0 rfl rfl 9 (by decide) (hts (Cond.fieldLink RX7 131 "JamDaysModel" "bestDone" "I") (List.mem_of_getElem? (i := 4) rfl)) (fun _ h9 => h9) rfl dX7_best_54 ?_
            refine lv_iconst (v := 1) hx hb dX7_best_57 (by decide) ?_
            refine lv_iadd hx hb dX7_best_58 ?_
            refine jv_as (y := nI (bd + 1)) (nI_add bd 1) ?_
            refine va_put (D := D) (ci := 7) (v := .int (nI (bd + 1))) (ty := .int) (C := RX7) (T := TX7) (N := 25) hx hb hts (fun w h => List.mem_cons_of_mem _ (List.mem_append_right _ h)) tyX7 tyX7_ok nmX7 hown hK hP hD hS 0 rfl rfl 9 (by decide) (hts (Cond.fieldLink RX7 131 "JamDaysModel" "bestDone" "I") (List.mem_of_getElem? (i := 4) rfl)) (fun _ h9 => h9) rfl (by decide +kernel) rfl rfl (Nat.le_of_ble_eq_true rfl) dX7_best_59 (fun H locs hP hD hS => ?_)
            have hP : va_P D vwCl [(z, .inr (7, [a0, a1, .int (nI n), .int y, a4, a5, a6, a7, .ref zr, .int (nI (bd + 1)), .ref zb, .ref zc, a12, a13, a14, a15, a16, a17, a18, a19, a20, a21, a22, a23, a24])), (zr, .inl (cI, 30, .inl Rw)), (zb, .inl (cI, 91, .inl T)), (zc, .inl (cI, 6, .inl C))] H := hP
            have hD : va_D A [(z, .inr (7, [a0, a1, .int (nI n), .int y, a4, a5, a6, a7, .ref zr, .int (nI (bd + 1)), .ref zb, .ref zc, a12, a13, a14, a15, a16, a17, a18, a19, a20, a21, a22, a23, a24])), (zr, .inl (cI, 30, .inl Rw)), (zb, .inl (cI, 91, .inl T)), (zc, .inl (cI, 6, .inl C))] := hD
            refine lv_aload_n hx hb dX7_best_62 rfl (lv_at hl 0 rfl) ?_
            refine lv_iload_n hx hb dX7_best_63 rfl (lv_at hl 1 rfl) ?_
            refine lv_iload_n hx hb dX7_best_64 rfl (lv_at hl 2 rfl) ?_
            have hPc_10 := hP.sub (ws' := [(z, .inr (7, [a0, a1, .int (nI n), .int y, a4, a5, a6, a7, .ref zr, .int (nI (bd + 1)), .ref zb, .ref zc, a12, a13, a14, a15, a16, a17, a18, a19, a20, a21, a22, a23, a24])), (zr, .inl (cI, 30, .inl Rw)), (zb, .inl (cI, 91, .inl T)), (zc, .inl (cI, 6, .inl C))]) [0, 1, 2, 3] rfl
            have hDc_11 := hD.sub (ws' := [(z, .inr (7, [a0, a1, .int (nI n), .int y, a4, a5, a6, a7, .ref zr, .int (nI (bd + 1)), .ref zb, .ref zc, a12, a13, a14, a15, a16, a17, a18, a19, a20, a21, a22, a23, a24])), (zr, .inl (cI, 30, .inl Rw)), (zb, .inl (cI, 91, .inl T)), (zc, .inl (cI, 6, .inl C))]) [0, 1, 2, 3] (by decide) rfl
            have hFc_12 := va_free (wc := [(z, .inr (7, [a0, a1, .int (nI n), .int y, a4, a5, a6, a7, .ref zr, .int (nI (bd + 1)), .ref zb, .ref zc, a12, a13, a14, a15, a16, a17, a18, a19, a20, a21, a22, a23, a24])), (zr, .inl (cI, 30, .inl Rw)), (zb, .inl (cI, 91, .inl T)), (zc, .inl (cI, 6, .inl C))]) hD hS hA [0, 1, 2, 3] rfl
            refine jcallWi (post := fun r H => r = (mcu (mwo Rw y) (mdl (mwo Rw y) T n n) s9 C n) j ∧ va_P D vwCl [(z, .inr (7, [a0, a1, .int (nI n), .int y, a4, a5, a6, a7, .ref zr, (.int (nI (bd + 1))), .ref zb, .ref zc, a12, a13, a14, a15, a16, a17, a18, a19, a20, a21, a22, a23, a24])), (zr, .inl (cI, 30, .inl Rw)), (zb, .inl (cI, 91, .inl (mdl (mwo Rw y) T n n))), (zc, .inl (cI, 6, .inl (mcu (mwo Rw y) (mdl (mwo Rw y) T n n) s9 C n)))] H) (va_runV (As := [.int (nI s9), .int (nI wq)]) (rest := []) ⟨hx, hb, hml, hown, hts⟩ (c_bestOf_one l D cI cJ z zr zb zc n a0 a1 a4 a5 a6 a7 (.int (nI (bd + 1))) a12 a13 a14 a15 a16 a17 a18 a19 a20 a21 a22 a23 a24 Rw T C y s9 j wq hn6 hs hex hle h10 h16 hj h7 H.size) (cwV 2 hts gX7_best_X7_bestOf rfl rfl rfl (by decide +kernel) ⟨Nat.le_of_ble_eq_true rfl, Nat.le_of_ble_eq_true rfl⟩) (jpreV hT (va_recv hK hP (ci := 7) (q0 := 0) rfl rfl) ⟨hPc_10, hDc_11.weaken (fun _ _ _ _ => trivial), trivial⟩) rfl rfl hl.1 rfl (lv_room (Nat.le_of_ble_eq_true rfl)) dX7_best_65 ⟨(Nat.zero_le _), (Nat.zero_le _)⟩) hS hFc_12 (fun r_13 H locs hw_r_13 hz hkq hS => ?_)
            obtain ⟨hr9, hP1⟩ := hw_r_13
            obtain ⟨hP, hD⟩ := jjoin (wc := [(z, .inr (7, [a0, a1, .int (nI n), .int y, a4, a5, a6, a7, .ref zr, .int (nI (bd + 1)), .ref zb, .ref zc, a12, a13, a14, a15, a16, a17, a18, a19, a20, a21, a22, a23, a24])), (zr, .inl (cI, 30, .inl Rw)), (zb, .inl (cI, 91, .inl T)), (zc, .inl (cI, 6, .inl C))]) (wr := []) (w1 := [(z, .inr (7, [a0, a1, .int (nI n), .int y, a4, a5, a6, a7, .ref zr, .int (nI (bd + 1)), .ref zb, .ref zc, a12, a13, a14, a15, a16, a17, a18, a19, a20, a21, a22, a23, a24])), (zr, .inl (cI, 30, .inl Rw)), (zb, .inl (cI, 91, .inl (mdl (mwo Rw y) T n n))), (zc, .inl (cI, 6, .inl (mcu (mwo Rw y) (mdl (mwo Rw y) T n n) s9 C n)))]) (ws' := [(z, .inr (7, [a0, a1, .int (nI n), .int y, a4, a5, a6, a7, .ref zr, .int (nI (bd + 1)), .ref zb, .ref zc, a12, a13, a14, a15, a16, a17, a18, a19, a20, a21, a22, a23, a24])), (zr, .inl (cI, 30, .inl Rw)), (zb, .inl (cI, 91, .inl (mdl (mwo Rw y) T n n))), (zc, .inl (cI, 6, .inl (mcu (mwo Rw y) (mdl (mwo Rw y) T n n) s9 C n)))]) hP hD hFc_12 [0, 1, 2, 3] [] [0, 1, 2, 3] rfl rfl (by decide) (by decide) (by decide) (by decide) hkq hP1 rfl rfl rfl
            exact W.iret (v := r_13) hx hb hr (fun t ht hW => ⟨⟨r_13, r_13, rfl, rfl, by dsimp only; rw [ht]; exact ⟨hr9, hP⟩⟩, hS.F ht⟩) hS.2.2 dX7_best_68
          · skip
            replace c_9 : bd = 40 := (nI_eq (a := bd) (b := 40) (by omega) (by omega)).mp c_9
            exact absurd c_9 (by omega)
      · skip
        exact absurd c_5 (by decide)

set_option maxHeartbeats 4000000 in
set_option maxRecDepth 100000 in
theorem c_mbest_out (l : Launch) (D : va_G) (cI cJ : ClassId) (z : Nat) (zr : Nat) (zb : Nat) (zc : Nat) (n : Nat) (bd : Nat) (a0 : Value) (a1 : Value) (a4 : Value) (a5 : Value) (a6 : Value) (a7 : Value) (a12 : Value) (a13 : Value) (a14 : Value) (a15 : Value) (a16 : Value) (a17 : Value) (a18 : Value) (a19 : Value) (a20 : Value) (a21 : Value) (a22 : Value) (a23 : Value) (a24 : Value) (Rw : Nat → Int32) (T : Nat → Int32) (C : Nat → Int32) (y : Int32) (s9 : Nat) (wq : Nat) (hn6 : n ≤ 6) (hs : s9 < 13) (hn0 : 0 < n) (hbd : bd < 40) (hex : ∀ i : Nat, i < n → ∃ k0 : Nat, k0 ≤ mpl (mwo Rw y) (mdl (mwo Rw y) T n n) s9 i ∧ mwo Rw y i k0 + (mdl (mwo Rw y) T n n) (13 * (i + 1) + mpl (mwo Rw y) (mdl (mwo Rw y) T n n) s9 i - k0) = (mdl (mwo Rw y) T n n) (13 * i + mpl (mwo Rw y) (mdl (mwo Rw y) T n n) s9 i)) (hle : nI s9 ≤ msum Rw n) (h10 : 10 ≤ wq) (h16 : wq < 16) (h7 : n ≤ wq - 10) : jWi l yX7_best wsX7_best ({ frames := 6, cells := 0, slots := 0, locals := 142 }) 0 0 [.ref z, .int (nI s9), .int (nI wq)] D cI cJ [(z, .inr (7, [a0, a1, .int (nI n), .int y, a4, a5, a6, a7, .ref zr, .int (nI bd), .ref zb, .ref zc, a12, a13, a14, a15, a16, a17, a18, a19, a20, a21, a22, a23, a24])), (zr, .inl (cI, 30, .inl Rw)), (zb, .inl (cI, 91, .inl T)), (zc, .inl (cI, 6, .inl C))] (fun H => True) (fun r H => r = -1 ∧ va_P D vwCl [(z, .inr (7, [a0, a1, .int (nI n), .int y, a4, a5, a6, a7, .ref zr, .int (nI (bd + 1)), .ref zb, .ref zc, a12, a13, a14, a15, a16, a17, a18, a19, a20, a21, a22, a23, a24])), (zr, .inl (cI, 30, .inl Rw)), (zb, .inl (cI, 91, .inl (mdl (mwo Rw y) T n n))), (zc, .inl (cI, 6, .inl (mcu (mwo Rw y) (mdl (mwo Rw y) T n n) s9 C n)))] H) := by
  intro sz
  refine Met.ofW (cc := cX7_best) (maxL := 3) (ret := (some .int)) (by decide) rfl ?_
  intro p e s m args below meth c s₁ B hml hv
  obtain ⟨rfl, hsz, hT, hP, hD0, _⟩ := hv
  have hK := hT.1
  have hx := B.exec
  have hb := B.bytes
  have hr := B.returns
  have hts := atoms_spec (ws := wsX7_best) B.pre
  have hown : s.vm.findClass RX7 = some m.cls := findClass_of_methodNamed B.named
  have hlocks := B.notSynchronized
  subst hsz
  have hD := hD0.self (sz := s.heap.size)
  generalize hAe : va_A [(z, .inr (7, [a0, a1, .int (nI n), .int y, a4, a5, a6, a7, .ref zr, .int (nI bd), .ref zb, .ref zc, a12, a13, a14, a15, a16, a17, a18, a19, a20, a21, a22, a23, a24])), (zr, .inl (cI, 30, .inl Rw)), (zb, .inl (cI, 91, .inl T)), (zc, .inl (cI, 6, .inl C))] s.heap.size = A at hD ⊢
  have hA : ∀ q : Nat, s.heap.size ≤ q → A q := fun q h => by rw [← hAe]; exact Or.inr h
  have hS : va_S A s.heap s.heap [] := va_S.rf
  have hl := lv_entry ([.ref z, .int (nI s9), .int (nI wq)] : List Value) (n := 3) (Nat.le_of_ble_eq_true rfl)
  rw [lg_entry_eq]
  generalize (lg_sl ([.ref z, .int (nI s9), .int (nI wq)]) ++ List.replicate (3 - (lg_sl ([.ref z, .int (nI s9), .int (nI wq)])).length) Slot.unset).toArray = ls at hl ⊢
  have hl : lv_has ls 3 [(0, .ref z), (1, .int (nI s9)), (2, .int (nI wq))] := hl
  refine lv_iload_n hx hb dX7_best_0 rfl (lv_at hl 1 rfl) ?_
  refine lv_i2l (v := (nI s9).toInt64) hx hb dX7_best_1 rfl ?_
  refine lv_lconst (v := 0) hx hb dX7_best_2 (by decide) ?_
  refine lv_ldc2 (v := 12) hx hb hown (hts (Cond.constantLong RX7 125 (12)) (List.mem_of_getElem? (i := 1) rfl)) dX7_best_3 ?_
  refine jcalli (va_runS (As := [.long ((nI s9).toInt64), .long 0, .long 12]) (rest := []) ⟨hx, hb, hml, hown, hts⟩ (c_in_y l D cI cJ ((nI s9).toInt64) 0 12 (jw_le (a := 0) (nI_pos' (by omega))) (jw_le (b := 12) ((nI_leI (a := s9) (b := 12) (by omega) (by omega)).mpr (by omega))) s.heap.size) (va_cwS 3 hts gX7_best_X7_in rfl rfl rfl (by decide +kernel) ⟨Nat.le_of_ble_eq_true rfl, Nat.le_of_ble_eq_true rfl⟩) (jpreS hT trivial) rfl rfl hl.1 rfl (lv_room (Nat.le_of_ble_eq_true rfl)) dX7_best_6 ⟨(Nat.zero_le _), (Nat.zero_le _)⟩) hS hA (fun r_1 H locs hw_r_1 hkq hS => ?_)
  try dsimp only at hw_r_1
  have hP := jkeep hP hkq
  subst hw_r_1
  refine lv_if_eq (tgt := 30) hx hb dX7_best_9 (by decide) (fun c_2 => ?_) (fun c_2 => ?_)
  · skip
    exact absurd c_2 (by decide)
  · skip
    refine lv_iload_n hx hb dX7_best_12 rfl (lv_at hl 2 rfl) ?_
    refine lv_if_eq (tgt := 33) hx hb dX7_best_13 (by decide) (fun c_3 => ?_) (fun c_3 => ?_)
    · skip
      replace c_3 : wq = 0 := (nI_eq (a := wq) (b := 0) (by omega) (by omega)).mp c_3
      exact absurd c_3 (by omega)
    · skip
      replace c_3 : ¬ wq = 0 := fun h => c_3 ((nI_eq (a := wq) (b := 0) (by omega) (by omega)).mpr h)
      refine lv_iload_n hx hb dX7_best_16 rfl (lv_at hl 2 rfl) ?_
      refine lv_i2l (v := (nI wq).toInt64) hx hb dX7_best_17 rfl ?_
      refine lv_ldc2 (v := 10) hx hb hown (hts (Cond.constantLong RX7 127 (10)) (List.mem_of_getElem? (i := 2) rfl)) dX7_best_18 ?_
      refine lv_ldc2 (v := 15) hx hb hown (hts (Cond.constantLong RX7 129 (15)) (List.mem_of_getElem? (i := 3) rfl)) dX7_best_21 ?_
      refine jcalli (va_runS (As := [.long ((nI wq).toInt64), .long 10, .long 15]) (rest := []) ⟨hx, hb, hml, hown, hts⟩ (c_in_y l D cI cJ ((nI wq).toInt64) 10 15 (jw_le (a := 10) ((nI_leI (a := 10) (b := wq) (by omega) (by omega)).mpr h10)) (jw_le (b := 15) ((nI_leI (a := wq) (b := 15) (by omega) (by omega)).mpr (by omega))) H.size) (va_cwS 3 hts gX7_best_X7_in rfl rfl rfl (by decide +kernel) ⟨Nat.le_of_ble_eq_true rfl, Nat.le_of_ble_eq_true rfl⟩) (jpreS hT trivial) rfl rfl hl.1 rfl (lv_room (Nat.le_of_ble_eq_true rfl)) dX7_best_24 ⟨(Nat.zero_le _), (Nat.zero_le _)⟩) hS hA (fun r_4 H locs hw_r_4 hkq hS => ?_)
      try dsimp only at hw_r_4
      have hP := jkeep hP hkq
      subst hw_r_4
      refine lv_if_ne (tgt := 33) hx hb dX7_best_27 (by decide) (fun c_5 => ?_) (fun c_5 => ?_)
      · skip
        refine lv_aload_n hx hb dX7_best_33 rfl (lv_at hl 0 rfl) ?_
        have hPc_6 := hP.sub (ws' := [(z, .inr (7, [a0, a1, .int (nI n), .int y, a4, a5, a6, a7, .ref zr, .int (nI bd), .ref zb, .ref zc, a12, a13, a14, a15, a16, a17, a18, a19, a20, a21, a22, a23, a24]))]) [0] rfl
        refine jcalli (va_runV (As := []) (rest := []) ⟨hx, hb, hml, hown, hts⟩ (c_lacks_n l D cI cJ z n a0 a1 (.int y) a4 a5 a6 a7 (.ref zr) (.int (nI bd)) (.ref zb) (.ref zc) a12 a13 a14 a15 a16 a17 a18 a19 a20 a21 a22 a23 a24 hn0 hn6 H.size) (cwV 0 hts gX7_best_X7_lacks rfl rfl rfl (by decide +kernel) ⟨Nat.le_of_ble_eq_true rfl, Nat.le_of_ble_eq_true rfl⟩) (jpreV hT (va_recv hK hP (ci := 7) (q0 := 0) rfl rfl) hPc_6) rfl rfl hl.1 rfl (lv_room (Nat.le_of_ble_eq_true rfl)) dX7_best_34 ⟨(Nat.zero_le _), (Nat.zero_le _)⟩) hS hA (fun r_7 H locs hw_r_7 hkq hS => ?_)
        try dsimp only at hw_r_7
        have hP := jkeep hP hkq
        subst hw_r_7
        refine lv_if_ne (tgt := 49) hx hb dX7_best_37 (by decide) (fun c_8 => ?_) (fun c_8 => ?_)
        · skip
          exact absurd c_8 (by decide)
        · skip
          refine lv_aload_n hx hb dX7_best_40 rfl (lv_at hl 0 rfl) ?_
          refine va_get (D := D) (ci := 7) (v := .int (nI bd)) (C := RX7) (T := TX7) (N := 25) hx hb hts (fun w h => List.mem_cons_of_mem _ (List.mem_append_right _ h)) hown hK hP 0 rfl rfl 9 (by decide) (hts (Cond.fieldLink RX7 131 "JamDaysModel" "bestDone" "I") (List.mem_of_getElem? (i := 4) rfl)) (fun _ h9 => h9) rfl dX7_best_41 ?_
          refine lv_bipush (v := 40) hx hb dX7_best_44 (by decide) ?_
          refine lv_icmp_ne (tgt := 52) hx hb dX7_best_46 (by decide) (fun c_9 => ?_) (fun c_9 => ?_)
          · skip
            replace c_9 : ¬ bd = 40 := fun h => c_9 ((nI_eq (a := bd) (b := 40) (by omega) (by omega)).mpr h)
            refine lv_aload_n hx hb dX7_best_52 rfl (lv_at hl 0 rfl) ?_
            refine lv_dup hx hb dX7_best_53 rfl ?_
            refine va_get (D := D) (ci := 7) (v := .int (nI bd)) (C := RX7) (T := TX7) (N := 25) hx hb hts (fun w h => List.mem_cons_of_mem _ (List.mem_append_right _ h)) hown hK hP 0 rfl rfl 9 (by decide) (hts (Cond.fieldLink RX7 131 "JamDaysModel" "bestDone" "I") (List.mem_of_getElem? (i := 4) rfl)) (fun _ h9 => h9) rfl dX7_best_54 ?_
            refine lv_iconst (v := 1) hx hb dX7_best_57 (by decide) ?_
            refine lv_iadd hx hb dX7_best_58 ?_
            refine jv_as (y := nI (bd + 1)) (nI_add bd 1) ?_
            refine va_put (D := D) (ci := 7) (v := .int (nI (bd + 1))) (ty := .int) (C := RX7) (T := TX7) (N := 25) hx hb hts (fun w h => List.mem_cons_of_mem _ (List.mem_append_right _ h)) tyX7 tyX7_ok nmX7 hown hK hP hD hS 0 rfl rfl 9 (by decide) (hts (Cond.fieldLink RX7 131 "JamDaysModel" "bestDone" "I") (List.mem_of_getElem? (i := 4) rfl)) (fun _ h9 => h9) rfl (by decide +kernel) rfl rfl (Nat.le_of_ble_eq_true rfl) dX7_best_59 (fun H locs hP hD hS => ?_)
            have hP : va_P D vwCl [(z, .inr (7, [a0, a1, .int (nI n), .int y, a4, a5, a6, a7, .ref zr, .int (nI (bd + 1)), .ref zb, .ref zc, a12, a13, a14, a15, a16, a17, a18, a19, a20, a21, a22, a23, a24])), (zr, .inl (cI, 30, .inl Rw)), (zb, .inl (cI, 91, .inl T)), (zc, .inl (cI, 6, .inl C))] H := hP
            have hD : va_D A [(z, .inr (7, [a0, a1, .int (nI n), .int y, a4, a5, a6, a7, .ref zr, .int (nI (bd + 1)), .ref zb, .ref zc, a12, a13, a14, a15, a16, a17, a18, a19, a20, a21, a22, a23, a24])), (zr, .inl (cI, 30, .inl Rw)), (zb, .inl (cI, 91, .inl T)), (zc, .inl (cI, 6, .inl C))] := hD
            refine lv_aload_n hx hb dX7_best_62 rfl (lv_at hl 0 rfl) ?_
            refine lv_iload_n hx hb dX7_best_63 rfl (lv_at hl 1 rfl) ?_
            refine lv_iload_n hx hb dX7_best_64 rfl (lv_at hl 2 rfl) ?_
            have hPc_10 := hP.sub (ws' := [(z, .inr (7, [a0, a1, .int (nI n), .int y, a4, a5, a6, a7, .ref zr, .int (nI (bd + 1)), .ref zb, .ref zc, a12, a13, a14, a15, a16, a17, a18, a19, a20, a21, a22, a23, a24])), (zr, .inl (cI, 30, .inl Rw)), (zb, .inl (cI, 91, .inl T)), (zc, .inl (cI, 6, .inl C))]) [0, 1, 2, 3] rfl
            have hDc_11 := hD.sub (ws' := [(z, .inr (7, [a0, a1, .int (nI n), .int y, a4, a5, a6, a7, .ref zr, .int (nI (bd + 1)), .ref zb, .ref zc, a12, a13, a14, a15, a16, a17, a18, a19, a20, a21, a22, a23, a24])), (zr, .inl (cI, 30, .inl Rw)), (zb, .inl (cI, 91, .inl T)), (zc, .inl (cI, 6, .inl C))]) [0, 1, 2, 3] (by decide) rfl
            have hFc_12 := va_free (wc := [(z, .inr (7, [a0, a1, .int (nI n), .int y, a4, a5, a6, a7, .ref zr, .int (nI (bd + 1)), .ref zb, .ref zc, a12, a13, a14, a15, a16, a17, a18, a19, a20, a21, a22, a23, a24])), (zr, .inl (cI, 30, .inl Rw)), (zb, .inl (cI, 91, .inl T)), (zc, .inl (cI, 6, .inl C))]) hD hS hA [0, 1, 2, 3] rfl
            refine jcallWi (post := fun r H => r = -1 ∧ va_P D vwCl [(z, .inr (7, [a0, a1, .int (nI n), .int y, a4, a5, a6, a7, .ref zr, (.int (nI (bd + 1))), .ref zb, .ref zc, a12, a13, a14, a15, a16, a17, a18, a19, a20, a21, a22, a23, a24])), (zr, .inl (cI, 30, .inl Rw)), (zb, .inl (cI, 91, .inl (mdl (mwo Rw y) T n n))), (zc, .inl (cI, 6, .inl (mcu (mwo Rw y) (mdl (mwo Rw y) T n n) s9 C n)))] H) (va_runV (As := [.int (nI s9), .int (nI wq)]) (rest := []) ⟨hx, hb, hml, hown, hts⟩ (c_bestOf_out l D cI cJ z zr zb zc n a0 a1 a4 a5 a6 a7 (.int (nI (bd + 1))) a12 a13 a14 a15 a16 a17 a18 a19 a20 a21 a22 a23 a24 Rw T C y s9 wq hn6 hs hex hle h10 h16 h7 H.size) (cwV 2 hts gX7_best_X7_bestOf rfl rfl rfl (by decide +kernel) ⟨Nat.le_of_ble_eq_true rfl, Nat.le_of_ble_eq_true rfl⟩) (jpreV hT (va_recv hK hP (ci := 7) (q0 := 0) rfl rfl) ⟨hPc_10, hDc_11.weaken (fun _ _ _ _ => trivial), trivial⟩) rfl rfl hl.1 rfl (lv_room (Nat.le_of_ble_eq_true rfl)) dX7_best_65 ⟨(Nat.zero_le _), (Nat.zero_le _)⟩) hS hFc_12 (fun r_13 H locs hw_r_13 hz hkq hS => ?_)
            obtain ⟨hr9, hP1⟩ := hw_r_13
            obtain ⟨hP, hD⟩ := jjoin (wc := [(z, .inr (7, [a0, a1, .int (nI n), .int y, a4, a5, a6, a7, .ref zr, .int (nI (bd + 1)), .ref zb, .ref zc, a12, a13, a14, a15, a16, a17, a18, a19, a20, a21, a22, a23, a24])), (zr, .inl (cI, 30, .inl Rw)), (zb, .inl (cI, 91, .inl T)), (zc, .inl (cI, 6, .inl C))]) (wr := []) (w1 := [(z, .inr (7, [a0, a1, .int (nI n), .int y, a4, a5, a6, a7, .ref zr, .int (nI (bd + 1)), .ref zb, .ref zc, a12, a13, a14, a15, a16, a17, a18, a19, a20, a21, a22, a23, a24])), (zr, .inl (cI, 30, .inl Rw)), (zb, .inl (cI, 91, .inl (mdl (mwo Rw y) T n n))), (zc, .inl (cI, 6, .inl (mcu (mwo Rw y) (mdl (mwo Rw y) T n n) s9 C n)))]) (ws' := [(z, .inr (7, [a0, a1, .int (nI n), .int y, a4, a5, a6, a7, .ref zr, .int (nI (bd + 1)), .ref zb, .ref zc, a12, a13, a14, a15, a16, a17, a18, a19, a20, a21, a22, a23, a24])), (zr, .inl (cI, 30, .inl Rw)), (zb, .inl (cI, 91, .inl (mdl (mwo Rw y) T n n))), (zc, .inl (cI, 6, .inl (mcu (mwo Rw y) (mdl (mwo Rw y) T n n) s9 C n)))]) hP hD hFc_12 [0, 1, 2, 3] [] [0, 1, 2, 3] rfl rfl (by decide) (by decide) (by decide) (by decide) hkq hP1 rfl rfl rfl
            exact W.iret (v := r_13) hx hb hr (fun t ht hW => ⟨⟨r_13, r_13, rfl, rfl, by dsimp only; rw [ht]; exact ⟨hr9, hP⟩⟩, hS.F ht⟩) hS.2.2 dX7_best_68
          · skip
            replace c_9 : bd = 40 := (nI_eq (a := bd) (b := 40) (by omega) (by omega)).mp c_9
            exact absurd c_9 (by omega)
      · skip
        exact absurd c_5 (by decide)

set_option maxHeartbeats 4000000 in
set_option maxRecDepth 100000 in
theorem c_mbest_no0 (l : Launch) (D : va_G) (cI cJ : ClassId) (z : Nat) (zr : Nat) (zb : Nat) (zc : Nat) (n : Nat) (bd : Nat) (a0 : Value) (a1 : Value) (a4 : Value) (a5 : Value) (a6 : Value) (a7 : Value) (a12 : Value) (a13 : Value) (a14 : Value) (a15 : Value) (a16 : Value) (a17 : Value) (a18 : Value) (a19 : Value) (a20 : Value) (a21 : Value) (a22 : Value) (a23 : Value) (a24 : Value) (Rw : Nat → Int32) (T : Nat → Int32) (C : Nat → Int32) (y : Int32) (s9 : Nat) (hn6 : n ≤ 6) (hs : s9 < 13) (hn0 : 0 < n) (hbd : bd < 40) (hgt : ¬ nI s9 ≤ msum Rw n) : jWi l yX7_best wsX7_best ({ frames := 2, cells := 0, slots := 0, locals := 47 }) 0 0 [.ref z, .int (nI s9), .int 0] D cI cJ [(z, .inr (7, [a0, a1, .int (nI n), .int y, a4, a5, a6, a7, .ref zr, .int (nI bd), .ref zb, .ref zc, a12, a13, a14, a15, a16, a17, a18, a19, a20, a21, a22, a23, a24])), (zr, .inl (cI, 30, .inl Rw)), (zb, .inl (cI, 91, .inl T)), (zc, .inl (cI, 6, .inl C))] (fun H => True) (fun r H => r = -1 ∧ va_P D vwCl [(z, .inr (7, [a0, a1, .int (nI n), .int y, a4, a5, a6, a7, .ref zr, .int (nI (bd + 1)), .ref zb, .ref zc, a12, a13, a14, a15, a16, a17, a18, a19, a20, a21, a22, a23, a24])), (zr, .inl (cI, 30, .inl Rw)), (zb, .inl (cI, 91, .inl T)), (zc, .inl (cI, 6, .inl C))] H) := by
  intro sz
  refine Met.ofW (cc := cX7_best) (maxL := 3) (ret := (some .int)) (by decide) rfl ?_
  intro p e s m args below meth c s₁ B hml hv
  obtain ⟨rfl, hsz, hT, hP, hD0, _⟩ := hv
  have hK := hT.1
  have hx := B.exec
  have hb := B.bytes
  have hr := B.returns
  have hts := atoms_spec (ws := wsX7_best) B.pre
  have hown : s.vm.findClass RX7 = some m.cls := findClass_of_methodNamed B.named
  have hlocks := B.notSynchronized
  subst hsz
  have hD := hD0.self (sz := s.heap.size)
  generalize hAe : va_A [(z, .inr (7, [a0, a1, .int (nI n), .int y, a4, a5, a6, a7, .ref zr, .int (nI bd), .ref zb, .ref zc, a12, a13, a14, a15, a16, a17, a18, a19, a20, a21, a22, a23, a24])), (zr, .inl (cI, 30, .inl Rw)), (zb, .inl (cI, 91, .inl T)), (zc, .inl (cI, 6, .inl C))] s.heap.size = A at hD ⊢
  have hA : ∀ q : Nat, s.heap.size ≤ q → A q := fun q h => by rw [← hAe]; exact Or.inr h
  have hS : va_S A s.heap s.heap [] := va_S.rf
  have hl := lv_entry ([.ref z, .int (nI s9), .int 0] : List Value) (n := 3) (Nat.le_of_ble_eq_true rfl)
  rw [lg_entry_eq]
  generalize (lg_sl ([.ref z, .int (nI s9), .int 0]) ++ List.replicate (3 - (lg_sl ([.ref z, .int (nI s9), .int 0])).length) Slot.unset).toArray = ls at hl ⊢
  have hl : lv_has ls 3 [(0, .ref z), (1, .int (nI s9)), (2, .int 0)] := hl
  refine lv_iload_n hx hb dX7_best_0 rfl (lv_at hl 1 rfl) ?_
  refine lv_i2l (v := (nI s9).toInt64) hx hb dX7_best_1 rfl ?_
  refine lv_lconst (v := 0) hx hb dX7_best_2 (by decide) ?_
  refine lv_ldc2 (v := 12) hx hb hown (hts (Cond.constantLong RX7 125 (12)) (List.mem_of_getElem? (i := 1) rfl)) dX7_best_3 ?_
  refine jcalli (va_runS (As := [.long ((nI s9).toInt64), .long 0, .long 12]) (rest := []) ⟨hx, hb, hml, hown, hts⟩ (c_in_y l D cI cJ ((nI s9).toInt64) 0 12 (jw_le (a := 0) (nI_pos' (by omega))) (jw_le (b := 12) ((nI_leI (a := s9) (b := 12) (by omega) (by omega)).mpr (by omega))) s.heap.size) (va_cwS 3 hts gX7_best_X7_in rfl rfl rfl (by decide +kernel) ⟨Nat.le_of_ble_eq_true rfl, Nat.le_of_ble_eq_true rfl⟩) (jpreS hT trivial) rfl rfl hl.1 rfl (lv_room (Nat.le_of_ble_eq_true rfl)) dX7_best_6 ⟨(Nat.zero_le _), (Nat.zero_le _)⟩) hS hA (fun r_1 H locs hw_r_1 hkq hS => ?_)
  try dsimp only at hw_r_1
  have hP := jkeep hP hkq
  subst hw_r_1
  refine lv_if_eq (tgt := 30) hx hb dX7_best_9 (by decide) (fun c_2 => ?_) (fun c_2 => ?_)
  · skip
    exact absurd c_2 (by decide)
  · skip
    refine lv_iload_n hx hb dX7_best_12 rfl (lv_at hl 2 rfl) ?_
    refine lv_if_eq (tgt := 33) hx hb dX7_best_13 (by decide) (fun c_3 => ?_) (fun c_3 => ?_)
    · skip
      refine lv_aload_n hx hb dX7_best_33 rfl (lv_at hl 0 rfl) ?_
      have hPc_4 := hP.sub (ws' := [(z, .inr (7, [a0, a1, .int (nI n), .int y, a4, a5, a6, a7, .ref zr, .int (nI bd), .ref zb, .ref zc, a12, a13, a14, a15, a16, a17, a18, a19, a20, a21, a22, a23, a24]))]) [0] rfl
      refine jcalli (va_runV (As := []) (rest := []) ⟨hx, hb, hml, hown, hts⟩ (c_lacks_n l D cI cJ z n a0 a1 (.int y) a4 a5 a6 a7 (.ref zr) (.int (nI bd)) (.ref zb) (.ref zc) a12 a13 a14 a15 a16 a17 a18 a19 a20 a21 a22 a23 a24 hn0 hn6 H.size) (cwV 0 hts gX7_best_X7_lacks rfl rfl rfl (by decide +kernel) ⟨Nat.le_of_ble_eq_true rfl, Nat.le_of_ble_eq_true rfl⟩) (jpreV hT (va_recv hK hP (ci := 7) (q0 := 0) rfl rfl) hPc_4) rfl rfl hl.1 rfl (lv_room (Nat.le_of_ble_eq_true rfl)) dX7_best_34 ⟨(Nat.zero_le _), (Nat.zero_le _)⟩) hS hA (fun r_5 H locs hw_r_5 hkq hS => ?_)
      try dsimp only at hw_r_5
      have hP := jkeep hP hkq
      subst hw_r_5
      refine lv_if_ne (tgt := 49) hx hb dX7_best_37 (by decide) (fun c_6 => ?_) (fun c_6 => ?_)
      · skip
        exact absurd c_6 (by decide)
      · skip
        refine lv_aload_n hx hb dX7_best_40 rfl (lv_at hl 0 rfl) ?_
        refine va_get (D := D) (ci := 7) (v := .int (nI bd)) (C := RX7) (T := TX7) (N := 25) hx hb hts (fun w h => List.mem_cons_of_mem _ (List.mem_append_right _ h)) hown hK hP 0 rfl rfl 9 (by decide) (hts (Cond.fieldLink RX7 131 "JamDaysModel" "bestDone" "I") (List.mem_of_getElem? (i := 4) rfl)) (fun _ h9 => h9) rfl dX7_best_41 ?_
        refine lv_bipush (v := 40) hx hb dX7_best_44 (by decide) ?_
        refine lv_icmp_ne (tgt := 52) hx hb dX7_best_46 (by decide) (fun c_7 => ?_) (fun c_7 => ?_)
        · skip
          replace c_7 : ¬ bd = 40 := fun h => c_7 ((nI_eq (a := bd) (b := 40) (by omega) (by omega)).mpr h)
          refine lv_aload_n hx hb dX7_best_52 rfl (lv_at hl 0 rfl) ?_
          refine lv_dup hx hb dX7_best_53 rfl ?_
          refine va_get (D := D) (ci := 7) (v := .int (nI bd)) (C := RX7) (T := TX7) (N := 25) hx hb hts (fun w h => List.mem_cons_of_mem _ (List.mem_append_right _ h)) hown hK hP 0 rfl rfl 9 (by decide) (hts (Cond.fieldLink RX7 131 "JamDaysModel" "bestDone" "I") (List.mem_of_getElem? (i := 4) rfl)) (fun _ h9 => h9) rfl dX7_best_54 ?_
          refine lv_iconst (v := 1) hx hb dX7_best_57 (by decide) ?_
          refine lv_iadd hx hb dX7_best_58 ?_
          refine jv_as (y := nI (bd + 1)) (nI_add bd 1) ?_
          refine va_put (D := D) (ci := 7) (v := .int (nI (bd + 1))) (ty := .int) (C := RX7) (T := TX7) (N := 25) hx hb hts (fun w h => List.mem_cons_of_mem _ (List.mem_append_right _ h)) tyX7 tyX7_ok nmX7 hown hK hP hD hS 0 rfl rfl 9 (by decide) (hts (Cond.fieldLink RX7 131 "JamDaysModel" "bestDone" "I") (List.mem_of_getElem? (i := 4) rfl)) (fun _ h9 => h9) rfl (by decide +kernel) rfl rfl (Nat.le_of_ble_eq_true rfl) dX7_best_59 (fun H locs hP hD hS => ?_)
          have hP : va_P D vwCl [(z, .inr (7, [a0, a1, .int (nI n), .int y, a4, a5, a6, a7, .ref zr, .int (nI (bd + 1)), .ref zb, .ref zc, a12, a13, a14, a15, a16, a17, a18, a19, a20, a21, a22, a23, a24])), (zr, .inl (cI, 30, .inl Rw)), (zb, .inl (cI, 91, .inl T)), (zc, .inl (cI, 6, .inl C))] H := hP
          have hD : va_D A [(z, .inr (7, [a0, a1, .int (nI n), .int y, a4, a5, a6, a7, .ref zr, .int (nI (bd + 1)), .ref zb, .ref zc, a12, a13, a14, a15, a16, a17, a18, a19, a20, a21, a22, a23, a24])), (zr, .inl (cI, 30, .inl Rw)), (zb, .inl (cI, 91, .inl T)), (zc, .inl (cI, 6, .inl C))] := hD
          refine lv_aload_n hx hb dX7_best_62 rfl (lv_at hl 0 rfl) ?_
          refine lv_iload_n hx hb dX7_best_63 rfl (lv_at hl 1 rfl) ?_
          refine lv_iload_n hx hb dX7_best_64 rfl (lv_at hl 2 rfl) ?_
          have hPc_8 := hP.sub (ws' := [(z, .inr (7, [a0, a1, .int (nI n), .int y, a4, a5, a6, a7, .ref zr, .int (nI (bd + 1)), .ref zb, .ref zc, a12, a13, a14, a15, a16, a17, a18, a19, a20, a21, a22, a23, a24])), (zr, .inl (cI, 30, .inl Rw))]) [0, 1] rfl
          refine jcalli (va_runV (As := [.int (nI s9), .int 0]) (rest := []) ⟨hx, hb, hml, hown, hts⟩ (c_bestOf_no l D cI cJ z zr n s9 a0 a1 (.int y) a4 a5 a6 a7 (.int (nI (bd + 1))) (.ref zb) (.ref zc) a12 a13 a14 a15 a16 a17 a18 a19 a20 a21 a22 a23 a24 Rw 0 hn6 hgt H.size) (cwV 2 hts gX7_best_X7_bestOf rfl rfl rfl (by decide +kernel) ⟨Nat.le_of_ble_eq_true rfl, Nat.le_of_ble_eq_true rfl⟩) (jpreV hT (va_recv hK hP (ci := 7) (q0 := 0) rfl rfl) hPc_8) rfl rfl hl.1 rfl (lv_room (Nat.le_of_ble_eq_true rfl)) dX7_best_65 ⟨(Nat.zero_le _), (Nat.zero_le _)⟩) hS hA (fun r_9 H locs hw_r_9 hkq hS => ?_)
          try dsimp only at hw_r_9
          have hP := jkeep hP hkq
          subst hw_r_9
          exact W.iret (v := (-1)) hx hb hr (fun t ht hW => ⟨⟨(-1), (-1), rfl, rfl, by dsimp only; rw [ht]; exact ⟨rfl, hP⟩⟩, hS.F ht⟩) hS.2.2 dX7_best_68
        · skip
          replace c_7 : bd = 40 := (nI_eq (a := bd) (b := 40) (by omega) (by omega)).mp c_7
          exact absurd c_7 (by omega)
    · skip
      exact absurd c_3 (by decide)

set_option maxHeartbeats 4000000 in
set_option maxRecDepth 100000 in
theorem c_mbest_no1 (l : Launch) (D : va_G) (cI cJ : ClassId) (z : Nat) (zr : Nat) (zb : Nat) (zc : Nat) (n : Nat) (bd : Nat) (a0 : Value) (a1 : Value) (a4 : Value) (a5 : Value) (a6 : Value) (a7 : Value) (a12 : Value) (a13 : Value) (a14 : Value) (a15 : Value) (a16 : Value) (a17 : Value) (a18 : Value) (a19 : Value) (a20 : Value) (a21 : Value) (a22 : Value) (a23 : Value) (a24 : Value) (Rw : Nat → Int32) (T : Nat → Int32) (C : Nat → Int32) (y : Int32) (s9 : Nat) (wq : Nat) (hn6 : n ≤ 6) (hs : s9 < 13) (hn0 : 0 < n) (hbd : bd < 40) (h10 : 10 ≤ wq) (h16 : wq < 16) (hgt : ¬ nI s9 ≤ msum Rw n) : jWi l yX7_best wsX7_best ({ frames := 2, cells := 0, slots := 0, locals := 47 }) 0 0 [.ref z, .int (nI s9), .int (nI wq)] D cI cJ [(z, .inr (7, [a0, a1, .int (nI n), .int y, a4, a5, a6, a7, .ref zr, .int (nI bd), .ref zb, .ref zc, a12, a13, a14, a15, a16, a17, a18, a19, a20, a21, a22, a23, a24])), (zr, .inl (cI, 30, .inl Rw)), (zb, .inl (cI, 91, .inl T)), (zc, .inl (cI, 6, .inl C))] (fun H => True) (fun r H => r = -1 ∧ va_P D vwCl [(z, .inr (7, [a0, a1, .int (nI n), .int y, a4, a5, a6, a7, .ref zr, .int (nI (bd + 1)), .ref zb, .ref zc, a12, a13, a14, a15, a16, a17, a18, a19, a20, a21, a22, a23, a24])), (zr, .inl (cI, 30, .inl Rw)), (zb, .inl (cI, 91, .inl T)), (zc, .inl (cI, 6, .inl C))] H) := by
  intro sz
  refine Met.ofW (cc := cX7_best) (maxL := 3) (ret := (some .int)) (by decide) rfl ?_
  intro p e s m args below meth c s₁ B hml hv
  obtain ⟨rfl, hsz, hT, hP, hD0, _⟩ := hv
  have hK := hT.1
  have hx := B.exec
  have hb := B.bytes
  have hr := B.returns
  have hts := atoms_spec (ws := wsX7_best) B.pre
  have hown : s.vm.findClass RX7 = some m.cls := findClass_of_methodNamed B.named
  have hlocks := B.notSynchronized
  subst hsz
  have hD := hD0.self (sz := s.heap.size)
  generalize hAe : va_A [(z, .inr (7, [a0, a1, .int (nI n), .int y, a4, a5, a6, a7, .ref zr, .int (nI bd), .ref zb, .ref zc, a12, a13, a14, a15, a16, a17, a18, a19, a20, a21, a22, a23, a24])), (zr, .inl (cI, 30, .inl Rw)), (zb, .inl (cI, 91, .inl T)), (zc, .inl (cI, 6, .inl C))] s.heap.size = A at hD ⊢
  have hA : ∀ q : Nat, s.heap.size ≤ q → A q := fun q h => by rw [← hAe]; exact Or.inr h
  have hS : va_S A s.heap s.heap [] := va_S.rf
  have hl := lv_entry ([.ref z, .int (nI s9), .int (nI wq)] : List Value) (n := 3) (Nat.le_of_ble_eq_true rfl)
  rw [lg_entry_eq]
  generalize (lg_sl ([.ref z, .int (nI s9), .int (nI wq)]) ++ List.replicate (3 - (lg_sl ([.ref z, .int (nI s9), .int (nI wq)])).length) Slot.unset).toArray = ls at hl ⊢
  have hl : lv_has ls 3 [(0, .ref z), (1, .int (nI s9)), (2, .int (nI wq))] := hl
  refine lv_iload_n hx hb dX7_best_0 rfl (lv_at hl 1 rfl) ?_
  refine lv_i2l (v := (nI s9).toInt64) hx hb dX7_best_1 rfl ?_
  refine lv_lconst (v := 0) hx hb dX7_best_2 (by decide) ?_
  refine lv_ldc2 (v := 12) hx hb hown (hts (Cond.constantLong RX7 125 (12)) (List.mem_of_getElem? (i := 1) rfl)) dX7_best_3 ?_
  refine jcalli (va_runS (As := [.long ((nI s9).toInt64), .long 0, .long 12]) (rest := []) ⟨hx, hb, hml, hown, hts⟩ (c_in_y l D cI cJ ((nI s9).toInt64) 0 12 (jw_le (a := 0) (nI_pos' (by omega))) (jw_le (b := 12) ((nI_leI (a := s9) (b := 12) (by omega) (by omega)).mpr (by omega))) s.heap.size) (va_cwS 3 hts gX7_best_X7_in rfl rfl rfl (by decide +kernel) ⟨Nat.le_of_ble_eq_true rfl, Nat.le_of_ble_eq_true rfl⟩) (jpreS hT trivial) rfl rfl hl.1 rfl (lv_room (Nat.le_of_ble_eq_true rfl)) dX7_best_6 ⟨(Nat.zero_le _), (Nat.zero_le _)⟩) hS hA (fun r_1 H locs hw_r_1 hkq hS => ?_)
  try dsimp only at hw_r_1
  have hP := jkeep hP hkq
  subst hw_r_1
  refine lv_if_eq (tgt := 30) hx hb dX7_best_9 (by decide) (fun c_2 => ?_) (fun c_2 => ?_)
  · skip
    exact absurd c_2 (by decide)
  · skip
    refine lv_iload_n hx hb dX7_best_12 rfl (lv_at hl 2 rfl) ?_
    refine lv_if_eq (tgt := 33) hx hb dX7_best_13 (by decide) (fun c_3 => ?_) (fun c_3 => ?_)
    · skip
      replace c_3 : wq = 0 := (nI_eq (a := wq) (b := 0) (by omega) (by omega)).mp c_3
      exact absurd c_3 (by omega)
    · skip
      replace c_3 : ¬ wq = 0 := fun h => c_3 ((nI_eq (a := wq) (b := 0) (by omega) (by omega)).mpr h)
      refine lv_iload_n hx hb dX7_best_16 rfl (lv_at hl 2 rfl) ?_
      refine lv_i2l (v := (nI wq).toInt64) hx hb dX7_best_17 rfl ?_
      refine lv_ldc2 (v := 10) hx hb hown (hts (Cond.constantLong RX7 127 (10)) (List.mem_of_getElem? (i := 2) rfl)) dX7_best_18 ?_
      refine lv_ldc2 (v := 15) hx hb hown (hts (Cond.constantLong RX7 129 (15)) (List.mem_of_getElem? (i := 3) rfl)) dX7_best_21 ?_
      refine jcalli (va_runS (As := [.long ((nI wq).toInt64), .long 10, .long 15]) (rest := []) ⟨hx, hb, hml, hown, hts⟩ (c_in_y l D cI cJ ((nI wq).toInt64) 10 15 (jw_le (a := 10) ((nI_leI (a := 10) (b := wq) (by omega) (by omega)).mpr h10)) (jw_le (b := 15) ((nI_leI (a := wq) (b := 15) (by omega) (by omega)).mpr (by omega))) H.size) (va_cwS 3 hts gX7_best_X7_in rfl rfl rfl (by decide +kernel) ⟨Nat.le_of_ble_eq_true rfl, Nat.le_of_ble_eq_true rfl⟩) (jpreS hT trivial) rfl rfl hl.1 rfl (lv_room (Nat.le_of_ble_eq_true rfl)) dX7_best_24 ⟨(Nat.zero_le _), (Nat.zero_le _)⟩) hS hA (fun r_4 H locs hw_r_4 hkq hS => ?_)
      try dsimp only at hw_r_4
      have hP := jkeep hP hkq
      subst hw_r_4
      refine lv_if_ne (tgt := 33) hx hb dX7_best_27 (by decide) (fun c_5 => ?_) (fun c_5 => ?_)
      · skip
        refine lv_aload_n hx hb dX7_best_33 rfl (lv_at hl 0 rfl) ?_
        have hPc_6 := hP.sub (ws' := [(z, .inr (7, [a0, a1, .int (nI n), .int y, a4, a5, a6, a7, .ref zr, .int (nI bd), .ref zb, .ref zc, a12, a13, a14, a15, a16, a17, a18, a19, a20, a21, a22, a23, a24]))]) [0] rfl
        refine jcalli (va_runV (As := []) (rest := []) ⟨hx, hb, hml, hown, hts⟩ (c_lacks_n l D cI cJ z n a0 a1 (.int y) a4 a5 a6 a7 (.ref zr) (.int (nI bd)) (.ref zb) (.ref zc) a12 a13 a14 a15 a16 a17 a18 a19 a20 a21 a22 a23 a24 hn0 hn6 H.size) (cwV 0 hts gX7_best_X7_lacks rfl rfl rfl (by decide +kernel) ⟨Nat.le_of_ble_eq_true rfl, Nat.le_of_ble_eq_true rfl⟩) (jpreV hT (va_recv hK hP (ci := 7) (q0 := 0) rfl rfl) hPc_6) rfl rfl hl.1 rfl (lv_room (Nat.le_of_ble_eq_true rfl)) dX7_best_34 ⟨(Nat.zero_le _), (Nat.zero_le _)⟩) hS hA (fun r_7 H locs hw_r_7 hkq hS => ?_)
        try dsimp only at hw_r_7
        have hP := jkeep hP hkq
        subst hw_r_7
        refine lv_if_ne (tgt := 49) hx hb dX7_best_37 (by decide) (fun c_8 => ?_) (fun c_8 => ?_)
        · skip
          exact absurd c_8 (by decide)
        · skip
          refine lv_aload_n hx hb dX7_best_40 rfl (lv_at hl 0 rfl) ?_
          refine va_get (D := D) (ci := 7) (v := .int (nI bd)) (C := RX7) (T := TX7) (N := 25) hx hb hts (fun w h => List.mem_cons_of_mem _ (List.mem_append_right _ h)) hown hK hP 0 rfl rfl 9 (by decide) (hts (Cond.fieldLink RX7 131 "JamDaysModel" "bestDone" "I") (List.mem_of_getElem? (i := 4) rfl)) (fun _ h9 => h9) rfl dX7_best_41 ?_
          refine lv_bipush (v := 40) hx hb dX7_best_44 (by decide) ?_
          refine lv_icmp_ne (tgt := 52) hx hb dX7_best_46 (by decide) (fun c_9 => ?_) (fun c_9 => ?_)
          · skip
            replace c_9 : ¬ bd = 40 := fun h => c_9 ((nI_eq (a := bd) (b := 40) (by omega) (by omega)).mpr h)
            refine lv_aload_n hx hb dX7_best_52 rfl (lv_at hl 0 rfl) ?_
            refine lv_dup hx hb dX7_best_53 rfl ?_
            refine va_get (D := D) (ci := 7) (v := .int (nI bd)) (C := RX7) (T := TX7) (N := 25) hx hb hts (fun w h => List.mem_cons_of_mem _ (List.mem_append_right _ h)) hown hK hP 0 rfl rfl 9 (by decide) (hts (Cond.fieldLink RX7 131 "JamDaysModel" "bestDone" "I") (List.mem_of_getElem? (i := 4) rfl)) (fun _ h9 => h9) rfl dX7_best_54 ?_
            refine lv_iconst (v := 1) hx hb dX7_best_57 (by decide) ?_
            refine lv_iadd hx hb dX7_best_58 ?_
            refine jv_as (y := nI (bd + 1)) (nI_add bd 1) ?_
            refine va_put (D := D) (ci := 7) (v := .int (nI (bd + 1))) (ty := .int) (C := RX7) (T := TX7) (N := 25) hx hb hts (fun w h => List.mem_cons_of_mem _ (List.mem_append_right _ h)) tyX7 tyX7_ok nmX7 hown hK hP hD hS 0 rfl rfl 9 (by decide) (hts (Cond.fieldLink RX7 131 "JamDaysModel" "bestDone" "I") (List.mem_of_getElem? (i := 4) rfl)) (fun _ h9 => h9) rfl (by decide +kernel) rfl rfl (Nat.le_of_ble_eq_true rfl) dX7_best_59 (fun H locs hP hD hS => ?_)
            have hP : va_P D vwCl [(z, .inr (7, [a0, a1, .int (nI n), .int y, a4, a5, a6, a7, .ref zr, .int (nI (bd + 1)), .ref zb, .ref zc, a12, a13, a14, a15, a16, a17, a18, a19, a20, a21, a22, a23, a24])), (zr, .inl (cI, 30, .inl Rw)), (zb, .inl (cI, 91, .inl T)), (zc, .inl (cI, 6, .inl C))] H := hP
            have hD : va_D A [(z, .inr (7, [a0, a1, .int (nI n), .int y, a4, a5, a6, a7, .ref zr, .int (nI (bd + 1)), .ref zb, .ref zc, a12, a13, a14, a15, a16, a17, a18, a19, a20, a21, a22, a23, a24])), (zr, .inl (cI, 30, .inl Rw)), (zb, .inl (cI, 91, .inl T)), (zc, .inl (cI, 6, .inl C))] := hD
            refine lv_aload_n hx hb dX7_best_62 rfl (lv_at hl 0 rfl) ?_
            refine lv_iload_n hx hb dX7_best_63 rfl (lv_at hl 1 rfl) ?_
            refine lv_iload_n hx hb dX7_best_64 rfl (lv_at hl 2 rfl) ?_
            have hPc_10 := hP.sub (ws' := [(z, .inr (7, [a0, a1, .int (nI n), .int y, a4, a5, a6, a7, .ref zr, .int (nI (bd + 1)), .ref zb, .ref zc, a12, a13, a14, a15, a16, a17, a18, a19, a20, a21, a22, a23, a24])), (zr, .inl (cI, 30, .inl Rw))]) [0, 1] rfl
            refine jcalli (va_runV (As := [.int (nI s9), .int (nI wq)]) (rest := []) ⟨hx, hb, hml, hown, hts⟩ (c_bestOf_no l D cI cJ z zr n s9 a0 a1 (.int y) a4 a5 a6 a7 (.int (nI (bd + 1))) (.ref zb) (.ref zc) a12 a13 a14 a15 a16 a17 a18 a19 a20 a21 a22 a23 a24 Rw (nI wq) hn6 hgt H.size) (cwV 2 hts gX7_best_X7_bestOf rfl rfl rfl (by decide +kernel) ⟨Nat.le_of_ble_eq_true rfl, Nat.le_of_ble_eq_true rfl⟩) (jpreV hT (va_recv hK hP (ci := 7) (q0 := 0) rfl rfl) hPc_10) rfl rfl hl.1 rfl (lv_room (Nat.le_of_ble_eq_true rfl)) dX7_best_65 ⟨(Nat.zero_le _), (Nat.zero_le _)⟩) hS hA (fun r_11 H locs hw_r_11 hkq hS => ?_)
            try dsimp only at hw_r_11
            have hP := jkeep hP hkq
            subst hw_r_11
            exact W.iret (v := (-1)) hx hb hr (fun t ht hW => ⟨⟨(-1), (-1), rfl, rfl, by dsimp only; rw [ht]; exact ⟨rfl, hP⟩⟩, hS.F ht⟩) hS.2.2 dX7_best_68
          · skip
            replace c_9 : bd = 40 := (nI_eq (a := bd) (b := 40) (by omega) (by omega)).mp c_9
            exact absurd c_9 (by omega)
      · skip
        exact absurd c_5 (by decide)

