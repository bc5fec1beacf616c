set_option maxHeartbeats 4000000 in
set_option maxRecDepth 100000 in
theorem c_best_out1 (l : Launch) (D : va_G) (cI cJ : ClassId) (x : Nat) (p0 : Int32) (p1 : Int32) (h9 : p0 < 0 ∨ 12 < p0) : jRi l yX6_best wsX6_best ({ frames := 0, cells := 0, slots := 0, locals := 0 }) [.ref x, .int p0, .int p1] D cI cJ (fun H => True) (fun r => r = -102) := by
  intro sz
  refine Met.ofW (cc := cX6_best) (maxL := 5) (ret := (some .int)) (by decide) rfl ?_
  intro p e s m args below meth c s₁ B hml hv
  obtain ⟨rfl, hsz, hT, _⟩ := hv
  have hK := hT.1
  have hx := B.exec
  have hb := B.bytes
  have hr := B.returns
  have hts := atoms_spec (ws := wsX6_best) B.pre
  have hown : s.vm.findClass RX6 = some m.cls := findClass_of_methodNamed B.named
  have hlocks := B.notSynchronized
  subst hsz
  generalize hAe : va_A [] s.heap.size = A
  have hA : ∀ q : Nat, s.heap.size ≤ q → A q := fun q h => by rw [← hAe]; exact Or.inr h
  have hS : va_S A s.heap s.heap [] := va_S.rf
  have hl := lv_entry ([.ref x, .int p0, .int p1] : List Value) (n := 5) (Nat.le_of_ble_eq_true rfl)
  rw [lg_entry_eq]
  generalize (lg_sl ([.ref x, .int p0, .int p1]) ++ List.replicate (5 - (lg_sl ([.ref x, .int p0, .int p1])).length) Slot.unset).toArray = ls at hl ⊢
  have hl : lv_has ls 5 [(0, .ref x), (1, .int p0), (2, .int p1)] := hl
  refine lv_iload_n hx hb dX6_best_0 rfl (lv_at hl 2 rfl) ?_
  refine lv_bipush (v := 10) hx hb dX6_best_1 (by decide) ?_
  refine lv_icmp_lt (tgt := 16) hx hb dX6_best_3 (by decide) (fun c_1 => ?_) (fun c_1 => ?_)
  · skip
    refine lv_iconst (v := 0) hx hb dX6_best_16 (by decide) ?_
    refine lv_istore_n (lv' := [(3, .int 0), (0, .ref x), (1, .int p0), (2, .int p1)]) hx hb dX6_best_17 rfl hl (by decide) rfl (fun ls hl => ?_)
    refine lv_iload_n hx hb dX6_best_18 rfl (lv_at hl 2 rfl) ?_
    refine lv_if_lt (tgt := 36) hx hb dX6_best_19 (by decide) (fun c_2 => ?_) (fun c_2 => ?_)
    · skip
      refine lv_bipush (v := (-102)) hx hb dX6_best_36 (by decide) ?_
      exact W.iret (v := (-102)) hx hb hr (fun t ht hW => ⟨⟨(-102), (), rfl, rfl, trivial⟩, hS.F ht⟩) hS.2.2 dX6_best_38
    · skip
      refine lv_iload_n hx hb dX6_best_22 rfl (lv_at hl 2 rfl) ?_
      refine lv_bipush (v := 12) hx hb dX6_best_23 (by decide) ?_
      refine lv_icmp_gt (tgt := 36) hx hb dX6_best_25 (by decide) (fun c_3 => ?_) (fun c_3 => ?_)
      · skip
        refine lv_bipush (v := (-102)) hx hb dX6_best_36 (by decide) ?_
        exact W.iret (v := (-102)) hx hb hr (fun t ht hW => ⟨⟨(-102), (), rfl, rfl, trivial⟩, hS.F ht⟩) hS.2.2 dX6_best_38
      · skip
        exact (h9.elim (fun h => c_2 h) (fun h => c_3 h)).elim
  · skip
    refine lv_iload_n hx hb dX6_best_6 rfl (lv_at hl 2 rfl) ?_
    refine lv_bipush (v := 16) hx hb dX6_best_7 (by decide) ?_
    refine lv_icmp_ge (tgt := 16) hx hb dX6_best_9 (by decide) (fun c_4 => ?_) (fun c_4 => ?_)
    · skip
      refine lv_iconst (v := 0) hx hb dX6_best_16 (by decide) ?_
      refine lv_istore_n (lv' := [(3, .int 0), (0, .ref x), (1, .int p0), (2, .int p1)]) hx hb dX6_best_17 rfl hl (by decide) rfl (fun ls hl => ?_)
      refine lv_iload_n hx hb dX6_best_18 rfl (lv_at hl 2 rfl) ?_
      refine lv_if_lt (tgt := 36) hx hb dX6_best_19 (by decide) (fun c_5 => ?_) (fun c_5 => ?_)
      · skip
        refine lv_bipush (v := (-102)) hx hb dX6_best_36 (by decide) ?_
        exact W.iret (v := (-102)) hx hb hr (fun t ht hW => ⟨⟨(-102), (), rfl, rfl, trivial⟩, hS.F ht⟩) hS.2.2 dX6_best_38
      · skip
        refine lv_iload_n hx hb dX6_best_22 rfl (lv_at hl 2 rfl) ?_
        refine lv_bipush (v := 12) hx hb dX6_best_23 (by decide) ?_
        refine lv_icmp_gt (tgt := 36) hx hb dX6_best_25 (by decide) (fun c_6 => ?_) (fun c_6 => ?_)
        · skip
          refine lv_bipush (v := (-102)) hx hb dX6_best_36 (by decide) ?_
          exact W.iret (v := (-102)) hx hb hr (fun t ht hW => ⟨⟨(-102), (), rfl, rfl, trivial⟩, hS.F ht⟩) hS.2.2 dX6_best_38
        · skip
          exact (h9.elim (fun h => c_5 h) (fun h => c_6 h)).elim
    · skip
      refine lv_iconst (v := 1) hx hb dX6_best_12 (by decide) ?_
      refine lv_goto (tgt := 17) hx hb dX6_best_13 (by decide) ?_
      refine lv_istore_n (lv' := [(3, .int 1), (0, .ref x), (1, .int p0), (2, .int p1)]) hx hb dX6_best_17 rfl hl (by decide) rfl (fun ls hl => ?_)
      refine lv_iload_n hx hb dX6_best_18 rfl (lv_at hl 2 rfl) ?_
      refine lv_if_lt (tgt := 36) hx hb dX6_best_19 (by decide) (fun c_7 => ?_) (fun c_7 => ?_)
      · skip
        refine lv_bipush (v := (-102)) hx hb dX6_best_36 (by decide) ?_
        exact W.iret (v := (-102)) hx hb hr (fun t ht hW => ⟨⟨(-102), (), rfl, rfl, trivial⟩, hS.F ht⟩) hS.2.2 dX6_best_38
      · skip
        refine lv_iload_n hx hb dX6_best_22 rfl (lv_at hl 2 rfl) ?_
        refine lv_bipush (v := 12) hx hb dX6_best_23 (by decide) ?_
        refine lv_icmp_gt (tgt := 36) hx hb dX6_best_25 (by decide) (fun c_8 => ?_) (fun c_8 => ?_)
        · skip
          refine lv_bipush (v := (-102)) hx hb dX6_best_36 (by decide) ?_
          exact W.iret (v := (-102)) hx hb hr (fun t ht hW => ⟨⟨(-102), (), rfl, rfl, trivial⟩, hS.F ht⟩) hS.2.2 dX6_best_38
        · skip
          exact (h9.elim (fun h => c_7 h) (fun h => c_8 h)).elim

set_option maxHeartbeats 4000000 in
set_option maxRecDepth 100000 in
theorem c_best_out2 (l : Launch) (D : va_G) (cI cJ : ClassId) (x : Nat) (p0 : Int32) (p1 : Int32) (h8 : ¬ p1 = 0) (h9 : p1 < 10 ∨ 16 ≤ p1) : jRi l yX6_best wsX6_best ({ frames := 0, cells := 0, slots := 0, locals := 0 }) [.ref x, .int p0, .int p1] D cI cJ (fun H => True) (fun r => r = -102) := by
  intro sz
  refine Met.ofW (cc := cX6_best) (maxL := 5) (ret := (some .int)) (by decide) rfl ?_
  intro p e s m args below meth c s₁ B hml hv
  obtain ⟨rfl, hsz, hT, _⟩ := hv
  have hK := hT.1
  have hx := B.exec
  have hb := B.bytes
  have hr := B.returns
  have hts := atoms_spec (ws := wsX6_best) B.pre
  have hown : s.vm.findClass RX6 = some m.cls := findClass_of_methodNamed B.named
  have hlocks := B.notSynchronized
  subst hsz
  generalize hAe : va_A [] s.heap.size = A
  have hA : ∀ q : Nat, s.heap.size ≤ q → A q := fun q h => by rw [← hAe]; exact Or.inr h
  have hS : va_S A s.heap s.heap [] := va_S.rf
  have hl := lv_entry ([.ref x, .int p0, .int p1] : List Value) (n := 5) (Nat.le_of_ble_eq_true rfl)
  rw [lg_entry_eq]
  generalize (lg_sl ([.ref x, .int p0, .int p1]) ++ List.replicate (5 - (lg_sl ([.ref x, .int p0, .int p1])).length) Slot.unset).toArray = ls at hl ⊢
  have hl : lv_has ls 5 [(0, .ref x), (1, .int p0), (2, .int p1)] := hl
  refine lv_iload_n hx hb dX6_best_0 rfl (lv_at hl 2 rfl) ?_
  refine lv_bipush (v := 10) hx hb dX6_best_1 (by decide) ?_
  refine lv_icmp_lt (tgt := 16) hx hb dX6_best_3 (by decide) (fun c_1 => ?_) (fun c_1 => ?_)
  · skip
    refine lv_iconst (v := 0) hx hb dX6_best_16 (by decide) ?_
    refine lv_istore_n (lv' := [(3, .int 0), (0, .ref x), (1, .int p0), (2, .int p1)]) hx hb dX6_best_17 rfl hl (by decide) rfl (fun ls hl => ?_)
    refine lv_iload_n hx hb dX6_best_18 rfl (lv_at hl 2 rfl) ?_
    refine lv_if_lt (tgt := 36) hx hb dX6_best_19 (by decide) (fun c_2 => ?_) (fun c_2 => ?_)
    · skip
      refine lv_bipush (v := (-102)) hx hb dX6_best_36 (by decide) ?_
      exact W.iret (v := (-102)) hx hb hr (fun t ht hW => ⟨⟨(-102), (), rfl, rfl, trivial⟩, hS.F ht⟩) hS.2.2 dX6_best_38
    · skip
      refine lv_iload_n hx hb dX6_best_22 rfl (lv_at hl 2 rfl) ?_
      refine lv_bipush (v := 12) hx hb dX6_best_23 (by decide) ?_
      refine lv_icmp_gt (tgt := 36) hx hb dX6_best_25 (by decide) (fun c_3 => ?_) (fun c_3 => ?_)
      · skip
        refine lv_bipush (v := (-102)) hx hb dX6_best_36 (by decide) ?_
        exact W.iret (v := (-102)) hx hb hr (fun t ht hW => ⟨⟨(-102), (), rfl, rfl, trivial⟩, hS.F ht⟩) hS.2.2 dX6_best_38
      · skip
        refine lv_iload_n hx hb dX6_best_28 rfl (lv_at hl 3 rfl) ?_
        refine lv_if_eq (tgt := 39) hx hb dX6_best_29 (by decide) (fun c_4 => ?_) (fun c_4 => ?_)
        · skip
          exact absurd c_4 h8
        · skip
          refine lv_iload_n hx hb dX6_best_32 rfl (lv_at hl 0 rfl) ?_
          refine lv_if_ne (tgt := 39) hx hb dX6_best_33 (by decide) (fun c_5 => ?_) (fun c_5 => ?_)
          · skip
            exact absurd c_5 (by decide)
          · skip
            refine lv_bipush (v := (-102)) hx hb dX6_best_36 (by decide) ?_
            exact W.iret (v := (-102)) hx hb hr (fun t ht hW => ⟨⟨(-102), (), rfl, rfl, trivial⟩, hS.F ht⟩) hS.2.2 dX6_best_38
  · skip
    refine lv_iload_n hx hb dX6_best_6 rfl (lv_at hl 2 rfl) ?_
    refine lv_bipush (v := 16) hx hb dX6_best_7 (by decide) ?_
    refine lv_icmp_ge (tgt := 16) hx hb dX6_best_9 (by decide) (fun c_6 => ?_) (fun c_6 => ?_)
    · skip
      refine lv_iconst (v := 0) hx hb dX6_best_16 (by decide) ?_
      refine lv_istore_n (lv' := [(3, .int 0), (0, .ref x), (1, .int p0), (2, .int p1)]) hx hb dX6_best_17 rfl hl (by decide) rfl (fun ls hl => ?_)
      refine lv_iload_n hx hb dX6_best_18 rfl (lv_at hl 2 rfl) ?_
      refine lv_if_lt (tgt := 36) hx hb dX6_best_19 (by decide) (fun c_7 => ?_) (fun c_7 => ?_)
      · skip
        refine lv_bipush (v := (-102)) hx hb dX6_best_36 (by decide) ?_
        exact W.iret (v := (-102)) hx hb hr (fun t ht hW => ⟨⟨(-102), (), rfl, rfl, trivial⟩, hS.F ht⟩) hS.2.2 dX6_best_38
      · skip
        refine lv_iload_n hx hb dX6_best_22 rfl (lv_at hl 2 rfl) ?_
        refine lv_bipush (v := 12) hx hb dX6_best_23 (by decide) ?_
        refine lv_icmp_gt (tgt := 36) hx hb dX6_best_25 (by decide) (fun c_8 => ?_) (fun c_8 => ?_)
        · skip
          refine lv_bipush (v := (-102)) hx hb dX6_best_36 (by decide) ?_
          exact W.iret (v := (-102)) hx hb hr (fun t ht hW => ⟨⟨(-102), (), rfl, rfl, trivial⟩, hS.F ht⟩) hS.2.2 dX6_best_38
        · skip
          refine lv_iload_n hx hb dX6_best_28 rfl (lv_at hl 3 rfl) ?_
          refine lv_if_eq (tgt := 39) hx hb dX6_best_29 (by decide) (fun c_9 => ?_) (fun c_9 => ?_)
          · skip
            exact absurd c_9 h8
          · skip
            refine lv_iload_n hx hb dX6_best_32 rfl (lv_at hl 0 rfl) ?_
            refine lv_if_ne (tgt := 39) hx hb dX6_best_33 (by decide) (fun c_10 => ?_) (fun c_10 => ?_)
            · skip
              exact absurd c_10 (by decide)
            · skip
              refine lv_bipush (v := (-102)) hx hb dX6_best_36 (by decide) ?_
              exact W.iret (v := (-102)) hx hb hr (fun t ht hW => ⟨⟨(-102), (), rfl, rfl, trivial⟩, hS.F ht⟩) hS.2.2 dX6_best_38
    · skip
      exact (h9.elim (fun h => c_1 h) (fun h => c_6 h)).elim

set_option maxHeartbeats 4000000 in
set_option maxRecDepth 100000 in
theorem c_best_n0 (l : Launch) (D : va_G) (cI cJ : ClassId) (x : Nat) (n : Nat) (s9 : Nat) (a0 : Value) (a1 : Value) (a2 : Value) (a4 : Value) (a5 : Value) (a6 : Value) (a7 : Value) (a8 : Value) (a9 : Value) (a10 : Value) (a11 : Value) (hs : s9 < 13) (hn0 : n = 0) : jRi l yX6_best wsX6_best ({ frames := 1, cells := 0, slots := 0, locals := 20 }) [.ref x, .int (nI s9), .int 0] D cI cJ (fun H => va_P D vwCl [(x, .inr (6, [a0, a1, a2, .int (nI n), a4, a5, a6, a7, a8, a9, a10, a11]))] H) (fun r => r = -103) := by
  intro sz
  refine Met.ofW (cc := cX6_best) (maxL := 5) (ret := (some .int)) (by decide) rfl ?_
  intro p e s m args below meth c s₁ B hml hv
  obtain ⟨rfl, hsz, hT, hPr⟩ := hv
  have hK := hT.1
  have hx := B.exec
  have hb := B.bytes
  have hr := B.returns
  have hts := atoms_spec (ws := wsX6_best) B.pre
  have hown : s.vm.findClass RX6 = some m.cls := findClass_of_methodNamed B.named
  have hlocks := B.notSynchronized
  subst hsz
  generalize hAe : va_A [] s.heap.size = A
  have hA : ∀ q : Nat, s.heap.size ≤ q → A q := fun q h => by rw [← hAe]; exact Or.inr h
  have hS : va_S A s.heap s.heap [] := va_S.rf
  have hl := lv_entry ([.ref x, .int (nI s9), .int 0] : List Value) (n := 5) (Nat.le_of_ble_eq_true rfl)
  rw [lg_entry_eq]
  generalize (lg_sl ([.ref x, .int (nI s9), .int 0]) ++ List.replicate (5 - (lg_sl ([.ref x, .int (nI s9), .int 0])).length) Slot.unset).toArray = ls at hl ⊢
  have hl : lv_has ls 5 [(0, .ref x), (1, .int (nI s9)), (2, .int 0)] := hl
  refine lv_iload_n hx hb dX6_best_0 rfl (lv_at hl 2 rfl) ?_
  refine lv_bipush (v := 10) hx hb dX6_best_1 (by decide) ?_
  refine lv_icmp_lt (tgt := 16) hx hb dX6_best_3 (by decide) (fun c_1 => ?_) (fun c_1 => ?_)
  · skip
    refine lv_iconst (v := 0) hx hb dX6_best_16 (by decide) ?_
    refine lv_istore_n (lv' := [(3, .int 0), (0, .ref x), (1, .int (nI s9)), (2, .int 0)]) hx hb dX6_best_17 rfl hl (by decide) rfl (fun ls hl => ?_)
    refine lv_iload_n hx hb dX6_best_18 rfl (lv_at hl 2 rfl) ?_
    refine lv_if_lt (tgt := 36) hx hb dX6_best_19 (by decide) (fun c_2 => ?_) (fun c_2 => ?_)
    · skip
      replace c_2 : s9 < 0 := (nI_ltI (a := s9) (b := 0) (by omega) (by omega)).mp c_2
      exact absurd c_2 (by omega)
    · skip
      replace c_2 : ¬ s9 < 0 := fun h => c_2 ((nI_ltI (a := s9) (b := 0) (by omega) (by omega)).mpr h)
      refine lv_iload_n hx hb dX6_best_22 rfl (lv_at hl 2 rfl) ?_
      refine lv_bipush (v := 12) hx hb dX6_best_23 (by decide) ?_
      refine lv_icmp_gt (tgt := 36) hx hb dX6_best_25 (by decide) (fun c_3 => ?_) (fun c_3 => ?_)
      · skip
        replace c_3 : 12 < s9 := (nI_ltI (a := 12) (b := s9) (by omega) (by omega)).mp c_3
        exact absurd c_3 (by omega)
      · skip
        replace c_3 : ¬ 12 < s9 := fun h => c_3 ((nI_ltI (a := 12) (b := s9) (by omega) (by omega)).mpr h)
        refine lv_iload_n hx hb dX6_best_28 rfl (lv_at hl 3 rfl) ?_
        refine lv_if_eq (tgt := 39) hx hb dX6_best_29 (by decide) (fun c_4 => ?_) (fun c_4 => ?_)
        · skip
          refine lv_aload_n hx hb dX6_best_39 rfl (lv_at hl 1 rfl) ?_
          have hPc_5 := hPr.sub (ws' := [(x, .inr (6, [a0, a1, a2, .int (nI n), a4, a5, a6, a7, a8, a9, a10, a11]))]) [0] rfl
          refine jcalli (va_runV (As := []) (rest := []) ⟨hx, hb, hml, hown, hts⟩ (c_hasNoLarder_y l D cI cJ x n a0 a1 a2 a4 a5 a6 a7 a8 a9 a10 a11 hn0 s.heap.size) (cwV 0 hts gX6_best_X6_hasNoLarder rfl rfl rfl (by decide +kernel) ⟨Nat.le_of_ble_eq_true rfl, Nat.le_of_ble_eq_true rfl⟩) (jpreV hT (va_recv hK hPr (ci := 6) (q0 := 0) rfl rfl) hPc_5) rfl rfl hl.1 rfl (lv_room (Nat.le_of_ble_eq_true rfl)) dX6_best_40 ⟨(Nat.zero_le _), (Nat.zero_le _)⟩) hS hA (fun r_6 H locs hw_r_6 hkq hS => ?_)
          try dsimp only at hw_r_6
          have hPr := jkeep hPr hkq
          subst hw_r_6
          refine lv_if_ne (tgt := 55) hx hb dX6_best_43 (by decide) (fun c_7 => ?_) (fun c_7 => ?_)
          · skip
            refine lv_bipush (v := (-103)) hx hb dX6_best_55 (by decide) ?_
            exact W.iret (v := (-103)) hx hb hr (fun t ht hW => ⟨⟨(-103), (), rfl, rfl, trivial⟩, hS.F ht⟩) hS.2.2 dX6_best_57
          · skip
            exact absurd c_7 (by decide)
        · skip
          exact absurd c_4 (by decide)
  · skip
    exact absurd c_1 (by decide)

set_option maxHeartbeats 4000000 in
set_option maxRecDepth 100000 in
theorem c_best_full0 (l : Launch) (D : va_G) (cI cJ : ClassId) (x : Nat) (n : Nat) (bd : Nat) (s9 : Nat) (a0 : Value) (a1 : Value) (a2 : Value) (a4 : Value) (a5 : Value) (a6 : Value) (a7 : Value) (a8 : Value) (a10 : Value) (a11 : Value) (hs : s9 < 13) (hn0 : 0 < n) (hn6 : n ≤ 6) (hbd : bd = 40) : jRi l yX6_best wsX6_best ({ frames := 1, cells := 0, slots := 0, locals := 20 }) [.ref x, .int (nI s9), .int 0] D cI cJ (fun H => va_P D vwCl [(x, .inr (6, [a0, a1, a2, .int (nI n), a4, a5, a6, a7, a8, .int (nI bd), a10, a11]))] H) (fun r => r = -103) := by
  intro sz
  refine Met.ofW (cc := cX6_best) (maxL := 5) (ret := (some .int)) (by decide) rfl ?_
  intro p e s m args below meth c s₁ B hml hv
  obtain ⟨rfl, hsz, hT, hPr⟩ := hv
  have hK := hT.1
  have hx := B.exec
  have hb := B.bytes
  have hr := B.returns
  have hts := atoms_spec (ws := wsX6_best) B.pre
  have hown : s.vm.findClass RX6 = some m.cls := findClass_of_methodNamed B.named
  have hlocks := B.notSynchronized
  subst hsz
  generalize hAe : va_A [] s.heap.size = A
  have hA : ∀ q : Nat, s.heap.size ≤ q → A q := fun q h => by rw [← hAe]; exact Or.inr h
  have hS : va_S A s.heap s.heap [] := va_S.rf
  have hl := lv_entry ([.ref x, .int (nI s9), .int 0] : List Value) (n := 5) (Nat.le_of_ble_eq_true rfl)
  rw [lg_entry_eq]
  generalize (lg_sl ([.ref x, .int (nI s9), .int 0]) ++ List.replicate (5 - (lg_sl ([.ref x, .int (nI s9), .int 0])).length) Slot.unset).toArray = ls at hl ⊢
  have hl : lv_has ls 5 [(0, .ref x), (1, .int (nI s9)), (2, .int 0)] := hl
  refine lv_iload_n hx hb dX6_best_0 rfl (lv_at hl 2 rfl) ?_
  refine lv_bipush (v := 10) hx hb dX6_best_1 (by decide) ?_
  refine lv_icmp_lt (tgt := 16) hx hb dX6_best_3 (by decide) (fun c_1 => ?_) (fun c_1 => ?_)
  · skip
    refine lv_iconst (v := 0) hx hb dX6_best_16 (by decide) ?_
    refine lv_istore_n (lv' := [(3, .int 0), (0, .ref x), (1, .int (nI s9)), (2, .int 0)]) hx hb dX6_best_17 rfl hl (by decide) rfl (fun ls hl => ?_)
    refine lv_iload_n hx hb dX6_best_18 rfl (lv_at hl 2 rfl) ?_
    refine lv_if_lt (tgt := 36) hx hb dX6_best_19 (by decide) (fun c_2 => ?_) (fun c_2 => ?_)
    · skip
      replace c_2 : s9 < 0 := (nI_ltI (a := s9) (b := 0) (by omega) (by omega)).mp c_2
      exact absurd c_2 (by omega)
    · skip
      replace c_2 : ¬ s9 < 0 := fun h => c_2 ((nI_ltI (a := s9) (b := 0) (by omega) (by omega)).mpr h)
      refine lv_iload_n hx hb dX6_best_22 rfl (lv_at hl 2 rfl) ?_
      refine lv_bipush (v := 12) hx hb dX6_best_23 (by decide) ?_
      refine lv_icmp_gt (tgt := 36) hx hb dX6_best_25 (by decide) (fun c_3 => ?_) (fun c_3 => ?_)
      · skip
        replace c_3 : 12 < s9 := (nI_ltI (a := 12) (b := s9) (by omega) (by omega)).mp c_3
        exact absurd c_3 (by omega)
      · skip
        replace c_3 : ¬ 12 < s9 := fun h => c_3 ((nI_ltI (a := 12) (b := s9) (by omega) (by omega)).mpr h)
        refine lv_iload_n hx hb dX6_best_28 rfl (lv_at hl 3 rfl) ?_
        refine lv_if_eq (tgt := 39) hx hb dX6_best_29 (by decide) (fun c_4 => ?_) (fun c_4 => ?_)
        · skip
          refine lv_aload_n hx hb dX6_best_39 rfl (lv_at hl 1 rfl) ?_
          have hPc_5 := hPr.sub (ws' := [(x, .inr (6, [a0, a1, a2, .int (nI n), a4, a5, a6, a7, a8, .int (nI bd), a10, a11]))]) [0] rfl
          refine jcalli (va_runV (As := []) (rest := []) ⟨hx, hb, hml, hown, hts⟩ (c_hasNoLarder_n l D cI cJ x n a0 a1 a2 a4 a5 a6 a7 a8 (.int (nI bd)) a10 a11 hn0 hn6 s.heap.size) (cwV 0 hts gX6_best_X6_hasNoLarder rfl rfl rfl (by decide +kernel) ⟨Nat.le_of_ble_eq_true rfl, Nat.le_of_ble_eq_true rfl⟩) (jpreV hT (va_recv hK hPr (ci := 6) (q0 := 0) rfl rfl) hPc_5) rfl rfl hl.1 rfl (lv_room (Nat.le_of_ble_eq_true rfl)) dX6_best_40 ⟨(Nat.zero_le _), (Nat.zero_le _)⟩) hS hA (fun r_6 H locs hw_r_6 hkq hS => ?_)
          try dsimp only at hw_r_6
          have hPr := jkeep hPr hkq
          subst hw_r_6
          refine lv_if_ne (tgt := 55) hx hb dX6_best_43 (by decide) (fun c_7 => ?_) (fun c_7 => ?_)
          · skip
            exact absurd c_7 (by decide)
          · skip
            refine lv_aload_n hx hb dX6_best_46 rfl (lv_at hl 1 rfl) ?_
            refine va_get (D := D) (ci := 6) (v := .int (nI bd)) (C := RX6) (T := TX6) (N := 12) hx hb hts (fun w h => List.mem_cons_of_mem _ (List.mem_append_left _ (List.mem_append_left _ (List.mem_append_left _ (List.mem_append_left _ (List.mem_append_left _ (List.mem_append_left _ (List.mem_append_right _ h)))))))) hown hK hPr 0 rfl rfl 9 (by decide) (hts (Cond.fieldLink RX6 46 "JamDays" "bestsDone" "I") (List.mem_of_getElem? (i := 1) rfl)) (fun _ h9 => h9) rfl dX6_best_47 ?_
            refine lv_bipush (v := 40) hx hb dX6_best_50 (by decide) ?_
            refine lv_icmp_lt (tgt := 58) hx hb dX6_best_52 (by decide) (fun c_8 => ?_) (fun c_8 => ?_)
            · skip
              replace c_8 : bd < 40 := (nI_ltI (a := bd) (b := 40) (by omega) (by omega)).mp c_8
              exact absurd c_8 (by omega)
            · skip
              replace c_8 : ¬ bd < 40 := fun h => c_8 ((nI_ltI (a := bd) (b := 40) (by omega) (by omega)).mpr h)
              refine lv_bipush (v := (-103)) hx hb dX6_best_55 (by decide) ?_
              exact W.iret (v := (-103)) hx hb hr (fun t ht hW => ⟨⟨(-103), (), rfl, rfl, trivial⟩, hS.F ht⟩) hS.2.2 dX6_best_57
        · skip
          exact absurd c_4 (by decide)
  · skip
    exact absurd c_1 (by decide)

set_option maxHeartbeats 4000000 in
set_option maxRecDepth 100000 in
theorem c_best_n1 (l : Launch) (D : va_G) (cI cJ : ClassId) (x : Nat) (n : Nat) (s9 : Nat) (a0 : Value) (a1 : Value) (a2 : Value) (a4 : Value) (a5 : Value) (a6 : Value) (a7 : Value) (a8 : Value) (a9 : Value) (a10 : Value) (a11 : Value) (wq : Nat) (hs : s9 < 13) (h10 : 10 ≤ wq) (h16 : wq < 16) (hn0 : n = 0) : jRi l yX6_best wsX6_best ({ frames := 1, cells := 0, slots := 0, locals := 20 }) [.ref x, .int (nI s9), .int (nI wq)] D cI cJ (fun H => va_P D vwCl [(x, .inr (6, [a0, a1, a2, .int (nI n), a4, a5, a6, a7, a8, a9, a10, a11]))] H) (fun r => r = -103) := by
  intro sz
  refine Met.ofW (cc := cX6_best) (maxL := 5) (ret := (some .int)) (by decide) rfl ?_
  intro p e s m args below meth c s₁ B hml hv
  obtain ⟨rfl, hsz, hT, hPr⟩ := hv
  have hK := hT.1
  have hx := B.exec
  have hb := B.bytes
  have hr := B.returns
  have hts := atoms_spec (ws := wsX6_best) B.pre
  have hown : s.vm.findClass RX6 = some m.cls := findClass_of_methodNamed B.named
  have hlocks := B.notSynchronized
  subst hsz
  generalize hAe : va_A [] s.heap.size = A
  have hA : ∀ q : Nat, s.heap.size ≤ q → A q := fun q h => by rw [← hAe]; exact Or.inr h
  have hS : va_S A s.heap s.heap [] := va_S.rf
  have hl := lv_entry ([.ref x, .int (nI s9), .int (nI wq)] : List Value) (n := 5) (Nat.le_of_ble_eq_true rfl)
  rw [lg_entry_eq]
  generalize (lg_sl ([.ref x, .int (nI s9), .int (nI wq)]) ++ List.replicate (5 - (lg_sl ([.ref x, .int (nI s9), .int (nI wq)])).length) Slot.unset).toArray = ls at hl ⊢
  have hl : lv_has ls 5 [(0, .ref x), (1, .int (nI s9)), (2, .int (nI wq))] := hl
  refine lv_iload_n hx hb dX6_best_0 rfl (lv_at hl 2 rfl) ?_
  refine lv_bipush (v := 10) hx hb dX6_best_1 (by decide) ?_
  refine lv_icmp_lt (tgt := 16) hx hb dX6_best_3 (by decide) (fun c_1 => ?_) (fun c_1 => ?_)
  · skip
    replace c_1 : wq < 10 := (nI_ltI (a := wq) (b := 10) (by omega) (by omega)).mp c_1
    exact absurd c_1 (by omega)
  · skip
    replace c_1 : ¬ wq < 10 := fun h => c_1 ((nI_ltI (a := wq) (b := 10) (by omega) (by omega)).mpr h)
    refine lv_iload_n hx hb dX6_best_6 rfl (lv_at hl 2 rfl) ?_
    refine lv_bipush (v := 16) hx hb dX6_best_7 (by decide) ?_
    refine lv_icmp_ge (tgt := 16) hx hb dX6_best_9 (by decide) (fun c_2 => ?_) (fun c_2 => ?_)
    · skip
      replace c_2 : 16 ≤ wq := (nI_leI (a := 16) (b := wq) (by omega) (by omega)).mp c_2
      exact absurd c_2 (by omega)
    · skip
      replace c_2 : ¬ 16 ≤ wq := fun h => c_2 ((nI_leI (a := 16) (b := wq) (by omega) (by omega)).mpr h)
      refine lv_iconst (v := 1) hx hb dX6_best_12 (by decide) ?_
      refine lv_goto (tgt := 17) hx hb dX6_best_13 (by decide) ?_
      refine lv_istore_n (lv' := [(3, .int 1), (0, .ref x), (1, .int (nI s9)), (2, .int (nI wq))]) hx hb dX6_best_17 rfl hl (by decide) rfl (fun ls hl => ?_)
      refine lv_iload_n hx hb dX6_best_18 rfl (lv_at hl 2 rfl) ?_
      refine lv_if_lt (tgt := 36) hx hb dX6_best_19 (by decide) (fun c_3 => ?_) (fun c_3 => ?_)
      · skip
        replace c_3 : s9 < 0 := (nI_ltI (a := s9) (b := 0) (by omega) (by omega)).mp c_3
        exact absurd c_3 (by omega)
      · skip
        replace c_3 : ¬ s9 < 0 := fun h => c_3 ((nI_ltI (a := s9) (b := 0) (by omega) (by omega)).mpr h)
        refine lv_iload_n hx hb dX6_best_22 rfl (lv_at hl 2 rfl) ?_
        refine lv_bipush (v := 12) hx hb dX6_best_23 (by decide) ?_
        refine lv_icmp_gt (tgt := 36) hx hb dX6_best_25 (by decide) (fun c_4 => ?_) (fun c_4 => ?_)
        · skip
          replace c_4 : 12 < s9 := (nI_ltI (a := 12) (b := s9) (by omega) (by omega)).mp c_4
          exact absurd c_4 (by omega)
        · skip
          replace c_4 : ¬ 12 < s9 := fun h => c_4 ((nI_ltI (a := 12) (b := s9) (by omega) (by omega)).mpr h)
          refine lv_iload_n hx hb dX6_best_28 rfl (lv_at hl 3 rfl) ?_
          refine lv_if_eq (tgt := 39) hx hb dX6_best_29 (by decide) (fun c_5 => ?_) (fun c_5 => ?_)
          · skip
            replace c_5 : wq = 0 := (nI_eq (a := wq) (b := 0) (by omega) (by omega)).mp c_5
            exact absurd c_5 (by omega)
          · skip
            replace c_5 : ¬ wq = 0 := fun h => c_5 ((nI_eq (a := wq) (b := 0) (by omega) (by omega)).mpr h)
            refine lv_iload_n hx hb dX6_best_32 rfl (lv_at hl 0 rfl) ?_
            refine lv_if_ne (tgt := 39) hx hb dX6_best_33 (by decide) (fun c_6 => ?_) (fun c_6 => ?_)
            · skip
              refine lv_aload_n hx hb dX6_best_39 rfl (lv_at hl 1 rfl) ?_
              have hPc_7 := hPr.sub (ws' := [(x, .inr (6, [a0, a1, a2, .int (nI n), a4, a5, a6, a7, a8, a9, a10, a11]))]) [0] rfl
              refine jcalli (va_runV (As := []) (rest := []) ⟨hx, hb, hml, hown, hts⟩ (c_hasNoLarder_y l D cI cJ x n a0 a1 a2 a4 a5 a6 a7 a8 a9 a10 a11 hn0 s.heap.size) (cwV 0 hts gX6_best_X6_hasNoLarder rfl rfl rfl (by decide +kernel) ⟨Nat.le_of_ble_eq_true rfl, Nat.le_of_ble_eq_true rfl⟩) (jpreV hT (va_recv hK hPr (ci := 6) (q0 := 0) rfl rfl) hPc_7) rfl rfl hl.1 rfl (lv_room (Nat.le_of_ble_eq_true rfl)) dX6_best_40 ⟨(Nat.zero_le _), (Nat.zero_le _)⟩) hS hA (fun r_8 H locs hw_r_8 hkq hS => ?_)
              try dsimp only at hw_r_8
              have hPr := jkeep hPr hkq
              subst hw_r_8
              refine lv_if_ne (tgt := 55) hx hb dX6_best_43 (by decide) (fun c_9 => ?_) (fun c_9 => ?_)
              · skip
                refine lv_bipush (v := (-103)) hx hb dX6_best_55 (by decide) ?_
                exact W.iret (v := (-103)) hx hb hr (fun t ht hW => ⟨⟨(-103), (), rfl, rfl, trivial⟩, hS.F ht⟩) hS.2.2 dX6_best_57
              · skip
                exact absurd c_9 (by decide)
            · skip
              exact absurd c_6 (by decide)

set_option maxHeartbeats 4000000 in
set_option maxRecDepth 100000 in
theorem c_best_full1 (l : Launch) (D : va_G) (cI cJ : ClassId) (x : Nat) (n : Nat) (bd : Nat) (s9 : Nat) (a0 : Value) (a1 : Value) (a2 : Value) (a4 : Value) (a5 : Value) (a6 : Value) (a7 : Value) (a8 : Value) (a10 : Value) (a11 : Value) (wq : Nat) (hs : s9 < 13) (h10 : 10 ≤ wq) (h16 : wq < 16) (hn0 : 0 < n) (hn6 : n ≤ 6) (hbd : bd = 40) : jRi l yX6_best wsX6_best ({ frames := 1, cells := 0, slots := 0, locals := 20 }) [.ref x, .int (nI s9), .int (nI wq)] D cI cJ (fun H => va_P D vwCl [(x, .inr (6, [a0, a1, a2, .int (nI n), a4, a5, a6, a7, a8, .int (nI bd), a10, a11]))] H) (fun r => r = -103) := by
  intro sz
  refine Met.ofW (cc := cX6_best) (maxL := 5) (ret := (some .int)) (by decide) rfl ?_
  intro p e s m args below meth c s₁ B hml hv
  obtain ⟨rfl, hsz, hT, hPr⟩ := hv
  have hK := hT.1
  have hx := B.exec
  have hb := B.bytes
  have hr := B.returns
  have hts := atoms_spec (ws := wsX6_best) B.pre
  have hown : s.vm.findClass RX6 = some m.cls := findClass_of_methodNamed B.named
  have hlocks := B.notSynchronized
  subst hsz
  generalize hAe : va_A [] s.heap.size = A
  have hA : ∀ q : Nat, s.heap.size ≤ q → A q := fun q h => by rw [← hAe]; exact Or.inr h
  have hS : va_S A s.heap s.heap [] := va_S.rf
  have hl := lv_entry ([.ref x, .int (nI s9), .int (nI wq)] : List Value) (n := 5) (Nat.le_of_ble_eq_true rfl)
  rw [lg_entry_eq]
  generalize (lg_sl ([.ref x, .int (nI s9), .int (nI wq)]) ++ List.replicate (5 - (lg_sl ([.ref x, .int (nI s9), .int (nI wq)])).length) Slot.unset).toArray = ls at hl ⊢
  have hl : lv_has ls 5 [(0, .ref x), (1, .int (nI s9)), (2, .int (nI wq))] := hl
  refine lv_iload_n hx hb dX6_best_0 rfl (lv_at hl 2 rfl) ?_
  refine lv_bipush (v := 10) hx hb dX6_best_1 (by decide) ?_
  refine lv_icmp_lt (tgt := 16) hx hb dX6_best_3 (by decide) (fun c_1 => ?_) (fun c_1 => ?_)
  · skip
    replace c_1 : wq < 10 := (nI_ltI (a := wq) (b := 10) (by omega) (by omega)).mp c_1
    exact absurd c_1 (by omega)
  · skip
    replace c_1 : ¬ wq < 10 := fun h => c_1 ((nI_ltI (a := wq) (b := 10) (by omega) (by omega)).mpr h)
    refine lv_iload_n hx hb dX6_best_6 rfl (lv_at hl 2 rfl) ?_
    refine lv_bipush (v := 16) hx hb dX6_best_7 (by decide) ?_
    refine lv_icmp_ge (tgt := 16) hx hb dX6_best_9 (by decide) (fun c_2 => ?_) (fun c_2 => ?_)
    · skip
      replace c_2 : 16 ≤ wq := (nI_leI (a := 16) (b := wq) (by omega) (by omega)).mp c_2
      exact absurd c_2 (by omega)
    · skip
      replace c_2 : ¬ 16 ≤ wq := fun h => c_2 ((nI_leI (a := 16) (b := wq) (by omega) (by omega)).mpr h)
      refine lv_iconst (v := 1) hx hb dX6_best_12 (by decide) ?_
      refine lv_goto (tgt := 17) hx hb dX6_best_13 (by decide) ?_
      refine lv_istore_n (lv' := [(3, .int 1), (0, .ref x), (1, .int (nI s9)), (2, .int (nI wq))]) hx hb dX6_best_17 rfl hl (by decide) rfl (fun ls hl => ?_)
      refine lv_iload_n hx hb dX6_best_18 rfl (lv_at hl 2 rfl) ?_
      refine lv_if_lt (tgt := 36) hx hb dX6_best_19 (by decide) (fun c_3 => ?_) (fun c_3 => ?_)
      · skip
        replace c_3 : s9 < 0 := (nI_ltI (a := s9) (b := 0) (by omega) (by omega)).mp c_3
        exact absurd c_3 (by omega)
      · skip
        replace c_3 : ¬ s9 < 0 := fun h => c_3 ((nI_ltI (a := s9) (b := 0) (by omega) (by omega)).mpr h)
        refine lv_iload_n hx hb dX6_best_22 rfl (lv_at hl 2 rfl) ?_
        refine lv_bipush (v := 12) hx hb dX6_best_23 (by decide) ?_
        refine lv_icmp_gt (tgt := 36) hx hb dX6_best_25 (by decide) (fun c_4 => ?_) (fun c_4 => ?_)
        · skip
          replace c_4 : 12 < s9 := (nI_ltI (a := 12) (b := s9) (by omega) (by omega)).mp c_4
          exact absurd c_4 (by omega)
        · skip
          replace c_4 : ¬ 12 < s9 := fun h => c_4 ((nI_ltI (a := 12) (b := s9) (by omega) (by omega)).mpr h)
          refine lv_iload_n hx hb dX6_best_28 rfl (lv_at hl 3 rfl) ?_
          refine lv_if_eq (tgt := 39) hx hb dX6_best_29 (by decide) (fun c_5 => ?_) (fun c_5 => ?_)
          · skip
            replace c_5 : wq = 0 := (nI_eq (a := wq) (b := 0) (by omega) (by omega)).mp c_5
            exact absurd c_5 (by omega)
          · skip
            replace c_5 : ¬ wq = 0 := fun h => c_5 ((nI_eq (a := wq) (b := 0) (by omega) (by omega)).mpr h)
            refine lv_iload_n hx hb dX6_best_32 rfl (lv_at hl 0 rfl) ?_
            refine lv_if_ne (tgt := 39) hx hb dX6_best_33 (by decide) (fun c_6 => ?_) (fun c_6 => ?_)
            · skip
              refine lv_aload_n hx hb dX6_best_39 rfl (lv_at hl 1 rfl) ?_
              have hPc_7 := hPr.sub (ws' := [(x, .inr (6, [a0, a1, a2, .int (nI n), a4, a5, a6, a7, a8, .int (nI bd), a10, a11]))]) [0] rfl
              refine jcalli (va_runV (As := []) (rest := []) ⟨hx, hb, hml, hown, hts⟩ (c_hasNoLarder_n l D cI cJ x n a0 a1 a2 a4 a5 a6 a7 a8 (.int (nI bd)) a10 a11 hn0 hn6 s.heap.size) (cwV 0 hts gX6_best_X6_hasNoLarder rfl rfl rfl (by decide +kernel) ⟨Nat.le_of_ble_eq_true rfl, Nat.le_of_ble_eq_true rfl⟩) (jpreV hT (va_recv hK hPr (ci := 6) (q0 := 0) rfl rfl) hPc_7) rfl rfl hl.1 rfl (lv_room (Nat.le_of_ble_eq_true rfl)) dX6_best_40 ⟨(Nat.zero_le _), (Nat.zero_le _)⟩) hS hA (fun r_8 H locs hw_r_8 hkq hS => ?_)
              try dsimp only at hw_r_8
              have hPr := jkeep hPr hkq
              subst hw_r_8
              refine lv_if_ne (tgt := 55) hx hb dX6_best_43 (by decide) (fun c_9 => ?_) (fun c_9 => ?_)
              · skip
                exact absurd c_9 (by decide)
              · skip
                refine lv_aload_n hx hb dX6_best_46 rfl (lv_at hl 1 rfl) ?_
                refine va_get (D := D) (ci := 6) (v := .int (nI bd)) (C := RX6) (T := TX6) (N := 12) hx hb hts (fun w h => List.mem_cons_of_mem _ (List.mem_append_left _ (List.mem_append_left _ (List.mem_append_left _ (List.mem_append_left _ (List.mem_append_left _ (List.mem_append_left _ (List.mem_append_right _ h)))))))) hown hK hPr 0 rfl rfl 9 (by decide) (hts (Cond.fieldLink RX6 46 "JamDays" "bestsDone" "I") (List.mem_of_getElem? (i := 1) rfl)) (fun _ h9 => h9) rfl dX6_best_47 ?_
                refine lv_bipush (v := 40) hx hb dX6_best_50 (by decide) ?_
                refine lv_icmp_lt (tgt := 58) hx hb dX6_best_52 (by decide) (fun c_10 => ?_) (fun c_10 => ?_)
                · skip
                  replace c_10 : bd < 40 := (nI_ltI (a := bd) (b := 40) (by omega) (by omega)).mp c_10
                  exact absurd c_10 (by omega)
                · skip
                  replace c_10 : ¬ bd < 40 := fun h => c_10 ((nI_ltI (a := bd) (b := 40) (by omega) (by omega)).mpr h)
                  refine lv_bipush (v := (-103)) hx hb dX6_best_55 (by decide) ?_
                  exact W.iret (v := (-103)) hx hb hr (fun t ht hW => ⟨⟨(-103), (), rfl, rfl, trivial⟩, hS.F ht⟩) hS.2.2 dX6_best_57
            · skip
              exact absurd c_6 (by decide)

set_option maxHeartbeats 4000000 in
set_option maxRecDepth 100000 in
theorem c_best_all (l : Launch) (D : va_G) (cI cJ : ClassId) (x : Nat) (xj : Nat) (xn : Nat) (xm : Nat) (xw : Nat) (ns : Nat) (ne : Nat) (bd : Nat) (n : Nat) (a0 : Value) (a1 : Value) (a5 : Value) (a6 : Value) (a7 : Value) (a8 : Value) (b1 : Value) (b2 : Value) (b3 : Value) (b4 : Value) (b7 : Value) (b8 : Value) (jr : Nat → Option Nat) (jk : Nat → Nat) (jg : Nat → Int32) (js : Nat → Int32) (jm : Nat → Int32) (fw : Nat → Int32 → Int32) (nw : Nat → Int32) (sp : Nat → Int32) (en : Nat → Int32) (M : Nat → Int32) (y : Int32) (s9 : Nat) (hn0 : 0 < n) (hn6 : n ≤ 6) (hfw : ∀ i : Nat, i < n → ∀ z : Int32, cfw (jk i) (jg i) (jm i) z = fw i z) (hap : ∀ i a : Nat, i < n → jr i = some a → a ∉ [x, xj, xn, ns, ne, xm, xw]) (hbd : bd < 40) (hs : s9 < 13) : jWi l yX6_best wsX6_best ({ frames := 5, cells := 0, slots := 0, locals := 113 }) 0 0 [.ref x, .int (nI s9), .int 0] D cI cJ [(x, .inr (6, [a0, a1, .ref xj, .int (nI n), .ref xn, a5, a6, a7, a8, .int (nI bd), .ref xm, .ref xw])), (xj, .inl (cJ, 6, .inr (.inr (.inr (.inr jr))))), (xn, .inr (1, [.int y, b1, b2, b3, b4, .ref ns, .ref ne, b7, b8])), (ns, .inl (cI, 6, .inl sp)), (ne, .inl (cI, 6, .inl en)), (xm, .inl (cI, 91, .inl M)), (xw, .inl (cI, 6, .inl nw))] (fun H => jJ D n jr jk jg js jm H) (fun r H => r = (if (cfl (fun i => fw i y - en i) sp M nw n n).1 (0 * 13 + s9) = -1000000 then -1 else (cfl (fun i => fw i y - en i) sp M nw n n).1 (0 * 13 + s9) + 1000) ∧ va_P D vwCl [(x, .inr (6, [a0, a1, .ref xj, .int (nI n), .ref xn, a5, a6, a7, a8, .int (nI (bd + 1)), .ref xm, .ref xw])), (xj, .inl (cJ, 6, .inr (.inr (.inr (.inr jr))))), (xn, .inr (1, [.int y, b1, b2, b3, b4, .ref ns, .ref ne, b7, b8])), (ns, .inl (cI, 6, .inl sp)), (ne, .inl (cI, 6, .inl en)), (xm, .inl (cI, 91, .inl ((cfl (fun i => fw i y - en i) sp M nw n n).1))), (xw, .inl (cI, 6, .inl ((cfl (fun i => fw i y - en i) sp M nw n n).2)))] H) := by
  intro sz
  refine Met.ofW (cc := cX6_best) (maxL := 5) (ret := (some .int)) (by decide) rfl ?_
  intro p e s m args below meth c s₁ B hml hv
  obtain ⟨rfl, hsz, hT, hP, hD0, hJ⟩ := hv
  have hK := hT.1
  have hx := B.exec
  have hb := B.bytes
  have hr := B.returns
  have hts := atoms_spec (ws := wsX6_best) B.pre
  have hown : s.vm.findClass RX6 = some m.cls := findClass_of_methodNamed B.named
  have hlocks := B.notSynchronized
  subst hsz
  have hD := hD0.self (sz := s.heap.size)
  generalize hAe : va_A [(x, .inr (6, [a0, a1, .ref xj, .int (nI n), .ref xn, a5, a6, a7, a8, .int (nI bd), .ref xm, .ref xw])), (xj, .inl (cJ, 6, .inr (.inr (.inr (.inr jr))))), (xn, .inr (1, [.int y, b1, b2, b3, b4, .ref ns, .ref ne, b7, b8])), (ns, .inl (cI, 6, .inl sp)), (ne, .inl (cI, 6, .inl en)), (xm, .inl (cI, 91, .inl M)), (xw, .inl (cI, 6, .inl nw))] s.heap.size = A at hD ⊢
  have hA : ∀ q : Nat, s.heap.size ≤ q → A q := fun q h => by rw [← hAe]; exact Or.inr h
  have hS : va_S A s.heap s.heap [] := va_S.rf
  have hl := lv_entry ([.ref x, .int (nI s9), .int 0] : List Value) (n := 5) (Nat.le_of_ble_eq_true rfl)
  rw [lg_entry_eq]
  generalize (lg_sl ([.ref x, .int (nI s9), .int 0]) ++ List.replicate (5 - (lg_sl ([.ref x, .int (nI s9), .int 0])).length) Slot.unset).toArray = ls at hl ⊢
  have hl : lv_has ls 5 [(0, .ref x), (1, .int (nI s9)), (2, .int 0)] := hl
  have hJ_0 := hJ
  have hJ_A : ∀ i a : Nat, i < n → jr i = some a → ¬ A a := fun i a hi ha => by rw [← hAe]; exact jap (hJ.lt hi ha) (hap i a hi ha)
  refine lv_iload_n hx hb dX6_best_0 rfl (lv_at hl 2 rfl) ?_
  refine lv_bipush (v := 10) hx hb dX6_best_1 (by decide) ?_
  refine lv_icmp_lt (tgt := 16) hx hb dX6_best_3 (by decide) (fun c_1 => ?_) (fun c_1 => ?_)
  · skip
    refine lv_iconst (v := 0) hx hb dX6_best_16 (by decide) ?_
    refine lv_istore_n (lv' := [(3, .int 0), (0, .ref x), (1, .int (nI s9)), (2, .int 0)]) hx hb dX6_best_17 rfl hl (by decide) rfl (fun ls hl => ?_)
    refine lv_iload_n hx hb dX6_best_18 rfl (lv_at hl 2 rfl) ?_
    refine lv_if_lt (tgt := 36) hx hb dX6_best_19 (by decide) (fun c_2 => ?_) (fun c_2 => ?_)
    · skip
      replace c_2 : s9 < 0 := (nI_ltI (a := s9) (b := 0) (by omega) (by omega)).mp c_2
      exact absurd c_2 (by omega)
    · skip
      replace c_2 : ¬ s9 < 0 := fun h => c_2 ((nI_ltI (a := s9) (b := 0) (by omega) (by omega)).mpr h)
      refine lv_iload_n hx hb dX6_best_22 rfl (lv_at hl 2 rfl) ?_
      refine lv_bipush (v := 12) hx hb dX6_best_23 (by decide) ?_
      refine lv_icmp_gt (tgt := 36) hx hb dX6_best_25 (by decide) (fun c_3 => ?_) (fun c_3 => ?_)
      · skip
        replace c_3 : 12 < s9 := (nI_ltI (a := 12) (b := s9) (by omega) (by omega)).mp c_3
        exact absurd c_3 (by omega)
      · skip
        replace c_3 : ¬ 12 < s9 := fun h => c_3 ((nI_ltI (a := 12) (b := s9) (by omega) (by omega)).mpr h)
        refine lv_iload_n hx hb dX6_best_28 rfl (lv_at hl 3 rfl) ?_
        refine lv_if_eq (tgt := 39) hx hb dX6_best_29 (by decide) (fun c_4 => ?_) (fun c_4 => ?_)
        · skip
          refine lv_aload_n hx hb dX6_best_39 rfl (lv_at hl 1 rfl) ?_
          have hPc_5 := hP.sub (ws' := [(x, .inr (6, [a0, a1, .ref xj, .int (nI n), .ref xn, a5, a6, a7, a8, .int (nI bd), .ref xm, .ref xw]))]) [0] rfl
          refine jcalli (va_runV (As := []) (rest := []) ⟨hx, hb, hml, hown, hts⟩ (c_hasNoLarder_n l D cI cJ x n a0 a1 (.ref xj) (.ref xn) a5 a6 a7 a8 (.int (nI bd)) (.ref xm) (.ref xw) hn0 hn6 s.heap.size) (cwV 0 hts gX6_best_X6_hasNoLarder rfl rfl rfl (by decide +kernel) ⟨Nat.le_of_ble_eq_true rfl, Nat.le_of_ble_eq_true rfl⟩) (jpreV hT (va_recv hK hP (ci := 6) (q0 := 0) rfl rfl) hPc_5) rfl rfl hl.1 rfl (lv_room (Nat.le_of_ble_eq_true rfl)) dX6_best_40 ⟨(Nat.zero_le _), (Nat.zero_le _)⟩) hS hA (fun r_6 H locs hw_r_6 hkq hS => ?_)
          try dsimp only at hw_r_6
          have hP := jkeep hP hkq
          have hJ := hJ.kept hkq
          subst hw_r_6
          refine lv_if_ne (tgt := 55) hx hb dX6_best_43 (by decide) (fun c_7 => ?_) (fun c_7 => ?_)
          · skip
            exact absurd c_7 (by decide)
          · skip
            refine lv_aload_n hx hb dX6_best_46 rfl (lv_at hl 1 rfl) ?_
            refine va_get (D := D) (ci := 6) (v := .int (nI bd)) (C := RX6) (T := TX6) (N := 12) hx hb hts (fun w h => List.mem_cons_of_mem _ (List.mem_append_left _ (List.mem_append_left _ (List.mem_append_left _ (List.mem_append_left _ (List.mem_append_left _ (List.mem_append_left _ (List.mem_append_right _ h)))))))) hown hK hP 0 rfl rfl 9 (by decide) (hts (Cond.fieldLink RX6 46 "JamDays" "bestsDone" "I") (List.mem_of_getElem? (i := 1) rfl)) (fun _ h9 => h9) rfl dX6_best_47 ?_
            refine lv_bipush (v := 40) hx hb dX6_best_50 (by decide) ?_
            refine lv_icmp_lt (tgt := 58) hx hb dX6_best_52 (by decide) (fun c_8 => ?_) (fun c_8 => ?_)
            · skip
              replace c_8 : bd < 40 := (nI_ltI (a := bd) (b := 40) (by omega) (by omega)).mp c_8
              refine lv_aload_n hx hb dX6_best_58 rfl (lv_at hl 1 rfl) ?_
              refine lv_dup hx hb dX6_best_59 rfl ?_
              refine va_get (D := D) (ci := 6) (v := .int (nI bd)) (C := RX6) (T := TX6) (N := 12) hx hb hts (fun w h => List.mem_cons_of_mem _ (List.mem_append_left _ (List.mem_append_left _ (List.mem_append_left _ (List.mem_append_left _ (List.mem_append_left _ (List.mem_append_left _ (List.mem_append_right _ h)))))))) hown hK hP 0 rfl rfl 9 (by decide) (hts (Cond.fieldLink RX6 46 "JamDays" "bestsDone" "I") (List.mem_of_getElem? (i := 1) rfl)) (fun _ h9 => h9) rfl dX6_best_60 ?_
              refine lv_iconst (v := 1) hx hb dX6_best_63 (by decide) ?_
              refine lv_iadd hx hb dX6_best_64 ?_
              refine jv_as (y := nI (bd + 1)) (nI_add bd 1) ?_
              refine va_put (D := D) (ci := 6) (v := .int (nI (bd + 1))) (ty := .int) (C := RX6) (T := TX6) (N := 12) hx hb hts (fun w h => List.mem_cons_of_mem _ (List.mem_append_left _ (List.mem_append_left _ (List.mem_append_left _ (List.mem_append_left _ (List.mem_append_left _ (List.mem_append_left _ (List.mem_append_right _ h)))))))) tyX6 tyX6_ok nmX6 hown hK hP hD hS 0 rfl rfl 9 (by decide) (hts (Cond.fieldLink RX6 46 "JamDays" "bestsDone" "I") (List.mem_of_getElem? (i := 1) rfl)) (fun _ h9 => h9) rfl (by decide +kernel) rfl rfl (Nat.le_of_ble_eq_true rfl) dX6_best_65 (fun H locs hP hD hS => ?_)
              have hP : va_P D vwCl [(x, .inr (6, [a0, a1, .ref xj, .int (nI n), .ref xn, a5, a6, a7, a8, .int (nI (bd + 1)), .ref xm, .ref xw])), (xj, .inl (cJ, 6, .inr (.inr (.inr (.inr jr))))), (xn, .inr (1, [.int y, b1, b2, b3, b4, .ref ns, .ref ne, b7, b8])), (ns, .inl (cI, 6, .inl sp)), (ne, .inl (cI, 6, .inl en)), (xm, .inl (cI, 91, .inl M)), (xw, .inl (cI, 6, .inl nw))] H := hP
              have hD : va_D A [(x, .inr (6, [a0, a1, .ref xj, .int (nI n), .ref xn, a5, a6, a7, a8, .int (nI (bd + 1)), .ref xm, .ref xw])), (xj, .inl (cJ, 6, .inr (.inr (.inr (.inr jr))))), (xn, .inr (1, [.int y, b1, b2, b3, b4, .ref ns, .ref ne, b7, b8])), (ns, .inl (cI, 6, .inl sp)), (ne, .inl (cI, 6, .inl en)), (xm, .inl (cI, 91, .inl M)), (xw, .inl (cI, 6, .inl nw))] := hD
              have hJ := hJ_0.keptA hJ_A (fun q h1 h2 => hS.2.1 q h1 h2)
              refine lv_aload_n hx hb dX6_best_68 rfl (lv_at hl 1 rfl) ?_
              have hPc_9 := hP.sub (ws' := [(x, .inr (6, [a0, a1, .ref xj, .int (nI n), .ref xn, a5, a6, a7, a8, .int (nI (bd + 1)), .ref xm, .ref xw])), (xj, .inl (cJ, 6, .inr (.inr (.inr (.inr jr))))), (xn, .inr (1, [.int y, b1, b2, b3, b4, .ref ns, .ref ne, b7, b8])), (ns, .inl (cI, 6, .inl sp)), (ne, .inl (cI, 6, .inl en)), (xm, .inl (cI, 91, .inl M)), (xw, .inl (cI, 6, .inl nw))]) [0, 1, 2, 3, 4, 5, 6] rfl
              have hDc_10 := hD.sub (ws' := [(x, .inr (6, [a0, a1, .ref xj, .int (nI n), .ref xn, a5, a6, a7, a8, .int (nI (bd + 1)), .ref xm, .ref xw])), (xj, .inl (cJ, 6, .inr (.inr (.inr (.inr jr))))), (xn, .inr (1, [.int y, b1, b2, b3, b4, .ref ns, .ref ne, b7, b8])), (ns, .inl (cI, 6, .inl sp)), (ne, .inl (cI, 6, .inl en)), (xm, .inl (cI, 91, .inl M)), (xw, .inl (cI, 6, .inl nw))]) [0, 1, 2, 3, 4, 5, 6] (by decide) rfl
              have hFc_11 := va_free (wc := [(x, .inr (6, [a0, a1, .ref xj, .int (nI n), .ref xn, a5, a6, a7, a8, .int (nI (bd + 1)), .ref xm, .ref xw])), (xj, .inl (cJ, 6, .inr (.inr (.inr (.inr jr))))), (xn, .inr (1, [.int y, b1, b2, b3, b4, .ref ns, .ref ne, b7, b8])), (ns, .inl (cI, 6, .inl sp)), (ne, .inl (cI, 6, .inl en)), (xm, .inl (cI, 91, .inl M)), (xw, .inl (cI, 6, .inl nw))]) hD hS hA [0, 1, 2, 3, 4, 5, 6] rfl
              refine jcallWv (post := fun H => va_P D vwCl [(x, .inr (6, [a0, a1, .ref xj, .int (nI n), .ref xn, a5, a6, a7, a8, (.int (nI (bd + 1))), .ref xm, .ref xw])), (xj, .inl (cJ, 6, .inr (.inr (.inr (.inr jr))))), (xn, .inr (1, [.int y, b1, b2, b3, b4, .ref ns, .ref ne, b7, b8])), (ns, .inl (cI, 6, .inl sp)), (ne, .inl (cI, 6, .inl en)), (xm, .inl (cI, 91, .inl ((cfl (fun i => fw i y - en i) sp M nw n n).1))), (xw, .inl (cI, 6, .inl ((cfl (fun i => fw i y - en i) sp M nw n n).2)))] H) (va_runV (As := []) (rest := []) ⟨hx, hb, hml, hown, hts⟩ (c_fillMost l D cI cJ x xj xn xm xw ns ne n a0 a1 a5 a6 a7 a8 (.int (nI (bd + 1))) b1 b2 b3 b4 b7 b8 jr jk jg js jm fw nw sp en M y hn6 hfw hap H.size) (cwV 0 hts gX6_best_X6_fillMost rfl rfl rfl (by decide +kernel) ⟨Nat.le_of_ble_eq_true rfl, Nat.le_of_ble_eq_true rfl⟩) (jpreV hT (va_recv hK hP (ci := 6) (q0 := 0) rfl rfl) ⟨hPc_9, hDc_10.weaken (fun _ _ _ _ => trivial), hJ⟩) rfl rfl hl.1 rfl (lv_room (Nat.le_of_ble_eq_true rfl)) dX6_best_69 ⟨(Nat.zero_le _), (Nat.zero_le _)⟩) hS hFc_11 (fun H locs hw_r_12 hz hkq hS => ?_)
              have hP1 := hw_r_12
              obtain ⟨hP, hD⟩ := jjoin (wc := [(x, .inr (6, [a0, a1, .ref xj, .int (nI n), .ref xn, a5, a6, a7, a8, .int (nI (bd + 1)), .ref xm, .ref xw])), (xj, .inl (cJ, 6, .inr (.inr (.inr (.inr jr))))), (xn, .inr (1, [.int y, b1, b2, b3, b4, .ref ns, .ref ne, b7, b8])), (ns, .inl (cI, 6, .inl sp)), (ne, .inl (cI, 6, .inl en)), (xm, .inl (cI, 91, .inl M)), (xw, .inl (cI, 6, .inl nw))]) (wr := []) (w1 := [(x, .inr (6, [a0, a1, .ref xj, .int (nI n), .ref xn, a5, a6, a7, a8, .int (nI (bd + 1)), .ref xm, .ref xw])), (xj, .inl (cJ, 6, .inr (.inr (.inr (.inr jr))))), (xn, .inr (1, [.int y, b1, b2, b3, b4, .ref ns, .ref ne, b7, b8])), (ns, .inl (cI, 6, .inl sp)), (ne, .inl (cI, 6, .inl en)), (xm, .inl (cI, 91, .inl ((cfl (fun i => fw i y - en i) sp M nw n n).1))), (xw, .inl (cI, 6, .inl ((cfl (fun i => fw i y - en i) sp M nw n n).2)))]) (ws' := [(x, .inr (6, [a0, a1, .ref xj, .int (nI n), .ref xn, a5, a6, a7, a8, .int (nI (bd + 1)), .ref xm, .ref xw])), (xj, .inl (cJ, 6, .inr (.inr (.inr (.inr jr))))), (xn, .inr (1, [.int y, b1, b2, b3, b4, .ref ns, .ref ne, b7, b8])), (ns, .inl (cI, 6, .inl sp)), (ne, .inl (cI, 6, .inl en)), (xm, .inl (cI, 91, .inl ((cfl (fun i => fw i y - en i) sp M nw n n).1))), (xw, .inl (cI, 6, .inl ((cfl (fun i => fw i y - en i) sp M nw n n).2)))]) hP hD hFc_11 [0, 1, 2, 3, 4, 5, 6] [] [0, 1, 2, 3, 4, 5, 6] rfl rfl (by decide) (by decide) (by decide) (by decide) hkq hP1 rfl rfl rfl
              have hJ := hJ_0.keptA hJ_A (fun q h1 h2 => hS.2.1 q h1 h2)
              refine lv_aload_n hx hb dX6_best_72 rfl (lv_at hl 1 rfl) ?_
              refine lv_iconst (v := 0) hx hb dX6_best_73 (by decide) ?_
              refine lv_iload_n hx hb dX6_best_74 rfl (lv_at hl 2 rfl) ?_
              have hPc_13 := hP.sub (ws' := [(x, .inr (6, [a0, a1, .ref xj, .int (nI n), .ref xn, a5, a6, a7, a8, .int (nI (bd + 1)), .ref xm, .ref xw])), (xm, .inl (cI, 91, .inl ((cfl (fun i => fw i y - en i) sp M nw n n).1)))]) [0, 5] rfl
              refine jcalli (va_runV (As := [.int 0, .int (nI s9)]) (rest := []) ⟨hx, hb, hml, hown, hts⟩ (c_mostWorth l D cI cJ x xm 0 s9 a0 a1 (.ref xj) (.int (nI n)) (.ref xn) a5 a6 a7 a8 (.int (nI (bd + 1))) (.ref xw) ((cfl (fun i => fw i y - en i) sp M nw n n).1) (by omega) hs H.size) (cwV 2 hts gX6_best_X6_mostWorth rfl rfl rfl (by decide +kernel) ⟨Nat.le_of_ble_eq_true rfl, Nat.le_of_ble_eq_true rfl⟩) (jpreV hT (va_recv hK hP (ci := 6) (q0 := 0) rfl rfl) hPc_13) rfl rfl hl.1 rfl (lv_room (Nat.le_of_ble_eq_true rfl)) dX6_best_75 ⟨(Nat.zero_le _), (Nat.zero_le _)⟩) hS hA (fun r_14 H locs hw_r_14 hkq hS => ?_)
              try dsimp only at hw_r_14
              have hP := jkeep hP hkq
              have hJ := hJ.kept hkq
              subst hw_r_14
              refine lv_istore (lv' := [(4, .int (((cfl (fun i => fw i y - en i) sp M nw n n).1) (0 * 13 + s9))), (3, .int 0), (0, .ref x), (1, .int (nI s9)), (2, .int 0)]) hx hb dX6_best_78 hl (by decide) rfl (fun ls hl => ?_)
              refine lv_iload hx hb dX6_best_80 (lv_at hl 0 rfl) ?_
              refine lv_ldc (v := (-1000000)) hx hb hown (hts (Cond.constant RX6 136 (-1000000)) (List.mem_of_getElem? (i := 2) rfl)) dX6_best_82 ?_
              refine lv_icmp_ne (tgt := 89) hx hb dX6_best_84 (by decide) (fun c_15 => ?_) (fun c_15 => ?_)
              · skip
                refine lv_iload_n hx hb dX6_best_89 rfl (lv_at hl 4 rfl) ?_
                refine lv_if_ne (tgt := 102) hx hb dX6_best_90 (by decide) (fun c_16 => ?_) (fun c_16 => ?_)
                · skip
                  exact absurd c_16 (by decide)
                · skip
                  refine lv_iload hx hb dX6_best_93 (lv_at hl 0 rfl) ?_
                  refine lv_sipush (v := 1000) hx hb dX6_best_95 (by decide) ?_
                  refine lv_iadd hx hb dX6_best_98 ?_
                  refine lv_goto (tgt := 111) hx hb dX6_best_99 (by decide) ?_
                  exact W.iret (v := (((cfl (fun i => fw i y - en i) sp M nw n n).1) (0 * 13 + s9)) + 1000) hx hb hr (fun t ht hW => ⟨⟨(((cfl (fun i => fw i y - en i) sp M nw n n).1) (0 * 13 + s9)) + 1000, (((cfl (fun i => fw i y - en i) sp M nw n n).1) (0 * 13 + s9)) + 1000, rfl, rfl, by dsimp only; rw [ht]; exact ⟨(by rw [if_neg c_15]), hP⟩⟩, hS.F ht⟩) hS.2.2 dX6_best_111
              · skip
                refine lv_iconst (v := (-1)) hx hb dX6_best_87 (by decide) ?_
                exact W.iret (v := (-1)) hx hb hr (fun t ht hW => ⟨⟨(-1), (-1), rfl, rfl, by dsimp only; rw [ht]; exact ⟨(by rw [if_pos c_15]), hP⟩⟩, hS.F ht⟩) hS.2.2 dX6_best_88
            · skip
              replace c_8 : ¬ bd < 40 := fun h => c_8 ((nI_ltI (a := bd) (b := 40) (by omega) (by omega)).mpr h)
              exact absurd c_8 (by omega)
        · skip
          exact absurd c_4 (by decide)
  · skip
    exact absurd c_1 (by decide)

set_option maxHeartbeats 4000000 in
set_option maxRecDepth 100000 in
theorem c_best_no (l : Launch) (D : va_G) (cI cJ : ClassId) (x : Nat) (xj : Nat) (xn : Nat) (xm : Nat) (xw : Nat) (ns : Nat) (ne : Nat) (bd : Nat) (n : Nat) (a0 : Value) (a1 : Value) (a5 : Value) (a6 : Value) (a7 : Value) (a8 : Value) (b1 : Value) (b2 : Value) (b3 : Value) (b4 : Value) (b7 : Value) (b8 : Value) (jr : Nat → Option Nat) (jk : Nat → Nat) (jg : Nat → Int32) (js : Nat → Int32) (jm : Nat → Int32) (fw : Nat → Int32 → Int32) (nw : Nat → Int32) (sp : Nat → Int32) (en : Nat → Int32) (M : Nat → Int32) (y : Int32) (s9 : Nat) (wq : Nat) (hn0 : 0 < n) (hn6 : n ≤ 6) (hfw : ∀ i : Nat, i < n → ∀ z : Int32, cfw (jk i) (jg i) (jm i) z = fw i z) (hap : ∀ i a : Nat, i < n → jr i = some a → a ∉ [x, xj, xn, ns, ne, xm, xw]) (hbd : bd < 40) (hs : s9 < 13) (h10 : 10 ≤ wq) (h16 : wq < 16) (h7 : n ≤ wq - 10) : jWi l yX6_best wsX6_best ({ frames := 5, cells := 0, slots := 0, locals := 113 }) 0 0 [.ref x, .int (nI s9), .int (nI wq)] D cI cJ [(x, .inr (6, [a0, a1, .ref xj, .int (nI n), .ref xn, a5, a6, a7, a8, .int (nI bd), .ref xm, .ref xw])), (xj, .inl (cJ, 6, .inr (.inr (.inr (.inr jr))))), (xn, .inr (1, [.int y, b1, b2, b3, b4, .ref ns, .ref ne, b7, b8])), (ns, .inl (cI, 6, .inl sp)), (ne, .inl (cI, 6, .inl en)), (xm, .inl (cI, 91, .inl M)), (xw, .inl (cI, 6, .inl nw))] (fun H => jJ D n jr jk jg js jm H) (fun r H => r = -1 ∧ va_P D vwCl [(x, .inr (6, [a0, a1, .ref xj, .int (nI n), .ref xn, a5, a6, a7, a8, .int (nI (bd + 1)), .ref xm, .ref xw])), (xj, .inl (cJ, 6, .inr (.inr (.inr (.inr jr))))), (xn, .inr (1, [.int y, b1, b2, b3, b4, .ref ns, .ref ne, b7, b8])), (ns, .inl (cI, 6, .inl sp)), (ne, .inl (cI, 6, .inl en)), (xm, .inl (cI, 91, .inl ((cfl (fun i => fw i y - en i) sp M nw n n).1))), (xw, .inl (cI, 6, .inl ((cfl (fun i => fw i y - en i) sp M nw n n).2)))] H) := by
  intro sz
  refine Met.ofW (cc := cX6_best) (maxL := 5) (ret := (some .int)) (by decide) rfl ?_
  intro p e s m args below meth c s₁ B hml hv
  obtain ⟨rfl, hsz, hT, hP, hD0, hJ⟩ := hv
  have hK := hT.1
  have hx := B.exec
  have hb := B.bytes
  have hr := B.returns
  have hts := atoms_spec (ws := wsX6_best) B.pre
  have hown : s.vm.findClass RX6 = some m.cls := findClass_of_methodNamed B.named
  have hlocks := B.notSynchronized
  subst hsz
  have hD := hD0.self (sz := s.heap.size)
  generalize hAe : va_A [(x, .inr (6, [a0, a1, .ref xj, .int (nI n), .ref xn, a5, a6, a7, a8, .int (nI bd), .ref xm, .ref xw])), (xj, .inl (cJ, 6, .inr (.inr (.inr (.inr jr))))), (xn, .inr (1, [.int y, b1, b2, b3, b4, .ref ns, .ref ne, b7, b8])), (ns, .inl (cI, 6, .inl sp)), (ne, .inl (cI, 6, .inl en)), (xm, .inl (cI, 91, .inl M)), (xw, .inl (cI, 6, .inl nw))] s.heap.size = A at hD ⊢
  have hA : ∀ q : Nat, s.heap.size ≤ q → A q := fun q h => by rw [← hAe]; exact Or.inr h
  have hS : va_S A s.heap s.heap [] := va_S.rf
  have hl := lv_entry ([.ref x, .int (nI s9), .int (nI wq)] : List Value) (n := 5) (Nat.le_of_ble_eq_true rfl)
  rw [lg_entry_eq]
  generalize (lg_sl ([.ref x, .int (nI s9), .int (nI wq)]) ++ List.replicate (5 - (lg_sl ([.ref x, .int (nI s9), .int (nI wq)])).length) Slot.unset).toArray = ls at hl ⊢
  have hl : lv_has ls 5 [(0, .ref x), (1, .int (nI s9)), (2, .int (nI wq))] := hl
  have hJ_0 := hJ
  have hJ_A : ∀ i a : Nat, i < n → jr i = some a → ¬ A a := fun i a hi ha => by rw [← hAe]; exact jap (hJ.lt hi ha) (hap i a hi ha)
  refine lv_iload_n hx hb dX6_best_0 rfl (lv_at hl 2 rfl) ?_
  refine lv_bipush (v := 10) hx hb dX6_best_1 (by decide) ?_
  refine lv_icmp_lt (tgt := 16) hx hb dX6_best_3 (by decide) (fun c_1 => ?_) (fun c_1 => ?_)
  · skip
    replace c_1 : wq < 10 := (nI_ltI (a := wq) (b := 10) (by omega) (by omega)).mp c_1
    exact absurd c_1 (by omega)
  · skip
    replace c_1 : ¬ wq < 10 := fun h => c_1 ((nI_ltI (a := wq) (b := 10) (by omega) (by omega)).mpr h)
    refine lv_iload_n hx hb dX6_best_6 rfl (lv_at hl 2 rfl) ?_
    refine lv_bipush (v := 16) hx hb dX6_best_7 (by decide) ?_
    refine lv_icmp_ge (tgt := 16) hx hb dX6_best_9 (by decide) (fun c_2 => ?_) (fun c_2 => ?_)
    · skip
      replace c_2 : 16 ≤ wq := (nI_leI (a := 16) (b := wq) (by omega) (by omega)).mp c_2
      exact absurd c_2 (by omega)
    · skip
      replace c_2 : ¬ 16 ≤ wq := fun h => c_2 ((nI_leI (a := 16) (b := wq) (by omega) (by omega)).mpr h)
      refine lv_iconst (v := 1) hx hb dX6_best_12 (by decide) ?_
      refine lv_goto (tgt := 17) hx hb dX6_best_13 (by decide) ?_
      refine lv_istore_n (lv' := [(3, .int 1), (0, .ref x), (1, .int (nI s9)), (2, .int (nI wq))]) hx hb dX6_best_17 rfl hl (by decide) rfl (fun ls hl => ?_)
      refine lv_iload_n hx hb dX6_best_18 rfl (lv_at hl 2 rfl) ?_
      refine lv_if_lt (tgt := 36) hx hb dX6_best_19 (by decide) (fun c_3 => ?_) (fun c_3 => ?_)
      · skip
        replace c_3 : s9 < 0 := (nI_ltI (a := s9) (b := 0) (by omega) (by omega)).mp c_3
        exact absurd c_3 (by omega)
      · skip
        replace c_3 : ¬ s9 < 0 := fun h => c_3 ((nI_ltI (a := s9) (b := 0) (by omega) (by omega)).mpr h)
        refine lv_iload_n hx hb dX6_best_22 rfl (lv_at hl 2 rfl) ?_
        refine lv_bipush (v := 12) hx hb dX6_best_23 (by decide) ?_
        refine lv_icmp_gt (tgt := 36) hx hb dX6_best_25 (by decide) (fun c_4 => ?_) (fun c_4 => ?_)
        · skip
          replace c_4 : 12 < s9 := (nI_ltI (a := 12) (b := s9) (by omega) (by omega)).mp c_4
          exact absurd c_4 (by omega)
        · skip
          replace c_4 : ¬ 12 < s9 := fun h => c_4 ((nI_ltI (a := 12) (b := s9) (by omega) (by omega)).mpr h)
          refine lv_iload_n hx hb dX6_best_28 rfl (lv_at hl 3 rfl) ?_
          refine lv_if_eq (tgt := 39) hx hb dX6_best_29 (by decide) (fun c_5 => ?_) (fun c_5 => ?_)
          · skip
            replace c_5 : wq = 0 := (nI_eq (a := wq) (b := 0) (by omega) (by omega)).mp c_5
            exact absurd c_5 (by omega)
          · skip
            replace c_5 : ¬ wq = 0 := fun h => c_5 ((nI_eq (a := wq) (b := 0) (by omega) (by omega)).mpr h)
            refine lv_iload_n hx hb dX6_best_32 rfl (lv_at hl 0 rfl) ?_
            refine lv_if_ne (tgt := 39) hx hb dX6_best_33 (by decide) (fun c_6 => ?_) (fun c_6 => ?_)
            · skip
              refine lv_aload_n hx hb dX6_best_39 rfl (lv_at hl 1 rfl) ?_
              have hPc_7 := hP.sub (ws' := [(x, .inr (6, [a0, a1, .ref xj, .int (nI n), .ref xn, a5, a6, a7, a8, .int (nI bd), .ref xm, .ref xw]))]) [0] rfl
              refine jcalli (va_runV (As := []) (rest := []) ⟨hx, hb, hml, hown, hts⟩ (c_hasNoLarder_n l D cI cJ x n a0 a1 (.ref xj) (.ref xn) a5 a6 a7 a8 (.int (nI bd)) (.ref xm) (.ref xw) hn0 hn6 s.heap.size) (cwV 0 hts gX6_best_X6_hasNoLarder rfl rfl rfl (by decide +kernel) ⟨Nat.le_of_ble_eq_true rfl, Nat.le_of_ble_eq_true rfl⟩) (jpreV hT (va_recv hK hP (ci := 6) (q0 := 0) rfl rfl) hPc_7) rfl rfl hl.1 rfl (lv_room (Nat.le_of_ble_eq_true rfl)) dX6_best_40 ⟨(Nat.zero_le _), (Nat.zero_le _)⟩) hS hA (fun r_8 H locs hw_r_8 hkq hS => ?_)
              try dsimp only at hw_r_8
              have hP := jkeep hP hkq
              have hJ := hJ.kept hkq
              subst hw_r_8
              refine lv_if_ne (tgt := 55) hx hb dX6_best_43 (by decide) (fun c_9 => ?_) (fun c_9 => ?_)
              · skip
                exact absurd c_9 (by decide)
              · skip
                refine lv_aload_n hx hb dX6_best_46 rfl (lv_at hl 1 rfl) ?_
                refine va_get (D := D) (ci := 6) (v := .int (nI bd)) (C := RX6) (T := TX6) (N := 12) hx hb hts (fun w h => List.mem_cons_of_mem _ (List.mem_append_left _ (List.mem_append_left _ (List.mem_append_left _ (List.mem_append_left _ (List.mem_append_left _ (List.mem_append_left _ (List.mem_append_right _ h)))))))) hown hK hP 0 rfl rfl 9 (by decide) (hts (Cond.fieldLink RX6 46 "JamDays" "bestsDone" "I") (List.mem_of_getElem? (i := 1) rfl)) (fun _ h9 => h9) rfl dX6_best_47 ?_
                refine lv_bipush (v := 40) hx hb dX6_best_50 (by decide) ?_
                refine lv_icmp_lt (tgt := 58) hx hb dX6_best_52 (by decide) (fun c_10 => ?_) (fun c_10 => ?_)
                · skip
                  replace c_10 : bd < 40 := (nI_ltI (a := bd) (b := 40) (by omega) (by omega)).mp c_10
                  refine lv_aload_n hx hb dX6_best_58 rfl (lv_at hl 1 rfl) ?_
                  refine lv_dup hx hb dX6_best_59 rfl ?_
                  refine va_get (D := D) (ci := 6) (v := .int (nI bd)) (C := RX6) (T := TX6) (N := 12) hx hb hts (fun w h => List.mem_cons_of_mem _ (List.mem_append_left _ (List.mem_append_left _ (List.mem_append_left _ (List.mem_append_left _ (List.mem_append_left _ (List.mem_append_left _ (List.mem_append_right _ h)))))))) hown hK hP 0 rfl rfl 9 (by decide) (hts (Cond.fieldLink RX6 46 "JamDays" "bestsDone" "I") (List.mem_of_getElem? (i := 1) rfl)) (fun _ h9 => h9) rfl dX6_best_60 ?_
                  refine lv_iconst (v := 1) hx hb dX6_best_63 (by decide) ?_
                  refine lv_iadd hx hb dX6_best_64 ?_
                  refine jv_as (y := nI (bd + 1)) (nI_add bd 1) ?_
                  refine va_put (D := D) (ci := 6) (v := .int (nI (bd + 1))) (ty := .int) (C := RX6) (T := TX6) (N := 12) hx hb hts (fun w h => List.mem_cons_of_mem _ (List.mem_append_left _ (List.mem_append_left _ (List.mem_append_left _ (List.mem_append_left _ (List.mem_append_left _ (List.mem_append_left _ (List.mem_append_right _ h)))))))) tyX6 tyX6_ok nmX6 hown hK hP hD hS 0 rfl rfl 9 (by decide) (hts (Cond.fieldLink RX6 46 "JamDays" "bestsDone" "I") (List.mem_of_getElem? (i := 1) rfl)) (fun _ h9 => h9) rfl (by decide +kernel) rfl rfl (Nat.le_of_ble_eq_true rfl) dX6_best_65 (fun H locs hP hD hS => ?_)
                  have hP : va_P D vwCl [(x, .inr (6, [a0, a1, .ref xj, .int (nI n), .ref xn, a5, a6, a7, a8, .int (nI (bd + 1)), .ref xm, .ref xw])), (xj, .inl (cJ, 6, .inr (.inr (.inr (.inr jr))))), (xn, .inr (1, [.int y, b1, b2, b3, b4, .ref ns, .ref ne, b7, b8])), (ns, .inl (cI, 6, .inl sp)), (ne, .inl (cI, 6, .inl en)), (xm, .inl (cI, 91, .inl M)), (xw, .inl (cI, 6, .inl nw))] H := hP
                  have hD : va_D A [(x, .inr (6, [a0, a1, .ref xj, .int (nI n), .ref xn, a5, a6, a7, a8, .int (nI (bd + 1)), .ref xm, .ref xw])), (xj, .inl (cJ, 6, .inr (.inr (.inr (.inr jr))))), (xn, .inr (1, [.int y, b1, b2, b3, b4, .ref ns, .ref ne, b7, b8])), (ns, .inl (cI, 6, .inl sp)), (ne, .inl (cI, 6, .inl en)), (xm, .inl (cI, 91, .inl M)), (xw, .inl (cI, 6, .inl nw))] := hD
                  have hJ := hJ_0.keptA hJ_A (fun q h1 h2 => hS.2.1 q h1 h2)
                  refine lv_aload_n hx hb dX6_best_68 rfl (lv_at hl 1 rfl) ?_
                  have hPc_11 := hP.sub (ws' := [(x, .inr (6, [a0, a1, .ref xj, .int (nI n), .ref xn, a5, a6, a7, a8, .int (nI (bd + 1)), .ref xm, .ref xw])), (xj, .inl (cJ, 6, .inr (.inr (.inr (.inr jr))))), (xn, .inr (1, [.int y, b1, b2, b3, b4, .ref ns, .ref ne, b7, b8])), (ns, .inl (cI, 6, .inl sp)), (ne, .inl (cI, 6, .inl en)), (xm, .inl (cI, 91, .inl M)), (xw, .inl (cI, 6, .inl nw))]) [0, 1, 2, 3, 4, 5, 6] rfl
                  have hDc_12 := hD.sub (ws' := [(x, .inr (6, [a0, a1, .ref xj, .int (nI n), .ref xn, a5, a6, a7, a8, .int (nI (bd + 1)), .ref xm, .ref xw])), (xj, .inl (cJ, 6, .inr (.inr (.inr (.inr jr))))), (xn, .inr (1, [.int y, b1, b2, b3, b4, .ref ns, .ref ne, b7, b8])), (ns, .inl (cI, 6, .inl sp)), (ne, .inl (cI, 6, .inl en)), (xm, .inl (cI, 91, .inl M)), (xw, .inl (cI, 6, .inl nw))]) [0, 1, 2, 3, 4, 5, 6] (by decide) rfl
                  have hFc_13 := va_free (wc := [(x, .inr (6, [a0, a1, .ref xj, .int (nI n), .ref xn, a5, a6, a7, a8, .int (nI (bd + 1)), .ref xm, .ref xw])), (xj, .inl (cJ, 6, .inr (.inr (.inr (.inr jr))))), (xn, .inr (1, [.int y, b1, b2, b3, b4, .ref ns, .ref ne, b7, b8])), (ns, .inl (cI, 6, .inl sp)), (ne, .inl (cI, 6, .inl en)), (xm, .inl (cI, 91, .inl M)), (xw, .inl (cI, 6, .inl nw))]) hD hS hA [0, 1, 2, 3, 4, 5, 6] rfl
                  refine jcallWv (post := fun H => va_P D vwCl [(x, .inr (6, [a0, a1, .ref xj, .int (nI n), .ref xn, a5, a6, a7, a8, (.int (nI (bd + 1))), .ref xm, .ref xw])), (xj, .inl (cJ, 6, .inr (.inr (.inr (.inr jr))))), (xn, .inr (1, [.int y, b1, b2, b3, b4, .ref ns, .ref ne, b7, b8])), (ns, .inl (cI, 6, .inl sp)), (ne, .inl (cI, 6, .inl en)), (xm, .inl (cI, 91, .inl ((cfl (fun i => fw i y - en i) sp M nw n n).1))), (xw, .inl (cI, 6, .inl ((cfl (fun i => fw i y - en i) sp M nw n n).2)))] H) (va_runV (As := []) (rest := []) ⟨hx, hb, hml, hown, hts⟩ (c_fillMost l D cI cJ x xj xn xm xw ns ne n a0 a1 a5 a6 a7 a8 (.int (nI (bd + 1))) b1 b2 b3 b4 b7 b8 jr jk jg js jm fw nw sp en M y hn6 hfw hap H.size) (cwV 0 hts gX6_best_X6_fillMost rfl rfl rfl (by decide +kernel) ⟨Nat.le_of_ble_eq_true rfl, Nat.le_of_ble_eq_true rfl⟩) (jpreV hT (va_recv hK hP (ci := 6) (q0 := 0) rfl rfl) ⟨hPc_11, hDc_12.weaken (fun _ _ _ _ => trivial), hJ⟩) rfl rfl hl.1 rfl (lv_room (Nat.le_of_ble_eq_true rfl)) dX6_best_69 ⟨(Nat.zero_le _), (Nat.zero_le _)⟩) hS hFc_13 (fun H locs hw_r_14 hz hkq hS => ?_)
                  have hP1 := hw_r_14
                  obtain ⟨hP, hD⟩ := jjoin (wc := [(x, .inr (6, [a0, a1, .ref xj, .int (nI n), .ref xn, a5, a6, a7, a8, .int (nI (bd + 1)), .ref xm, .ref xw])), (xj, .inl (cJ, 6, .inr (.inr (.inr (.inr jr))))), (xn, .inr (1, [.int y, b1, b2, b3, b4, .ref ns, .ref ne, b7, b8])), (ns, .inl (cI, 6, .inl sp)), (ne, .inl (cI, 6, .inl en)), (xm, .inl (cI, 91, .inl M)), (xw, .inl (cI, 6, .inl nw))]) (wr := []) (w1 := [(x, .inr (6, [a0, a1, .ref xj, .int (nI n), .ref xn, a5, a6, a7, a8, .int (nI (bd + 1)), .ref xm, .ref xw])), (xj, .inl (cJ, 6, .inr (.inr (.inr (.inr jr))))), (xn, .inr (1, [.int y, b1, b2, b3, b4, .ref ns, .ref ne, b7, b8])), (ns, .inl (cI, 6, .inl sp)), (ne, .inl (cI, 6, .inl en)), (xm, .inl (cI, 91, .inl ((cfl (fun i => fw i y - en i) sp M nw n n).1))), (xw, .inl (cI, 6, .inl ((cfl (fun i => fw i y - en i) sp M nw n n).2)))]) (ws' := [(x, .inr (6, [a0, a1, .ref xj, .int (nI n), .ref xn, a5, a6, a7, a8, .int (nI (bd + 1)), .ref xm, .ref xw])), (xj, .inl (cJ, 6, .inr (.inr (.inr (.inr jr))))), (xn, .inr (1, [.int y, b1, b2, b3, b4, .ref ns, .ref ne, b7, b8])), (ns, .inl (cI, 6, .inl sp)), (ne, .inl (cI, 6, .inl en)), (xm, .inl (cI, 91, .inl ((cfl (fun i => fw i y - en i) sp M nw n n).1))), (xw, .inl (cI, 6, .inl ((cfl (fun i => fw i y - en i) sp M nw n n).2)))]) hP hD hFc_13 [0, 1, 2, 3, 4, 5, 6] [] [0, 1, 2, 3, 4, 5, 6] rfl rfl (by decide) (by decide) (by decide) (by decide) hkq hP1 rfl rfl rfl
                  have hJ := hJ_0.keptA hJ_A (fun q h1 h2 => hS.2.1 q h1 h2)
                  refine lv_aload_n hx hb dX6_best_72 rfl (lv_at hl 1 rfl) ?_
                  refine lv_iconst (v := 0) hx hb dX6_best_73 (by decide) ?_
                  refine lv_iload_n hx hb dX6_best_74 rfl (lv_at hl 2 rfl) ?_
                  have hPc_15 := hP.sub (ws' := [(x, .inr (6, [a0, a1, .ref xj, .int (nI n), .ref xn, a5, a6, a7, a8, .int (nI (bd + 1)), .ref xm, .ref xw])), (xm, .inl (cI, 91, .inl ((cfl (fun i => fw i y - en i) sp M nw n n).1)))]) [0, 5] rfl
                  refine jcalli (va_runV (As := [.int 0, .int (nI s9)]) (rest := []) ⟨hx, hb, hml, hown, hts⟩ (c_mostWorth l D cI cJ x xm 0 s9 a0 a1 (.ref xj) (.int (nI n)) (.ref xn) a5 a6 a7 a8 (.int (nI (bd + 1))) (.ref xw) ((cfl (fun i => fw i y - en i) sp M nw n n).1) (by omega) hs H.size) (cwV 2 hts gX6_best_X6_mostWorth rfl rfl rfl (by decide +kernel) ⟨Nat.le_of_ble_eq_true rfl, Nat.le_of_ble_eq_true rfl⟩) (jpreV hT (va_recv hK hP (ci := 6) (q0 := 0) rfl rfl) hPc_15) rfl rfl hl.1 rfl (lv_room (Nat.le_of_ble_eq_true rfl)) dX6_best_75 ⟨(Nat.zero_le _), (Nat.zero_le _)⟩) hS hA (fun r_16 H locs hw_r_16 hkq hS => ?_)
                  try dsimp only at hw_r_16
                  have hP := jkeep hP hkq
                  have hJ := hJ.kept hkq
                  subst hw_r_16
                  refine lv_istore (lv' := [(4, .int (((cfl (fun i => fw i y - en i) sp M nw n n).1) (0 * 13 + s9))), (3, .int 1), (0, .ref x), (1, .int (nI s9)), (2, .int (nI wq))]) hx hb dX6_best_78 hl (by decide) rfl (fun ls hl => ?_)
                  refine lv_iload hx hb dX6_best_80 (lv_at hl 0 rfl) ?_
                  refine lv_ldc (v := (-1000000)) hx hb hown (hts (Cond.constant RX6 136 (-1000000)) (List.mem_of_getElem? (i := 2) rfl)) dX6_best_82 ?_
                  refine lv_icmp_ne (tgt := 89) hx hb dX6_best_84 (by decide) (fun c_17 => ?_) (fun c_17 => ?_)
                  · skip
                    refine lv_iload_n hx hb dX6_best_89 rfl (lv_at hl 4 rfl) ?_
                    refine lv_if_ne (tgt := 102) hx hb dX6_best_90 (by decide) (fun c_18 => ?_) (fun c_18 => ?_)
                    · skip
                      replace c_18 : ¬ wq = 0 := fun h => c_18 ((nI_eq (a := wq) (b := 0) (by omega) (by omega)).mpr h)
                      refine lv_aload_n hx hb dX6_best_102 rfl (lv_at hl 2 rfl) ?_
                      refine lv_iload_n hx hb dX6_best_103 rfl (lv_at hl 4 rfl) ?_
                      refine lv_bipush (v := 10) hx hb dX6_best_104 (by decide) ?_
                      refine lv_isub hx hb dX6_best_106 ?_
                      refine jv_as (y := nI (wq - 10)) (pk_sub h10) ?_
                      refine lv_iload_n hx hb dX6_best_107 rfl (lv_at hl 3 rfl) ?_
                      have hPc_19 := hP.sub (ws' := [(x, .inr (6, [a0, a1, .ref xj, .int (nI n), .ref xn, a5, a6, a7, a8, .int (nI (bd + 1)), .ref xm, .ref xw])), (xj, .inl (cJ, 6, .inr (.inr (.inr (.inr jr)))))]) [0, 1] rfl
                      refine jcalli (va_runV (As := [.int (nI (wq - 10)), .int (nI s9)]) (rest := []) ⟨hx, hb, hml, hown, hts⟩ (c_pickOf_no l D cI cJ x xj n a0 a1 (.ref xn) a5 a6 a7 a8 (.int (nI (bd + 1))) (.ref xm) (.ref xw) jr (nI (wq - 10)) (nI s9) (Or.inr ((nI_leI (a := n) (b := wq - 10) (by omega) (by omega)).mpr h7)) H.size) (cwV 2 hts gX6_best_X6_pickOf rfl rfl rfl (by decide +kernel) ⟨Nat.le_of_ble_eq_true rfl, Nat.le_of_ble_eq_true rfl⟩) (jpreV hT (va_recv hK hP (ci := 6) (q0 := 0) rfl rfl) hPc_19) rfl rfl hl.1 rfl (lv_room (Nat.le_of_ble_eq_true rfl)) dX6_best_108 ⟨(Nat.zero_le _), (Nat.zero_le _)⟩) hS hA (fun r_20 H locs hw_r_20 hkq hS => ?_)
                      try dsimp only at hw_r_20
                      have hP := jkeep hP hkq
                      have hJ := hJ.kept hkq
                      subst hw_r_20
                      exact W.iret (v := (-1)) hx hb hr (fun t ht hW => ⟨⟨(-1), (-1), rfl, rfl, by dsimp only; rw [ht]; exact ⟨rfl, hP⟩⟩, hS.F ht⟩) hS.2.2 dX6_best_111
                    · skip
                      replace c_18 : wq = 0 := (nI_eq (a := wq) (b := 0) (by omega) (by omega)).mp c_18
                      exact absurd c_18 c_5
                  · skip
                    refine lv_iconst (v := (-1)) hx hb dX6_best_87 (by decide) ?_
                    exact W.iret (v := (-1)) hx hb hr (fun t ht hW => ⟨⟨(-1), (-1), rfl, rfl, by dsimp only; rw [ht]; exact ⟨rfl, hP⟩⟩, hS.F ht⟩) hS.2.2 dX6_best_88
                · skip
                  replace c_10 : ¬ bd < 40 := fun h => c_10 ((nI_ltI (a := bd) (b := 40) (by omega) (by omega)).mpr h)
                  exact absurd c_10 (by omega)
            · skip
              exact absurd c_6 (by decide)

set_option maxHeartbeats 4000000 in
set_option maxRecDepth 100000 in
theorem c_best_one (l : Launch) (D : va_G) (cI cJ : ClassId) (x : Nat) (xj : Nat) (xn : Nat) (xm : Nat) (xw : Nat) (ns : Nat) (ne : Nat) (bd : Nat) (n : Nat) (a0 : Value) (a1 : Value) (a5 : Value) (a6 : Value) (a7 : Value) (a8 : Value) (b1 : Value) (b2 : Value) (b3 : Value) (b4 : Value) (b7 : Value) (b8 : Value) (jr : Nat → Option Nat) (jk : Nat → Nat) (jg : Nat → Int32) (js : Nat → Int32) (jm : Nat → Int32) (fw : Nat → Int32 → Int32) (nw : Nat → Int32) (sp : Nat → Int32) (en : Nat → Int32) (M : Nat → Int32) (y : Int32) (s9 : Nat) (j : Nat) (wq : Nat) (hn0 : 0 < n) (hn6 : n ≤ 6) (hfw : ∀ i : Nat, i < n → ∀ z : Int32, cfw (jk i) (jg i) (jm i) z = fw i z) (hap : ∀ i a : Nat, i < n → jr i = some a → a ∉ [x, xj, xn, ns, ne, xm, xw]) (hbd : bd < 40) (hs : s9 < 13) (h10 : 10 ≤ wq) (h16 : wq < 16) (hj : j < n) (h7 : wq = j + 10) : jWi l yX6_best wsX6_best ({ frames := 5, cells := 0, slots := 0, locals := 114 }) 0 0 [.ref x, .int (nI s9), .int (nI wq)] D cI cJ [(x, .inr (6, [a0, a1, .ref xj, .int (nI n), .ref xn, a5, a6, a7, a8, .int (nI bd), .ref xm, .ref xw])), (xj, .inl (cJ, 6, .inr (.inr (.inr (.inr jr))))), (xn, .inr (1, [.int y, b1, b2, b3, b4, .ref ns, .ref ne, b7, b8])), (ns, .inl (cI, 6, .inl sp)), (ne, .inl (cI, 6, .inl en)), (xm, .inl (cI, 91, .inl M)), (xw, .inl (cI, 6, .inl nw))] (fun H => jJ D n jr jk jg js jm H) (fun r H => r = (if (cfl (fun i => fw i y - en i) sp M nw n n).1 (0 * 13 + s9) = -1000000 then -1 else nI (cfp (cww (cfl (fun i => fw i y - en i) sp M nw n n).2 sp (cfl (fun i => fw i y - en i) sp M nw n n).1 j (cpl (cfl (fun i => fw i y - en i) sp M nw n n).2 sp (cfl (fun i => fw i y - en i) sp M nw n n).1 s9 j)) ((cfl (fun i => fw i y - en i) sp M nw n n).1 (j * 13 + (cpl (cfl (fun i => fw i y - en i) sp M nw n n).2 sp (cfl (fun i => fw i y - en i) sp M nw n n).1 s9 j))) (cpl (cfl (fun i => fw i y - en i) sp M nw n n).2 sp (cfl (fun i => fw i y - en i) sp M nw n n).1 s9 j))) ∧ va_P D vwCl [(x, .inr (6, [a0, a1, .ref xj, .int (nI n), .ref xn, a5, a6, a7, a8, .int (nI (bd + 1)), .ref xm, .ref xw])), (xj, .inl (cJ, 6, .inr (.inr (.inr (.inr jr))))), (xn, .inr (1, [.int y, b1, b2, b3, b4, .ref ns, .ref ne, b7, b8])), (ns, .inl (cI, 6, .inl sp)), (ne, .inl (cI, 6, .inl en)), (xm, .inl (cI, 91, .inl ((cfl (fun i => fw i y - en i) sp M nw n n).1))), (xw, .inl (cI, 6, .inl ((cfl (fun i => fw i y - en i) sp M nw n n).2)))] H) := by
  intro sz
  refine Met.ofW (cc := cX6_best) (maxL := 5) (ret := (some .int)) (by decide) rfl ?_
  intro p e s m args below meth c s₁ B hml hv
  obtain ⟨rfl, hsz, hT, hP, hD0, hJ⟩ := hv
  have hK := hT.1
  have hx := B.exec
  have hb := B.bytes
  have hr := B.returns
  have hts := atoms_spec (ws := wsX6_best) B.pre
  have hown : s.vm.findClass RX6 = some m.cls := findClass_of_methodNamed B.named
  have hlocks := B.notSynchronized
  subst hsz
  have hD := hD0.self (sz := s.heap.size)
  generalize hAe : va_A [(x, .inr (6, [a0, a1, .ref xj, .int (nI n), .ref xn, a5, a6, a7, a8, .int (nI bd), .ref xm, .ref xw])), (xj, .inl (cJ, 6, .inr (.inr (.inr (.inr jr))))), (xn, .inr (1, [.int y, b1, b2, b3, b4, .ref ns, .ref ne, b7, b8])), (ns, .inl (cI, 6, .inl sp)), (ne, .inl (cI, 6, .inl en)), (xm, .inl (cI, 91, .inl M)), (xw, .inl (cI, 6, .inl nw))] s.heap.size = A at hD ⊢
  have hA : ∀ q : Nat, s.heap.size ≤ q → A q := fun q h => by rw [← hAe]; exact Or.inr h
  have hS : va_S A s.heap s.heap [] := va_S.rf
  have hl := lv_entry ([.ref x, .int (nI s9), .int (nI wq)] : List Value) (n := 5) (Nat.le_of_ble_eq_true rfl)
  rw [lg_entry_eq]
  generalize (lg_sl ([.ref x, .int (nI s9), .int (nI wq)]) ++ List.replicate (5 - (lg_sl ([.ref x, .int (nI s9), .int (nI wq)])).length) Slot.unset).toArray = ls at hl ⊢
  have hl : lv_has ls 5 [(0, .ref x), (1, .int (nI s9)), (2, .int (nI wq))] := hl
  have hJ_0 := hJ
  have hJ_A : ∀ i a : Nat, i < n → jr i = some a → ¬ A a := fun i a hi ha => by rw [← hAe]; exact jap (hJ.lt hi ha) (hap i a hi ha)
  refine lv_iload_n hx hb dX6_best_0 rfl (lv_at hl 2 rfl) ?_
  refine lv_bipush (v := 10) hx hb dX6_best_1 (by decide) ?_
  refine lv_icmp_lt (tgt := 16) hx hb dX6_best_3 (by decide) (fun c_1 => ?_) (fun c_1 => ?_)
  · skip
    replace c_1 : wq < 10 := (nI_ltI (a := wq) (b := 10) (by omega) (by omega)).mp c_1
    exact absurd c_1 (by omega)
  · skip
    replace c_1 : ¬ wq < 10 := fun h => c_1 ((nI_ltI (a := wq) (b := 10) (by omega) (by omega)).mpr h)
    refine lv_iload_n hx hb dX6_best_6 rfl (lv_at hl 2 rfl) ?_
    refine lv_bipush (v := 16) hx hb dX6_best_7 (by decide) ?_
    refine lv_icmp_ge (tgt := 16) hx hb dX6_best_9 (by decide) (fun c_2 => ?_) (fun c_2 => ?_)
    · skip
      replace c_2 : 16 ≤ wq := (nI_leI (a := 16) (b := wq) (by omega) (by omega)).mp c_2
      exact absurd c_2 (by omega)
    · skip
      replace c_2 : ¬ 16 ≤ wq := fun h => c_2 ((nI_leI (a := 16) (b := wq) (by omega) (by omega)).mpr h)
      refine lv_iconst (v := 1) hx hb dX6_best_12 (by decide) ?_
      refine lv_goto (tgt := 17) hx hb dX6_best_13 (by decide) ?_
      refine lv_istore_n (lv' := [(3, .int 1), (0, .ref x), (1, .int (nI s9)), (2, .int (nI wq))]) hx hb dX6_best_17 rfl hl (by decide) rfl (fun ls hl => ?_)
      refine lv_iload_n hx hb dX6_best_18 rfl (lv_at hl 2 rfl) ?_
      refine lv_if_lt (tgt := 36) hx hb dX6_best_19 (by decide) (fun c_3 => ?_) (fun c_3 => ?_)
      · skip
        replace c_3 : s9 < 0 := (nI_ltI (a := s9) (b := 0) (by omega) (by omega)).mp c_3
        exact absurd c_3 (by omega)
      · skip
        replace c_3 : ¬ s9 < 0 := fun h => c_3 ((nI_ltI (a := s9) (b := 0) (by omega) (by omega)).mpr h)
        refine lv_iload_n hx hb dX6_best_22 rfl (lv_at hl 2 rfl) ?_
        refine lv_bipush (v := 12) hx hb dX6_best_23 (by decide) ?_
        refine lv_icmp_gt (tgt := 36) hx hb dX6_best_25 (by decide) (fun c_4 => ?_) (fun c_4 => ?_)
        · skip
          replace c_4 : 12 < s9 := (nI_ltI (a := 12) (b := s9) (by omega) (by omega)).mp c_4
          exact absurd c_4 (by omega)
        · skip
          replace c_4 : ¬ 12 < s9 := fun h => c_4 ((nI_ltI (a := 12) (b := s9) (by omega) (by omega)).mpr h)
          refine lv_iload_n hx hb dX6_best_28 rfl (lv_at hl 3 rfl) ?_
          refine lv_if_eq (tgt := 39) hx hb dX6_best_29 (by decide) (fun c_5 => ?_) (fun c_5 => ?_)
          · skip
            replace c_5 : wq = 0 := (nI_eq (a := wq) (b := 0) (by omega) (by omega)).mp c_5
            exact absurd c_5 (by omega)
          · skip
            replace c_5 : ¬ wq = 0 := fun h => c_5 ((nI_eq (a := wq) (b := 0) (by omega) (by omega)).mpr h)
            refine lv_iload_n hx hb dX6_best_32 rfl (lv_at hl 0 rfl) ?_
            refine lv_if_ne (tgt := 39) hx hb dX6_best_33 (by decide) (fun c_6 => ?_) (fun c_6 => ?_)
            · skip
              refine lv_aload_n hx hb dX6_best_39 rfl (lv_at hl 1 rfl) ?_
              have hPc_7 := hP.sub (ws' := [(x, .inr (6, [a0, a1, .ref xj, .int (nI n), .ref xn, a5, a6, a7, a8, .int (nI bd), .ref xm, .ref xw]))]) [0] rfl
              refine jcalli (va_runV (As := []) (rest := []) ⟨hx, hb, hml, hown, hts⟩ (c_hasNoLarder_n l D cI cJ x n a0 a1 (.ref xj) (.ref xn) a5 a6 a7 a8 (.int (nI bd)) (.ref xm) (.ref xw) hn0 hn6 s.heap.size) (cwV 0 hts gX6_best_X6_hasNoLarder rfl rfl rfl (by decide +kernel) ⟨Nat.le_of_ble_eq_true rfl, Nat.le_of_ble_eq_true rfl⟩) (jpreV hT (va_recv hK hP (ci := 6) (q0 := 0) rfl rfl) hPc_7) rfl rfl hl.1 rfl (lv_room (Nat.le_of_ble_eq_true rfl)) dX6_best_40 ⟨(Nat.zero_le _), (Nat.zero_le _)⟩) hS hA (fun r_8 H locs hw_r_8 hkq hS => ?_)
              try dsimp only at hw_r_8
              have hP := jkeep hP hkq
              have hJ := hJ.kept hkq
              subst hw_r_8
              refine lv_if_ne (tgt := 55) hx hb dX6_best_43 (by decide) (fun c_9 => ?_) (fun c_9 => ?_)
              · skip
                exact absurd c_9 (by decide)
              · skip
                refine lv_aload_n hx hb dX6_best_46 rfl (lv_at hl 1 rfl) ?_
                refine va_get (D := D) (ci := 6) (v := .int (nI bd)) (C := RX6) (T := TX6) (N := 12) hx hb hts (fun w h => List.mem_cons_of_mem _ (List.mem_append_left _ (List.mem_append_left _ (List.mem_append_left _ (List.mem_append_left _ (List.mem_append_left _ (List.mem_append_left _ (List.mem_append_right _ h)))))))) hown hK hP 0 rfl rfl 9 (by decide) (hts (Cond.fieldLink RX6 46 "JamDays" "bestsDone" "I") (List.mem_of_getElem? (i := 1) rfl)) (fun _ h9 => h9) rfl dX6_best_47 ?_
                refine lv_bipush (v := 40) hx hb dX6_best_50 (by decide) ?_
                refine lv_icmp_lt (tgt := 58) hx hb dX6_best_52 (by decide) (fun c_10 => ?_) (fun c_10 => ?_)
                · skip
                  replace c_10 : bd < 40 := (nI_ltI (a := bd) (b := 40) (by omega) (by omega)).mp c_10
                  refine lv_aload_n hx hb dX6_best_58 rfl (lv_at hl 1 rfl) ?_
                  refine lv_dup hx hb dX6_best_59 rfl ?_
                  refine va_get (D := D) (ci := 6) (v := .int (nI bd)) (C := RX6) (T := TX6) (N := 12) hx hb hts (fun w h => List.mem_cons_of_mem _ (List.mem_append_left _ (List.mem_append_left _ (List.mem_append_left _ (List.mem_append_left _ (List.mem_append_left _ (List.mem_append_left _ (List.mem_append_right _ h)))))))) hown hK hP 0 rfl rfl 9 (by decide) (hts (Cond.fieldLink RX6 46 "JamDays" "bestsDone" "I") (List.mem_of_getElem? (i := 1) rfl)) (fun _ h9 => h9) rfl dX6_best_60 ?_
                  refine lv_iconst (v := 1) hx hb dX6_best_63 (by decide) ?_
                  refine lv_iadd hx hb dX6_best_64 ?_
                  refine jv_as (y := nI (bd + 1)) (nI_add bd 1) ?_
                  refine va_put (D := D) (ci := 6) (v := .int (nI (bd + 1))) (ty := .int) (C := RX6) (T := TX6) (N := 12) hx hb hts (fun w h => List.mem_cons_of_mem _ (List.mem_append_left _ (List.mem_append_left _ (List.mem_append_left _ (List.mem_append_left _ (List.mem_append_left _ (List.mem_append_left _ (List.mem_append_right _ h)))))))) tyX6 tyX6_ok nmX6 hown hK hP hD hS 0 rfl rfl 9 (by decide) (hts (Cond.fieldLink RX6 46 "JamDays" "bestsDone" "I") (List.mem_of_getElem? (i := 1) rfl)) (fun _ h9 => h9) rfl (by decide +kernel) rfl rfl (Nat.le_of_ble_eq_true rfl) dX6_best_65 (fun H locs hP hD hS => ?_)
                  have hP : va_P D vwCl [(x, .inr (6, [a0, a1, .ref xj, .int (nI n), .ref xn, a5, a6, a7, a8, .int (nI (bd + 1)), .ref xm, .ref xw])), (xj, .inl (cJ, 6, .inr (.inr (.inr (.inr jr))))), (xn, .inr (1, [.int y, b1, b2, b3, b4, .ref ns, .ref ne, b7, b8])), (ns, .inl (cI, 6, .inl sp)), (ne, .inl (cI, 6, .inl en)), (xm, .inl (cI, 91, .inl M)), (xw, .inl (cI, 6, .inl nw))] H := hP
                  have hD : va_D A [(x, .inr (6, [a0, a1, .ref xj, .int (nI n), .ref xn, a5, a6, a7, a8, .int (nI (bd + 1)), .ref xm, .ref xw])), (xj, .inl (cJ, 6, .inr (.inr (.inr (.inr jr))))), (xn, .inr (1, [.int y, b1, b2, b3, b4, .ref ns, .ref ne, b7, b8])), (ns, .inl (cI, 6, .inl sp)), (ne, .inl (cI, 6, .inl en)), (xm, .inl (cI, 91, .inl M)), (xw, .inl (cI, 6, .inl nw))] := hD
                  have hJ := hJ_0.keptA hJ_A (fun q h1 h2 => hS.2.1 q h1 h2)
                  refine lv_aload_n hx hb dX6_best_68 rfl (lv_at hl 1 rfl) ?_
                  have hPc_11 := hP.sub (ws' := [(x, .inr (6, [a0, a1, .ref xj, .int (nI n), .ref xn, a5, a6, a7, a8, .int (nI (bd + 1)), .ref xm, .ref xw])), (xj, .inl (cJ, 6, .inr (.inr (.inr (.inr jr))))), (xn, .inr (1, [.int y, b1, b2, b3, b4, .ref ns, .ref ne, b7, b8])), (ns, .inl (cI, 6, .inl sp)), (ne, .inl (cI, 6, .inl en)), (xm, .inl (cI, 91, .inl M)), (xw, .inl (cI, 6, .inl nw))]) [0, 1, 2, 3, 4, 5, 6] rfl
                  have hDc_12 := hD.sub (ws' := [(x, .inr (6, [a0, a1, .ref xj, .int (nI n), .ref xn, a5, a6, a7, a8, .int (nI (bd + 1)), .ref xm, .ref xw])), (xj, .inl (cJ, 6, .inr (.inr (.inr (.inr jr))))), (xn, .inr (1, [.int y, b1, b2, b3, b4, .ref ns, .ref ne, b7, b8])), (ns, .inl (cI, 6, .inl sp)), (ne, .inl (cI, 6, .inl en)), (xm, .inl (cI, 91, .inl M)), (xw, .inl (cI, 6, .inl nw))]) [0, 1, 2, 3, 4, 5, 6] (by decide) rfl
                  have hFc_13 := va_free (wc := [(x, .inr (6, [a0, a1, .ref xj, .int (nI n), .ref xn, a5, a6, a7, a8, .int (nI (bd + 1)), .ref xm, .ref xw])), (xj, .inl (cJ, 6, .inr (.inr (.inr (.inr jr))))), (xn, .inr (1, [.int y, b1, b2, b3, b4, .ref ns, .ref ne, b7, b8])), (ns, .inl (cI, 6, .inl sp)), (ne, .inl (cI, 6, .inl en)), (xm, .inl (cI, 91, .inl M)), (xw, .inl (cI, 6, .inl nw))]) hD hS hA [0, 1, 2, 3, 4, 5, 6] rfl
                  refine jcallWv (post := fun H => va_P D vwCl [(x, .inr (6, [a0, a1, .ref xj, .int (nI n), .ref xn, a5, a6, a7, a8, (.int (nI (bd + 1))), .ref xm, .ref xw])), (xj, .inl (cJ, 6, .inr (.inr (.inr (.inr jr))))), (xn, .inr (1, [.int y, b1, b2, b3, b4, .ref ns, .ref ne, b7, b8])), (ns, .inl (cI, 6, .inl sp)), (ne, .inl (cI, 6, .inl en)), (xm, .inl (cI, 91, .inl ((cfl (fun i => fw i y - en i) sp M nw n n).1))), (xw, .inl (cI, 6, .inl ((cfl (fun i => fw i y - en i) sp M nw n n).2)))] H) (va_runV (As := []) (rest := []) ⟨hx, hb, hml, hown, hts⟩ (c_fillMost l D cI cJ x xj xn xm xw ns ne n a0 a1 a5 a6 a7 a8 (.int (nI (bd + 1))) b1 b2 b3 b4 b7 b8 jr jk jg js jm fw nw sp en M y hn6 hfw hap H.size) (cwV 0 hts gX6_best_X6_fillMost rfl rfl rfl (by decide +kernel) ⟨Nat.le_of_ble_eq_true rfl, Nat.le_of_ble_eq_true rfl⟩) (jpreV hT (va_recv hK hP (ci := 6) (q0 := 0) rfl rfl) ⟨hPc_11, hDc_12.weaken (fun _ _ _ _ => trivial), hJ⟩) rfl rfl hl.1 rfl (lv_room (Nat.le_of_ble_eq_true rfl)) dX6_best_69 ⟨(Nat.zero_le _), (Nat.zero_le _)⟩) hS hFc_13 (fun H locs hw_r_14 hz hkq hS => ?_)
                  have hP1 := hw_r_14
                  obtain ⟨hP, hD⟩ := jjoin (wc := [(x, .inr (6, [a0, a1, .ref xj, .int (nI n), .ref xn, a5, a6, a7, a8, .int (nI (bd + 1)), .ref xm, .ref xw])), (xj, .inl (cJ, 6, .inr (.inr (.inr (.inr jr))))), (xn, .inr (1, [.int y, b1, b2, b3, b4, .ref ns, .ref ne, b7, b8])), (ns, .inl (cI, 6, .inl sp)), (ne, .inl (cI, 6, .inl en)), (xm, .inl (cI, 91, .inl M)), (xw, .inl (cI, 6, .inl nw))]) (wr := []) (w1 := [(x, .inr (6, [a0, a1, .ref xj, .int (nI n), .ref xn, a5, a6, a7, a8, .int (nI (bd + 1)), .ref xm, .ref xw])), (xj, .inl (cJ, 6, .inr (.inr (.inr (.inr jr))))), (xn, .inr (1, [.int y, b1, b2, b3, b4, .ref ns, .ref ne, b7, b8])), (ns, .inl (cI, 6, .inl sp)), (ne, .inl (cI, 6, .inl en)), (xm, .inl (cI, 91, .inl ((cfl (fun i => fw i y - en i) sp M nw n n).1))), (xw, .inl (cI, 6, .inl ((cfl (fun i => fw i y - en i) sp M nw n n).2)))]) (ws' := [(x, .inr (6, [a0, a1, .ref xj, .int (nI n), .ref xn, a5, a6, a7, a8, .int (nI (bd + 1)), .ref xm, .ref xw])), (xj, .inl (cJ, 6, .inr (.inr (.inr (.inr jr))))), (xn, .inr (1, [.int y, b1, b2, b3, b4, .ref ns, .ref ne, b7, b8])), (ns, .inl (cI, 6, .inl sp)), (ne, .inl (cI, 6, .inl en)), (xm, .inl (cI, 91, .inl ((cfl (fun i => fw i y - en i) sp M nw n n).1))), (xw, .inl (cI, 6, .inl ((cfl (fun i => fw i y - en i) sp M nw n n).2)))]) hP hD hFc_13 [0, 1, 2, 3, 4, 5, 6] [] [0, 1, 2, 3, 4, 5, 6] rfl rfl (by decide) (by decide) (by decide) (by decide) hkq hP1 rfl rfl rfl
                  have hJ := hJ_0.keptA hJ_A (fun q h1 h2 => hS.2.1 q h1 h2)
                  refine lv_aload_n hx hb dX6_best_72 rfl (lv_at hl 1 rfl) ?_
                  refine lv_iconst (v := 0) hx hb dX6_best_73 (by decide) ?_
                  refine lv_iload_n hx hb dX6_best_74 rfl (lv_at hl 2 rfl) ?_
                  have hPc_15 := hP.sub (ws' := [(x, .inr (6, [a0, a1, .ref xj, .int (nI n), .ref xn, a5, a6, a7, a8, .int (nI (bd + 1)), .ref xm, .ref xw])), (xm, .inl (cI, 91, .inl ((cfl (fun i => fw i y - en i) sp M nw n n).1)))]) [0, 5] rfl
                  refine jcalli (va_runV (As := [.int 0, .int (nI s9)]) (rest := []) ⟨hx, hb, hml, hown, hts⟩ (c_mostWorth l D cI cJ x xm 0 s9 a0 a1 (.ref xj) (.int (nI n)) (.ref xn) a5 a6 a7 a8 (.int (nI (bd + 1))) (.ref xw) ((cfl (fun i => fw i y - en i) sp M nw n n).1) (by omega) hs H.size) (cwV 2 hts gX6_best_X6_mostWorth rfl rfl rfl (by decide +kernel) ⟨Nat.le_of_ble_eq_true rfl, Nat.le_of_ble_eq_true rfl⟩) (jpreV hT (va_recv hK hP (ci := 6) (q0 := 0) rfl rfl) hPc_15) rfl rfl hl.1 rfl (lv_room (Nat.le_of_ble_eq_true rfl)) dX6_best_75 ⟨(Nat.zero_le _), (Nat.zero_le _)⟩) hS hA (fun r_16 H locs hw_r_16 hkq hS => ?_)
                  try dsimp only at hw_r_16
                  have hP := jkeep hP hkq
                  have hJ := hJ.kept hkq
                  subst hw_r_16
                  refine lv_istore (lv' := [(4, .int (((cfl (fun i => fw i y - en i) sp M nw n n).1) (0 * 13 + s9))), (3, .int 1), (0, .ref x), (1, .int (nI s9)), (2, .int (nI wq))]) hx hb dX6_best_78 hl (by decide) rfl (fun ls hl => ?_)
                  refine lv_iload hx hb dX6_best_80 (lv_at hl 0 rfl) ?_
                  refine lv_ldc (v := (-1000000)) hx hb hown (hts (Cond.constant RX6 136 (-1000000)) (List.mem_of_getElem? (i := 2) rfl)) dX6_best_82 ?_
                  refine lv_icmp_ne (tgt := 89) hx hb dX6_best_84 (by decide) (fun c_17 => ?_) (fun c_17 => ?_)
                  · skip
                    refine lv_iload_n hx hb dX6_best_89 rfl (lv_at hl 4 rfl) ?_
                    refine lv_if_ne (tgt := 102) hx hb dX6_best_90 (by decide) (fun c_18 => ?_) (fun c_18 => ?_)
                    · skip
                      replace c_18 : ¬ wq = 0 := fun h => c_18 ((nI_eq (a := wq) (b := 0) (by omega) (by omega)).mpr h)
                      refine lv_aload_n hx hb dX6_best_102 rfl (lv_at hl 2 rfl) ?_
                      refine lv_iload_n hx hb dX6_best_103 rfl (lv_at hl 4 rfl) ?_
                      refine lv_bipush (v := 10) hx hb dX6_best_104 (by decide) ?_
                      refine lv_isub hx hb dX6_best_106 ?_
                      refine jv_as (y := nI j) (by rw [show (10 : Int32) = nI 10 from rfl, pk_sub h10, show wq - 10 = j by omega]) ?_
                      refine lv_iload_n hx hb dX6_best_107 rfl (lv_at hl 3 rfl) ?_
                      have hPc_19 := hP.sub (ws' := [(x, .inr (6, [a0, a1, .ref xj, .int (nI n), .ref xn, a5, a6, a7, a8, .int (nI (bd + 1)), .ref xm, .ref xw])), (xj, .inl (cJ, 6, .inr (.inr (.inr (.inr jr))))), (xn, .inr (1, [.int y, b1, b2, b3, b4, .ref ns, .ref ne, b7, b8])), (ns, .inl (cI, 6, .inl sp)), (xm, .inl (cI, 91, .inl ((cfl (fun i => fw i y - en i) sp M nw n n).1))), (xw, .inl (cI, 6, .inl ((cfl (fun i => fw i y - en i) sp M nw n n).2)))]) [0, 1, 2, 3, 5, 6] rfl
                      refine jcalli (va_runV (As := [.int (nI j), .int (nI s9)]) (rest := []) ⟨hx, hb, hml, hown, hts⟩ (c_pickOf_ok l D cI cJ x xj xn xm xw ns n a0 a1 a5 a6 a7 a8 (.int (nI (bd + 1))) (.int y) b1 b2 b3 b4 (.ref ne) b7 b8 jr jk jg js jm ((cfl (fun i => fw i y - en i) sp M nw n n).2) sp ((cfl (fun i => fw i y - en i) sp M nw n n).1) j s9 hj hn6 hs H.size) (cwV 2 hts gX6_best_X6_pickOf rfl rfl rfl (by decide +kernel) ⟨Nat.le_of_ble_eq_true rfl, Nat.le_of_ble_eq_true rfl⟩) (jpreV hT (va_recv hK hP (ci := 6) (q0 := 0) rfl rfl) ⟨hPc_19, hJ⟩) rfl rfl hl.1 rfl (lv_room (Nat.le_of_ble_eq_true rfl)) dX6_best_108 ⟨(Nat.zero_le _), (Nat.zero_le _)⟩) hS hA (fun r_20 H locs hw_r_20 hkq hS => ?_)
                      try dsimp only at hw_r_20
                      have hP := jkeep hP hkq
                      have hJ := hJ.kept hkq
                      subst hw_r_20
                      exact W.iret (v := nI (cfp (cww ((cfl (fun i => fw i y - en i) sp M nw n n).2) sp ((cfl (fun i => fw i y - en i) sp M nw n n).1) j (cpl ((cfl (fun i => fw i y - en i) sp M nw n n).2) sp ((cfl (fun i => fw i y - en i) sp M nw n n).1) s9 j)) (((cfl (fun i => fw i y - en i) sp M nw n n).1) (j * 13 + (cpl ((cfl (fun i => fw i y - en i) sp M nw n n).2) sp ((cfl (fun i => fw i y - en i) sp M nw n n).1) s9 j))) (cpl ((cfl (fun i => fw i y - en i) sp M nw n n).2) sp ((cfl (fun i => fw i y - en i) sp M nw n n).1) s9 j))) hx hb hr (fun t ht hW => ⟨⟨nI (cfp (cww ((cfl (fun i => fw i y - en i) sp M nw n n).2) sp ((cfl (fun i => fw i y - en i) sp M nw n n).1) j (cpl ((cfl (fun i => fw i y - en i) sp M nw n n).2) sp ((cfl (fun i => fw i y - en i) sp M nw n n).1) s9 j)) (((cfl (fun i => fw i y - en i) sp M nw n n).1) (j * 13 + (cpl ((cfl (fun i => fw i y - en i) sp M nw n n).2) sp ((cfl (fun i => fw i y - en i) sp M nw n n).1) s9 j))) (cpl ((cfl (fun i => fw i y - en i) sp M nw n n).2) sp ((cfl (fun i => fw i y - en i) sp M nw n n).1) s9 j)), nI (cfp (cww ((cfl (fun i => fw i y - en i) sp M nw n n).2) sp ((cfl (fun i => fw i y - en i) sp M nw n n).1) j (cpl ((cfl (fun i => fw i y - en i) sp M nw n n).2) sp ((cfl (fun i => fw i y - en i) sp M nw n n).1) s9 j)) (((cfl (fun i => fw i y - en i) sp M nw n n).1) (j * 13 + (cpl ((cfl (fun i => fw i y - en i) sp M nw n n).2) sp ((cfl (fun i => fw i y - en i) sp M nw n n).1) s9 j))) (cpl ((cfl (fun i => fw i y - en i) sp M nw n n).2) sp ((cfl (fun i => fw i y - en i) sp M nw n n).1) s9 j)), rfl, rfl, by dsimp only; rw [ht]; exact ⟨(by rw [if_neg c_17]), hP⟩⟩, hS.F ht⟩) hS.2.2 dX6_best_111
                    · skip
                      replace c_18 : wq = 0 := (nI_eq (a := wq) (b := 0) (by omega) (by omega)).mp c_18
                      exact absurd c_18 c_5
                  · skip
                    refine lv_iconst (v := (-1)) hx hb dX6_best_87 (by decide) ?_
                    exact W.iret (v := (-1)) hx hb hr (fun t ht hW => ⟨⟨(-1), (-1), rfl, rfl, by dsimp only; rw [ht]; exact ⟨(by rw [if_pos c_17]), hP⟩⟩, hS.F ht⟩) hS.2.2 dX6_best_88
                · skip
                  replace c_10 : ¬ bd < 40 := fun h => c_10 ((nI_ltI (a := bd) (b := 40) (by omega) (by omega)).mpr h)
                  exact absurd c_10 (by omega)
            · skip
              exact absurd c_6 (by decide)

