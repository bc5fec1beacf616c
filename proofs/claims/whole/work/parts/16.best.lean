set_option maxHeartbeats 4000000 in
set_option maxRecDepth 100000 in
theorem c_mostWorth (l : Launch) (D : va_G) (cI cJ : ClassId) (x : Nat) (xm : Nat) (i : Nat) (k : Nat) (a0 : Value) (a1 : Value) (a2 : Value) (a3 : Value) (a4 : Value) (a5 : Value) (a6 : Value) (a7 : Value) (a8 : Value) (a9 : Value) (a11 : Value) (M : Nat → Int32) (hi : i ≤ 6) (hk : k < 13) : jRi l yX6_mostWorth wsX6_mostWorth ({ frames := 1, cells := 0, slots := 0, locals := 21 }) [.ref x, .int (nI i), .int (nI k)] D cI cJ (fun H => va_P D vwCl [(x, .inr (6, [a0, a1, a2, a3, a4, a5, a6, a7, a8, a9, .ref xm, a11])), (xm, .inl (cI, 91, .inl M))] H) (fun r => r = M (i * 13 + k)) := by
  intro sz
  refine Met.ofW (cc := cX6_mostWorth) (maxL := 3) (ret := (some .int)) (by decide) rfl ?_
  intro p e s m args below meth c s₁ B hml hv
  obtain ⟨rfl, hsz, hT, hPr⟩ := hv
  have hK := hT.1
  have hx := B.exec
  have hb := B.bytes
  have hr := B.returns
  have hts := atoms_spec (ws := wsX6_mostWorth) B.pre
  have hown : s.vm.findClass RX6 = some m.cls := findClass_of_methodNamed B.named
  have hlocks := B.notSynchronized
  subst hsz
  generalize hAe : va_A [] s.heap.size = A
  have hA : ∀ q : Nat, s.heap.size ≤ q → A q := fun q h => by rw [← hAe]; exact Or.inr h
  have hS : va_S A s.heap s.heap [] := va_S.rf
  have hl := lv_entry ([.ref x, .int (nI i), .int (nI k)] : List Value) (n := 3) (Nat.le_of_ble_eq_true rfl)
  rw [lg_entry_eq]
  generalize (lg_sl ([.ref x, .int (nI i), .int (nI k)]) ++ List.replicate (3 - (lg_sl ([.ref x, .int (nI i), .int (nI k)])).length) Slot.unset).toArray = ls at hl ⊢
  have hl : lv_has ls 3 [(0, .ref x), (1, .int (nI i)), (2, .int (nI k))] := hl
  refine lv_iload_n hx hb dX6_mostWorth_0 rfl (lv_at hl 1 rfl) ?_
  refine lv_iload_n hx hb dX6_mostWorth_1 rfl (lv_at hl 2 rfl) ?_
  refine jcalli (va_runS (As := [.int (nI i), .int (nI k)]) (rest := []) ⟨hx, hb, hml, hown, hts⟩ (c_isInMost l D cI cJ i k hi hk s.heap.size) (va_cwS 2 hts gX6_mostWorth_X6_isInMost rfl rfl rfl (by decide +kernel) ⟨Nat.le_of_ble_eq_true rfl, Nat.le_of_ble_eq_true rfl⟩) (jpreS hT trivial) rfl rfl hl.1 rfl (lv_room (Nat.le_of_ble_eq_true rfl)) dX6_mostWorth_2 ⟨(Nat.zero_le _), (Nat.zero_le _)⟩) hS hA (fun r_1 H locs hw_r_1 hkq hS => ?_)
  try dsimp only at hw_r_1
  have hPr := jkeep hPr hkq
  subst hw_r_1
  refine lv_if_eq (tgt := 22) hx hb dX6_mostWorth_5 (by decide) (fun c_2 => ?_) (fun c_2 => ?_)
  · skip
    exact absurd c_2 (by decide)
  · skip
    refine lv_aload_n hx hb dX6_mostWorth_8 rfl (lv_at hl 0 rfl) ?_
    refine va_get (D := D) (ci := 6) (v := .ref xm) (C := RX6) (T := TX6) (N := 12) hx hb hts (fun w h => List.mem_cons_of_mem _ (List.mem_append_right _ h)) hown hK hPr 0 rfl rfl 10 (by decide) (hts (Cond.fieldLink RX6 49 "JamDays" "most" "[I") (List.mem_of_getElem? (i := 1) rfl)) (fun _ h9 => h9) rfl dX6_mostWorth_9 ?_
    refine lv_iload_n hx hb dX6_mostWorth_12 rfl (lv_at hl 1 rfl) ?_
    refine lv_bipush (v := 13) hx hb dX6_mostWorth_13 (by decide) ?_
    refine lv_imul hx hb dX6_mostWorth_15 ?_
    refine jv_as (y := nI (i * 13)) (pk_mul i 13) ?_
    refine lv_iload_n hx hb dX6_mostWorth_16 rfl (lv_at hl 2 rfl) ?_
    refine lv_iadd hx hb dX6_mostWorth_17 ?_
    refine jv_as (y := nI ((i * 13) + k)) (nI_add (i * 13) k) ?_
    refine jv_ald (k := (i * 13) + k) hx hb hK hPr 1 0 rfl rfl (by omega) (by decide) dX6_mostWorth_18 ?_
    refine lv_goto (tgt := 24) hx hb dX6_mostWorth_19 (by decide) ?_
    exact W.iret (v := M ((i * 13) + k)) hx hb hr (fun t ht hW => ⟨⟨M ((i * 13) + k), (), rfl, rfl, trivial⟩, hS.F ht⟩) hS.2.2 dX6_mostWorth_24

set_option maxHeartbeats 4000000 in
set_option maxRecDepth 100000 in
theorem c_setMost (l : Launch) (D : va_G) (cI cJ : ClassId) (x : Nat) (xm : Nat) (i : Nat) (k : Nat) (a0 : Value) (a1 : Value) (a2 : Value) (a3 : Value) (a4 : Value) (a5 : Value) (a6 : Value) (a7 : Value) (a8 : Value) (a9 : Value) (a11 : Value) (M : Nat → Int32) (u : Int32) (hi : i ≤ 6) (hk : k < 13) : jWv l yX6_setMost wsX6_setMost ({ frames := 1, cells := 0, slots := 0, locals := 21 }) 0 0 [.ref x, .int (nI i), .int (nI k), .int u] D cI cJ [(x, .inr (6, [a0, a1, a2, a3, a4, a5, a6, a7, a8, a9, .ref xm, a11])), (xm, .inl (cI, 91, .inl M))] (fun H => True) (fun H => va_P D vwCl [(x, .inr (6, [a0, a1, a2, a3, a4, a5, a6, a7, a8, a9, .ref xm, a11])), (xm, .inl (cI, 91, .inl (upd M (i * 13 + k) u)))] H) := by
  intro sz
  refine Met.ofW (cc := cX6_setMost) (maxL := 4) (ret := none) (by decide) rfl ?_
  intro p e s m args below meth c s₁ B hml hv
  obtain ⟨rfl, hsz, hT, hP, hD0, _⟩ := hv
  have hK := hT.1
  have hx := B.exec
  have hb := B.bytes
  have hr := B.returns
  have hts := atoms_spec (ws := wsX6_setMost) B.pre
  have hown : s.vm.findClass RX6 = some m.cls := findClass_of_methodNamed B.named
  have hlocks := B.notSynchronized
  subst hsz
  have hD := hD0.self (sz := s.heap.size)
  generalize hAe : va_A [(x, .inr (6, [a0, a1, a2, a3, a4, a5, a6, a7, a8, a9, .ref xm, a11])), (xm, .inl (cI, 91, .inl M))] s.heap.size = A at hD ⊢
  have hA : ∀ q : Nat, s.heap.size ≤ q → A q := fun q h => by rw [← hAe]; exact Or.inr h
  have hS : va_S A s.heap s.heap [] := va_S.rf
  have hl := lv_entry ([.ref x, .int (nI i), .int (nI k), .int u] : List Value) (n := 4) (Nat.le_of_ble_eq_true rfl)
  rw [lg_entry_eq]
  generalize (lg_sl ([.ref x, .int (nI i), .int (nI k), .int u]) ++ List.replicate (4 - (lg_sl ([.ref x, .int (nI i), .int (nI k), .int u])).length) Slot.unset).toArray = ls at hl ⊢
  have hl : lv_has ls 4 [(0, .ref x), (1, .int (nI i)), (2, .int (nI k)), (3, .int u)] := hl
  refine lv_iload_n hx hb dX6_setMost_0 rfl (lv_at hl 1 rfl) ?_
  refine lv_iload_n hx hb dX6_setMost_1 rfl (lv_at hl 2 rfl) ?_
  refine jcalli (va_runS (As := [.int (nI i), .int (nI k)]) (rest := []) ⟨hx, hb, hml, hown, hts⟩ (c_isInMost l D cI cJ i k hi hk s.heap.size) (va_cwS 2 hts gX6_setMost_X6_isInMost rfl rfl rfl (by decide +kernel) ⟨Nat.le_of_ble_eq_true rfl, Nat.le_of_ble_eq_true rfl⟩) (jpreS hT trivial) rfl rfl hl.1 rfl (lv_room (Nat.le_of_ble_eq_true rfl)) dX6_setMost_2 ⟨(Nat.zero_le _), (Nat.zero_le _)⟩) hS hA (fun r_1 H locs hw_r_1 hkq hS => ?_)
  try dsimp only at hw_r_1
  have hP := jkeep hP hkq
  subst hw_r_1
  refine lv_if_eq (tgt := 20) hx hb dX6_setMost_5 (by decide) (fun c_2 => ?_) (fun c_2 => ?_)
  · skip
    exact absurd c_2 (by decide)
  · skip
    refine lv_aload_n hx hb dX6_setMost_8 rfl (lv_at hl 0 rfl) ?_
    refine va_get (D := D) (ci := 6) (v := .ref xm) (C := RX6) (T := TX6) (N := 12) hx hb hts (fun w h => List.mem_cons_of_mem _ (List.mem_append_right _ h)) hown hK hP 0 rfl rfl 10 (by decide) (hts (Cond.fieldLink RX6 49 "JamDays" "most" "[I") (List.mem_of_getElem? (i := 1) rfl)) (fun _ h9 => h9) rfl dX6_setMost_9 ?_
    refine lv_iload_n hx hb dX6_setMost_12 rfl (lv_at hl 1 rfl) ?_
    refine lv_bipush (v := 13) hx hb dX6_setMost_13 (by decide) ?_
    refine lv_imul hx hb dX6_setMost_15 ?_
    refine jv_as (y := nI (i * 13)) (pk_mul i 13) ?_
    refine lv_iload_n hx hb dX6_setMost_16 rfl (lv_at hl 2 rfl) ?_
    refine lv_iadd hx hb dX6_setMost_17 ?_
    refine jv_as (y := nI ((i * 13) + k)) (nI_add (i * 13) k) ?_
    refine lv_iload_n hx hb dX6_setMost_18 rfl (lv_at hl 3 rfl) ?_
    refine jv_ast (k := (i * 13) + k) (x := u) hx hb hK hP hD hS 1 0 rfl rfl (by omega) (by decide) dX6_setMost_19 (fun H locs hP hD hS => ?_)
    have hP : va_P D vwCl [(x, .inr (6, [a0, a1, a2, a3, a4, a5, a6, a7, a8, a9, .ref xm, a11])), (xm, .inl (cI, 91, .inl (upd M ((i * 13) + k) u)))] H := hP
    have hD : va_D A [(x, .inr (6, [a0, a1, a2, a3, a4, a5, a6, a7, a8, a9, .ref xm, a11])), (xm, .inl (cI, 91, .inl (upd M ((i * 13) + k) u)))] := hD
    exact W.vret hx hb hr (fun t ht hW => ⟨⟨(), rfl, trivial, by dsimp only; rw [ht]; exact hP⟩, hS.F ht⟩) hS.2.2 dX6_setMost_20

/-- what k spoons of jar j, of s spoons of the jars from j on, are worth -/
def cww (nw sp M : Nat → Int32) (j s k : Nat) : Int32 :=
  if sp j < nI k ∨ M ((j + 1) * 13 + (s - k)) = -1000000 then -1000000 else nI k * nw j - nI k * (nI k - 1) / 2 + M ((j + 1) * 13 + (s - k))
set_option maxHeartbeats 4000000 in
set_option maxRecDepth 100000 in
theorem c_worthWithPick (l : Launch) (D : va_G) (cI cJ : ClassId) (x : Nat) (xj : Nat) (xn : Nat) (xm : Nat) (xw : Nat) (ns : Nat) (n : Nat) (a0 : Value) (a1 : Value) (a5 : Value) (a6 : Value) (a7 : Value) (a8 : Value) (a9 : Value) (b0 : Value) (b1 : Value) (b2 : Value) (b3 : Value) (b4 : Value) (b6 : Value) (b7 : Value) (b8 : Value) (jr : Nat → Option Nat) (jk : Nat → Nat) (jg : Nat → Int32) (js : Nat → Int32) (jm : Nat → Int32) (nw : Nat → Int32) (sp : Nat → Int32) (M : Nat → Int32) (j : Nat) (s9 : Nat) (k : Nat) (hj : j < n) (hn6 : n ≤ 6) (hs : s9 < 13) (hk : k ≤ s9) : jRi l yX6_worthWithPick wsX6_worthWithPick ({ frames := 2, cells := 0, slots := 0, locals := 43 }) [.ref x, .int (nI j), .int (nI s9), .int (nI k)] D cI cJ (fun H => va_P D vwCl [(x, .inr (6, [a0, a1, .ref xj, .int (nI n), .ref xn, a5, a6, a7, a8, a9, .ref xm, .ref xw])), (xj, .inl (cJ, 6, .inr (.inr (.inr (.inr jr))))), (xn, .inr (1, [b0, b1, b2, b3, b4, .ref ns, b6, b7, b8])), (ns, .inl (cI, 6, .inl sp)), (xm, .inl (cI, 91, .inl M)), (xw, .inl (cI, 6, .inl nw))] H ∧ jJ D n jr jk jg js jm H) (fun r => r = cww nw sp M j s9 k) := by
  intro sz
  refine Met.ofW (cc := cX6_worthWithPick) (maxL := 5) (ret := (some .int)) (by decide) rfl ?_
  intro p e s m args below meth c s₁ B hml hv
  obtain ⟨rfl, hsz, hT, ⟨hPr, hJ⟩⟩ := hv
  have hK := hT.1
  have hx := B.exec
  have hb := B.bytes
  have hr := B.returns
  have hts := atoms_spec (ws := wsX6_worthWithPick) B.pre
  have hown : s.vm.findClass RX6 = some m.cls := findClass_of_methodNamed B.named
  have hlocks := B.notSynchronized
  subst hsz
  generalize hAe : va_A [] s.heap.size = A
  have hA : ∀ q : Nat, s.heap.size ≤ q → A q := fun q h => by rw [← hAe]; exact Or.inr h
  have hS : va_S A s.heap s.heap [] := va_S.rf
  have hl := lv_entry ([.ref x, .int (nI j), .int (nI s9), .int (nI k)] : List Value) (n := 5) (Nat.le_of_ble_eq_true rfl)
  rw [lg_entry_eq]
  generalize (lg_sl ([.ref x, .int (nI j), .int (nI s9), .int (nI k)]) ++ List.replicate (5 - (lg_sl ([.ref x, .int (nI j), .int (nI s9), .int (nI k)])).length) Slot.unset).toArray = ls at hl ⊢
  have hl : lv_has ls 5 [(0, .ref x), (1, .int (nI j)), (2, .int (nI s9)), (3, .int (nI k))] := hl
  refine lv_aload_n hx hb dX6_worthWithPick_0 rfl (lv_at hl 0 rfl) ?_
  refine lv_iload_n hx hb dX6_worthWithPick_1 rfl (lv_at hl 1 rfl) ?_
  refine lv_iconst (v := 1) hx hb dX6_worthWithPick_2 (by decide) ?_
  refine lv_iadd hx hb dX6_worthWithPick_3 ?_
  refine jv_as (y := nI (j + 1)) (nI_add j 1) ?_
  refine lv_iload_n hx hb dX6_worthWithPick_4 rfl (lv_at hl 2 rfl) ?_
  refine lv_iload_n hx hb dX6_worthWithPick_5 rfl (lv_at hl 3 rfl) ?_
  refine lv_isub hx hb dX6_worthWithPick_6 ?_
  refine jv_as (y := nI (s9 - k)) (pk_sub hk) ?_
  have hPc_1 := hPr.sub (ws' := [(x, .inr (6, [a0, a1, .ref xj, .int (nI n), .ref xn, a5, a6, a7, a8, a9, .ref xm, .ref xw])), (xm, .inl (cI, 91, .inl M))]) [0, 4] rfl
  refine jcalli (va_runV (As := [.int (nI (j + 1)), .int (nI (s9 - k))]) (rest := []) ⟨hx, hb, hml, hown, hts⟩ (c_mostWorth l D cI cJ x xm (j + 1) (s9 - k) a0 a1 (.ref xj) (.int (nI n)) (.ref xn) a5 a6 a7 a8 a9 (.ref xw) M (by omega) (by omega) s.heap.size) (cwV 2 hts gX6_worthWithPick_X6_mostWorth rfl rfl rfl (by decide +kernel) ⟨Nat.le_of_ble_eq_true rfl, Nat.le_of_ble_eq_true rfl⟩) (jpreV hT (va_recv hK hPr (ci := 6) (q0 := 0) rfl rfl) hPc_1) rfl rfl hl.1 rfl (lv_room (Nat.le_of_ble_eq_true rfl)) dX6_worthWithPick_7 ⟨(Nat.zero_le _), (Nat.zero_le _)⟩) hS hA (fun r_2 H locs hw_r_2 hkq hS => ?_)
  try dsimp only at hw_r_2
  have hPr := jkeep hPr hkq
  have hJ := hJ.kept hkq
  subst hw_r_2
  refine lv_istore (lv' := [(4, .int (M ((j + 1) * 13 + (s9 - k)))), (0, .ref x), (1, .int (nI j)), (2, .int (nI s9)), (3, .int (nI k))]) hx hb dX6_worthWithPick_10 hl (by decide) rfl (fun ls hl => ?_)
  refine lv_aload_n hx hb dX6_worthWithPick_12 rfl (lv_at hl 1 rfl) ?_
  refine lv_iload_n hx hb dX6_worthWithPick_13 rfl (lv_at hl 2 rfl) ?_
  have hPc_3 := hPr.sub (ws' := [(x, .inr (6, [a0, a1, .ref xj, .int (nI n), .ref xn, a5, a6, a7, a8, a9, .ref xm, .ref xw])), (xj, .inl (cJ, 6, .inr (.inr (.inr (.inr jr)))))]) [0, 1] rfl
  refine jcallq (va_runV (As := [.int (nI j)]) (rest := []) ⟨hx, hb, hml, hown, hts⟩ (c_find_ok l D cI cJ x xj n a0 a1 (.ref xn) a5 a6 a7 a8 a9 (.ref xm) (.ref xw) jr j hj hn6 H.size) (cwV 1 hts gX6_worthWithPick_X6_find rfl rfl rfl (by decide +kernel) ⟨Nat.le_of_ble_eq_true rfl, Nat.le_of_ble_eq_true rfl⟩) (jpreV hT (va_recv hK hPr (ci := 6) (q0 := 0) rfl rfl) hPc_3) rfl rfl hl.1 rfl (lv_room (Nat.le_of_ble_eq_true rfl)) dX6_worthWithPick_14 ⟨(Nat.zero_le _), (Nat.zero_le _)⟩) hS hA (fun r_4 H locs hw_r_4 hkq hS => ?_)
  try dsimp only at hw_r_4
  have hPr := jkeep hPr hkq
  have hJ := hJ.kept hkq
  obtain ⟨hk5, a, ea9, hat⟩ := hJ j (by omega)
  rw [ea9] at hw_r_4
  subst hw_r_4
  try dsimp only [va_rf]
  refine lv_ifnull hx hb dX6_worthWithPick_17 ?_
  refine lv_iload_n hx hb dX6_worthWithPick_20 rfl (lv_at hl 4 rfl) ?_
  refine lv_aload_n hx hb dX6_worthWithPick_21 rfl (lv_at hl 1 rfl) ?_
  refine va_get (D := D) (ci := 6) (v := .ref xn) (C := RX6) (T := TX6) (N := 12) hx hb hts (fun w h => List.mem_cons_of_mem _ (List.mem_append_left _ (List.mem_append_right _ h))) hown hK hPr 0 rfl rfl 4 (by decide) (hts (Cond.fieldLink RX6 29 "JamDays" "now" "LJamDays$Days;") (List.mem_of_getElem? (i := 1) rfl)) (fun _ h9 => h9) rfl dX6_worthWithPick_22 ?_
  refine lv_iload_n hx hb dX6_worthWithPick_25 rfl (lv_at hl 2 rfl) ?_
  have hPc_5 := hPr.sub (ws' := [(xn, .inr (1, [b0, b1, b2, b3, b4, .ref ns, b6, b7, b8])), (ns, .inl (cI, 6, .inl sp))]) [2, 3] rfl
  refine jcalli (va_runV (As := [.int (nI j)]) (rest := [.int (nI k)]) ⟨hx, hb, hml, hown, hts⟩ (c_spoonsOf l D cI cJ xn ns b0 b1 b2 b3 b4 b6 b7 b8 sp j (by omega) H.size) (cwV 1 hts gX6_worthWithPick_X1_spoonsOf rfl rfl rfl (by decide +kernel) ⟨Nat.le_of_ble_eq_true rfl, Nat.le_of_ble_eq_true rfl⟩) (jpreV hT (va_recv hK hPr (ci := 1) (q0 := 2) rfl rfl) hPc_5) rfl rfl hl.1 rfl (lv_room (Nat.le_of_ble_eq_true rfl)) dX6_worthWithPick_26 ⟨(Nat.zero_le _), (Nat.zero_le _)⟩) hS hA (fun r_6 H locs hw_r_6 hkq hS => ?_)
  try dsimp only at hw_r_6
  have hPr := jkeep hPr hkq
  have hJ := hJ.kept hkq
  subst hw_r_6
  refine lv_icmp_gt (tgt := 39) hx hb dX6_worthWithPick_29 (by decide) (fun c_7 => ?_) (fun c_7 => ?_)
  · skip
    refine lv_ldc (v := (-1000000)) hx hb hown (hts (Cond.constant RX6 136 (-1000000)) (List.mem_of_getElem? (i := 2) rfl)) dX6_worthWithPick_39 ?_
    exact W.iret (v := (-1000000)) hx hb hr (fun t ht hW => ⟨⟨(-1000000), (), rfl, (by simp only [cww]; rw [if_pos (Or.inl c_7)]), trivial⟩, hS.F ht⟩) hS.2.2 dX6_worthWithPick_41
  · skip
    refine lv_iload hx hb dX6_worthWithPick_32 (lv_at hl 0 rfl) ?_
    refine lv_ldc (v := (-1000000)) hx hb hown (hts (Cond.constant RX6 136 (-1000000)) (List.mem_of_getElem? (i := 2) rfl)) dX6_worthWithPick_34 ?_
    refine lv_icmp_ne (tgt := 42) hx hb dX6_worthWithPick_36 (by decide) (fun c_8 => ?_) (fun c_8 => ?_)
    · skip
      refine lv_iload_n hx hb dX6_worthWithPick_42 rfl (lv_at hl 4 rfl) ?_
      refine lv_aload_n hx hb dX6_worthWithPick_43 rfl (lv_at hl 1 rfl) ?_
      refine va_get (D := D) (ci := 6) (v := .ref xw) (C := RX6) (T := TX6) (N := 12) hx hb hts (fun w h => List.mem_cons_of_mem _ (List.mem_append_left _ (List.mem_append_right _ h))) hown hK hPr 0 rfl rfl 11 (by decide) (hts (Cond.fieldLink RX6 52 "JamDays" "nextWorths" "[I") (List.mem_of_getElem? (i := 3) rfl)) (fun _ h9 => h9) rfl dX6_worthWithPick_44 ?_
      refine lv_iload_n hx hb dX6_worthWithPick_47 rfl (lv_at hl 2 rfl) ?_
      refine jv_ald (k := j) hx hb hK hPr 5 0 rfl rfl (by omega) (by decide) dX6_worthWithPick_48 ?_
      refine lv_imul hx hb dX6_worthWithPick_49 ?_
      refine lv_iload_n hx hb dX6_worthWithPick_50 rfl (lv_at hl 4 rfl) ?_
      refine lv_iload_n hx hb dX6_worthWithPick_51 rfl (lv_at hl 4 rfl) ?_
      refine lv_iconst (v := 1) hx hb dX6_worthWithPick_52 (by decide) ?_
      refine lv_isub hx hb dX6_worthWithPick_53 ?_
      refine lv_imul hx hb dX6_worthWithPick_54 ?_
      refine lv_iconst (v := 2) hx hb dX6_worthWithPick_55 (by decide) ?_
      refine lv_idiv hx hb dX6_worthWithPick_56 (by decide) ?_
      refine lv_isub hx hb dX6_worthWithPick_57 ?_
      refine lv_iload hx hb dX6_worthWithPick_58 (lv_at hl 0 rfl) ?_
      refine lv_iadd hx hb dX6_worthWithPick_60 ?_
      exact W.iret (v := (((nI k) * (nw j)) - (((nI k) * ((nI k) - 1)) / 2)) + (M ((j + 1) * 13 + (s9 - k)))) hx hb hr (fun t ht hW => ⟨⟨(((nI k) * (nw j)) - (((nI k) * ((nI k) - 1)) / 2)) + (M ((j + 1) * 13 + (s9 - k))), (), rfl, (by simp only [cww]; rw [if_neg (by rintro (h | h); exact c_7 h; exact c_8 h)]), trivial⟩, hS.F ht⟩) hS.2.2 dX6_worthWithPick_61
    · skip
      refine lv_ldc (v := (-1000000)) hx hb hown (hts (Cond.constant RX6 136 (-1000000)) (List.mem_of_getElem? (i := 2) rfl)) dX6_worthWithPick_39 ?_
      exact W.iret (v := (-1000000)) hx hb hr (fun t ht hW => ⟨⟨(-1000000), (), rfl, (by simp only [cww]; rw [if_pos (Or.inr c_8)]), trivial⟩, hS.F ht⟩) hS.2.2 dX6_worthWithPick_41

def cmf (f : Nat → Int32) : Nat → Int32
  | 0 => -1000000
  | k + 1 => if cmf f k < f k then f k else cmf f k
set_option maxHeartbeats 4000000 in
set_option maxRecDepth 100000 in
theorem c_mostFrom (l : Launch) (D : va_G) (cI cJ : ClassId) (x : Nat) (xj : Nat) (xn : Nat) (xm : Nat) (xw : Nat) (ns : Nat) (n : Nat) (a0 : Value) (a1 : Value) (a5 : Value) (a6 : Value) (a7 : Value) (a8 : Value) (a9 : Value) (b0 : Value) (b1 : Value) (b2 : Value) (b3 : Value) (b4 : Value) (b6 : Value) (b7 : Value) (b8 : Value) (jr : Nat → Option Nat) (jk : Nat → Nat) (jg : Nat → Int32) (js : Nat → Int32) (jm : Nat → Int32) (nw : Nat → Int32) (sp : Nat → Int32) (M : Nat → Int32) (j : Nat) (s9 : Nat) (hj : j < n) (hn6 : n ≤ 6) (hs : s9 < 13) : jRi l yX6_mostFrom wsX6_mostFrom ({ frames := 3, cells := 0, slots := 0, locals := 67 }) [.ref x, .int (nI j), .int (nI s9)] D cI cJ (fun H => va_P D vwCl [(x, .inr (6, [a0, a1, .ref xj, .int (nI n), .ref xn, a5, a6, a7, a8, a9, .ref xm, .ref xw])), (xj, .inl (cJ, 6, .inr (.inr (.inr (.inr jr))))), (xn, .inr (1, [b0, b1, b2, b3, b4, .ref ns, b6, b7, b8])), (ns, .inl (cI, 6, .inl sp)), (xm, .inl (cI, 91, .inl M)), (xw, .inl (cI, 6, .inl nw))] H ∧ jJ D n jr jk jg js jm H) (fun r => r = cmf (cww nw sp M j s9) (s9 + 1)) := by
  intro sz
  refine Met.ofW (cc := cX6_mostFrom) (maxL := 5) (ret := (some .int)) (by decide) rfl ?_
  intro p e s m args below meth c s₁ B hml hv
  obtain ⟨rfl, hsz, hT, ⟨hPr, hJ⟩⟩ := hv
  have hK := hT.1
  have hx := B.exec
  have hb := B.bytes
  have hr := B.returns
  have hts := atoms_spec (ws := wsX6_mostFrom) B.pre
  have hown : s.vm.findClass RX6 = some m.cls := findClass_of_methodNamed B.named
  have hlocks := B.notSynchronized
  subst hsz
  generalize hAe : va_A [] s.heap.size = A
  have hA : ∀ q : Nat, s.heap.size ≤ q → A q := fun q h => by rw [← hAe]; exact Or.inr h
  have hS : va_S A s.heap s.heap [] := va_S.rf
  have hl := lv_entry ([.ref x, .int (nI j), .int (nI s9)] : List Value) (n := 5) (Nat.le_of_ble_eq_true rfl)
  rw [lg_entry_eq]
  generalize (lg_sl ([.ref x, .int (nI j), .int (nI s9)]) ++ List.replicate (5 - (lg_sl ([.ref x, .int (nI j), .int (nI s9)])).length) Slot.unset).toArray = ls at hl ⊢
  have hl : lv_has ls 5 [(0, .ref x), (1, .int (nI j)), (2, .int (nI s9))] := hl
  refine lv_ldc (v := (-1000000)) hx hb hown (hts (Cond.constant RX6 136 (-1000000)) (List.mem_of_getElem? (i := 1) rfl)) dX6_mostFrom_0 ?_
  refine lv_istore_n (lv' := [(3, .int (-1000000)), (0, .ref x), (1, .int (nI j)), (2, .int (nI s9))]) hx hb dX6_mostFrom_2 rfl hl (by decide) rfl (fun ls hl => ?_)
  refine lv_iconst (v := 0) hx hb dX6_mostFrom_3 (by decide) ?_
  refine lv_istore (lv' := [(4, .int 0), (3, .int (-1000000)), (0, .ref x), (1, .int (nI j)), (2, .int (nI s9))]) hx hb dX6_mostFrom_4 hl (by decide) rfl (fun ls hl => ?_)
  refine jloop (α := Nat × Int32) (fun (x9 : Nat × Int32) (H : Heap) (locs : List Loc) (ls : Array Slot) => match x9 with | (k, acc) => (va_P D vwCl [(x, .inr (6, [a0, a1, .ref xj, .int (nI n), .ref xn, a5, a6, a7, a8, a9, .ref xm, .ref xw])), (xj, .inl (cJ, 6, .inr (.inr (.inr (.inr jr))))), (xn, .inr (1, [b0, b1, b2, b3, b4, .ref ns, b6, b7, b8])), (ns, .inl (cI, 6, .inl sp)), (xm, .inl (cI, 91, .inl M)), (xw, .inl (cI, 6, .inl nw))] H) ∧ (jJ D n jr jk jg js jm H) ∧ (va_S A s.heap H locs) ∧ (lv_has ls 5 [(0, .ref x), (1, .int (nI j)), (2, .int (nI s9)), (3, .int acc), (4, .int (nI k))]) ∧ (k ≤ s9 + 1) ∧ (acc = cmf (cww nw sp M j s9) k)) (fun (x9 : Nat × Int32) => match x9 with | (k, acc) => s9 + 1 - k) (fun x9 H locs ls hx9 ih_6 => ?_) (0, (-1000000)) _ _ _ ⟨hPr, hJ, hS, lv_sub hl [2, 3, 4, 1, 0] rfl, (by omega), rfl⟩
  obtain ⟨k, acc⟩ := x9
  obtain ⟨hPr, hJ, hS, hl, hk9, hac⟩ := hx9
  refine lv_iload hx hb dX6_mostFrom_6 (lv_at hl 4 rfl) ?_
  refine lv_iload_n hx hb dX6_mostFrom_8 rfl (lv_at hl 2 rfl) ?_
  refine lv_icmp_gt (tgt := 31) hx hb dX6_mostFrom_9 (by decide) (fun c_1 => ?_) (fun c_1 => ?_)
  · skip
    replace c_1 : s9 < k := (nI_ltI (a := s9) (b := k) (by omega) (by omega)).mp c_1
    refine lv_iload_n hx hb dX6_mostFrom_31 rfl (lv_at hl 3 rfl) ?_
    exact W.iret (v := acc) hx hb hr (fun t ht hW => ⟨⟨acc, (), rfl, (by rw [hac, show k = s9 + 1 by omega]), trivial⟩, hS.F ht⟩) hS.2.2 dX6_mostFrom_32
  · skip
    replace c_1 : ¬ s9 < k := fun h => c_1 ((nI_ltI (a := s9) (b := k) (by omega) (by omega)).mpr h)
    refine lv_iload_n hx hb dX6_mostFrom_12 rfl (lv_at hl 3 rfl) ?_
    refine lv_aload_n hx hb dX6_mostFrom_13 rfl (lv_at hl 0 rfl) ?_
    refine lv_iload_n hx hb dX6_mostFrom_14 rfl (lv_at hl 1 rfl) ?_
    refine lv_iload_n hx hb dX6_mostFrom_15 rfl (lv_at hl 2 rfl) ?_
    refine lv_iload hx hb dX6_mostFrom_16 (lv_at hl 4 rfl) ?_
    have hPc_2 := hPr.sub (ws' := [(x, .inr (6, [a0, a1, .ref xj, .int (nI n), .ref xn, a5, a6, a7, a8, a9, .ref xm, .ref xw])), (xj, .inl (cJ, 6, .inr (.inr (.inr (.inr jr))))), (xn, .inr (1, [b0, b1, b2, b3, b4, .ref ns, b6, b7, b8])), (ns, .inl (cI, 6, .inl sp)), (xm, .inl (cI, 91, .inl M)), (xw, .inl (cI, 6, .inl nw))]) [0, 1, 2, 3, 4, 5] rfl
    refine jcalli (va_runV (As := [.int (nI j), .int (nI s9), .int (nI k)]) (rest := [.int acc]) ⟨hx, hb, hml, hown, hts⟩ (c_worthWithPick l D cI cJ x xj xn xm xw ns n a0 a1 a5 a6 a7 a8 a9 b0 b1 b2 b3 b4 b6 b7 b8 jr jk jg js jm nw sp M j s9 k hj hn6 hs (by omega) H.size) (cwV 3 hts gX6_mostFrom_X6_worthWithPick rfl rfl rfl (by decide +kernel) ⟨Nat.le_of_ble_eq_true rfl, Nat.le_of_ble_eq_true rfl⟩) (jpreV hT (va_recv hK hPr (ci := 6) (q0 := 0) rfl rfl) ⟨hPc_2, hJ⟩) rfl rfl hl.1 rfl (lv_room (Nat.le_of_ble_eq_true rfl)) dX6_mostFrom_18 ⟨(Nat.zero_le _), (Nat.zero_le _)⟩) hS hA (fun r_3 H locs hw_r_3 hkq hS => ?_)
    try dsimp only at hw_r_3
    have hPr := jkeep hPr hkq
    have hJ := hJ.kept hkq
    subst hw_r_3
    refine va_mmax hx hb (by rw [hml]; exact hl.1.symm) hown (hts (Cond.methodLink RX6 237 Lib.Math.max.name) (List.mem_of_getElem? (i := 2) rfl)) (hts (Cond.static Lib.Math.max.name) (List.mem_of_getElem? (i := 3) rfl)) (hts (Cond.initialized "java/lang/Math") (List.mem_of_getElem? (i := 4) rfl)) (hts (Cond.code Lib.Math.max.name Lib.Math.max.code 2 (some .int)) (List.mem_of_getElem? (i := 5) rfl)) (Nat.le_of_ble_eq_true rfl) (Nat.le_of_ble_eq_true rfl) (Nat.zero_le _) (Nat.zero_le _) dX6_mostFrom_21 ?_
    refine lv_istore_n (lv' := [(3, .int (if acc < (cww nw sp M j s9 k) then cww nw sp M j s9 k else acc)), (0, .ref x), (1, .int (nI j)), (2, .int (nI s9)), (4, .int (nI k))]) hx hb dX6_mostFrom_24 rfl hl (by decide) rfl (fun ls hl => ?_)
    refine lv_iinc (v := nI (k + 1)) (lv' := [(4, .int (nI (k + 1))), (3, .int (if acc < (cww nw sp M j s9 k) then cww nw sp M j s9 k else acc)), (0, .ref x), (1, .int (nI j)), (2, .int (nI s9))]) hx hb dX6_mostFrom_25 hl (k := 4) rfl ((rfl : nI k + Int32.ofInt 1 = nI k + nI 1).trans (nI_add k 1)) (by decide) rfl (fun ls hl => ?_)
    refine lv_goto (tgt := 6) hx hb dX6_mostFrom_28 (by decide) ?_
    exact ih_6 (k + 1, if acc < (cww nw sp M j s9 k) then cww nw sp M j s9 k else acc) _ _ _ ⟨hPr, hJ, hS, lv_sub hl [2, 3, 4, 1, 0] rfl, (by omega), (by rw [hac]; rfl)⟩ (by dsimp only; omega)

/-- the first of k numbers that is t; k if there is none -/
def cfp (f : Nat → Int32) (t : Int32) : Nat → Nat
  | 0 => 0
  | k + 1 => if cfp f t k < k then cfp f t k else if f k = t then k else k + 1
theorem cfp_n {f : Nat → Int32} {t : Int32} {k : Nat} (h : cfp f t k = k) (h2 : ¬ f k = t) : cfp f t (k + 1) = k + 1 := by
  unfold cfp; rw [if_neg (by omega), if_neg h2]
theorem cfp_y {f : Nat → Int32} {t : Int32} {k : Nat} (h : cfp f t k = k) (h2 : f k = t) : ∀ s : Nat, k < s → cfp f t s = k
  | 0, h1 => absurd h1 (Nat.not_lt_zero _)
  | s + 1, h1 => by
    unfold cfp
    by_cases h3 : k = s
    · subst h3; rw [if_neg (by omega), if_pos h2]
    · rw [cfp_y h h2 s (by omega), if_pos (by omega)]
set_option maxHeartbeats 4000000 in
set_option maxRecDepth 100000 in
theorem c_fewestPick (l : Launch) (D : va_G) (cI cJ : ClassId) (x : Nat) (xj : Nat) (xn : Nat) (xm : Nat) (xw : Nat) (ns : Nat) (n : Nat) (a0 : Value) (a1 : Value) (a5 : Value) (a6 : Value) (a7 : Value) (a8 : Value) (a9 : Value) (b0 : Value) (b1 : Value) (b2 : Value) (b3 : Value) (b4 : Value) (b6 : Value) (b7 : Value) (b8 : Value) (jr : Nat → Option Nat) (jk : Nat → Nat) (jg : Nat → Int32) (js : Nat → Int32) (jm : Nat → Int32) (nw : Nat → Int32) (sp : Nat → Int32) (M : Nat → Int32) (j : Nat) (s9 : Nat) (hj : j < n) (hn6 : n ≤ 6) (hs : s9 < 13) : jRi l yX6_fewestPick wsX6_fewestPick ({ frames := 3, cells := 0, slots := 0, locals := 67 }) [.ref x, .int (nI j), .int (nI s9)] D cI cJ (fun H => va_P D vwCl [(x, .inr (6, [a0, a1, .ref xj, .int (nI n), .ref xn, a5, a6, a7, a8, a9, .ref xm, .ref xw])), (xj, .inl (cJ, 6, .inr (.inr (.inr (.inr jr))))), (xn, .inr (1, [b0, b1, b2, b3, b4, .ref ns, b6, b7, b8])), (ns, .inl (cI, 6, .inl sp)), (xm, .inl (cI, 91, .inl M)), (xw, .inl (cI, 6, .inl nw))] H ∧ jJ D n jr jk jg js jm H) (fun r => r = nI (cfp (cww nw sp M j s9) (M (j * 13 + s9)) s9)) := by
  intro sz
  refine Met.ofW (cc := cX6_fewestPick) (maxL := 4) (ret := (some .int)) (by decide) rfl ?_
  intro p e s m args below meth c s₁ B hml hv
  obtain ⟨rfl, hsz, hT, ⟨hPr, hJ⟩⟩ := hv
  have hK := hT.1
  have hx := B.exec
  have hb := B.bytes
  have hr := B.returns
  have hts := atoms_spec (ws := wsX6_fewestPick) B.pre
  have hown : s.vm.findClass RX6 = some m.cls := findClass_of_methodNamed B.named
  have hlocks := B.notSynchronized
  subst hsz
  generalize hAe : va_A [] s.heap.size = A
  have hA : ∀ q : Nat, s.heap.size ≤ q → A q := fun q h => by rw [← hAe]; exact Or.inr h
  have hS : va_S A s.heap s.heap [] := va_S.rf
  have hl := lv_entry ([.ref x, .int (nI j), .int (nI s9)] : List Value) (n := 4) (Nat.le_of_ble_eq_true rfl)
  rw [lg_entry_eq]
  generalize (lg_sl ([.ref x, .int (nI j), .int (nI s9)]) ++ List.replicate (4 - (lg_sl ([.ref x, .int (nI j), .int (nI s9)])).length) Slot.unset).toArray = ls at hl ⊢
  have hl : lv_has ls 4 [(0, .ref x), (1, .int (nI j)), (2, .int (nI s9))] := hl
  refine lv_iconst (v := 0) hx hb dX6_fewestPick_0 (by decide) ?_
  refine lv_istore_n (lv' := [(3, .int 0), (0, .ref x), (1, .int (nI j)), (2, .int (nI s9))]) hx hb dX6_fewestPick_1 rfl hl (by decide) rfl (fun ls hl => ?_)
  refine jloop (α := Nat) (fun (k : Nat) (H : Heap) (locs : List Loc) (ls : Array Slot) => (va_P D vwCl [(x, .inr (6, [a0, a1, .ref xj, .int (nI n), .ref xn, a5, a6, a7, a8, a9, .ref xm, .ref xw])), (xj, .inl (cJ, 6, .inr (.inr (.inr (.inr jr))))), (xn, .inr (1, [b0, b1, b2, b3, b4, .ref ns, b6, b7, b8])), (ns, .inl (cI, 6, .inl sp)), (xm, .inl (cI, 91, .inl M)), (xw, .inl (cI, 6, .inl nw))] H) ∧ (jJ D n jr jk jg js jm H) ∧ (va_S A s.heap H locs) ∧ (lv_has ls 4 [(0, .ref x), (1, .int (nI j)), (2, .int (nI s9)), (3, .int (nI k))]) ∧ (k ≤ s9) ∧ (cfp (cww nw sp M j s9) (M (j * 13 + s9)) k = k)) (fun (k : Nat) => s9 - k) (fun k H locs ls hx9 ih_2 => ?_) 0 _ _ _ ⟨hPr, hJ, hS, lv_sub hl [1, 2, 3, 0] rfl, (by omega), rfl⟩
  obtain ⟨hPr, hJ, hS, hl, hk9, hac⟩ := hx9
  refine lv_iload_n hx hb dX6_fewestPick_2 rfl (lv_at hl 3 rfl) ?_
  refine lv_iload_n hx hb dX6_fewestPick_3 rfl (lv_at hl 2 rfl) ?_
  refine lv_icmp_ge (tgt := 31) hx hb dX6_fewestPick_4 (by decide) (fun c_1 => ?_) (fun c_1 => ?_)
  · skip
    replace c_1 : s9 ≤ k := (nI_leI (a := s9) (b := k) (by omega) (by omega)).mp c_1
    refine lv_iload_n hx hb dX6_fewestPick_31 rfl (lv_at hl 2 rfl) ?_
    exact W.iret (v := nI s9) hx hb hr (fun t ht hW => ⟨⟨nI s9, (), rfl, (by obtain rfl : s9 = k := (by omega); rw [hac]), trivial⟩, hS.F ht⟩) hS.2.2 dX6_fewestPick_32
  · skip
    replace c_1 : ¬ s9 ≤ k := fun h => c_1 ((nI_leI (a := s9) (b := k) (by omega) (by omega)).mpr h)
    refine lv_aload_n hx hb dX6_fewestPick_7 rfl (lv_at hl 0 rfl) ?_
    refine lv_iload_n hx hb dX6_fewestPick_8 rfl (lv_at hl 1 rfl) ?_
    refine lv_iload_n hx hb dX6_fewestPick_9 rfl (lv_at hl 2 rfl) ?_
    refine lv_iload_n hx hb dX6_fewestPick_10 rfl (lv_at hl 3 rfl) ?_
    have hPc_2 := hPr.sub (ws' := [(x, .inr (6, [a0, a1, .ref xj, .int (nI n), .ref xn, a5, a6, a7, a8, a9, .ref xm, .ref xw])), (xj, .inl (cJ, 6, .inr (.inr (.inr (.inr jr))))), (xn, .inr (1, [b0, b1, b2, b3, b4, .ref ns, b6, b7, b8])), (ns, .inl (cI, 6, .inl sp)), (xm, .inl (cI, 91, .inl M)), (xw, .inl (cI, 6, .inl nw))]) [0, 1, 2, 3, 4, 5] rfl
    refine jcalli (va_runV (As := [.int (nI j), .int (nI s9), .int (nI k)]) (rest := []) ⟨hx, hb, hml, hown, hts⟩ (c_worthWithPick l D cI cJ x xj xn xm xw ns n a0 a1 a5 a6 a7 a8 a9 b0 b1 b2 b3 b4 b6 b7 b8 jr jk jg js jm nw sp M j s9 k hj hn6 hs (by omega) H.size) (cwV 3 hts gX6_fewestPick_X6_worthWithPick rfl rfl rfl (by decide +kernel) ⟨Nat.le_of_ble_eq_true rfl, Nat.le_of_ble_eq_true rfl⟩) (jpreV hT (va_recv hK hPr (ci := 6) (q0 := 0) rfl rfl) ⟨hPc_2, hJ⟩) rfl rfl hl.1 rfl (lv_room (Nat.le_of_ble_eq_true rfl)) dX6_fewestPick_11 ⟨(Nat.zero_le _), (Nat.zero_le _)⟩) hS hA (fun r_3 H locs hw_r_3 hkq hS => ?_)
    try dsimp only at hw_r_3
    have hPr := jkeep hPr hkq
    have hJ := hJ.kept hkq
    subst hw_r_3
    refine lv_aload_n hx hb dX6_fewestPick_14 rfl (lv_at hl 0 rfl) ?_
    refine lv_iload_n hx hb dX6_fewestPick_15 rfl (lv_at hl 1 rfl) ?_
    refine lv_iload_n hx hb dX6_fewestPick_16 rfl (lv_at hl 2 rfl) ?_
    have hPc_4 := hPr.sub (ws' := [(x, .inr (6, [a0, a1, .ref xj, .int (nI n), .ref xn, a5, a6, a7, a8, a9, .ref xm, .ref xw])), (xm, .inl (cI, 91, .inl M))]) [0, 4] rfl
    refine jcalli (va_runV (As := [.int (nI j), .int (nI s9)]) (rest := [.int (cww nw sp M j s9 k)]) ⟨hx, hb, hml, hown, hts⟩ (c_mostWorth l D cI cJ x xm j s9 a0 a1 (.ref xj) (.int (nI n)) (.ref xn) a5 a6 a7 a8 a9 (.ref xw) M (by omega) hs H.size) (cwV 2 hts gX6_fewestPick_X6_mostWorth rfl rfl rfl (by decide +kernel) ⟨Nat.le_of_ble_eq_true rfl, Nat.le_of_ble_eq_true rfl⟩) (jpreV hT (va_recv hK hPr (ci := 6) (q0 := 0) rfl rfl) hPc_4) rfl rfl hl.1 rfl (lv_room (Nat.le_of_ble_eq_true rfl)) dX6_fewestPick_17 ⟨(Nat.zero_le _), (Nat.zero_le _)⟩) hS hA (fun r_5 H locs hw_r_5 hkq hS => ?_)
    try dsimp only at hw_r_5
    have hPr := jkeep hPr hkq
    have hJ := hJ.kept hkq
    subst hw_r_5
    refine lv_icmp_ne (tgt := 25) hx hb dX6_fewestPick_20 (by decide) (fun c_6 => ?_) (fun c_6 => ?_)
    · skip
      refine lv_iinc (v := nI (k + 1)) (lv' := [(3, .int (nI (k + 1))), (0, .ref x), (1, .int (nI j)), (2, .int (nI s9))]) hx hb dX6_fewestPick_25 hl (k := 3) rfl ((rfl : nI k + Int32.ofInt 1 = nI k + nI 1).trans (nI_add k 1)) (by decide) rfl (fun ls hl => ?_)
      refine lv_goto (tgt := 2) hx hb dX6_fewestPick_28 (by decide) ?_
      exact ih_2 (k + 1) _ _ _ ⟨hPr, hJ, hS, lv_sub hl [1, 2, 3, 0] rfl, (by omega), (cfp_n hac c_6)⟩ (by omega)
    · skip
      refine lv_iload_n hx hb dX6_fewestPick_23 rfl (lv_at hl 3 rfl) ?_
      exact W.iret (v := nI k) hx hb hr (fun t ht hW => ⟨⟨nI k, (), rfl, (by rw [cfp_y hac c_6 s9 (by omega)]), trivial⟩, hS.F ht⟩) hS.2.2 dX6_fewestPick_24

theorem cfp_le (f : Nat → Int32) (t : Int32) : ∀ k : Nat, cfp f t k ≤ k
  | 0 => Nat.le_refl 0
  | k + 1 => by
    have h := cfp_le f t k
    unfold cfp
    split
    · omega
    · split <;> omega
/-- what is left of s spoons behind the first k jars -/
def cpl (nw sp M : Nat → Int32) (s : Nat) : Nat → Nat
  | 0 => s
  | k + 1 => cpl nw sp M s k - cfp (cww nw sp M k (cpl nw sp M s k)) (M (k * 13 + cpl nw sp M s k)) (cpl nw sp M s k)
set_option maxHeartbeats 4000000 in
set_option maxRecDepth 100000 in
theorem c_pickOf_no (l : Launch) (D : va_G) (cI cJ : ClassId) (x : Nat) (xj : Nat) (n : Nat) (a0 : Value) (a1 : Value) (a4 : Value) (a5 : Value) (a6 : Value) (a7 : Value) (a8 : Value) (a9 : Value) (a10 : Value) (a11 : Value) (jr : Nat → Option Nat) (p0 : Int32) (s0 : Int32) (h9 : p0 < 0 ∨ nI n ≤ p0) : jRi l yX6_pickOf wsX6_pickOf ({ frames := 1, cells := 0, slots := 0, locals := 21 }) [.ref x, .int p0, .int s0] D cI cJ (fun H => va_P D vwCl [(x, .inr (6, [a0, a1, .ref xj, .int (nI n), a4, a5, a6, a7, a8, a9, a10, a11])), (xj, .inl (cJ, 6, .inr (.inr (.inr (.inr jr)))))] H) (fun r => r = -1) := by
  intro sz
  refine Met.ofW (cc := cX6_pickOf) (maxL := 5) (ret := (some .int)) (by decide) rfl ?_
  intro p e s m args below meth c s₁ B hml hv
  obtain ⟨rfl, hsz, hT, hPr⟩ := hv
  have hK := hT.1
  have hx := B.exec
  have hb := B.bytes
  have hr := B.returns
  have hts := atoms_spec (ws := wsX6_pickOf) B.pre
  have hown : s.vm.findClass RX6 = some m.cls := findClass_of_methodNamed B.named
  have hlocks := B.notSynchronized
  subst hsz
  generalize hAe : va_A [] s.heap.size = A
  have hA : ∀ q : Nat, s.heap.size ≤ q → A q := fun q h => by rw [← hAe]; exact Or.inr h
  have hS : va_S A s.heap s.heap [] := va_S.rf
  have hl := lv_entry ([.ref x, .int p0, .int s0] : List Value) (n := 5) (Nat.le_of_ble_eq_true rfl)
  rw [lg_entry_eq]
  generalize (lg_sl ([.ref x, .int p0, .int s0]) ++ List.replicate (5 - (lg_sl ([.ref x, .int p0, .int s0])).length) Slot.unset).toArray = ls at hl ⊢
  have hl : lv_has ls 5 [(0, .ref x), (1, .int p0), (2, .int s0)] := hl
  refine lv_aload_n hx hb dX6_pickOf_0 rfl (lv_at hl 0 rfl) ?_
  refine lv_iload_n hx hb dX6_pickOf_1 rfl (lv_at hl 1 rfl) ?_
  have hPc_1 := hPr.sub (ws' := [(x, .inr (6, [a0, a1, .ref xj, .int (nI n), a4, a5, a6, a7, a8, a9, a10, a11])), (xj, .inl (cJ, 6, .inr (.inr (.inr (.inr jr)))))]) [0, 1] rfl
  refine jcallq (va_runV (As := [.int p0]) (rest := []) ⟨hx, hb, hml, hown, hts⟩ (c_find_no l D cI cJ x xj n a0 a1 a4 a5 a6 a7 a8 a9 a10 a11 jr p0 h9 s.heap.size) (cwV 1 hts gX6_pickOf_X6_find rfl rfl rfl (by decide +kernel) ⟨Nat.le_of_ble_eq_true rfl, Nat.le_of_ble_eq_true rfl⟩) (jpreV hT (va_recv hK hPr (ci := 6) (q0 := 0) rfl rfl) hPc_1) rfl rfl hl.1 rfl (lv_room (Nat.le_of_ble_eq_true rfl)) dX6_pickOf_2 ⟨(Nat.zero_le _), (Nat.zero_le _)⟩) hS hA (fun r_2 H locs hw_r_2 hkq hS => ?_)
  try dsimp only at hw_r_2
  have hPr := jkeep hPr hkq
  subst hw_r_2
  try dsimp only [va_rf]
  refine lv_ifnonnullN hx hb dX6_pickOf_5 ?_
  refine lv_iconst (v := (-1)) hx hb dX6_pickOf_8 (by decide) ?_
  exact W.iret (v := (-1)) hx hb hr (fun t ht hW => ⟨⟨(-1), (), rfl, rfl, trivial⟩, hS.F ht⟩) hS.2.2 dX6_pickOf_9

set_option maxHeartbeats 4000000 in
set_option maxRecDepth 100000 in
theorem c_pickOf_ok (l : Launch) (D : va_G) (cI cJ : ClassId) (x : Nat) (xj : Nat) (xn : Nat) (xm : Nat) (xw : Nat) (ns : Nat) (n : Nat) (a0 : Value) (a1 : Value) (a5 : Value) (a6 : Value) (a7 : Value) (a8 : Value) (a9 : Value) (b0 : Value) (b1 : Value) (b2 : Value) (b3 : Value) (b4 : Value) (b6 : Value) (b7 : Value) (b8 : Value) (jr : Nat → Option Nat) (jk : Nat → Nat) (jg : Nat → Int32) (js : Nat → Int32) (jm : Nat → Int32) (nw : Nat → Int32) (sp : Nat → Int32) (M : Nat → Int32) (j : Nat) (s9 : Nat) (hj : j < n) (hn6 : n ≤ 6) (hs : s9 < 13) : jRi l yX6_pickOf wsX6_pickOf ({ frames := 4, cells := 0, slots := 0, locals := 90 }) [.ref x, .int (nI j), .int (nI s9)] D cI cJ (fun H => va_P D vwCl [(x, .inr (6, [a0, a1, .ref xj, .int (nI n), .ref xn, a5, a6, a7, a8, a9, .ref xm, .ref xw])), (xj, .inl (cJ, 6, .inr (.inr (.inr (.inr jr))))), (xn, .inr (1, [b0, b1, b2, b3, b4, .ref ns, b6, b7, b8])), (ns, .inl (cI, 6, .inl sp)), (xm, .inl (cI, 91, .inl M)), (xw, .inl (cI, 6, .inl nw))] H ∧ jJ D n jr jk jg js jm H) (fun r => r = nI (cfp (cww nw sp M j (cpl nw sp M s9 j)) (M (j * 13 + (cpl nw sp M s9 j))) (cpl nw sp M s9 j))) := by
  intro sz
  refine Met.ofW (cc := cX6_pickOf) (maxL := 5) (ret := (some .int)) (by decide) rfl ?_
  intro p e s m args below meth c s₁ B hml hv
  obtain ⟨rfl, hsz, hT, ⟨hPr, hJ⟩⟩ := hv
  have hK := hT.1
  have hx := B.exec
  have hb := B.bytes
  have hr := B.returns
  have hts := atoms_spec (ws := wsX6_pickOf) B.pre
  have hown : s.vm.findClass RX6 = some m.cls := findClass_of_methodNamed B.named
  have hlocks := B.notSynchronized
  subst hsz
  generalize hAe : va_A [] s.heap.size = A
  have hA : ∀ q : Nat, s.heap.size ≤ q → A q := fun q h => by rw [← hAe]; exact Or.inr h
  have hS : va_S A s.heap s.heap [] := va_S.rf
  have hl := lv_entry ([.ref x, .int (nI j), .int (nI s9)] : List Value) (n := 5) (Nat.le_of_ble_eq_true rfl)
  rw [lg_entry_eq]
  generalize (lg_sl ([.ref x, .int (nI j), .int (nI s9)]) ++ List.replicate (5 - (lg_sl ([.ref x, .int (nI j), .int (nI s9)])).length) Slot.unset).toArray = ls at hl ⊢
  have hl : lv_has ls 5 [(0, .ref x), (1, .int (nI j)), (2, .int (nI s9))] := hl
  refine lv_aload_n hx hb dX6_pickOf_0 rfl (lv_at hl 0 rfl) ?_
  refine lv_iload_n hx hb dX6_pickOf_1 rfl (lv_at hl 1 rfl) ?_
  have hPc_1 := hPr.sub (ws' := [(x, .inr (6, [a0, a1, .ref xj, .int (nI n), .ref xn, a5, a6, a7, a8, a9, .ref xm, .ref xw])), (xj, .inl (cJ, 6, .inr (.inr (.inr (.inr jr)))))]) [0, 1] rfl
  refine jcallq (va_runV (As := [.int (nI j)]) (rest := []) ⟨hx, hb, hml, hown, hts⟩ (c_find_ok l D cI cJ x xj n a0 a1 (.ref xn) a5 a6 a7 a8 a9 (.ref xm) (.ref xw) jr j hj hn6 s.heap.size) (cwV 1 hts gX6_pickOf_X6_find rfl rfl rfl (by decide +kernel) ⟨Nat.le_of_ble_eq_true rfl, Nat.le_of_ble_eq_true rfl⟩) (jpreV hT (va_recv hK hPr (ci := 6) (q0 := 0) rfl rfl) hPc_1) rfl rfl hl.1 rfl (lv_room (Nat.le_of_ble_eq_true rfl)) dX6_pickOf_2 ⟨(Nat.zero_le _), (Nat.zero_le _)⟩) hS hA (fun r_2 H locs hw_r_2 hkq hS => ?_)
  try dsimp only at hw_r_2
  have hPr := jkeep hPr hkq
  have hJ := hJ.kept hkq
  obtain ⟨hk5, a, ea9, hat⟩ := hJ j (by omega)
  rw [ea9] at hw_r_2
  subst hw_r_2
  try dsimp only [va_rf]
  refine lv_ifnonnull (tgt := 10) hx hb dX6_pickOf_5 (by decide) ?_
  refine lv_iload_n hx hb dX6_pickOf_10 rfl (lv_at hl 2 rfl) ?_
  refine lv_istore_n (lv' := [(3, .int (nI s9)), (0, .ref x), (1, .int (nI j)), (2, .int (nI s9))]) hx hb dX6_pickOf_11 rfl hl (by decide) rfl (fun ls hl => ?_)
  refine lv_iconst (v := 0) hx hb dX6_pickOf_12 (by decide) ?_
  refine lv_istore (lv' := [(4, .int 0), (3, .int (nI s9)), (0, .ref x), (1, .int (nI j)), (2, .int (nI s9))]) hx hb dX6_pickOf_13 hl (by decide) rfl (fun ls hl => ?_)
  refine jloop (α := Nat × Nat) (fun (x9 : Nat × Nat) (H : Heap) (locs : List Loc) (ls : Array Slot) => match x9 with | (k, f) => (va_P D vwCl [(x, .inr (6, [a0, a1, .ref xj, .int (nI n), .ref xn, a5, a6, a7, a8, a9, .ref xm, .ref xw])), (xj, .inl (cJ, 6, .inr (.inr (.inr (.inr jr))))), (xn, .inr (1, [b0, b1, b2, b3, b4, .ref ns, b6, b7, b8])), (ns, .inl (cI, 6, .inl sp)), (xm, .inl (cI, 91, .inl M)), (xw, .inl (cI, 6, .inl nw))] H) ∧ (jJ D n jr jk jg js jm H) ∧ (va_S A s.heap H locs) ∧ (lv_has ls 5 [(0, .ref x), (1, .int (nI j)), (2, .int (nI s9)), (3, .int (nI f)), (4, .int (nI k))]) ∧ (k ≤ j) ∧ (f < 13) ∧ (f = cpl nw sp M s9 k)) (fun (x9 : Nat × Nat) => match x9 with | (k, f) => j - k) (fun x9 H locs ls hx9 ih_15 => ?_) (0, s9) _ _ _ ⟨hPr, hJ, hS, lv_sub hl [2, 3, 4, 1, 0] rfl, (by omega), hs, rfl⟩
  obtain ⟨k, f⟩ := x9
  obtain ⟨hPr, hJ, hS, hl, hk9, hf13, hac⟩ := hx9
  refine lv_iload hx hb dX6_pickOf_15 (lv_at hl 4 rfl) ?_
  refine lv_iload_n hx hb dX6_pickOf_17 rfl (lv_at hl 1 rfl) ?_
  refine lv_icmp_ge (tgt := 37) hx hb dX6_pickOf_18 (by decide) (fun c_3 => ?_) (fun c_3 => ?_)
  · skip
    replace c_3 : j ≤ k := (nI_leI (a := j) (b := k) (by omega) (by omega)).mp c_3
    refine lv_aload_n hx hb dX6_pickOf_37 rfl (lv_at hl 0 rfl) ?_
    refine lv_iload_n hx hb dX6_pickOf_38 rfl (lv_at hl 1 rfl) ?_
    refine lv_iload_n hx hb dX6_pickOf_39 rfl (lv_at hl 3 rfl) ?_
    have hPc_4 := hPr.sub (ws' := [(x, .inr (6, [a0, a1, .ref xj, .int (nI n), .ref xn, a5, a6, a7, a8, a9, .ref xm, .ref xw])), (xj, .inl (cJ, 6, .inr (.inr (.inr (.inr jr))))), (xn, .inr (1, [b0, b1, b2, b3, b4, .ref ns, b6, b7, b8])), (ns, .inl (cI, 6, .inl sp)), (xm, .inl (cI, 91, .inl M)), (xw, .inl (cI, 6, .inl nw))]) [0, 1, 2, 3, 4, 5] rfl
    refine jcalli (va_runV (As := [.int (nI j), .int (nI f)]) (rest := []) ⟨hx, hb, hml, hown, hts⟩ (c_fewestPick l D cI cJ x xj xn xm xw ns n a0 a1 a5 a6 a7 a8 a9 b0 b1 b2 b3 b4 b6 b7 b8 jr jk jg js jm nw sp M j f hj hn6 hf13 H.size) (cwV 2 hts gX6_pickOf_X6_fewestPick rfl rfl rfl (by decide +kernel) ⟨Nat.le_of_ble_eq_true rfl, Nat.le_of_ble_eq_true rfl⟩) (jpreV hT (va_recv hK hPr (ci := 6) (q0 := 0) rfl rfl) ⟨hPc_4, hJ⟩) rfl rfl hl.1 rfl (lv_room (Nat.le_of_ble_eq_true rfl)) dX6_pickOf_40 ⟨(Nat.zero_le _), (Nat.zero_le _)⟩) hS hA (fun r_5 H locs hw_r_5 hkq hS => ?_)
    try dsimp only at hw_r_5
    have hPr := jkeep hPr hkq
    have hJ := hJ.kept hkq
    subst hw_r_5
    exact W.iret (v := nI (cfp (cww nw sp M j f) (M (j * 13 + f)) f)) hx hb hr (fun t ht hW => ⟨⟨nI (cfp (cww nw sp M j f) (M (j * 13 + f)) f), (), rfl, (by obtain rfl : k = j := (by omega); rw [← hac]), trivial⟩, hS.F ht⟩) hS.2.2 dX6_pickOf_43
  · skip
    replace c_3 : ¬ j ≤ k := fun h => c_3 ((nI_leI (a := j) (b := k) (by omega) (by omega)).mpr h)
    refine lv_iload_n hx hb dX6_pickOf_21 rfl (lv_at hl 3 rfl) ?_
    refine lv_aload_n hx hb dX6_pickOf_22 rfl (lv_at hl 0 rfl) ?_
    refine lv_iload hx hb dX6_pickOf_23 (lv_at hl 4 rfl) ?_
    refine lv_iload_n hx hb dX6_pickOf_25 rfl (lv_at hl 3 rfl) ?_
    have hPc_6 := hPr.sub (ws' := [(x, .inr (6, [a0, a1, .ref xj, .int (nI n), .ref xn, a5, a6, a7, a8, a9, .ref xm, .ref xw])), (xj, .inl (cJ, 6, .inr (.inr (.inr (.inr jr))))), (xn, .inr (1, [b0, b1, b2, b3, b4, .ref ns, b6, b7, b8])), (ns, .inl (cI, 6, .inl sp)), (xm, .inl (cI, 91, .inl M)), (xw, .inl (cI, 6, .inl nw))]) [0, 1, 2, 3, 4, 5] rfl
    refine jcalli (va_runV (As := [.int (nI k), .int (nI f)]) (rest := [.int (nI f)]) ⟨hx, hb, hml, hown, hts⟩ (c_fewestPick l D cI cJ x xj xn xm xw ns n a0 a1 a5 a6 a7 a8 a9 b0 b1 b2 b3 b4 b6 b7 b8 jr jk jg js jm nw sp M k f (by omega) hn6 hf13 H.size) (cwV 2 hts gX6_pickOf_X6_fewestPick rfl rfl rfl (by decide +kernel) ⟨Nat.le_of_ble_eq_true rfl, Nat.le_of_ble_eq_true rfl⟩) (jpreV hT (va_recv hK hPr (ci := 6) (q0 := 0) rfl rfl) ⟨hPc_6, hJ⟩) rfl rfl hl.1 rfl (lv_room (Nat.le_of_ble_eq_true rfl)) dX6_pickOf_26 ⟨(Nat.zero_le _), (Nat.zero_le _)⟩) hS hA (fun r_7 H locs hw_r_7 hkq hS => ?_)
    try dsimp only at hw_r_7
    have hPr := jkeep hPr hkq
    have hJ := hJ.kept hkq
    subst hw_r_7
    refine lv_isub hx hb dX6_pickOf_29 ?_
    refine jv_as (y := nI (f - cfp (cww nw sp M k f) (M (k * 13 + f)) f)) (pk_sub (cfp_le _ _ _)) ?_
    refine lv_istore_n (lv' := [(3, .int (nI (f - cfp (cww nw sp M k f) (M (k * 13 + f)) f))), (0, .ref x), (1, .int (nI j)), (2, .int (nI s9)), (4, .int (nI k))]) hx hb dX6_pickOf_30 rfl hl (by decide) rfl (fun ls hl => ?_)
    refine lv_iinc (v := nI (k + 1)) (lv' := [(4, .int (nI (k + 1))), (3, .int (nI (f - cfp (cww nw sp M k f) (M (k * 13 + f)) f))), (0, .ref x), (1, .int (nI j)), (2, .int (nI s9))]) hx hb dX6_pickOf_31 hl (k := 4) rfl ((rfl : nI k + Int32.ofInt 1 = nI k + nI 1).trans (nI_add k 1)) (by decide) rfl (fun ls hl => ?_)
    refine lv_goto (tgt := 15) hx hb dX6_pickOf_34 (by decide) ?_
    exact ih_15 (k + 1, f - cfp (cww nw sp M k f) (M (k * 13 + f)) f) _ _ _ ⟨hPr, hJ, hS, lv_sub hl [2, 3, 4, 1, 0] rfl, (by omega), (by omega), (by rw [cpl, ← hac])⟩ (by dsimp only; omega)

