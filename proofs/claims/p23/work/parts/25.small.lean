set_option maxHeartbeats 4000000 in
set_option maxRecDepth 100000 in
theorem cl_at (l : Launch) (D : va_G) (cI cJ : ClassId) (x0 : Int32) (mm : Nat) (h0 : 0 < mm) (hm9 : mm ≤ 1000) : jRi l yL_at wsL_at ({ frames := 0, cells := 0, slots := 0, locals := 0 }) [.int x0, .int (nI mm)] D cI cJ (fun H => True) (fun r => ∃ q : Nat, q < mm ∧ r = nI q) := by
  intro sz
  refine Met.ofW (cc := cL_at) (maxL := 2) (ret := (some .int)) (by decide) rfl ?_
  intro p e s m args below meth c s₁ B hml hv
  obtain ⟨rfl, hsz, hT, _⟩ := hv
  have hK := hT.1
  have hx := B.exec
  have hb := B.bytes
  have hr := B.returns
  have hts := atoms_spec (ws := wsL_at) B.pre
  have hown : s.vm.findClass RL = some m.cls := findClass_of_methodNamed B.named
  have hlocks := B.notSynchronized
  subst hsz
  generalize hAe : va_A [] s.heap.size = A
  have hA : ∀ q : Nat, s.heap.size ≤ q → A q := fun q h => by rw [← hAe]; exact Or.inr h
  have hS : va_S A s.heap s.heap [] := va_S.rf
  have hl := lv_entry ([.int x0, .int (nI mm)] : List Value) (n := 2) (Nat.le_of_ble_eq_true rfl)
  rw [lg_entry_eq]
  generalize (lg_sl ([.int x0, .int (nI mm)]) ++ List.replicate (2 - (lg_sl ([.int x0, .int (nI mm)])).length) Slot.unset).toArray = ls at hl ⊢
  have hl : lv_has ls 2 [(0, .int x0), (1, .int (nI mm))] := hl
  obtain ⟨a9, ha9, ea9⟩ := lshr x0
  refine lv_iload_n hx hb dL_at_0 rfl (lv_at hl 0 rfl) ?_
  refine lv_iconst (v := 1) hx hb dL_at_1 (by decide) ?_
  refine lv_iushr (v := nI a9) hx hb dL_at_2 ea9 ?_
  refine lv_iload_n hx hb dL_at_3 rfl (lv_at hl 1 rfl) ?_
  refine lv_irem hx hb dL_at_4 (lne0 h0 (by omega)) ?_
  refine jv_as (y := nI (a9 % mm)) (pk_rem ha9 h0 (by omega)) ?_
  exact W.iret (v := nI (a9 % mm)) hx hb hr (fun t ht hW => ⟨⟨nI (a9 % mm), (), rfl, ⟨a9 % mm, Nat.mod_lt _ h0, rfl⟩, trivial⟩, hS.F ht⟩) hS.2.2 dL_at_5

set_option maxHeartbeats 4000000 in
set_option maxRecDepth 100000 in
theorem cl_larderText (l : Launch) (D : va_G) (cI cJ : ClassId) (x0 : Int32) (y0 : Int32) (z0 : Int32) (bb : Nat) (tt : Nat) (B0 : Nat → Int32) (T0 : Nat → Int32)  : jWi l yL_larderText wsL_larderText ({ frames := 1, cells := 0, slots := 0, locals := 21 }) 0 0 [.int x0, .int y0, .int z0, .ref bb, .ref tt] D cI cJ [(bb, .inl (cI, 19, .inl B0)), (tt, .inl (cI, 25, .inl T0))] (fun H => True) (fun r H => ∃ (n : Nat) (Bv T : Nat → Int32), 2 ≤ n ∧ n ≤ 6 ∧ r = nI (4 * n - 1) ∧ Bv 0 = nI n ∧ (∀ i : Nat, i < n → lJar Bv T i) ∧ va_P D vwCl [(bb, .inl (cI, 19, .inl Bv)), (tt, .inl (cI, 25, .inl T))] H) := by
  intro sz
  refine Met.ofW (cc := cL_larderText) (maxL := 7) (ret := (some .int)) (by decide) rfl ?_
  intro p e s m args below meth c s₁ B hml hv
  obtain ⟨rfl, hsz, hT, hP, hD0, _⟩ := hv
  have hK := hT.1
  have hx := B.exec
  have hb := B.bytes
  have hr := B.returns
  have hts := atoms_spec (ws := wsL_larderText) B.pre
  have hown : s.vm.findClass RL = some m.cls := findClass_of_methodNamed B.named
  have hlocks := B.notSynchronized
  subst hsz
  have hD := hD0.self (sz := s.heap.size)
  generalize hAe : va_A [(bb, .inl (cI, 19, .inl B0)), (tt, .inl (cI, 25, .inl T0))] s.heap.size = A at hD ⊢
  have hA : ∀ q : Nat, s.heap.size ≤ q → A q := fun q h => by rw [← hAe]; exact Or.inr h
  have hS : va_S A s.heap s.heap [] := va_S.rf
  have hl := lv_entry ([.int x0, .int y0, .int z0, .ref bb, .ref tt] : List Value) (n := 7) (Nat.le_of_ble_eq_true rfl)
  rw [lg_entry_eq]
  generalize (lg_sl ([.int x0, .int y0, .int z0, .ref bb, .ref tt]) ++ List.replicate (7 - (lg_sl ([.int x0, .int y0, .int z0, .ref bb, .ref tt])).length) Slot.unset).toArray = ls at hl ⊢
  have hl : lv_has ls 7 [(0, .int x0), (1, .int y0), (2, .int z0), (3, .ref bb), (4, .ref tt)] := hl
  refine lv_iconst (v := 0) hx hb dL_larderText_0 (by decide) ?_
  refine lv_istore (lv' := [(5, .int 0), (0, .int x0), (1, .int y0), (2, .int z0), (3, .ref bb), (4, .ref tt)]) hx hb dL_larderText_1 hl (by decide) rfl (fun ls hl => ?_)
  refine lv_aload_n hx hb dL_larderText_3 rfl (lv_at hl 4 rfl) ?_
  refine lv_iconst (v := 0) hx hb dL_larderText_4 (by decide) ?_
  refine lv_iconst (v := 2) hx hb dL_larderText_5 (by decide) ?_
  refine lv_iload_n hx hb dL_larderText_6 rfl (lv_at hl 1 rfl) ?_
  refine lv_iconst (v := 5) hx hb dL_larderText_7 (by decide) ?_
  refine jcalli (va_runS (As := [.int x0, .int 5]) (rest := [.int 2, .int 0, .ref bb]) ⟨hx, hb, hml, hown, hts⟩ (cl_at l D cI cJ x0 5 (by decide) (by decide) s.heap.size) (va_cwS 2 hts gL_larderText_L_at rfl rfl rfl (by decide +kernel) ⟨Nat.le_of_ble_eq_true rfl, Nat.le_of_ble_eq_true rfl⟩) (jpreS hT trivial) rfl rfl hl.1 rfl (lv_room (Nat.le_of_ble_eq_true rfl)) dL_larderText_8 ⟨(Nat.zero_le _), (Nat.zero_le _)⟩) hS hA (fun r_1 H locs hw_r_1 hkq hS => ?_)
  try dsimp only at hw_r_1
  have hP := jkeep hP hkq
  obtain ⟨q0, hq0, rfl⟩ := hw_r_1
  refine lv_iadd hx hb dL_larderText_11 ?_
  refine jv_as (y := nI (2 + q0)) (nI_add 2 q0) ?_
  obtain ⟨n, hn9⟩ : ∃ z9 : Nat, z9 = 2 + q0 := ⟨_, rfl⟩
  refine jv_as (y := nI n) (by rw [hn9]) ?_
  refine jv_ast (k := 0) (x := nI n) hx hb hK hP hD hS 0 0 rfl rfl (by omega) (by decide) dL_larderText_12 (fun H locs hP hD hS => ?_)
  have hP : va_P D vwCl [(bb, .inl (cI, 19, .inl (upd B0 0 (nI n)))), (tt, .inl (cI, 25, .inl T0))] H := hP
  have hD : va_D A [(bb, .inl (cI, 19, .inl (upd B0 0 (nI n)))), (tt, .inl (cI, 25, .inl T0))] := hD
  refine lv_iconst (v := 0) hx hb dL_larderText_13 (by decide) ?_
  refine lv_istore (lv' := [(6, .int 0), (5, .int 0), (0, .int x0), (1, .int y0), (2, .int z0), (3, .ref bb), (4, .ref tt)]) hx hb dL_larderText_14 hl (by decide) rfl (fun ls hl => ?_)
  refine jloop (α := Nat × Nat × (Nat → Int32) × (Nat → Int32)) (fun (x9 : Nat × Nat × (Nat → Int32) × (Nat → Int32)) (H : Heap) (locs : List Loc) (ls : Array Slot) => match x9 with | (j, p9, Bv, T) => (va_P D vwCl [(bb, .inl (cI, 19, .inl Bv)), (tt, .inl (cI, 25, .inl T))] H) ∧ (va_D A [(bb, .inl (cI, 19, .inl Bv)), (tt, .inl (cI, 25, .inl T))]) ∧ (va_S A s.heap H locs) ∧ (lv_has ls 7 [(0, .int x0), (1, .int y0), (2, .int z0), (3, .ref bb), (4, .ref tt), (5, .int (nI p9)), (6, .int (nI j))]) ∧ (j ≤ n) ∧ (p9 = 4 * j - 1) ∧ (Bv 0 = nI n) ∧ (∀ i : Nat, i < j → lJar Bv T i)) (fun (x9 : Nat × Nat × (Nat → Int32) × (Nat → Int32)) => match x9 with | (j, p9, Bv, T) => n - j) (fun x9 H locs ls hx9 ih_16 => ?_) (0, 0, upd B0 0 (nI n), T0) _ _ _ ⟨hP, hD, hS, lv_sub hl [2, 3, 4, 5, 6, 1, 0] rfl, (by omega), (by omega), pk_us, (fun i hi => absurd hi (Nat.not_lt_zero _))⟩
  obtain ⟨j, p9, Bv, T⟩ := x9
  obtain ⟨hP, hD, hS, hl, hj9, hp9, hB0, hall⟩ := hx9
  refine lv_iload hx hb dL_larderText_16 (lv_at hl 6 rfl) ?_
  refine lv_aload_n hx hb dL_larderText_18 rfl (lv_at hl 3 rfl) ?_
  refine lv_iconst (v := 0) hx hb dL_larderText_19 (by decide) ?_
  refine jv_ald (k := 0) hx hb hK hP 0 0 rfl rfl (by omega) (by decide) dL_larderText_20 ?_
  refine jv_as (y := nI n) hB0 ?_
  refine lv_icmp_ge (tgt := 204) hx hb dL_larderText_21 (by decide) (fun c_2 => ?_) (fun c_2 => ?_)
  · skip
    replace c_2 : n ≤ j := (nI_leI (a := n) (b := j) (by omega) (by omega)).mp c_2
    refine lv_iload hx hb dL_larderText_204 (lv_at hl 5 rfl) ?_
    exact W.iret (v := nI p9) hx hb hr (fun t ht hW => ⟨⟨nI p9, nI p9, rfl, rfl, by dsimp only; rw [ht]; exact ⟨n, Bv, T, (by omega), (by omega), (by rw [hp9, show j = n by omega]), hB0, (fun i hi => hall i (by omega)), hP⟩⟩, hS.F ht⟩) hS.2.2 dL_larderText_206
  · skip
    replace c_2 : ¬ n ≤ j := fun h => c_2 ((nI_leI (a := n) (b := j) (by omega) (by omega)).mpr h)
    refine lv_aload_n hx hb dL_larderText_24 rfl (lv_at hl 3 rfl) ?_
    refine lv_iconst (v := 1) hx hb dL_larderText_25 (by decide) ?_
    refine lv_iload hx hb dL_larderText_26 (lv_at hl 6 rfl) ?_
    refine lv_iadd hx hb dL_larderText_28 ?_
    refine jv_as (y := nI (1 + j)) (nI_add 1 j) ?_
    refine lv_iload_n hx hb dL_larderText_29 rfl (lv_at hl 0 rfl) ?_
    refine lv_iconst (v := 3) hx hb dL_larderText_30 (by decide) ?_
    refine lv_iconst (v := 3) hx hb dL_larderText_31 (by decide) ?_
    refine lv_iload hx hb dL_larderText_32 (lv_at hl 6 rfl) ?_
    refine lv_imul hx hb dL_larderText_34 ?_
    refine jv_as (y := nI (3 * j)) (pk_mul 3 j) ?_
    refine lv_iadd hx hb dL_larderText_35 ?_
    refine jv_as (y := nI (3 + (3 * j))) (nI_add 3 (3 * j)) ?_
    refine lv_ishr hx hb dL_larderText_36 ?_
    refine lv_iconst (v := 5) hx hb dL_larderText_37 (by decide) ?_
    refine jcalli (va_runS (As := [.int (x0 >>> (nI (3 + (3 * j)) &&& 31)), .int 5]) (rest := [.int (nI (1 + j)), .ref bb]) ⟨hx, hb, hml, hown, hts⟩ (cl_at l D cI cJ (x0 >>> (nI (3 + (3 * j)) &&& 31)) 5 (by decide) (by decide) H.size) (va_cwS 2 hts gL_larderText_L_at rfl rfl rfl (by decide +kernel) ⟨Nat.le_of_ble_eq_true rfl, Nat.le_of_ble_eq_true rfl⟩) (jpreS hT trivial) rfl rfl hl.1 rfl (lv_room (Nat.le_of_ble_eq_true rfl)) dL_larderText_38 ⟨(Nat.zero_le _), (Nat.zero_le _)⟩) hS hA (fun r_3 H locs hw_r_3 hkq hS => ?_)
    try dsimp only at hw_r_3
    have hP := jkeep hP hkq
    obtain ⟨k9, hk9, rfl⟩ := hw_r_3
    refine jv_ast (k := 1 + j) (x := nI k9) hx hb hK hP hD hS 0 0 rfl rfl (by omega) (by decide) dL_larderText_41 (fun H locs hP hD hS => ?_)
    have hP : va_P D vwCl [(bb, .inl (cI, 19, .inl (upd Bv (1 + j) (nI k9)))), (tt, .inl (cI, 25, .inl T))] H := hP
    have hD : va_D A [(bb, .inl (cI, 19, .inl (upd Bv (1 + j) (nI k9)))), (tt, .inl (cI, 25, .inl T))] := hD
    refine lv_aload_n hx hb dL_larderText_42 rfl (lv_at hl 3 rfl) ?_
    refine lv_bipush (v := 7) hx hb dL_larderText_43 (by decide) ?_
    refine lv_iload hx hb dL_larderText_45 (lv_at hl 6 rfl) ?_
    refine lv_iadd hx hb dL_larderText_47 ?_
    refine jv_as (y := nI (7 + j)) (nI_add 7 j) ?_
    refine lv_iload_n hx hb dL_larderText_48 rfl (lv_at hl 1 rfl) ?_
    refine lv_iconst (v := 4) hx hb dL_larderText_49 (by decide) ?_
    refine lv_iload hx hb dL_larderText_50 (lv_at hl 6 rfl) ?_
    refine lv_imul hx hb dL_larderText_52 ?_
    refine jv_as (y := nI (4 * j)) (pk_mul 4 j) ?_
    refine lv_ishr hx hb dL_larderText_53 ?_
    refine lv_bipush (v := 10) hx hb dL_larderText_54 (by decide) ?_
    refine jcalli (va_runS (As := [.int (y0 >>> (nI (4 * j) &&& 31)), .int 10]) (rest := [.int (nI (7 + j)), .ref bb]) ⟨hx, hb, hml, hown, hts⟩ (cl_at l D cI cJ (y0 >>> (nI (4 * j) &&& 31)) 10 (by decide) (by decide) H.size) (va_cwS 2 hts gL_larderText_L_at rfl rfl rfl (by decide +kernel) ⟨Nat.le_of_ble_eq_true rfl, Nat.le_of_ble_eq_true rfl⟩) (jpreS hT trivial) rfl rfl hl.1 rfl (lv_room (Nat.le_of_ble_eq_true rfl)) dL_larderText_56 ⟨(Nat.zero_le _), (Nat.zero_le _)⟩) hS hA (fun r_4 H locs hw_r_4 hkq hS => ?_)
    try dsimp only at hw_r_4
    have hP := jkeep hP hkq
    obtain ⟨g9, hg9, rfl⟩ := hw_r_4
    refine jv_ast (k := 7 + j) (x := nI g9) hx hb hK hP hD hS 0 0 rfl rfl (by omega) (by decide) dL_larderText_59 (fun H locs hP hD hS => ?_)
    have hP : va_P D vwCl [(bb, .inl (cI, 19, .inl (upd (upd Bv (1 + j) (nI k9)) (7 + j) (nI g9)))), (tt, .inl (cI, 25, .inl T))] H := hP
    have hD : va_D A [(bb, .inl (cI, 19, .inl (upd (upd Bv (1 + j) (nI k9)) (7 + j) (nI g9)))), (tt, .inl (cI, 25, .inl T))] := hD
    refine lv_aload_n hx hb dL_larderText_60 rfl (lv_at hl 3 rfl) ?_
    refine lv_bipush (v := 13) hx hb dL_larderText_61 (by decide) ?_
    refine lv_iload hx hb dL_larderText_63 (lv_at hl 6 rfl) ?_
    refine lv_iadd hx hb dL_larderText_65 ?_
    refine jv_as (y := nI (13 + j)) (nI_add 13 j) ?_
    refine lv_iload_n hx hb dL_larderText_66 rfl (lv_at hl 2 rfl) ?_
    refine lv_iconst (v := 4) hx hb dL_larderText_67 (by decide) ?_
    refine lv_iload hx hb dL_larderText_68 (lv_at hl 6 rfl) ?_
    refine lv_imul hx hb dL_larderText_70 ?_
    refine jv_as (y := nI (4 * j)) (pk_mul 4 j) ?_
    refine lv_ishr hx hb dL_larderText_71 ?_
    refine lv_bipush (v := 10) hx hb dL_larderText_72 (by decide) ?_
    refine jcalli (va_runS (As := [.int (z0 >>> (nI (4 * j) &&& 31)), .int 10]) (rest := [.int (nI (13 + j)), .ref bb]) ⟨hx, hb, hml, hown, hts⟩ (cl_at l D cI cJ (z0 >>> (nI (4 * j) &&& 31)) 10 (by decide) (by decide) H.size) (va_cwS 2 hts gL_larderText_L_at rfl rfl rfl (by decide +kernel) ⟨Nat.le_of_ble_eq_true rfl, Nat.le_of_ble_eq_true rfl⟩) (jpreS hT trivial) rfl rfl hl.1 rfl (lv_room (Nat.le_of_ble_eq_true rfl)) dL_larderText_74 ⟨(Nat.zero_le _), (Nat.zero_le _)⟩) hS hA (fun r_5 H locs hw_r_5 hkq hS => ?_)
    try dsimp only at hw_r_5
    have hP := jkeep hP hkq
    obtain ⟨s9, hs9, rfl⟩ := hw_r_5
    refine jv_ast (k := 13 + j) (x := nI s9) hx hb hK hP hD hS 0 0 rfl rfl (by omega) (by decide) dL_larderText_77 (fun H locs hP hD hS => ?_)
    have hP : va_P D vwCl [(bb, .inl (cI, 19, .inl (upd (upd (upd Bv (1 + j) (nI k9)) (7 + j) (nI g9)) (13 + j) (nI s9)))), (tt, .inl (cI, 25, .inl T))] H := hP
    have hD : va_D A [(bb, .inl (cI, 19, .inl (upd (upd (upd Bv (1 + j) (nI k9)) (7 + j) (nI g9)) (13 + j) (nI s9)))), (tt, .inl (cI, 25, .inl T))] := hD
    refine lv_iload hx hb dL_larderText_78 (lv_at hl 6 rfl) ?_
    refine lv_if_le (tgt := 93) hx hb dL_larderText_80 (by decide) (fun c_6 => ?_) (fun c_6 => ?_)
    · skip
      replace c_6 : j ≤ 0 := (nI_leI (a := j) (b := 0) (by omega) (by omega)).mp c_6
      refine lv_aload hx hb dL_larderText_93 (lv_at hl 4 rfl) ?_
      refine lv_iload hx hb dL_larderText_95 (lv_at hl 5 rfl) ?_
      refine lv_iinc (v := nI (p9 + 1)) (lv' := [(5, .int (nI (p9 + 1))), (0, .int x0), (1, .int y0), (2, .int z0), (3, .ref bb), (4, .ref tt), (6, .int (nI j))]) hx hb dL_larderText_97 hl (k := 5) rfl ((rfl : nI p9 + Int32.ofInt 1 = nI p9 + nI 1).trans (nI_add p9 1)) (by decide) rfl (fun ls hl => ?_)
      refine lv_aload_n hx hb dL_larderText_100 rfl (lv_at hl 4 rfl) ?_
      refine lv_iconst (v := 1) hx hb dL_larderText_101 (by decide) ?_
      refine lv_iload hx hb dL_larderText_102 (lv_at hl 6 rfl) ?_
      refine lv_iadd hx hb dL_larderText_104 ?_
      refine jv_as (y := nI (1 + j)) (nI_add 1 j) ?_
      refine jv_ald (k := 1 + j) hx hb hK hP 0 0 rfl rfl (by omega) (by decide) dL_larderText_105 ?_
      refine jv_as (y := nI k9) lt_N.1 ?_
      refine lv_if_ne (tgt := 114) hx hb dL_larderText_106 (by decide) (fun c_7 => ?_) (fun c_7 => ?_)
      · skip
        replace c_7 : ¬ k9 = 0 := fun h => c_7 ((nI_eq (a := k9) (b := 0) (by omega) (by omega)).mpr h)
        refine lv_aload_n hx hb dL_larderText_114 rfl (lv_at hl 4 rfl) ?_
        refine lv_iconst (v := 1) hx hb dL_larderText_115 (by decide) ?_
        refine lv_iload hx hb dL_larderText_116 (lv_at hl 6 rfl) ?_
        refine lv_iadd hx hb dL_larderText_118 ?_
        refine jv_as (y := nI (1 + j)) (nI_add 1 j) ?_
        refine jv_ald (k := 1 + j) hx hb hK hP 0 0 rfl rfl (by omega) (by decide) dL_larderText_119 ?_
        refine jv_as (y := nI k9) lt_N.1 ?_
        refine lv_iconst (v := 1) hx hb dL_larderText_120 (by decide) ?_
        refine lv_icmp_ne (tgt := 129) hx hb dL_larderText_121 (by decide) (fun c_8 => ?_) (fun c_8 => ?_)
        · skip
          replace c_8 : ¬ k9 = 1 := fun h => c_8 ((nI_eq (a := k9) (b := 1) (by omega) (by omega)).mpr h)
          refine lv_aload_n hx hb dL_larderText_129 rfl (lv_at hl 4 rfl) ?_
          refine lv_iconst (v := 1) hx hb dL_larderText_130 (by decide) ?_
          refine lv_iload hx hb dL_larderText_131 (lv_at hl 6 rfl) ?_
          refine lv_iadd hx hb dL_larderText_133 ?_
          refine jv_as (y := nI (1 + j)) (nI_add 1 j) ?_
          refine jv_ald (k := 1 + j) hx hb hK hP 0 0 rfl rfl (by omega) (by decide) dL_larderText_134 ?_
          refine jv_as (y := nI k9) lt_N.1 ?_
          refine lv_iconst (v := 2) hx hb dL_larderText_135 (by decide) ?_
          refine lv_icmp_ne (tgt := 144) hx hb dL_larderText_136 (by decide) (fun c_9 => ?_) (fun c_9 => ?_)
          · skip
            replace c_9 : ¬ k9 = 2 := fun h => c_9 ((nI_eq (a := k9) (b := 2) (by omega) (by omega)).mpr h)
            refine lv_aload_n hx hb dL_larderText_144 rfl (lv_at hl 4 rfl) ?_
            refine lv_iconst (v := 1) hx hb dL_larderText_145 (by decide) ?_
            refine lv_iload hx hb dL_larderText_146 (lv_at hl 6 rfl) ?_
            refine lv_iadd hx hb dL_larderText_148 ?_
            refine jv_as (y := nI (1 + j)) (nI_add 1 j) ?_
            refine jv_ald (k := 1 + j) hx hb hK hP 0 0 rfl rfl (by omega) (by decide) dL_larderText_149 ?_
            refine jv_as (y := nI k9) lt_N.1 ?_
            refine lv_iconst (v := 3) hx hb dL_larderText_150 (by decide) ?_
            refine lv_icmp_ne (tgt := 159) hx hb dL_larderText_151 (by decide) (fun c_10 => ?_) (fun c_10 => ?_)
            · skip
              replace c_10 : ¬ k9 = 3 := fun h => c_10 ((nI_eq (a := k9) (b := 3) (by omega) (by omega)).mpr h)
              refine lv_bipush (v := 103) hx hb dL_larderText_159 (by decide) ?_
              refine jv_ast (k := p9) (x := 103) hx hb hK hP hD hS 1 0 rfl rfl (by omega) (by decide) dL_larderText_161 (fun H locs hP hD hS => ?_)
              have hP : va_P D vwCl [(bb, .inl (cI, 19, .inl (upd (upd (upd Bv (1 + j) (nI k9)) (7 + j) (nI g9)) (13 + j) (nI s9)))), (tt, .inl (cI, 25, .inl (upd T p9 103)))] H := hP
              have hD : va_D A [(bb, .inl (cI, 19, .inl (upd (upd (upd Bv (1 + j) (nI k9)) (7 + j) (nI g9)) (13 + j) (nI s9)))), (tt, .inl (cI, 25, .inl (upd T p9 103)))] := hD
              refine lv_aload hx hb dL_larderText_162 (lv_at hl 5 rfl) ?_
              refine lv_iload hx hb dL_larderText_164 (lv_at hl 0 rfl) ?_
              refine lv_iinc (v := nI (p9 + 1 + 1)) (lv' := [(5, .int (nI (p9 + 1 + 1))), (0, .int x0), (1, .int y0), (2, .int z0), (3, .ref bb), (4, .ref tt), (6, .int (nI j))]) hx hb dL_larderText_166 hl (k := 0) rfl ((rfl : nI (p9 + 1) + Int32.ofInt 1 = nI (p9 + 1) + nI 1).trans (nI_add (p9 + 1) 1)) (by decide) rfl (fun ls hl => ?_)
              refine lv_bipush (v := 48) hx hb dL_larderText_169 (by decide) ?_
              refine lv_aload_n hx hb dL_larderText_171 rfl (lv_at hl 4 rfl) ?_
              refine lv_bipush (v := 7) hx hb dL_larderText_172 (by decide) ?_
              refine lv_iload hx hb dL_larderText_174 (lv_at hl 6 rfl) ?_
              refine lv_iadd hx hb dL_larderText_176 ?_
              refine jv_as (y := nI (7 + j)) (nI_add 7 j) ?_
              refine jv_ald (k := 7 + j) hx hb hK hP 0 0 rfl rfl (by omega) (by decide) dL_larderText_177 ?_
              refine jv_as (y := nI g9) lt_N.2.1 ?_
              refine lv_iadd hx hb dL_larderText_178 ?_
              refine jv_as (y := nI (48 + g9)) (nI_add 48 g9) ?_
              refine jv_ast (k := p9 + 1) (x := nI (48 + g9)) hx hb hK hP hD hS 1 0 rfl rfl (by omega) (by decide) dL_larderText_179 (fun H locs hP hD hS => ?_)
              have hP : va_P D vwCl [(bb, .inl (cI, 19, .inl (upd (upd (upd Bv (1 + j) (nI k9)) (7 + j) (nI g9)) (13 + j) (nI s9)))), (tt, .inl (cI, 25, .inl (upd (upd T p9 103) (p9 + 1) (nI (48 + g9)))))] H := hP
              have hD : va_D A [(bb, .inl (cI, 19, .inl (upd (upd (upd Bv (1 + j) (nI k9)) (7 + j) (nI g9)) (13 + j) (nI s9)))), (tt, .inl (cI, 25, .inl (upd (upd T p9 103) (p9 + 1) (nI (48 + g9)))))] := hD
              refine lv_aload hx hb dL_larderText_180 (lv_at hl 5 rfl) ?_
              refine lv_iload hx hb dL_larderText_182 (lv_at hl 0 rfl) ?_
              refine lv_iinc (v := nI (p9 + 1 + 1 + 1)) (lv' := [(5, .int (nI (p9 + 1 + 1 + 1))), (0, .int x0), (1, .int y0), (2, .int z0), (3, .ref bb), (4, .ref tt), (6, .int (nI j))]) hx hb dL_larderText_184 hl (k := 0) rfl ((rfl : nI (p9 + 1 + 1) + Int32.ofInt 1 = nI (p9 + 1 + 1) + nI 1).trans (nI_add (p9 + 1 + 1) 1)) (by decide) rfl (fun ls hl => ?_)
              refine lv_bipush (v := 48) hx hb dL_larderText_187 (by decide) ?_
              refine lv_aload_n hx hb dL_larderText_189 rfl (lv_at hl 4 rfl) ?_
              refine lv_bipush (v := 13) hx hb dL_larderText_190 (by decide) ?_
              refine lv_iload hx hb dL_larderText_192 (lv_at hl 6 rfl) ?_
              refine lv_iadd hx hb dL_larderText_194 ?_
              refine jv_as (y := nI (13 + j)) (nI_add 13 j) ?_
              refine jv_ald (k := 13 + j) hx hb hK hP 0 0 rfl rfl (by omega) (by decide) dL_larderText_195 ?_
              refine jv_as (y := nI s9) lt_N.2.2 ?_
              refine lv_iadd hx hb dL_larderText_196 ?_
              refine jv_as (y := nI (48 + s9)) (nI_add 48 s9) ?_
              refine jv_ast (k := p9 + 1 + 1) (x := nI (48 + s9)) hx hb hK hP hD hS 1 0 rfl rfl (by omega) (by decide) dL_larderText_197 (fun H locs hP hD hS => ?_)
              have hP : va_P D vwCl [(bb, .inl (cI, 19, .inl (upd (upd (upd Bv (1 + j) (nI k9)) (7 + j) (nI g9)) (13 + j) (nI s9)))), (tt, .inl (cI, 25, .inl (upd (upd (upd T p9 103) (p9 + 1) (nI (48 + g9))) (p9 + 1 + 1) (nI (48 + s9)))))] H := hP
              have hD : va_D A [(bb, .inl (cI, 19, .inl (upd (upd (upd Bv (1 + j) (nI k9)) (7 + j) (nI g9)) (13 + j) (nI s9)))), (tt, .inl (cI, 25, .inl (upd (upd (upd T p9 103) (p9 + 1) (nI (48 + g9))) (p9 + 1 + 1) (nI (48 + s9)))))] := hD
              refine lv_iinc (v := nI (j + 1)) (lv' := [(6, .int (nI (j + 1))), (5, .int (nI (p9 + 1 + 1 + 1))), (0, .int x0), (1, .int y0), (2, .int z0), (3, .ref bb), (4, .ref tt)]) hx hb dL_larderText_198 hl (k := 6) rfl ((rfl : nI j + Int32.ofInt 1 = nI j + nI 1).trans (nI_add j 1)) (by decide) rfl (fun ls hl => ?_)
              refine lv_goto (tgt := 16) hx hb dL_larderText_201 (by decide) ?_
              exact ih_16 (j + 1, p9 + 1 + 1 + 1, upd (upd (upd Bv (1 + j) (nI k9)) (7 + j) (nI g9)) (13 + j) (nI s9), upd (upd (upd T p9 103) (p9 + 1) (nI (48 + g9))) (p9 + 1 + 1) (nI (48 + s9))) _ _ _ ⟨hP, hD, hS, lv_sub hl [2, 3, 4, 5, 6, 1, 0] rfl, (by omega), (by omega), (lt_B0 hB0), (lt_n (by omega) hp9 hk9 hg9 hs9 (by simp [kch, c_7, c_8, c_9, c_10]))⟩ (by dsimp only; omega)
            · skip
              replace c_10 : k9 = 3 := (nI_eq (a := k9) (b := 3) (by omega) (by omega)).mp c_10
              refine lv_bipush (v := 112) hx hb dL_larderText_154 (by decide) ?_
              refine lv_goto (tgt := 161) hx hb dL_larderText_156 (by decide) ?_
              refine jv_ast (k := p9) (x := 112) hx hb hK hP hD hS 1 0 rfl rfl (by omega) (by decide) dL_larderText_161 (fun H locs hP hD hS => ?_)
              have hP : va_P D vwCl [(bb, .inl (cI, 19, .inl (upd (upd (upd Bv (1 + j) (nI k9)) (7 + j) (nI g9)) (13 + j) (nI s9)))), (tt, .inl (cI, 25, .inl (upd T p9 112)))] H := hP
              have hD : va_D A [(bb, .inl (cI, 19, .inl (upd (upd (upd Bv (1 + j) (nI k9)) (7 + j) (nI g9)) (13 + j) (nI s9)))), (tt, .inl (cI, 25, .inl (upd T p9 112)))] := hD
              refine lv_aload hx hb dL_larderText_162 (lv_at hl 5 rfl) ?_
              refine lv_iload hx hb dL_larderText_164 (lv_at hl 0 rfl) ?_
              refine lv_iinc (v := nI (p9 + 1 + 1)) (lv' := [(5, .int (nI (p9 + 1 + 1))), (0, .int x0), (1, .int y0), (2, .int z0), (3, .ref bb), (4, .ref tt), (6, .int (nI j))]) hx hb dL_larderText_166 hl (k := 0) rfl ((rfl : nI (p9 + 1) + Int32.ofInt 1 = nI (p9 + 1) + nI 1).trans (nI_add (p9 + 1) 1)) (by decide) rfl (fun ls hl => ?_)
              refine lv_bipush (v := 48) hx hb dL_larderText_169 (by decide) ?_
              refine lv_aload_n hx hb dL_larderText_171 rfl (lv_at hl 4 rfl) ?_
              refine lv_bipush (v := 7) hx hb dL_larderText_172 (by decide) ?_
              refine lv_iload hx hb dL_larderText_174 (lv_at hl 6 rfl) ?_
              refine lv_iadd hx hb dL_larderText_176 ?_
              refine jv_as (y := nI (7 + j)) (nI_add 7 j) ?_
              refine jv_ald (k := 7 + j) hx hb hK hP 0 0 rfl rfl (by omega) (by decide) dL_larderText_177 ?_
              refine jv_as (y := nI g9) lt_N.2.1 ?_
              refine lv_iadd hx hb dL_larderText_178 ?_
              refine jv_as (y := nI (48 + g9)) (nI_add 48 g9) ?_
              refine jv_ast (k := p9 + 1) (x := nI (48 + g9)) hx hb hK hP hD hS 1 0 rfl rfl (by omega) (by decide) dL_larderText_179 (fun H locs hP hD hS => ?_)
              have hP : va_P D vwCl [(bb, .inl (cI, 19, .inl (upd (upd (upd Bv (1 + j) (nI k9)) (7 + j) (nI g9)) (13 + j) (nI s9)))), (tt, .inl (cI, 25, .inl (upd (upd T p9 112) (p9 + 1) (nI (48 + g9)))))] H := hP
              have hD : va_D A [(bb, .inl (cI, 19, .inl (upd (upd (upd Bv (1 + j) (nI k9)) (7 + j) (nI g9)) (13 + j) (nI s9)))), (tt, .inl (cI, 25, .inl (upd (upd T p9 112) (p9 + 1) (nI (48 + g9)))))] := hD
              refine lv_aload hx hb dL_larderText_180 (lv_at hl 5 rfl) ?_
              refine lv_iload hx hb dL_larderText_182 (lv_at hl 0 rfl) ?_
              refine lv_iinc (v := nI (p9 + 1 + 1 + 1)) (lv' := [(5, .int (nI (p9 + 1 + 1 + 1))), (0, .int x0), (1, .int y0), (2, .int z0), (3, .ref bb), (4, .ref tt), (6, .int (nI j))]) hx hb dL_larderText_184 hl (k := 0) rfl ((rfl : nI (p9 + 1 + 1) + Int32.ofInt 1 = nI (p9 + 1 + 1) + nI 1).trans (nI_add (p9 + 1 + 1) 1)) (by decide) rfl (fun ls hl => ?_)
              refine lv_bipush (v := 48) hx hb dL_larderText_187 (by decide) ?_
              refine lv_aload_n hx hb dL_larderText_189 rfl (lv_at hl 4 rfl) ?_
              refine lv_bipush (v := 13) hx hb dL_larderText_190 (by decide) ?_
              refine lv_iload hx hb dL_larderText_192 (lv_at hl 6 rfl) ?_
              refine lv_iadd hx hb dL_larderText_194 ?_
              refine jv_as (y := nI (13 + j)) (nI_add 13 j) ?_
              refine jv_ald (k := 13 + j) hx hb hK hP 0 0 rfl rfl (by omega) (by decide) dL_larderText_195 ?_
              refine jv_as (y := nI s9) lt_N.2.2 ?_
              refine lv_iadd hx hb dL_larderText_196 ?_
              refine jv_as (y := nI (48 + s9)) (nI_add 48 s9) ?_
              refine jv_ast (k := p9 + 1 + 1) (x := nI (48 + s9)) hx hb hK hP hD hS 1 0 rfl rfl (by omega) (by decide) dL_larderText_197 (fun H locs hP hD hS => ?_)
              have hP : va_P D vwCl [(bb, .inl (cI, 19, .inl (upd (upd (upd Bv (1 + j) (nI k9)) (7 + j) (nI g9)) (13 + j) (nI s9)))), (tt, .inl (cI, 25, .inl (upd (upd (upd T p9 112) (p9 + 1) (nI (48 + g9))) (p9 + 1 + 1) (nI (48 + s9)))))] H := hP
              have hD : va_D A [(bb, .inl (cI, 19, .inl (upd (upd (upd Bv (1 + j) (nI k9)) (7 + j) (nI g9)) (13 + j) (nI s9)))), (tt, .inl (cI, 25, .inl (upd (upd (upd T p9 112) (p9 + 1) (nI (48 + g9))) (p9 + 1 + 1) (nI (48 + s9)))))] := hD
              refine lv_iinc (v := nI (j + 1)) (lv' := [(6, .int (nI (j + 1))), (5, .int (nI (p9 + 1 + 1 + 1))), (0, .int x0), (1, .int y0), (2, .int z0), (3, .ref bb), (4, .ref tt)]) hx hb dL_larderText_198 hl (k := 6) rfl ((rfl : nI j + Int32.ofInt 1 = nI j + nI 1).trans (nI_add j 1)) (by decide) rfl (fun ls hl => ?_)
              refine lv_goto (tgt := 16) hx hb dL_larderText_201 (by decide) ?_
              exact ih_16 (j + 1, p9 + 1 + 1 + 1, upd (upd (upd Bv (1 + j) (nI k9)) (7 + j) (nI g9)) (13 + j) (nI s9), upd (upd (upd T p9 112) (p9 + 1) (nI (48 + g9))) (p9 + 1 + 1) (nI (48 + s9))) _ _ _ ⟨hP, hD, hS, lv_sub hl [2, 3, 4, 5, 6, 1, 0] rfl, (by omega), (by omega), (lt_B0 hB0), (lt_n (by omega) hp9 hk9 hg9 hs9 (by simp [kch, c_7, c_8, c_9, c_10]))⟩ (by dsimp only; omega)
          · skip
            replace c_9 : k9 = 2 := (nI_eq (a := k9) (b := 2) (by omega) (by omega)).mp c_9
            refine lv_bipush (v := 99) hx hb dL_larderText_139 (by decide) ?_
            refine lv_goto (tgt := 161) hx hb dL_larderText_141 (by decide) ?_
            refine jv_ast (k := p9) (x := 99) hx hb hK hP hD hS 1 0 rfl rfl (by omega) (by decide) dL_larderText_161 (fun H locs hP hD hS => ?_)
            have hP : va_P D vwCl [(bb, .inl (cI, 19, .inl (upd (upd (upd Bv (1 + j) (nI k9)) (7 + j) (nI g9)) (13 + j) (nI s9)))), (tt, .inl (cI, 25, .inl (upd T p9 99)))] H := hP
            have hD : va_D A [(bb, .inl (cI, 19, .inl (upd (upd (upd Bv (1 + j) (nI k9)) (7 + j) (nI g9)) (13 + j) (nI s9)))), (tt, .inl (cI, 25, .inl (upd T p9 99)))] := hD
            refine lv_aload hx hb dL_larderText_162 (lv_at hl 5 rfl) ?_
            refine lv_iload hx hb dL_larderText_164 (lv_at hl 0 rfl) ?_
            refine lv_iinc (v := nI (p9 + 1 + 1)) (lv' := [(5, .int (nI (p9 + 1 + 1))), (0, .int x0), (1, .int y0), (2, .int z0), (3, .ref bb), (4, .ref tt), (6, .int (nI j))]) hx hb dL_larderText_166 hl (k := 0) rfl ((rfl : nI (p9 + 1) + Int32.ofInt 1 = nI (p9 + 1) + nI 1).trans (nI_add (p9 + 1) 1)) (by decide) rfl (fun ls hl => ?_)
            refine lv_bipush (v := 48) hx hb dL_larderText_169 (by decide) ?_
            refine lv_aload_n hx hb dL_larderText_171 rfl (lv_at hl 4 rfl) ?_
            refine lv_bipush (v := 7) hx hb dL_larderText_172 (by decide) ?_
            refine lv_iload hx hb dL_larderText_174 (lv_at hl 6 rfl) ?_
            refine lv_iadd hx hb dL_larderText_176 ?_
            refine jv_as (y := nI (7 + j)) (nI_add 7 j) ?_
            refine jv_ald (k := 7 + j) hx hb hK hP 0 0 rfl rfl (by omega) (by decide) dL_larderText_177 ?_
            refine jv_as (y := nI g9) lt_N.2.1 ?_
            refine lv_iadd hx hb dL_larderText_178 ?_
            refine jv_as (y := nI (48 + g9)) (nI_add 48 g9) ?_
            refine jv_ast (k := p9 + 1) (x := nI (48 + g9)) hx hb hK hP hD hS 1 0 rfl rfl (by omega) (by decide) dL_larderText_179 (fun H locs hP hD hS => ?_)
            have hP : va_P D vwCl [(bb, .inl (cI, 19, .inl (upd (upd (upd Bv (1 + j) (nI k9)) (7 + j) (nI g9)) (13 + j) (nI s9)))), (tt, .inl (cI, 25, .inl (upd (upd T p9 99) (p9 + 1) (nI (48 + g9)))))] H := hP
            have hD : va_D A [(bb, .inl (cI, 19, .inl (upd (upd (upd Bv (1 + j) (nI k9)) (7 + j) (nI g9)) (13 + j) (nI s9)))), (tt, .inl (cI, 25, .inl (upd (upd T p9 99) (p9 + 1) (nI (48 + g9)))))] := hD
            refine lv_aload hx hb dL_larderText_180 (lv_at hl 5 rfl) ?_
            refine lv_iload hx hb dL_larderText_182 (lv_at hl 0 rfl) ?_
            refine lv_iinc (v := nI (p9 + 1 + 1 + 1)) (lv' := [(5, .int (nI (p9 + 1 + 1 + 1))), (0, .int x0), (1, .int y0), (2, .int z0), (3, .ref bb), (4, .ref tt), (6, .int (nI j))]) hx hb dL_larderText_184 hl (k := 0) rfl ((rfl : nI (p9 + 1 + 1) + Int32.ofInt 1 = nI (p9 + 1 + 1) + nI 1).trans (nI_add (p9 + 1 + 1) 1)) (by decide) rfl (fun ls hl => ?_)
            refine lv_bipush (v := 48) hx hb dL_larderText_187 (by decide) ?_
            refine lv_aload_n hx hb dL_larderText_189 rfl (lv_at hl 4 rfl) ?_
            refine lv_bipush (v := 13) hx hb dL_larderText_190 (by decide) ?_
            refine lv_iload hx hb dL_larderText_192 (lv_at hl 6 rfl) ?_
            refine lv_iadd hx hb dL_larderText_194 ?_
            refine jv_as (y := nI (13 + j)) (nI_add 13 j) ?_
            refine jv_ald (k := 13 + j) hx hb hK hP 0 0 rfl rfl (by omega) (by decide) dL_larderText_195 ?_
            refine jv_as (y := nI s9) lt_N.2.2 ?_
            refine lv_iadd hx hb dL_larderText_196 ?_
            refine jv_as (y := nI (48 + s9)) (nI_add 48 s9) ?_
            refine jv_ast (k := p9 + 1 + 1) (x := nI (48 + s9)) hx hb hK hP hD hS 1 0 rfl rfl (by omega) (by decide) dL_larderText_197 (fun H locs hP hD hS => ?_)
            have hP : va_P D vwCl [(bb, .inl (cI, 19, .inl (upd (upd (upd Bv (1 + j) (nI k9)) (7 + j) (nI g9)) (13 + j) (nI s9)))), (tt, .inl (cI, 25, .inl (upd (upd (upd T p9 99) (p9 + 1) (nI (48 + g9))) (p9 + 1 + 1) (nI (48 + s9)))))] H := hP
            have hD : va_D A [(bb, .inl (cI, 19, .inl (upd (upd (upd Bv (1 + j) (nI k9)) (7 + j) (nI g9)) (13 + j) (nI s9)))), (tt, .inl (cI, 25, .inl (upd (upd (upd T p9 99) (p9 + 1) (nI (48 + g9))) (p9 + 1 + 1) (nI (48 + s9)))))] := hD
            refine lv_iinc (v := nI (j + 1)) (lv' := [(6, .int (nI (j + 1))), (5, .int (nI (p9 + 1 + 1 + 1))), (0, .int x0), (1, .int y0), (2, .int z0), (3, .ref bb), (4, .ref tt)]) hx hb dL_larderText_198 hl (k := 6) rfl ((rfl : nI j + Int32.ofInt 1 = nI j + nI 1).trans (nI_add j 1)) (by decide) rfl (fun ls hl => ?_)
            refine lv_goto (tgt := 16) hx hb dL_larderText_201 (by decide) ?_
            exact ih_16 (j + 1, p9 + 1 + 1 + 1, upd (upd (upd Bv (1 + j) (nI k9)) (7 + j) (nI g9)) (13 + j) (nI s9), upd (upd (upd T p9 99) (p9 + 1) (nI (48 + g9))) (p9 + 1 + 1) (nI (48 + s9))) _ _ _ ⟨hP, hD, hS, lv_sub hl [2, 3, 4, 5, 6, 1, 0] rfl, (by omega), (by omega), (lt_B0 hB0), (lt_n (by omega) hp9 hk9 hg9 hs9 (by simp [kch, c_7, c_8, c_9]))⟩ (by dsimp only; omega)
        · skip
          replace c_8 : k9 = 1 := (nI_eq (a := k9) (b := 1) (by omega) (by omega)).mp c_8
          refine lv_bipush (v := 119) hx hb dL_larderText_124 (by decide) ?_
          refine lv_goto (tgt := 161) hx hb dL_larderText_126 (by decide) ?_
          refine jv_ast (k := p9) (x := 119) hx hb hK hP hD hS 1 0 rfl rfl (by omega) (by decide) dL_larderText_161 (fun H locs hP hD hS => ?_)
          have hP : va_P D vwCl [(bb, .inl (cI, 19, .inl (upd (upd (upd Bv (1 + j) (nI k9)) (7 + j) (nI g9)) (13 + j) (nI s9)))), (tt, .inl (cI, 25, .inl (upd T p9 119)))] H := hP
          have hD : va_D A [(bb, .inl (cI, 19, .inl (upd (upd (upd Bv (1 + j) (nI k9)) (7 + j) (nI g9)) (13 + j) (nI s9)))), (tt, .inl (cI, 25, .inl (upd T p9 119)))] := hD
          refine lv_aload hx hb dL_larderText_162 (lv_at hl 5 rfl) ?_
          refine lv_iload hx hb dL_larderText_164 (lv_at hl 0 rfl) ?_
          refine lv_iinc (v := nI (p9 + 1 + 1)) (lv' := [(5, .int (nI (p9 + 1 + 1))), (0, .int x0), (1, .int y0), (2, .int z0), (3, .ref bb), (4, .ref tt), (6, .int (nI j))]) hx hb dL_larderText_166 hl (k := 0) rfl ((rfl : nI (p9 + 1) + Int32.ofInt 1 = nI (p9 + 1) + nI 1).trans (nI_add (p9 + 1) 1)) (by decide) rfl (fun ls hl => ?_)
          refine lv_bipush (v := 48) hx hb dL_larderText_169 (by decide) ?_
          refine lv_aload_n hx hb dL_larderText_171 rfl (lv_at hl 4 rfl) ?_
          refine lv_bipush (v := 7) hx hb dL_larderText_172 (by decide) ?_
          refine lv_iload hx hb dL_larderText_174 (lv_at hl 6 rfl) ?_
          refine lv_iadd hx hb dL_larderText_176 ?_
          refine jv_as (y := nI (7 + j)) (nI_add 7 j) ?_
          refine jv_ald (k := 7 + j) hx hb hK hP 0 0 rfl rfl (by omega) (by decide) dL_larderText_177 ?_
          refine jv_as (y := nI g9) lt_N.2.1 ?_
          refine lv_iadd hx hb dL_larderText_178 ?_
          refine jv_as (y := nI (48 + g9)) (nI_add 48 g9) ?_
          refine jv_ast (k := p9 + 1) (x := nI (48 + g9)) hx hb hK hP hD hS 1 0 rfl rfl (by omega) (by decide) dL_larderText_179 (fun H locs hP hD hS => ?_)
          have hP : va_P D vwCl [(bb, .inl (cI, 19, .inl (upd (upd (upd Bv (1 + j) (nI k9)) (7 + j) (nI g9)) (13 + j) (nI s9)))), (tt, .inl (cI, 25, .inl (upd (upd T p9 119) (p9 + 1) (nI (48 + g9)))))] H := hP
          have hD : va_D A [(bb, .inl (cI, 19, .inl (upd (upd (upd Bv (1 + j) (nI k9)) (7 + j) (nI g9)) (13 + j) (nI s9)))), (tt, .inl (cI, 25, .inl (upd (upd T p9 119) (p9 + 1) (nI (48 + g9)))))] := hD
          refine lv_aload hx hb dL_larderText_180 (lv_at hl 5 rfl) ?_
          refine lv_iload hx hb dL_larderText_182 (lv_at hl 0 rfl) ?_
          refine lv_iinc (v := nI (p9 + 1 + 1 + 1)) (lv' := [(5, .int (nI (p9 + 1 + 1 + 1))), (0, .int x0), (1, .int y0), (2, .int z0), (3, .ref bb), (4, .ref tt), (6, .int (nI j))]) hx hb dL_larderText_184 hl (k := 0) rfl ((rfl : nI (p9 + 1 + 1) + Int32.ofInt 1 = nI (p9 + 1 + 1) + nI 1).trans (nI_add (p9 + 1 + 1) 1)) (by decide) rfl (fun ls hl => ?_)
          refine lv_bipush (v := 48) hx hb dL_larderText_187 (by decide) ?_
          refine lv_aload_n hx hb dL_larderText_189 rfl (lv_at hl 4 rfl) ?_
          refine lv_bipush (v := 13) hx hb dL_larderText_190 (by decide) ?_
          refine lv_iload hx hb dL_larderText_192 (lv_at hl 6 rfl) ?_
          refine lv_iadd hx hb dL_larderText_194 ?_
          refine jv_as (y := nI (13 + j)) (nI_add 13 j) ?_
          refine jv_ald (k := 13 + j) hx hb hK hP 0 0 rfl rfl (by omega) (by decide) dL_larderText_195 ?_
          refine jv_as (y := nI s9) lt_N.2.2 ?_
          refine lv_iadd hx hb dL_larderText_196 ?_
          refine jv_as (y := nI (48 + s9)) (nI_add 48 s9) ?_
          refine jv_ast (k := p9 + 1 + 1) (x := nI (48 + s9)) hx hb hK hP hD hS 1 0 rfl rfl (by omega) (by decide) dL_larderText_197 (fun H locs hP hD hS => ?_)
          have hP : va_P D vwCl [(bb, .inl (cI, 19, .inl (upd (upd (upd Bv (1 + j) (nI k9)) (7 + j) (nI g9)) (13 + j) (nI s9)))), (tt, .inl (cI, 25, .inl (upd (upd (upd T p9 119) (p9 + 1) (nI (48 + g9))) (p9 + 1 + 1) (nI (48 + s9)))))] H := hP
          have hD : va_D A [(bb, .inl (cI, 19, .inl (upd (upd (upd Bv (1 + j) (nI k9)) (7 + j) (nI g9)) (13 + j) (nI s9)))), (tt, .inl (cI, 25, .inl (upd (upd (upd T p9 119) (p9 + 1) (nI (48 + g9))) (p9 + 1 + 1) (nI (48 + s9)))))] := hD
          refine lv_iinc (v := nI (j + 1)) (lv' := [(6, .int (nI (j + 1))), (5, .int (nI (p9 + 1 + 1 + 1))), (0, .int x0), (1, .int y0), (2, .int z0), (3, .ref bb), (4, .ref tt)]) hx hb dL_larderText_198 hl (k := 6) rfl ((rfl : nI j + Int32.ofInt 1 = nI j + nI 1).trans (nI_add j 1)) (by decide) rfl (fun ls hl => ?_)
          refine lv_goto (tgt := 16) hx hb dL_larderText_201 (by decide) ?_
          exact ih_16 (j + 1, p9 + 1 + 1 + 1, upd (upd (upd Bv (1 + j) (nI k9)) (7 + j) (nI g9)) (13 + j) (nI s9), upd (upd (upd T p9 119) (p9 + 1) (nI (48 + g9))) (p9 + 1 + 1) (nI (48 + s9))) _ _ _ ⟨hP, hD, hS, lv_sub hl [2, 3, 4, 5, 6, 1, 0] rfl, (by omega), (by omega), (lt_B0 hB0), (lt_n (by omega) hp9 hk9 hg9 hs9 (by simp [kch, c_7, c_8]))⟩ (by dsimp only; omega)
      · skip
        replace c_7 : k9 = 0 := (nI_eq (a := k9) (b := 0) (by omega) (by omega)).mp c_7
        refine lv_bipush (v := 106) hx hb dL_larderText_109 (by decide) ?_
        refine lv_goto (tgt := 161) hx hb dL_larderText_111 (by decide) ?_
        refine jv_ast (k := p9) (x := 106) hx hb hK hP hD hS 1 0 rfl rfl (by omega) (by decide) dL_larderText_161 (fun H locs hP hD hS => ?_)
        have hP : va_P D vwCl [(bb, .inl (cI, 19, .inl (upd (upd (upd Bv (1 + j) (nI k9)) (7 + j) (nI g9)) (13 + j) (nI s9)))), (tt, .inl (cI, 25, .inl (upd T p9 106)))] H := hP
        have hD : va_D A [(bb, .inl (cI, 19, .inl (upd (upd (upd Bv (1 + j) (nI k9)) (7 + j) (nI g9)) (13 + j) (nI s9)))), (tt, .inl (cI, 25, .inl (upd T p9 106)))] := hD
        refine lv_aload hx hb dL_larderText_162 (lv_at hl 5 rfl) ?_
        refine lv_iload hx hb dL_larderText_164 (lv_at hl 0 rfl) ?_
        refine lv_iinc (v := nI (p9 + 1 + 1)) (lv' := [(5, .int (nI (p9 + 1 + 1))), (0, .int x0), (1, .int y0), (2, .int z0), (3, .ref bb), (4, .ref tt), (6, .int (nI j))]) hx hb dL_larderText_166 hl (k := 0) rfl ((rfl : nI (p9 + 1) + Int32.ofInt 1 = nI (p9 + 1) + nI 1).trans (nI_add (p9 + 1) 1)) (by decide) rfl (fun ls hl => ?_)
        refine lv_bipush (v := 48) hx hb dL_larderText_169 (by decide) ?_
        refine lv_aload_n hx hb dL_larderText_171 rfl (lv_at hl 4 rfl) ?_
        refine lv_bipush (v := 7) hx hb dL_larderText_172 (by decide) ?_
        refine lv_iload hx hb dL_larderText_174 (lv_at hl 6 rfl) ?_
        refine lv_iadd hx hb dL_larderText_176 ?_
        refine jv_as (y := nI (7 + j)) (nI_add 7 j) ?_
        refine jv_ald (k := 7 + j) hx hb hK hP 0 0 rfl rfl (by omega) (by decide) dL_larderText_177 ?_
        refine jv_as (y := nI g9) lt_N.2.1 ?_
        refine lv_iadd hx hb dL_larderText_178 ?_
        refine jv_as (y := nI (48 + g9)) (nI_add 48 g9) ?_
        refine jv_ast (k := p9 + 1) (x := nI (48 + g9)) hx hb hK hP hD hS 1 0 rfl rfl (by omega) (by decide) dL_larderText_179 (fun H locs hP hD hS => ?_)
        have hP : va_P D vwCl [(bb, .inl (cI, 19, .inl (upd (upd (upd Bv (1 + j) (nI k9)) (7 + j) (nI g9)) (13 + j) (nI s9)))), (tt, .inl (cI, 25, .inl (upd (upd T p9 106) (p9 + 1) (nI (48 + g9)))))] H := hP
        have hD : va_D A [(bb, .inl (cI, 19, .inl (upd (upd (upd Bv (1 + j) (nI k9)) (7 + j) (nI g9)) (13 + j) (nI s9)))), (tt, .inl (cI, 25, .inl (upd (upd T p9 106) (p9 + 1) (nI (48 + g9)))))] := hD
        refine lv_aload hx hb dL_larderText_180 (lv_at hl 5 rfl) ?_
        refine lv_iload hx hb dL_larderText_182 (lv_at hl 0 rfl) ?_
        refine lv_iinc (v := nI (p9 + 1 + 1 + 1)) (lv' := [(5, .int (nI (p9 + 1 + 1 + 1))), (0, .int x0), (1, .int y0), (2, .int z0), (3, .ref bb), (4, .ref tt), (6, .int (nI j))]) hx hb dL_larderText_184 hl (k := 0) rfl ((rfl : nI (p9 + 1 + 1) + Int32.ofInt 1 = nI (p9 + 1 + 1) + nI 1).trans (nI_add (p9 + 1 + 1) 1)) (by decide) rfl (fun ls hl => ?_)
        refine lv_bipush (v := 48) hx hb dL_larderText_187 (by decide) ?_
        refine lv_aload_n hx hb dL_larderText_189 rfl (lv_at hl 4 rfl) ?_
        refine lv_bipush (v := 13) hx hb dL_larderText_190 (by decide) ?_
        refine lv_iload hx hb dL_larderText_192 (lv_at hl 6 rfl) ?_
        refine lv_iadd hx hb dL_larderText_194 ?_
        refine jv_as (y := nI (13 + j)) (nI_add 13 j) ?_
        refine jv_ald (k := 13 + j) hx hb hK hP 0 0 rfl rfl (by omega) (by decide) dL_larderText_195 ?_
        refine jv_as (y := nI s9) lt_N.2.2 ?_
        refine lv_iadd hx hb dL_larderText_196 ?_
        refine jv_as (y := nI (48 + s9)) (nI_add 48 s9) ?_
        refine jv_ast (k := p9 + 1 + 1) (x := nI (48 + s9)) hx hb hK hP hD hS 1 0 rfl rfl (by omega) (by decide) dL_larderText_197 (fun H locs hP hD hS => ?_)
        have hP : va_P D vwCl [(bb, .inl (cI, 19, .inl (upd (upd (upd Bv (1 + j) (nI k9)) (7 + j) (nI g9)) (13 + j) (nI s9)))), (tt, .inl (cI, 25, .inl (upd (upd (upd T p9 106) (p9 + 1) (nI (48 + g9))) (p9 + 1 + 1) (nI (48 + s9)))))] H := hP
        have hD : va_D A [(bb, .inl (cI, 19, .inl (upd (upd (upd Bv (1 + j) (nI k9)) (7 + j) (nI g9)) (13 + j) (nI s9)))), (tt, .inl (cI, 25, .inl (upd (upd (upd T p9 106) (p9 + 1) (nI (48 + g9))) (p9 + 1 + 1) (nI (48 + s9)))))] := hD
        refine lv_iinc (v := nI (j + 1)) (lv' := [(6, .int (nI (j + 1))), (5, .int (nI (p9 + 1 + 1 + 1))), (0, .int x0), (1, .int y0), (2, .int z0), (3, .ref bb), (4, .ref tt)]) hx hb dL_larderText_198 hl (k := 6) rfl ((rfl : nI j + Int32.ofInt 1 = nI j + nI 1).trans (nI_add j 1)) (by decide) rfl (fun ls hl => ?_)
        refine lv_goto (tgt := 16) hx hb dL_larderText_201 (by decide) ?_
        exact ih_16 (j + 1, p9 + 1 + 1 + 1, upd (upd (upd Bv (1 + j) (nI k9)) (7 + j) (nI g9)) (13 + j) (nI s9), upd (upd (upd T p9 106) (p9 + 1) (nI (48 + g9))) (p9 + 1 + 1) (nI (48 + s9))) _ _ _ ⟨hP, hD, hS, lv_sub hl [2, 3, 4, 5, 6, 1, 0] rfl, (by omega), (by omega), (lt_B0 hB0), (lt_n (by omega) hp9 hk9 hg9 hs9 (by simp [kch, c_7]))⟩ (by dsimp only; omega)
    · skip
      replace c_6 : ¬ j ≤ 0 := fun h => c_6 ((nI_leI (a := j) (b := 0) (by omega) (by omega)).mpr h)
      refine lv_aload hx hb dL_larderText_83 (lv_at hl 4 rfl) ?_
      refine lv_iload hx hb dL_larderText_85 (lv_at hl 5 rfl) ?_
      refine lv_iinc (v := nI (p9 + 1)) (lv' := [(5, .int (nI (p9 + 1))), (0, .int x0), (1, .int y0), (2, .int z0), (3, .ref bb), (4, .ref tt), (6, .int (nI j))]) hx hb dL_larderText_87 hl (k := 5) rfl ((rfl : nI p9 + Int32.ofInt 1 = nI p9 + nI 1).trans (nI_add p9 1)) (by decide) rfl (fun ls hl => ?_)
      refine lv_bipush (v := 44) hx hb dL_larderText_90 (by decide) ?_
      refine jv_ast (k := p9) (x := 44) hx hb hK hP hD hS 1 0 rfl rfl (by omega) (by decide) dL_larderText_92 (fun H locs hP hD hS => ?_)
      have hP : va_P D vwCl [(bb, .inl (cI, 19, .inl (upd (upd (upd Bv (1 + j) (nI k9)) (7 + j) (nI g9)) (13 + j) (nI s9)))), (tt, .inl (cI, 25, .inl (upd T p9 44)))] H := hP
      have hD : va_D A [(bb, .inl (cI, 19, .inl (upd (upd (upd Bv (1 + j) (nI k9)) (7 + j) (nI g9)) (13 + j) (nI s9)))), (tt, .inl (cI, 25, .inl (upd T p9 44)))] := hD
      refine lv_aload hx hb dL_larderText_93 (lv_at hl 5 rfl) ?_
      refine lv_iload hx hb dL_larderText_95 (lv_at hl 0 rfl) ?_
      refine lv_iinc (v := nI (p9 + 1 + 1)) (lv' := [(5, .int (nI (p9 + 1 + 1))), (0, .int x0), (1, .int y0), (2, .int z0), (3, .ref bb), (4, .ref tt), (6, .int (nI j))]) hx hb dL_larderText_97 hl (k := 0) rfl ((rfl : nI (p9 + 1) + Int32.ofInt 1 = nI (p9 + 1) + nI 1).trans (nI_add (p9 + 1) 1)) (by decide) rfl (fun ls hl => ?_)
      refine lv_aload_n hx hb dL_larderText_100 rfl (lv_at hl 4 rfl) ?_
      refine lv_iconst (v := 1) hx hb dL_larderText_101 (by decide) ?_
      refine lv_iload hx hb dL_larderText_102 (lv_at hl 6 rfl) ?_
      refine lv_iadd hx hb dL_larderText_104 ?_
      refine jv_as (y := nI (1 + j)) (nI_add 1 j) ?_
      refine jv_ald (k := 1 + j) hx hb hK hP 0 0 rfl rfl (by omega) (by decide) dL_larderText_105 ?_
      refine jv_as (y := nI k9) lt_N.1 ?_
      refine lv_if_ne (tgt := 114) hx hb dL_larderText_106 (by decide) (fun c_11 => ?_) (fun c_11 => ?_)
      · skip
        replace c_11 : ¬ k9 = 0 := fun h => c_11 ((nI_eq (a := k9) (b := 0) (by omega) (by omega)).mpr h)
        refine lv_aload_n hx hb dL_larderText_114 rfl (lv_at hl 4 rfl) ?_
        refine lv_iconst (v := 1) hx hb dL_larderText_115 (by decide) ?_
        refine lv_iload hx hb dL_larderText_116 (lv_at hl 6 rfl) ?_
        refine lv_iadd hx hb dL_larderText_118 ?_
        refine jv_as (y := nI (1 + j)) (nI_add 1 j) ?_
        refine jv_ald (k := 1 + j) hx hb hK hP 0 0 rfl rfl (by omega) (by decide) dL_larderText_119 ?_
        refine jv_as (y := nI k9) lt_N.1 ?_
        refine lv_iconst (v := 1) hx hb dL_larderText_120 (by decide) ?_
        refine lv_icmp_ne (tgt := 129) hx hb dL_larderText_121 (by decide) (fun c_12 => ?_) (fun c_12 => ?_)
        · skip
          replace c_12 : ¬ k9 = 1 := fun h => c_12 ((nI_eq (a := k9) (b := 1) (by omega) (by omega)).mpr h)
          refine lv_aload_n hx hb dL_larderText_129 rfl (lv_at hl 4 rfl) ?_
          refine lv_iconst (v := 1) hx hb dL_larderText_130 (by decide) ?_
          refine lv_iload hx hb dL_larderText_131 (lv_at hl 6 rfl) ?_
          refine lv_iadd hx hb dL_larderText_133 ?_
          refine jv_as (y := nI (1 + j)) (nI_add 1 j) ?_
          refine jv_ald (k := 1 + j) hx hb hK hP 0 0 rfl rfl (by omega) (by decide) dL_larderText_134 ?_
          refine jv_as (y := nI k9) lt_N.1 ?_
          refine lv_iconst (v := 2) hx hb dL_larderText_135 (by decide) ?_
          refine lv_icmp_ne (tgt := 144) hx hb dL_larderText_136 (by decide) (fun c_13 => ?_) (fun c_13 => ?_)
          · skip
            replace c_13 : ¬ k9 = 2 := fun h => c_13 ((nI_eq (a := k9) (b := 2) (by omega) (by omega)).mpr h)
            refine lv_aload_n hx hb dL_larderText_144 rfl (lv_at hl 4 rfl) ?_
            refine lv_iconst (v := 1) hx hb dL_larderText_145 (by decide) ?_
            refine lv_iload hx hb dL_larderText_146 (lv_at hl 6 rfl) ?_
            refine lv_iadd hx hb dL_larderText_148 ?_
            refine jv_as (y := nI (1 + j)) (nI_add 1 j) ?_
            refine jv_ald (k := 1 + j) hx hb hK hP 0 0 rfl rfl (by omega) (by decide) dL_larderText_149 ?_
            refine jv_as (y := nI k9) lt_N.1 ?_
            refine lv_iconst (v := 3) hx hb dL_larderText_150 (by decide) ?_
            refine lv_icmp_ne (tgt := 159) hx hb dL_larderText_151 (by decide) (fun c_14 => ?_) (fun c_14 => ?_)
            · skip
              replace c_14 : ¬ k9 = 3 := fun h => c_14 ((nI_eq (a := k9) (b := 3) (by omega) (by omega)).mpr h)
              refine lv_bipush (v := 103) hx hb dL_larderText_159 (by decide) ?_
              refine jv_ast (k := p9 + 1) (x := 103) hx hb hK hP hD hS 1 0 rfl rfl (by omega) (by decide) dL_larderText_161 (fun H locs hP hD hS => ?_)
              have hP : va_P D vwCl [(bb, .inl (cI, 19, .inl (upd (upd (upd Bv (1 + j) (nI k9)) (7 + j) (nI g9)) (13 + j) (nI s9)))), (tt, .inl (cI, 25, .inl (upd (upd T p9 44) (p9 + 1) 103)))] H := hP
              have hD : va_D A [(bb, .inl (cI, 19, .inl (upd (upd (upd Bv (1 + j) (nI k9)) (7 + j) (nI g9)) (13 + j) (nI s9)))), (tt, .inl (cI, 25, .inl (upd (upd T p9 44) (p9 + 1) 103)))] := hD
              refine lv_aload hx hb dL_larderText_162 (lv_at hl 5 rfl) ?_
              refine lv_iload hx hb dL_larderText_164 (lv_at hl 0 rfl) ?_
              refine lv_iinc (v := nI (p9 + 1 + 1 + 1)) (lv' := [(5, .int (nI (p9 + 1 + 1 + 1))), (0, .int x0), (1, .int y0), (2, .int z0), (3, .ref bb), (4, .ref tt), (6, .int (nI j))]) hx hb dL_larderText_166 hl (k := 0) rfl ((rfl : nI (p9 + 1 + 1) + Int32.ofInt 1 = nI (p9 + 1 + 1) + nI 1).trans (nI_add (p9 + 1 + 1) 1)) (by decide) rfl (fun ls hl => ?_)
              refine lv_bipush (v := 48) hx hb dL_larderText_169 (by decide) ?_
              refine lv_aload_n hx hb dL_larderText_171 rfl (lv_at hl 4 rfl) ?_
              refine lv_bipush (v := 7) hx hb dL_larderText_172 (by decide) ?_
              refine lv_iload hx hb dL_larderText_174 (lv_at hl 6 rfl) ?_
              refine lv_iadd hx hb dL_larderText_176 ?_
              refine jv_as (y := nI (7 + j)) (nI_add 7 j) ?_
              refine jv_ald (k := 7 + j) hx hb hK hP 0 0 rfl rfl (by omega) (by decide) dL_larderText_177 ?_
              refine jv_as (y := nI g9) lt_N.2.1 ?_
              refine lv_iadd hx hb dL_larderText_178 ?_
              refine jv_as (y := nI (48 + g9)) (nI_add 48 g9) ?_
              refine jv_ast (k := p9 + 1 + 1) (x := nI (48 + g9)) hx hb hK hP hD hS 1 0 rfl rfl (by omega) (by decide) dL_larderText_179 (fun H locs hP hD hS => ?_)
              have hP : va_P D vwCl [(bb, .inl (cI, 19, .inl (upd (upd (upd Bv (1 + j) (nI k9)) (7 + j) (nI g9)) (13 + j) (nI s9)))), (tt, .inl (cI, 25, .inl (upd (upd (upd T p9 44) (p9 + 1) 103) (p9 + 1 + 1) (nI (48 + g9)))))] H := hP
              have hD : va_D A [(bb, .inl (cI, 19, .inl (upd (upd (upd Bv (1 + j) (nI k9)) (7 + j) (nI g9)) (13 + j) (nI s9)))), (tt, .inl (cI, 25, .inl (upd (upd (upd T p9 44) (p9 + 1) 103) (p9 + 1 + 1) (nI (48 + g9)))))] := hD
              refine lv_aload hx hb dL_larderText_180 (lv_at hl 5 rfl) ?_
              refine lv_iload hx hb dL_larderText_182 (lv_at hl 0 rfl) ?_
              refine lv_iinc (v := nI (p9 + 1 + 1 + 1 + 1)) (lv' := [(5, .int (nI (p9 + 1 + 1 + 1 + 1))), (0, .int x0), (1, .int y0), (2, .int z0), (3, .ref bb), (4, .ref tt), (6, .int (nI j))]) hx hb dL_larderText_184 hl (k := 0) rfl ((rfl : nI (p9 + 1 + 1 + 1) + Int32.ofInt 1 = nI (p9 + 1 + 1 + 1) + nI 1).trans (nI_add (p9 + 1 + 1 + 1) 1)) (by decide) rfl (fun ls hl => ?_)
              refine lv_bipush (v := 48) hx hb dL_larderText_187 (by decide) ?_
              refine lv_aload_n hx hb dL_larderText_189 rfl (lv_at hl 4 rfl) ?_
              refine lv_bipush (v := 13) hx hb dL_larderText_190 (by decide) ?_
              refine lv_iload hx hb dL_larderText_192 (lv_at hl 6 rfl) ?_
              refine lv_iadd hx hb dL_larderText_194 ?_
              refine jv_as (y := nI (13 + j)) (nI_add 13 j) ?_
              refine jv_ald (k := 13 + j) hx hb hK hP 0 0 rfl rfl (by omega) (by decide) dL_larderText_195 ?_
              refine jv_as (y := nI s9) lt_N.2.2 ?_
              refine lv_iadd hx hb dL_larderText_196 ?_
              refine jv_as (y := nI (48 + s9)) (nI_add 48 s9) ?_
              refine jv_ast (k := p9 + 1 + 1 + 1) (x := nI (48 + s9)) hx hb hK hP hD hS 1 0 rfl rfl (by omega) (by decide) dL_larderText_197 (fun H locs hP hD hS => ?_)
              have hP : va_P D vwCl [(bb, .inl (cI, 19, .inl (upd (upd (upd Bv (1 + j) (nI k9)) (7 + j) (nI g9)) (13 + j) (nI s9)))), (tt, .inl (cI, 25, .inl (upd (upd (upd (upd T p9 44) (p9 + 1) 103) (p9 + 1 + 1) (nI (48 + g9))) (p9 + 1 + 1 + 1) (nI (48 + s9)))))] H := hP
              have hD : va_D A [(bb, .inl (cI, 19, .inl (upd (upd (upd Bv (1 + j) (nI k9)) (7 + j) (nI g9)) (13 + j) (nI s9)))), (tt, .inl (cI, 25, .inl (upd (upd (upd (upd T p9 44) (p9 + 1) 103) (p9 + 1 + 1) (nI (48 + g9))) (p9 + 1 + 1 + 1) (nI (48 + s9)))))] := hD
              refine lv_iinc (v := nI (j + 1)) (lv' := [(6, .int (nI (j + 1))), (5, .int (nI (p9 + 1 + 1 + 1 + 1))), (0, .int x0), (1, .int y0), (2, .int z0), (3, .ref bb), (4, .ref tt)]) hx hb dL_larderText_198 hl (k := 6) rfl ((rfl : nI j + Int32.ofInt 1 = nI j + nI 1).trans (nI_add j 1)) (by decide) rfl (fun ls hl => ?_)
              refine lv_goto (tgt := 16) hx hb dL_larderText_201 (by decide) ?_
              exact ih_16 (j + 1, p9 + 1 + 1 + 1 + 1, upd (upd (upd Bv (1 + j) (nI k9)) (7 + j) (nI g9)) (13 + j) (nI s9), upd (upd (upd (upd T p9 44) (p9 + 1) 103) (p9 + 1 + 1) (nI (48 + g9))) (p9 + 1 + 1 + 1) (nI (48 + s9))) _ _ _ ⟨hP, hD, hS, lv_sub hl [2, 3, 4, 5, 6, 1, 0] rfl, (by omega), (by omega), (lt_B0 hB0), (lt_y (by omega) hp9 (by omega) hall hk9 hg9 hs9 (by simp [kch, c_11, c_12, c_13, c_14]))⟩ (by dsimp only; omega)
            · skip
              replace c_14 : k9 = 3 := (nI_eq (a := k9) (b := 3) (by omega) (by omega)).mp c_14
              refine lv_bipush (v := 112) hx hb dL_larderText_154 (by decide) ?_
              refine lv_goto (tgt := 161) hx hb dL_larderText_156 (by decide) ?_
              refine jv_ast (k := p9 + 1) (x := 112) hx hb hK hP hD hS 1 0 rfl rfl (by omega) (by decide) dL_larderText_161 (fun H locs hP hD hS => ?_)
              have hP : va_P D vwCl [(bb, .inl (cI, 19, .inl (upd (upd (upd Bv (1 + j) (nI k9)) (7 + j) (nI g9)) (13 + j) (nI s9)))), (tt, .inl (cI, 25, .inl (upd (upd T p9 44) (p9 + 1) 112)))] H := hP
              have hD : va_D A [(bb, .inl (cI, 19, .inl (upd (upd (upd Bv (1 + j) (nI k9)) (7 + j) (nI g9)) (13 + j) (nI s9)))), (tt, .inl (cI, 25, .inl (upd (upd T p9 44) (p9 + 1) 112)))] := hD
              refine lv_aload hx hb dL_larderText_162 (lv_at hl 5 rfl) ?_
              refine lv_iload hx hb dL_larderText_164 (lv_at hl 0 rfl) ?_
              refine lv_iinc (v := nI (p9 + 1 + 1 + 1)) (lv' := [(5, .int (nI (p9 + 1 + 1 + 1))), (0, .int x0), (1, .int y0), (2, .int z0), (3, .ref bb), (4, .ref tt), (6, .int (nI j))]) hx hb dL_larderText_166 hl (k := 0) rfl ((rfl : nI (p9 + 1 + 1) + Int32.ofInt 1 = nI (p9 + 1 + 1) + nI 1).trans (nI_add (p9 + 1 + 1) 1)) (by decide) rfl (fun ls hl => ?_)
              refine lv_bipush (v := 48) hx hb dL_larderText_169 (by decide) ?_
              refine lv_aload_n hx hb dL_larderText_171 rfl (lv_at hl 4 rfl) ?_
              refine lv_bipush (v := 7) hx hb dL_larderText_172 (by decide) ?_
              refine lv_iload hx hb dL_larderText_174 (lv_at hl 6 rfl) ?_
              refine lv_iadd hx hb dL_larderText_176 ?_
              refine jv_as (y := nI (7 + j)) (nI_add 7 j) ?_
              refine jv_ald (k := 7 + j) hx hb hK hP 0 0 rfl rfl (by omega) (by decide) dL_larderText_177 ?_
              refine jv_as (y := nI g9) lt_N.2.1 ?_
              refine lv_iadd hx hb dL_larderText_178 ?_
              refine jv_as (y := nI (48 + g9)) (nI_add 48 g9) ?_
              refine jv_ast (k := p9 + 1 + 1) (x := nI (48 + g9)) hx hb hK hP hD hS 1 0 rfl rfl (by omega) (by decide) dL_larderText_179 (fun H locs hP hD hS => ?_)
              have hP : va_P D vwCl [(bb, .inl (cI, 19, .inl (upd (upd (upd Bv (1 + j) (nI k9)) (7 + j) (nI g9)) (13 + j) (nI s9)))), (tt, .inl (cI, 25, .inl (upd (upd (upd T p9 44) (p9 + 1) 112) (p9 + 1 + 1) (nI (48 + g9)))))] H := hP
              have hD : va_D A [(bb, .inl (cI, 19, .inl (upd (upd (upd Bv (1 + j) (nI k9)) (7 + j) (nI g9)) (13 + j) (nI s9)))), (tt, .inl (cI, 25, .inl (upd (upd (upd T p9 44) (p9 + 1) 112) (p9 + 1 + 1) (nI (48 + g9)))))] := hD
              refine lv_aload hx hb dL_larderText_180 (lv_at hl 5 rfl) ?_
              refine lv_iload hx hb dL_larderText_182 (lv_at hl 0 rfl) ?_
              refine lv_iinc (v := nI (p9 + 1 + 1 + 1 + 1)) (lv' := [(5, .int (nI (p9 + 1 + 1 + 1 + 1))), (0, .int x0), (1, .int y0), (2, .int z0), (3, .ref bb), (4, .ref tt), (6, .int (nI j))]) hx hb dL_larderText_184 hl (k := 0) rfl ((rfl : nI (p9 + 1 + 1 + 1) + Int32.ofInt 1 = nI (p9 + 1 + 1 + 1) + nI 1).trans (nI_add (p9 + 1 + 1 + 1) 1)) (by decide) rfl (fun ls hl => ?_)
              refine lv_bipush (v := 48) hx hb dL_larderText_187 (by decide) ?_
              refine lv_aload_n hx hb dL_larderText_189 rfl (lv_at hl 4 rfl) ?_
              refine lv_bipush (v := 13) hx hb dL_larderText_190 (by decide) ?_
              refine lv_iload hx hb dL_larderText_192 (lv_at hl 6 rfl) ?_
              refine lv_iadd hx hb dL_larderText_194 ?_
              refine jv_as (y := nI (13 + j)) (nI_add 13 j) ?_
              refine jv_ald (k := 13 + j) hx hb hK hP 0 0 rfl rfl (by omega) (by decide) dL_larderText_195 ?_
              refine jv_as (y := nI s9) lt_N.2.2 ?_
              refine lv_iadd hx hb dL_larderText_196 ?_
              refine jv_as (y := nI (48 + s9)) (nI_add 48 s9) ?_
              refine jv_ast (k := p9 + 1 + 1 + 1) (x := nI (48 + s9)) hx hb hK hP hD hS 1 0 rfl rfl (by omega) (by decide) dL_larderText_197 (fun H locs hP hD hS => ?_)
              have hP : va_P D vwCl [(bb, .inl (cI, 19, .inl (upd (upd (upd Bv (1 + j) (nI k9)) (7 + j) (nI g9)) (13 + j) (nI s9)))), (tt, .inl (cI, 25, .inl (upd (upd (upd (upd T p9 44) (p9 + 1) 112) (p9 + 1 + 1) (nI (48 + g9))) (p9 + 1 + 1 + 1) (nI (48 + s9)))))] H := hP
              have hD : va_D A [(bb, .inl (cI, 19, .inl (upd (upd (upd Bv (1 + j) (nI k9)) (7 + j) (nI g9)) (13 + j) (nI s9)))), (tt, .inl (cI, 25, .inl (upd (upd (upd (upd T p9 44) (p9 + 1) 112) (p9 + 1 + 1) (nI (48 + g9))) (p9 + 1 + 1 + 1) (nI (48 + s9)))))] := hD
              refine lv_iinc (v := nI (j + 1)) (lv' := [(6, .int (nI (j + 1))), (5, .int (nI (p9 + 1 + 1 + 1 + 1))), (0, .int x0), (1, .int y0), (2, .int z0), (3, .ref bb), (4, .ref tt)]) hx hb dL_larderText_198 hl (k := 6) rfl ((rfl : nI j + Int32.ofInt 1 = nI j + nI 1).trans (nI_add j 1)) (by decide) rfl (fun ls hl => ?_)
              refine lv_goto (tgt := 16) hx hb dL_larderText_201 (by decide) ?_
              exact ih_16 (j + 1, p9 + 1 + 1 + 1 + 1, upd (upd (upd Bv (1 + j) (nI k9)) (7 + j) (nI g9)) (13 + j) (nI s9), upd (upd (upd (upd T p9 44) (p9 + 1) 112) (p9 + 1 + 1) (nI (48 + g9))) (p9 + 1 + 1 + 1) (nI (48 + s9))) _ _ _ ⟨hP, hD, hS, lv_sub hl [2, 3, 4, 5, 6, 1, 0] rfl, (by omega), (by omega), (lt_B0 hB0), (lt_y (by omega) hp9 (by omega) hall hk9 hg9 hs9 (by simp [kch, c_11, c_12, c_13, c_14]))⟩ (by dsimp only; omega)
          · skip
            replace c_13 : k9 = 2 := (nI_eq (a := k9) (b := 2) (by omega) (by omega)).mp c_13
            refine lv_bipush (v := 99) hx hb dL_larderText_139 (by decide) ?_
            refine lv_goto (tgt := 161) hx hb dL_larderText_141 (by decide) ?_
            refine jv_ast (k := p9 + 1) (x := 99) hx hb hK hP hD hS 1 0 rfl rfl (by omega) (by decide) dL_larderText_161 (fun H locs hP hD hS => ?_)
            have hP : va_P D vwCl [(bb, .inl (cI, 19, .inl (upd (upd (upd Bv (1 + j) (nI k9)) (7 + j) (nI g9)) (13 + j) (nI s9)))), (tt, .inl (cI, 25, .inl (upd (upd T p9 44) (p9 + 1) 99)))] H := hP
            have hD : va_D A [(bb, .inl (cI, 19, .inl (upd (upd (upd Bv (1 + j) (nI k9)) (7 + j) (nI g9)) (13 + j) (nI s9)))), (tt, .inl (cI, 25, .inl (upd (upd T p9 44) (p9 + 1) 99)))] := hD
            refine lv_aload hx hb dL_larderText_162 (lv_at hl 5 rfl) ?_
            refine lv_iload hx hb dL_larderText_164 (lv_at hl 0 rfl) ?_
            refine lv_iinc (v := nI (p9 + 1 + 1 + 1)) (lv' := [(5, .int (nI (p9 + 1 + 1 + 1))), (0, .int x0), (1, .int y0), (2, .int z0), (3, .ref bb), (4, .ref tt), (6, .int (nI j))]) hx hb dL_larderText_166 hl (k := 0) rfl ((rfl : nI (p9 + 1 + 1) + Int32.ofInt 1 = nI (p9 + 1 + 1) + nI 1).trans (nI_add (p9 + 1 + 1) 1)) (by decide) rfl (fun ls hl => ?_)
            refine lv_bipush (v := 48) hx hb dL_larderText_169 (by decide) ?_
            refine lv_aload_n hx hb dL_larderText_171 rfl (lv_at hl 4 rfl) ?_
            refine lv_bipush (v := 7) hx hb dL_larderText_172 (by decide) ?_
            refine lv_iload hx hb dL_larderText_174 (lv_at hl 6 rfl) ?_
            refine lv_iadd hx hb dL_larderText_176 ?_
            refine jv_as (y := nI (7 + j)) (nI_add 7 j) ?_
            refine jv_ald (k := 7 + j) hx hb hK hP 0 0 rfl rfl (by omega) (by decide) dL_larderText_177 ?_
            refine jv_as (y := nI g9) lt_N.2.1 ?_
            refine lv_iadd hx hb dL_larderText_178 ?_
            refine jv_as (y := nI (48 + g9)) (nI_add 48 g9) ?_
            refine jv_ast (k := p9 + 1 + 1) (x := nI (48 + g9)) hx hb hK hP hD hS 1 0 rfl rfl (by omega) (by decide) dL_larderText_179 (fun H locs hP hD hS => ?_)
            have hP : va_P D vwCl [(bb, .inl (cI, 19, .inl (upd (upd (upd Bv (1 + j) (nI k9)) (7 + j) (nI g9)) (13 + j) (nI s9)))), (tt, .inl (cI, 25, .inl (upd (upd (upd T p9 44) (p9 + 1) 99) (p9 + 1 + 1) (nI (48 + g9)))))] H := hP
            have hD : va_D A [(bb, .inl (cI, 19, .inl (upd (upd (upd Bv (1 + j) (nI k9)) (7 + j) (nI g9)) (13 + j) (nI s9)))), (tt, .inl (cI, 25, .inl (upd (upd (upd T p9 44) (p9 + 1) 99) (p9 + 1 + 1) (nI (48 + g9)))))] := hD
            refine lv_aload hx hb dL_larderText_180 (lv_at hl 5 rfl) ?_
            refine lv_iload hx hb dL_larderText_182 (lv_at hl 0 rfl) ?_
            refine lv_iinc (v := nI (p9 + 1 + 1 + 1 + 1)) (lv' := [(5, .int (nI (p9 + 1 + 1 + 1 + 1))), (0, .int x0), (1, .int y0), (2, .int z0), (3, .ref bb), (4, .ref tt), (6, .int (nI j))]) hx hb dL_larderText_184 hl (k := 0) rfl ((rfl : nI (p9 + 1 + 1 + 1) + Int32.ofInt 1 = nI (p9 + 1 + 1 + 1) + nI 1).trans (nI_add (p9 + 1 + 1 + 1) 1)) (by decide) rfl (fun ls hl => ?_)
            refine lv_bipush (v := 48) hx hb dL_larderText_187 (by decide) ?_
            refine lv_aload_n hx hb dL_larderText_189 rfl (lv_at hl 4 rfl) ?_
            refine lv_bipush (v := 13) hx hb dL_larderText_190 (by decide) ?_
            refine lv_iload hx hb dL_larderText_192 (lv_at hl 6 rfl) ?_
            refine lv_iadd hx hb dL_larderText_194 ?_
            refine jv_as (y := nI (13 + j)) (nI_add 13 j) ?_
            refine jv_ald (k := 13 + j) hx hb hK hP 0 0 rfl rfl (by omega) (by decide) dL_larderText_195 ?_
            refine jv_as (y := nI s9) lt_N.2.2 ?_
            refine lv_iadd hx hb dL_larderText_196 ?_
            refine jv_as (y := nI (48 + s9)) (nI_add 48 s9) ?_
            refine jv_ast (k := p9 + 1 + 1 + 1) (x := nI (48 + s9)) hx hb hK hP hD hS 1 0 rfl rfl (by omega) (by decide) dL_larderText_197 (fun H locs hP hD hS => ?_)
            have hP : va_P D vwCl [(bb, .inl (cI, 19, .inl (upd (upd (upd Bv (1 + j) (nI k9)) (7 + j) (nI g9)) (13 + j) (nI s9)))), (tt, .inl (cI, 25, .inl (upd (upd (upd (upd T p9 44) (p9 + 1) 99) (p9 + 1 + 1) (nI (48 + g9))) (p9 + 1 + 1 + 1) (nI (48 + s9)))))] H := hP
            have hD : va_D A [(bb, .inl (cI, 19, .inl (upd (upd (upd Bv (1 + j) (nI k9)) (7 + j) (nI g9)) (13 + j) (nI s9)))), (tt, .inl (cI, 25, .inl (upd (upd (upd (upd T p9 44) (p9 + 1) 99) (p9 + 1 + 1) (nI (48 + g9))) (p9 + 1 + 1 + 1) (nI (48 + s9)))))] := hD
            refine lv_iinc (v := nI (j + 1)) (lv' := [(6, .int (nI (j + 1))), (5, .int (nI (p9 + 1 + 1 + 1 + 1))), (0, .int x0), (1, .int y0), (2, .int z0), (3, .ref bb), (4, .ref tt)]) hx hb dL_larderText_198 hl (k := 6) rfl ((rfl : nI j + Int32.ofInt 1 = nI j + nI 1).trans (nI_add j 1)) (by decide) rfl (fun ls hl => ?_)
            refine lv_goto (tgt := 16) hx hb dL_larderText_201 (by decide) ?_
            exact ih_16 (j + 1, p9 + 1 + 1 + 1 + 1, upd (upd (upd Bv (1 + j) (nI k9)) (7 + j) (nI g9)) (13 + j) (nI s9), upd (upd (upd (upd T p9 44) (p9 + 1) 99) (p9 + 1 + 1) (nI (48 + g9))) (p9 + 1 + 1 + 1) (nI (48 + s9))) _ _ _ ⟨hP, hD, hS, lv_sub hl [2, 3, 4, 5, 6, 1, 0] rfl, (by omega), (by omega), (lt_B0 hB0), (lt_y (by omega) hp9 (by omega) hall hk9 hg9 hs9 (by simp [kch, c_11, c_12, c_13]))⟩ (by dsimp only; omega)
        · skip
          replace c_12 : k9 = 1 := (nI_eq (a := k9) (b := 1) (by omega) (by omega)).mp c_12
          refine lv_bipush (v := 119) hx hb dL_larderText_124 (by decide) ?_
          refine lv_goto (tgt := 161) hx hb dL_larderText_126 (by decide) ?_
          refine jv_ast (k := p9 + 1) (x := 119) hx hb hK hP hD hS 1 0 rfl rfl (by omega) (by decide) dL_larderText_161 (fun H locs hP hD hS => ?_)
          have hP : va_P D vwCl [(bb, .inl (cI, 19, .inl (upd (upd (upd Bv (1 + j) (nI k9)) (7 + j) (nI g9)) (13 + j) (nI s9)))), (tt, .inl (cI, 25, .inl (upd (upd T p9 44) (p9 + 1) 119)))] H := hP
          have hD : va_D A [(bb, .inl (cI, 19, .inl (upd (upd (upd Bv (1 + j) (nI k9)) (7 + j) (nI g9)) (13 + j) (nI s9)))), (tt, .inl (cI, 25, .inl (upd (upd T p9 44) (p9 + 1) 119)))] := hD
          refine lv_aload hx hb dL_larderText_162 (lv_at hl 5 rfl) ?_
          refine lv_iload hx hb dL_larderText_164 (lv_at hl 0 rfl) ?_
          refine lv_iinc (v := nI (p9 + 1 + 1 + 1)) (lv' := [(5, .int (nI (p9 + 1 + 1 + 1))), (0, .int x0), (1, .int y0), (2, .int z0), (3, .ref bb), (4, .ref tt), (6, .int (nI j))]) hx hb dL_larderText_166 hl (k := 0) rfl ((rfl : nI (p9 + 1 + 1) + Int32.ofInt 1 = nI (p9 + 1 + 1) + nI 1).trans (nI_add (p9 + 1 + 1) 1)) (by decide) rfl (fun ls hl => ?_)
          refine lv_bipush (v := 48) hx hb dL_larderText_169 (by decide) ?_
          refine lv_aload_n hx hb dL_larderText_171 rfl (lv_at hl 4 rfl) ?_
          refine lv_bipush (v := 7) hx hb dL_larderText_172 (by decide) ?_
          refine lv_iload hx hb dL_larderText_174 (lv_at hl 6 rfl) ?_
          refine lv_iadd hx hb dL_larderText_176 ?_
          refine jv_as (y := nI (7 + j)) (nI_add 7 j) ?_
          refine jv_ald (k := 7 + j) hx hb hK hP 0 0 rfl rfl (by omega) (by decide) dL_larderText_177 ?_
          refine jv_as (y := nI g9) lt_N.2.1 ?_
          refine lv_iadd hx hb dL_larderText_178 ?_
          refine jv_as (y := nI (48 + g9)) (nI_add 48 g9) ?_
          refine jv_ast (k := p9 + 1 + 1) (x := nI (48 + g9)) hx hb hK hP hD hS 1 0 rfl rfl (by omega) (by decide) dL_larderText_179 (fun H locs hP hD hS => ?_)
          have hP : va_P D vwCl [(bb, .inl (cI, 19, .inl (upd (upd (upd Bv (1 + j) (nI k9)) (7 + j) (nI g9)) (13 + j) (nI s9)))), (tt, .inl (cI, 25, .inl (upd (upd (upd T p9 44) (p9 + 1) 119) (p9 + 1 + 1) (nI (48 + g9)))))] H := hP
          have hD : va_D A [(bb, .inl (cI, 19, .inl (upd (upd (upd Bv (1 + j) (nI k9)) (7 + j) (nI g9)) (13 + j) (nI s9)))), (tt, .inl (cI, 25, .inl (upd (upd (upd T p9 44) (p9 + 1) 119) (p9 + 1 + 1) (nI (48 + g9)))))] := hD
          refine lv_aload hx hb dL_larderText_180 (lv_at hl 5 rfl) ?_
          refine lv_iload hx hb dL_larderText_182 (lv_at hl 0 rfl) ?_
          refine lv_iinc (v := nI (p9 + 1 + 1 + 1 + 1)) (lv' := [(5, .int (nI (p9 + 1 + 1 + 1 + 1))), (0, .int x0), (1, .int y0), (2, .int z0), (3, .ref bb), (4, .ref tt), (6, .int (nI j))]) hx hb dL_larderText_184 hl (k := 0) rfl ((rfl : nI (p9 + 1 + 1 + 1) + Int32.ofInt 1 = nI (p9 + 1 + 1 + 1) + nI 1).trans (nI_add (p9 + 1 + 1 + 1) 1)) (by decide) rfl (fun ls hl => ?_)
          refine lv_bipush (v := 48) hx hb dL_larderText_187 (by decide) ?_
          refine lv_aload_n hx hb dL_larderText_189 rfl (lv_at hl 4 rfl) ?_
          refine lv_bipush (v := 13) hx hb dL_larderText_190 (by decide) ?_
          refine lv_iload hx hb dL_larderText_192 (lv_at hl 6 rfl) ?_
          refine lv_iadd hx hb dL_larderText_194 ?_
          refine jv_as (y := nI (13 + j)) (nI_add 13 j) ?_
          refine jv_ald (k := 13 + j) hx hb hK hP 0 0 rfl rfl (by omega) (by decide) dL_larderText_195 ?_
          refine jv_as (y := nI s9) lt_N.2.2 ?_
          refine lv_iadd hx hb dL_larderText_196 ?_
          refine jv_as (y := nI (48 + s9)) (nI_add 48 s9) ?_
          refine jv_ast (k := p9 + 1 + 1 + 1) (x := nI (48 + s9)) hx hb hK hP hD hS 1 0 rfl rfl (by omega) (by decide) dL_larderText_197 (fun H locs hP hD hS => ?_)
          have hP : va_P D vwCl [(bb, .inl (cI, 19, .inl (upd (upd (upd Bv (1 + j) (nI k9)) (7 + j) (nI g9)) (13 + j) (nI s9)))), (tt, .inl (cI, 25, .inl (upd (upd (upd (upd T p9 44) (p9 + 1) 119) (p9 + 1 + 1) (nI (48 + g9))) (p9 + 1 + 1 + 1) (nI (48 + s9)))))] H := hP
          have hD : va_D A [(bb, .inl (cI, 19, .inl (upd (upd (upd Bv (1 + j) (nI k9)) (7 + j) (nI g9)) (13 + j) (nI s9)))), (tt, .inl (cI, 25, .inl (upd (upd (upd (upd T p9 44) (p9 + 1) 119) (p9 + 1 + 1) (nI (48 + g9))) (p9 + 1 + 1 + 1) (nI (48 + s9)))))] := hD
          refine lv_iinc (v := nI (j + 1)) (lv' := [(6, .int (nI (j + 1))), (5, .int (nI (p9 + 1 + 1 + 1 + 1))), (0, .int x0), (1, .int y0), (2, .int z0), (3, .ref bb), (4, .ref tt)]) hx hb dL_larderText_198 hl (k := 6) rfl ((rfl : nI j + Int32.ofInt 1 = nI j + nI 1).trans (nI_add j 1)) (by decide) rfl (fun ls hl => ?_)
          refine lv_goto (tgt := 16) hx hb dL_larderText_201 (by decide) ?_
          exact ih_16 (j + 1, p9 + 1 + 1 + 1 + 1, upd (upd (upd Bv (1 + j) (nI k9)) (7 + j) (nI g9)) (13 + j) (nI s9), upd (upd (upd (upd T p9 44) (p9 + 1) 119) (p9 + 1 + 1) (nI (48 + g9))) (p9 + 1 + 1 + 1) (nI (48 + s9))) _ _ _ ⟨hP, hD, hS, lv_sub hl [2, 3, 4, 5, 6, 1, 0] rfl, (by omega), (by omega), (lt_B0 hB0), (lt_y (by omega) hp9 (by omega) hall hk9 hg9 hs9 (by simp [kch, c_11, c_12]))⟩ (by dsimp only; omega)
      · skip
        replace c_11 : k9 = 0 := (nI_eq (a := k9) (b := 0) (by omega) (by omega)).mp c_11
        refine lv_bipush (v := 106) hx hb dL_larderText_109 (by decide) ?_
        refine lv_goto (tgt := 161) hx hb dL_larderText_111 (by decide) ?_
        refine jv_ast (k := p9 + 1) (x := 106) hx hb hK hP hD hS 1 0 rfl rfl (by omega) (by decide) dL_larderText_161 (fun H locs hP hD hS => ?_)
        have hP : va_P D vwCl [(bb, .inl (cI, 19, .inl (upd (upd (upd Bv (1 + j) (nI k9)) (7 + j) (nI g9)) (13 + j) (nI s9)))), (tt, .inl (cI, 25, .inl (upd (upd T p9 44) (p9 + 1) 106)))] H := hP
        have hD : va_D A [(bb, .inl (cI, 19, .inl (upd (upd (upd Bv (1 + j) (nI k9)) (7 + j) (nI g9)) (13 + j) (nI s9)))), (tt, .inl (cI, 25, .inl (upd (upd T p9 44) (p9 + 1) 106)))] := hD
        refine lv_aload hx hb dL_larderText_162 (lv_at hl 5 rfl) ?_
        refine lv_iload hx hb dL_larderText_164 (lv_at hl 0 rfl) ?_
        refine lv_iinc (v := nI (p9 + 1 + 1 + 1)) (lv' := [(5, .int (nI (p9 + 1 + 1 + 1))), (0, .int x0), (1, .int y0), (2, .int z0), (3, .ref bb), (4, .ref tt), (6, .int (nI j))]) hx hb dL_larderText_166 hl (k := 0) rfl ((rfl : nI (p9 + 1 + 1) + Int32.ofInt 1 = nI (p9 + 1 + 1) + nI 1).trans (nI_add (p9 + 1 + 1) 1)) (by decide) rfl (fun ls hl => ?_)
        refine lv_bipush (v := 48) hx hb dL_larderText_169 (by decide) ?_
        refine lv_aload_n hx hb dL_larderText_171 rfl (lv_at hl 4 rfl) ?_
        refine lv_bipush (v := 7) hx hb dL_larderText_172 (by decide) ?_
        refine lv_iload hx hb dL_larderText_174 (lv_at hl 6 rfl) ?_
        refine lv_iadd hx hb dL_larderText_176 ?_
        refine jv_as (y := nI (7 + j)) (nI_add 7 j) ?_
        refine jv_ald (k := 7 + j) hx hb hK hP 0 0 rfl rfl (by omega) (by decide) dL_larderText_177 ?_
        refine jv_as (y := nI g9) lt_N.2.1 ?_
        refine lv_iadd hx hb dL_larderText_178 ?_
        refine jv_as (y := nI (48 + g9)) (nI_add 48 g9) ?_
        refine jv_ast (k := p9 + 1 + 1) (x := nI (48 + g9)) hx hb hK hP hD hS 1 0 rfl rfl (by omega) (by decide) dL_larderText_179 (fun H locs hP hD hS => ?_)
        have hP : va_P D vwCl [(bb, .inl (cI, 19, .inl (upd (upd (upd Bv (1 + j) (nI k9)) (7 + j) (nI g9)) (13 + j) (nI s9)))), (tt, .inl (cI, 25, .inl (upd (upd (upd T p9 44) (p9 + 1) 106) (p9 + 1 + 1) (nI (48 + g9)))))] H := hP
        have hD : va_D A [(bb, .inl (cI, 19, .inl (upd (upd (upd Bv (1 + j) (nI k9)) (7 + j) (nI g9)) (13 + j) (nI s9)))), (tt, .inl (cI, 25, .inl (upd (upd (upd T p9 44) (p9 + 1) 106) (p9 + 1 + 1) (nI (48 + g9)))))] := hD
        refine lv_aload hx hb dL_larderText_180 (lv_at hl 5 rfl) ?_
        refine lv_iload hx hb dL_larderText_182 (lv_at hl 0 rfl) ?_
        refine lv_iinc (v := nI (p9 + 1 + 1 + 1 + 1)) (lv' := [(5, .int (nI (p9 + 1 + 1 + 1 + 1))), (0, .int x0), (1, .int y0), (2, .int z0), (3, .ref bb), (4, .ref tt), (6, .int (nI j))]) hx hb dL_larderText_184 hl (k := 0) rfl ((rfl : nI (p9 + 1 + 1 + 1) + Int32.ofInt 1 = nI (p9 + 1 + 1 + 1) + nI 1).trans (nI_add (p9 + 1 + 1 + 1) 1)) (by decide) rfl (fun ls hl => ?_)
        refine lv_bipush (v := 48) hx hb dL_larderText_187 (by decide) ?_
        refine lv_aload_n hx hb dL_larderText_189 rfl (lv_at hl 4 rfl) ?_
        refine lv_bipush (v := 13) hx hb dL_larderText_190 (by decide) ?_
        refine lv_iload hx hb dL_larderText_192 (lv_at hl 6 rfl) ?_
        refine lv_iadd hx hb dL_larderText_194 ?_
        refine jv_as (y := nI (13 + j)) (nI_add 13 j) ?_
        refine jv_ald (k := 13 + j) hx hb hK hP 0 0 rfl rfl (by omega) (by decide) dL_larderText_195 ?_
        refine jv_as (y := nI s9) lt_N.2.2 ?_
        refine lv_iadd hx hb dL_larderText_196 ?_
        refine jv_as (y := nI (48 + s9)) (nI_add 48 s9) ?_
        refine jv_ast (k := p9 + 1 + 1 + 1) (x := nI (48 + s9)) hx hb hK hP hD hS 1 0 rfl rfl (by omega) (by decide) dL_larderText_197 (fun H locs hP hD hS => ?_)
        have hP : va_P D vwCl [(bb, .inl (cI, 19, .inl (upd (upd (upd Bv (1 + j) (nI k9)) (7 + j) (nI g9)) (13 + j) (nI s9)))), (tt, .inl (cI, 25, .inl (upd (upd (upd (upd T p9 44) (p9 + 1) 106) (p9 + 1 + 1) (nI (48 + g9))) (p9 + 1 + 1 + 1) (nI (48 + s9)))))] H := hP
        have hD : va_D A [(bb, .inl (cI, 19, .inl (upd (upd (upd Bv (1 + j) (nI k9)) (7 + j) (nI g9)) (13 + j) (nI s9)))), (tt, .inl (cI, 25, .inl (upd (upd (upd (upd T p9 44) (p9 + 1) 106) (p9 + 1 + 1) (nI (48 + g9))) (p9 + 1 + 1 + 1) (nI (48 + s9)))))] := hD
        refine lv_iinc (v := nI (j + 1)) (lv' := [(6, .int (nI (j + 1))), (5, .int (nI (p9 + 1 + 1 + 1 + 1))), (0, .int x0), (1, .int y0), (2, .int z0), (3, .ref bb), (4, .ref tt)]) hx hb dL_larderText_198 hl (k := 6) rfl ((rfl : nI j + Int32.ofInt 1 = nI j + nI 1).trans (nI_add j 1)) (by decide) rfl (fun ls hl => ?_)
        refine lv_goto (tgt := 16) hx hb dL_larderText_201 (by decide) ?_
        exact ih_16 (j + 1, p9 + 1 + 1 + 1 + 1, upd (upd (upd Bv (1 + j) (nI k9)) (7 + j) (nI g9)) (13 + j) (nI s9), upd (upd (upd (upd T p9 44) (p9 + 1) 106) (p9 + 1 + 1) (nI (48 + g9))) (p9 + 1 + 1 + 1) (nI (48 + s9))) _ _ _ ⟨hP, hD, hS, lv_sub hl [2, 3, 4, 5, 6, 1, 0] rfl, (by omega), (by omega), (lt_B0 hB0), (lt_y (by omega) hp9 (by omega) hall hk9 hg9 hs9 (by simp [kch, c_11]))⟩ (by dsimp only; omega)

set_option maxHeartbeats 4000000 in
set_option maxRecDepth 100000 in
theorem cl_write (l : Launch) (D : va_G) (cI cJ : ClassId) (x : Nat) (xp : Nat) (tt : Nat) (nn : Nat) (a2 : Value) (a3 : Value) (a4 : Value) (a5 : Value) (a6 : Value) (a7 : Value) (a8 : Value) (a9 : Value) (a10 : Value) (a11 : Value) (pg : Nat → Int32) (T : Nat → Int32) (h25 : nn ≤ 25) (hT9 : ∀ i : Nat, i < nn → 1 ≤ T i ∧ T i ≤ 126) : jWi l yL_write wsL_write ({ frames := 1, cells := 0, slots := 0, locals := 21 }) 0 0 [.ref x, .ref tt, .int (nI nn)] D cI cJ [(x, .inr (6, [.ref xp, .int 0, a2, a3, a4, a5, a6, a7, a8, a9, a10, a11])), (xp, .inl (cI, 25, .inl pg)), (tt, .inl (cI, 25, .inl T))] (fun H => True) (fun r H => r = 1 ∧ va_P D vwCl [(x, .inr (6, [.ref xp, .int (nI nn), a2, a3, a4, a5, a6, a7, a8, a9, a10, a11])), (xp, .inl (cI, 25, .inl (jfl T pg nn))), (tt, .inl (cI, 25, .inl T))] H) := by
  intro sz
  refine Met.ofW (cc := cL_write) (maxL := 4) (ret := (some .boolean)) (by decide) rfl ?_
  intro p e s m args below meth c s₁ B hml hv
  obtain ⟨rfl, hsz, hT, hP, hD0, _⟩ := hv
  have hK := hT.1
  have hx := B.exec
  have hb := B.bytes
  have hr := B.returns
  have hts := atoms_spec (ws := wsL_write) B.pre
  have hown : s.vm.findClass RL = some m.cls := findClass_of_methodNamed B.named
  have hlocks := B.notSynchronized
  subst hsz
  have hD := hD0.self (sz := s.heap.size)
  generalize hAe : va_A [(x, .inr (6, [.ref xp, .int 0, a2, a3, a4, a5, a6, a7, a8, a9, a10, a11])), (xp, .inl (cI, 25, .inl pg)), (tt, .inl (cI, 25, .inl T))] s.heap.size = A at hD ⊢
  have hA : ∀ q : Nat, s.heap.size ≤ q → A q := fun q h => by rw [← hAe]; exact Or.inr h
  have hS : va_S A s.heap s.heap [] := va_S.rf
  have hl := lv_entry ([.ref x, .ref tt, .int (nI nn)] : List Value) (n := 4) (Nat.le_of_ble_eq_true rfl)
  rw [lg_entry_eq]
  generalize (lg_sl ([.ref x, .ref tt, .int (nI nn)]) ++ List.replicate (4 - (lg_sl ([.ref x, .ref tt, .int (nI nn)])).length) Slot.unset).toArray = ls at hl ⊢
  have hl : lv_has ls 4 [(0, .ref x), (1, .ref tt), (2, .int (nI nn))] := hl
  refine lv_iconst (v := 0) hx hb dL_write_0 (by decide) ?_
  refine lv_istore_n (lv' := [(3, .int 0), (0, .ref x), (1, .ref tt), (2, .int (nI nn))]) hx hb dL_write_1 rfl hl (by decide) rfl (fun ls hl => ?_)
  have hP : va_P D vwCl [(x, .inr (6, [.ref xp, .int 0, a2, a3, a4, a5, a6, a7, a8, a9, a10, a11])), (xp, .inl (cI, 25, .inl (jfl T pg 0))), (tt, .inl (cI, 25, .inl T))] s.heap := by rw [jfl_0]; exact hP
  have hD : va_D A [(x, .inr (6, [.ref xp, .int 0, a2, a3, a4, a5, a6, a7, a8, a9, a10, a11])), (xp, .inl (cI, 25, .inl (jfl T pg 0))), (tt, .inl (cI, 25, .inl T))] := jD_of hD rfl
  refine jloop (α := Nat) (fun (k : Nat) (H : Heap) (locs : List Loc) (ls : Array Slot) => (va_P D vwCl [(x, .inr (6, [.ref xp, .int (nI k), a2, a3, a4, a5, a6, a7, a8, a9, a10, a11])), (xp, .inl (cI, 25, .inl (jfl T pg k))), (tt, .inl (cI, 25, .inl T))] H) ∧ (va_D A [(x, .inr (6, [.ref xp, .int (nI k), a2, a3, a4, a5, a6, a7, a8, a9, a10, a11])), (xp, .inl (cI, 25, .inl (jfl T pg k))), (tt, .inl (cI, 25, .inl T))]) ∧ (va_S A s.heap H locs) ∧ (lv_has ls 4 [(0, .ref x), (1, .ref tt), (2, .int (nI nn)), (3, .int (nI k))]) ∧ (k ≤ nn)) (fun (k : Nat) => nn - k) (fun k H locs ls hx9 ih_2 => ?_) 0 _ _ _ ⟨hP, hD, hS, lv_sub hl [1, 2, 3, 0] rfl, (by omega)⟩
  obtain ⟨hP, hD, hS, hl, hk9⟩ := hx9
  refine lv_iload_n hx hb dL_write_2 rfl (lv_at hl 3 rfl) ?_
  refine lv_iload_n hx hb dL_write_3 rfl (lv_at hl 2 rfl) ?_
  refine lv_icmp_ge (tgt := 28) hx hb dL_write_4 (by decide) (fun c_1 => ?_) (fun c_1 => ?_)
  · skip
    replace c_1 : nn ≤ k := (nI_leI (a := nn) (b := k) (by omega) (by omega)).mp c_1
    refine lv_iconst (v := 1) hx hb dL_write_28 (by decide) ?_
    exact W.zret (v := 1) hx hb hr (by decide) (fun t ht hW => ⟨⟨1, 1, rfl, rfl, by dsimp only; rw [ht]; exact ⟨rfl, (by rw [show nn = k by omega]; exact hP)⟩⟩, hS.F ht⟩) hS.2.2 dL_write_29
  · skip
    replace c_1 : ¬ nn ≤ k := fun h => c_1 ((nI_leI (a := nn) (b := k) (by omega) (by omega)).mpr h)
    refine lv_aload_n hx hb dL_write_7 rfl (lv_at hl 0 rfl) ?_
    refine lv_aload_n hx hb dL_write_8 rfl (lv_at hl 1 rfl) ?_
    refine lv_iload_n hx hb dL_write_9 rfl (lv_at hl 3 rfl) ?_
    refine jv_ald (k := k) hx hb hK hP 2 0 rfl rfl (by omega) (by decide) dL_write_10 ?_
    have hPc_2 := hP.sub (ws' := [(x, .inr (6, [.ref xp, .int (nI k), a2, a3, a4, a5, a6, a7, a8, a9, a10, a11])), (xp, .inl (cI, 25, .inl (jfl T pg k)))]) [0, 1] rfl
    have hDc_3 := hD.sub (ws' := [(x, .inr (6, [.ref xp, .int (nI k), a2, a3, a4, a5, a6, a7, a8, a9, a10, a11])), (xp, .inl (cI, 25, .inl (jfl T pg k)))]) [0, 1] (by decide) rfl
    have hFc_4 := va_free (wc := [(x, .inr (6, [.ref xp, .int (nI k), a2, a3, a4, a5, a6, a7, a8, a9, a10, a11])), (xp, .inl (cI, 25, .inl (jfl T pg k)))]) hD hS hA [0, 1] rfl
    refine jcallWi (post := fun r H => r = nI (k + 1) ∧ va_P D vwCl [(x, .inr (6, [.ref xp, .int (nI (k + 1)), a2, a3, a4, a5, a6, a7, a8, a9, a10, a11])), (xp, .inl (cI, 25, .inl (upd (jfl T pg k) k (T k))))] H) (va_runV (As := [.int (T k)]) (rest := []) ⟨hx, hb, hml, hown, hts⟩ (c_letter_ok l D cI cJ x xp k a2 a3 a4 a5 a6 a7 a8 a9 a10 a11 (jfl T pg k) (T k) (hT9 k (by omega)).1 (hT9 k (by omega)).2 (by omega) H.size) (cwV 1 hts gL_write_X6_letter rfl rfl rfl (by decide +kernel) ⟨Nat.le_of_ble_eq_true rfl, Nat.le_of_ble_eq_true rfl⟩) (jpreV hT (va_recv hK hP (ci := 6) (q0 := 0) rfl rfl) ⟨hPc_2, hDc_3.weaken (fun _ _ _ _ => trivial), trivial⟩) rfl rfl hl.1 rfl (lv_room (Nat.le_of_ble_eq_true rfl)) dL_write_11 ⟨(Nat.zero_le _), (Nat.zero_le _)⟩) hS hFc_4 (fun r_5 H locs hw_r_5 hz hkq hS => ?_)
    obtain ⟨hr9, hP1⟩ := hw_r_5
    obtain ⟨hP, hD⟩ := jjoin (wc := [(x, .inr (6, [.ref xp, .int (nI k), a2, a3, a4, a5, a6, a7, a8, a9, a10, a11])), (xp, .inl (cI, 25, .inl (jfl T pg k)))]) (wr := [(tt, .inl (cI, 25, .inl T))]) (w1 := [(x, .inr (6, [.ref xp, .int (nI (k + 1)), a2, a3, a4, a5, a6, a7, a8, a9, a10, a11])), (xp, .inl (cI, 25, .inl (upd (jfl T pg k) k (T k))))]) (ws' := [(x, .inr (6, [.ref xp, .int (nI (k + 1)), a2, a3, a4, a5, a6, a7, a8, a9, a10, a11])), (xp, .inl (cI, 25, .inl (upd (jfl T pg k) k (T k)))), (tt, .inl (cI, 25, .inl T))]) hP hD hFc_4 [0, 1] [2] [1, 2, 0] rfl rfl (by decide) (by decide) (by decide) (by decide) hkq hP1 rfl rfl rfl
    subst hr9
    refine lv_iload_n hx hb dL_write_14 rfl (lv_at hl 3 rfl) ?_
    refine lv_iconst (v := 1) hx hb dL_write_15 (by decide) ?_
    refine lv_iadd hx hb dL_write_16 ?_
    refine jv_as (y := nI (k + 1)) (nI_add k 1) ?_
    refine lv_icmp_eq (tgt := 22) hx hb dL_write_17 (by decide) (fun c_6 => ?_) (fun c_6 => ?_)
    · skip
      replace c_6 : k + 1 = k + 1 := (nI_eq (a := k + 1) (b := k + 1) (by omega) (by omega)).mp c_6
      refine lv_iinc (v := nI (k + 1)) (lv' := [(3, .int (nI (k + 1))), (0, .ref x), (1, .ref tt), (2, .int (nI nn))]) hx hb dL_write_22 hl (k := 3) rfl ((rfl : nI k + Int32.ofInt 1 = nI k + nI 1).trans (nI_add k 1)) (by decide) rfl (fun ls hl => ?_)
      refine lv_goto (tgt := 2) hx hb dL_write_25 (by decide) ?_
      have hP : va_P D vwCl [(x, .inr (6, [.ref xp, .int (nI (k + 1)), a2, a3, a4, a5, a6, a7, a8, a9, a10, a11])), (xp, .inl (cI, 25, .inl (jfl T pg (k + 1)))), (tt, .inl (cI, 25, .inl T))] H := by rw [jfl_s (x := (T k)) rfl]; exact hP
      have hD : va_D A [(x, .inr (6, [.ref xp, .int (nI (k + 1)), a2, a3, a4, a5, a6, a7, a8, a9, a10, a11])), (xp, .inl (cI, 25, .inl (jfl T pg (k + 1)))), (tt, .inl (cI, 25, .inl T))] := jD_of hD rfl
      exact ih_2 (k + 1) _ _ _ ⟨hP, hD, hS, lv_sub hl [1, 2, 3, 0] rfl, (by omega)⟩ (by omega)
    · skip
      replace c_6 : ¬ k + 1 = k + 1 := fun h => c_6 ((nI_eq (a := k + 1) (b := k + 1) (by omega) (by omega)).mpr h)
      exact absurd rfl c_6

set_option maxHeartbeats 4000000 in
set_option maxRecDepth 100000 in
theorem cl_begin (l : Launch) (D : va_G) (cI cJ : ClassId) (bb : Nat) (dd : Nat) (n : Nat) (Bv : Nat → Int32) (d0 : Nat → Int32) (sp0 : Nat → Int32) (en0 : Nat → Int32) (hn6 : n ≤ 6) (e0 : Bv 0 = nI n) : jWv l yL_begin wsL_begin ({ frames := 0, cells := 0, slots := 0, locals := 0 }) 0 0 [.ref bb, .ref dd] D cI cJ [(bb, .inl (cI, 19, .inl Bv)), (dd, .inl (cI, 16, .inl d0))] (fun H => True) (fun H => va_P D vwCl [(bb, .inl (cI, 19, .inl Bv)), (dd, .inl (cI, 16, .inl (jdd (jfl (fun k => if k < n then 12 else 0) sp0 6) (jfl (fun _ => 0) en0 6) 0 0 0 0)))] H) := by
  intro sz
  refine Met.ofW (cc := cL_begin) (maxL := 3) (ret := none) (by decide) rfl ?_
  intro p e s m args below meth c s₁ B hml hv
  obtain ⟨rfl, hsz, hT, hP, hD0, _⟩ := hv
  have hK := hT.1
  have hx := B.exec
  have hb := B.bytes
  have hr := B.returns
  have hts := atoms_spec (ws := wsL_begin) B.pre
  have hown : s.vm.findClass RL = some m.cls := findClass_of_methodNamed B.named
  have hlocks := B.notSynchronized
  subst hsz
  have hD := hD0.self (sz := s.heap.size)
  generalize hAe : va_A [(bb, .inl (cI, 19, .inl Bv)), (dd, .inl (cI, 16, .inl d0))] s.heap.size = A at hD ⊢
  have hA : ∀ q : Nat, s.heap.size ≤ q → A q := fun q h => by rw [← hAe]; exact Or.inr h
  have hS : va_S A s.heap s.heap [] := va_S.rf
  have hl := lv_entry ([.ref bb, .ref dd] : List Value) (n := 3) (Nat.le_of_ble_eq_true rfl)
  rw [lg_entry_eq]
  generalize (lg_sl ([.ref bb, .ref dd]) ++ List.replicate (3 - (lg_sl ([.ref bb, .ref dd])).length) Slot.unset).toArray = ls at hl ⊢
  have hl : lv_has ls 3 [(0, .ref bb), (1, .ref dd)] := hl
  refine lv_iconst (v := 0) hx hb dL_begin_0 (by decide) ?_
  refine lv_istore_n (lv' := [(2, .int 0), (0, .ref bb), (1, .ref dd)]) hx hb dL_begin_1 rfl hl (by decide) rfl (fun ls hl => ?_)
  have hP : va_P D vwCl [(bb, .inl (cI, 19, .inl Bv)), (dd, .inl (cI, 16, .inl (jfl (fun k => if k < n then 12 else 0) d0 0)))] s.heap := by rw [jfl_0]; exact hP
  have hD : va_D A [(bb, .inl (cI, 19, .inl Bv)), (dd, .inl (cI, 16, .inl (jfl (fun k => if k < n then 12 else 0) d0 0)))] := jD_of hD rfl
  refine jloop (α := Nat) (fun (k : Nat) (H : Heap) (locs : List Loc) (ls : Array Slot) => (va_P D vwCl [(bb, .inl (cI, 19, .inl Bv)), (dd, .inl (cI, 16, .inl (jfl (fun k => if k < n then 12 else 0) d0 k)))] H) ∧ (va_D A [(bb, .inl (cI, 19, .inl Bv)), (dd, .inl (cI, 16, .inl (jfl (fun k => if k < n then 12 else 0) d0 k)))]) ∧ (va_S A s.heap H locs) ∧ (lv_has ls 3 [(0, .ref bb), (1, .ref dd), (2, .int (nI k))]) ∧ (k ≤ 16)) (fun (k : Nat) => 16 - k) (fun k H locs ls hx9 ih_2 => ?_) 0 _ _ _ ⟨hP, hD, hS, lv_sub hl [1, 2, 0] rfl, (by omega)⟩
  obtain ⟨hP, hD, hS, hl, hk9⟩ := hx9
  refine lv_iload_n hx hb dL_begin_2 rfl (lv_at hl 2 rfl) ?_
  refine lv_bipush (v := 16) hx hb dL_begin_3 (by decide) ?_
  refine lv_icmp_ge (tgt := 30) hx hb dL_begin_5 (by decide) (fun c_1 => ?_) (fun c_1 => ?_)
  · skip
    replace c_1 : 16 ≤ k := (nI_leI (a := 16) (b := k) (by omega) (by omega)).mp c_1
    obtain rfl : k = 16 := by omega
    have hP : va_P D vwCl [(bb, .inl (cI, 19, .inl Bv)), (dd, .inl (cI, 16, .inl (jdd (jfl (fun k => if k < n then 12 else 0) sp0 6) (jfl (fun _ => 0) en0 6) 0 0 0 0)))] H := jP_arr hP 1 rfl (fun i hi => jdd_b hi hn6)
    have hD : va_D A [(bb, .inl (cI, 19, .inl Bv)), (dd, .inl (cI, 16, .inl (jdd (jfl (fun k => if k < n then 12 else 0) sp0 6) (jfl (fun _ => 0) en0 6) 0 0 0 0)))] := jD_of hD rfl
    exact W.vret hx hb hr (fun t ht hW => ⟨⟨(), rfl, trivial, by dsimp only; rw [ht]; exact hP⟩, hS.F ht⟩) hS.2.2 dL_begin_30
  · skip
    replace c_1 : ¬ 16 ≤ k := fun h => c_1 ((nI_leI (a := 16) (b := k) (by omega) (by omega)).mpr h)
    refine lv_aload_n hx hb dL_begin_8 rfl (lv_at hl 1 rfl) ?_
    refine lv_iload_n hx hb dL_begin_9 rfl (lv_at hl 2 rfl) ?_
    refine lv_iload_n hx hb dL_begin_10 rfl (lv_at hl 2 rfl) ?_
    refine lv_aload_n hx hb dL_begin_11 rfl (lv_at hl 0 rfl) ?_
    refine lv_iconst (v := 0) hx hb dL_begin_12 (by decide) ?_
    refine jv_ald (k := 0) hx hb hK hP 0 0 rfl rfl (by omega) (by decide) dL_begin_13 ?_
    refine jv_as (y := nI n) e0 ?_
    refine lv_icmp_ge (tgt := 22) hx hb dL_begin_14 (by decide) (fun c_2 => ?_) (fun c_2 => ?_)
    · skip
      replace c_2 : n ≤ k := (nI_leI (a := n) (b := k) (by omega) (by omega)).mp c_2
      refine lv_iconst (v := 0) hx hb dL_begin_22 (by decide) ?_
      refine jv_ast (k := k) (x := 0) hx hb hK hP hD hS 1 0 rfl rfl (by omega) (by decide) dL_begin_23 (fun H locs hP hD hS => ?_)
      have hP : va_P D vwCl [(bb, .inl (cI, 19, .inl Bv)), (dd, .inl (cI, 16, .inl (upd (jfl (fun k => if k < n then 12 else 0) d0 k) k 0)))] H := hP
      have hD : va_D A [(bb, .inl (cI, 19, .inl Bv)), (dd, .inl (cI, 16, .inl (upd (jfl (fun k => if k < n then 12 else 0) d0 k) k 0)))] := hD
      refine lv_iinc (v := nI (k + 1)) (lv' := [(2, .int (nI (k + 1))), (0, .ref bb), (1, .ref dd)]) hx hb dL_begin_24 hl (k := 2) rfl ((rfl : nI k + Int32.ofInt 1 = nI k + nI 1).trans (nI_add k 1)) (by decide) rfl (fun ls hl => ?_)
      refine lv_goto (tgt := 2) hx hb dL_begin_27 (by decide) ?_
      have hP : va_P D vwCl [(bb, .inl (cI, 19, .inl Bv)), (dd, .inl (cI, 16, .inl (jfl (fun k => if k < n then 12 else 0) d0 (k + 1))))] H := by rw [jfl_s (x := 0) (if_neg (by omega)).symm]; exact hP
      have hD : va_D A [(bb, .inl (cI, 19, .inl Bv)), (dd, .inl (cI, 16, .inl (jfl (fun k => if k < n then 12 else 0) d0 (k + 1))))] := jD_of hD rfl
      exact ih_2 (k + 1) _ _ _ ⟨hP, hD, hS, lv_sub hl [1, 2, 0] rfl, (by omega)⟩ (by omega)
    · skip
      replace c_2 : ¬ n ≤ k := fun h => c_2 ((nI_leI (a := n) (b := k) (by omega) (by omega)).mpr h)
      refine lv_bipush (v := 12) hx hb dL_begin_17 (by decide) ?_
      refine lv_goto (tgt := 23) hx hb dL_begin_19 (by decide) ?_
      refine jv_ast (k := k) (x := 12) hx hb hK hP hD hS 1 0 rfl rfl (by omega) (by decide) dL_begin_23 (fun H locs hP hD hS => ?_)
      have hP : va_P D vwCl [(bb, .inl (cI, 19, .inl Bv)), (dd, .inl (cI, 16, .inl (upd (jfl (fun k => if k < n then 12 else 0) d0 k) k 12)))] H := hP
      have hD : va_D A [(bb, .inl (cI, 19, .inl Bv)), (dd, .inl (cI, 16, .inl (upd (jfl (fun k => if k < n then 12 else 0) d0 k) k 12)))] := hD
      refine lv_iinc (v := nI (k + 1)) (lv' := [(2, .int (nI (k + 1))), (0, .ref bb), (1, .ref dd)]) hx hb dL_begin_24 hl (k := 2) rfl ((rfl : nI k + Int32.ofInt 1 = nI k + nI 1).trans (nI_add k 1)) (by decide) rfl (fun ls hl => ?_)
      refine lv_goto (tgt := 2) hx hb dL_begin_27 (by decide) ?_
      have hP : va_P D vwCl [(bb, .inl (cI, 19, .inl Bv)), (dd, .inl (cI, 16, .inl (jfl (fun k => if k < n then 12 else 0) d0 (k + 1))))] H := by rw [jfl_s (x := 12) (if_pos (by omega)).symm]; exact hP
      have hD : va_D A [(bb, .inl (cI, 19, .inl Bv)), (dd, .inl (cI, 16, .inl (jfl (fun k => if k < n then 12 else 0) d0 (k + 1))))] := jD_of hD rfl
      exact ih_2 (k + 1) _ _ _ ⟨hP, hD, hS, lv_sub hl [1, 2, 0] rfl, (by omega)⟩ (by omega)

set_option maxHeartbeats 4000000 in
set_option maxRecDepth 100000 in
theorem cl_mould (l : Launch) (D : va_G) (cI cJ : ClassId) (bb : Nat) (n : Nat) (jk : Nat → Nat) (jg : Nat → Int32) (js : Nat → Int32) (jm : Nat → Int32) (Bv : Nat → Int32) (j : Nat) (y : Int32) (hB : jB n jk jg js jm Bv) (hj : j < n) (hn6 : n ≤ 6) : jRi l yL_mould wsL_mould ({ frames := 0, cells := 0, slots := 0, locals := 0 }) [.ref bb, .int (nI j), .int y] D cI cJ (fun H => va_P D vwCl [(bb, .inl (cI, 19, .inl Bv))] H) (fun r => r = jmo (jm j) y) := by
  intro sz
  refine Met.ofW (cc := cL_mould) (maxL := 5) (ret := (some .int)) (by decide) rfl ?_
  intro p e s m args below meth c s₁ B hml hv
  obtain ⟨rfl, hsz, hT, hPr⟩ := hv
  have hK := hT.1
  have hx := B.exec
  have hb := B.bytes
  have hr := B.returns
  have hts := atoms_spec (ws := wsL_mould) B.pre
  have hown : s.vm.findClass RL = some m.cls := findClass_of_methodNamed B.named
  have hlocks := B.notSynchronized
  subst hsz
  generalize hAe : va_A [] s.heap.size = A
  have hA : ∀ q : Nat, s.heap.size ≤ q → A q := fun q h => by rw [← hAe]; exact Or.inr h
  have hS : va_S A s.heap s.heap [] := va_S.rf
  have hl := lv_entry ([.ref bb, .int (nI j), .int y] : List Value) (n := 5) (Nat.le_of_ble_eq_true rfl)
  rw [lg_entry_eq]
  generalize (lg_sl ([.ref bb, .int (nI j), .int y]) ++ List.replicate (5 - (lg_sl ([.ref bb, .int (nI j), .int y])).length) Slot.unset).toArray = ls at hl ⊢
  have hl : lv_has ls 5 [(0, .ref bb), (1, .int (nI j)), (2, .int y)] := hl
  obtain ⟨kq, gq, sq, hk5, hg9, hs9, z1, z7, z13, ek, eg, es, em⟩ := hB.2 j (by omega)
  refine lv_aload_n hx hb dL_mould_0 rfl (lv_at hl 0 rfl) ?_
  refine lv_iconst (v := 1) hx hb dL_mould_1 (by decide) ?_
  refine lv_iload_n hx hb dL_mould_2 rfl (lv_at hl 1 rfl) ?_
  refine lv_iadd hx hb dL_mould_3 ?_
  refine jv_as (y := nI (1 + j)) (nI_add 1 j) ?_
  refine jv_ald (k := 1 + j) hx hb hK hPr 0 0 rfl rfl (by omega) (by decide) dL_mould_4 ?_
  refine jv_as (y := nI kq) z1 ?_
  refine lv_istore_n (lv' := [(3, .int (nI kq)), (0, .ref bb), (1, .int (nI j)), (2, .int y)]) hx hb dL_mould_5 rfl hl (by decide) rfl (fun ls hl => ?_)
  refine lv_iload_n hx hb dL_mould_6 rfl (lv_at hl 0 rfl) ?_
  refine lv_iconst (v := 2) hx hb dL_mould_7 (by decide) ?_
  refine lv_icmp_eq (tgt := 16) hx hb dL_mould_8 (by decide) (fun c_1 => ?_) (fun c_1 => ?_)
  · skip
    replace c_1 : kq = 2 := (nI_eq (a := kq) (b := 2) (by omega) (by omega)).mp c_1
    refine lv_iconst (v := 0) hx hb dL_mould_16 (by decide) ?_
    exact W.iret (v := 0) hx hb hr (fun t ht hW => ⟨⟨0, (), rfl, (by rw [em, lmo_0 (by omega)]), trivial⟩, hS.F ht⟩) hS.2.2 dL_mould_17
  · skip
    replace c_1 : ¬ kq = 2 := fun h => c_1 ((nI_eq (a := kq) (b := 2) (by omega) (by omega)).mpr h)
    refine lv_iload_n hx hb dL_mould_11 rfl (lv_at hl 0 rfl) ?_
    refine lv_iconst (v := 4) hx hb dL_mould_12 (by decide) ?_
    refine lv_icmp_ne (tgt := 18) hx hb dL_mould_13 (by decide) (fun c_2 => ?_) (fun c_2 => ?_)
    · skip
      replace c_2 : ¬ kq = 4 := fun h => c_2 ((nI_eq (a := kq) (b := 4) (by omega) (by omega)).mpr h)
      refine lv_aload_n hx hb dL_mould_18 rfl (lv_at hl 1 rfl) ?_
      refine lv_bipush (v := 13) hx hb dL_mould_19 (by decide) ?_
      refine lv_iload_n hx hb dL_mould_21 rfl (lv_at hl 2 rfl) ?_
      refine lv_iadd hx hb dL_mould_22 ?_
      refine jv_as (y := nI (13 + j)) (nI_add 13 j) ?_
      refine jv_ald (k := 13 + j) hx hb hK hPr 0 0 rfl rfl (by omega) (by decide) dL_mould_23 ?_
      refine jv_as (y := nI sq) z13 ?_
      refine lv_bipush (v := 8) hx hb dL_mould_24 (by decide) ?_
      refine lv_icmp_le (tgt := 33) hx hb dL_mould_26 (by decide) (fun c_3 => ?_) (fun c_3 => ?_)
      · skip
        replace c_3 : sq ≤ 8 := (nI_leI (a := sq) (b := 8) (by omega) (by omega)).mp c_3
        refine lv_aload_n hx hb dL_mould_33 rfl (lv_at hl 1 rfl) ?_
        refine lv_bipush (v := 13) hx hb dL_mould_34 (by decide) ?_
        refine lv_iload_n hx hb dL_mould_36 rfl (lv_at hl 2 rfl) ?_
        refine lv_iadd hx hb dL_mould_37 ?_
        refine jv_as (y := nI (13 + j)) (nI_add 13 j) ?_
        refine jv_ald (k := 13 + j) hx hb hK hPr 0 0 rfl rfl (by omega) (by decide) dL_mould_38 ?_
        refine jv_as (y := nI sq) z13 ?_
        refine lv_iconst (v := 5) hx hb dL_mould_39 (by decide) ?_
        refine lv_icmp_le (tgt := 47) hx hb dL_mould_40 (by decide) (fun c_4 => ?_) (fun c_4 => ?_)
        · skip
          replace c_4 : sq ≤ 5 := (nI_leI (a := sq) (b := 5) (by omega) (by omega)).mp c_4
          refine lv_aload_n hx hb dL_mould_47 rfl (lv_at hl 1 rfl) ?_
          refine lv_bipush (v := 13) hx hb dL_mould_48 (by decide) ?_
          refine lv_iload_n hx hb dL_mould_50 rfl (lv_at hl 2 rfl) ?_
          refine lv_iadd hx hb dL_mould_51 ?_
          refine jv_as (y := nI (13 + j)) (nI_add 13 j) ?_
          refine jv_ald (k := 13 + j) hx hb hK hPr 0 0 rfl rfl (by omega) (by decide) dL_mould_52 ?_
          refine jv_as (y := nI sq) z13 ?_
          refine lv_iconst (v := 2) hx hb dL_mould_53 (by decide) ?_
          refine lv_icmp_le (tgt := 61) hx hb dL_mould_54 (by decide) (fun c_5 => ?_) (fun c_5 => ?_)
          · skip
            replace c_5 : sq ≤ 2 := (nI_leI (a := sq) (b := 2) (by omega) (by omega)).mp c_5
            refine lv_iconst (v := 3) hx hb dL_mould_61 (by decide) ?_
            refine lv_istore (lv' := [(4, .int 3), (3, .int (nI kq)), (0, .ref bb), (1, .int (nI j)), (2, .int y)]) hx hb dL_mould_62 hl (by decide) rfl (fun ls hl => ?_)
            refine lv_iload_n hx hb dL_mould_64 rfl (lv_at hl 1 rfl) ?_
            refine lv_iconst (v := 1) hx hb dL_mould_65 (by decide) ?_
            refine lv_icmp_ne (tgt := 72) hx hb dL_mould_66 (by decide) (fun c_6 => ?_) (fun c_6 => ?_)
            · skip
              replace c_6 : ¬ kq = 1 := fun h => c_6 ((nI_eq (a := kq) (b := 1) (by omega) (by omega)).mpr h)
              refine lv_iload hx hb dL_mould_72 (lv_at hl 0 rfl) ?_
              refine lv_iload_n hx hb dL_mould_74 rfl (lv_at hl 4 rfl) ?_
              refine lv_imul hx hb dL_mould_75 ?_
              refine lv_bipush (v := 20) hx hb dL_mould_76 (by decide) ?_
              refine lv_icmp_le (tgt := 86) hx hb dL_mould_78 (by decide) (fun c_7 => ?_) (fun c_7 => ?_)
              · skip
                refine lv_iload hx hb dL_mould_86 (lv_at hl 0 rfl) ?_
                refine lv_iload_n hx hb dL_mould_88 rfl (lv_at hl 4 rfl) ?_
                refine lv_imul hx hb dL_mould_89 ?_
                exact W.iret (v := 3 * y) hx hb hr (fun t ht hW => ⟨⟨3 * y, (), rfl, (by rw [em, lmo_v (v := 3) (lmm_v (v := 3) hk5 hs9 (by omega) (by omega) (by (repeat' split) <;> omega)), if_pos c_7]), trivial⟩, hS.F ht⟩) hS.2.2 dL_mould_90
              · skip
                refine lv_bipush (v := 20) hx hb dL_mould_81 (by decide) ?_
                refine lv_goto (tgt := 90) hx hb dL_mould_83 (by decide) ?_
                exact W.iret (v := 20) hx hb hr (fun t ht hW => ⟨⟨20, (), rfl, (by rw [em, lmo_v (v := 3) (lmm_v (v := 3) hk5 hs9 (by omega) (by omega) (by (repeat' split) <;> omega)), if_neg c_7]), trivial⟩, hS.F ht⟩) hS.2.2 dL_mould_90
            · skip
              replace c_6 : kq = 1 := (nI_eq (a := kq) (b := 1) (by omega) (by omega)).mp c_6
              refine lv_iinc (v := 4) (lv' := [(4, .int 4), (3, .int (nI kq)), (0, .ref bb), (1, .int (nI j)), (2, .int y)]) hx hb dL_mould_69 hl (k := 0) rfl (by decide) (by decide) rfl (fun ls hl => ?_)
              refine lv_iload hx hb dL_mould_72 (lv_at hl 0 rfl) ?_
              refine lv_iload_n hx hb dL_mould_74 rfl (lv_at hl 4 rfl) ?_
              refine lv_imul hx hb dL_mould_75 ?_
              refine lv_bipush (v := 20) hx hb dL_mould_76 (by decide) ?_
              refine lv_icmp_le (tgt := 86) hx hb dL_mould_78 (by decide) (fun c_8 => ?_) (fun c_8 => ?_)
              · skip
                refine lv_iload hx hb dL_mould_86 (lv_at hl 0 rfl) ?_
                refine lv_iload_n hx hb dL_mould_88 rfl (lv_at hl 4 rfl) ?_
                refine lv_imul hx hb dL_mould_89 ?_
                exact W.iret (v := 4 * y) hx hb hr (fun t ht hW => ⟨⟨4 * y, (), rfl, (by rw [em, lmo_v (v := 4) (lmm_v (v := 4) hk5 hs9 (by omega) (by omega) (by (repeat' split) <;> omega)), if_pos c_8]), trivial⟩, hS.F ht⟩) hS.2.2 dL_mould_90
              · skip
                refine lv_bipush (v := 20) hx hb dL_mould_81 (by decide) ?_
                refine lv_goto (tgt := 90) hx hb dL_mould_83 (by decide) ?_
                exact W.iret (v := 20) hx hb hr (fun t ht hW => ⟨⟨20, (), rfl, (by rw [em, lmo_v (v := 4) (lmm_v (v := 4) hk5 hs9 (by omega) (by omega) (by (repeat' split) <;> omega)), if_neg c_8]), trivial⟩, hS.F ht⟩) hS.2.2 dL_mould_90
          · skip
            replace c_5 : ¬ sq ≤ 2 := fun h => c_5 ((nI_leI (a := sq) (b := 2) (by omega) (by omega)).mpr h)
            refine lv_iconst (v := 2) hx hb dL_mould_57 (by decide) ?_
            refine lv_goto (tgt := 62) hx hb dL_mould_58 (by decide) ?_
            refine lv_istore (lv' := [(4, .int 2), (3, .int (nI kq)), (0, .ref bb), (1, .int (nI j)), (2, .int y)]) hx hb dL_mould_62 hl (by decide) rfl (fun ls hl => ?_)
            refine lv_iload_n hx hb dL_mould_64 rfl (lv_at hl 1 rfl) ?_
            refine lv_iconst (v := 1) hx hb dL_mould_65 (by decide) ?_
            refine lv_icmp_ne (tgt := 72) hx hb dL_mould_66 (by decide) (fun c_9 => ?_) (fun c_9 => ?_)
            · skip
              replace c_9 : ¬ kq = 1 := fun h => c_9 ((nI_eq (a := kq) (b := 1) (by omega) (by omega)).mpr h)
              refine lv_iload hx hb dL_mould_72 (lv_at hl 0 rfl) ?_
              refine lv_iload_n hx hb dL_mould_74 rfl (lv_at hl 4 rfl) ?_
              refine lv_imul hx hb dL_mould_75 ?_
              refine lv_bipush (v := 20) hx hb dL_mould_76 (by decide) ?_
              refine lv_icmp_le (tgt := 86) hx hb dL_mould_78 (by decide) (fun c_10 => ?_) (fun c_10 => ?_)
              · skip
                refine lv_iload hx hb dL_mould_86 (lv_at hl 0 rfl) ?_
                refine lv_iload_n hx hb dL_mould_88 rfl (lv_at hl 4 rfl) ?_
                refine lv_imul hx hb dL_mould_89 ?_
                exact W.iret (v := 2 * y) hx hb hr (fun t ht hW => ⟨⟨2 * y, (), rfl, (by rw [em, lmo_v (v := 2) (lmm_v (v := 2) hk5 hs9 (by omega) (by omega) (by (repeat' split) <;> omega)), if_pos c_10]), trivial⟩, hS.F ht⟩) hS.2.2 dL_mould_90
              · skip
                refine lv_bipush (v := 20) hx hb dL_mould_81 (by decide) ?_
                refine lv_goto (tgt := 90) hx hb dL_mould_83 (by decide) ?_
                exact W.iret (v := 20) hx hb hr (fun t ht hW => ⟨⟨20, (), rfl, (by rw [em, lmo_v (v := 2) (lmm_v (v := 2) hk5 hs9 (by omega) (by omega) (by (repeat' split) <;> omega)), if_neg c_10]), trivial⟩, hS.F ht⟩) hS.2.2 dL_mould_90
            · skip
              replace c_9 : kq = 1 := (nI_eq (a := kq) (b := 1) (by omega) (by omega)).mp c_9
              refine lv_iinc (v := 3) (lv' := [(4, .int 3), (3, .int (nI kq)), (0, .ref bb), (1, .int (nI j)), (2, .int y)]) hx hb dL_mould_69 hl (k := 0) rfl (by decide) (by decide) rfl (fun ls hl => ?_)
              refine lv_iload hx hb dL_mould_72 (lv_at hl 0 rfl) ?_
              refine lv_iload_n hx hb dL_mould_74 rfl (lv_at hl 4 rfl) ?_
              refine lv_imul hx hb dL_mould_75 ?_
              refine lv_bipush (v := 20) hx hb dL_mould_76 (by decide) ?_
              refine lv_icmp_le (tgt := 86) hx hb dL_mould_78 (by decide) (fun c_11 => ?_) (fun c_11 => ?_)
              · skip
                refine lv_iload hx hb dL_mould_86 (lv_at hl 0 rfl) ?_
                refine lv_iload_n hx hb dL_mould_88 rfl (lv_at hl 4 rfl) ?_
                refine lv_imul hx hb dL_mould_89 ?_
                exact W.iret (v := 3 * y) hx hb hr (fun t ht hW => ⟨⟨3 * y, (), rfl, (by rw [em, lmo_v (v := 3) (lmm_v (v := 3) hk5 hs9 (by omega) (by omega) (by (repeat' split) <;> omega)), if_pos c_11]), trivial⟩, hS.F ht⟩) hS.2.2 dL_mould_90
              · skip
                refine lv_bipush (v := 20) hx hb dL_mould_81 (by decide) ?_
                refine lv_goto (tgt := 90) hx hb dL_mould_83 (by decide) ?_
                exact W.iret (v := 20) hx hb hr (fun t ht hW => ⟨⟨20, (), rfl, (by rw [em, lmo_v (v := 3) (lmm_v (v := 3) hk5 hs9 (by omega) (by omega) (by (repeat' split) <;> omega)), if_neg c_11]), trivial⟩, hS.F ht⟩) hS.2.2 dL_mould_90
        · skip
          replace c_4 : ¬ sq ≤ 5 := fun h => c_4 ((nI_leI (a := sq) (b := 5) (by omega) (by omega)).mpr h)
          refine lv_iconst (v := 1) hx hb dL_mould_43 (by decide) ?_
          refine lv_goto (tgt := 62) hx hb dL_mould_44 (by decide) ?_
          refine lv_istore (lv' := [(4, .int 1), (3, .int (nI kq)), (0, .ref bb), (1, .int (nI j)), (2, .int y)]) hx hb dL_mould_62 hl (by decide) rfl (fun ls hl => ?_)
          refine lv_iload_n hx hb dL_mould_64 rfl (lv_at hl 1 rfl) ?_
          refine lv_iconst (v := 1) hx hb dL_mould_65 (by decide) ?_
          refine lv_icmp_ne (tgt := 72) hx hb dL_mould_66 (by decide) (fun c_12 => ?_) (fun c_12 => ?_)
          · skip
            replace c_12 : ¬ kq = 1 := fun h => c_12 ((nI_eq (a := kq) (b := 1) (by omega) (by omega)).mpr h)
            refine lv_iload hx hb dL_mould_72 (lv_at hl 0 rfl) ?_
            refine lv_iload_n hx hb dL_mould_74 rfl (lv_at hl 4 rfl) ?_
            refine lv_imul hx hb dL_mould_75 ?_
            refine lv_bipush (v := 20) hx hb dL_mould_76 (by decide) ?_
            refine lv_icmp_le (tgt := 86) hx hb dL_mould_78 (by decide) (fun c_13 => ?_) (fun c_13 => ?_)
            · skip
              refine lv_iload hx hb dL_mould_86 (lv_at hl 0 rfl) ?_
              refine lv_iload_n hx hb dL_mould_88 rfl (lv_at hl 4 rfl) ?_
              refine lv_imul hx hb dL_mould_89 ?_
              exact W.iret (v := 1 * y) hx hb hr (fun t ht hW => ⟨⟨1 * y, (), rfl, (by rw [em, lmo_v (v := 1) (lmm_v (v := 1) hk5 hs9 (by omega) (by omega) (by (repeat' split) <;> omega)), if_pos c_13]), trivial⟩, hS.F ht⟩) hS.2.2 dL_mould_90
            · skip
              refine lv_bipush (v := 20) hx hb dL_mould_81 (by decide) ?_
              refine lv_goto (tgt := 90) hx hb dL_mould_83 (by decide) ?_
              exact W.iret (v := 20) hx hb hr (fun t ht hW => ⟨⟨20, (), rfl, (by rw [em, lmo_v (v := 1) (lmm_v (v := 1) hk5 hs9 (by omega) (by omega) (by (repeat' split) <;> omega)), if_neg c_13]), trivial⟩, hS.F ht⟩) hS.2.2 dL_mould_90
          · skip
            replace c_12 : kq = 1 := (nI_eq (a := kq) (b := 1) (by omega) (by omega)).mp c_12
            refine lv_iinc (v := 2) (lv' := [(4, .int 2), (3, .int (nI kq)), (0, .ref bb), (1, .int (nI j)), (2, .int y)]) hx hb dL_mould_69 hl (k := 0) rfl (by decide) (by decide) rfl (fun ls hl => ?_)
            refine lv_iload hx hb dL_mould_72 (lv_at hl 0 rfl) ?_
            refine lv_iload_n hx hb dL_mould_74 rfl (lv_at hl 4 rfl) ?_
            refine lv_imul hx hb dL_mould_75 ?_
            refine lv_bipush (v := 20) hx hb dL_mould_76 (by decide) ?_
            refine lv_icmp_le (tgt := 86) hx hb dL_mould_78 (by decide) (fun c_14 => ?_) (fun c_14 => ?_)
            · skip
              refine lv_iload hx hb dL_mould_86 (lv_at hl 0 rfl) ?_
              refine lv_iload_n hx hb dL_mould_88 rfl (lv_at hl 4 rfl) ?_
              refine lv_imul hx hb dL_mould_89 ?_
              exact W.iret (v := 2 * y) hx hb hr (fun t ht hW => ⟨⟨2 * y, (), rfl, (by rw [em, lmo_v (v := 2) (lmm_v (v := 2) hk5 hs9 (by omega) (by omega) (by (repeat' split) <;> omega)), if_pos c_14]), trivial⟩, hS.F ht⟩) hS.2.2 dL_mould_90
            · skip
              refine lv_bipush (v := 20) hx hb dL_mould_81 (by decide) ?_
              refine lv_goto (tgt := 90) hx hb dL_mould_83 (by decide) ?_
              exact W.iret (v := 20) hx hb hr (fun t ht hW => ⟨⟨20, (), rfl, (by rw [em, lmo_v (v := 2) (lmm_v (v := 2) hk5 hs9 (by omega) (by omega) (by (repeat' split) <;> omega)), if_neg c_14]), trivial⟩, hS.F ht⟩) hS.2.2 dL_mould_90
      · skip
        replace c_3 : ¬ sq ≤ 8 := fun h => c_3 ((nI_leI (a := sq) (b := 8) (by omega) (by omega)).mpr h)
        refine lv_iconst (v := 0) hx hb dL_mould_29 (by decide) ?_
        refine lv_goto (tgt := 62) hx hb dL_mould_30 (by decide) ?_
        refine lv_istore (lv' := [(4, .int 0), (3, .int (nI kq)), (0, .ref bb), (1, .int (nI j)), (2, .int y)]) hx hb dL_mould_62 hl (by decide) rfl (fun ls hl => ?_)
        refine lv_iload_n hx hb dL_mould_64 rfl (lv_at hl 1 rfl) ?_
        refine lv_iconst (v := 1) hx hb dL_mould_65 (by decide) ?_
        refine lv_icmp_ne (tgt := 72) hx hb dL_mould_66 (by decide) (fun c_15 => ?_) (fun c_15 => ?_)
        · skip
          replace c_15 : ¬ kq = 1 := fun h => c_15 ((nI_eq (a := kq) (b := 1) (by omega) (by omega)).mpr h)
          refine lv_iload hx hb dL_mould_72 (lv_at hl 0 rfl) ?_
          refine lv_iload_n hx hb dL_mould_74 rfl (lv_at hl 4 rfl) ?_
          refine lv_imul hx hb dL_mould_75 ?_
          refine lv_bipush (v := 20) hx hb dL_mould_76 (by decide) ?_
          refine lv_icmp_le (tgt := 86) hx hb dL_mould_78 (by decide) (fun c_16 => ?_) (fun c_16 => ?_)
          · skip
            refine lv_iload hx hb dL_mould_86 (lv_at hl 0 rfl) ?_
            refine lv_iload_n hx hb dL_mould_88 rfl (lv_at hl 4 rfl) ?_
            refine lv_imul hx hb dL_mould_89 ?_
            exact W.iret (v := 0 * y) hx hb hr (fun t ht hW => ⟨⟨0 * y, (), rfl, (by rw [em, lmo_v (v := 0) (lmm_v (v := 0) hk5 hs9 (by omega) (by omega) (by (repeat' split) <;> omega)), if_pos c_16]), trivial⟩, hS.F ht⟩) hS.2.2 dL_mould_90
          · skip
            refine lv_bipush (v := 20) hx hb dL_mould_81 (by decide) ?_
            refine lv_goto (tgt := 90) hx hb dL_mould_83 (by decide) ?_
            exact W.iret (v := 20) hx hb hr (fun t ht hW => ⟨⟨20, (), rfl, (by rw [em, lmo_v (v := 0) (lmm_v (v := 0) hk5 hs9 (by omega) (by omega) (by (repeat' split) <;> omega)), if_neg c_16]), trivial⟩, hS.F ht⟩) hS.2.2 dL_mould_90
        · skip
          replace c_15 : kq = 1 := (nI_eq (a := kq) (b := 1) (by omega) (by omega)).mp c_15
          refine lv_iinc (v := 1) (lv' := [(4, .int 1), (3, .int (nI kq)), (0, .ref bb), (1, .int (nI j)), (2, .int y)]) hx hb dL_mould_69 hl (k := 0) rfl (by decide) (by decide) rfl (fun ls hl => ?_)
          refine lv_iload hx hb dL_mould_72 (lv_at hl 0 rfl) ?_
          refine lv_iload_n hx hb dL_mould_74 rfl (lv_at hl 4 rfl) ?_
          refine lv_imul hx hb dL_mould_75 ?_
          refine lv_bipush (v := 20) hx hb dL_mould_76 (by decide) ?_
          refine lv_icmp_le (tgt := 86) hx hb dL_mould_78 (by decide) (fun c_17 => ?_) (fun c_17 => ?_)
          · skip
            refine lv_iload hx hb dL_mould_86 (lv_at hl 0 rfl) ?_
            refine lv_iload_n hx hb dL_mould_88 rfl (lv_at hl 4 rfl) ?_
            refine lv_imul hx hb dL_mould_89 ?_
            exact W.iret (v := 1 * y) hx hb hr (fun t ht hW => ⟨⟨1 * y, (), rfl, (by rw [em, lmo_v (v := 1) (lmm_v (v := 1) hk5 hs9 (by omega) (by omega) (by (repeat' split) <;> omega)), if_pos c_17]), trivial⟩, hS.F ht⟩) hS.2.2 dL_mould_90
          · skip
            refine lv_bipush (v := 20) hx hb dL_mould_81 (by decide) ?_
            refine lv_goto (tgt := 90) hx hb dL_mould_83 (by decide) ?_
            exact W.iret (v := 20) hx hb hr (fun t ht hW => ⟨⟨20, (), rfl, (by rw [em, lmo_v (v := 1) (lmm_v (v := 1) hk5 hs9 (by omega) (by omega) (by (repeat' split) <;> omega)), if_neg c_17]), trivial⟩, hS.F ht⟩) hS.2.2 dL_mould_90
    · skip
      replace c_2 : kq = 4 := (nI_eq (a := kq) (b := 4) (by omega) (by omega)).mp c_2
      refine lv_iconst (v := 0) hx hb dL_mould_16 (by decide) ?_
      exact W.iret (v := 0) hx hb hr (fun t ht hW => ⟨⟨0, (), rfl, (by rw [em, lmo_0 (by omega)]), trivial⟩, hS.F ht⟩) hS.2.2 dL_mould_17

set_option maxHeartbeats 4000000 in
set_option maxRecDepth 100000 in
theorem cl_worth (l : Launch) (D : va_G) (cI cJ : ClassId) (bb : Nat) (n : Nat) (jk : Nat → Nat) (jg : Nat → Int32) (js : Nat → Int32) (jm : Nat → Int32) (Bv : Nat → Int32) (j : Nat) (fw : Nat → Int32 → Int32) (y : Int32) (hB : jB n jk jg js jm Bv) (hj : j < n) (hn6 : n ≤ 6) (hfw : ∀ i : Nat, i < n → ∀ z : Int32, cfw (jk i) (jg i) (jm i) z = fw i z) : jRi l yL_worth wsL_worth ({ frames := 1, cells := 0, slots := 0, locals := 24 }) [.ref bb, .int (nI j), .int y] D cI cJ (fun H => va_P D vwCl [(bb, .inl (cI, 19, .inl Bv))] H) (fun r => r = fw j y) := by
  intro sz
  refine Met.ofW (cc := cL_worth) (maxL := 4) (ret := (some .int)) (by decide) rfl ?_
  intro p e s m args below meth c s₁ B hml hv
  obtain ⟨rfl, hsz, hT, hPr⟩ := hv
  have hK := hT.1
  have hx := B.exec
  have hb := B.bytes
  have hr := B.returns
  have hts := atoms_spec (ws := wsL_worth) B.pre
  have hown : s.vm.findClass RL = some m.cls := findClass_of_methodNamed B.named
  have hlocks := B.notSynchronized
  subst hsz
  generalize hAe : va_A [] s.heap.size = A
  have hA : ∀ q : Nat, s.heap.size ≤ q → A q := fun q h => by rw [← hAe]; exact Or.inr h
  have hS : va_S A s.heap s.heap [] := va_S.rf
  have hl := lv_entry ([.ref bb, .int (nI j), .int y] : List Value) (n := 4) (Nat.le_of_ble_eq_true rfl)
  rw [lg_entry_eq]
  generalize (lg_sl ([.ref bb, .int (nI j), .int y]) ++ List.replicate (4 - (lg_sl ([.ref bb, .int (nI j), .int y])).length) Slot.unset).toArray = ls at hl ⊢
  have hl : lv_has ls 4 [(0, .ref bb), (1, .int (nI j)), (2, .int y)] := hl
  obtain ⟨kq, gq, sq, hk5, hg9, hs9, z1, z7, z13, ek, eg, es, em⟩ := hB.2 j (by omega)
  refine lv_aload_n hx hb dL_worth_0 rfl (lv_at hl 0 rfl) ?_
  refine lv_bipush (v := 7) hx hb dL_worth_1 (by decide) ?_
  refine lv_iload_n hx hb dL_worth_3 rfl (lv_at hl 1 rfl) ?_
  refine lv_iadd hx hb dL_worth_4 ?_
  refine jv_as (y := nI (7 + j)) (nI_add 7 j) ?_
  refine jv_ald (k := 7 + j) hx hb hK hPr 0 0 rfl rfl (by omega) (by decide) dL_worth_5 ?_
  refine jv_as (y := jg j) (z7.trans eg.symm) ?_
  refine lv_aload_n hx hb dL_worth_6 rfl (lv_at hl 0 rfl) ?_
  refine lv_iload_n hx hb dL_worth_7 rfl (lv_at hl 1 rfl) ?_
  refine lv_iload_n hx hb dL_worth_8 rfl (lv_at hl 2 rfl) ?_
  have hPc_1 := hPr.sub (ws' := [(bb, .inl (cI, 19, .inl Bv))]) [0] rfl
  refine jcalli (va_runS (As := [.ref bb, .int (nI j), .int y]) (rest := [.int (jg j)]) ⟨hx, hb, hml, hown, hts⟩ (cl_mould l D cI cJ bb n jk jg js jm Bv j y hB hj hn6 s.heap.size) (va_cwS 3 hts gL_worth_L_mould rfl rfl rfl (by decide +kernel) ⟨Nat.le_of_ble_eq_true rfl, Nat.le_of_ble_eq_true rfl⟩) (jpreS hT hPc_1) rfl rfl hl.1 rfl (lv_room (Nat.le_of_ble_eq_true rfl)) dL_worth_9 ⟨(Nat.zero_le _), (Nat.zero_le _)⟩) hS hA (fun r_2 H locs hw_r_2 hkq hS => ?_)
  try dsimp only at hw_r_2
  have hPr := jkeep hPr hkq
  subst hw_r_2
  refine lv_isub hx hb dL_worth_12 ?_
  refine lv_istore_n (lv' := [(3, .int ((jg j) - (jmo (jm j) y))), (0, .ref bb), (1, .int (nI j)), (2, .int y)]) hx hb dL_worth_13 rfl hl (by decide) rfl (fun ls hl => ?_)
  refine lv_aload_n hx hb dL_worth_14 rfl (lv_at hl 1 rfl) ?_
  refine lv_iconst (v := 1) hx hb dL_worth_15 (by decide) ?_
  refine lv_iload_n hx hb dL_worth_16 rfl (lv_at hl 2 rfl) ?_
  refine lv_iadd hx hb dL_worth_17 ?_
  refine jv_as (y := nI (1 + j)) (nI_add 1 j) ?_
  refine jv_ald (k := 1 + j) hx hb hK hPr 0 0 rfl rfl (by omega) (by decide) dL_worth_18 ?_
  refine jv_as (y := nI kq) z1 ?_
  refine lv_iconst (v := 3) hx hb dL_worth_19 (by decide) ?_
  refine lv_icmp_ne (tgt := 33) hx hb dL_worth_20 (by decide) (fun c_3 => ?_) (fun c_3 => ?_)
  · skip
    replace c_3 : ¬ kq = 3 := fun h => c_3 ((nI_eq (a := kq) (b := 3) (by omega) (by omega)).mpr h)
    refine lv_aload_n hx hb dL_worth_33 rfl (lv_at hl 1 rfl) ?_
    refine lv_iconst (v := 1) hx hb dL_worth_34 (by decide) ?_
    refine lv_iload_n hx hb dL_worth_35 rfl (lv_at hl 2 rfl) ?_
    refine lv_iadd hx hb dL_worth_36 ?_
    refine jv_as (y := nI (1 + j)) (nI_add 1 j) ?_
    refine jv_ald (k := 1 + j) hx hb hK hPr 0 0 rfl rfl (by omega) (by decide) dL_worth_37 ?_
    refine jv_as (y := nI kq) z1 ?_
    refine lv_iconst (v := 4) hx hb dL_worth_38 (by decide) ?_
    refine lv_icmp_ne (tgt := 48) hx hb dL_worth_39 (by decide) (fun c_4 => ?_) (fun c_4 => ?_)
    · skip
      replace c_4 : ¬ kq = 4 := fun h => c_4 ((nI_eq (a := kq) (b := 4) (by omega) (by omega)).mpr h)
      refine lv_iload_n hx hb dL_worth_48 rfl (lv_at hl 0 rfl) ?_
      exact W.iret (v := (jg j) - (jmo (jm j) y)) hx hb hr (fun t ht hW => ⟨⟨(jg j) - (jmo (jm j) y), (), rfl, (by rw [← hfw j hj y, ek, lfw hk5, if_neg c_4, if_neg (fun h => c_3 h.1)]), trivial⟩, hS.F ht⟩) hS.2.2 dL_worth_49
    · skip
      replace c_4 : kq = 4 := (nI_eq (a := kq) (b := 4) (by omega) (by omega)).mp c_4
      refine lv_iload_n hx hb dL_worth_42 rfl (lv_at hl 0 rfl) ?_
      refine lv_iload_n hx hb dL_worth_43 rfl (lv_at hl 0 rfl) ?_
      refine lv_iadd hx hb dL_worth_44 ?_
      refine lv_goto (tgt := 49) hx hb dL_worth_45 (by decide) ?_
      exact W.iret (v := ((jg j) - (jmo (jm j) y)) + ((jg j) - (jmo (jm j) y))) hx hb hr (fun t ht hW => ⟨⟨((jg j) - (jmo (jm j) y)) + ((jg j) - (jmo (jm j) y)), (), rfl, (by first | (exfalso; omega) | (rw [← hfw j hj y, ek, lfw hk5, if_pos c_4])), trivial⟩, hS.F ht⟩) hS.2.2 dL_worth_49
  · skip
    replace c_3 : kq = 3 := (nI_eq (a := kq) (b := 3) (by omega) (by omega)).mp c_3
    refine lv_iload_n hx hb dL_worth_23 rfl (lv_at hl 3 rfl) ?_
    refine lv_iconst (v := 2) hx hb dL_worth_24 (by decide) ?_
    refine lv_irem hx hb dL_worth_25 (by decide) ?_
    refine lv_iconst (v := 1) hx hb dL_worth_26 (by decide) ?_
    refine lv_icmp_ne (tgt := 33) hx hb dL_worth_27 (by decide) (fun c_5 => ?_) (fun c_5 => ?_)
    · skip
      refine lv_aload_n hx hb dL_worth_33 rfl (lv_at hl 1 rfl) ?_
      refine lv_iconst (v := 1) hx hb dL_worth_34 (by decide) ?_
      refine lv_iload_n hx hb dL_worth_35 rfl (lv_at hl 2 rfl) ?_
      refine lv_iadd hx hb dL_worth_36 ?_
      refine jv_as (y := nI (1 + j)) (nI_add 1 j) ?_
      refine jv_ald (k := 1 + j) hx hb hK hPr 0 0 rfl rfl (by omega) (by decide) dL_worth_37 ?_
      refine jv_as (y := nI kq) z1 ?_
      refine lv_iconst (v := 4) hx hb dL_worth_38 (by decide) ?_
      refine lv_icmp_ne (tgt := 48) hx hb dL_worth_39 (by decide) (fun c_6 => ?_) (fun c_6 => ?_)
      · skip
        replace c_6 : ¬ kq = 4 := fun h => c_6 ((nI_eq (a := kq) (b := 4) (by omega) (by omega)).mpr h)
        refine lv_iload_n hx hb dL_worth_48 rfl (lv_at hl 0 rfl) ?_
        exact W.iret (v := (jg j) - (jmo (jm j) y)) hx hb hr (fun t ht hW => ⟨⟨(jg j) - (jmo (jm j) y), (), rfl, (by rw [← hfw j hj y, ek, lfw hk5, if_neg c_6, if_neg (fun h => c_5 h.2)]), trivial⟩, hS.F ht⟩) hS.2.2 dL_worth_49
      · skip
        replace c_6 : kq = 4 := (nI_eq (a := kq) (b := 4) (by omega) (by omega)).mp c_6
        refine lv_iload_n hx hb dL_worth_42 rfl (lv_at hl 0 rfl) ?_
        refine lv_iload_n hx hb dL_worth_43 rfl (lv_at hl 0 rfl) ?_
        refine lv_iadd hx hb dL_worth_44 ?_
        refine lv_goto (tgt := 49) hx hb dL_worth_45 (by decide) ?_
        exact W.iret (v := ((jg j) - (jmo (jm j) y)) + ((jg j) - (jmo (jm j) y))) hx hb hr (fun t ht hW => ⟨⟨((jg j) - (jmo (jm j) y)) + ((jg j) - (jmo (jm j) y)), (), rfl, (by first | (exfalso; omega) | (rw [← hfw j hj y, ek, lfw hk5, if_pos c_6])), trivial⟩, hS.F ht⟩) hS.2.2 dL_worth_49
    · skip
      refine lv_iinc (v := ((jg j) - (jmo (jm j) y)) + 3) (lv' := [(3, .int (((jg j) - (jmo (jm j) y)) + 3)), (0, .ref bb), (1, .int (nI j)), (2, .int y)]) hx hb dL_worth_30 hl (k := 0) rfl rfl (by decide) rfl (fun ls hl => ?_)
      refine lv_aload_n hx hb dL_worth_33 rfl (lv_at hl 1 rfl) ?_
      refine lv_iconst (v := 1) hx hb dL_worth_34 (by decide) ?_
      refine lv_iload_n hx hb dL_worth_35 rfl (lv_at hl 2 rfl) ?_
      refine lv_iadd hx hb dL_worth_36 ?_
      refine jv_as (y := nI (1 + j)) (nI_add 1 j) ?_
      refine jv_ald (k := 1 + j) hx hb hK hPr 0 0 rfl rfl (by omega) (by decide) dL_worth_37 ?_
      refine jv_as (y := nI kq) z1 ?_
      refine lv_iconst (v := 4) hx hb dL_worth_38 (by decide) ?_
      refine lv_icmp_ne (tgt := 48) hx hb dL_worth_39 (by decide) (fun c_7 => ?_) (fun c_7 => ?_)
      · skip
        replace c_7 : ¬ kq = 4 := fun h => c_7 ((nI_eq (a := kq) (b := 4) (by omega) (by omega)).mpr h)
        refine lv_iload_n hx hb dL_worth_48 rfl (lv_at hl 0 rfl) ?_
        exact W.iret (v := ((jg j) - (jmo (jm j) y)) + 3) hx hb hr (fun t ht hW => ⟨⟨((jg j) - (jmo (jm j) y)) + 3, (), rfl, (by rw [← hfw j hj y, ek, lfw hk5, if_neg c_7, if_pos ⟨c_3, c_5⟩]), trivial⟩, hS.F ht⟩) hS.2.2 dL_worth_49
      · skip
        replace c_7 : kq = 4 := (nI_eq (a := kq) (b := 4) (by omega) (by omega)).mp c_7
        refine lv_iload_n hx hb dL_worth_42 rfl (lv_at hl 0 rfl) ?_
        refine lv_iload_n hx hb dL_worth_43 rfl (lv_at hl 0 rfl) ?_
        refine lv_iadd hx hb dL_worth_44 ?_
        refine lv_goto (tgt := 49) hx hb dL_worth_45 (by decide) ?_
        exact W.iret (v := (((jg j) - (jmo (jm j) y)) + 3) + (((jg j) - (jmo (jm j) y)) + 3)) hx hb hr (fun t ht hW => ⟨⟨(((jg j) - (jmo (jm j) y)) + 3) + (((jg j) - (jmo (jm j) y)) + 3), (), rfl, (by first | (exfalso; omega) | (rw [← hfw j hj y, ek, lfw hk5, if_pos c_7])), trivial⟩, hS.F ht⟩) hS.2.2 dL_worth_49

set_option maxHeartbeats 4000000 in
set_option maxRecDepth 100000 in
theorem cl_eat (l : Launch) (D : va_G) (cI cJ : ClassId) (bb : Nat) (dd : Nat) (n : Nat) (jk : Nat → Nat) (jg : Nat → Int32) (js : Nat → Int32) (jm : Nat → Int32) (fw : Nat → Int32 → Int32) (Bv : Nat → Int32) (sp : Nat → Int32) (en : Nat → Int32) (y : Int32) (jo : Int32) (ea : Int32) (lo : Int32) (j : Nat) (hB : jB n jk jg js jm Bv) (hj : j < n) (hn6 : n ≤ 6) (hfw : ∀ i : Nat, i < n → ∀ z : Int32, cfw (jk i) (jg i) (jm i) z = fw i z) : jWi l yL_eat wsL_eat ({ frames := 2, cells := 0, slots := 0, locals := 47 }) 0 0 [.ref bb, .ref dd, .int (nI j)] D cI cJ [(bb, .inl (cI, 19, .inl Bv)), (dd, .inl (cI, 16, .inl (jdd sp en y jo ea lo)))] (fun H => True) (fun r H => r = fw j y - en j ∧ va_P D vwCl [(bb, .inl (cI, 19, .inl Bv)), (dd, .inl (cI, 16, .inl (jdd (upd sp j (sp j - 1)) (upd en j (en j + 1)) y (jo + (fw j y - en j)) (ea + 1) lo)))] H) := by
  intro sz
  refine Met.ofW (cc := cL_eat) (maxL := 4) (ret := (some .int)) (by decide) rfl ?_
  intro p e s m args below meth c s₁ B hml hv
  obtain ⟨rfl, hsz, hT, hP, hD0, _⟩ := hv
  have hK := hT.1
  have hx := B.exec
  have hb := B.bytes
  have hr := B.returns
  have hts := atoms_spec (ws := wsL_eat) B.pre
  have hown : s.vm.findClass RL = some m.cls := findClass_of_methodNamed B.named
  have hlocks := B.notSynchronized
  subst hsz
  have hD := hD0.self (sz := s.heap.size)
  generalize hAe : va_A [(bb, .inl (cI, 19, .inl Bv)), (dd, .inl (cI, 16, .inl (jdd sp en y jo ea lo)))] s.heap.size = A at hD ⊢
  have hA : ∀ q : Nat, s.heap.size ≤ q → A q := fun q h => by rw [← hAe]; exact Or.inr h
  have hS : va_S A s.heap s.heap [] := va_S.rf
  have hl := lv_entry ([.ref bb, .ref dd, .int (nI j)] : List Value) (n := 4) (Nat.le_of_ble_eq_true rfl)
  rw [lg_entry_eq]
  generalize (lg_sl ([.ref bb, .ref dd, .int (nI j)]) ++ List.replicate (4 - (lg_sl ([.ref bb, .ref dd, .int (nI j)])).length) Slot.unset).toArray = ls at hl ⊢
  have hl : lv_has ls 4 [(0, .ref bb), (1, .ref dd), (2, .int (nI j))] := hl
  have hj6 : j < 6 := by omega
  refine lv_aload_n hx hb dL_eat_0 rfl (lv_at hl 0 rfl) ?_
  refine lv_iload_n hx hb dL_eat_1 rfl (lv_at hl 2 rfl) ?_
  refine lv_aload_n hx hb dL_eat_2 rfl (lv_at hl 1 rfl) ?_
  refine lv_bipush (v := 12) hx hb dL_eat_3 (by decide) ?_
  refine jv_ald (k := 12) hx hb hK hP 1 0 rfl rfl (by omega) (by decide) dL_eat_5 ?_
  refine jv_as (y := y) rfl ?_
  have hPc_1 := hP.sub (ws' := [(bb, .inl (cI, 19, .inl Bv))]) [0] rfl
  refine jcalli (va_runS (As := [.ref bb, .int (nI j), .int y]) (rest := []) ⟨hx, hb, hml, hown, hts⟩ (cl_worth l D cI cJ bb n jk jg js jm Bv j fw y hB hj hn6 hfw s.heap.size) (va_cwS 3 hts gL_eat_L_worth rfl rfl rfl (by decide +kernel) ⟨Nat.le_of_ble_eq_true rfl, Nat.le_of_ble_eq_true rfl⟩) (jpreS hT hPc_1) rfl rfl hl.1 rfl (lv_room (Nat.le_of_ble_eq_true rfl)) dL_eat_6 ⟨(Nat.zero_le _), (Nat.zero_le _)⟩) hS hA (fun r_2 H locs hw_r_2 hkq hS => ?_)
  try dsimp only at hw_r_2
  have hP := jkeep hP hkq
  subst hw_r_2
  refine lv_aload_n hx hb dL_eat_9 rfl (lv_at hl 1 rfl) ?_
  refine lv_bipush (v := 6) hx hb dL_eat_10 (by decide) ?_
  refine lv_iload_n hx hb dL_eat_12 rfl (lv_at hl 2 rfl) ?_
  refine lv_iadd hx hb dL_eat_13 ?_
  refine jv_as (y := nI (6 + j)) (nI_add 6 j) ?_
  refine jv_ald (k := 6 + j) hx hb hK hP 1 0 rfl rfl (by omega) (by decide) dL_eat_14 ?_
  refine jv_as (y := en j) (jdd_e hj6) ?_
  refine lv_isub hx hb dL_eat_15 ?_
  refine lv_istore_n (lv' := [(3, .int ((fw j y) - (en j))), (0, .ref bb), (1, .ref dd), (2, .int (nI j))]) hx hb dL_eat_16 rfl hl (by decide) rfl (fun ls hl => ?_)
  refine lv_aload_n hx hb dL_eat_17 rfl (lv_at hl 2 rfl) ?_
  refine lv_iload_n hx hb dL_eat_18 rfl (lv_at hl 3 rfl) ?_
  refine lv_dup2_11 hx hb dL_eat_19 rfl rfl ?_
  refine jv_ald (k := j) hx hb hK hP 1 0 rfl rfl (by omega) (by decide) dL_eat_20 ?_
  refine jv_as (y := sp j) (jdd_s hj6) ?_
  refine lv_iconst (v := 1) hx hb dL_eat_21 (by decide) ?_
  refine lv_isub hx hb dL_eat_22 ?_
  refine jv_ast (k := j) (x := (sp j) - 1) hx hb hK hP hD hS 1 0 rfl rfl (by omega) (by decide) dL_eat_23 (fun H locs hP hD hS => ?_)
  have hP : va_P D vwCl [(bb, .inl (cI, 19, .inl Bv)), (dd, .inl (cI, 16, .inl (upd (jdd sp en y jo ea lo) j ((sp j) - 1))))] H := hP
  have hD : va_D A [(bb, .inl (cI, 19, .inl Bv)), (dd, .inl (cI, 16, .inl (upd (jdd sp en y jo ea lo) j ((sp j) - 1))))] := hD
  have hP : va_P D vwCl [(bb, .inl (cI, 19, .inl Bv)), (dd, .inl (cI, 16, .inl (jdd (upd sp j ((sp j) - 1)) en y jo ea lo)))] H := by rw [jdd_us (by omega)]; exact hP
  have hD : va_D A [(bb, .inl (cI, 19, .inl Bv)), (dd, .inl (cI, 16, .inl (jdd (upd sp j ((sp j) - 1)) en y jo ea lo)))] := jD_of hD rfl
  refine lv_aload_n hx hb dL_eat_24 rfl (lv_at hl 2 rfl) ?_
  refine lv_bipush (v := 6) hx hb dL_eat_25 (by decide) ?_
  refine lv_iload_n hx hb dL_eat_27 rfl (lv_at hl 3 rfl) ?_
  refine lv_iadd hx hb dL_eat_28 ?_
  refine jv_as (y := nI (6 + j)) (nI_add 6 j) ?_
  refine lv_dup2_11 hx hb dL_eat_29 rfl rfl ?_
  refine jv_ald (k := 6 + j) hx hb hK hP 1 0 rfl rfl (by omega) (by decide) dL_eat_30 ?_
  refine jv_as (y := en j) (jdd_e hj6) ?_
  refine lv_iconst (v := 1) hx hb dL_eat_31 (by decide) ?_
  refine lv_iadd hx hb dL_eat_32 ?_
  refine jv_ast (k := 6 + j) (x := (en j) + 1) hx hb hK hP hD hS 1 0 rfl rfl (by omega) (by decide) dL_eat_33 (fun H locs hP hD hS => ?_)
  have hP : va_P D vwCl [(bb, .inl (cI, 19, .inl Bv)), (dd, .inl (cI, 16, .inl (upd (jdd (upd sp j ((sp j) - 1)) en y jo ea lo) (6 + j) ((en j) + 1))))] H := hP
  have hD : va_D A [(bb, .inl (cI, 19, .inl Bv)), (dd, .inl (cI, 16, .inl (upd (jdd (upd sp j ((sp j) - 1)) en y jo ea lo) (6 + j) ((en j) + 1))))] := hD
  have hP : va_P D vwCl [(bb, .inl (cI, 19, .inl Bv)), (dd, .inl (cI, 16, .inl (jdd (upd sp j ((sp j) - 1)) (upd en j ((en j) + 1)) y jo ea lo)))] H := by rw [jdd_ue (by omega)]; exact hP
  have hD : va_D A [(bb, .inl (cI, 19, .inl Bv)), (dd, .inl (cI, 16, .inl (jdd (upd sp j ((sp j) - 1)) (upd en j ((en j) + 1)) y jo ea lo)))] := jD_of hD rfl
  refine lv_aload_n hx hb dL_eat_34 rfl (lv_at hl 2 rfl) ?_
  refine lv_bipush (v := 13) hx hb dL_eat_35 (by decide) ?_
  refine lv_dup2_11 hx hb dL_eat_37 rfl rfl ?_
  refine jv_ald (k := 13) hx hb hK hP 1 0 rfl rfl (by omega) (by decide) dL_eat_38 ?_
  refine jv_as (y := jo) rfl ?_
  refine lv_iload_n hx hb dL_eat_39 rfl (lv_at hl 0 rfl) ?_
  refine lv_iadd hx hb dL_eat_40 ?_
  refine jv_ast (k := 13) (x := jo + ((fw j y) - (en j))) hx hb hK hP hD hS 1 0 rfl rfl (by omega) (by decide) dL_eat_41 (fun H locs hP hD hS => ?_)
  have hP : va_P D vwCl [(bb, .inl (cI, 19, .inl Bv)), (dd, .inl (cI, 16, .inl (upd (jdd (upd sp j ((sp j) - 1)) (upd en j ((en j) + 1)) y jo ea lo) 13 (jo + ((fw j y) - (en j))))))] H := hP
  have hD : va_D A [(bb, .inl (cI, 19, .inl Bv)), (dd, .inl (cI, 16, .inl (upd (jdd (upd sp j ((sp j) - 1)) (upd en j ((en j) + 1)) y jo ea lo) 13 (jo + ((fw j y) - (en j))))))] := hD
  have hP : va_P D vwCl [(bb, .inl (cI, 19, .inl Bv)), (dd, .inl (cI, 16, .inl (jdd (upd sp j ((sp j) - 1)) (upd en j ((en j) + 1)) y (jo + ((fw j y) - (en j))) ea lo)))] H := by rw [jdd_uj (jo := jo)]; exact hP
  have hD : va_D A [(bb, .inl (cI, 19, .inl Bv)), (dd, .inl (cI, 16, .inl (jdd (upd sp j ((sp j) - 1)) (upd en j ((en j) + 1)) y (jo + ((fw j y) - (en j))) ea lo)))] := jD_of hD rfl
  refine lv_aload_n hx hb dL_eat_42 rfl (lv_at hl 2 rfl) ?_
  refine lv_bipush (v := 14) hx hb dL_eat_43 (by decide) ?_
  refine lv_dup2_11 hx hb dL_eat_45 rfl rfl ?_
  refine jv_ald (k := 14) hx hb hK hP 1 0 rfl rfl (by omega) (by decide) dL_eat_46 ?_
  refine jv_as (y := ea) rfl ?_
  refine lv_iconst (v := 1) hx hb dL_eat_47 (by decide) ?_
  refine lv_iadd hx hb dL_eat_48 ?_
  refine jv_ast (k := 14) (x := ea + 1) hx hb hK hP hD hS 1 0 rfl rfl (by omega) (by decide) dL_eat_49 (fun H locs hP hD hS => ?_)
  have hP : va_P D vwCl [(bb, .inl (cI, 19, .inl Bv)), (dd, .inl (cI, 16, .inl (upd (jdd (upd sp j ((sp j) - 1)) (upd en j ((en j) + 1)) y (jo + ((fw j y) - (en j))) ea lo) 14 (ea + 1))))] H := hP
  have hD : va_D A [(bb, .inl (cI, 19, .inl Bv)), (dd, .inl (cI, 16, .inl (upd (jdd (upd sp j ((sp j) - 1)) (upd en j ((en j) + 1)) y (jo + ((fw j y) - (en j))) ea lo) 14 (ea + 1))))] := hD
  have hP : va_P D vwCl [(bb, .inl (cI, 19, .inl Bv)), (dd, .inl (cI, 16, .inl (jdd (upd sp j ((sp j) - 1)) (upd en j ((en j) + 1)) y (jo + ((fw j y) - (en j))) (ea + 1) lo)))] H := by rw [jdd_ua (ea := ea)]; exact hP
  have hD : va_D A [(bb, .inl (cI, 19, .inl Bv)), (dd, .inl (cI, 16, .inl (jdd (upd sp j ((sp j) - 1)) (upd en j ((en j) + 1)) y (jo + ((fw j y) - (en j))) (ea + 1) lo)))] := jD_of hD rfl
  refine lv_iload_n hx hb dL_eat_50 rfl (lv_at hl 0 rfl) ?_
  exact W.iret (v := (fw j y) - (en j)) hx hb hr (fun t ht hW => ⟨⟨(fw j y) - (en j), (fw j y) - (en j), rfl, rfl, by dsimp only; rw [ht]; exact ⟨rfl, hP⟩⟩, hS.F ht⟩) hS.2.2 dL_eat_51

set_option maxHeartbeats 4000000 in
set_option maxRecDepth 100000 in
theorem cl_goOn (l : Launch) (D : va_G) (cI cJ : ClassId) (dd : Nat) (sp : Nat → Int32) (en : Nat → Int32) (y : Int32) (jo : Int32) (ea : Int32) (lo : Int32)  : jWv l yL_goOn wsL_goOn ({ frames := 0, cells := 0, slots := 0, locals := 0 }) 0 0 [.ref dd] D cI cJ [(dd, .inl (cI, 16, .inl (jdd sp en y jo ea lo)))] (fun H => True) (fun H => va_P D vwCl [(dd, .inl (cI, 16, .inl (jdd sp (jfl (fun _ => 0) en 6) (y + 1) jo ea lo)))] H) := by
  intro sz
  refine Met.ofW (cc := cL_goOn) (maxL := 2) (ret := none) (by decide) rfl ?_
  intro p e s m args below meth c s₁ B hml hv
  obtain ⟨rfl, hsz, hT, hP, hD0, _⟩ := hv
  have hK := hT.1
  have hx := B.exec
  have hb := B.bytes
  have hr := B.returns
  have hts := atoms_spec (ws := wsL_goOn) B.pre
  have hown : s.vm.findClass RL = some m.cls := findClass_of_methodNamed B.named
  have hlocks := B.notSynchronized
  subst hsz
  have hD := hD0.self (sz := s.heap.size)
  generalize hAe : va_A [(dd, .inl (cI, 16, .inl (jdd sp en y jo ea lo)))] s.heap.size = A at hD ⊢
  have hA : ∀ q : Nat, s.heap.size ≤ q → A q := fun q h => by rw [← hAe]; exact Or.inr h
  have hS : va_S A s.heap s.heap [] := va_S.rf
  have hl := lv_entry ([.ref dd] : List Value) (n := 2) (Nat.le_of_ble_eq_true rfl)
  rw [lg_entry_eq]
  generalize (lg_sl ([.ref dd]) ++ List.replicate (2 - (lg_sl ([.ref dd])).length) Slot.unset).toArray = ls at hl ⊢
  have hl : lv_has ls 2 [(0, .ref dd)] := hl
  refine lv_aload_n hx hb dL_goOn_0 rfl (lv_at hl 0 rfl) ?_
  refine lv_bipush (v := 12) hx hb dL_goOn_1 (by decide) ?_
  refine lv_dup2_11 hx hb dL_goOn_3 rfl rfl ?_
  refine jv_ald (k := 12) hx hb hK hP 0 0 rfl rfl (by omega) (by decide) dL_goOn_4 ?_
  refine jv_as (y := y) rfl ?_
  refine lv_iconst (v := 1) hx hb dL_goOn_5 (by decide) ?_
  refine lv_iadd hx hb dL_goOn_6 ?_
  refine jv_ast (k := 12) (x := y + 1) hx hb hK hP hD hS 0 0 rfl rfl (by omega) (by decide) dL_goOn_7 (fun H locs hP hD hS => ?_)
  have hP : va_P D vwCl [(dd, .inl (cI, 16, .inl (upd (jdd sp en y jo ea lo) 12 (y + 1))))] H := hP
  have hD : va_D A [(dd, .inl (cI, 16, .inl (upd (jdd sp en y jo ea lo) 12 (y + 1))))] := hD
  have hP : va_P D vwCl [(dd, .inl (cI, 16, .inl (jdd sp en (y + 1) jo ea lo)))] H := by rw [jdd_uy (y := y)]; exact hP
  have hD : va_D A [(dd, .inl (cI, 16, .inl (jdd sp en (y + 1) jo ea lo)))] := jD_of hD rfl
  refine lv_iconst (v := 0) hx hb dL_goOn_8 (by decide) ?_
  refine lv_istore_n (lv' := [(1, .int 0), (0, .ref dd)]) hx hb dL_goOn_9 rfl hl (by decide) rfl (fun ls hl => ?_)
  have hP : va_P D vwCl [(dd, .inl (cI, 16, .inl (jdd sp (jfl (fun _ => 0) en 0) (y + 1) jo ea lo)))] H := by rw [jfl_0]; exact hP
  have hD : va_D A [(dd, .inl (cI, 16, .inl (jdd sp (jfl (fun _ => 0) en 0) (y + 1) jo ea lo)))] := jD_of hD rfl
  refine jloop (α := Nat) (fun (k : Nat) (H : Heap) (locs : List Loc) (ls : Array Slot) => (va_P D vwCl [(dd, .inl (cI, 16, .inl (jdd sp (jfl (fun _ => 0) en k) (y + 1) jo ea lo)))] H) ∧ (va_D A [(dd, .inl (cI, 16, .inl (jdd sp (jfl (fun _ => 0) en k) (y + 1) jo ea lo)))]) ∧ (va_S A s.heap H locs) ∧ (lv_has ls 2 [(0, .ref dd), (1, .int (nI k))]) ∧ (k ≤ 6)) (fun (k : Nat) => 6 - k) (fun k H locs ls hx9 ih_10 => ?_) 0 _ _ _ ⟨hP, hD, hS, lv_sub hl [1, 0] rfl, (by omega)⟩
  obtain ⟨hP, hD, hS, hl, hk9⟩ := hx9
  refine lv_iload_n hx hb dL_goOn_10 rfl (lv_at hl 1 rfl) ?_
  refine lv_bipush (v := 6) hx hb dL_goOn_11 (by decide) ?_
  refine lv_icmp_ge (tgt := 29) hx hb dL_goOn_13 (by decide) (fun c_1 => ?_) (fun c_1 => ?_)
  · skip
    replace c_1 : 6 ≤ k := (nI_leI (a := 6) (b := k) (by omega) (by omega)).mp c_1
    obtain rfl : k = 6 := by omega
    exact W.vret hx hb hr (fun t ht hW => ⟨⟨(), rfl, trivial, by dsimp only; rw [ht]; exact hP⟩, hS.F ht⟩) hS.2.2 dL_goOn_29
  · skip
    replace c_1 : ¬ 6 ≤ k := fun h => c_1 ((nI_leI (a := 6) (b := k) (by omega) (by omega)).mpr h)
    refine lv_aload_n hx hb dL_goOn_16 rfl (lv_at hl 0 rfl) ?_
    refine lv_bipush (v := 6) hx hb dL_goOn_17 (by decide) ?_
    refine lv_iload_n hx hb dL_goOn_19 rfl (lv_at hl 1 rfl) ?_
    refine lv_iadd hx hb dL_goOn_20 ?_
    refine jv_as (y := nI (6 + k)) (nI_add 6 k) ?_
    refine lv_iconst (v := 0) hx hb dL_goOn_21 (by decide) ?_
    refine jv_ast (k := 6 + k) (x := 0) hx hb hK hP hD hS 0 0 rfl rfl (by omega) (by decide) dL_goOn_22 (fun H locs hP hD hS => ?_)
    have hP : va_P D vwCl [(dd, .inl (cI, 16, .inl (upd (jdd sp (jfl (fun _ => 0) en k) (y + 1) jo ea lo) (6 + k) 0)))] H := hP
    have hD : va_D A [(dd, .inl (cI, 16, .inl (upd (jdd sp (jfl (fun _ => 0) en k) (y + 1) jo ea lo) (6 + k) 0)))] := hD
    refine lv_iinc (v := nI (k + 1)) (lv' := [(1, .int (nI (k + 1))), (0, .ref dd)]) hx hb dL_goOn_23 hl (k := 1) rfl ((rfl : nI k + Int32.ofInt 1 = nI k + nI 1).trans (nI_add k 1)) (by decide) rfl (fun ls hl => ?_)
    refine lv_goto (tgt := 10) hx hb dL_goOn_26 (by decide) ?_
    have hP : va_P D vwCl [(dd, .inl (cI, 16, .inl (jdd sp (jfl (fun _ => 0) en (k + 1)) (y + 1) jo ea lo)))] H := by rw [jdd_ng (by omega)]; exact hP
    have hD : va_D A [(dd, .inl (cI, 16, .inl (jdd sp (jfl (fun _ => 0) en (k + 1)) (y + 1) jo ea lo)))] := jD_of hD rfl
    exact ih_10 (k + 1) _ _ _ ⟨hP, hD, hS, lv_sub hl [1, 0] rfl, (by omega)⟩ (by omega)

set_option maxHeartbeats 4000000 in
set_option maxRecDepth 100000 in
theorem cl_left (l : Launch) (D : va_G) (cI cJ : ClassId) (dd : Nat) (sp : Nat → Int32) (en : Nat → Int32) (y : Int32) (jo : Int32) (ea : Int32) (lo : Int32)  : jRi l yL_left wsL_left ({ frames := 0, cells := 0, slots := 0, locals := 0 }) [.ref dd] D cI cJ (fun H => va_P D vwCl [(dd, .inl (cI, 16, .inl (jdd sp en y jo ea lo)))] H) (fun r => r = jsum sp 6) := by
  intro sz
  refine Met.ofW (cc := cL_left) (maxL := 1) (ret := (some .int)) (by decide) rfl ?_
  intro p e s m args below meth c s₁ B hml hv
  obtain ⟨rfl, hsz, hT, hPr⟩ := hv
  have hK := hT.1
  have hx := B.exec
  have hb := B.bytes
  have hr := B.returns
  have hts := atoms_spec (ws := wsL_left) B.pre
  have hown : s.vm.findClass RL = some m.cls := findClass_of_methodNamed B.named
  have hlocks := B.notSynchronized
  subst hsz
  generalize hAe : va_A [] s.heap.size = A
  have hA : ∀ q : Nat, s.heap.size ≤ q → A q := fun q h => by rw [← hAe]; exact Or.inr h
  have hS : va_S A s.heap s.heap [] := va_S.rf
  have hl := lv_entry ([.ref dd] : List Value) (n := 1) (Nat.le_of_ble_eq_true rfl)
  rw [lg_entry_eq]
  generalize (lg_sl ([.ref dd]) ++ List.replicate (1 - (lg_sl ([.ref dd])).length) Slot.unset).toArray = ls at hl ⊢
  have hl : lv_has ls 1 [(0, .ref dd)] := hl
  refine lv_aload_n hx hb dL_left_0 rfl (lv_at hl 0 rfl) ?_
  refine lv_iconst (v := 0) hx hb dL_left_1 (by decide) ?_
  refine jv_ald (k := 0) hx hb hK hPr 0 0 rfl rfl (by omega) (by decide) dL_left_2 ?_
  refine jv_as (y := sp 0) rfl ?_
  refine lv_aload_n hx hb dL_left_3 rfl (lv_at hl 0 rfl) ?_
  refine lv_iconst (v := 1) hx hb dL_left_4 (by decide) ?_
  refine jv_ald (k := 1) hx hb hK hPr 0 0 rfl rfl (by omega) (by decide) dL_left_5 ?_
  refine jv_as (y := sp 1) rfl ?_
  refine lv_iadd hx hb dL_left_6 ?_
  refine lv_aload_n hx hb dL_left_7 rfl (lv_at hl 0 rfl) ?_
  refine lv_iconst (v := 2) hx hb dL_left_8 (by decide) ?_
  refine jv_ald (k := 2) hx hb hK hPr 0 0 rfl rfl (by omega) (by decide) dL_left_9 ?_
  refine jv_as (y := sp 2) rfl ?_
  refine lv_iadd hx hb dL_left_10 ?_
  refine lv_aload_n hx hb dL_left_11 rfl (lv_at hl 0 rfl) ?_
  refine lv_iconst (v := 3) hx hb dL_left_12 (by decide) ?_
  refine jv_ald (k := 3) hx hb hK hPr 0 0 rfl rfl (by omega) (by decide) dL_left_13 ?_
  refine jv_as (y := sp 3) rfl ?_
  refine lv_iadd hx hb dL_left_14 ?_
  refine lv_aload_n hx hb dL_left_15 rfl (lv_at hl 0 rfl) ?_
  refine lv_iconst (v := 4) hx hb dL_left_16 (by decide) ?_
  refine jv_ald (k := 4) hx hb hK hPr 0 0 rfl rfl (by omega) (by decide) dL_left_17 ?_
  refine jv_as (y := sp 4) rfl ?_
  refine lv_iadd hx hb dL_left_18 ?_
  refine lv_aload_n hx hb dL_left_19 rfl (lv_at hl 0 rfl) ?_
  refine lv_iconst (v := 5) hx hb dL_left_20 (by decide) ?_
  refine jv_ald (k := 5) hx hb hK hPr 0 0 rfl rfl (by omega) (by decide) dL_left_21 ?_
  refine jv_as (y := sp 5) rfl ?_
  refine lv_iadd hx hb dL_left_22 ?_
  exact W.iret (v := (((((sp 0) + (sp 1)) + (sp 2)) + (sp 3)) + (sp 4)) + (sp 5)) hx hb hr (fun t ht hW => ⟨⟨(((((sp 0) + (sp 1)) + (sp 2)) + (sp 3)) + (sp 4)) + (sp 5), (), rfl, (by show _ = 0 + sp 0 + sp 1 + sp 2 + sp 3 + sp 4 + sp 5; rw [Int32.zero_add]), trivial⟩, hS.F ht⟩) hS.2.2 dL_left_23

set_option maxHeartbeats 4000000 in
set_option maxRecDepth 100000 in
theorem cl_over (l : Launch) (D : va_G) (cI cJ : ClassId) (to : Nat) (fr : Nat) (g0 : Nat → Int32) (f0 : Nat → Int32)  : jWv l yL_over wsL_over ({ frames := 0, cells := 0, slots := 0, locals := 0 }) 0 0 [.ref to, .ref fr] D cI cJ [(to, .inl (cI, 16, .inl g0)), (fr, .inl (cI, 16, .inl f0))] (fun H => True) (fun H => va_P D vwCl [(to, .inl (cI, 16, .inl f0)), (fr, .inl (cI, 16, .inl f0))] H) := by
  intro sz
  refine Met.ofW (cc := cL_over) (maxL := 3) (ret := none) (by decide) rfl ?_
  intro p e s m args below meth c s₁ B hml hv
  obtain ⟨rfl, hsz, hT, hP, hD0, _⟩ := hv
  have hK := hT.1
  have hx := B.exec
  have hb := B.bytes
  have hr := B.returns
  have hts := atoms_spec (ws := wsL_over) B.pre
  have hown : s.vm.findClass RL = some m.cls := findClass_of_methodNamed B.named
  have hlocks := B.notSynchronized
  subst hsz
  have hD := hD0.self (sz := s.heap.size)
  generalize hAe : va_A [(to, .inl (cI, 16, .inl g0)), (fr, .inl (cI, 16, .inl f0))] s.heap.size = A at hD ⊢
  have hA : ∀ q : Nat, s.heap.size ≤ q → A q := fun q h => by rw [← hAe]; exact Or.inr h
  have hS : va_S A s.heap s.heap [] := va_S.rf
  have hl := lv_entry ([.ref to, .ref fr] : List Value) (n := 3) (Nat.le_of_ble_eq_true rfl)
  rw [lg_entry_eq]
  generalize (lg_sl ([.ref to, .ref fr]) ++ List.replicate (3 - (lg_sl ([.ref to, .ref fr])).length) Slot.unset).toArray = ls at hl ⊢
  have hl : lv_has ls 3 [(0, .ref to), (1, .ref fr)] := hl
  refine lv_iconst (v := 0) hx hb dL_over_0 (by decide) ?_
  refine lv_istore_n (lv' := [(2, .int 0), (0, .ref to), (1, .ref fr)]) hx hb dL_over_1 rfl hl (by decide) rfl (fun ls hl => ?_)
  have hP : va_P D vwCl [(to, .inl (cI, 16, .inl (jfl f0 g0 0))), (fr, .inl (cI, 16, .inl f0))] s.heap := by rw [jfl_0]; exact hP
  have hD : va_D A [(to, .inl (cI, 16, .inl (jfl f0 g0 0))), (fr, .inl (cI, 16, .inl f0))] := jD_of hD rfl
  refine jloop (α := Nat) (fun (k : Nat) (H : Heap) (locs : List Loc) (ls : Array Slot) => (va_P D vwCl [(to, .inl (cI, 16, .inl (jfl f0 g0 k))), (fr, .inl (cI, 16, .inl f0))] H) ∧ (va_D A [(to, .inl (cI, 16, .inl (jfl f0 g0 k))), (fr, .inl (cI, 16, .inl f0))]) ∧ (va_S A s.heap H locs) ∧ (lv_has ls 3 [(0, .ref to), (1, .ref fr), (2, .int (nI k))]) ∧ (k ≤ 16)) (fun (k : Nat) => 16 - k) (fun k H locs ls hx9 ih_2 => ?_) 0 _ _ _ ⟨hP, hD, hS, lv_sub hl [1, 2, 0] rfl, (by omega)⟩
  obtain ⟨hP, hD, hS, hl, hk9⟩ := hx9
  refine lv_iload_n hx hb dL_over_2 rfl (lv_at hl 2 rfl) ?_
  refine lv_bipush (v := 16) hx hb dL_over_3 (by decide) ?_
  refine lv_icmp_ge (tgt := 20) hx hb dL_over_5 (by decide) (fun c_1 => ?_) (fun c_1 => ?_)
  · skip
    replace c_1 : 16 ≤ k := (nI_leI (a := 16) (b := k) (by omega) (by omega)).mp c_1
    obtain rfl : k = 16 := by omega
    have hP : va_P D vwCl [(to, .inl (cI, 16, .inl f0)), (fr, .inl (cI, 16, .inl f0))] H := jP_arr hP 0 rfl (fun i hi => if_pos hi)
    have hD : va_D A [(to, .inl (cI, 16, .inl f0)), (fr, .inl (cI, 16, .inl f0))] := jD_of hD rfl
    exact W.vret hx hb hr (fun t ht hW => ⟨⟨(), rfl, trivial, by dsimp only; rw [ht]; exact hP⟩, hS.F ht⟩) hS.2.2 dL_over_20
  · skip
    replace c_1 : ¬ 16 ≤ k := fun h => c_1 ((nI_leI (a := 16) (b := k) (by omega) (by omega)).mpr h)
    refine lv_aload_n hx hb dL_over_8 rfl (lv_at hl 0 rfl) ?_
    refine lv_iload_n hx hb dL_over_9 rfl (lv_at hl 2 rfl) ?_
    refine lv_aload_n hx hb dL_over_10 rfl (lv_at hl 1 rfl) ?_
    refine lv_iload_n hx hb dL_over_11 rfl (lv_at hl 2 rfl) ?_
    refine jv_ald (k := k) hx hb hK hP 1 0 rfl rfl (by omega) (by decide) dL_over_12 ?_
    refine jv_ast (k := k) (x := f0 k) hx hb hK hP hD hS 0 0 rfl rfl (by omega) (by decide) dL_over_13 (fun H locs hP hD hS => ?_)
    have hP : va_P D vwCl [(to, .inl (cI, 16, .inl (upd (jfl f0 g0 k) k (f0 k)))), (fr, .inl (cI, 16, .inl f0))] H := hP
    have hD : va_D A [(to, .inl (cI, 16, .inl (upd (jfl f0 g0 k) k (f0 k)))), (fr, .inl (cI, 16, .inl f0))] := hD
    refine lv_iinc (v := nI (k + 1)) (lv' := [(2, .int (nI (k + 1))), (0, .ref to), (1, .ref fr)]) hx hb dL_over_14 hl (k := 2) rfl ((rfl : nI k + Int32.ofInt 1 = nI k + nI 1).trans (nI_add k 1)) (by decide) rfl (fun ls hl => ?_)
    refine lv_goto (tgt := 2) hx hb dL_over_17 (by decide) ?_
    have hP : va_P D vwCl [(to, .inl (cI, 16, .inl (jfl f0 g0 (k + 1)))), (fr, .inl (cI, 16, .inl f0))] H := by rw [jfl_s (x := (f0 k)) rfl]; exact hP
    have hD : va_D A [(to, .inl (cI, 16, .inl (jfl f0 g0 (k + 1)))), (fr, .inl (cI, 16, .inl f0))] := jD_of hD rfl
    exact ih_2 (k + 1) _ _ _ ⟨hP, hD, hS, lv_sub hl [1, 2, 0] rfl, (by omega)⟩ (by omega)

set_option maxHeartbeats 4000000 in
set_option maxRecDepth 100000 in
theorem cl_after (l : Launch) (D : va_G) (cI cJ : ClassId) (q : Nat) (qn : Nat) (ql : Int64) (hq : q < 2147483648) (el : ql = lN q) (hqn : qn = jsd q) : jRl l yL_after wsL_after ({ frames := 0, cells := 0, slots := 0, locals := 0 }) [.long ql] D cI cJ (fun H => True) (fun r => r = lN qn) := by
  intro sz
  refine Met.ofW (cc := cL_after) (maxL := 2) (ret := (some .long)) (by decide) rfl ?_
  intro p e s m args below meth c s₁ B hml hv
  obtain ⟨rfl, hsz, hT, _⟩ := hv
  have hK := hT.1
  have hx := B.exec
  have hb := B.bytes
  have hr := B.returns
  have hts := atoms_spec (ws := wsL_after) B.pre
  have hown : s.vm.findClass RL = some m.cls := findClass_of_methodNamed B.named
  have hlocks := B.notSynchronized
  subst hsz
  generalize hAe : va_A [] s.heap.size = A
  have hA : ∀ q : Nat, s.heap.size ≤ q → A q := fun q h => by rw [← hAe]; exact Or.inr h
  have hS : va_S A s.heap s.heap [] := va_S.rf
  have hl := lv_entry ([.long ql] : List Value) (n := 2) (Nat.le_of_ble_eq_true rfl)
  rw [lg_entry_eq]
  generalize (lg_sl ([.long ql]) ++ List.replicate (2 - (lg_sl ([.long ql])).length) Slot.unset).toArray = ls at hl ⊢
  have hl : lv_has ls 2 [(0, .long ql)] := hl
  refine lv_lload_n hx hb dL_after_0 rfl (lv_at hl 0 rfl) ?_
  refine lv_ldc2 (v := 1103515245) hx hb hown (hts (Cond.constantLong RL 107 (1103515245)) (List.mem_of_getElem? (i := 1) rfl)) dL_after_1 ?_
  refine lv_lmul hx hb dL_after_4 ?_
  refine lv_ldc2 (v := 12345) hx hb hown (hts (Cond.constantLong RL 109 (12345)) (List.mem_of_getElem? (i := 2) rfl)) dL_after_5 ?_
  refine lv_ladd hx hb dL_after_8 ?_
  refine lv_ldc2 (v := 2147483648) hx hb hown (hts (Cond.constantLong RL 111 (2147483648)) (List.mem_of_getElem? (i := 3) rfl)) dL_after_9 ?_
  refine lv_lrem hx hb dL_after_12 (by decide) ?_
  exact W.lret (v := ((ql * 1103515245) + 12345) - ((ql * 1103515245) + 12345) / 2147483648 * 2147483648) hx hb hr (fun t ht hW => ⟨⟨((ql * 1103515245) + 12345) - ((ql * 1103515245) + 12345) / 2147483648 * 2147483648, (), rfl, (by rw [el, hqn]; exact jsd_l hq), trivial⟩, hS.F ht⟩) hS.2.2 dL_after_13

