set_option maxHeartbeats 4000000 in
set_option maxRecDepth 100000 in
theorem c_in_y (l : Launch) (D : va_G) (cI cJ : ClassId) (v : Int64) (lo : Int64) (hi : Int64) (h1 : lo ≤ v) (h2 : v ≤ hi) : jRi l yX7_in wsX7_in ({ frames := 0, cells := 0, slots := 0, locals := 0 }) [.long v, .long lo, .long hi] D cI cJ (fun H => True) (fun r => r = 1) := by
  intro sz
  refine Met.ofW (cc := cX7_in) (maxL := 6) (ret := (some .boolean)) (by decide) rfl ?_
  intro p e s m args below meth c s₁ B hml hv
  obtain ⟨rfl, hsz, hT, _⟩ := hv
  have hK := hT.1
  have hx := B.exec
  have hb := B.bytes
  have hr := B.returns
  have hts := atoms_spec (ws := wsX7_in) B.pre
  have hown : s.vm.findClass RX7 = some m.cls := findClass_of_methodNamed B.named
  have hlocks := B.notSynchronized
  subst hsz
  generalize hAe : va_A [] s.heap.size = A
  have hA : ∀ q : Nat, s.heap.size ≤ q → A q := fun q h => by rw [← hAe]; exact Or.inr h
  have hS : va_S A s.heap s.heap [] := va_S.rf
  have hl := lv_entry ([.long v, .long lo, .long hi] : List Value) (n := 6) (Nat.le_of_ble_eq_true rfl)
  rw [lg_entry_eq]
  generalize (lg_sl ([.long v, .long lo, .long hi]) ++ List.replicate (6 - (lg_sl ([.long v, .long lo, .long hi])).length) Slot.unset).toArray = ls at hl ⊢
  have hl : lv_has ls 6 [(0, .long v), (2, .long lo), (4, .long hi)] := hl
  refine lv_lload_n hx hb dX7_in_0 rfl (lv_at hl 0 rfl) ?_
  refine lv_lload_n hx hb dX7_in_1 rfl (lv_at hl 1 rfl) ?_
  refine W.lcmp hx hb dX7_in_2 ?_
  refine lv_if_lt (tgt := 17) hx hb dX7_in_3 (by decide) (fun c_1 => ?_) (fun c_1 => ?_)
  · skip
    exact absurd ((lg_cmp_lt _ _).mp c_1) (by rw [Int64.lt_iff_toInt_lt]; rw [Int64.le_iff_toInt_le] at h1; omega)
  · skip
    refine lv_lload_n hx hb dX7_in_6 rfl (lv_at hl 0 rfl) ?_
    refine lv_lload hx hb dX7_in_7 (lv_at hl 2 rfl) ?_
    refine W.lcmp hx hb dX7_in_9 ?_
    refine lv_if_gt (tgt := 17) hx hb dX7_in_10 (by decide) (fun c_2 => ?_) (fun c_2 => ?_)
    · skip
      exact absurd ((lg_cmp_gt _ _).mp c_2) (by rw [Int64.lt_iff_toInt_lt]; rw [Int64.le_iff_toInt_le] at h2; omega)
    · skip
      refine lv_iconst (v := 1) hx hb dX7_in_13 (by decide) ?_
      refine lv_goto (tgt := 18) hx hb dX7_in_14 (by decide) ?_
      exact W.zret (v := 1) hx hb hr (by decide) (fun t ht hW => ⟨⟨1, (), rfl, rfl, trivial⟩, hS.F ht⟩) hS.2.2 dX7_in_18

set_option maxHeartbeats 4000000 in
set_option maxRecDepth 100000 in
theorem c_in_n (l : Launch) (D : va_G) (cI cJ : ClassId) (v : Int64) (lo : Int64) (hi : Int64) (h9 : v < lo ∨ hi < v) : jRi l yX7_in wsX7_in ({ frames := 0, cells := 0, slots := 0, locals := 0 }) [.long v, .long lo, .long hi] D cI cJ (fun H => True) (fun r => r = 0) := by
  intro sz
  refine Met.ofW (cc := cX7_in) (maxL := 6) (ret := (some .boolean)) (by decide) rfl ?_
  intro p e s m args below meth c s₁ B hml hv
  obtain ⟨rfl, hsz, hT, _⟩ := hv
  have hK := hT.1
  have hx := B.exec
  have hb := B.bytes
  have hr := B.returns
  have hts := atoms_spec (ws := wsX7_in) B.pre
  have hown : s.vm.findClass RX7 = some m.cls := findClass_of_methodNamed B.named
  have hlocks := B.notSynchronized
  subst hsz
  generalize hAe : va_A [] s.heap.size = A
  have hA : ∀ q : Nat, s.heap.size ≤ q → A q := fun q h => by rw [← hAe]; exact Or.inr h
  have hS : va_S A s.heap s.heap [] := va_S.rf
  have hl := lv_entry ([.long v, .long lo, .long hi] : List Value) (n := 6) (Nat.le_of_ble_eq_true rfl)
  rw [lg_entry_eq]
  generalize (lg_sl ([.long v, .long lo, .long hi]) ++ List.replicate (6 - (lg_sl ([.long v, .long lo, .long hi])).length) Slot.unset).toArray = ls at hl ⊢
  have hl : lv_has ls 6 [(0, .long v), (2, .long lo), (4, .long hi)] := hl
  refine lv_lload_n hx hb dX7_in_0 rfl (lv_at hl 0 rfl) ?_
  refine lv_lload_n hx hb dX7_in_1 rfl (lv_at hl 1 rfl) ?_
  refine W.lcmp hx hb dX7_in_2 ?_
  refine lv_if_lt (tgt := 17) hx hb dX7_in_3 (by decide) (fun c_1 => ?_) (fun c_1 => ?_)
  · skip
    refine lv_iconst (v := 0) hx hb dX7_in_17 (by decide) ?_
    exact W.zret (v := 0) hx hb hr (by decide) (fun t ht hW => ⟨⟨0, (), rfl, rfl, trivial⟩, hS.F ht⟩) hS.2.2 dX7_in_18
  · skip
    refine lv_lload_n hx hb dX7_in_6 rfl (lv_at hl 0 rfl) ?_
    refine lv_lload hx hb dX7_in_7 (lv_at hl 2 rfl) ?_
    refine W.lcmp hx hb dX7_in_9 ?_
    refine lv_if_gt (tgt := 17) hx hb dX7_in_10 (by decide) (fun c_2 => ?_) (fun c_2 => ?_)
    · skip
      refine lv_iconst (v := 0) hx hb dX7_in_17 (by decide) ?_
      exact W.zret (v := 0) hx hb hr (by decide) (fun t ht hW => ⟨⟨0, (), rfl, rfl, trivial⟩, hS.F ht⟩) hS.2.2 dX7_in_18
    · skip
      exact (h9.elim (fun h => c_1 ((lg_cmp_lt _ _).mpr h)) (fun h => c_2 ((lg_cmp_gt _ _).mpr h))).elim

/-- the reference's kind of a letter -/
def mkd (c : Int32) : Int32 := if c = 106 then 0 else if c = 119 then 1 else if c = 99 then 2 else if c = 112 then 3 else if c = 103 then 4 else -1
def mgd (k : Nat) (c : Int32) : Int32 := if k % 4 = 0 then (if 24 ≤ k then 0 else if mkd c = -1 then 0 else 1) else if k % 4 = 3 then (if c = 44 then (if 23 ≤ k then 0 else 1) else 0) else if (48 : Int32) ≤ c then (if c ≤ 57 then 1 else 0) else 0
theorem mgd_b (k : Nat) (c : Int32) : mgd k c = 0 ∨ mgd k c = 1 := by
  unfold mgd
  repeat' split
  all_goals first | exact Or.inl rfl | exact Or.inr rfl
theorem jw_le {a b : Int32} (h : a ≤ b) : a.toInt64 ≤ b.toInt64 := by rw [Int64.le_iff_toInt_le, Int32.toInt_toInt64, Int32.toInt_toInt64, ← Int32.le_iff_toInt_le]; exact h
theorem jw_lt {a b : Int32} (h : a < b) : a.toInt64 < b.toInt64 := by rw [Int64.lt_iff_toInt_lt, Int32.toInt_toInt64, Int32.toInt_toInt64, ← Int32.lt_iff_toInt_lt]; exact h
theorem jnlt {a b : Int32} (h : ¬ a < b) : b ≤ a := by rw [fa_lt] at h; rw [fa_le]; omega
theorem jnle {a b : Int32} (h : ¬ a ≤ b) : b < a := by rw [fa_le] at h; rw [fa_lt]; omega
set_option maxHeartbeats 4000000 in
set_option maxRecDepth 100000 in
theorem c_kindBy (l : Launch) (D : va_G) (cI cJ : ClassId) (p0 : Int32)  : jRi l yX7_kindBy wsX7_kindBy ({ frames := 0, cells := 0, slots := 0, locals := 0 }) [.int p0] D cI cJ (fun H => True) (fun r => r = mkd p0) := by
  intro sz
  refine Met.ofW (cc := cX7_kindBy) (maxL := 1) (ret := (some .int)) (by decide) rfl ?_
  intro p e s m args below meth c s₁ B hml hv
  obtain ⟨rfl, hsz, hT, _⟩ := hv
  have hK := hT.1
  have hx := B.exec
  have hb := B.bytes
  have hr := B.returns
  have hts := atoms_spec (ws := wsX7_kindBy) B.pre
  have hown : s.vm.findClass RX7 = some m.cls := findClass_of_methodNamed B.named
  have hlocks := B.notSynchronized
  subst hsz
  generalize hAe : va_A [] s.heap.size = A
  have hA : ∀ q : Nat, s.heap.size ≤ q → A q := fun q h => by rw [← hAe]; exact Or.inr h
  have hS : va_S A s.heap s.heap [] := va_S.rf
  have hl := lv_entry ([.int p0] : List Value) (n := 1) (Nat.le_of_ble_eq_true rfl)
  rw [lg_entry_eq]
  generalize (lg_sl ([.int p0]) ++ List.replicate (1 - (lg_sl ([.int p0])).length) Slot.unset).toArray = ls at hl ⊢
  have hl : lv_has ls 1 [(0, .int p0)] := hl
  refine lv_iload_n hx hb dX7_kindBy_0 rfl (lv_at hl 0 rfl) ?_
  refine lv_bipush (v := 106) hx hb dX7_kindBy_1 (by decide) ?_
  refine lv_icmp_ne (tgt := 10) hx hb dX7_kindBy_3 (by decide) (fun c_1 => ?_) (fun c_1 => ?_)
  · skip
    refine lv_iload_n hx hb dX7_kindBy_10 rfl (lv_at hl 0 rfl) ?_
    refine lv_bipush (v := 119) hx hb dX7_kindBy_11 (by decide) ?_
    refine lv_icmp_ne (tgt := 20) hx hb dX7_kindBy_13 (by decide) (fun c_2 => ?_) (fun c_2 => ?_)
    · skip
      refine lv_iload_n hx hb dX7_kindBy_20 rfl (lv_at hl 0 rfl) ?_
      refine lv_bipush (v := 99) hx hb dX7_kindBy_21 (by decide) ?_
      refine lv_icmp_ne (tgt := 30) hx hb dX7_kindBy_23 (by decide) (fun c_3 => ?_) (fun c_3 => ?_)
      · skip
        refine lv_iload_n hx hb dX7_kindBy_30 rfl (lv_at hl 0 rfl) ?_
        refine lv_bipush (v := 112) hx hb dX7_kindBy_31 (by decide) ?_
        refine lv_icmp_ne (tgt := 40) hx hb dX7_kindBy_33 (by decide) (fun c_4 => ?_) (fun c_4 => ?_)
        · skip
          refine lv_iload_n hx hb dX7_kindBy_40 rfl (lv_at hl 0 rfl) ?_
          refine lv_bipush (v := 103) hx hb dX7_kindBy_41 (by decide) ?_
          refine lv_icmp_ne (tgt := 50) hx hb dX7_kindBy_43 (by decide) (fun c_5 => ?_) (fun c_5 => ?_)
          · skip
            refine lv_iconst (v := (-1)) hx hb dX7_kindBy_50 (by decide) ?_
            exact W.iret (v := (-1)) hx hb hr (fun t ht hW => ⟨⟨(-1), (), rfl, (by simp [mkd, c_1, c_2, c_3, c_4, c_5]), trivial⟩, hS.F ht⟩) hS.2.2 dX7_kindBy_51
          · skip
            refine lv_iconst (v := 4) hx hb dX7_kindBy_46 (by decide) ?_
            refine lv_goto (tgt := 51) hx hb dX7_kindBy_47 (by decide) ?_
            exact W.iret (v := 4) hx hb hr (fun t ht hW => ⟨⟨4, (), rfl, (by simp [mkd, c_1, c_2, c_3, c_4, c_5]), trivial⟩, hS.F ht⟩) hS.2.2 dX7_kindBy_51
        · skip
          refine lv_iconst (v := 3) hx hb dX7_kindBy_36 (by decide) ?_
          refine lv_goto (tgt := 51) hx hb dX7_kindBy_37 (by decide) ?_
          exact W.iret (v := 3) hx hb hr (fun t ht hW => ⟨⟨3, (), rfl, (by simp [mkd, c_1, c_2, c_3, c_4]), trivial⟩, hS.F ht⟩) hS.2.2 dX7_kindBy_51
      · skip
        refine lv_iconst (v := 2) hx hb dX7_kindBy_26 (by decide) ?_
        refine lv_goto (tgt := 51) hx hb dX7_kindBy_27 (by decide) ?_
        exact W.iret (v := 2) hx hb hr (fun t ht hW => ⟨⟨2, (), rfl, (by simp [mkd, c_1, c_2, c_3]), trivial⟩, hS.F ht⟩) hS.2.2 dX7_kindBy_51
    · skip
      refine lv_iconst (v := 1) hx hb dX7_kindBy_16 (by decide) ?_
      refine lv_goto (tgt := 51) hx hb dX7_kindBy_17 (by decide) ?_
      exact W.iret (v := 1) hx hb hr (fun t ht hW => ⟨⟨1, (), rfl, (by simp [mkd, c_1, c_2]), trivial⟩, hS.F ht⟩) hS.2.2 dX7_kindBy_51
  · skip
    refine lv_iconst (v := 0) hx hb dX7_kindBy_6 (by decide) ?_
    refine lv_goto (tgt := 51) hx hb dX7_kindBy_7 (by decide) ?_
    exact W.iret (v := 0) hx hb hr (fun t ht hW => ⟨⟨0, (), rfl, (by simp [mkd, c_1]), trivial⟩, hS.F ht⟩) hS.2.2 dX7_kindBy_51

set_option maxHeartbeats 4000000 in
set_option maxRecDepth 100000 in
theorem c_isGood (l : Launch) (D : va_G) (cI cJ : ClassId) (k : Nat) (p0 : Int32) (hk : k < 100) : jRi l yX7_isGood wsX7_isGood ({ frames := 1, cells := 0, slots := 0, locals := 25 }) [.int (nI k), .int p0] D cI cJ (fun H => True) (fun r => r = mgd k p0) := by
  intro sz
  refine Met.ofW (cc := cX7_isGood) (maxL := 2) (ret := (some .boolean)) (by decide) rfl ?_
  intro p e s m args below meth c s₁ B hml hv
  obtain ⟨rfl, hsz, hT, _⟩ := hv
  have hK := hT.1
  have hx := B.exec
  have hb := B.bytes
  have hr := B.returns
  have hts := atoms_spec (ws := wsX7_isGood) B.pre
  have hown : s.vm.findClass RX7 = some m.cls := findClass_of_methodNamed B.named
  have hlocks := B.notSynchronized
  subst hsz
  generalize hAe : va_A [] s.heap.size = A
  have hA : ∀ q : Nat, s.heap.size ≤ q → A q := fun q h => by rw [← hAe]; exact Or.inr h
  have hS : va_S A s.heap s.heap [] := va_S.rf
  have hl := lv_entry ([.int (nI k), .int p0] : List Value) (n := 2) (Nat.le_of_ble_eq_true rfl)
  rw [lg_entry_eq]
  generalize (lg_sl ([.int (nI k), .int p0]) ++ List.replicate (2 - (lg_sl ([.int (nI k), .int p0])).length) Slot.unset).toArray = ls at hl ⊢
  have hl : lv_has ls 2 [(0, .int (nI k)), (1, .int p0)] := hl
  refine lv_iload_n hx hb dX7_isGood_0 rfl (lv_at hl 0 rfl) ?_
  refine lv_iconst (v := 4) hx hb dX7_isGood_1 (by decide) ?_
  refine lv_irem hx hb dX7_isGood_2 (by decide) ?_
  refine jv_as (y := nI (k % 4)) (by rw [show (4 : Int32) = nI 4 from rfl]; exact pk_rem (by omega) (by omega) (by omega)) ?_
  by_cases c_1 : k % 4 = 0
  · skip
    refine lv_tableIn (off := 25) (tgt := 28) hx hb dX7_isGood_3 (by rw [c_1]; decide) (by rw [c_1]; decide) (by rw [c_1]; decide) (by decide) ?_
    refine lv_iload_n hx hb dX7_isGood_28 rfl (lv_at hl 0 rfl) ?_
    refine lv_bipush (v := 24) hx hb dX7_isGood_29 (by decide) ?_
    refine lv_icmp_ge (tgt := 46) hx hb dX7_isGood_31 (by decide) (fun c_2 => ?_) (fun c_2 => ?_)
    · skip
      replace c_2 : 24 ≤ k := (nI_leI (a := 24) (b := k) (by omega) (by omega)).mp c_2
      refine lv_iconst (v := 0) hx hb dX7_isGood_46 (by decide) ?_
      exact W.zret (v := 0) hx hb hr (by decide) (fun t ht hW => ⟨⟨0, (), rfl, (by simp [mgd, c_1, c_2]), trivial⟩, hS.F ht⟩) hS.2.2 dX7_isGood_47
    · skip
      replace c_2 : ¬ 24 ≤ k := fun h => c_2 ((nI_leI (a := 24) (b := k) (by omega) (by omega)).mpr h)
      refine lv_iload_n hx hb dX7_isGood_34 rfl (lv_at hl 1 rfl) ?_
      refine jcalli (va_runS (As := [.int p0]) (rest := []) ⟨hx, hb, hml, hown, hts⟩ (c_kindBy l D cI cJ p0 s.heap.size) (va_cwS 1 hts gX7_isGood_X7_kindBy rfl rfl rfl (by decide +kernel) ⟨Nat.le_of_ble_eq_true rfl, Nat.le_of_ble_eq_true rfl⟩) (jpreS hT trivial) rfl rfl hl.1 rfl (lv_room (Nat.le_of_ble_eq_true rfl)) dX7_isGood_35 ⟨(Nat.zero_le _), (Nat.zero_le _)⟩) hS hA (fun r_3 H locs hw_r_3 hkq hS => ?_)
      try dsimp only at hw_r_3
      subst hw_r_3
      refine lv_iconst (v := (-1)) hx hb dX7_isGood_38 (by decide) ?_
      refine lv_icmp_eq (tgt := 46) hx hb dX7_isGood_39 (by decide) (fun c_4 => ?_) (fun c_4 => ?_)
      · skip
        refine lv_iconst (v := 0) hx hb dX7_isGood_46 (by decide) ?_
        exact W.zret (v := 0) hx hb hr (by decide) (fun t ht hW => ⟨⟨0, (), rfl, (by simp [mgd, c_1, c_2, c_4]), trivial⟩, hS.F ht⟩) hS.2.2 dX7_isGood_47
      · skip
        refine lv_iconst (v := 1) hx hb dX7_isGood_42 (by decide) ?_
        refine lv_goto (tgt := 47) hx hb dX7_isGood_43 (by decide) ?_
        exact W.zret (v := 1) hx hb hr (by decide) (fun t ht hW => ⟨⟨1, (), rfl, (by simp [mgd, c_1, c_2, c_4]), trivial⟩, hS.F ht⟩) hS.2.2 dX7_isGood_47
  by_cases c_5 : k % 4 = 1
  · skip
    refine lv_tableIn (off := 45) (tgt := 48) hx hb dX7_isGood_3 (by rw [c_5]; decide) (by rw [c_5]; decide) (by rw [c_5]; decide) (by decide) ?_
    by_cases h48 : (48 : Int32) ≤ p0
    · skip
      by_cases h57 : p0 ≤ 57
      · skip
        refine lv_iload_n hx hb dX7_isGood_48 rfl (lv_at hl 1 rfl) ?_
        refine lv_i2l (v := p0.toInt64) hx hb dX7_isGood_49 rfl ?_
        refine lv_ldc2 (v := 48) hx hb hown (hts (Cond.constantLong RX7 51 (48)) (List.mem_of_getElem? (i := 1) rfl)) dX7_isGood_50 ?_
        refine lv_ldc2 (v := 57) hx hb hown (hts (Cond.constantLong RX7 53 (57)) (List.mem_of_getElem? (i := 2) rfl)) dX7_isGood_53 ?_
        refine jcalli (va_runS (As := [.long p0.toInt64, .long 48, .long 57]) (rest := []) ⟨hx, hb, hml, hown, hts⟩ (c_in_y l D cI cJ p0.toInt64 48 57 (jw_le (a := 48) h48) (jw_le (b := 57) h57) s.heap.size) (va_cwS 3 hts gX7_isGood_X7_in rfl rfl rfl (by decide +kernel) ⟨Nat.le_of_ble_eq_true rfl, Nat.le_of_ble_eq_true rfl⟩) (jpreS hT trivial) rfl rfl hl.1 rfl (lv_room (Nat.le_of_ble_eq_true rfl)) dX7_isGood_56 ⟨(Nat.zero_le _), (Nat.zero_le _)⟩) hS hA (fun r_6 H locs hw_r_6 hkq hS => ?_)
        try dsimp only at hw_r_6
        subst hw_r_6
        exact W.zret (v := 1) hx hb hr (by decide) (fun t ht hW => ⟨⟨1, (), rfl, (by simp [mgd, c_1, c_5, h48, h57]), trivial⟩, hS.F ht⟩) hS.2.2 dX7_isGood_59
      · skip
        refine lv_iload_n hx hb dX7_isGood_48 rfl (lv_at hl 1 rfl) ?_
        refine lv_i2l (v := p0.toInt64) hx hb dX7_isGood_49 rfl ?_
        refine lv_ldc2 (v := 48) hx hb hown (hts (Cond.constantLong RX7 51 (48)) (List.mem_of_getElem? (i := 1) rfl)) dX7_isGood_50 ?_
        refine lv_ldc2 (v := 57) hx hb hown (hts (Cond.constantLong RX7 53 (57)) (List.mem_of_getElem? (i := 2) rfl)) dX7_isGood_53 ?_
        refine jcalli (va_runS (As := [.long p0.toInt64, .long 48, .long 57]) (rest := []) ⟨hx, hb, hml, hown, hts⟩ (c_in_n l D cI cJ p0.toInt64 48 57 (Or.inr (jw_lt (a := 57) (jnle h57))) s.heap.size) (va_cwS 3 hts gX7_isGood_X7_in rfl rfl rfl (by decide +kernel) ⟨Nat.le_of_ble_eq_true rfl, Nat.le_of_ble_eq_true rfl⟩) (jpreS hT trivial) rfl rfl hl.1 rfl (lv_room (Nat.le_of_ble_eq_true rfl)) dX7_isGood_56 ⟨(Nat.zero_le _), (Nat.zero_le _)⟩) hS hA (fun r_7 H locs hw_r_7 hkq hS => ?_)
        try dsimp only at hw_r_7
        subst hw_r_7
        exact W.zret (v := 0) hx hb hr (by decide) (fun t ht hW => ⟨⟨0, (), rfl, (by simp [mgd, c_1, c_5, h48, h57]), trivial⟩, hS.F ht⟩) hS.2.2 dX7_isGood_59
    · skip
      refine lv_iload_n hx hb dX7_isGood_48 rfl (lv_at hl 1 rfl) ?_
      refine lv_i2l (v := p0.toInt64) hx hb dX7_isGood_49 rfl ?_
      refine lv_ldc2 (v := 48) hx hb hown (hts (Cond.constantLong RX7 51 (48)) (List.mem_of_getElem? (i := 1) rfl)) dX7_isGood_50 ?_
      refine lv_ldc2 (v := 57) hx hb hown (hts (Cond.constantLong RX7 53 (57)) (List.mem_of_getElem? (i := 2) rfl)) dX7_isGood_53 ?_
      refine jcalli (va_runS (As := [.long p0.toInt64, .long 48, .long 57]) (rest := []) ⟨hx, hb, hml, hown, hts⟩ (c_in_n l D cI cJ p0.toInt64 48 57 (Or.inl (jw_lt (b := 48) (jnle h48))) s.heap.size) (va_cwS 3 hts gX7_isGood_X7_in rfl rfl rfl (by decide +kernel) ⟨Nat.le_of_ble_eq_true rfl, Nat.le_of_ble_eq_true rfl⟩) (jpreS hT trivial) rfl rfl hl.1 rfl (lv_room (Nat.le_of_ble_eq_true rfl)) dX7_isGood_56 ⟨(Nat.zero_le _), (Nat.zero_le _)⟩) hS hA (fun r_8 H locs hw_r_8 hkq hS => ?_)
      try dsimp only at hw_r_8
      subst hw_r_8
      exact W.zret (v := 0) hx hb hr (by decide) (fun t ht hW => ⟨⟨0, (), rfl, (by simp [mgd, c_1, c_5, h48]), trivial⟩, hS.F ht⟩) hS.2.2 dX7_isGood_59
  by_cases c_9 : k % 4 = 2
  · skip
    refine lv_tableIn (off := 45) (tgt := 48) hx hb dX7_isGood_3 (by rw [c_9]; decide) (by rw [c_9]; decide) (by rw [c_9]; decide) (by decide) ?_
    by_cases h48 : (48 : Int32) ≤ p0
    · skip
      by_cases h57 : p0 ≤ 57
      · skip
        refine lv_iload_n hx hb dX7_isGood_48 rfl (lv_at hl 1 rfl) ?_
        refine lv_i2l (v := p0.toInt64) hx hb dX7_isGood_49 rfl ?_
        refine lv_ldc2 (v := 48) hx hb hown (hts (Cond.constantLong RX7 51 (48)) (List.mem_of_getElem? (i := 1) rfl)) dX7_isGood_50 ?_
        refine lv_ldc2 (v := 57) hx hb hown (hts (Cond.constantLong RX7 53 (57)) (List.mem_of_getElem? (i := 2) rfl)) dX7_isGood_53 ?_
        refine jcalli (va_runS (As := [.long p0.toInt64, .long 48, .long 57]) (rest := []) ⟨hx, hb, hml, hown, hts⟩ (c_in_y l D cI cJ p0.toInt64 48 57 (jw_le (a := 48) h48) (jw_le (b := 57) h57) s.heap.size) (va_cwS 3 hts gX7_isGood_X7_in rfl rfl rfl (by decide +kernel) ⟨Nat.le_of_ble_eq_true rfl, Nat.le_of_ble_eq_true rfl⟩) (jpreS hT trivial) rfl rfl hl.1 rfl (lv_room (Nat.le_of_ble_eq_true rfl)) dX7_isGood_56 ⟨(Nat.zero_le _), (Nat.zero_le _)⟩) hS hA (fun r_10 H locs hw_r_10 hkq hS => ?_)
        try dsimp only at hw_r_10
        subst hw_r_10
        exact W.zret (v := 1) hx hb hr (by decide) (fun t ht hW => ⟨⟨1, (), rfl, (by simp [mgd, c_1, c_5, c_9, h48, h57]), trivial⟩, hS.F ht⟩) hS.2.2 dX7_isGood_59
      · skip
        refine lv_iload_n hx hb dX7_isGood_48 rfl (lv_at hl 1 rfl) ?_
        refine lv_i2l (v := p0.toInt64) hx hb dX7_isGood_49 rfl ?_
        refine lv_ldc2 (v := 48) hx hb hown (hts (Cond.constantLong RX7 51 (48)) (List.mem_of_getElem? (i := 1) rfl)) dX7_isGood_50 ?_
        refine lv_ldc2 (v := 57) hx hb hown (hts (Cond.constantLong RX7 53 (57)) (List.mem_of_getElem? (i := 2) rfl)) dX7_isGood_53 ?_
        refine jcalli (va_runS (As := [.long p0.toInt64, .long 48, .long 57]) (rest := []) ⟨hx, hb, hml, hown, hts⟩ (c_in_n l D cI cJ p0.toInt64 48 57 (Or.inr (jw_lt (a := 57) (jnle h57))) s.heap.size) (va_cwS 3 hts gX7_isGood_X7_in rfl rfl rfl (by decide +kernel) ⟨Nat.le_of_ble_eq_true rfl, Nat.le_of_ble_eq_true rfl⟩) (jpreS hT trivial) rfl rfl hl.1 rfl (lv_room (Nat.le_of_ble_eq_true rfl)) dX7_isGood_56 ⟨(Nat.zero_le _), (Nat.zero_le _)⟩) hS hA (fun r_11 H locs hw_r_11 hkq hS => ?_)
        try dsimp only at hw_r_11
        subst hw_r_11
        exact W.zret (v := 0) hx hb hr (by decide) (fun t ht hW => ⟨⟨0, (), rfl, (by simp [mgd, c_1, c_5, c_9, h48, h57]), trivial⟩, hS.F ht⟩) hS.2.2 dX7_isGood_59
    · skip
      refine lv_iload_n hx hb dX7_isGood_48 rfl (lv_at hl 1 rfl) ?_
      refine lv_i2l (v := p0.toInt64) hx hb dX7_isGood_49 rfl ?_
      refine lv_ldc2 (v := 48) hx hb hown (hts (Cond.constantLong RX7 51 (48)) (List.mem_of_getElem? (i := 1) rfl)) dX7_isGood_50 ?_
      refine lv_ldc2 (v := 57) hx hb hown (hts (Cond.constantLong RX7 53 (57)) (List.mem_of_getElem? (i := 2) rfl)) dX7_isGood_53 ?_
      refine jcalli (va_runS (As := [.long p0.toInt64, .long 48, .long 57]) (rest := []) ⟨hx, hb, hml, hown, hts⟩ (c_in_n l D cI cJ p0.toInt64 48 57 (Or.inl (jw_lt (b := 48) (jnle h48))) s.heap.size) (va_cwS 3 hts gX7_isGood_X7_in rfl rfl rfl (by decide +kernel) ⟨Nat.le_of_ble_eq_true rfl, Nat.le_of_ble_eq_true rfl⟩) (jpreS hT trivial) rfl rfl hl.1 rfl (lv_room (Nat.le_of_ble_eq_true rfl)) dX7_isGood_56 ⟨(Nat.zero_le _), (Nat.zero_le _)⟩) hS hA (fun r_12 H locs hw_r_12 hkq hS => ?_)
      try dsimp only at hw_r_12
      subst hw_r_12
      exact W.zret (v := 0) hx hb hr (by decide) (fun t ht hW => ⟨⟨0, (), rfl, (by simp [mgd, c_1, c_5, c_9, h48]), trivial⟩, hS.F ht⟩) hS.2.2 dX7_isGood_59
  refine lv_tableOut (tgt := 60) hx hb dX7_isGood_3 (by rw [nI_toInt (by omega)]; omega) (by decide) ?_
  refine lv_iload_n hx hb dX7_isGood_60 rfl (lv_at hl 1 rfl) ?_
  refine lv_bipush (v := 44) hx hb dX7_isGood_61 (by decide) ?_
  refine lv_icmp_ne (tgt := 76) hx hb dX7_isGood_63 (by decide) (fun c_13 => ?_) (fun c_13 => ?_)
  · skip
    refine lv_iconst (v := 0) hx hb dX7_isGood_76 (by decide) ?_
    exact W.zret (v := 0) hx hb hr (by decide) (fun t ht hW => ⟨⟨0, (), rfl, (by simp [mgd, show k % 4 = 3 by omega, c_1, c_5, c_9, c_13]), trivial⟩, hS.F ht⟩) hS.2.2 dX7_isGood_77
  · skip
    refine lv_iload_n hx hb dX7_isGood_66 rfl (lv_at hl 0 rfl) ?_
    refine lv_bipush (v := 23) hx hb dX7_isGood_67 (by decide) ?_
    refine lv_icmp_ge (tgt := 76) hx hb dX7_isGood_69 (by decide) (fun c_14 => ?_) (fun c_14 => ?_)
    · skip
      replace c_14 : 23 ≤ k := (nI_leI (a := 23) (b := k) (by omega) (by omega)).mp c_14
      refine lv_iconst (v := 0) hx hb dX7_isGood_76 (by decide) ?_
      exact W.zret (v := 0) hx hb hr (by decide) (fun t ht hW => ⟨⟨0, (), rfl, (by simp [mgd, show k % 4 = 3 by omega, c_1, c_5, c_9, c_13, c_14]), trivial⟩, hS.F ht⟩) hS.2.2 dX7_isGood_77
    · skip
      replace c_14 : ¬ 23 ≤ k := fun h => c_14 ((nI_leI (a := 23) (b := k) (by omega) (by omega)).mpr h)
      refine lv_iconst (v := 1) hx hb dX7_isGood_72 (by decide) ?_
      refine lv_goto (tgt := 77) hx hb dX7_isGood_73 (by decide) ?_
      exact W.zret (v := 1) hx hb hr (by decide) (fun t ht hW => ⟨⟨1, (), rfl, (by simp [mgd, show k % 4 = 3 by omega, c_1, c_5, c_9, c_13, c_14]), trivial⟩, hS.F ht⟩) hS.2.2 dX7_isGood_77

set_option maxHeartbeats 4000000 in
set_option maxRecDepth 100000 in
theorem c_lacks_y (l : Launch) (D : va_G) (cI cJ : ClassId) (z : Nat) (n : Nat) (a0 : Value) (a1 : Value) (a3 : Value) (a4 : Value) (a5 : Value) (a6 : Value) (a7 : Value) (a8 : Value) (a9 : Value) (a10 : Value) (a11 : Value) (a12 : Value) (a13 : Value) (a14 : Value) (a15 : Value) (a16 : Value) (a17 : Value) (a18 : Value) (a19 : Value) (a20 : Value) (a21 : Value) (a22 : Value) (a23 : Value) (a24 : Value) (hn0 : n = 0) : jRi l yX7_lacks wsX7_lacks ({ frames := 0, cells := 0, slots := 0, locals := 0 }) [.ref z] D cI cJ (fun H => va_P D vwCl [(z, .inr (7, [a0, a1, .int (nI n), a3, a4, a5, a6, a7, a8, a9, a10, a11, a12, a13, a14, a15, a16, a17, a18, a19, a20, a21, a22, a23, a24]))] H) (fun r => r = 1) := by
  intro sz
  refine Met.ofW (cc := cX7_lacks) (maxL := 1) (ret := (some .boolean)) (by decide) rfl ?_
  intro p e s m args below meth c s₁ B hml hv
  obtain ⟨rfl, hsz, hT, hPr⟩ := hv
  have hK := hT.1
  have hx := B.exec
  have hb := B.bytes
  have hr := B.returns
  have hts := atoms_spec (ws := wsX7_lacks) B.pre
  have hown : s.vm.findClass RX7 = some m.cls := findClass_of_methodNamed B.named
  have hlocks := B.notSynchronized
  subst hsz
  generalize hAe : va_A [] s.heap.size = A
  have hA : ∀ q : Nat, s.heap.size ≤ q → A q := fun q h => by rw [← hAe]; exact Or.inr h
  have hS : va_S A s.heap s.heap [] := va_S.rf
  have hl := lv_entry ([.ref z] : List Value) (n := 1) (Nat.le_of_ble_eq_true rfl)
  rw [lg_entry_eq]
  generalize (lg_sl ([.ref z]) ++ List.replicate (1 - (lg_sl ([.ref z])).length) Slot.unset).toArray = ls at hl ⊢
  have hl : lv_has ls 1 [(0, .ref z)] := hl
  refine lv_aload_n hx hb dX7_lacks_0 rfl (lv_at hl 0 rfl) ?_
  refine va_get (D := D) (ci := 7) (v := .int (nI n)) (C := RX7) (T := TX7) (N := 25) hx hb hts (fun w h => List.mem_cons_of_mem _ (List.mem_append_right _ h)) hown hK hPr 0 rfl rfl 2 (by decide) (hts (Cond.fieldLink RX7 63 "JamDaysModel" "jars" "I") (List.mem_of_getElem? (i := 1) rfl)) (fun _ h9 => h9) rfl dX7_lacks_1 ?_
  refine lv_if_ne (tgt := 11) hx hb dX7_lacks_4 (by decide) (fun c_1 => ?_) (fun c_1 => ?_)
  · skip
    replace c_1 : ¬ n = 0 := fun h => c_1 ((nI_eq (a := n) (b := 0) (by omega) (by omega)).mpr h)
    exact absurd c_1 (by omega)
  · skip
    replace c_1 : n = 0 := (nI_eq (a := n) (b := 0) (by omega) (by omega)).mp c_1
    refine lv_iconst (v := 1) hx hb dX7_lacks_7 (by decide) ?_
    refine lv_goto (tgt := 12) hx hb dX7_lacks_8 (by decide) ?_
    exact W.zret (v := 1) hx hb hr (by decide) (fun t ht hW => ⟨⟨1, (), rfl, rfl, trivial⟩, hS.F ht⟩) hS.2.2 dX7_lacks_12

set_option maxHeartbeats 4000000 in
set_option maxRecDepth 100000 in
theorem c_lacks_n (l : Launch) (D : va_G) (cI cJ : ClassId) (z : Nat) (n : Nat) (a0 : Value) (a1 : Value) (a3 : Value) (a4 : Value) (a5 : Value) (a6 : Value) (a7 : Value) (a8 : Value) (a9 : Value) (a10 : Value) (a11 : Value) (a12 : Value) (a13 : Value) (a14 : Value) (a15 : Value) (a16 : Value) (a17 : Value) (a18 : Value) (a19 : Value) (a20 : Value) (a21 : Value) (a22 : Value) (a23 : Value) (a24 : Value) (hn0 : 0 < n) (hn6 : n ≤ 6) : jRi l yX7_lacks wsX7_lacks ({ frames := 0, cells := 0, slots := 0, locals := 0 }) [.ref z] D cI cJ (fun H => va_P D vwCl [(z, .inr (7, [a0, a1, .int (nI n), a3, a4, a5, a6, a7, a8, a9, a10, a11, a12, a13, a14, a15, a16, a17, a18, a19, a20, a21, a22, a23, a24]))] H) (fun r => r = 0) := by
  intro sz
  refine Met.ofW (cc := cX7_lacks) (maxL := 1) (ret := (some .boolean)) (by decide) rfl ?_
  intro p e s m args below meth c s₁ B hml hv
  obtain ⟨rfl, hsz, hT, hPr⟩ := hv
  have hK := hT.1
  have hx := B.exec
  have hb := B.bytes
  have hr := B.returns
  have hts := atoms_spec (ws := wsX7_lacks) B.pre
  have hown : s.vm.findClass RX7 = some m.cls := findClass_of_methodNamed B.named
  have hlocks := B.notSynchronized
  subst hsz
  generalize hAe : va_A [] s.heap.size = A
  have hA : ∀ q : Nat, s.heap.size ≤ q → A q := fun q h => by rw [← hAe]; exact Or.inr h
  have hS : va_S A s.heap s.heap [] := va_S.rf
  have hl := lv_entry ([.ref z] : List Value) (n := 1) (Nat.le_of_ble_eq_true rfl)
  rw [lg_entry_eq]
  generalize (lg_sl ([.ref z]) ++ List.replicate (1 - (lg_sl ([.ref z])).length) Slot.unset).toArray = ls at hl ⊢
  have hl : lv_has ls 1 [(0, .ref z)] := hl
  refine lv_aload_n hx hb dX7_lacks_0 rfl (lv_at hl 0 rfl) ?_
  refine va_get (D := D) (ci := 7) (v := .int (nI n)) (C := RX7) (T := TX7) (N := 25) hx hb hts (fun w h => List.mem_cons_of_mem _ (List.mem_append_right _ h)) hown hK hPr 0 rfl rfl 2 (by decide) (hts (Cond.fieldLink RX7 63 "JamDaysModel" "jars" "I") (List.mem_of_getElem? (i := 1) rfl)) (fun _ h9 => h9) rfl dX7_lacks_1 ?_
  refine lv_if_ne (tgt := 11) hx hb dX7_lacks_4 (by decide) (fun c_1 => ?_) (fun c_1 => ?_)
  · skip
    replace c_1 : ¬ n = 0 := fun h => c_1 ((nI_eq (a := n) (b := 0) (by omega) (by omega)).mpr h)
    refine lv_iconst (v := 0) hx hb dX7_lacks_11 (by decide) ?_
    exact W.zret (v := 0) hx hb hr (by decide) (fun t ht hW => ⟨⟨0, (), rfl, rfl, trivial⟩, hS.F ht⟩) hS.2.2 dX7_lacks_12
  · skip
    replace c_1 : n = 0 := (nI_eq (a := n) (b := 0) (by omega) (by omega)).mp c_1
    exact absurd c_1 (by omega)

theorem jj_y {j n : Nat} (hj : j < n) (hn : n ≤ 6) : nI j ≤ nI n - 1 := by rw [fa_le, nI_toInt (by omega), show (1 : Int32) = nI 1 from rfl, pk_sub_toInt (by omega) (by omega)]; omega
theorem jj_n {n : Nat} {q : Int32} (hn : n ≤ 6) (h : nI n ≤ q) : nI n - 1 < q := by rw [fa_lt, show (1 : Int32) = nI 1 from rfl, pk_sub_toInt (by omega) (by omega)]; rw [fa_le, nI_toInt (by omega)] at h; omega
set_option maxHeartbeats 4000000 in
set_option maxRecDepth 100000 in
theorem c_isJar_y (l : Launch) (D : va_G) (cI cJ : ClassId) (z : Nat) (n : Nat) (j : Nat) (a0 : Value) (a1 : Value) (a3 : Value) (a4 : Value) (a5 : Value) (a6 : Value) (a7 : Value) (a8 : Value) (a9 : Value) (a10 : Value) (a11 : Value) (a12 : Value) (a13 : Value) (a14 : Value) (a15 : Value) (a16 : Value) (a17 : Value) (a18 : Value) (a19 : Value) (a20 : Value) (a21 : Value) (a22 : Value) (a23 : Value) (a24 : Value) (hj : j < n) (hn6 : n ≤ 6) : jRi l yX7_isJar wsX7_isJar ({ frames := 1, cells := 0, slots := 0, locals := 25 }) [.ref z, .int (nI j)] D cI cJ (fun H => va_P D vwCl [(z, .inr (7, [a0, a1, .int (nI n), a3, a4, a5, a6, a7, a8, a9, a10, a11, a12, a13, a14, a15, a16, a17, a18, a19, a20, a21, a22, a23, a24]))] H) (fun r => r = 1) := by
  intro sz
  refine Met.ofW (cc := cX7_isJar) (maxL := 2) (ret := (some .boolean)) (by decide) rfl ?_
  intro p e s m args below meth c s₁ B hml hv
  obtain ⟨rfl, hsz, hT, hPr⟩ := hv
  have hK := hT.1
  have hx := B.exec
  have hb := B.bytes
  have hr := B.returns
  have hts := atoms_spec (ws := wsX7_isJar) B.pre
  have hown : s.vm.findClass RX7 = some m.cls := findClass_of_methodNamed B.named
  have hlocks := B.notSynchronized
  subst hsz
  generalize hAe : va_A [] s.heap.size = A
  have hA : ∀ q : Nat, s.heap.size ≤ q → A q := fun q h => by rw [← hAe]; exact Or.inr h
  have hS : va_S A s.heap s.heap [] := va_S.rf
  have hl := lv_entry ([.ref z, .int (nI j)] : List Value) (n := 2) (Nat.le_of_ble_eq_true rfl)
  rw [lg_entry_eq]
  generalize (lg_sl ([.ref z, .int (nI j)]) ++ List.replicate (2 - (lg_sl ([.ref z, .int (nI j)])).length) Slot.unset).toArray = ls at hl ⊢
  have hl : lv_has ls 2 [(0, .ref z), (1, .int (nI j))] := hl
  refine lv_iload_n hx hb dX7_isJar_0 rfl (lv_at hl 1 rfl) ?_
  refine lv_i2l (v := (nI j).toInt64) hx hb dX7_isJar_1 rfl ?_
  refine lv_lconst (v := 0) hx hb dX7_isJar_2 (by decide) ?_
  refine lv_aload_n hx hb dX7_isJar_3 rfl (lv_at hl 0 rfl) ?_
  refine va_get (D := D) (ci := 7) (v := .int (nI n)) (C := RX7) (T := TX7) (N := 25) hx hb hts (fun w h => List.mem_cons_of_mem _ (List.mem_append_right _ h)) hown hK hPr 0 rfl rfl 2 (by decide) (hts (Cond.fieldLink RX7 63 "JamDaysModel" "jars" "I") (List.mem_of_getElem? (i := 1) rfl)) (fun _ h9 => h9) rfl dX7_isJar_4 ?_
  refine lv_iconst (v := 1) hx hb dX7_isJar_7 (by decide) ?_
  refine lv_isub hx hb dX7_isJar_8 ?_
  refine lv_i2l (v := ((nI n) - 1).toInt64) hx hb dX7_isJar_9 rfl ?_
  refine jcalli (va_runS (As := [.long ((nI j).toInt64), .long 0, .long (((nI n) - 1).toInt64)]) (rest := []) ⟨hx, hb, hml, hown, hts⟩ (c_in_y l D cI cJ ((nI j).toInt64) 0 (((nI n) - 1).toInt64) (jw_le (a := 0) (nI_pos' (by omega))) (jw_le (jj_y hj hn6)) s.heap.size) (va_cwS 3 hts gX7_isJar_X7_in rfl rfl rfl (by decide +kernel) ⟨Nat.le_of_ble_eq_true rfl, Nat.le_of_ble_eq_true rfl⟩) (jpreS hT trivial) rfl rfl hl.1 rfl (lv_room (Nat.le_of_ble_eq_true rfl)) dX7_isJar_10 ⟨(Nat.zero_le _), (Nat.zero_le _)⟩) hS hA (fun r_1 H locs hw_r_1 hkq hS => ?_)
  try dsimp only at hw_r_1
  have hPr := jkeep hPr hkq
  subst hw_r_1
  exact W.zret (v := 1) hx hb hr (by decide) (fun t ht hW => ⟨⟨1, (), rfl, rfl, trivial⟩, hS.F ht⟩) hS.2.2 dX7_isJar_13

set_option maxHeartbeats 4000000 in
set_option maxRecDepth 100000 in
theorem c_isJar_n (l : Launch) (D : va_G) (cI cJ : ClassId) (z : Nat) (n : Nat) (a0 : Value) (a1 : Value) (a3 : Value) (a4 : Value) (a5 : Value) (a6 : Value) (a7 : Value) (a8 : Value) (a9 : Value) (a10 : Value) (a11 : Value) (a12 : Value) (a13 : Value) (a14 : Value) (a15 : Value) (a16 : Value) (a17 : Value) (a18 : Value) (a19 : Value) (a20 : Value) (a21 : Value) (a22 : Value) (a23 : Value) (a24 : Value) (p0 : Int32) (h9 : p0 < 0 ∨ nI n ≤ p0) (hn6 : n ≤ 6) : jRi l yX7_isJar wsX7_isJar ({ frames := 1, cells := 0, slots := 0, locals := 25 }) [.ref z, .int p0] D cI cJ (fun H => va_P D vwCl [(z, .inr (7, [a0, a1, .int (nI n), a3, a4, a5, a6, a7, a8, a9, a10, a11, a12, a13, a14, a15, a16, a17, a18, a19, a20, a21, a22, a23, a24]))] H) (fun r => r = 0) := by
  intro sz
  refine Met.ofW (cc := cX7_isJar) (maxL := 2) (ret := (some .boolean)) (by decide) rfl ?_
  intro p e s m args below meth c s₁ B hml hv
  obtain ⟨rfl, hsz, hT, hPr⟩ := hv
  have hK := hT.1
  have hx := B.exec
  have hb := B.bytes
  have hr := B.returns
  have hts := atoms_spec (ws := wsX7_isJar) B.pre
  have hown : s.vm.findClass RX7 = some m.cls := findClass_of_methodNamed B.named
  have hlocks := B.notSynchronized
  subst hsz
  generalize hAe : va_A [] s.heap.size = A
  have hA : ∀ q : Nat, s.heap.size ≤ q → A q := fun q h => by rw [← hAe]; exact Or.inr h
  have hS : va_S A s.heap s.heap [] := va_S.rf
  have hl := lv_entry ([.ref z, .int p0] : List Value) (n := 2) (Nat.le_of_ble_eq_true rfl)
  rw [lg_entry_eq]
  generalize (lg_sl ([.ref z, .int p0]) ++ List.replicate (2 - (lg_sl ([.ref z, .int p0])).length) Slot.unset).toArray = ls at hl ⊢
  have hl : lv_has ls 2 [(0, .ref z), (1, .int p0)] := hl
  refine lv_iload_n hx hb dX7_isJar_0 rfl (lv_at hl 1 rfl) ?_
  refine lv_i2l (v := p0.toInt64) hx hb dX7_isJar_1 rfl ?_
  refine lv_lconst (v := 0) hx hb dX7_isJar_2 (by decide) ?_
  refine lv_aload_n hx hb dX7_isJar_3 rfl (lv_at hl 0 rfl) ?_
  refine va_get (D := D) (ci := 7) (v := .int (nI n)) (C := RX7) (T := TX7) (N := 25) hx hb hts (fun w h => List.mem_cons_of_mem _ (List.mem_append_right _ h)) hown hK hPr 0 rfl rfl 2 (by decide) (hts (Cond.fieldLink RX7 63 "JamDaysModel" "jars" "I") (List.mem_of_getElem? (i := 1) rfl)) (fun _ h9 => h9) rfl dX7_isJar_4 ?_
  refine lv_iconst (v := 1) hx hb dX7_isJar_7 (by decide) ?_
  refine lv_isub hx hb dX7_isJar_8 ?_
  refine lv_i2l (v := ((nI n) - 1).toInt64) hx hb dX7_isJar_9 rfl ?_
  refine jcalli (va_runS (As := [.long p0.toInt64, .long 0, .long (((nI n) - 1).toInt64)]) (rest := []) ⟨hx, hb, hml, hown, hts⟩ (c_in_n l D cI cJ p0.toInt64 0 (((nI n) - 1).toInt64) (h9.elim (fun h => Or.inl (jw_lt (b := 0) h)) (fun h => Or.inr (jw_lt (jj_n hn6 h)))) s.heap.size) (va_cwS 3 hts gX7_isJar_X7_in rfl rfl rfl (by decide +kernel) ⟨Nat.le_of_ble_eq_true rfl, Nat.le_of_ble_eq_true rfl⟩) (jpreS hT trivial) rfl rfl hl.1 rfl (lv_room (Nat.le_of_ble_eq_true rfl)) dX7_isJar_10 ⟨(Nat.zero_le _), (Nat.zero_le _)⟩) hS hA (fun r_1 H locs hw_r_1 hkq hS => ?_)
  try dsimp only at hw_r_1
  have hPr := jkeep hPr hkq
  subst hw_r_1
  exact W.zret (v := 0) hx hb hr (by decide) (fun t ht hW => ⟨⟨0, (), rfl, rfl, trivial⟩, hS.F ht⟩) hS.2.2 dX7_isJar_13

/-- the place of the first letter that doesn't fit, by g; n if there is none -/
def jfo (g : Nat → Int32) : Nat → Nat
  | 0 => 0
  | k + 1 => if jfo g k < k then jfo g k else if g k = 0 then k else k + 1
theorem jfo_le (g : Nat → Int32) : ∀ k : Nat, jfo g k ≤ k
  | 0 => Nat.le_refl 0
  | k + 1 => by
    have h := jfo_le g k
    unfold jfo
    repeat' split
    all_goals omega
theorem jfo_stop {g : Nat → Int32} {k : Nat} (h : jfo g k = k) (h0 : g k = 0) : ∀ n : Nat, k < n → jfo g n = k
  | 0, h1 => absurd h1 (Nat.not_lt_zero _)
  | n + 1, h1 => by
    unfold jfo
    by_cases h2 : k = n
    · subst h2; rw [if_neg (by omega), if_pos h0]
    · rw [jfo_stop h h0 n (by omega), if_pos (by omega)]
theorem jfo_go {g : Nat → Int32} {k : Nat} (h : jfo g k = k) (h0 : ¬ g k = 0) : jfo g (k + 1) = k + 1 := by unfold jfo; rw [if_neg (by omega), if_neg h0]
set_option maxHeartbeats 4000000 in
set_option maxRecDepth 100000 in
theorem c_faultOf (l : Launch) (D : va_G) (cI cJ : ClassId) (z : Nat) (zp : Nat) (pn : Nat) (a2 : Value) (a3 : Value) (a4 : Value) (a5 : Value) (a6 : Value) (a7 : Value) (a8 : Value) (a9 : Value) (a10 : Value) (a11 : Value) (a12 : Value) (a13 : Value) (a14 : Value) (a15 : Value) (a16 : Value) (a17 : Value) (a18 : Value) (a19 : Value) (a20 : Value) (a21 : Value) (a22 : Value) (a23 : Value) (a24 : Value) (pg : Nat → Int32) (hp25 : pn ≤ 25) : jRi l yX7_faultOf wsX7_faultOf ({ frames := 2, cells := 0, slots := 0, locals := 46 }) [.ref z] D cI cJ (fun H => va_P D vwCl [(z, .inr (7, [.ref zp, .int (nI pn), a2, a3, a4, a5, a6, a7, a8, a9, a10, a11, a12, a13, a14, a15, a16, a17, a18, a19, a20, a21, a22, a23, a24])), (zp, .inl (cI, 25, .inl pg))] H) (fun r => r = nI (jfo (fun i => mgd i (pg i)) pn)) := by
  intro sz
  refine Met.ofW (cc := cX7_faultOf) (maxL := 2) (ret := (some .int)) (by decide) rfl ?_
  intro p e s m args below meth c s₁ B hml hv
  obtain ⟨rfl, hsz, hT, hPr⟩ := hv
  have hK := hT.1
  have hx := B.exec
  have hb := B.bytes
  have hr := B.returns
  have hts := atoms_spec (ws := wsX7_faultOf) B.pre
  have hown : s.vm.findClass RX7 = some m.cls := findClass_of_methodNamed B.named
  have hlocks := B.notSynchronized
  subst hsz
  generalize hAe : va_A [] s.heap.size = A
  have hA : ∀ q : Nat, s.heap.size ≤ q → A q := fun q h => by rw [← hAe]; exact Or.inr h
  have hS : va_S A s.heap s.heap [] := va_S.rf
  have hl := lv_entry ([.ref z] : List Value) (n := 2) (Nat.le_of_ble_eq_true rfl)
  rw [lg_entry_eq]
  generalize (lg_sl ([.ref z]) ++ List.replicate (2 - (lg_sl ([.ref z])).length) Slot.unset).toArray = ls at hl ⊢
  have hl : lv_has ls 2 [(0, .ref z)] := hl
  refine lv_iconst (v := 0) hx hb dX7_faultOf_0 (by decide) ?_
  refine lv_istore_n (lv' := [(1, .int 0), (0, .ref z)]) hx hb dX7_faultOf_1 rfl hl (by decide) rfl (fun ls hl => ?_)
  refine jloop (α := Nat) (fun (k : Nat) (H : Heap) (locs : List Loc) (ls : Array Slot) => (va_P D vwCl [(z, .inr (7, [.ref zp, .int (nI pn), a2, a3, a4, a5, a6, a7, a8, a9, a10, a11, a12, a13, a14, a15, a16, a17, a18, a19, a20, a21, a22, a23, a24])), (zp, .inl (cI, 25, .inl pg))] H) ∧ (va_S A s.heap H locs) ∧ (lv_has ls 2 [(0, .ref z), (1, .int (nI k))]) ∧ (k ≤ pn) ∧ (jfo (fun i => mgd i (pg i)) k = k)) (fun (k : Nat) => pn - k) (fun k H locs ls hx9 ih_2 => ?_) 0 _ _ _ ⟨hPr, hS, lv_sub hl [1, 0] rfl, (by omega), rfl⟩
  obtain ⟨hPr, hS, hl, hk9, hfo⟩ := hx9
  refine lv_iload_n hx hb dX7_faultOf_2 rfl (lv_at hl 1 rfl) ?_
  refine lv_aload_n hx hb dX7_faultOf_3 rfl (lv_at hl 0 rfl) ?_
  refine va_get (D := D) (ci := 7) (v := .int (nI pn)) (C := RX7) (T := TX7) (N := 25) hx hb hts (fun w h => List.mem_cons_of_mem _ (List.mem_append_right _ h)) hown hK hPr 0 rfl rfl 1 (by decide) (hts (Cond.fieldLink RX7 44 "JamDaysModel" "pageMany" "I") (List.mem_of_getElem? (i := 1) rfl)) (fun _ h9 => h9) rfl dX7_faultOf_4 ?_
  refine lv_icmp_ge (tgt := 29) hx hb dX7_faultOf_7 (by decide) (fun c_1 => ?_) (fun c_1 => ?_)
  · skip
    replace c_1 : pn ≤ k := (nI_leI (a := pn) (b := k) (by omega) (by omega)).mp c_1
    refine lv_iload_n hx hb dX7_faultOf_29 rfl (lv_at hl 1 rfl) ?_
    exact W.iret (v := nI k) hx hb hr (fun t ht hW => ⟨⟨nI k, (), rfl, (by rw [show pn = k by omega, hfo]), trivial⟩, hS.F ht⟩) hS.2.2 dX7_faultOf_30
  · skip
    replace c_1 : ¬ pn ≤ k := fun h => c_1 ((nI_leI (a := pn) (b := k) (by omega) (by omega)).mpr h)
    refine lv_iload_n hx hb dX7_faultOf_10 rfl (lv_at hl 1 rfl) ?_
    refine lv_aload_n hx hb dX7_faultOf_11 rfl (lv_at hl 0 rfl) ?_
    refine va_get (D := D) (ci := 7) (v := .ref zp) (C := RX7) (T := TX7) (N := 25) hx hb hts (fun w h => List.mem_cons_of_mem _ (List.mem_append_right _ h)) hown hK hPr 0 rfl rfl 0 (by decide) (hts (Cond.fieldLink RX7 7 "JamDaysModel" "page" "[I") (List.mem_of_getElem? (i := 2) rfl)) (fun _ h9 => h9) rfl dX7_faultOf_12 ?_
    refine lv_iload_n hx hb dX7_faultOf_15 rfl (lv_at hl 1 rfl) ?_
    refine jv_ald (k := k) hx hb hK hPr 1 0 rfl rfl (by omega) (by decide) dX7_faultOf_16 ?_
    refine jcalli (va_runS (As := [.int (nI k), .int (pg k)]) (rest := []) ⟨hx, hb, hml, hown, hts⟩ (c_isGood l D cI cJ k (pg k) (by omega) H.size) (va_cwS 2 hts gX7_faultOf_X7_isGood rfl rfl rfl (by decide +kernel) ⟨Nat.le_of_ble_eq_true rfl, Nat.le_of_ble_eq_true rfl⟩) (jpreS hT trivial) rfl rfl hl.1 rfl (lv_room (Nat.le_of_ble_eq_true rfl)) dX7_faultOf_17 ⟨(Nat.zero_le _), (Nat.zero_le _)⟩) hS hA (fun r_2 H locs hw_r_2 hkq hS => ?_)
    try dsimp only at hw_r_2
    have hPr := jkeep hPr hkq
    subst hw_r_2
    refine lv_if_eq (tgt := 29) hx hb dX7_faultOf_20 (by decide) (fun c_3 => ?_) (fun c_3 => ?_)
    · skip
      refine lv_iload_n hx hb dX7_faultOf_29 rfl (lv_at hl 1 rfl) ?_
      exact W.iret (v := nI k) hx hb hr (fun t ht hW => ⟨⟨nI k, (), rfl, (by rw [jfo_stop hfo c_3 pn (by omega)]), trivial⟩, hS.F ht⟩) hS.2.2 dX7_faultOf_30
    · skip
      refine lv_iinc (v := nI (k + 1)) (lv' := [(1, .int (nI (k + 1))), (0, .ref z)]) hx hb dX7_faultOf_23 hl (k := 1) rfl ((rfl : nI k + Int32.ofInt 1 = nI k + nI 1).trans (nI_add k 1)) (by decide) rfl (fun ls hl => ?_)
      refine lv_goto (tgt := 2) hx hb dX7_faultOf_26 (by decide) ?_
      exact ih_2 (k + 1) _ _ _ ⟨hPr, hS, lv_sub hl [1, 0] rfl, (by omega), (jfo_go hfo c_3)⟩ (by omega)

set_option maxHeartbeats 4000000 in
set_option maxRecDepth 100000 in
theorem c_mfault (l : Launch) (D : va_G) (cI cJ : ClassId) (z : Nat) (zp : Nat) (pn : Nat) (a2 : Value) (a3 : Value) (a4 : Value) (a5 : Value) (a6 : Value) (a7 : Value) (a8 : Value) (a9 : Value) (a10 : Value) (a11 : Value) (a12 : Value) (a13 : Value) (a14 : Value) (a15 : Value) (a16 : Value) (a17 : Value) (a18 : Value) (a19 : Value) (a20 : Value) (a21 : Value) (a22 : Value) (a23 : Value) (a24 : Value) (pg : Nat → Int32) (hp25 : pn ≤ 25) : jRi l yX7_fault wsX7_fault ({ frames := 3, cells := 0, slots := 0, locals := 67 }) [.ref z] D cI cJ (fun H => va_P D vwCl [(z, .inr (7, [.ref zp, .int (nI pn), a2, a3, a4, a5, a6, a7, a8, a9, a10, a11, a12, a13, a14, a15, a16, a17, a18, a19, a20, a21, a22, a23, a24])), (zp, .inl (cI, 25, .inl pg))] H) (fun r => r = nI (jfo (fun i => mgd i (pg i)) pn)) := by
  intro sz
  refine Met.ofW (cc := cX7_fault) (maxL := 1) (ret := (some .int)) (by decide) rfl ?_
  intro p e s m args below meth c s₁ B hml hv
  obtain ⟨rfl, hsz, hT, hPr⟩ := hv
  have hK := hT.1
  have hx := B.exec
  have hb := B.bytes
  have hr := B.returns
  have hts := atoms_spec (ws := wsX7_fault) B.pre
  have hown : s.vm.findClass RX7 = some m.cls := findClass_of_methodNamed B.named
  have hlocks := B.notSynchronized
  subst hsz
  generalize hAe : va_A [] s.heap.size = A
  have hA : ∀ q : Nat, s.heap.size ≤ q → A q := fun q h => by rw [← hAe]; exact Or.inr h
  have hS : va_S A s.heap s.heap [] := va_S.rf
  have hl := lv_entry ([.ref z] : List Value) (n := 1) (Nat.le_of_ble_eq_true rfl)
  rw [lg_entry_eq]
  generalize (lg_sl ([.ref z]) ++ List.replicate (1 - (lg_sl ([.ref z])).length) Slot.unset).toArray = ls at hl ⊢
  have hl : lv_has ls 1 [(0, .ref z)] := hl
  refine lv_aload_n hx hb dX7_fault_0 rfl (lv_at hl 0 rfl) ?_
  have hPc_1 := hPr.sub (ws' := [(z, .inr (7, [.ref zp, .int (nI pn), a2, a3, a4, a5, a6, a7, a8, a9, a10, a11, a12, a13, a14, a15, a16, a17, a18, a19, a20, a21, a22, a23, a24])), (zp, .inl (cI, 25, .inl pg))]) [0, 1] rfl
  refine jcalli (va_runV (As := []) (rest := []) ⟨hx, hb, hml, hown, hts⟩ (c_faultOf l D cI cJ z zp pn a2 a3 a4 a5 a6 a7 a8 a9 a10 a11 a12 a13 a14 a15 a16 a17 a18 a19 a20 a21 a22 a23 a24 pg hp25 s.heap.size) (cwV 0 hts gX7_fault_X7_faultOf rfl rfl rfl (by decide +kernel) ⟨Nat.le_of_ble_eq_true rfl, Nat.le_of_ble_eq_true rfl⟩) (jpreV hT (va_recv hK hPr (ci := 7) (q0 := 0) rfl rfl) hPc_1) rfl rfl hl.1 rfl (lv_room (Nat.le_of_ble_eq_true rfl)) dX7_fault_1 ⟨(Nat.zero_le _), (Nat.zero_le _)⟩) hS hA (fun r_2 H locs hw_r_2 hkq hS => ?_)
  try dsimp only at hw_r_2
  have hPr := jkeep hPr hkq
  subst hw_r_2
  exact W.iret (v := nI (jfo (fun i => mgd i (pg i)) pn)) hx hb hr (fun t ht hW => ⟨⟨nI (jfo (fun i => mgd i (pg i)) pn), (), rfl, rfl, trivial⟩, hS.F ht⟩) hS.2.2 dX7_fault_4

def mmr (Rw : Nat → Int32) (j : Nat) (y : Int32) : Int32 := if Rw (5 * j) = 2 then 0 else if Rw (5 * j) = 4 then 0 else (3 - Rw (5 * j + 2) / 3 + (if Rw (5 * j) = 1 then 1 else 0)) * y
def mmo (Rw : Nat → Int32) (j : Nat) (y : Int32) : Int32 := if mmr Rw j y ≤ 20 then mmr Rw j y else 20
def mfi (Rw : Nat → Int32) (j : Nat) (y : Int32) : Int32 := if Rw (5 * j) = 4 then 2 * (Rw (5 * j + 1) - mmo Rw j y) else if Rw (5 * j) = 3 ∧ y - y / 2 * 2 = 1 then Rw (5 * j + 1) - mmo Rw j y + 3 else Rw (5 * j + 1) - mmo Rw j y
set_option maxHeartbeats 4000000 in
set_option maxRecDepth 100000 in
theorem c_mmouldIn (l : Launch) (D : va_G) (cI cJ : ClassId) (z : Nat) (zr : Nat) (a0 : Value) (a1 : Value) (a2 : Value) (a3 : Value) (a4 : Value) (a5 : Value) (a6 : Value) (a7 : Value) (a9 : Value) (a10 : Value) (a11 : Value) (a12 : Value) (a13 : Value) (a14 : Value) (a15 : Value) (a16 : Value) (a17 : Value) (a18 : Value) (a19 : Value) (a20 : Value) (a21 : Value) (a22 : Value) (a23 : Value) (a24 : Value) (Rw : Nat → Int32) (j : Nat) (y : Int32) (hj6 : j < 6) : jRi l yX7_mouldIn wsX7_mouldIn ({ frames := 0, cells := 0, slots := 0, locals := 0 }) [.ref z, .int (nI j), .int y] D cI cJ (fun H => va_P D vwCl [(z, .inr (7, [a0, a1, a2, a3, a4, a5, a6, a7, .ref zr, a9, a10, a11, a12, a13, a14, a15, a16, a17, a18, a19, a20, a21, a22, a23, a24])), (zr, .inl (cI, 30, .inl Rw))] H) (fun r => r = mmo Rw j y) := by
  intro sz
  refine Met.ofW (cc := cX7_mouldIn) (maxL := 6) (ret := (some .int)) (by decide) rfl ?_
  intro p e s m args below meth c s₁ B hml hv
  obtain ⟨rfl, hsz, hT, hPr⟩ := hv
  have hK := hT.1
  have hx := B.exec
  have hb := B.bytes
  have hr := B.returns
  have hts := atoms_spec (ws := wsX7_mouldIn) B.pre
  have hown : s.vm.findClass RX7 = some m.cls := findClass_of_methodNamed B.named
  have hlocks := B.notSynchronized
  subst hsz
  generalize hAe : va_A [] s.heap.size = A
  have hA : ∀ q : Nat, s.heap.size ≤ q → A q := fun q h => by rw [← hAe]; exact Or.inr h
  have hS : va_S A s.heap s.heap [] := va_S.rf
  have hl := lv_entry ([.ref z, .int (nI j), .int y] : List Value) (n := 6) (Nat.le_of_ble_eq_true rfl)
  rw [lg_entry_eq]
  generalize (lg_sl ([.ref z, .int (nI j), .int y]) ++ List.replicate (6 - (lg_sl ([.ref z, .int (nI j), .int y])).length) Slot.unset).toArray = ls at hl ⊢
  have hl : lv_has ls 6 [(0, .ref z), (1, .int (nI j)), (2, .int y)] := hl
  refine lv_aload_n hx hb dX7_mouldIn_0 rfl (lv_at hl 0 rfl) ?_
  refine va_get (D := D) (ci := 7) (v := .ref zr) (C := RX7) (T := TX7) (N := 25) hx hb hts (fun w h => List.mem_cons_of_mem _ (List.mem_append_right _ h)) hown hK hPr 0 rfl rfl 8 (by decide) (hts (Cond.fieldLink RX7 13 "JamDaysModel" "rows" "[I") (List.mem_of_getElem? (i := 1) rfl)) (fun _ h9 => h9) rfl dX7_mouldIn_1 ?_
  refine lv_iconst (v := 5) hx hb dX7_mouldIn_4 (by decide) ?_
  refine lv_iload_n hx hb dX7_mouldIn_5 rfl (lv_at hl 1 rfl) ?_
  refine lv_imul hx hb dX7_mouldIn_6 ?_
  refine jv_as (y := nI (5 * j)) (pk_mul 5 j) ?_
  refine jv_ald (k := 5 * j) hx hb hK hPr 1 0 rfl rfl (by omega) (by decide) dX7_mouldIn_7 ?_
  refine lv_istore_n (lv' := [(3, .int (Rw (5 * j))), (0, .ref z), (1, .int (nI j)), (2, .int y)]) hx hb dX7_mouldIn_8 rfl hl (by decide) rfl (fun ls hl => ?_)
  refine lv_iconst (v := 3) hx hb dX7_mouldIn_9 (by decide) ?_
  refine lv_aload_n hx hb dX7_mouldIn_10 rfl (lv_at hl 1 rfl) ?_
  refine va_get (D := D) (ci := 7) (v := .ref zr) (C := RX7) (T := TX7) (N := 25) hx hb hts (fun w h => List.mem_cons_of_mem _ (List.mem_append_right _ h)) hown hK hPr 0 rfl rfl 8 (by decide) (hts (Cond.fieldLink RX7 13 "JamDaysModel" "rows" "[I") (List.mem_of_getElem? (i := 1) rfl)) (fun _ h9 => h9) rfl dX7_mouldIn_11 ?_
  refine lv_iconst (v := 5) hx hb dX7_mouldIn_14 (by decide) ?_
  refine lv_iload_n hx hb dX7_mouldIn_15 rfl (lv_at hl 2 rfl) ?_
  refine lv_imul hx hb dX7_mouldIn_16 ?_
  refine jv_as (y := nI (5 * j)) (pk_mul 5 j) ?_
  refine lv_iconst (v := 2) hx hb dX7_mouldIn_17 (by decide) ?_
  refine lv_iadd hx hb dX7_mouldIn_18 ?_
  refine jv_as (y := nI ((5 * j) + 2)) (nI_add (5 * j) 2) ?_
  refine jv_ald (k := (5 * j) + 2) hx hb hK hPr 1 0 rfl rfl (by omega) (by decide) dX7_mouldIn_19 ?_
  refine lv_iconst (v := 3) hx hb dX7_mouldIn_20 (by decide) ?_
  refine lv_idiv hx hb dX7_mouldIn_21 (by decide) ?_
  refine lv_isub hx hb dX7_mouldIn_22 ?_
  refine lv_iload_n hx hb dX7_mouldIn_23 rfl (lv_at hl 0 rfl) ?_
  refine lv_iconst (v := 1) hx hb dX7_mouldIn_24 (by decide) ?_
  refine jlabel (α := Int32) (fun (b9 : Int32) (H : Heap) (locs : List Loc) (ls : Array Slot) => (va_P D vwCl [(z, .inr (7, [a0, a1, a2, a3, a4, a5, a6, a7, .ref zr, a9, a10, a11, a12, a13, a14, a15, a16, a17, a18, a19, a20, a21, a22, a23, a24])), (zr, .inl (cI, 30, .inl Rw))] H) ∧ (va_S A s.heap H locs) ∧ (lv_has ls 6 [(0, .ref z), (1, .int (nI j)), (2, .int y), (3, .int (Rw (5 * j)))]) ∧ (b9 = (if Rw (5 * j) = 1 then 1 else 0))) (fun (b9 : Int32) => [.int b9, .int (3 - Rw (5 * j + 2) / 3)]) 33 (fun b9 H locs ls hx9 => ?_) (fun hj_33 => ?_)
  · skip
    obtain ⟨hPr, hS, hl, hb9⟩ := hx9
    try dsimp only
    refine lv_iadd hx hb dX7_mouldIn_33 ?_
    refine lv_istore (lv' := [(4, .int ((3 - Rw (5 * j + 2) / 3) + b9)), (0, .ref z), (1, .int (nI j)), (2, .int y), (3, .int (Rw (5 * j)))]) hx hb dX7_mouldIn_34 hl (by decide) rfl (fun ls hl => ?_)
    refine lv_iload_n hx hb dX7_mouldIn_36 rfl (lv_at hl 4 rfl) ?_
    refine lv_iconst (v := 2) hx hb dX7_mouldIn_37 (by decide) ?_
    refine jlabel (α := Int32) (fun (v9 : Int32) (H : Heap) (locs : List Loc) (ls : Array Slot) => (va_P D vwCl [(z, .inr (7, [a0, a1, a2, a3, a4, a5, a6, a7, .ref zr, a9, a10, a11, a12, a13, a14, a15, a16, a17, a18, a19, a20, a21, a22, a23, a24])), (zr, .inl (cI, 30, .inl Rw))] H) ∧ (va_S A s.heap H locs) ∧ (lv_has ls 6 [(0, .ref z), (1, .int (nI j)), (2, .int y), (3, .int (Rw (5 * j)))]) ∧ (v9 = mmr Rw j y)) (fun (v9 : Int32) => [.int v9]) 54 (fun v9 H locs ls hx9 => ?_) (fun hj_54 => ?_)
    · skip
      obtain ⟨hPr, hS, hl, hv9⟩ := hx9
      try dsimp only
      refine lv_istore (lv' := [(5, .int v9), (0, .ref z), (1, .int (nI j)), (2, .int y), (3, .int (Rw (5 * j)))]) hx hb dX7_mouldIn_54 hl (by decide) rfl (fun ls hl => ?_)
      refine lv_iload hx hb dX7_mouldIn_56 (lv_at hl 0 rfl) ?_
      refine lv_bipush (v := 20) hx hb dX7_mouldIn_58 (by decide) ?_
      refine lv_icmp_le (tgt := 68) hx hb dX7_mouldIn_60 (by decide) (fun c_1 => ?_) (fun c_1 => ?_)
      · skip
        refine lv_iload hx hb dX7_mouldIn_68 (lv_at hl 0 rfl) ?_
        exact W.iret (v := v9) hx hb hr (fun t ht hW => ⟨⟨v9, (), rfl, (by rw [mmo, ← hv9]; simp [c_1]), trivial⟩, hS.F ht⟩) hS.2.2 dX7_mouldIn_70
      · skip
        refine lv_bipush (v := 20) hx hb dX7_mouldIn_63 (by decide) ?_
        refine lv_goto (tgt := 70) hx hb dX7_mouldIn_65 (by decide) ?_
        exact W.iret (v := 20) hx hb hr (fun t ht hW => ⟨⟨20, (), rfl, (by rw [mmo, ← hv9]; simp [c_1]), trivial⟩, hS.F ht⟩) hS.2.2 dX7_mouldIn_70
    · skip
      refine lv_icmp_eq (tgt := 46) hx hb dX7_mouldIn_38 (by decide) (fun c_2 => ?_) (fun c_2 => ?_)
      · skip
        refine lv_iconst (v := 0) hx hb dX7_mouldIn_46 (by decide) ?_
        refine lv_goto (tgt := 54) hx hb dX7_mouldIn_47 (by decide) ?_
        exact hj_54 0 _ _ _ ⟨hPr, hS, lv_sub hl [1, 2, 3, 4] rfl, (by rw [mmr, if_pos c_2])⟩
      · skip
        refine lv_iload_n hx hb dX7_mouldIn_41 rfl (lv_at hl 4 rfl) ?_
        refine lv_iconst (v := 4) hx hb dX7_mouldIn_42 (by decide) ?_
        refine lv_icmp_ne (tgt := 50) hx hb dX7_mouldIn_43 (by decide) (fun c_3 => ?_) (fun c_3 => ?_)
        · skip
          refine lv_iload hx hb dX7_mouldIn_50 (lv_at hl 0 rfl) ?_
          refine lv_iload_n hx hb dX7_mouldIn_52 rfl (lv_at hl 3 rfl) ?_
          refine lv_imul hx hb dX7_mouldIn_53 ?_
          exact hj_54 (((3 - Rw (5 * j + 2) / 3) + b9) * y) _ _ _ ⟨hPr, hS, lv_sub hl [1, 2, 3, 4] rfl, (by rw [mmr, if_neg c_2, if_neg c_3, hb9])⟩
        · skip
          refine lv_iconst (v := 0) hx hb dX7_mouldIn_46 (by decide) ?_
          refine lv_goto (tgt := 54) hx hb dX7_mouldIn_47 (by decide) ?_
          exact hj_54 0 _ _ _ ⟨hPr, hS, lv_sub hl [1, 2, 3, 4] rfl, (by rw [mmr, if_neg c_2, if_pos c_3])⟩
  · skip
    refine lv_icmp_ne (tgt := 32) hx hb dX7_mouldIn_25 (by decide) (fun c_4 => ?_) (fun c_4 => ?_)
    · skip
      refine lv_iconst (v := 0) hx hb dX7_mouldIn_32 (by decide) ?_
      exact hj_33 0 _ _ _ ⟨hPr, hS, lv_sub hl [1, 2, 3, 0] rfl, (by rw [if_neg c_4])⟩
    · skip
      refine lv_iconst (v := 1) hx hb dX7_mouldIn_28 (by decide) ?_
      refine lv_goto (tgt := 33) hx hb dX7_mouldIn_29 (by decide) ?_
      exact hj_33 1 _ _ _ ⟨hPr, hS, lv_sub hl [1, 2, 3, 0] rfl, (by rw [if_pos c_4])⟩

set_option maxHeartbeats 4000000 in
set_option maxRecDepth 100000 in
theorem c_firstIn (l : Launch) (D : va_G) (cI cJ : ClassId) (z : Nat) (zr : Nat) (a0 : Value) (a1 : Value) (a2 : Value) (a3 : Value) (a4 : Value) (a5 : Value) (a6 : Value) (a7 : Value) (a9 : Value) (a10 : Value) (a11 : Value) (a12 : Value) (a13 : Value) (a14 : Value) (a15 : Value) (a16 : Value) (a17 : Value) (a18 : Value) (a19 : Value) (a20 : Value) (a21 : Value) (a22 : Value) (a23 : Value) (a24 : Value) (Rw : Nat → Int32) (j : Nat) (y : Int32) (hj6 : j < 6) : jRi l yX7_firstIn wsX7_firstIn ({ frames := 1, cells := 0, slots := 0, locals := 25 }) [.ref z, .int (nI j), .int y] D cI cJ (fun H => va_P D vwCl [(z, .inr (7, [a0, a1, a2, a3, a4, a5, a6, a7, .ref zr, a9, a10, a11, a12, a13, a14, a15, a16, a17, a18, a19, a20, a21, a22, a23, a24])), (zr, .inl (cI, 30, .inl Rw))] H) (fun r => r = mfi Rw j y) := by
  intro sz
  refine Met.ofW (cc := cX7_firstIn) (maxL := 5) (ret := (some .int)) (by decide) rfl ?_
  intro p e s m args below meth c s₁ B hml hv
  obtain ⟨rfl, hsz, hT, hPr⟩ := hv
  have hK := hT.1
  have hx := B.exec
  have hb := B.bytes
  have hr := B.returns
  have hts := atoms_spec (ws := wsX7_firstIn) B.pre
  have hown : s.vm.findClass RX7 = some m.cls := findClass_of_methodNamed B.named
  have hlocks := B.notSynchronized
  subst hsz
  generalize hAe : va_A [] s.heap.size = A
  have hA : ∀ q : Nat, s.heap.size ≤ q → A q := fun q h => by rw [← hAe]; exact Or.inr h
  have hS : va_S A s.heap s.heap [] := va_S.rf
  have hl := lv_entry ([.ref z, .int (nI j), .int y] : List Value) (n := 5) (Nat.le_of_ble_eq_true rfl)
  rw [lg_entry_eq]
  generalize (lg_sl ([.ref z, .int (nI j), .int y]) ++ List.replicate (5 - (lg_sl ([.ref z, .int (nI j), .int y])).length) Slot.unset).toArray = ls at hl ⊢
  have hl : lv_has ls 5 [(0, .ref z), (1, .int (nI j)), (2, .int y)] := hl
  refine lv_aload_n hx hb dX7_firstIn_0 rfl (lv_at hl 0 rfl) ?_
  refine va_get (D := D) (ci := 7) (v := .ref zr) (C := RX7) (T := TX7) (N := 25) hx hb hts (fun w h => List.mem_cons_of_mem _ (List.mem_append_right _ h)) hown hK hPr 0 rfl rfl 8 (by decide) (hts (Cond.fieldLink RX7 13 "JamDaysModel" "rows" "[I") (List.mem_of_getElem? (i := 1) rfl)) (fun _ h9 => h9) rfl dX7_firstIn_1 ?_
  refine lv_iconst (v := 5) hx hb dX7_firstIn_4 (by decide) ?_
  refine lv_iload_n hx hb dX7_firstIn_5 rfl (lv_at hl 1 rfl) ?_
  refine lv_imul hx hb dX7_firstIn_6 ?_
  refine jv_as (y := nI (5 * j)) (pk_mul 5 j) ?_
  refine jv_ald (k := 5 * j) hx hb hK hPr 1 0 rfl rfl (by omega) (by decide) dX7_firstIn_7 ?_
  refine lv_istore_n (lv' := [(3, .int (Rw (5 * j))), (0, .ref z), (1, .int (nI j)), (2, .int y)]) hx hb dX7_firstIn_8 rfl hl (by decide) rfl (fun ls hl => ?_)
  refine lv_aload_n hx hb dX7_firstIn_9 rfl (lv_at hl 1 rfl) ?_
  refine va_get (D := D) (ci := 7) (v := .ref zr) (C := RX7) (T := TX7) (N := 25) hx hb hts (fun w h => List.mem_cons_of_mem _ (List.mem_append_right _ h)) hown hK hPr 0 rfl rfl 8 (by decide) (hts (Cond.fieldLink RX7 13 "JamDaysModel" "rows" "[I") (List.mem_of_getElem? (i := 1) rfl)) (fun _ h9 => h9) rfl dX7_firstIn_10 ?_
  refine lv_iconst (v := 5) hx hb dX7_firstIn_13 (by decide) ?_
  refine lv_iload_n hx hb dX7_firstIn_14 rfl (lv_at hl 2 rfl) ?_
  refine lv_imul hx hb dX7_firstIn_15 ?_
  refine jv_as (y := nI (5 * j)) (pk_mul 5 j) ?_
  refine lv_iconst (v := 1) hx hb dX7_firstIn_16 (by decide) ?_
  refine lv_iadd hx hb dX7_firstIn_17 ?_
  refine jv_as (y := nI ((5 * j) + 1)) (nI_add (5 * j) 1) ?_
  refine jv_ald (k := (5 * j) + 1) hx hb hK hPr 1 0 rfl rfl (by omega) (by decide) dX7_firstIn_18 ?_
  refine lv_aload_n hx hb dX7_firstIn_19 rfl (lv_at hl 1 rfl) ?_
  refine lv_iload_n hx hb dX7_firstIn_20 rfl (lv_at hl 2 rfl) ?_
  refine lv_iload_n hx hb dX7_firstIn_21 rfl (lv_at hl 3 rfl) ?_
  have hPc_1 := hPr.sub (ws' := [(z, .inr (7, [a0, a1, a2, a3, a4, a5, a6, a7, .ref zr, a9, a10, a11, a12, a13, a14, a15, a16, a17, a18, a19, a20, a21, a22, a23, a24])), (zr, .inl (cI, 30, .inl Rw))]) [0, 1] rfl
  refine jcalli (va_runV (As := [.int (nI j), .int y]) (rest := [.int (Rw ((5 * j) + 1))]) ⟨hx, hb, hml, hown, hts⟩ (c_mmouldIn l D cI cJ z zr a0 a1 a2 a3 a4 a5 a6 a7 a9 a10 a11 a12 a13 a14 a15 a16 a17 a18 a19 a20 a21 a22 a23 a24 Rw j y hj6 s.heap.size) (cwV 2 hts gX7_firstIn_X7_mouldIn rfl rfl rfl (by decide +kernel) ⟨Nat.le_of_ble_eq_true rfl, Nat.le_of_ble_eq_true rfl⟩) (jpreV hT (va_recv hK hPr (ci := 7) (q0 := 0) rfl rfl) hPc_1) rfl rfl hl.1 rfl (lv_room (Nat.le_of_ble_eq_true rfl)) dX7_firstIn_22 ⟨(Nat.zero_le _), (Nat.zero_le _)⟩) hS hA (fun r_2 H locs hw_r_2 hkq hS => ?_)
  try dsimp only at hw_r_2
  have hPr := jkeep hPr hkq
  subst hw_r_2
  refine lv_isub hx hb dX7_firstIn_25 ?_
  refine lv_istore (lv' := [(4, .int ((Rw ((5 * j) + 1)) - (mmo Rw j y))), (3, .int (Rw (5 * j))), (0, .ref z), (1, .int (nI j)), (2, .int y)]) hx hb dX7_firstIn_26 hl (by decide) rfl (fun ls hl => ?_)
  refine lv_iload_n hx hb dX7_firstIn_28 rfl (lv_at hl 1 rfl) ?_
  refine lv_iconst (v := 4) hx hb dX7_firstIn_29 (by decide) ?_
  refine lv_icmp_ne (tgt := 40) hx hb dX7_firstIn_30 (by decide) (fun c_3 => ?_) (fun c_3 => ?_)
  · skip
    refine lv_iload_n hx hb dX7_firstIn_40 rfl (lv_at hl 1 rfl) ?_
    refine lv_iconst (v := 3) hx hb dX7_firstIn_41 (by decide) ?_
    refine lv_icmp_ne (tgt := 59) hx hb dX7_firstIn_42 (by decide) (fun c_4 => ?_) (fun c_4 => ?_)
    · skip
      refine lv_iload hx hb dX7_firstIn_59 (lv_at hl 0 rfl) ?_
      exact W.iret (v := (Rw ((5 * j) + 1)) - (mmo Rw j y)) hx hb hr (fun t ht hW => ⟨⟨(Rw ((5 * j) + 1)) - (mmo Rw j y), (), rfl, (by first | (simp [mfi, c_3, c_4]; done) | exact absurd (c_3.symm.trans c_4) (by decide)), trivial⟩, hS.F ht⟩) hS.2.2 dX7_firstIn_61
    · skip
      refine lv_iload_n hx hb dX7_firstIn_45 rfl (lv_at hl 4 rfl) ?_
      refine lv_iconst (v := 2) hx hb dX7_firstIn_46 (by decide) ?_
      refine lv_irem hx hb dX7_firstIn_47 (by decide) ?_
      refine lv_iconst (v := 1) hx hb dX7_firstIn_48 (by decide) ?_
      refine lv_icmp_ne (tgt := 59) hx hb dX7_firstIn_49 (by decide) (fun c_5 => ?_) (fun c_5 => ?_)
      · skip
        refine lv_iload hx hb dX7_firstIn_59 (lv_at hl 0 rfl) ?_
        exact W.iret (v := (Rw ((5 * j) + 1)) - (mmo Rw j y)) hx hb hr (fun t ht hW => ⟨⟨(Rw ((5 * j) + 1)) - (mmo Rw j y), (), rfl, (by first | (simp [mfi, c_3, c_4, c_5]; done) | exact absurd (c_3.symm.trans c_4) (by decide) | exact absurd (c_3.symm.trans c_5) (by decide) | exact absurd (c_4.symm.trans c_5) (by decide)), trivial⟩, hS.F ht⟩) hS.2.2 dX7_firstIn_61
      · skip
        refine lv_iload hx hb dX7_firstIn_52 (lv_at hl 0 rfl) ?_
        refine lv_iconst (v := 3) hx hb dX7_firstIn_54 (by decide) ?_
        refine lv_iadd hx hb dX7_firstIn_55 ?_
        refine lv_goto (tgt := 61) hx hb dX7_firstIn_56 (by decide) ?_
        exact W.iret (v := ((Rw ((5 * j) + 1)) - (mmo Rw j y)) + 3) hx hb hr (fun t ht hW => ⟨⟨((Rw ((5 * j) + 1)) - (mmo Rw j y)) + 3, (), rfl, (by first | (simp [mfi, c_3, c_4, c_5]; done) | exact absurd (c_3.symm.trans c_4) (by decide) | exact absurd (c_3.symm.trans c_5) (by decide) | exact absurd (c_4.symm.trans c_5) (by decide)), trivial⟩, hS.F ht⟩) hS.2.2 dX7_firstIn_61
  · skip
    refine lv_iconst (v := 2) hx hb dX7_firstIn_33 (by decide) ?_
    refine lv_iload hx hb dX7_firstIn_34 (lv_at hl 0 rfl) ?_
    refine lv_imul hx hb dX7_firstIn_36 ?_
    refine lv_goto (tgt := 61) hx hb dX7_firstIn_37 (by decide) ?_
    exact W.iret (v := 2 * ((Rw ((5 * j) + 1)) - (mmo Rw j y))) hx hb hr (fun t ht hW => ⟨⟨2 * ((Rw ((5 * j) + 1)) - (mmo Rw j y)), (), rfl, (by first | (simp [mfi, c_3]; done)), trivial⟩, hS.F ht⟩) hS.2.2 dX7_firstIn_61

set_option maxHeartbeats 4000000 in
set_option maxRecDepth 100000 in
theorem c_nextNow (l : Launch) (D : va_G) (cI cJ : ClassId) (z : Nat) (zr : Nat) (a0 : Value) (a1 : Value) (a2 : Value) (a4 : Value) (a5 : Value) (a6 : Value) (a7 : Value) (a9 : Value) (a10 : Value) (a11 : Value) (a12 : Value) (a13 : Value) (a14 : Value) (a15 : Value) (a16 : Value) (a17 : Value) (a18 : Value) (a19 : Value) (a20 : Value) (a21 : Value) (a22 : Value) (a23 : Value) (a24 : Value) (Rw : Nat → Int32) (y : Int32) (j : Nat) (hj6 : j < 6) : jRi l yX7_nextNow wsX7_nextNow ({ frames := 2, cells := 0, slots := 0, locals := 49 }) [.ref z, .int (nI j)] D cI cJ (fun H => va_P D vwCl [(z, .inr (7, [a0, a1, a2, .int y, a4, a5, a6, a7, .ref zr, a9, a10, a11, a12, a13, a14, a15, a16, a17, a18, a19, a20, a21, a22, a23, a24])), (zr, .inl (cI, 30, .inl Rw))] H) (fun r => r = mfi Rw j y - Rw (5 * j + 4)) := by
  intro sz
  refine Met.ofW (cc := cX7_nextNow) (maxL := 2) (ret := (some .int)) (by decide) rfl ?_
  intro p e s m args below meth c s₁ B hml hv
  obtain ⟨rfl, hsz, hT, hPr⟩ := hv
  have hK := hT.1
  have hx := B.exec
  have hb := B.bytes
  have hr := B.returns
  have hts := atoms_spec (ws := wsX7_nextNow) B.pre
  have hown : s.vm.findClass RX7 = some m.cls := findClass_of_methodNamed B.named
  have hlocks := B.notSynchronized
  subst hsz
  generalize hAe : va_A [] s.heap.size = A
  have hA : ∀ q : Nat, s.heap.size ≤ q → A q := fun q h => by rw [← hAe]; exact Or.inr h
  have hS : va_S A s.heap s.heap [] := va_S.rf
  have hl := lv_entry ([.ref z, .int (nI j)] : List Value) (n := 2) (Nat.le_of_ble_eq_true rfl)
  rw [lg_entry_eq]
  generalize (lg_sl ([.ref z, .int (nI j)]) ++ List.replicate (2 - (lg_sl ([.ref z, .int (nI j)])).length) Slot.unset).toArray = ls at hl ⊢
  have hl : lv_has ls 2 [(0, .ref z), (1, .int (nI j))] := hl
  refine lv_aload_n hx hb dX7_nextNow_0 rfl (lv_at hl 0 rfl) ?_
  refine lv_iload_n hx hb dX7_nextNow_1 rfl (lv_at hl 1 rfl) ?_
  refine lv_aload_n hx hb dX7_nextNow_2 rfl (lv_at hl 0 rfl) ?_
  refine va_get (D := D) (ci := 7) (v := .int y) (C := RX7) (T := TX7) (N := 25) hx hb hts (fun w h => List.mem_cons_of_mem _ (List.mem_append_right _ h)) hown hK hPr 0 rfl rfl 3 (by decide) (hts (Cond.fieldLink RX7 66 "JamDaysModel" "yearNow" "I") (List.mem_of_getElem? (i := 1) rfl)) (fun _ h9 => h9) rfl dX7_nextNow_3 ?_
  have hPc_1 := hPr.sub (ws' := [(z, .inr (7, [a0, a1, a2, .int y, a4, a5, a6, a7, .ref zr, a9, a10, a11, a12, a13, a14, a15, a16, a17, a18, a19, a20, a21, a22, a23, a24])), (zr, .inl (cI, 30, .inl Rw))]) [0, 1] rfl
  refine jcalli (va_runV (As := [.int (nI j), .int y]) (rest := []) ⟨hx, hb, hml, hown, hts⟩ (c_firstIn l D cI cJ z zr a0 a1 a2 (.int y) a4 a5 a6 a7 a9 a10 a11 a12 a13 a14 a15 a16 a17 a18 a19 a20 a21 a22 a23 a24 Rw j y hj6 s.heap.size) (cwV 2 hts gX7_nextNow_X7_firstIn rfl rfl rfl (by decide +kernel) ⟨Nat.le_of_ble_eq_true rfl, Nat.le_of_ble_eq_true rfl⟩) (jpreV hT (va_recv hK hPr (ci := 7) (q0 := 0) rfl rfl) hPc_1) rfl rfl hl.1 rfl (lv_room (Nat.le_of_ble_eq_true rfl)) dX7_nextNow_6 ⟨(Nat.zero_le _), (Nat.zero_le _)⟩) hS hA (fun r_2 H locs hw_r_2 hkq hS => ?_)
  try dsimp only at hw_r_2
  have hPr := jkeep hPr hkq
  subst hw_r_2
  refine lv_aload_n hx hb dX7_nextNow_9 rfl (lv_at hl 0 rfl) ?_
  refine va_get (D := D) (ci := 7) (v := .ref zr) (C := RX7) (T := TX7) (N := 25) hx hb hts (fun w h => List.mem_cons_of_mem _ (List.mem_append_right _ h)) hown hK hPr 0 rfl rfl 8 (by decide) (hts (Cond.fieldLink RX7 13 "JamDaysModel" "rows" "[I") (List.mem_of_getElem? (i := 2) rfl)) (fun _ h9 => h9) rfl dX7_nextNow_10 ?_
  refine lv_iconst (v := 5) hx hb dX7_nextNow_13 (by decide) ?_
  refine lv_iload_n hx hb dX7_nextNow_14 rfl (lv_at hl 1 rfl) ?_
  refine lv_imul hx hb dX7_nextNow_15 ?_
  refine jv_as (y := nI (5 * j)) (pk_mul 5 j) ?_
  refine lv_iconst (v := 4) hx hb dX7_nextNow_16 (by decide) ?_
  refine lv_iadd hx hb dX7_nextNow_17 ?_
  refine jv_as (y := nI ((5 * j) + 4)) (nI_add (5 * j) 4) ?_
  refine jv_ald (k := (5 * j) + 4) hx hb hK hPr 1 0 rfl rfl (by omega) (by decide) dX7_nextNow_18 ?_
  refine lv_isub hx hb dX7_nextNow_19 ?_
  exact W.iret (v := (mfi Rw j y) - (Rw ((5 * j) + 4))) hx hb hr (fun t ht hW => ⟨⟨(mfi Rw j y) - (Rw ((5 * j) + 4)), (), rfl, rfl, trivial⟩, hS.F ht⟩) hS.2.2 dX7_nextNow_20

def mwm (g : Nat → Int32) : Nat → Int32
  | 0 => -99999
  | k + 1 => if g k ≤ mwm g k then mwm g k else g k
def mwf (g : Nat → Int32) : Nat → Int32
  | 0 => -1
  | k + 1 => if g k ≤ mwm g k then mwf g k else nI k
set_option maxHeartbeats 4000000 in
set_option maxRecDepth 100000 in
theorem c_whenOf (l : Launch) (D : va_G) (cI cJ : ClassId) (z : Nat) (zr : Nat) (a0 : Value) (a1 : Value) (a2 : Value) (a4 : Value) (a5 : Value) (a6 : Value) (a7 : Value) (a9 : Value) (a10 : Value) (a11 : Value) (a12 : Value) (a13 : Value) (a14 : Value) (a15 : Value) (a16 : Value) (a17 : Value) (a18 : Value) (a19 : Value) (a20 : Value) (a21 : Value) (a22 : Value) (a23 : Value) (a24 : Value) (Rw : Nat → Int32) (y : Int32) (j : Nat) (hj6 : j < 6) : jRi l yX7_whenOf wsX7_whenOf ({ frames := 2, cells := 0, slots := 0, locals := 49 }) [.ref z, .int (nI j)] D cI cJ (fun H => va_P D vwCl [(z, .inr (7, [a0, a1, a2, .int y, a4, a5, a6, a7, .ref zr, a9, a10, a11, a12, a13, a14, a15, a16, a17, a18, a19, a20, a21, a22, a23, a24])), (zr, .inl (cI, 30, .inl Rw))] H) (fun r => r = mwf (fun i => mfi Rw j (y + nI i)) 10) := by
  intro sz
  refine Met.ofW (cc := cX7_whenOf) (maxL := 6) (ret := (some .int)) (by decide) rfl ?_
  intro p e s m args below meth c s₁ B hml hv
  obtain ⟨rfl, hsz, hT, hPr⟩ := hv
  have hK := hT.1
  have hx := B.exec
  have hb := B.bytes
  have hr := B.returns
  have hts := atoms_spec (ws := wsX7_whenOf) B.pre
  have hown : s.vm.findClass RX7 = some m.cls := findClass_of_methodNamed B.named
  have hlocks := B.notSynchronized
  subst hsz
  generalize hAe : va_A [] s.heap.size = A
  have hA : ∀ q : Nat, s.heap.size ≤ q → A q := fun q h => by rw [← hAe]; exact Or.inr h
  have hS : va_S A s.heap s.heap [] := va_S.rf
  have hl := lv_entry ([.ref z, .int (nI j)] : List Value) (n := 6) (Nat.le_of_ble_eq_true rfl)
  rw [lg_entry_eq]
  generalize (lg_sl ([.ref z, .int (nI j)]) ++ List.replicate (6 - (lg_sl ([.ref z, .int (nI j)])).length) Slot.unset).toArray = ls at hl ⊢
  have hl : lv_has ls 6 [(0, .ref z), (1, .int (nI j))] := hl
  refine lv_iconst (v := (-1)) hx hb dX7_whenOf_0 (by decide) ?_
  refine lv_istore_n (lv' := [(2, .int (-1)), (0, .ref z), (1, .int (nI j))]) hx hb dX7_whenOf_1 rfl hl (by decide) rfl (fun ls hl => ?_)
  refine lv_ldc (v := (-99999)) hx hb hown (hts (Cond.constant RX7 91 (-99999)) (List.mem_of_getElem? (i := 1) rfl)) dX7_whenOf_2 ?_
  refine lv_istore_n (lv' := [(3, .int (-99999)), (2, .int (-1)), (0, .ref z), (1, .int (nI j))]) hx hb dX7_whenOf_4 rfl hl (by decide) rfl (fun ls hl => ?_)
  refine lv_iconst (v := 0) hx hb dX7_whenOf_5 (by decide) ?_
  refine lv_istore (lv' := [(4, .int 0), (3, .int (-99999)), (2, .int (-1)), (0, .ref z), (1, .int (nI j))]) hx hb dX7_whenOf_6 hl (by decide) rfl (fun ls hl => ?_)
  refine jloop (α := Nat × Int32 × Int32) (fun (x9 : Nat × Int32 × Int32) (H : Heap) (locs : List Loc) (ls : Array Slot) => match x9 with | (k, f, w) => (va_P D vwCl [(z, .inr (7, [a0, a1, a2, .int y, a4, a5, a6, a7, .ref zr, a9, a10, a11, a12, a13, a14, a15, a16, a17, a18, a19, a20, a21, a22, a23, a24])), (zr, .inl (cI, 30, .inl Rw))] H) ∧ (va_S A s.heap H locs) ∧ (lv_has ls 6 [(0, .ref z), (1, .int (nI j)), (2, .int f), (3, .int w), (4, .int (nI k))]) ∧ (k ≤ 10) ∧ (f = mwf (fun i => mfi Rw j (y + nI i)) k) ∧ (w = mwm (fun i => mfi Rw j (y + nI i)) k)) (fun (x9 : Nat × Int32 × Int32) => match x9 with | (k, f, w) => 10 - k) (fun x9 H locs ls hx9 ih_8 => ?_) (0, (-1), (-99999)) _ _ _ ⟨hPr, hS, lv_sub hl [3, 4, 2, 1, 0] rfl, (by omega), rfl, rfl⟩
  obtain ⟨k, f, w⟩ := x9
  obtain ⟨hPr, hS, hl, hk9, hfk, hwk⟩ := hx9
  refine lv_iload hx hb dX7_whenOf_8 (lv_at hl 4 rfl) ?_
  refine lv_bipush (v := 10) hx hb dX7_whenOf_10 (by decide) ?_
  refine lv_icmp_ge (tgt := 61) hx hb dX7_whenOf_12 (by decide) (fun c_1 => ?_) (fun c_1 => ?_)
  · skip
    replace c_1 : 10 ≤ k := (nI_leI (a := 10) (b := k) (by omega) (by omega)).mp c_1
    refine lv_iload_n hx hb dX7_whenOf_61 rfl (lv_at hl 2 rfl) ?_
    exact W.iret (v := f) hx hb hr (fun t ht hW => ⟨⟨f, (), rfl, (by rw [hfk, show k = 10 by omega]), trivial⟩, hS.F ht⟩) hS.2.2 dX7_whenOf_62
  · skip
    replace c_1 : ¬ 10 ≤ k := fun h => c_1 ((nI_leI (a := 10) (b := k) (by omega) (by omega)).mpr h)
    refine lv_aload_n hx hb dX7_whenOf_15 rfl (lv_at hl 0 rfl) ?_
    refine lv_iload_n hx hb dX7_whenOf_16 rfl (lv_at hl 1 rfl) ?_
    refine lv_aload_n hx hb dX7_whenOf_17 rfl (lv_at hl 0 rfl) ?_
    refine va_get (D := D) (ci := 7) (v := .int y) (C := RX7) (T := TX7) (N := 25) hx hb hts (fun w h => List.mem_cons_of_mem _ (List.mem_append_right _ h)) hown hK hPr 0 rfl rfl 3 (by decide) (hts (Cond.fieldLink RX7 66 "JamDaysModel" "yearNow" "I") (List.mem_of_getElem? (i := 2) rfl)) (fun _ h9 => h9) rfl dX7_whenOf_18 ?_
    refine lv_iload hx hb dX7_whenOf_21 (lv_at hl 4 rfl) ?_
    refine lv_iadd hx hb dX7_whenOf_23 ?_
    have hPc_2 := hPr.sub (ws' := [(z, .inr (7, [a0, a1, a2, .int y, a4, a5, a6, a7, .ref zr, a9, a10, a11, a12, a13, a14, a15, a16, a17, a18, a19, a20, a21, a22, a23, a24])), (zr, .inl (cI, 30, .inl Rw))]) [0, 1] rfl
    refine jcalli (va_runV (As := [.int (nI j), .int (y + (nI k))]) (rest := []) ⟨hx, hb, hml, hown, hts⟩ (c_firstIn l D cI cJ z zr a0 a1 a2 (.int y) a4 a5 a6 a7 a9 a10 a11 a12 a13 a14 a15 a16 a17 a18 a19 a20 a21 a22 a23 a24 Rw j (y + (nI k)) hj6 H.size) (cwV 2 hts gX7_whenOf_X7_firstIn rfl rfl rfl (by decide +kernel) ⟨Nat.le_of_ble_eq_true rfl, Nat.le_of_ble_eq_true rfl⟩) (jpreV hT (va_recv hK hPr (ci := 7) (q0 := 0) rfl rfl) hPc_2) rfl rfl hl.1 rfl (lv_room (Nat.le_of_ble_eq_true rfl)) dX7_whenOf_24 ⟨(Nat.zero_le _), (Nat.zero_le _)⟩) hS hA (fun r_3 H locs hw_r_3 hkq hS => ?_)
    try dsimp only at hw_r_3
    have hPr := jkeep hPr hkq
    subst hw_r_3
    refine lv_istore (lv' := [(5, .int (mfi Rw j (y + (nI k)))), (0, .ref z), (1, .int (nI j)), (2, .int f), (3, .int w), (4, .int (nI k))]) hx hb dX7_whenOf_27 hl (by decide) rfl (fun ls hl => ?_)
    refine lv_iload hx hb dX7_whenOf_29 (lv_at hl 0 rfl) ?_
    refine lv_iload_n hx hb dX7_whenOf_31 rfl (lv_at hl 4 rfl) ?_
    refine lv_icmp_le (tgt := 40) hx hb dX7_whenOf_32 (by decide) (fun c_4 => ?_) (fun c_4 => ?_)
    · skip
      refine lv_iload_n hx hb dX7_whenOf_40 rfl (lv_at hl 3 rfl) ?_
      refine lv_istore_n (lv' := [(2, .int f), (5, .int (mfi Rw j (y + (nI k)))), (0, .ref z), (1, .int (nI j)), (3, .int w), (4, .int (nI k))]) hx hb dX7_whenOf_41 rfl hl (by decide) rfl (fun ls hl => ?_)
      refine lv_iload hx hb dX7_whenOf_42 (lv_at hl 1 rfl) ?_
      refine lv_iload_n hx hb dX7_whenOf_44 rfl (lv_at hl 4 rfl) ?_
      refine lv_icmp_le (tgt := 53) hx hb dX7_whenOf_45 (by decide) (fun c_5 => ?_) (fun c_5 => ?_)
      · skip
        refine lv_iload_n hx hb dX7_whenOf_53 rfl (lv_at hl 4 rfl) ?_
        refine lv_istore_n (lv' := [(3, .int w), (2, .int f), (5, .int (mfi Rw j (y + (nI k)))), (0, .ref z), (1, .int (nI j)), (4, .int (nI k))]) hx hb dX7_whenOf_54 rfl hl (by decide) rfl (fun ls hl => ?_)
        refine lv_iinc (v := nI (k + 1)) (lv' := [(4, .int (nI (k + 1))), (3, .int w), (2, .int f), (5, .int (mfi Rw j (y + (nI k)))), (0, .ref z), (1, .int (nI j))]) hx hb dX7_whenOf_55 hl (k := 5) rfl ((rfl : nI k + Int32.ofInt 1 = nI k + nI 1).trans (nI_add k 1)) (by decide) rfl (fun ls hl => ?_)
        refine lv_goto (tgt := 8) hx hb dX7_whenOf_58 (by decide) ?_
        exact ih_8 (k + 1, f, w) _ _ _ ⟨hPr, hS, lv_sub hl [4, 5, 2, 1, 0] rfl, (by omega), (by rw [mwf, if_pos (by rw [← hwk]; exact c_4)]; exact hfk), (by rw [mwm, if_pos (by rw [← hwk]; exact c_4)]; exact hwk)⟩ (by dsimp only; omega)
      · skip
        exact absurd c_4 c_5
    · skip
      refine lv_iload hx hb dX7_whenOf_35 (lv_at hl 5 rfl) ?_
      refine lv_goto (tgt := 41) hx hb dX7_whenOf_37 (by decide) ?_
      refine lv_istore_n (lv' := [(2, .int (nI k)), (5, .int (mfi Rw j (y + (nI k)))), (0, .ref z), (1, .int (nI j)), (3, .int w), (4, .int (nI k))]) hx hb dX7_whenOf_41 rfl hl (by decide) rfl (fun ls hl => ?_)
      refine lv_iload hx hb dX7_whenOf_42 (lv_at hl 1 rfl) ?_
      refine lv_iload_n hx hb dX7_whenOf_44 rfl (lv_at hl 4 rfl) ?_
      refine lv_icmp_le (tgt := 53) hx hb dX7_whenOf_45 (by decide) (fun c_6 => ?_) (fun c_6 => ?_)
      · skip
        exact absurd c_6 c_4
      · skip
        refine lv_iload hx hb dX7_whenOf_48 (lv_at hl 1 rfl) ?_
        refine lv_goto (tgt := 54) hx hb dX7_whenOf_50 (by decide) ?_
        refine lv_istore_n (lv' := [(3, .int (mfi Rw j (y + (nI k)))), (2, .int (nI k)), (5, .int (mfi Rw j (y + (nI k)))), (0, .ref z), (1, .int (nI j)), (4, .int (nI k))]) hx hb dX7_whenOf_54 rfl hl (by decide) rfl (fun ls hl => ?_)
        refine lv_iinc (v := nI (k + 1)) (lv' := [(4, .int (nI (k + 1))), (3, .int (mfi Rw j (y + (nI k)))), (2, .int (nI k)), (5, .int (mfi Rw j (y + (nI k)))), (0, .ref z), (1, .int (nI j))]) hx hb dX7_whenOf_55 hl (k := 5) rfl ((rfl : nI k + Int32.ofInt 1 = nI k + nI 1).trans (nI_add k 1)) (by decide) rfl (fun ls hl => ?_)
        refine lv_goto (tgt := 8) hx hb dX7_whenOf_58 (by decide) ?_
        exact ih_8 (k + 1, nI k, mfi Rw j (y + (nI k))) _ _ _ ⟨hPr, hS, lv_sub hl [4, 5, 2, 1, 0] rfl, (by omega), (by rw [mwf, if_neg (by rw [← hwk]; exact c_4)]), (by rw [mwm, if_neg (by rw [← hwk]; exact c_4)])⟩ (by dsimp only; omega)

set_option maxHeartbeats 4000000 in
set_option maxRecDepth 100000 in
theorem c_tell_out (l : Launch) (D : va_G) (cI cJ : ClassId) (z : Nat) (j : Nat) (wh : Int32) (h8 : wh.toInt < 0 ∨ 7 < wh.toInt) : jRi l yX7_tell wsX7_tell ({ frames := 0, cells := 0, slots := 0, locals := 0 }) [.ref z, .int (nI j), .int wh] D cI cJ (fun H => True) (fun r => r = -102) := by
  intro sz
  refine Met.ofW (cc := cX7_tell) (maxL := 3) (ret := (some .int)) (by decide) rfl ?_
  intro p e s m args below meth c s₁ B hml hv
  obtain ⟨rfl, hsz, hT, _⟩ := hv
  have hK := hT.1
  have hx := B.exec
  have hb := B.bytes
  have hr := B.returns
  have hts := atoms_spec (ws := wsX7_tell) B.pre
  have hown : s.vm.findClass RX7 = some m.cls := findClass_of_methodNamed B.named
  have hlocks := B.notSynchronized
  subst hsz
  generalize hAe : va_A [] s.heap.size = A
  have hA : ∀ q : Nat, s.heap.size ≤ q → A q := fun q h => by rw [← hAe]; exact Or.inr h
  have hS : va_S A s.heap s.heap [] := va_S.rf
  have hl := lv_entry ([.ref z, .int (nI j), .int wh] : List Value) (n := 3) (Nat.le_of_ble_eq_true rfl)
  rw [lg_entry_eq]
  generalize (lg_sl ([.ref z, .int (nI j), .int wh]) ++ List.replicate (3 - (lg_sl ([.ref z, .int (nI j), .int wh])).length) Slot.unset).toArray = ls at hl ⊢
  have hl : lv_has ls 3 [(0, .ref z), (1, .int (nI j)), (2, .int wh)] := hl
  refine lv_iload_n hx hb dX7_tell_0 rfl (lv_at hl 2 rfl) ?_
  refine lv_tableOut (tgt := 95) hx hb dX7_tell_1 h8 (by decide) ?_
  refine lv_bipush (v := (-102)) hx hb dX7_tell_95 (by decide) ?_
  exact W.iret (v := (-102)) hx hb hr (fun t ht hW => ⟨⟨(-102), (), rfl, rfl, trivial⟩, hS.F ht⟩) hS.2.2 dX7_tell_97

set_option maxHeartbeats 4000000 in
set_option maxRecDepth 100000 in
theorem c_tell_ok (l : Launch) (D : va_G) (cI cJ : ClassId) (z : Nat) (zr : Nat) (a0 : Value) (a1 : Value) (a2 : Value) (a4 : Value) (a5 : Value) (a6 : Value) (a7 : Value) (a9 : Value) (a10 : Value) (a11 : Value) (a12 : Value) (a13 : Value) (a14 : Value) (a15 : Value) (a16 : Value) (a17 : Value) (a18 : Value) (a19 : Value) (a20 : Value) (a21 : Value) (a22 : Value) (a23 : Value) (a24 : Value) (Rw : Nat → Int32) (y : Int32) (j : Nat) (cq : Nat) (hj6 : j < 6) (hc : cq < 8) : jRi l yX7_tell wsX7_tell ({ frames := 3, cells := 0, slots := 0, locals := 74 }) [.ref z, .int (nI j), .int (nI cq)] D cI cJ (fun H => va_P D vwCl [(z, .inr (7, [a0, a1, a2, .int y, a4, a5, a6, a7, .ref zr, a9, a10, a11, a12, a13, a14, a15, a16, a17, a18, a19, a20, a21, a22, a23, a24])), (zr, .inl (cI, 30, .inl Rw))] H) (fun r => r = jtl (Rw (5 * j)) (Rw (5 * j + 1)) (Rw (5 * j + 2)) (Rw (5 * j + 3)) (mmo Rw j y) (mfi Rw j y - Rw (5 * j + 4) + 100) (Rw (5 * j + 4)) (mwf (fun i => mfi Rw j (y + nI i)) 10) cq) := by
  intro sz
  refine Met.ofW (cc := cX7_tell) (maxL := 3) (ret := (some .int)) (by decide) rfl ?_
  intro p e s m args below meth c s₁ B hml hv
  obtain ⟨rfl, hsz, hT, hPr⟩ := hv
  have hK := hT.1
  have hx := B.exec
  have hb := B.bytes
  have hr := B.returns
  have hts := atoms_spec (ws := wsX7_tell) B.pre
  have hown : s.vm.findClass RX7 = some m.cls := findClass_of_methodNamed B.named
  have hlocks := B.notSynchronized
  subst hsz
  generalize hAe : va_A [] s.heap.size = A
  have hA : ∀ q : Nat, s.heap.size ≤ q → A q := fun q h => by rw [← hAe]; exact Or.inr h
  have hS : va_S A s.heap s.heap [] := va_S.rf
  have hl := lv_entry ([.ref z, .int (nI j), .int (nI cq)] : List Value) (n := 3) (Nat.le_of_ble_eq_true rfl)
  rw [lg_entry_eq]
  generalize (lg_sl ([.ref z, .int (nI j), .int (nI cq)]) ++ List.replicate (3 - (lg_sl ([.ref z, .int (nI j), .int (nI cq)])).length) Slot.unset).toArray = ls at hl ⊢
  have hl : lv_has ls 3 [(0, .ref z), (1, .int (nI j)), (2, .int (nI cq))] := hl
  rcases (show cq = 0 ∨ cq = 1 ∨ cq = 2 ∨ cq = 3 ∨ cq = 4 ∨ cq = 5 ∨ cq = 6 ∨ cq = 7 from by omega) with rfl | rfl | rfl | rfl | rfl | rfl | rfl | rfl
  · skip
    have hl : lv_has ls 3 [(0, .ref z), (1, .int (nI j)), (2, .int 0)] := hl
    refine lv_iload_n hx hb dX7_tell_0 rfl (lv_at hl 2 rfl) ?_
    refine lv_tableIn (off := 47) (tgt := 48) hx hb dX7_tell_1 (by decide) (by decide) (by decide) (by decide) ?_
    refine lv_aload_n hx hb dX7_tell_48 rfl (lv_at hl 0 rfl) ?_
    refine va_get (D := D) (ci := 7) (v := .ref zr) (C := RX7) (T := TX7) (N := 25) hx hb hts (fun w h => List.mem_cons_of_mem _ (List.mem_append_right _ h)) hown hK hPr 0 rfl rfl 8 (by decide) (hts (Cond.fieldLink RX7 13 "JamDaysModel" "rows" "[I") (List.mem_of_getElem? (i := 1) rfl)) (fun _ h9 => h9) rfl dX7_tell_49 ?_
    refine lv_iconst (v := 5) hx hb dX7_tell_52 (by decide) ?_
    refine lv_iload_n hx hb dX7_tell_53 rfl (lv_at hl 1 rfl) ?_
    refine lv_imul hx hb dX7_tell_54 ?_
    refine jv_as (y := nI (5 * j)) (pk_mul 5 j) ?_
    refine lv_iload_n hx hb dX7_tell_55 rfl (lv_at hl 2 rfl) ?_
    refine lv_iadd hx hb dX7_tell_56 ?_
    refine jv_as (y := nI ((5 * j) + 0)) (nI_add (5 * j) 0) ?_
    refine jv_ald (k := (5 * j) + 0) hx hb hK hPr 1 0 rfl rfl (by omega) (by decide) dX7_tell_57 ?_
    exact W.iret (v := Rw ((5 * j) + 0)) hx hb hr (fun t ht hW => ⟨⟨Rw ((5 * j) + 0), (), rfl, (by simp [jtl]), trivial⟩, hS.F ht⟩) hS.2.2 dX7_tell_58
  · skip
    have hl : lv_has ls 3 [(0, .ref z), (1, .int (nI j)), (2, .int 1)] := hl
    refine lv_iload_n hx hb dX7_tell_0 rfl (lv_at hl 2 rfl) ?_
    refine lv_tableIn (off := 47) (tgt := 48) hx hb dX7_tell_1 (by decide) (by decide) (by decide) (by decide) ?_
    refine lv_aload_n hx hb dX7_tell_48 rfl (lv_at hl 0 rfl) ?_
    refine va_get (D := D) (ci := 7) (v := .ref zr) (C := RX7) (T := TX7) (N := 25) hx hb hts (fun w h => List.mem_cons_of_mem _ (List.mem_append_right _ h)) hown hK hPr 0 rfl rfl 8 (by decide) (hts (Cond.fieldLink RX7 13 "JamDaysModel" "rows" "[I") (List.mem_of_getElem? (i := 1) rfl)) (fun _ h9 => h9) rfl dX7_tell_49 ?_
    refine lv_iconst (v := 5) hx hb dX7_tell_52 (by decide) ?_
    refine lv_iload_n hx hb dX7_tell_53 rfl (lv_at hl 1 rfl) ?_
    refine lv_imul hx hb dX7_tell_54 ?_
    refine jv_as (y := nI (5 * j)) (pk_mul 5 j) ?_
    refine lv_iload_n hx hb dX7_tell_55 rfl (lv_at hl 2 rfl) ?_
    refine lv_iadd hx hb dX7_tell_56 ?_
    refine jv_as (y := nI ((5 * j) + 1)) (nI_add (5 * j) 1) ?_
    refine jv_ald (k := (5 * j) + 1) hx hb hK hPr 1 0 rfl rfl (by omega) (by decide) dX7_tell_57 ?_
    exact W.iret (v := Rw ((5 * j) + 1)) hx hb hr (fun t ht hW => ⟨⟨Rw ((5 * j) + 1), (), rfl, (by simp [jtl]), trivial⟩, hS.F ht⟩) hS.2.2 dX7_tell_58
  · skip
    have hl : lv_has ls 3 [(0, .ref z), (1, .int (nI j)), (2, .int 2)] := hl
    refine lv_iload_n hx hb dX7_tell_0 rfl (lv_at hl 2 rfl) ?_
    refine lv_tableIn (off := 47) (tgt := 48) hx hb dX7_tell_1 (by decide) (by decide) (by decide) (by decide) ?_
    refine lv_aload_n hx hb dX7_tell_48 rfl (lv_at hl 0 rfl) ?_
    refine va_get (D := D) (ci := 7) (v := .ref zr) (C := RX7) (T := TX7) (N := 25) hx hb hts (fun w h => List.mem_cons_of_mem _ (List.mem_append_right _ h)) hown hK hPr 0 rfl rfl 8 (by decide) (hts (Cond.fieldLink RX7 13 "JamDaysModel" "rows" "[I") (List.mem_of_getElem? (i := 1) rfl)) (fun _ h9 => h9) rfl dX7_tell_49 ?_
    refine lv_iconst (v := 5) hx hb dX7_tell_52 (by decide) ?_
    refine lv_iload_n hx hb dX7_tell_53 rfl (lv_at hl 1 rfl) ?_
    refine lv_imul hx hb dX7_tell_54 ?_
    refine jv_as (y := nI (5 * j)) (pk_mul 5 j) ?_
    refine lv_iload_n hx hb dX7_tell_55 rfl (lv_at hl 2 rfl) ?_
    refine lv_iadd hx hb dX7_tell_56 ?_
    refine jv_as (y := nI ((5 * j) + 2)) (nI_add (5 * j) 2) ?_
    refine jv_ald (k := (5 * j) + 2) hx hb hK hPr 1 0 rfl rfl (by omega) (by decide) dX7_tell_57 ?_
    exact W.iret (v := Rw ((5 * j) + 2)) hx hb hr (fun t ht hW => ⟨⟨Rw ((5 * j) + 2), (), rfl, (by simp [jtl]), trivial⟩, hS.F ht⟩) hS.2.2 dX7_tell_58
  · skip
    have hl : lv_has ls 3 [(0, .ref z), (1, .int (nI j)), (2, .int 3)] := hl
    refine lv_iload_n hx hb dX7_tell_0 rfl (lv_at hl 2 rfl) ?_
    refine lv_tableIn (off := 47) (tgt := 48) hx hb dX7_tell_1 (by decide) (by decide) (by decide) (by decide) ?_
    refine lv_aload_n hx hb dX7_tell_48 rfl (lv_at hl 0 rfl) ?_
    refine va_get (D := D) (ci := 7) (v := .ref zr) (C := RX7) (T := TX7) (N := 25) hx hb hts (fun w h => List.mem_cons_of_mem _ (List.mem_append_right _ h)) hown hK hPr 0 rfl rfl 8 (by decide) (hts (Cond.fieldLink RX7 13 "JamDaysModel" "rows" "[I") (List.mem_of_getElem? (i := 1) rfl)) (fun _ h9 => h9) rfl dX7_tell_49 ?_
    refine lv_iconst (v := 5) hx hb dX7_tell_52 (by decide) ?_
    refine lv_iload_n hx hb dX7_tell_53 rfl (lv_at hl 1 rfl) ?_
    refine lv_imul hx hb dX7_tell_54 ?_
    refine jv_as (y := nI (5 * j)) (pk_mul 5 j) ?_
    refine lv_iload_n hx hb dX7_tell_55 rfl (lv_at hl 2 rfl) ?_
    refine lv_iadd hx hb dX7_tell_56 ?_
    refine jv_as (y := nI ((5 * j) + 3)) (nI_add (5 * j) 3) ?_
    refine jv_ald (k := (5 * j) + 3) hx hb hK hPr 1 0 rfl rfl (by omega) (by decide) dX7_tell_57 ?_
    exact W.iret (v := Rw ((5 * j) + 3)) hx hb hr (fun t ht hW => ⟨⟨Rw ((5 * j) + 3), (), rfl, (by simp [jtl]), trivial⟩, hS.F ht⟩) hS.2.2 dX7_tell_58
  · skip
    have hl : lv_has ls 3 [(0, .ref z), (1, .int (nI j)), (2, .int 4)] := hl
    refine lv_iload_n hx hb dX7_tell_0 rfl (lv_at hl 2 rfl) ?_
    refine lv_tableIn (off := 58) (tgt := 59) hx hb dX7_tell_1 (by decide) (by decide) (by decide) (by decide) ?_
    refine lv_aload_n hx hb dX7_tell_59 rfl (lv_at hl 0 rfl) ?_
    refine lv_iload_n hx hb dX7_tell_60 rfl (lv_at hl 1 rfl) ?_
    refine lv_aload_n hx hb dX7_tell_61 rfl (lv_at hl 0 rfl) ?_
    refine va_get (D := D) (ci := 7) (v := .int y) (C := RX7) (T := TX7) (N := 25) hx hb hts (fun w h => List.mem_cons_of_mem _ (List.mem_append_right _ h)) hown hK hPr 0 rfl rfl 3 (by decide) (hts (Cond.fieldLink RX7 66 "JamDaysModel" "yearNow" "I") (List.mem_of_getElem? (i := 2) rfl)) (fun _ h9 => h9) rfl dX7_tell_62 ?_
    have hPc_1 := hPr.sub (ws' := [(z, .inr (7, [a0, a1, a2, .int y, a4, a5, a6, a7, .ref zr, a9, a10, a11, a12, a13, a14, a15, a16, a17, a18, a19, a20, a21, a22, a23, a24])), (zr, .inl (cI, 30, .inl Rw))]) [0, 1] rfl
    refine jcalli (va_runV (As := [.int (nI j), .int y]) (rest := []) ⟨hx, hb, hml, hown, hts⟩ (c_mmouldIn l D cI cJ z zr a0 a1 a2 (.int y) a4 a5 a6 a7 a9 a10 a11 a12 a13 a14 a15 a16 a17 a18 a19 a20 a21 a22 a23 a24 Rw j y hj6 s.heap.size) (cwV 2 hts gX7_tell_X7_mouldIn rfl rfl rfl (by decide +kernel) ⟨Nat.le_of_ble_eq_true rfl, Nat.le_of_ble_eq_true rfl⟩) (jpreV hT (va_recv hK hPr (ci := 7) (q0 := 0) rfl rfl) hPc_1) rfl rfl hl.1 rfl (lv_room (Nat.le_of_ble_eq_true rfl)) dX7_tell_65 ⟨(Nat.zero_le _), (Nat.zero_le _)⟩) hS hA (fun r_2 H locs hw_r_2 hkq hS => ?_)
    try dsimp only at hw_r_2
    have hPr := jkeep hPr hkq
    subst hw_r_2
    exact W.iret (v := mmo Rw j y) hx hb hr (fun t ht hW => ⟨⟨mmo Rw j y, (), rfl, (by simp [jtl]), trivial⟩, hS.F ht⟩) hS.2.2 dX7_tell_68
  · skip
    have hl : lv_has ls 3 [(0, .ref z), (1, .int (nI j)), (2, .int 5)] := hl
    refine lv_iload_n hx hb dX7_tell_0 rfl (lv_at hl 2 rfl) ?_
    refine lv_tableIn (off := 68) (tgt := 69) hx hb dX7_tell_1 (by decide) (by decide) (by decide) (by decide) ?_
    refine lv_aload_n hx hb dX7_tell_69 rfl (lv_at hl 0 rfl) ?_
    refine lv_iload_n hx hb dX7_tell_70 rfl (lv_at hl 1 rfl) ?_
    have hPc_3 := hPr.sub (ws' := [(z, .inr (7, [a0, a1, a2, .int y, a4, a5, a6, a7, .ref zr, a9, a10, a11, a12, a13, a14, a15, a16, a17, a18, a19, a20, a21, a22, a23, a24])), (zr, .inl (cI, 30, .inl Rw))]) [0, 1] rfl
    refine jcalli (va_runV (As := [.int (nI j)]) (rest := []) ⟨hx, hb, hml, hown, hts⟩ (c_nextNow l D cI cJ z zr a0 a1 a2 a4 a5 a6 a7 a9 a10 a11 a12 a13 a14 a15 a16 a17 a18 a19 a20 a21 a22 a23 a24 Rw y j hj6 s.heap.size) (cwV 1 hts gX7_tell_X7_nextNow rfl rfl rfl (by decide +kernel) ⟨Nat.le_of_ble_eq_true rfl, Nat.le_of_ble_eq_true rfl⟩) (jpreV hT (va_recv hK hPr (ci := 7) (q0 := 0) rfl rfl) hPc_3) rfl rfl hl.1 rfl (lv_room (Nat.le_of_ble_eq_true rfl)) dX7_tell_71 ⟨(Nat.zero_le _), (Nat.zero_le _)⟩) hS hA (fun r_4 H locs hw_r_4 hkq hS => ?_)
    try dsimp only at hw_r_4
    have hPr := jkeep hPr hkq
    subst hw_r_4
    refine lv_bipush (v := 100) hx hb dX7_tell_74 (by decide) ?_
    refine lv_iadd hx hb dX7_tell_76 ?_
    exact W.iret (v := (mfi Rw j y - Rw (5 * j + 4)) + 100) hx hb hr (fun t ht hW => ⟨⟨(mfi Rw j y - Rw (5 * j + 4)) + 100, (), rfl, (by simp [jtl]), trivial⟩, hS.F ht⟩) hS.2.2 dX7_tell_77
  · skip
    have hl : lv_has ls 3 [(0, .ref z), (1, .int (nI j)), (2, .int 6)] := hl
    refine lv_iload_n hx hb dX7_tell_0 rfl (lv_at hl 2 rfl) ?_
    refine lv_tableIn (off := 77) (tgt := 78) hx hb dX7_tell_1 (by decide) (by decide) (by decide) (by decide) ?_
    refine lv_aload_n hx hb dX7_tell_78 rfl (lv_at hl 0 rfl) ?_
    refine va_get (D := D) (ci := 7) (v := .ref zr) (C := RX7) (T := TX7) (N := 25) hx hb hts (fun w h => List.mem_cons_of_mem _ (List.mem_append_right _ h)) hown hK hPr 0 rfl rfl 8 (by decide) (hts (Cond.fieldLink RX7 13 "JamDaysModel" "rows" "[I") (List.mem_of_getElem? (i := 1) rfl)) (fun _ h9 => h9) rfl dX7_tell_79 ?_
    refine lv_iconst (v := 5) hx hb dX7_tell_82 (by decide) ?_
    refine lv_iload_n hx hb dX7_tell_83 rfl (lv_at hl 1 rfl) ?_
    refine lv_imul hx hb dX7_tell_84 ?_
    refine jv_as (y := nI (5 * j)) (pk_mul 5 j) ?_
    refine lv_iconst (v := 4) hx hb dX7_tell_85 (by decide) ?_
    refine lv_iadd hx hb dX7_tell_86 ?_
    refine jv_as (y := nI ((5 * j) + 4)) (nI_add (5 * j) 4) ?_
    refine jv_ald (k := (5 * j) + 4) hx hb hK hPr 1 0 rfl rfl (by omega) (by decide) dX7_tell_87 ?_
    exact W.iret (v := Rw ((5 * j) + 4)) hx hb hr (fun t ht hW => ⟨⟨Rw ((5 * j) + 4), (), rfl, (by simp [jtl]), trivial⟩, hS.F ht⟩) hS.2.2 dX7_tell_88
  · skip
    have hl : lv_has ls 3 [(0, .ref z), (1, .int (nI j)), (2, .int 7)] := hl
    refine lv_iload_n hx hb dX7_tell_0 rfl (lv_at hl 2 rfl) ?_
    refine lv_tableIn (off := 88) (tgt := 89) hx hb dX7_tell_1 (by decide) (by decide) (by decide) (by decide) ?_
    refine lv_aload_n hx hb dX7_tell_89 rfl (lv_at hl 0 rfl) ?_
    refine lv_iload_n hx hb dX7_tell_90 rfl (lv_at hl 1 rfl) ?_
    have hPc_5 := hPr.sub (ws' := [(z, .inr (7, [a0, a1, a2, .int y, a4, a5, a6, a7, .ref zr, a9, a10, a11, a12, a13, a14, a15, a16, a17, a18, a19, a20, a21, a22, a23, a24])), (zr, .inl (cI, 30, .inl Rw))]) [0, 1] rfl
    refine jcalli (va_runV (As := [.int (nI j)]) (rest := []) ⟨hx, hb, hml, hown, hts⟩ (c_whenOf l D cI cJ z zr a0 a1 a2 a4 a5 a6 a7 a9 a10 a11 a12 a13 a14 a15 a16 a17 a18 a19 a20 a21 a22 a23 a24 Rw y j hj6 s.heap.size) (cwV 1 hts gX7_tell_X7_whenOf rfl rfl rfl (by decide +kernel) ⟨Nat.le_of_ble_eq_true rfl, Nat.le_of_ble_eq_true rfl⟩) (jpreV hT (va_recv hK hPr (ci := 7) (q0 := 0) rfl rfl) hPc_5) rfl rfl hl.1 rfl (lv_room (Nat.le_of_ble_eq_true rfl)) dX7_tell_91 ⟨(Nat.zero_le _), (Nat.zero_le _)⟩) hS hA (fun r9 H locs hw_r9 hkq hS => ?_)
    try dsimp only at hw_r9
    have hPr := jkeep hPr hkq
    exact W.iret (v := r9) hx hb hr (fun t ht hW => ⟨⟨r9, (), rfl, (by rw [hw_r9]; simp [jtl]), trivial⟩, hS.F ht⟩) hS.2.2 dX7_tell_94

set_option maxHeartbeats 4000000 in
set_option maxRecDepth 100000 in
theorem c_mjar_no (l : Launch) (D : va_G) (cI cJ : ClassId) (z : Nat) (n : Nat) (a0 : Value) (a1 : Value) (a3 : Value) (a4 : Value) (a5 : Value) (a6 : Value) (a7 : Value) (a8 : Value) (a9 : Value) (a10 : Value) (a11 : Value) (a12 : Value) (a13 : Value) (a14 : Value) (a15 : Value) (a16 : Value) (a17 : Value) (a18 : Value) (a19 : Value) (a20 : Value) (a21 : Value) (a22 : Value) (a23 : Value) (a24 : Value) (p0 : Int32) (wh : Int32) (h9 : p0 < 0 ∨ nI n ≤ p0) (hn6 : n ≤ 6) : jRi l yX7_jar wsX7_jar ({ frames := 2, cells := 0, slots := 0, locals := 46 }) [.ref z, .int p0, .int wh] D cI cJ (fun H => va_P D vwCl [(z, .inr (7, [a0, a1, .int (nI n), a3, a4, a5, a6, a7, a8, a9, a10, a11, a12, a13, a14, a15, a16, a17, a18, a19, a20, a21, a22, a23, a24]))] H) (fun r => r = -101) := by
  intro sz
  refine Met.ofW (cc := cX7_jar) (maxL := 3) (ret := (some .int)) (by decide) rfl ?_
  intro p e s m args below meth c s₁ B hml hv
  obtain ⟨rfl, hsz, hT, hPr⟩ := hv
  have hK := hT.1
  have hx := B.exec
  have hb := B.bytes
  have hr := B.returns
  have hts := atoms_spec (ws := wsX7_jar) B.pre
  have hown : s.vm.findClass RX7 = some m.cls := findClass_of_methodNamed B.named
  have hlocks := B.notSynchronized
  subst hsz
  generalize hAe : va_A [] s.heap.size = A
  have hA : ∀ q : Nat, s.heap.size ≤ q → A q := fun q h => by rw [← hAe]; exact Or.inr h
  have hS : va_S A s.heap s.heap [] := va_S.rf
  have hl := lv_entry ([.ref z, .int p0, .int wh] : List Value) (n := 3) (Nat.le_of_ble_eq_true rfl)
  rw [lg_entry_eq]
  generalize (lg_sl ([.ref z, .int p0, .int wh]) ++ List.replicate (3 - (lg_sl ([.ref z, .int p0, .int wh])).length) Slot.unset).toArray = ls at hl ⊢
  have hl : lv_has ls 3 [(0, .ref z), (1, .int p0), (2, .int wh)] := hl
  refine lv_aload_n hx hb dX7_jar_0 rfl (lv_at hl 0 rfl) ?_
  refine lv_iload_n hx hb dX7_jar_1 rfl (lv_at hl 1 rfl) ?_
  have hPc_1 := hPr.sub (ws' := [(z, .inr (7, [a0, a1, .int (nI n), a3, a4, a5, a6, a7, a8, a9, a10, a11, a12, a13, a14, a15, a16, a17, a18, a19, a20, a21, a22, a23, a24]))]) [0] rfl
  refine jcalli (va_runV (As := [.int p0]) (rest := []) ⟨hx, hb, hml, hown, hts⟩ (c_isJar_n l D cI cJ z n a0 a1 a3 a4 a5 a6 a7 a8 a9 a10 a11 a12 a13 a14 a15 a16 a17 a18 a19 a20 a21 a22 a23 a24 p0 h9 hn6 s.heap.size) (cwV 1 hts gX7_jar_X7_isJar rfl rfl rfl (by decide +kernel) ⟨Nat.le_of_ble_eq_true rfl, Nat.le_of_ble_eq_true rfl⟩) (jpreV hT (va_recv hK hPr (ci := 7) (q0 := 0) rfl rfl) hPc_1) rfl rfl hl.1 rfl (lv_room (Nat.le_of_ble_eq_true rfl)) dX7_jar_2 ⟨(Nat.zero_le _), (Nat.zero_le _)⟩) hS hA (fun r_2 H locs hw_r_2 hkq hS => ?_)
  try dsimp only at hw_r_2
  have hPr := jkeep hPr hkq
  subst hw_r_2
  refine lv_if_eq (tgt := 17) hx hb dX7_jar_5 (by decide) (fun c_3 => ?_) (fun c_3 => ?_)
  · skip
    refine lv_bipush (v := (-101)) hx hb dX7_jar_17 (by decide) ?_
    exact W.iret (v := (-101)) hx hb hr (fun t ht hW => ⟨⟨(-101), (), rfl, rfl, trivial⟩, hS.F ht⟩) hS.2.2 dX7_jar_19
  · skip
    exact absurd c_3 (by decide)

set_option maxHeartbeats 4000000 in
set_option maxRecDepth 100000 in
theorem c_mjar_out (l : Launch) (D : va_G) (cI cJ : ClassId) (z : Nat) (n : Nat) (a0 : Value) (a1 : Value) (a3 : Value) (a4 : Value) (a5 : Value) (a6 : Value) (a7 : Value) (a8 : Value) (a9 : Value) (a10 : Value) (a11 : Value) (a12 : Value) (a13 : Value) (a14 : Value) (a15 : Value) (a16 : Value) (a17 : Value) (a18 : Value) (a19 : Value) (a20 : Value) (a21 : Value) (a22 : Value) (a23 : Value) (a24 : Value) (j : Nat) (wh : Int32) (hj : j < n) (hn6 : n ≤ 6) (h8 : wh.toInt < 0 ∨ 7 < wh.toInt) : jRi l yX7_jar wsX7_jar ({ frames := 2, cells := 0, slots := 0, locals := 46 }) [.ref z, .int (nI j), .int wh] D cI cJ (fun H => va_P D vwCl [(z, .inr (7, [a0, a1, .int (nI n), a3, a4, a5, a6, a7, a8, a9, a10, a11, a12, a13, a14, a15, a16, a17, a18, a19, a20, a21, a22, a23, a24]))] H) (fun r => r = -102) := by
  intro sz
  refine Met.ofW (cc := cX7_jar) (maxL := 3) (ret := (some .int)) (by decide) rfl ?_
  intro p e s m args below meth c s₁ B hml hv
  obtain ⟨rfl, hsz, hT, hPr⟩ := hv
  have hK := hT.1
  have hx := B.exec
  have hb := B.bytes
  have hr := B.returns
  have hts := atoms_spec (ws := wsX7_jar) B.pre
  have hown : s.vm.findClass RX7 = some m.cls := findClass_of_methodNamed B.named
  have hlocks := B.notSynchronized
  subst hsz
  generalize hAe : va_A [] s.heap.size = A
  have hA : ∀ q : Nat, s.heap.size ≤ q → A q := fun q h => by rw [← hAe]; exact Or.inr h
  have hS : va_S A s.heap s.heap [] := va_S.rf
  have hl := lv_entry ([.ref z, .int (nI j), .int wh] : List Value) (n := 3) (Nat.le_of_ble_eq_true rfl)
  rw [lg_entry_eq]
  generalize (lg_sl ([.ref z, .int (nI j), .int wh]) ++ List.replicate (3 - (lg_sl ([.ref z, .int (nI j), .int wh])).length) Slot.unset).toArray = ls at hl ⊢
  have hl : lv_has ls 3 [(0, .ref z), (1, .int (nI j)), (2, .int wh)] := hl
  refine lv_aload_n hx hb dX7_jar_0 rfl (lv_at hl 0 rfl) ?_
  refine lv_iload_n hx hb dX7_jar_1 rfl (lv_at hl 1 rfl) ?_
  have hPc_1 := hPr.sub (ws' := [(z, .inr (7, [a0, a1, .int (nI n), a3, a4, a5, a6, a7, a8, a9, a10, a11, a12, a13, a14, a15, a16, a17, a18, a19, a20, a21, a22, a23, a24]))]) [0] rfl
  refine jcalli (va_runV (As := [.int (nI j)]) (rest := []) ⟨hx, hb, hml, hown, hts⟩ (c_isJar_y l D cI cJ z n j a0 a1 a3 a4 a5 a6 a7 a8 a9 a10 a11 a12 a13 a14 a15 a16 a17 a18 a19 a20 a21 a22 a23 a24 hj hn6 s.heap.size) (cwV 1 hts gX7_jar_X7_isJar rfl rfl rfl (by decide +kernel) ⟨Nat.le_of_ble_eq_true rfl, Nat.le_of_ble_eq_true rfl⟩) (jpreV hT (va_recv hK hPr (ci := 7) (q0 := 0) rfl rfl) hPc_1) rfl rfl hl.1 rfl (lv_room (Nat.le_of_ble_eq_true rfl)) dX7_jar_2 ⟨(Nat.zero_le _), (Nat.zero_le _)⟩) hS hA (fun r_2 H locs hw_r_2 hkq hS => ?_)
  try dsimp only at hw_r_2
  have hPr := jkeep hPr hkq
  subst hw_r_2
  refine lv_if_eq (tgt := 17) hx hb dX7_jar_5 (by decide) (fun c_3 => ?_) (fun c_3 => ?_)
  · skip
    exact absurd c_3 (by decide)
  · skip
    refine lv_aload_n hx hb dX7_jar_8 rfl (lv_at hl 0 rfl) ?_
    refine lv_iload_n hx hb dX7_jar_9 rfl (lv_at hl 1 rfl) ?_
    refine lv_iload_n hx hb dX7_jar_10 rfl (lv_at hl 2 rfl) ?_
    refine jcalli (va_runV (As := [.int (nI j), .int wh]) (rest := []) ⟨hx, hb, hml, hown, hts⟩ (c_tell_out l D cI cJ z j wh h8 H.size) (cwV 2 hts gX7_jar_X7_tell rfl rfl rfl (by decide +kernel) ⟨Nat.le_of_ble_eq_true rfl, Nat.le_of_ble_eq_true rfl⟩) (jpreV hT (va_recv hK hPr (ci := 7) (q0 := 0) rfl rfl) trivial) rfl rfl hl.1 rfl (lv_room (Nat.le_of_ble_eq_true rfl)) dX7_jar_11 ⟨(Nat.zero_le _), (Nat.zero_le _)⟩) hS hA (fun r_4 H locs hw_r_4 hkq hS => ?_)
    try dsimp only at hw_r_4
    have hPr := jkeep hPr hkq
    subst hw_r_4
    refine lv_goto (tgt := 19) hx hb dX7_jar_14 (by decide) ?_
    exact W.iret (v := (-102)) hx hb hr (fun t ht hW => ⟨⟨(-102), (), rfl, rfl, trivial⟩, hS.F ht⟩) hS.2.2 dX7_jar_19

set_option maxHeartbeats 4000000 in
set_option maxRecDepth 100000 in
theorem c_mjar_ok (l : Launch) (D : va_G) (cI cJ : ClassId) (z : Nat) (zr : Nat) (n : Nat) (a0 : Value) (a1 : Value) (a4 : Value) (a5 : Value) (a6 : Value) (a7 : Value) (a9 : Value) (a10 : Value) (a11 : Value) (a12 : Value) (a13 : Value) (a14 : Value) (a15 : Value) (a16 : Value) (a17 : Value) (a18 : Value) (a19 : Value) (a20 : Value) (a21 : Value) (a22 : Value) (a23 : Value) (a24 : Value) (Rw : Nat → Int32) (y : Int32) (j : Nat) (cq : Nat) (hj : j < n) (hn6 : n ≤ 6) (hc : cq < 8) : jRi l yX7_jar wsX7_jar ({ frames := 4, cells := 0, slots := 0, locals := 96 }) [.ref z, .int (nI j), .int (nI cq)] D cI cJ (fun H => va_P D vwCl [(z, .inr (7, [a0, a1, .int (nI n), .int y, a4, a5, a6, a7, .ref zr, a9, a10, a11, a12, a13, a14, a15, a16, a17, a18, a19, a20, a21, a22, a23, a24])), (zr, .inl (cI, 30, .inl Rw))] H) (fun r => r = jtl (Rw (5 * j)) (Rw (5 * j + 1)) (Rw (5 * j + 2)) (Rw (5 * j + 3)) (mmo Rw j y) (mfi Rw j y - Rw (5 * j + 4) + 100) (Rw (5 * j + 4)) (mwf (fun i => mfi Rw j (y + nI i)) 10) cq) := by
  intro sz
  refine Met.ofW (cc := cX7_jar) (maxL := 3) (ret := (some .int)) (by decide) rfl ?_
  intro p e s m args below meth c s₁ B hml hv
  obtain ⟨rfl, hsz, hT, hPr⟩ := hv
  have hK := hT.1
  have hx := B.exec
  have hb := B.bytes
  have hr := B.returns
  have hts := atoms_spec (ws := wsX7_jar) B.pre
  have hown : s.vm.findClass RX7 = some m.cls := findClass_of_methodNamed B.named
  have hlocks := B.notSynchronized
  subst hsz
  generalize hAe : va_A [] s.heap.size = A
  have hA : ∀ q : Nat, s.heap.size ≤ q → A q := fun q h => by rw [← hAe]; exact Or.inr h
  have hS : va_S A s.heap s.heap [] := va_S.rf
  have hl := lv_entry ([.ref z, .int (nI j), .int (nI cq)] : List Value) (n := 3) (Nat.le_of_ble_eq_true rfl)
  rw [lg_entry_eq]
  generalize (lg_sl ([.ref z, .int (nI j), .int (nI cq)]) ++ List.replicate (3 - (lg_sl ([.ref z, .int (nI j), .int (nI cq)])).length) Slot.unset).toArray = ls at hl ⊢
  have hl : lv_has ls 3 [(0, .ref z), (1, .int (nI j)), (2, .int (nI cq))] := hl
  refine lv_aload_n hx hb dX7_jar_0 rfl (lv_at hl 0 rfl) ?_
  refine lv_iload_n hx hb dX7_jar_1 rfl (lv_at hl 1 rfl) ?_
  have hPc_1 := hPr.sub (ws' := [(z, .inr (7, [a0, a1, .int (nI n), .int y, a4, a5, a6, a7, .ref zr, a9, a10, a11, a12, a13, a14, a15, a16, a17, a18, a19, a20, a21, a22, a23, a24]))]) [0] rfl
  refine jcalli (va_runV (As := [.int (nI j)]) (rest := []) ⟨hx, hb, hml, hown, hts⟩ (c_isJar_y l D cI cJ z n j a0 a1 (.int y) a4 a5 a6 a7 (.ref zr) a9 a10 a11 a12 a13 a14 a15 a16 a17 a18 a19 a20 a21 a22 a23 a24 hj hn6 s.heap.size) (cwV 1 hts gX7_jar_X7_isJar rfl rfl rfl (by decide +kernel) ⟨Nat.le_of_ble_eq_true rfl, Nat.le_of_ble_eq_true rfl⟩) (jpreV hT (va_recv hK hPr (ci := 7) (q0 := 0) rfl rfl) hPc_1) rfl rfl hl.1 rfl (lv_room (Nat.le_of_ble_eq_true rfl)) dX7_jar_2 ⟨(Nat.zero_le _), (Nat.zero_le _)⟩) hS hA (fun r_2 H locs hw_r_2 hkq hS => ?_)
  try dsimp only at hw_r_2
  have hPr := jkeep hPr hkq
  subst hw_r_2
  refine lv_if_eq (tgt := 17) hx hb dX7_jar_5 (by decide) (fun c_3 => ?_) (fun c_3 => ?_)
  · skip
    exact absurd c_3 (by decide)
  · skip
    refine lv_aload_n hx hb dX7_jar_8 rfl (lv_at hl 0 rfl) ?_
    refine lv_iload_n hx hb dX7_jar_9 rfl (lv_at hl 1 rfl) ?_
    refine lv_iload_n hx hb dX7_jar_10 rfl (lv_at hl 2 rfl) ?_
    have hPc_4 := hPr.sub (ws' := [(z, .inr (7, [a0, a1, .int (nI n), .int y, a4, a5, a6, a7, .ref zr, a9, a10, a11, a12, a13, a14, a15, a16, a17, a18, a19, a20, a21, a22, a23, a24])), (zr, .inl (cI, 30, .inl Rw))]) [0, 1] rfl
    refine jcalli (va_runV (As := [.int (nI j), .int (nI cq)]) (rest := []) ⟨hx, hb, hml, hown, hts⟩ (c_tell_ok l D cI cJ z zr a0 a1 (.int (nI n)) a4 a5 a6 a7 a9 a10 a11 a12 a13 a14 a15 a16 a17 a18 a19 a20 a21 a22 a23 a24 Rw y j cq (by omega) hc H.size) (cwV 2 hts gX7_jar_X7_tell rfl rfl rfl (by decide +kernel) ⟨Nat.le_of_ble_eq_true rfl, Nat.le_of_ble_eq_true rfl⟩) (jpreV hT (va_recv hK hPr (ci := 7) (q0 := 0) rfl rfl) hPc_4) rfl rfl hl.1 rfl (lv_room (Nat.le_of_ble_eq_true rfl)) dX7_jar_11 ⟨(Nat.zero_le _), (Nat.zero_le _)⟩) hS hA (fun r_5 H locs hw_r_5 hkq hS => ?_)
    try dsimp only at hw_r_5
    have hPr := jkeep hPr hkq
    subst hw_r_5
    refine lv_goto (tgt := 19) hx hb dX7_jar_14 (by decide) ?_
    exact W.iret (v := jtl (Rw (5 * j)) (Rw (5 * j + 1)) (Rw (5 * j + 2)) (Rw (5 * j + 3)) (mmo Rw j y) (mfi Rw j y - Rw (5 * j + 4) + 100) (Rw (5 * j + 4)) (mwf (fun i => mfi Rw j (y + nI i)) 10) cq) hx hb hr (fun t ht hW => ⟨⟨jtl (Rw (5 * j)) (Rw (5 * j + 1)) (Rw (5 * j + 2)) (Rw (5 * j + 3)) (mmo Rw j y) (mfi Rw j y - Rw (5 * j + 4) + 100) (Rw (5 * j + 4)) (mwf (fun i => mfi Rw j (y + nI i)) 10) cq, (), rfl, rfl, trivial⟩, hS.F ht⟩) hS.2.2 dX7_jar_19

def mas (o : Int32) (c j : Nat) : Int32 := if c = 0 ∨ nI c = o ∨ (c = 2 ∧ o = 4) then nI j else -1
set_option maxHeartbeats 4000000 in
set_option maxRecDepth 100000 in
theorem c_mas_no (l : Launch) (D : va_G) (cI cJ : ClassId) (z : Nat) (n : Nat) (a0 : Value) (a1 : Value) (a3 : Value) (a4 : Value) (a5 : Value) (a6 : Value) (a7 : Value) (a8 : Value) (a9 : Value) (a10 : Value) (a11 : Value) (a12 : Value) (a13 : Value) (a14 : Value) (a15 : Value) (a16 : Value) (a17 : Value) (a18 : Value) (a19 : Value) (a20 : Value) (a21 : Value) (a22 : Value) (a23 : Value) (a24 : Value) (p0 : Int32) (kd : Int32) (h9 : p0 < 0 ∨ nI n ≤ p0) (hn6 : n ≤ 6) : jRi l yX7_as wsX7_as ({ frames := 2, cells := 0, slots := 0, locals := 46 }) [.ref z, .int p0, .int kd] D cI cJ (fun H => va_P D vwCl [(z, .inr (7, [a0, a1, .int (nI n), a3, a4, a5, a6, a7, a8, a9, a10, a11, a12, a13, a14, a15, a16, a17, a18, a19, a20, a21, a22, a23, a24]))] H) (fun r => r = -101) := by
  intro sz
  refine Met.ofW (cc := cX7_as) (maxL := 5) (ret := (some .int)) (by decide) rfl ?_
  intro p e s m args below meth c s₁ B hml hv
  obtain ⟨rfl, hsz, hT, hPr⟩ := hv
  have hK := hT.1
  have hx := B.exec
  have hb := B.bytes
  have hr := B.returns
  have hts := atoms_spec (ws := wsX7_as) B.pre
  have hown : s.vm.findClass RX7 = some m.cls := findClass_of_methodNamed B.named
  have hlocks := B.notSynchronized
  subst hsz
  generalize hAe : va_A [] s.heap.size = A
  have hA : ∀ q : Nat, s.heap.size ≤ q → A q := fun q h => by rw [← hAe]; exact Or.inr h
  have hS : va_S A s.heap s.heap [] := va_S.rf
  have hl := lv_entry ([.ref z, .int p0, .int kd] : List Value) (n := 5) (Nat.le_of_ble_eq_true rfl)
  rw [lg_entry_eq]
  generalize (lg_sl ([.ref z, .int p0, .int kd]) ++ List.replicate (5 - (lg_sl ([.ref z, .int p0, .int kd])).length) Slot.unset).toArray = ls at hl ⊢
  have hl : lv_has ls 5 [(0, .ref z), (1, .int p0), (2, .int kd)] := hl
  refine lv_aload_n hx hb dX7_as_0 rfl (lv_at hl 0 rfl) ?_
  refine lv_iload_n hx hb dX7_as_1 rfl (lv_at hl 1 rfl) ?_
  have hPc_1 := hPr.sub (ws' := [(z, .inr (7, [a0, a1, .int (nI n), a3, a4, a5, a6, a7, a8, a9, a10, a11, a12, a13, a14, a15, a16, a17, a18, a19, a20, a21, a22, a23, a24]))]) [0] rfl
  refine jcalli (va_runV (As := [.int p0]) (rest := []) ⟨hx, hb, hml, hown, hts⟩ (c_isJar_n l D cI cJ z n a0 a1 a3 a4 a5 a6 a7 a8 a9 a10 a11 a12 a13 a14 a15 a16 a17 a18 a19 a20 a21 a22 a23 a24 p0 h9 hn6 s.heap.size) (cwV 1 hts gX7_as_X7_isJar rfl rfl rfl (by decide +kernel) ⟨Nat.le_of_ble_eq_true rfl, Nat.le_of_ble_eq_true rfl⟩) (jpreV hT (va_recv hK hPr (ci := 7) (q0 := 0) rfl rfl) hPc_1) rfl rfl hl.1 rfl (lv_room (Nat.le_of_ble_eq_true rfl)) dX7_as_2 ⟨(Nat.zero_le _), (Nat.zero_le _)⟩) hS hA (fun r_2 H locs hw_r_2 hkq hS => ?_)
  try dsimp only at hw_r_2
  have hPr := jkeep hPr hkq
  subst hw_r_2
  refine lv_if_ne (tgt := 11) hx hb dX7_as_5 (by decide) (fun c_3 => ?_) (fun c_3 => ?_)
  · skip
    exact absurd c_3 (by decide)
  · skip
    refine lv_bipush (v := (-101)) hx hb dX7_as_8 (by decide) ?_
    exact W.iret (v := (-101)) hx hb hr (fun t ht hW => ⟨⟨(-101), (), rfl, rfl, trivial⟩, hS.F ht⟩) hS.2.2 dX7_as_10

set_option maxHeartbeats 4000000 in
set_option maxRecDepth 100000 in
theorem c_mas_out (l : Launch) (D : va_G) (cI cJ : ClassId) (z : Nat) (n : Nat) (a0 : Value) (a1 : Value) (a3 : Value) (a4 : Value) (a5 : Value) (a6 : Value) (a7 : Value) (a8 : Value) (a9 : Value) (a10 : Value) (a11 : Value) (a12 : Value) (a13 : Value) (a14 : Value) (a15 : Value) (a16 : Value) (a17 : Value) (a18 : Value) (a19 : Value) (a20 : Value) (a21 : Value) (a22 : Value) (a23 : Value) (a24 : Value) (j : Nat) (kd : Int32) (hj : j < n) (hn6 : n ≤ 6) (h8 : kd < 0 ∨ 4 < kd) : jRi l yX7_as wsX7_as ({ frames := 2, cells := 0, slots := 0, locals := 46 }) [.ref z, .int (nI j), .int kd] D cI cJ (fun H => va_P D vwCl [(z, .inr (7, [a0, a1, .int (nI n), a3, a4, a5, a6, a7, a8, a9, a10, a11, a12, a13, a14, a15, a16, a17, a18, a19, a20, a21, a22, a23, a24]))] H) (fun r => r = -102) := by
  intro sz
  refine Met.ofW (cc := cX7_as) (maxL := 5) (ret := (some .int)) (by decide) rfl ?_
  intro p e s m args below meth c s₁ B hml hv
  obtain ⟨rfl, hsz, hT, hPr⟩ := hv
  have hK := hT.1
  have hx := B.exec
  have hb := B.bytes
  have hr := B.returns
  have hts := atoms_spec (ws := wsX7_as) B.pre
  have hown : s.vm.findClass RX7 = some m.cls := findClass_of_methodNamed B.named
  have hlocks := B.notSynchronized
  subst hsz
  generalize hAe : va_A [] s.heap.size = A
  have hA : ∀ q : Nat, s.heap.size ≤ q → A q := fun q h => by rw [← hAe]; exact Or.inr h
  have hS : va_S A s.heap s.heap [] := va_S.rf
  have hl := lv_entry ([.ref z, .int (nI j), .int kd] : List Value) (n := 5) (Nat.le_of_ble_eq_true rfl)
  rw [lg_entry_eq]
  generalize (lg_sl ([.ref z, .int (nI j), .int kd]) ++ List.replicate (5 - (lg_sl ([.ref z, .int (nI j), .int kd])).length) Slot.unset).toArray = ls at hl ⊢
  have hl : lv_has ls 5 [(0, .ref z), (1, .int (nI j)), (2, .int kd)] := hl
  refine lv_aload_n hx hb dX7_as_0 rfl (lv_at hl 0 rfl) ?_
  refine lv_iload_n hx hb dX7_as_1 rfl (lv_at hl 1 rfl) ?_
  have hPc_1 := hPr.sub (ws' := [(z, .inr (7, [a0, a1, .int (nI n), a3, a4, a5, a6, a7, a8, a9, a10, a11, a12, a13, a14, a15, a16, a17, a18, a19, a20, a21, a22, a23, a24]))]) [0] rfl
  refine jcalli (va_runV (As := [.int (nI j)]) (rest := []) ⟨hx, hb, hml, hown, hts⟩ (c_isJar_y l D cI cJ z n j a0 a1 a3 a4 a5 a6 a7 a8 a9 a10 a11 a12 a13 a14 a15 a16 a17 a18 a19 a20 a21 a22 a23 a24 hj hn6 s.heap.size) (cwV 1 hts gX7_as_X7_isJar rfl rfl rfl (by decide +kernel) ⟨Nat.le_of_ble_eq_true rfl, Nat.le_of_ble_eq_true rfl⟩) (jpreV hT (va_recv hK hPr (ci := 7) (q0 := 0) rfl rfl) hPc_1) rfl rfl hl.1 rfl (lv_room (Nat.le_of_ble_eq_true rfl)) dX7_as_2 ⟨(Nat.zero_le _), (Nat.zero_le _)⟩) hS hA (fun r_2 H locs hw_r_2 hkq hS => ?_)
  try dsimp only at hw_r_2
  have hPr := jkeep hPr hkq
  subst hw_r_2
  refine lv_if_ne (tgt := 11) hx hb dX7_as_5 (by decide) (fun c_3 => ?_) (fun c_3 => ?_)
  · skip
    refine lv_iload_n hx hb dX7_as_11 rfl (lv_at hl 2 rfl) ?_
    refine lv_i2l (v := kd.toInt64) hx hb dX7_as_12 rfl ?_
    refine lv_lconst (v := 0) hx hb dX7_as_13 (by decide) ?_
    refine lv_ldc2 (v := 4) hx hb hown (hts (Cond.constantLong RX7 105 (4)) (List.mem_of_getElem? (i := 1) rfl)) dX7_as_14 ?_
    refine jcalli (va_runS (As := [.long kd.toInt64, .long 0, .long 4]) (rest := []) ⟨hx, hb, hml, hown, hts⟩ (c_in_n l D cI cJ kd.toInt64 0 4 (h8.elim (fun h => Or.inl (jw_lt (b := 0) h)) (fun h => Or.inr (jw_lt (a := 4) h))) H.size) (va_cwS 3 hts gX7_as_X7_in rfl rfl rfl (by decide +kernel) ⟨Nat.le_of_ble_eq_true rfl, Nat.le_of_ble_eq_true rfl⟩) (jpreS hT trivial) rfl rfl hl.1 rfl (lv_room (Nat.le_of_ble_eq_true rfl)) dX7_as_17 ⟨(Nat.zero_le _), (Nat.zero_le _)⟩) hS hA (fun r_4 H locs hw_r_4 hkq hS => ?_)
    try dsimp only at hw_r_4
    have hPr := jkeep hPr hkq
    subst hw_r_4
    refine lv_if_ne (tgt := 26) hx hb dX7_as_20 (by decide) (fun c_5 => ?_) (fun c_5 => ?_)
    · skip
      exact absurd c_5 (by decide)
    · skip
      refine lv_bipush (v := (-102)) hx hb dX7_as_23 (by decide) ?_
      exact W.iret (v := (-102)) hx hb hr (fun t ht hW => ⟨⟨(-102), (), rfl, rfl, trivial⟩, hS.F ht⟩) hS.2.2 dX7_as_25
  · skip
    exact absurd c_3 (by decide)

set_option maxHeartbeats 4000000 in
set_option maxRecDepth 100000 in
theorem c_mas_ok (l : Launch) (D : va_G) (cI cJ : ClassId) (z : Nat) (zr : Nat) (n : Nat) (a0 : Value) (a1 : Value) (a3 : Value) (a4 : Value) (a5 : Value) (a6 : Value) (a7 : Value) (a9 : Value) (a10 : Value) (a11 : Value) (a12 : Value) (a13 : Value) (a14 : Value) (a15 : Value) (a16 : Value) (a17 : Value) (a18 : Value) (a19 : Value) (a20 : Value) (a21 : Value) (a22 : Value) (a23 : Value) (a24 : Value) (Rw : Nat → Int32) (j : Nat) (cq : Nat) (hj : j < n) (hn6 : n ≤ 6) (hc : cq < 5) : jRi l yX7_as wsX7_as ({ frames := 2, cells := 0, slots := 0, locals := 46 }) [.ref z, .int (nI j), .int (nI cq)] D cI cJ (fun H => va_P D vwCl [(z, .inr (7, [a0, a1, .int (nI n), a3, a4, a5, a6, a7, .ref zr, a9, a10, a11, a12, a13, a14, a15, a16, a17, a18, a19, a20, a21, a22, a23, a24])), (zr, .inl (cI, 30, .inl Rw))] H) (fun r => r = mas (Rw (5 * j)) cq j) := by
  intro sz
  refine Met.ofW (cc := cX7_as) (maxL := 5) (ret := (some .int)) (by decide) rfl ?_
  intro p e s m args below meth c s₁ B hml hv
  obtain ⟨rfl, hsz, hT, hPr⟩ := hv
  have hK := hT.1
  have hx := B.exec
  have hb := B.bytes
  have hr := B.returns
  have hts := atoms_spec (ws := wsX7_as) B.pre
  have hown : s.vm.findClass RX7 = some m.cls := findClass_of_methodNamed B.named
  have hlocks := B.notSynchronized
  subst hsz
  generalize hAe : va_A [] s.heap.size = A
  have hA : ∀ q : Nat, s.heap.size ≤ q → A q := fun q h => by rw [← hAe]; exact Or.inr h
  have hS : va_S A s.heap s.heap [] := va_S.rf
  have hl := lv_entry ([.ref z, .int (nI j), .int (nI cq)] : List Value) (n := 5) (Nat.le_of_ble_eq_true rfl)
  rw [lg_entry_eq]
  generalize (lg_sl ([.ref z, .int (nI j), .int (nI cq)]) ++ List.replicate (5 - (lg_sl ([.ref z, .int (nI j), .int (nI cq)])).length) Slot.unset).toArray = ls at hl ⊢
  have hl : lv_has ls 5 [(0, .ref z), (1, .int (nI j)), (2, .int (nI cq))] := hl
  rcases (show cq = 0 ∨ cq = 1 ∨ cq = 2 ∨ cq = 3 ∨ cq = 4 from by omega) with rfl | rfl | rfl | rfl | rfl
  · skip
    have hl : lv_has ls 5 [(0, .ref z), (1, .int (nI j)), (2, .int 0)] := hl
    refine lv_aload_n hx hb dX7_as_0 rfl (lv_at hl 0 rfl) ?_
    refine lv_iload_n hx hb dX7_as_1 rfl (lv_at hl 1 rfl) ?_
    have hPc_1 := hPr.sub (ws' := [(z, .inr (7, [a0, a1, .int (nI n), a3, a4, a5, a6, a7, .ref zr, a9, a10, a11, a12, a13, a14, a15, a16, a17, a18, a19, a20, a21, a22, a23, a24]))]) [0] rfl
    refine jcalli (va_runV (As := [.int (nI j)]) (rest := []) ⟨hx, hb, hml, hown, hts⟩ (c_isJar_y l D cI cJ z n j a0 a1 a3 a4 a5 a6 a7 (.ref zr) a9 a10 a11 a12 a13 a14 a15 a16 a17 a18 a19 a20 a21 a22 a23 a24 hj hn6 s.heap.size) (cwV 1 hts gX7_as_X7_isJar rfl rfl rfl (by decide +kernel) ⟨Nat.le_of_ble_eq_true rfl, Nat.le_of_ble_eq_true rfl⟩) (jpreV hT (va_recv hK hPr (ci := 7) (q0 := 0) rfl rfl) hPc_1) rfl rfl hl.1 rfl (lv_room (Nat.le_of_ble_eq_true rfl)) dX7_as_2 ⟨(Nat.zero_le _), (Nat.zero_le _)⟩) hS hA (fun r_2 H locs hw_r_2 hkq hS => ?_)
    try dsimp only at hw_r_2
    have hPr := jkeep hPr hkq
    subst hw_r_2
    refine lv_if_ne (tgt := 11) hx hb dX7_as_5 (by decide) (fun c_3 => ?_) (fun c_3 => ?_)
    · skip
      refine lv_iload_n hx hb dX7_as_11 rfl (lv_at hl 2 rfl) ?_
      refine lv_i2l (v := (0 : Int32).toInt64) hx hb dX7_as_12 rfl ?_
      refine lv_lconst (v := 0) hx hb dX7_as_13 (by decide) ?_
      refine lv_ldc2 (v := 4) hx hb hown (hts (Cond.constantLong RX7 105 (4)) (List.mem_of_getElem? (i := 1) rfl)) dX7_as_14 ?_
      refine jcalli (va_runS (As := [.long ((0 : Int32).toInt64), .long 0, .long 4]) (rest := []) ⟨hx, hb, hml, hown, hts⟩ (c_in_y l D cI cJ ((0 : Int32).toInt64) 0 4 (by decide) (by decide) H.size) (va_cwS 3 hts gX7_as_X7_in rfl rfl rfl (by decide +kernel) ⟨Nat.le_of_ble_eq_true rfl, Nat.le_of_ble_eq_true rfl⟩) (jpreS hT trivial) rfl rfl hl.1 rfl (lv_room (Nat.le_of_ble_eq_true rfl)) dX7_as_17 ⟨(Nat.zero_le _), (Nat.zero_le _)⟩) hS hA (fun r_4 H locs hw_r_4 hkq hS => ?_)
      try dsimp only at hw_r_4
      have hPr := jkeep hPr hkq
      subst hw_r_4
      refine lv_if_ne (tgt := 26) hx hb dX7_as_20 (by decide) (fun c_5 => ?_) (fun c_5 => ?_)
      · skip
        refine lv_aload_n hx hb dX7_as_26 rfl (lv_at hl 0 rfl) ?_
        refine va_get (D := D) (ci := 7) (v := .ref zr) (C := RX7) (T := TX7) (N := 25) hx hb hts (fun w h => List.mem_cons_of_mem _ (List.mem_append_right _ h)) hown hK hPr 0 rfl rfl 8 (by decide) (hts (Cond.fieldLink RX7 13 "JamDaysModel" "rows" "[I") (List.mem_of_getElem? (i := 2) rfl)) (fun _ h9 => h9) rfl dX7_as_27 ?_
        refine lv_iconst (v := 5) hx hb dX7_as_30 (by decide) ?_
        refine lv_iload_n hx hb dX7_as_31 rfl (lv_at hl 1 rfl) ?_
        refine lv_imul hx hb dX7_as_32 ?_
        refine jv_as (y := nI (5 * j)) (pk_mul 5 j) ?_
        refine jv_ald (k := 5 * j) hx hb hK hPr 1 0 rfl rfl (by omega) (by decide) dX7_as_33 ?_
        refine lv_istore_n (lv' := [(3, .int (Rw (5 * j))), (0, .ref z), (1, .int (nI j)), (2, .int 0)]) hx hb dX7_as_34 rfl hl (by decide) rfl (fun ls hl => ?_)
        refine lv_iload_n hx hb dX7_as_35 rfl (lv_at hl 3 rfl) ?_
        refine lv_if_eq (tgt := 54) hx hb dX7_as_36 (by decide) (fun c_6 => ?_) (fun c_6 => ?_)
        · skip
          refine lv_iconst (v := 1) hx hb dX7_as_54 (by decide) ?_
          refine lv_goto (tgt := 59) hx hb dX7_as_55 (by decide) ?_
          refine lv_istore (lv' := [(4, .int 1), (3, .int (Rw (5 * j))), (0, .ref z), (1, .int (nI j)), (2, .int 0)]) hx hb dX7_as_59 hl (by decide) rfl (fun ls hl => ?_)
          refine lv_iload hx hb dX7_as_61 (lv_at hl 0 rfl) ?_
          refine lv_if_eq (tgt := 70) hx hb dX7_as_63 (by decide) (fun c_7 => ?_) (fun c_7 => ?_)
          · skip
            exact absurd c_7 (by decide)
          · skip
            refine lv_iload_n hx hb dX7_as_66 rfl (lv_at hl 3 rfl) ?_
            refine lv_goto (tgt := 71) hx hb dX7_as_67 (by decide) ?_
            exact W.iret (v := nI j) hx hb hr (fun t ht hW => ⟨⟨nI j, (), rfl, (by rw [mas, if_pos (Or.inl rfl)]), trivial⟩, hS.F ht⟩) hS.2.2 dX7_as_71
        · skip
          exact absurd c_6 (by decide)
      · skip
        exact absurd c_5 (by decide)
    · skip
      exact absurd c_3 (by decide)
  · skip
    have hl : lv_has ls 5 [(0, .ref z), (1, .int (nI j)), (2, .int 1)] := hl
    refine lv_aload_n hx hb dX7_as_0 rfl (lv_at hl 0 rfl) ?_
    refine lv_iload_n hx hb dX7_as_1 rfl (lv_at hl 1 rfl) ?_
    have hPc_8 := hPr.sub (ws' := [(z, .inr (7, [a0, a1, .int (nI n), a3, a4, a5, a6, a7, .ref zr, a9, a10, a11, a12, a13, a14, a15, a16, a17, a18, a19, a20, a21, a22, a23, a24]))]) [0] rfl
    refine jcalli (va_runV (As := [.int (nI j)]) (rest := []) ⟨hx, hb, hml, hown, hts⟩ (c_isJar_y l D cI cJ z n j a0 a1 a3 a4 a5 a6 a7 (.ref zr) a9 a10 a11 a12 a13 a14 a15 a16 a17 a18 a19 a20 a21 a22 a23 a24 hj hn6 s.heap.size) (cwV 1 hts gX7_as_X7_isJar rfl rfl rfl (by decide +kernel) ⟨Nat.le_of_ble_eq_true rfl, Nat.le_of_ble_eq_true rfl⟩) (jpreV hT (va_recv hK hPr (ci := 7) (q0 := 0) rfl rfl) hPc_8) rfl rfl hl.1 rfl (lv_room (Nat.le_of_ble_eq_true rfl)) dX7_as_2 ⟨(Nat.zero_le _), (Nat.zero_le _)⟩) hS hA (fun r_9 H locs hw_r_9 hkq hS => ?_)
    try dsimp only at hw_r_9
    have hPr := jkeep hPr hkq
    subst hw_r_9
    refine lv_if_ne (tgt := 11) hx hb dX7_as_5 (by decide) (fun c_10 => ?_) (fun c_10 => ?_)
    · skip
      refine lv_iload_n hx hb dX7_as_11 rfl (lv_at hl 2 rfl) ?_
      refine lv_i2l (v := (1 : Int32).toInt64) hx hb dX7_as_12 rfl ?_
      refine lv_lconst (v := 0) hx hb dX7_as_13 (by decide) ?_
      refine lv_ldc2 (v := 4) hx hb hown (hts (Cond.constantLong RX7 105 (4)) (List.mem_of_getElem? (i := 1) rfl)) dX7_as_14 ?_
      refine jcalli (va_runS (As := [.long ((1 : Int32).toInt64), .long 0, .long 4]) (rest := []) ⟨hx, hb, hml, hown, hts⟩ (c_in_y l D cI cJ ((1 : Int32).toInt64) 0 4 (by decide) (by decide) H.size) (va_cwS 3 hts gX7_as_X7_in rfl rfl rfl (by decide +kernel) ⟨Nat.le_of_ble_eq_true rfl, Nat.le_of_ble_eq_true rfl⟩) (jpreS hT trivial) rfl rfl hl.1 rfl (lv_room (Nat.le_of_ble_eq_true rfl)) dX7_as_17 ⟨(Nat.zero_le _), (Nat.zero_le _)⟩) hS hA (fun r_11 H locs hw_r_11 hkq hS => ?_)
      try dsimp only at hw_r_11
      have hPr := jkeep hPr hkq
      subst hw_r_11
      refine lv_if_ne (tgt := 26) hx hb dX7_as_20 (by decide) (fun c_12 => ?_) (fun c_12 => ?_)
      · skip
        refine lv_aload_n hx hb dX7_as_26 rfl (lv_at hl 0 rfl) ?_
        refine va_get (D := D) (ci := 7) (v := .ref zr) (C := RX7) (T := TX7) (N := 25) hx hb hts (fun w h => List.mem_cons_of_mem _ (List.mem_append_right _ h)) hown hK hPr 0 rfl rfl 8 (by decide) (hts (Cond.fieldLink RX7 13 "JamDaysModel" "rows" "[I") (List.mem_of_getElem? (i := 2) rfl)) (fun _ h9 => h9) rfl dX7_as_27 ?_
        refine lv_iconst (v := 5) hx hb dX7_as_30 (by decide) ?_
        refine lv_iload_n hx hb dX7_as_31 rfl (lv_at hl 1 rfl) ?_
        refine lv_imul hx hb dX7_as_32 ?_
        refine jv_as (y := nI (5 * j)) (pk_mul 5 j) ?_
        refine jv_ald (k := 5 * j) hx hb hK hPr 1 0 rfl rfl (by omega) (by decide) dX7_as_33 ?_
        refine lv_istore_n (lv' := [(3, .int (Rw (5 * j))), (0, .ref z), (1, .int (nI j)), (2, .int 1)]) hx hb dX7_as_34 rfl hl (by decide) rfl (fun ls hl => ?_)
        refine lv_iload_n hx hb dX7_as_35 rfl (lv_at hl 3 rfl) ?_
        refine lv_if_eq (tgt := 54) hx hb dX7_as_36 (by decide) (fun c_13 => ?_) (fun c_13 => ?_)
        · skip
          exact absurd c_13 (by decide)
        · skip
          refine lv_iload_n hx hb dX7_as_39 rfl (lv_at hl 3 rfl) ?_
          refine lv_iload_n hx hb dX7_as_40 rfl (lv_at hl 0 rfl) ?_
          refine lv_icmp_eq (tgt := 54) hx hb dX7_as_41 (by decide) (fun c_14 => ?_) (fun c_14 => ?_)
          · skip
            refine lv_iconst (v := 1) hx hb dX7_as_54 (by decide) ?_
            refine lv_goto (tgt := 59) hx hb dX7_as_55 (by decide) ?_
            refine lv_istore (lv' := [(4, .int 1), (3, .int (Rw (5 * j))), (0, .ref z), (1, .int (nI j)), (2, .int 1)]) hx hb dX7_as_59 hl (by decide) rfl (fun ls hl => ?_)
            refine lv_iload hx hb dX7_as_61 (lv_at hl 0 rfl) ?_
            refine lv_if_eq (tgt := 70) hx hb dX7_as_63 (by decide) (fun c_15 => ?_) (fun c_15 => ?_)
            · skip
              exact absurd c_15 (by decide)
            · skip
              refine lv_iload_n hx hb dX7_as_66 rfl (lv_at hl 3 rfl) ?_
              refine lv_goto (tgt := 71) hx hb dX7_as_67 (by decide) ?_
              exact W.iret (v := nI j) hx hb hr (fun t ht hW => ⟨⟨nI j, (), rfl, (by rw [mas, if_pos (Or.inr (Or.inl (show nI 1 = Rw (5 * j) from c_14)))]), trivial⟩, hS.F ht⟩) hS.2.2 dX7_as_71
          · skip
            refine lv_iload_n hx hb dX7_as_44 rfl (lv_at hl 3 rfl) ?_
            refine lv_iconst (v := 2) hx hb dX7_as_45 (by decide) ?_
            refine lv_icmp_ne (tgt := 58) hx hb dX7_as_46 (by decide) (fun c_16 => ?_) (fun c_16 => ?_)
            · skip
              refine lv_iconst (v := 0) hx hb dX7_as_58 (by decide) ?_
              refine lv_istore (lv' := [(4, .int 0), (3, .int (Rw (5 * j))), (0, .ref z), (1, .int (nI j)), (2, .int 1)]) hx hb dX7_as_59 hl (by decide) rfl (fun ls hl => ?_)
              refine lv_iload hx hb dX7_as_61 (lv_at hl 0 rfl) ?_
              refine lv_if_eq (tgt := 70) hx hb dX7_as_63 (by decide) (fun c_17 => ?_) (fun c_17 => ?_)
              · skip
                refine lv_iconst (v := (-1)) hx hb dX7_as_70 (by decide) ?_
                exact W.iret (v := (-1)) hx hb hr (fun t ht hW => ⟨⟨(-1), (), rfl, (by rw [mas, if_neg (fun h => h.elim (fun h => absurd h (by decide)) (fun h => h.elim (fun h => absurd (show (1 : Int32) = Rw (5 * j) from h) c_14) (fun h => absurd h.1 (by decide))))]), trivial⟩, hS.F ht⟩) hS.2.2 dX7_as_71
              · skip
                exact absurd c_17 (by decide)
            · skip
              exact absurd c_16 (by decide)
      · skip
        exact absurd c_12 (by decide)
    · skip
      exact absurd c_10 (by decide)
  · skip
    have hl : lv_has ls 5 [(0, .ref z), (1, .int (nI j)), (2, .int 2)] := hl
    refine lv_aload_n hx hb dX7_as_0 rfl (lv_at hl 0 rfl) ?_
    refine lv_iload_n hx hb dX7_as_1 rfl (lv_at hl 1 rfl) ?_
    have hPc_18 := hPr.sub (ws' := [(z, .inr (7, [a0, a1, .int (nI n), a3, a4, a5, a6, a7, .ref zr, a9, a10, a11, a12, a13, a14, a15, a16, a17, a18, a19, a20, a21, a22, a23, a24]))]) [0] rfl
    refine jcalli (va_runV (As := [.int (nI j)]) (rest := []) ⟨hx, hb, hml, hown, hts⟩ (c_isJar_y l D cI cJ z n j a0 a1 a3 a4 a5 a6 a7 (.ref zr) a9 a10 a11 a12 a13 a14 a15 a16 a17 a18 a19 a20 a21 a22 a23 a24 hj hn6 s.heap.size) (cwV 1 hts gX7_as_X7_isJar rfl rfl rfl (by decide +kernel) ⟨Nat.le_of_ble_eq_true rfl, Nat.le_of_ble_eq_true rfl⟩) (jpreV hT (va_recv hK hPr (ci := 7) (q0 := 0) rfl rfl) hPc_18) rfl rfl hl.1 rfl (lv_room (Nat.le_of_ble_eq_true rfl)) dX7_as_2 ⟨(Nat.zero_le _), (Nat.zero_le _)⟩) hS hA (fun r_19 H locs hw_r_19 hkq hS => ?_)
    try dsimp only at hw_r_19
    have hPr := jkeep hPr hkq
    subst hw_r_19
    refine lv_if_ne (tgt := 11) hx hb dX7_as_5 (by decide) (fun c_20 => ?_) (fun c_20 => ?_)
    · skip
      refine lv_iload_n hx hb dX7_as_11 rfl (lv_at hl 2 rfl) ?_
      refine lv_i2l (v := (2 : Int32).toInt64) hx hb dX7_as_12 rfl ?_
      refine lv_lconst (v := 0) hx hb dX7_as_13 (by decide) ?_
      refine lv_ldc2 (v := 4) hx hb hown (hts (Cond.constantLong RX7 105 (4)) (List.mem_of_getElem? (i := 1) rfl)) dX7_as_14 ?_
      refine jcalli (va_runS (As := [.long ((2 : Int32).toInt64), .long 0, .long 4]) (rest := []) ⟨hx, hb, hml, hown, hts⟩ (c_in_y l D cI cJ ((2 : Int32).toInt64) 0 4 (by decide) (by decide) H.size) (va_cwS 3 hts gX7_as_X7_in rfl rfl rfl (by decide +kernel) ⟨Nat.le_of_ble_eq_true rfl, Nat.le_of_ble_eq_true rfl⟩) (jpreS hT trivial) rfl rfl hl.1 rfl (lv_room (Nat.le_of_ble_eq_true rfl)) dX7_as_17 ⟨(Nat.zero_le _), (Nat.zero_le _)⟩) hS hA (fun r_21 H locs hw_r_21 hkq hS => ?_)
      try dsimp only at hw_r_21
      have hPr := jkeep hPr hkq
      subst hw_r_21
      refine lv_if_ne (tgt := 26) hx hb dX7_as_20 (by decide) (fun c_22 => ?_) (fun c_22 => ?_)
      · skip
        refine lv_aload_n hx hb dX7_as_26 rfl (lv_at hl 0 rfl) ?_
        refine va_get (D := D) (ci := 7) (v := .ref zr) (C := RX7) (T := TX7) (N := 25) hx hb hts (fun w h => List.mem_cons_of_mem _ (List.mem_append_right _ h)) hown hK hPr 0 rfl rfl 8 (by decide) (hts (Cond.fieldLink RX7 13 "JamDaysModel" "rows" "[I") (List.mem_of_getElem? (i := 2) rfl)) (fun _ h9 => h9) rfl dX7_as_27 ?_
        refine lv_iconst (v := 5) hx hb dX7_as_30 (by decide) ?_
        refine lv_iload_n hx hb dX7_as_31 rfl (lv_at hl 1 rfl) ?_
        refine lv_imul hx hb dX7_as_32 ?_
        refine jv_as (y := nI (5 * j)) (pk_mul 5 j) ?_
        refine jv_ald (k := 5 * j) hx hb hK hPr 1 0 rfl rfl (by omega) (by decide) dX7_as_33 ?_
        refine lv_istore_n (lv' := [(3, .int (Rw (5 * j))), (0, .ref z), (1, .int (nI j)), (2, .int 2)]) hx hb dX7_as_34 rfl hl (by decide) rfl (fun ls hl => ?_)
        refine lv_iload_n hx hb dX7_as_35 rfl (lv_at hl 3 rfl) ?_
        refine lv_if_eq (tgt := 54) hx hb dX7_as_36 (by decide) (fun c_23 => ?_) (fun c_23 => ?_)
        · skip
          exact absurd c_23 (by decide)
        · skip
          refine lv_iload_n hx hb dX7_as_39 rfl (lv_at hl 3 rfl) ?_
          refine lv_iload_n hx hb dX7_as_40 rfl (lv_at hl 0 rfl) ?_
          refine lv_icmp_eq (tgt := 54) hx hb dX7_as_41 (by decide) (fun c_24 => ?_) (fun c_24 => ?_)
          · skip
            refine lv_iconst (v := 1) hx hb dX7_as_54 (by decide) ?_
            refine lv_goto (tgt := 59) hx hb dX7_as_55 (by decide) ?_
            refine lv_istore (lv' := [(4, .int 1), (3, .int (Rw (5 * j))), (0, .ref z), (1, .int (nI j)), (2, .int 2)]) hx hb dX7_as_59 hl (by decide) rfl (fun ls hl => ?_)
            refine lv_iload hx hb dX7_as_61 (lv_at hl 0 rfl) ?_
            refine lv_if_eq (tgt := 70) hx hb dX7_as_63 (by decide) (fun c_25 => ?_) (fun c_25 => ?_)
            · skip
              exact absurd c_25 (by decide)
            · skip
              refine lv_iload_n hx hb dX7_as_66 rfl (lv_at hl 3 rfl) ?_
              refine lv_goto (tgt := 71) hx hb dX7_as_67 (by decide) ?_
              exact W.iret (v := nI j) hx hb hr (fun t ht hW => ⟨⟨nI j, (), rfl, (by rw [mas, if_pos (Or.inr (Or.inl (show nI 2 = Rw (5 * j) from c_24)))]), trivial⟩, hS.F ht⟩) hS.2.2 dX7_as_71
          · skip
            refine lv_iload_n hx hb dX7_as_44 rfl (lv_at hl 3 rfl) ?_
            refine lv_iconst (v := 2) hx hb dX7_as_45 (by decide) ?_
            refine lv_icmp_ne (tgt := 58) hx hb dX7_as_46 (by decide) (fun c_26 => ?_) (fun c_26 => ?_)
            · skip
              exact absurd c_26 (by decide)
            · skip
              refine lv_iload_n hx hb dX7_as_49 rfl (lv_at hl 0 rfl) ?_
              refine lv_iconst (v := 4) hx hb dX7_as_50 (by decide) ?_
              refine lv_icmp_ne (tgt := 58) hx hb dX7_as_51 (by decide) (fun c_27 => ?_) (fun c_27 => ?_)
              · skip
                refine lv_iconst (v := 0) hx hb dX7_as_58 (by decide) ?_
                refine lv_istore (lv' := [(4, .int 0), (3, .int (Rw (5 * j))), (0, .ref z), (1, .int (nI j)), (2, .int 2)]) hx hb dX7_as_59 hl (by decide) rfl (fun ls hl => ?_)
                refine lv_iload hx hb dX7_as_61 (lv_at hl 0 rfl) ?_
                refine lv_if_eq (tgt := 70) hx hb dX7_as_63 (by decide) (fun c_28 => ?_) (fun c_28 => ?_)
                · skip
                  refine lv_iconst (v := (-1)) hx hb dX7_as_70 (by decide) ?_
                  exact W.iret (v := (-1)) hx hb hr (fun t ht hW => ⟨⟨(-1), (), rfl, (by rw [mas, if_neg (fun h => h.elim (fun h => absurd h (by decide)) (fun h => h.elim (fun h => absurd (show (2 : Int32) = Rw (5 * j) from h) c_24) (fun h => absurd h.2 c_27)))]), trivial⟩, hS.F ht⟩) hS.2.2 dX7_as_71
                · skip
                  exact absurd c_28 (by decide)
              · skip
                refine lv_iconst (v := 1) hx hb dX7_as_54 (by decide) ?_
                refine lv_goto (tgt := 59) hx hb dX7_as_55 (by decide) ?_
                refine lv_istore (lv' := [(4, .int 1), (3, .int (Rw (5 * j))), (0, .ref z), (1, .int (nI j)), (2, .int 2)]) hx hb dX7_as_59 hl (by decide) rfl (fun ls hl => ?_)
                refine lv_iload hx hb dX7_as_61 (lv_at hl 0 rfl) ?_
                refine lv_if_eq (tgt := 70) hx hb dX7_as_63 (by decide) (fun c_29 => ?_) (fun c_29 => ?_)
                · skip
                  exact absurd c_29 (by decide)
                · skip
                  refine lv_iload_n hx hb dX7_as_66 rfl (lv_at hl 3 rfl) ?_
                  refine lv_goto (tgt := 71) hx hb dX7_as_67 (by decide) ?_
                  exact W.iret (v := nI j) hx hb hr (fun t ht hW => ⟨⟨nI j, (), rfl, (by rw [mas, if_pos (Or.inr (Or.inr ⟨rfl, c_27⟩))]), trivial⟩, hS.F ht⟩) hS.2.2 dX7_as_71
      · skip
        exact absurd c_22 (by decide)
    · skip
      exact absurd c_20 (by decide)
  · skip
    have hl : lv_has ls 5 [(0, .ref z), (1, .int (nI j)), (2, .int 3)] := hl
    refine lv_aload_n hx hb dX7_as_0 rfl (lv_at hl 0 rfl) ?_
    refine lv_iload_n hx hb dX7_as_1 rfl (lv_at hl 1 rfl) ?_
    have hPc_30 := hPr.sub (ws' := [(z, .inr (7, [a0, a1, .int (nI n), a3, a4, a5, a6, a7, .ref zr, a9, a10, a11, a12, a13, a14, a15, a16, a17, a18, a19, a20, a21, a22, a23, a24]))]) [0] rfl
    refine jcalli (va_runV (As := [.int (nI j)]) (rest := []) ⟨hx, hb, hml, hown, hts⟩ (c_isJar_y l D cI cJ z n j a0 a1 a3 a4 a5 a6 a7 (.ref zr) a9 a10 a11 a12 a13 a14 a15 a16 a17 a18 a19 a20 a21 a22 a23 a24 hj hn6 s.heap.size) (cwV 1 hts gX7_as_X7_isJar rfl rfl rfl (by decide +kernel) ⟨Nat.le_of_ble_eq_true rfl, Nat.le_of_ble_eq_true rfl⟩) (jpreV hT (va_recv hK hPr (ci := 7) (q0 := 0) rfl rfl) hPc_30) rfl rfl hl.1 rfl (lv_room (Nat.le_of_ble_eq_true rfl)) dX7_as_2 ⟨(Nat.zero_le _), (Nat.zero_le _)⟩) hS hA (fun r_31 H locs hw_r_31 hkq hS => ?_)
    try dsimp only at hw_r_31
    have hPr := jkeep hPr hkq
    subst hw_r_31
    refine lv_if_ne (tgt := 11) hx hb dX7_as_5 (by decide) (fun c_32 => ?_) (fun c_32 => ?_)
    · skip
      refine lv_iload_n hx hb dX7_as_11 rfl (lv_at hl 2 rfl) ?_
      refine lv_i2l (v := (3 : Int32).toInt64) hx hb dX7_as_12 rfl ?_
      refine lv_lconst (v := 0) hx hb dX7_as_13 (by decide) ?_
      refine lv_ldc2 (v := 4) hx hb hown (hts (Cond.constantLong RX7 105 (4)) (List.mem_of_getElem? (i := 1) rfl)) dX7_as_14 ?_
      refine jcalli (va_runS (As := [.long ((3 : Int32).toInt64), .long 0, .long 4]) (rest := []) ⟨hx, hb, hml, hown, hts⟩ (c_in_y l D cI cJ ((3 : Int32).toInt64) 0 4 (by decide) (by decide) H.size) (va_cwS 3 hts gX7_as_X7_in rfl rfl rfl (by decide +kernel) ⟨Nat.le_of_ble_eq_true rfl, Nat.le_of_ble_eq_true rfl⟩) (jpreS hT trivial) rfl rfl hl.1 rfl (lv_room (Nat.le_of_ble_eq_true rfl)) dX7_as_17 ⟨(Nat.zero_le _), (Nat.zero_le _)⟩) hS hA (fun r_33 H locs hw_r_33 hkq hS => ?_)
      try dsimp only at hw_r_33
      have hPr := jkeep hPr hkq
      subst hw_r_33
      refine lv_if_ne (tgt := 26) hx hb dX7_as_20 (by decide) (fun c_34 => ?_) (fun c_34 => ?_)
      · skip
        refine lv_aload_n hx hb dX7_as_26 rfl (lv_at hl 0 rfl) ?_
        refine va_get (D := D) (ci := 7) (v := .ref zr) (C := RX7) (T := TX7) (N := 25) hx hb hts (fun w h => List.mem_cons_of_mem _ (List.mem_append_right _ h)) hown hK hPr 0 rfl rfl 8 (by decide) (hts (Cond.fieldLink RX7 13 "JamDaysModel" "rows" "[I") (List.mem_of_getElem? (i := 2) rfl)) (fun _ h9 => h9) rfl dX7_as_27 ?_
        refine lv_iconst (v := 5) hx hb dX7_as_30 (by decide) ?_
        refine lv_iload_n hx hb dX7_as_31 rfl (lv_at hl 1 rfl) ?_
        refine lv_imul hx hb dX7_as_32 ?_
        refine jv_as (y := nI (5 * j)) (pk_mul 5 j) ?_
        refine jv_ald (k := 5 * j) hx hb hK hPr 1 0 rfl rfl (by omega) (by decide) dX7_as_33 ?_
        refine lv_istore_n (lv' := [(3, .int (Rw (5 * j))), (0, .ref z), (1, .int (nI j)), (2, .int 3)]) hx hb dX7_as_34 rfl hl (by decide) rfl (fun ls hl => ?_)
        refine lv_iload_n hx hb dX7_as_35 rfl (lv_at hl 3 rfl) ?_
        refine lv_if_eq (tgt := 54) hx hb dX7_as_36 (by decide) (fun c_35 => ?_) (fun c_35 => ?_)
        · skip
          exact absurd c_35 (by decide)
        · skip
          refine lv_iload_n hx hb dX7_as_39 rfl (lv_at hl 3 rfl) ?_
          refine lv_iload_n hx hb dX7_as_40 rfl (lv_at hl 0 rfl) ?_
          refine lv_icmp_eq (tgt := 54) hx hb dX7_as_41 (by decide) (fun c_36 => ?_) (fun c_36 => ?_)
          · skip
            refine lv_iconst (v := 1) hx hb dX7_as_54 (by decide) ?_
            refine lv_goto (tgt := 59) hx hb dX7_as_55 (by decide) ?_
            refine lv_istore (lv' := [(4, .int 1), (3, .int (Rw (5 * j))), (0, .ref z), (1, .int (nI j)), (2, .int 3)]) hx hb dX7_as_59 hl (by decide) rfl (fun ls hl => ?_)
            refine lv_iload hx hb dX7_as_61 (lv_at hl 0 rfl) ?_
            refine lv_if_eq (tgt := 70) hx hb dX7_as_63 (by decide) (fun c_37 => ?_) (fun c_37 => ?_)
            · skip
              exact absurd c_37 (by decide)
            · skip
              refine lv_iload_n hx hb dX7_as_66 rfl (lv_at hl 3 rfl) ?_
              refine lv_goto (tgt := 71) hx hb dX7_as_67 (by decide) ?_
              exact W.iret (v := nI j) hx hb hr (fun t ht hW => ⟨⟨nI j, (), rfl, (by rw [mas, if_pos (Or.inr (Or.inl (show nI 3 = Rw (5 * j) from c_36)))]), trivial⟩, hS.F ht⟩) hS.2.2 dX7_as_71
          · skip
            refine lv_iload_n hx hb dX7_as_44 rfl (lv_at hl 3 rfl) ?_
            refine lv_iconst (v := 2) hx hb dX7_as_45 (by decide) ?_
            refine lv_icmp_ne (tgt := 58) hx hb dX7_as_46 (by decide) (fun c_38 => ?_) (fun c_38 => ?_)
            · skip
              refine lv_iconst (v := 0) hx hb dX7_as_58 (by decide) ?_
              refine lv_istore (lv' := [(4, .int 0), (3, .int (Rw (5 * j))), (0, .ref z), (1, .int (nI j)), (2, .int 3)]) hx hb dX7_as_59 hl (by decide) rfl (fun ls hl => ?_)
              refine lv_iload hx hb dX7_as_61 (lv_at hl 0 rfl) ?_
              refine lv_if_eq (tgt := 70) hx hb dX7_as_63 (by decide) (fun c_39 => ?_) (fun c_39 => ?_)
              · skip
                refine lv_iconst (v := (-1)) hx hb dX7_as_70 (by decide) ?_
                exact W.iret (v := (-1)) hx hb hr (fun t ht hW => ⟨⟨(-1), (), rfl, (by rw [mas, if_neg (fun h => h.elim (fun h => absurd h (by decide)) (fun h => h.elim (fun h => absurd (show (3 : Int32) = Rw (5 * j) from h) c_36) (fun h => absurd h.1 (by decide))))]), trivial⟩, hS.F ht⟩) hS.2.2 dX7_as_71
              · skip
                exact absurd c_39 (by decide)
            · skip
              exact absurd c_38 (by decide)
      · skip
        exact absurd c_34 (by decide)
    · skip
      exact absurd c_32 (by decide)
  · skip
    have hl : lv_has ls 5 [(0, .ref z), (1, .int (nI j)), (2, .int 4)] := hl
    refine lv_aload_n hx hb dX7_as_0 rfl (lv_at hl 0 rfl) ?_
    refine lv_iload_n hx hb dX7_as_1 rfl (lv_at hl 1 rfl) ?_
    have hPc_40 := hPr.sub (ws' := [(z, .inr (7, [a0, a1, .int (nI n), a3, a4, a5, a6, a7, .ref zr, a9, a10, a11, a12, a13, a14, a15, a16, a17, a18, a19, a20, a21, a22, a23, a24]))]) [0] rfl
    refine jcalli (va_runV (As := [.int (nI j)]) (rest := []) ⟨hx, hb, hml, hown, hts⟩ (c_isJar_y l D cI cJ z n j a0 a1 a3 a4 a5 a6 a7 (.ref zr) a9 a10 a11 a12 a13 a14 a15 a16 a17 a18 a19 a20 a21 a22 a23 a24 hj hn6 s.heap.size) (cwV 1 hts gX7_as_X7_isJar rfl rfl rfl (by decide +kernel) ⟨Nat.le_of_ble_eq_true rfl, Nat.le_of_ble_eq_true rfl⟩) (jpreV hT (va_recv hK hPr (ci := 7) (q0 := 0) rfl rfl) hPc_40) rfl rfl hl.1 rfl (lv_room (Nat.le_of_ble_eq_true rfl)) dX7_as_2 ⟨(Nat.zero_le _), (Nat.zero_le _)⟩) hS hA (fun r_41 H locs hw_r_41 hkq hS => ?_)
    try dsimp only at hw_r_41
    have hPr := jkeep hPr hkq
    subst hw_r_41
    refine lv_if_ne (tgt := 11) hx hb dX7_as_5 (by decide) (fun c_42 => ?_) (fun c_42 => ?_)
    · skip
      refine lv_iload_n hx hb dX7_as_11 rfl (lv_at hl 2 rfl) ?_
      refine lv_i2l (v := (4 : Int32).toInt64) hx hb dX7_as_12 rfl ?_
      refine lv_lconst (v := 0) hx hb dX7_as_13 (by decide) ?_
      refine lv_ldc2 (v := 4) hx hb hown (hts (Cond.constantLong RX7 105 (4)) (List.mem_of_getElem? (i := 1) rfl)) dX7_as_14 ?_
      refine jcalli (va_runS (As := [.long ((4 : Int32).toInt64), .long 0, .long 4]) (rest := []) ⟨hx, hb, hml, hown, hts⟩ (c_in_y l D cI cJ ((4 : Int32).toInt64) 0 4 (by decide) (by decide) H.size) (va_cwS 3 hts gX7_as_X7_in rfl rfl rfl (by decide +kernel) ⟨Nat.le_of_ble_eq_true rfl, Nat.le_of_ble_eq_true rfl⟩) (jpreS hT trivial) rfl rfl hl.1 rfl (lv_room (Nat.le_of_ble_eq_true rfl)) dX7_as_17 ⟨(Nat.zero_le _), (Nat.zero_le _)⟩) hS hA (fun r_43 H locs hw_r_43 hkq hS => ?_)
      try dsimp only at hw_r_43
      have hPr := jkeep hPr hkq
      subst hw_r_43
      refine lv_if_ne (tgt := 26) hx hb dX7_as_20 (by decide) (fun c_44 => ?_) (fun c_44 => ?_)
      · skip
        refine lv_aload_n hx hb dX7_as_26 rfl (lv_at hl 0 rfl) ?_
        refine va_get (D := D) (ci := 7) (v := .ref zr) (C := RX7) (T := TX7) (N := 25) hx hb hts (fun w h => List.mem_cons_of_mem _ (List.mem_append_right _ h)) hown hK hPr 0 rfl rfl 8 (by decide) (hts (Cond.fieldLink RX7 13 "JamDaysModel" "rows" "[I") (List.mem_of_getElem? (i := 2) rfl)) (fun _ h9 => h9) rfl dX7_as_27 ?_
        refine lv_iconst (v := 5) hx hb dX7_as_30 (by decide) ?_
        refine lv_iload_n hx hb dX7_as_31 rfl (lv_at hl 1 rfl) ?_
        refine lv_imul hx hb dX7_as_32 ?_
        refine jv_as (y := nI (5 * j)) (pk_mul 5 j) ?_
        refine jv_ald (k := 5 * j) hx hb hK hPr 1 0 rfl rfl (by omega) (by decide) dX7_as_33 ?_
        refine lv_istore_n (lv' := [(3, .int (Rw (5 * j))), (0, .ref z), (1, .int (nI j)), (2, .int 4)]) hx hb dX7_as_34 rfl hl (by decide) rfl (fun ls hl => ?_)
        refine lv_iload_n hx hb dX7_as_35 rfl (lv_at hl 3 rfl) ?_
        refine lv_if_eq (tgt := 54) hx hb dX7_as_36 (by decide) (fun c_45 => ?_) (fun c_45 => ?_)
        · skip
          exact absurd c_45 (by decide)
        · skip
          refine lv_iload_n hx hb dX7_as_39 rfl (lv_at hl 3 rfl) ?_
          refine lv_iload_n hx hb dX7_as_40 rfl (lv_at hl 0 rfl) ?_
          refine lv_icmp_eq (tgt := 54) hx hb dX7_as_41 (by decide) (fun c_46 => ?_) (fun c_46 => ?_)
          · skip
            refine lv_iconst (v := 1) hx hb dX7_as_54 (by decide) ?_
            refine lv_goto (tgt := 59) hx hb dX7_as_55 (by decide) ?_
            refine lv_istore (lv' := [(4, .int 1), (3, .int (Rw (5 * j))), (0, .ref z), (1, .int (nI j)), (2, .int 4)]) hx hb dX7_as_59 hl (by decide) rfl (fun ls hl => ?_)
            refine lv_iload hx hb dX7_as_61 (lv_at hl 0 rfl) ?_
            refine lv_if_eq (tgt := 70) hx hb dX7_as_63 (by decide) (fun c_47 => ?_) (fun c_47 => ?_)
            · skip
              exact absurd c_47 (by decide)
            · skip
              refine lv_iload_n hx hb dX7_as_66 rfl (lv_at hl 3 rfl) ?_
              refine lv_goto (tgt := 71) hx hb dX7_as_67 (by decide) ?_
              exact W.iret (v := nI j) hx hb hr (fun t ht hW => ⟨⟨nI j, (), rfl, (by rw [mas, if_pos (Or.inr (Or.inl (show nI 4 = Rw (5 * j) from c_46)))]), trivial⟩, hS.F ht⟩) hS.2.2 dX7_as_71
          · skip
            refine lv_iload_n hx hb dX7_as_44 rfl (lv_at hl 3 rfl) ?_
            refine lv_iconst (v := 2) hx hb dX7_as_45 (by decide) ?_
            refine lv_icmp_ne (tgt := 58) hx hb dX7_as_46 (by decide) (fun c_48 => ?_) (fun c_48 => ?_)
            · skip
              refine lv_iconst (v := 0) hx hb dX7_as_58 (by decide) ?_
              refine lv_istore (lv' := [(4, .int 0), (3, .int (Rw (5 * j))), (0, .ref z), (1, .int (nI j)), (2, .int 4)]) hx hb dX7_as_59 hl (by decide) rfl (fun ls hl => ?_)
              refine lv_iload hx hb dX7_as_61 (lv_at hl 0 rfl) ?_
              refine lv_if_eq (tgt := 70) hx hb dX7_as_63 (by decide) (fun c_49 => ?_) (fun c_49 => ?_)
              · skip
                refine lv_iconst (v := (-1)) hx hb dX7_as_70 (by decide) ?_
                exact W.iret (v := (-1)) hx hb hr (fun t ht hW => ⟨⟨(-1), (), rfl, (by rw [mas, if_neg (fun h => h.elim (fun h => absurd h (by decide)) (fun h => h.elim (fun h => absurd (show (4 : Int32) = Rw (5 * j) from h) c_46) (fun h => absurd h.1 (by decide))))]), trivial⟩, hS.F ht⟩) hS.2.2 dX7_as_71
              · skip
                exact absurd c_49 (by decide)
            · skip
              exact absurd c_48 (by decide)
      · skip
        exact absurd c_44 (by decide)
    · skip
      exact absurd c_42 (by decide)

set_option maxHeartbeats 4000000 in
set_option maxRecDepth 100000 in
theorem c_mworth_no (l : Launch) (D : va_G) (cI cJ : ClassId) (z : Nat) (n : Nat) (a0 : Value) (a1 : Value) (a3 : Value) (a4 : Value) (a5 : Value) (a6 : Value) (a7 : Value) (a8 : Value) (a9 : Value) (a10 : Value) (a11 : Value) (a12 : Value) (a13 : Value) (a14 : Value) (a15 : Value) (a16 : Value) (a17 : Value) (a18 : Value) (a19 : Value) (a20 : Value) (a21 : Value) (a22 : Value) (a23 : Value) (a24 : Value) (p0 : Int32) (y0 : Int32) (h9 : p0 < 0 ∨ nI n ≤ p0) (hn6 : n ≤ 6) : jRi l yX7_worth wsX7_worth ({ frames := 2, cells := 0, slots := 0, locals := 46 }) [.ref z, .int p0, .int y0] D cI cJ (fun H => va_P D vwCl [(z, .inr (7, [a0, a1, .int (nI n), a3, a4, a5, a6, a7, a8, a9, a10, a11, a12, a13, a14, a15, a16, a17, a18, a19, a20, a21, a22, a23, a24]))] H) (fun r => r = -101) := by
  intro sz
  refine Met.ofW (cc := cX7_worth) (maxL := 3) (ret := (some .int)) (by decide) rfl ?_
  intro p e s m args below meth c s₁ B hml hv
  obtain ⟨rfl, hsz, hT, hPr⟩ := hv
  have hK := hT.1
  have hx := B.exec
  have hb := B.bytes
  have hr := B.returns
  have hts := atoms_spec (ws := wsX7_worth) B.pre
  have hown : s.vm.findClass RX7 = some m.cls := findClass_of_methodNamed B.named
  have hlocks := B.notSynchronized
  subst hsz
  generalize hAe : va_A [] s.heap.size = A
  have hA : ∀ q : Nat, s.heap.size ≤ q → A q := fun q h => by rw [← hAe]; exact Or.inr h
  have hS : va_S A s.heap s.heap [] := va_S.rf
  have hl := lv_entry ([.ref z, .int p0, .int y0] : List Value) (n := 3) (Nat.le_of_ble_eq_true rfl)
  rw [lg_entry_eq]
  generalize (lg_sl ([.ref z, .int p0, .int y0]) ++ List.replicate (3 - (lg_sl ([.ref z, .int p0, .int y0])).length) Slot.unset).toArray = ls at hl ⊢
  have hl : lv_has ls 3 [(0, .ref z), (1, .int p0), (2, .int y0)] := hl
  refine lv_aload_n hx hb dX7_worth_0 rfl (lv_at hl 0 rfl) ?_
  refine lv_iload_n hx hb dX7_worth_1 rfl (lv_at hl 1 rfl) ?_
  have hPc_1 := hPr.sub (ws' := [(z, .inr (7, [a0, a1, .int (nI n), a3, a4, a5, a6, a7, a8, a9, a10, a11, a12, a13, a14, a15, a16, a17, a18, a19, a20, a21, a22, a23, a24]))]) [0] rfl
  refine jcalli (va_runV (As := [.int p0]) (rest := []) ⟨hx, hb, hml, hown, hts⟩ (c_isJar_n l D cI cJ z n a0 a1 a3 a4 a5 a6 a7 a8 a9 a10 a11 a12 a13 a14 a15 a16 a17 a18 a19 a20 a21 a22 a23 a24 p0 h9 hn6 s.heap.size) (cwV 1 hts gX7_worth_X7_isJar rfl rfl rfl (by decide +kernel) ⟨Nat.le_of_ble_eq_true rfl, Nat.le_of_ble_eq_true rfl⟩) (jpreV hT (va_recv hK hPr (ci := 7) (q0 := 0) rfl rfl) hPc_1) rfl rfl hl.1 rfl (lv_room (Nat.le_of_ble_eq_true rfl)) dX7_worth_2 ⟨(Nat.zero_le _), (Nat.zero_le _)⟩) hS hA (fun r_2 H locs hw_r_2 hkq hS => ?_)
  try dsimp only at hw_r_2
  have hPr := jkeep hPr hkq
  subst hw_r_2
  refine lv_if_ne (tgt := 11) hx hb dX7_worth_5 (by decide) (fun c_3 => ?_) (fun c_3 => ?_)
  · skip
    exact absurd c_3 (by decide)
  · skip
    refine lv_bipush (v := (-101)) hx hb dX7_worth_8 (by decide) ?_
    exact W.iret (v := (-101)) hx hb hr (fun t ht hW => ⟨⟨(-101), (), rfl, rfl, trivial⟩, hS.F ht⟩) hS.2.2 dX7_worth_10

set_option maxHeartbeats 4000000 in
set_option maxRecDepth 100000 in
theorem c_mworth_out (l : Launch) (D : va_G) (cI cJ : ClassId) (z : Nat) (n : Nat) (a0 : Value) (a1 : Value) (a3 : Value) (a4 : Value) (a5 : Value) (a6 : Value) (a7 : Value) (a8 : Value) (a9 : Value) (a10 : Value) (a11 : Value) (a12 : Value) (a13 : Value) (a14 : Value) (a15 : Value) (a16 : Value) (a17 : Value) (a18 : Value) (a19 : Value) (a20 : Value) (a21 : Value) (a22 : Value) (a23 : Value) (a24 : Value) (j : Nat) (y0 : Int32) (hj : j < n) (hn6 : n ≤ 6) (h8 : y0 < 0 ∨ 99 < y0) : jRi l yX7_worth wsX7_worth ({ frames := 2, cells := 0, slots := 0, locals := 46 }) [.ref z, .int (nI j), .int y0] D cI cJ (fun H => va_P D vwCl [(z, .inr (7, [a0, a1, .int (nI n), a3, a4, a5, a6, a7, a8, a9, a10, a11, a12, a13, a14, a15, a16, a17, a18, a19, a20, a21, a22, a23, a24]))] H) (fun r => r = -102) := by
  intro sz
  refine Met.ofW (cc := cX7_worth) (maxL := 3) (ret := (some .int)) (by decide) rfl ?_
  intro p e s m args below meth c s₁ B hml hv
  obtain ⟨rfl, hsz, hT, hPr⟩ := hv
  have hK := hT.1
  have hx := B.exec
  have hb := B.bytes
  have hr := B.returns
  have hts := atoms_spec (ws := wsX7_worth) B.pre
  have hown : s.vm.findClass RX7 = some m.cls := findClass_of_methodNamed B.named
  have hlocks := B.notSynchronized
  subst hsz
  generalize hAe : va_A [] s.heap.size = A
  have hA : ∀ q : Nat, s.heap.size ≤ q → A q := fun q h => by rw [← hAe]; exact Or.inr h
  have hS : va_S A s.heap s.heap [] := va_S.rf
  have hl := lv_entry ([.ref z, .int (nI j), .int y0] : List Value) (n := 3) (Nat.le_of_ble_eq_true rfl)
  rw [lg_entry_eq]
  generalize (lg_sl ([.ref z, .int (nI j), .int y0]) ++ List.replicate (3 - (lg_sl ([.ref z, .int (nI j), .int y0])).length) Slot.unset).toArray = ls at hl ⊢
  have hl : lv_has ls 3 [(0, .ref z), (1, .int (nI j)), (2, .int y0)] := hl
  refine lv_aload_n hx hb dX7_worth_0 rfl (lv_at hl 0 rfl) ?_
  refine lv_iload_n hx hb dX7_worth_1 rfl (lv_at hl 1 rfl) ?_
  have hPc_1 := hPr.sub (ws' := [(z, .inr (7, [a0, a1, .int (nI n), a3, a4, a5, a6, a7, a8, a9, a10, a11, a12, a13, a14, a15, a16, a17, a18, a19, a20, a21, a22, a23, a24]))]) [0] rfl
  refine jcalli (va_runV (As := [.int (nI j)]) (rest := []) ⟨hx, hb, hml, hown, hts⟩ (c_isJar_y l D cI cJ z n j a0 a1 a3 a4 a5 a6 a7 a8 a9 a10 a11 a12 a13 a14 a15 a16 a17 a18 a19 a20 a21 a22 a23 a24 hj hn6 s.heap.size) (cwV 1 hts gX7_worth_X7_isJar rfl rfl rfl (by decide +kernel) ⟨Nat.le_of_ble_eq_true rfl, Nat.le_of_ble_eq_true rfl⟩) (jpreV hT (va_recv hK hPr (ci := 7) (q0 := 0) rfl rfl) hPc_1) rfl rfl hl.1 rfl (lv_room (Nat.le_of_ble_eq_true rfl)) dX7_worth_2 ⟨(Nat.zero_le _), (Nat.zero_le _)⟩) hS hA (fun r_2 H locs hw_r_2 hkq hS => ?_)
  try dsimp only at hw_r_2
  have hPr := jkeep hPr hkq
  subst hw_r_2
  refine lv_if_ne (tgt := 11) hx hb dX7_worth_5 (by decide) (fun c_3 => ?_) (fun c_3 => ?_)
  · skip
    refine lv_iload_n hx hb dX7_worth_11 rfl (lv_at hl 2 rfl) ?_
    refine lv_i2l (v := y0.toInt64) hx hb dX7_worth_12 rfl ?_
    refine lv_lconst (v := 0) hx hb dX7_worth_13 (by decide) ?_
    refine lv_ldc2 (v := 99) hx hb hown (hts (Cond.constantLong RX7 107 (99)) (List.mem_of_getElem? (i := 1) rfl)) dX7_worth_14 ?_
    refine jcalli (va_runS (As := [.long y0.toInt64, .long 0, .long 99]) (rest := []) ⟨hx, hb, hml, hown, hts⟩ (c_in_n l D cI cJ y0.toInt64 0 99 (h8.elim (fun h => Or.inl (jw_lt (b := 0) h)) (fun h => Or.inr (jw_lt (a := 99) h))) H.size) (va_cwS 3 hts gX7_worth_X7_in rfl rfl rfl (by decide +kernel) ⟨Nat.le_of_ble_eq_true rfl, Nat.le_of_ble_eq_true rfl⟩) (jpreS hT trivial) rfl rfl hl.1 rfl (lv_room (Nat.le_of_ble_eq_true rfl)) dX7_worth_17 ⟨(Nat.zero_le _), (Nat.zero_le _)⟩) hS hA (fun r_4 H locs hw_r_4 hkq hS => ?_)
    try dsimp only at hw_r_4
    have hPr := jkeep hPr hkq
    subst hw_r_4
    refine lv_if_eq (tgt := 35) hx hb dX7_worth_20 (by decide) (fun c_5 => ?_) (fun c_5 => ?_)
    · skip
      refine lv_bipush (v := (-102)) hx hb dX7_worth_35 (by decide) ?_
      exact W.iret (v := (-102)) hx hb hr (fun t ht hW => ⟨⟨(-102), (), rfl, rfl, trivial⟩, hS.F ht⟩) hS.2.2 dX7_worth_37
    · skip
      exact absurd c_5 (by decide)
  · skip
    exact absurd c_3 (by decide)

set_option maxHeartbeats 4000000 in
set_option maxRecDepth 100000 in
theorem c_mworth_ok (l : Launch) (D : va_G) (cI cJ : ClassId) (z : Nat) (zr : Nat) (n : Nat) (a0 : Value) (a1 : Value) (a3 : Value) (a4 : Value) (a5 : Value) (a6 : Value) (a7 : Value) (a9 : Value) (a10 : Value) (a11 : Value) (a12 : Value) (a13 : Value) (a14 : Value) (a15 : Value) (a16 : Value) (a17 : Value) (a18 : Value) (a19 : Value) (a20 : Value) (a21 : Value) (a22 : Value) (a23 : Value) (a24 : Value) (Rw : Nat → Int32) (j : Nat) (y0 : Int32) (hj : j < n) (hn6 : n ≤ 6) (h7 : ¬ y0 < 0) (h8 : y0 ≤ 99) : jRi l yX7_worth wsX7_worth ({ frames := 2, cells := 0, slots := 0, locals := 49 }) [.ref z, .int (nI j), .int y0] D cI cJ (fun H => va_P D vwCl [(z, .inr (7, [a0, a1, .int (nI n), a3, a4, a5, a6, a7, .ref zr, a9, a10, a11, a12, a13, a14, a15, a16, a17, a18, a19, a20, a21, a22, a23, a24])), (zr, .inl (cI, 30, .inl Rw))] H) (fun r => r = mfi Rw j y0 + 100) := by
  intro sz
  refine Met.ofW (cc := cX7_worth) (maxL := 3) (ret := (some .int)) (by decide) rfl ?_
  intro p e s m args below meth c s₁ B hml hv
  obtain ⟨rfl, hsz, hT, hPr⟩ := hv
  have hK := hT.1
  have hx := B.exec
  have hb := B.bytes
  have hr := B.returns
  have hts := atoms_spec (ws := wsX7_worth) B.pre
  have hown : s.vm.findClass RX7 = some m.cls := findClass_of_methodNamed B.named
  have hlocks := B.notSynchronized
  subst hsz
  generalize hAe : va_A [] s.heap.size = A
  have hA : ∀ q : Nat, s.heap.size ≤ q → A q := fun q h => by rw [← hAe]; exact Or.inr h
  have hS : va_S A s.heap s.heap [] := va_S.rf
  have hl := lv_entry ([.ref z, .int (nI j), .int y0] : List Value) (n := 3) (Nat.le_of_ble_eq_true rfl)
  rw [lg_entry_eq]
  generalize (lg_sl ([.ref z, .int (nI j), .int y0]) ++ List.replicate (3 - (lg_sl ([.ref z, .int (nI j), .int y0])).length) Slot.unset).toArray = ls at hl ⊢
  have hl : lv_has ls 3 [(0, .ref z), (1, .int (nI j)), (2, .int y0)] := hl
  refine lv_aload_n hx hb dX7_worth_0 rfl (lv_at hl 0 rfl) ?_
  refine lv_iload_n hx hb dX7_worth_1 rfl (lv_at hl 1 rfl) ?_
  have hPc_1 := hPr.sub (ws' := [(z, .inr (7, [a0, a1, .int (nI n), a3, a4, a5, a6, a7, .ref zr, a9, a10, a11, a12, a13, a14, a15, a16, a17, a18, a19, a20, a21, a22, a23, a24]))]) [0] rfl
  refine jcalli (va_runV (As := [.int (nI j)]) (rest := []) ⟨hx, hb, hml, hown, hts⟩ (c_isJar_y l D cI cJ z n j a0 a1 a3 a4 a5 a6 a7 (.ref zr) a9 a10 a11 a12 a13 a14 a15 a16 a17 a18 a19 a20 a21 a22 a23 a24 hj hn6 s.heap.size) (cwV 1 hts gX7_worth_X7_isJar rfl rfl rfl (by decide +kernel) ⟨Nat.le_of_ble_eq_true rfl, Nat.le_of_ble_eq_true rfl⟩) (jpreV hT (va_recv hK hPr (ci := 7) (q0 := 0) rfl rfl) hPc_1) rfl rfl hl.1 rfl (lv_room (Nat.le_of_ble_eq_true rfl)) dX7_worth_2 ⟨(Nat.zero_le _), (Nat.zero_le _)⟩) hS hA (fun r_2 H locs hw_r_2 hkq hS => ?_)
  try dsimp only at hw_r_2
  have hPr := jkeep hPr hkq
  subst hw_r_2
  refine lv_if_ne (tgt := 11) hx hb dX7_worth_5 (by decide) (fun c_3 => ?_) (fun c_3 => ?_)
  · skip
    refine lv_iload_n hx hb dX7_worth_11 rfl (lv_at hl 2 rfl) ?_
    refine lv_i2l (v := y0.toInt64) hx hb dX7_worth_12 rfl ?_
    refine lv_lconst (v := 0) hx hb dX7_worth_13 (by decide) ?_
    refine lv_ldc2 (v := 99) hx hb hown (hts (Cond.constantLong RX7 107 (99)) (List.mem_of_getElem? (i := 1) rfl)) dX7_worth_14 ?_
    refine jcalli (va_runS (As := [.long y0.toInt64, .long 0, .long 99]) (rest := []) ⟨hx, hb, hml, hown, hts⟩ (c_in_y l D cI cJ y0.toInt64 0 99 (jw_le (a := 0) (jnlt h7)) (jw_le (b := 99) h8) H.size) (va_cwS 3 hts gX7_worth_X7_in rfl rfl rfl (by decide +kernel) ⟨Nat.le_of_ble_eq_true rfl, Nat.le_of_ble_eq_true rfl⟩) (jpreS hT trivial) rfl rfl hl.1 rfl (lv_room (Nat.le_of_ble_eq_true rfl)) dX7_worth_17 ⟨(Nat.zero_le _), (Nat.zero_le _)⟩) hS hA (fun r_4 H locs hw_r_4 hkq hS => ?_)
    try dsimp only at hw_r_4
    have hPr := jkeep hPr hkq
    subst hw_r_4
    refine lv_if_eq (tgt := 35) hx hb dX7_worth_20 (by decide) (fun c_5 => ?_) (fun c_5 => ?_)
    · skip
      exact absurd c_5 (by decide)
    · skip
      refine lv_aload_n hx hb dX7_worth_23 rfl (lv_at hl 0 rfl) ?_
      refine lv_iload_n hx hb dX7_worth_24 rfl (lv_at hl 1 rfl) ?_
      refine lv_iload_n hx hb dX7_worth_25 rfl (lv_at hl 2 rfl) ?_
      have hPc_6 := hPr.sub (ws' := [(z, .inr (7, [a0, a1, .int (nI n), a3, a4, a5, a6, a7, .ref zr, a9, a10, a11, a12, a13, a14, a15, a16, a17, a18, a19, a20, a21, a22, a23, a24])), (zr, .inl (cI, 30, .inl Rw))]) [0, 1] rfl
      refine jcalli (va_runV (As := [.int (nI j), .int y0]) (rest := []) ⟨hx, hb, hml, hown, hts⟩ (c_firstIn l D cI cJ z zr a0 a1 (.int (nI n)) a3 a4 a5 a6 a7 a9 a10 a11 a12 a13 a14 a15 a16 a17 a18 a19 a20 a21 a22 a23 a24 Rw j y0 (by omega) H.size) (cwV 2 hts gX7_worth_X7_firstIn rfl rfl rfl (by decide +kernel) ⟨Nat.le_of_ble_eq_true rfl, Nat.le_of_ble_eq_true rfl⟩) (jpreV hT (va_recv hK hPr (ci := 7) (q0 := 0) rfl rfl) hPc_6) rfl rfl hl.1 rfl (lv_room (Nat.le_of_ble_eq_true rfl)) dX7_worth_26 ⟨(Nat.zero_le _), (Nat.zero_le _)⟩) hS hA (fun r_7 H locs hw_r_7 hkq hS => ?_)
      try dsimp only at hw_r_7
      have hPr := jkeep hPr hkq
      subst hw_r_7
      refine lv_bipush (v := 100) hx hb dX7_worth_29 (by decide) ?_
      refine lv_iadd hx hb dX7_worth_31 ?_
      refine lv_goto (tgt := 37) hx hb dX7_worth_32 (by decide) ?_
      exact W.iret (v := (mfi Rw j y0) + 100) hx hb hr (fun t ht hW => ⟨⟨(mfi Rw j y0) + 100, (), rfl, rfl, trivial⟩, hS.F ht⟩) hS.2.2 dX7_worth_37
  · skip
    exact absurd c_3 (by decide)

def msum (Rw : Nat → Int32) : Nat → Int32
  | 0 => 0
  | k + 1 => msum Rw k + Rw (5 * k + 3)
set_option maxHeartbeats 4000000 in
set_option maxRecDepth 100000 in
theorem c_spoonsAll (l : Launch) (D : va_G) (cI cJ : ClassId) (z : Nat) (zr : Nat) (n : Nat) (a0 : Value) (a1 : Value) (a3 : Value) (a4 : Value) (a5 : Value) (a6 : Value) (a7 : Value) (a9 : Value) (a10 : Value) (a11 : Value) (a12 : Value) (a13 : Value) (a14 : Value) (a15 : Value) (a16 : Value) (a17 : Value) (a18 : Value) (a19 : Value) (a20 : Value) (a21 : Value) (a22 : Value) (a23 : Value) (a24 : Value) (Rw : Nat → Int32) (hn6 : n ≤ 6) : jRi l yX7_spoonsAll wsX7_spoonsAll ({ frames := 0, cells := 0, slots := 0, locals := 0 }) [.ref z] D cI cJ (fun H => va_P D vwCl [(z, .inr (7, [a0, a1, .int (nI n), a3, a4, a5, a6, a7, .ref zr, a9, a10, a11, a12, a13, a14, a15, a16, a17, a18, a19, a20, a21, a22, a23, a24])), (zr, .inl (cI, 30, .inl Rw))] H) (fun r => r = msum Rw n) := by
  intro sz
  refine Met.ofW (cc := cX7_spoonsAll) (maxL := 3) (ret := (some .int)) (by decide) rfl ?_
  intro p e s m args below meth c s₁ B hml hv
  obtain ⟨rfl, hsz, hT, hPr⟩ := hv
  have hK := hT.1
  have hx := B.exec
  have hb := B.bytes
  have hr := B.returns
  have hts := atoms_spec (ws := wsX7_spoonsAll) B.pre
  have hown : s.vm.findClass RX7 = some m.cls := findClass_of_methodNamed B.named
  have hlocks := B.notSynchronized
  subst hsz
  generalize hAe : va_A [] s.heap.size = A
  have hA : ∀ q : Nat, s.heap.size ≤ q → A q := fun q h => by rw [← hAe]; exact Or.inr h
  have hS : va_S A s.heap s.heap [] := va_S.rf
  have hl := lv_entry ([.ref z] : List Value) (n := 3) (Nat.le_of_ble_eq_true rfl)
  rw [lg_entry_eq]
  generalize (lg_sl ([.ref z]) ++ List.replicate (3 - (lg_sl ([.ref z])).length) Slot.unset).toArray = ls at hl ⊢
  have hl : lv_has ls 3 [(0, .ref z)] := hl
  refine lv_iconst (v := 0) hx hb dX7_spoonsAll_0 (by decide) ?_
  refine lv_istore_n (lv' := [(1, .int 0), (0, .ref z)]) hx hb dX7_spoonsAll_1 rfl hl (by decide) rfl (fun ls hl => ?_)
  refine lv_iconst (v := 0) hx hb dX7_spoonsAll_2 (by decide) ?_
  refine lv_istore_n (lv' := [(2, .int 0), (1, .int 0), (0, .ref z)]) hx hb dX7_spoonsAll_3 rfl hl (by decide) rfl (fun ls hl => ?_)
  refine jloop (α := Nat) (fun (k : Nat) (H : Heap) (locs : List Loc) (ls : Array Slot) => (va_P D vwCl [(z, .inr (7, [a0, a1, .int (nI n), a3, a4, a5, a6, a7, .ref zr, a9, a10, a11, a12, a13, a14, a15, a16, a17, a18, a19, a20, a21, a22, a23, a24])), (zr, .inl (cI, 30, .inl Rw))] H) ∧ (va_S A s.heap H locs) ∧ (lv_has ls 3 [(0, .ref z), (1, .int (msum Rw k)), (2, .int (nI k))]) ∧ (k ≤ n)) (fun (k : Nat) => n - k) (fun k H locs ls hx9 ih_4 => ?_) 0 _ _ _ ⟨hPr, hS, lv_sub hl [2, 1, 0] rfl, (by omega)⟩
  obtain ⟨hPr, hS, hl, hk9⟩ := hx9
  refine lv_iload_n hx hb dX7_spoonsAll_4 rfl (lv_at hl 2 rfl) ?_
  refine lv_aload_n hx hb dX7_spoonsAll_5 rfl (lv_at hl 0 rfl) ?_
  refine va_get (D := D) (ci := 7) (v := .int (nI n)) (C := RX7) (T := TX7) (N := 25) hx hb hts (fun w h => List.mem_cons_of_mem _ (List.mem_append_right _ h)) hown hK hPr 0 rfl rfl 2 (by decide) (hts (Cond.fieldLink RX7 63 "JamDaysModel" "jars" "I") (List.mem_of_getElem? (i := 1) rfl)) (fun _ h9 => h9) rfl dX7_spoonsAll_6 ?_
  refine lv_icmp_ge (tgt := 31) hx hb dX7_spoonsAll_9 (by decide) (fun c_1 => ?_) (fun c_1 => ?_)
  · skip
    replace c_1 : n ≤ k := (nI_leI (a := n) (b := k) (by omega) (by omega)).mp c_1
    refine lv_iload_n hx hb dX7_spoonsAll_31 rfl (lv_at hl 1 rfl) ?_
    exact W.iret (v := msum Rw k) hx hb hr (fun t ht hW => ⟨⟨msum Rw k, (), rfl, (by rw [show k = n by omega]), trivial⟩, hS.F ht⟩) hS.2.2 dX7_spoonsAll_32
  · skip
    replace c_1 : ¬ n ≤ k := fun h => c_1 ((nI_leI (a := n) (b := k) (by omega) (by omega)).mpr h)
    refine lv_iload_n hx hb dX7_spoonsAll_12 rfl (lv_at hl 1 rfl) ?_
    refine lv_aload_n hx hb dX7_spoonsAll_13 rfl (lv_at hl 0 rfl) ?_
    refine va_get (D := D) (ci := 7) (v := .ref zr) (C := RX7) (T := TX7) (N := 25) hx hb hts (fun w h => List.mem_cons_of_mem _ (List.mem_append_right _ h)) hown hK hPr 0 rfl rfl 8 (by decide) (hts (Cond.fieldLink RX7 13 "JamDaysModel" "rows" "[I") (List.mem_of_getElem? (i := 2) rfl)) (fun _ h9 => h9) rfl dX7_spoonsAll_14 ?_
    refine lv_iconst (v := 5) hx hb dX7_spoonsAll_17 (by decide) ?_
    refine lv_iload_n hx hb dX7_spoonsAll_18 rfl (lv_at hl 2 rfl) ?_
    refine lv_imul hx hb dX7_spoonsAll_19 ?_
    refine jv_as (y := nI (5 * k)) (pk_mul 5 k) ?_
    refine lv_iconst (v := 3) hx hb dX7_spoonsAll_20 (by decide) ?_
    refine lv_iadd hx hb dX7_spoonsAll_21 ?_
    refine jv_as (y := nI ((5 * k) + 3)) (nI_add (5 * k) 3) ?_
    refine jv_ald (k := (5 * k) + 3) hx hb hK hPr 1 0 rfl rfl (by omega) (by decide) dX7_spoonsAll_22 ?_
    refine lv_iadd hx hb dX7_spoonsAll_23 ?_
    refine lv_istore_n (lv' := [(1, .int ((msum Rw k) + (Rw ((5 * k) + 3)))), (0, .ref z), (2, .int (nI k))]) hx hb dX7_spoonsAll_24 rfl hl (by decide) rfl (fun ls hl => ?_)
    refine lv_iinc (v := nI (k + 1)) (lv' := [(2, .int (nI (k + 1))), (1, .int ((msum Rw k) + (Rw ((5 * k) + 3)))), (0, .ref z)]) hx hb dX7_spoonsAll_25 hl (k := 2) rfl ((rfl : nI k + Int32.ofInt 1 = nI k + nI 1).trans (nI_add k 1)) (by decide) rfl (fun ls hl => ?_)
    refine lv_goto (tgt := 4) hx hb dX7_spoonsAll_28 (by decide) ?_
    exact ih_4 (k + 1) _ _ _ ⟨hPr, hS, lv_sub hl [2, 1, 0] rfl, (by omega)⟩ (by omega)

set_option maxHeartbeats 4000000 in
set_option maxRecDepth 100000 in
theorem c_emptyMany (l : Launch) (D : va_G) (cI cJ : ClassId) (z : Nat) (zr : Nat) (n : Nat) (a0 : Value) (a1 : Value) (a3 : Value) (a4 : Value) (a5 : Value) (a6 : Value) (a7 : Value) (a9 : Value) (a10 : Value) (a11 : Value) (a12 : Value) (a13 : Value) (a14 : Value) (a15 : Value) (a16 : Value) (a17 : Value) (a18 : Value) (a19 : Value) (a20 : Value) (a21 : Value) (a22 : Value) (a23 : Value) (a24 : Value) (Rw : Nat → Int32) (hn6 : n ≤ 6) : jRi l yX7_emptyMany wsX7_emptyMany ({ frames := 0, cells := 0, slots := 0, locals := 0 }) [.ref z] D cI cJ (fun H => va_P D vwCl [(z, .inr (7, [a0, a1, .int (nI n), a3, a4, a5, a6, a7, .ref zr, a9, a10, a11, a12, a13, a14, a15, a16, a17, a18, a19, a20, a21, a22, a23, a24])), (zr, .inl (cI, 30, .inl Rw))] H) (fun r => r = jemp (fun k => Rw (5 * k + 3)) n) := by
  intro sz
  refine Met.ofW (cc := cX7_emptyMany) (maxL := 3) (ret := (some .int)) (by decide) rfl ?_
  intro p e s m args below meth c s₁ B hml hv
  obtain ⟨rfl, hsz, hT, hPr⟩ := hv
  have hK := hT.1
  have hx := B.exec
  have hb := B.bytes
  have hr := B.returns
  have hts := atoms_spec (ws := wsX7_emptyMany) B.pre
  have hown : s.vm.findClass RX7 = some m.cls := findClass_of_methodNamed B.named
  have hlocks := B.notSynchronized
  subst hsz
  generalize hAe : va_A [] s.heap.size = A
  have hA : ∀ q : Nat, s.heap.size ≤ q → A q := fun q h => by rw [← hAe]; exact Or.inr h
  have hS : va_S A s.heap s.heap [] := va_S.rf
  have hl := lv_entry ([.ref z] : List Value) (n := 3) (Nat.le_of_ble_eq_true rfl)
  rw [lg_entry_eq]
  generalize (lg_sl ([.ref z]) ++ List.replicate (3 - (lg_sl ([.ref z])).length) Slot.unset).toArray = ls at hl ⊢
  have hl : lv_has ls 3 [(0, .ref z)] := hl
  refine lv_iconst (v := 0) hx hb dX7_emptyMany_0 (by decide) ?_
  refine lv_istore_n (lv' := [(1, .int 0), (0, .ref z)]) hx hb dX7_emptyMany_1 rfl hl (by decide) rfl (fun ls hl => ?_)
  refine lv_iconst (v := 0) hx hb dX7_emptyMany_2 (by decide) ?_
  refine lv_istore_n (lv' := [(2, .int 0), (1, .int 0), (0, .ref z)]) hx hb dX7_emptyMany_3 rfl hl (by decide) rfl (fun ls hl => ?_)
  refine jloop (α := Nat × Int32) (fun (x9 : Nat × Int32) (H : Heap) (locs : List Loc) (ls : Array Slot) => match x9 with | (k, acc) => (va_P D vwCl [(z, .inr (7, [a0, a1, .int (nI n), a3, a4, a5, a6, a7, .ref zr, a9, a10, a11, a12, a13, a14, a15, a16, a17, a18, a19, a20, a21, a22, a23, a24])), (zr, .inl (cI, 30, .inl Rw))] H) ∧ (va_S A s.heap H locs) ∧ (lv_has ls 3 [(0, .ref z), (1, .int acc), (2, .int (nI k))]) ∧ (k ≤ n) ∧ (acc = jemp (fun k => Rw (5 * k + 3)) k)) (fun (x9 : Nat × Int32) => match x9 with | (k, acc) => n - k) (fun x9 H locs ls hx9 ih_4 => ?_) (0, 0) _ _ _ ⟨hPr, hS, lv_sub hl [2, 1, 0] rfl, (by omega), rfl⟩
  obtain ⟨k, acc⟩ := x9
  obtain ⟨hPr, hS, hl, hk9, hac⟩ := hx9
  refine lv_iload_n hx hb dX7_emptyMany_4 rfl (lv_at hl 2 rfl) ?_
  refine lv_aload_n hx hb dX7_emptyMany_5 rfl (lv_at hl 0 rfl) ?_
  refine va_get (D := D) (ci := 7) (v := .int (nI n)) (C := RX7) (T := TX7) (N := 25) hx hb hts (fun w h => List.mem_cons_of_mem _ (List.mem_append_right _ h)) hown hK hPr 0 rfl rfl 2 (by decide) (hts (Cond.fieldLink RX7 63 "JamDaysModel" "jars" "I") (List.mem_of_getElem? (i := 1) rfl)) (fun _ h9 => h9) rfl dX7_emptyMany_6 ?_
  refine lv_icmp_ge (tgt := 39) hx hb dX7_emptyMany_9 (by decide) (fun c_1 => ?_) (fun c_1 => ?_)
  · skip
    replace c_1 : n ≤ k := (nI_leI (a := n) (b := k) (by omega) (by omega)).mp c_1
    refine lv_iload_n hx hb dX7_emptyMany_39 rfl (lv_at hl 1 rfl) ?_
    exact W.iret (v := acc) hx hb hr (fun t ht hW => ⟨⟨acc, (), rfl, (by rw [hac, show k = n by omega]), trivial⟩, hS.F ht⟩) hS.2.2 dX7_emptyMany_40
  · skip
    replace c_1 : ¬ n ≤ k := fun h => c_1 ((nI_leI (a := n) (b := k) (by omega) (by omega)).mpr h)
    refine lv_iload_n hx hb dX7_emptyMany_12 rfl (lv_at hl 1 rfl) ?_
    refine lv_aload_n hx hb dX7_emptyMany_13 rfl (lv_at hl 0 rfl) ?_
    refine va_get (D := D) (ci := 7) (v := .ref zr) (C := RX7) (T := TX7) (N := 25) hx hb hts (fun w h => List.mem_cons_of_mem _ (List.mem_append_right _ h)) hown hK hPr 0 rfl rfl 8 (by decide) (hts (Cond.fieldLink RX7 13 "JamDaysModel" "rows" "[I") (List.mem_of_getElem? (i := 2) rfl)) (fun _ h9 => h9) rfl dX7_emptyMany_14 ?_
    refine lv_iconst (v := 5) hx hb dX7_emptyMany_17 (by decide) ?_
    refine lv_iload_n hx hb dX7_emptyMany_18 rfl (lv_at hl 2 rfl) ?_
    refine lv_imul hx hb dX7_emptyMany_19 ?_
    refine jv_as (y := nI (5 * k)) (pk_mul 5 k) ?_
    refine lv_iconst (v := 3) hx hb dX7_emptyMany_20 (by decide) ?_
    refine lv_iadd hx hb dX7_emptyMany_21 ?_
    refine jv_as (y := nI ((5 * k) + 3)) (nI_add (5 * k) 3) ?_
    refine jv_ald (k := (5 * k) + 3) hx hb hK hPr 1 0 rfl rfl (by omega) (by decide) dX7_emptyMany_22 ?_
    refine lv_if_ne (tgt := 30) hx hb dX7_emptyMany_23 (by decide) (fun c_2 => ?_) (fun c_2 => ?_)
    · skip
      refine lv_iconst (v := 0) hx hb dX7_emptyMany_30 (by decide) ?_
      refine lv_iadd hx hb dX7_emptyMany_31 ?_
      refine lv_istore_n (lv' := [(1, .int (acc + 0)), (0, .ref z), (2, .int (nI k))]) hx hb dX7_emptyMany_32 rfl hl (by decide) rfl (fun ls hl => ?_)
      refine lv_iinc (v := nI (k + 1)) (lv' := [(2, .int (nI (k + 1))), (1, .int (acc + 0)), (0, .ref z)]) hx hb dX7_emptyMany_33 hl (k := 2) rfl ((rfl : nI k + Int32.ofInt 1 = nI k + nI 1).trans (nI_add k 1)) (by decide) rfl (fun ls hl => ?_)
      refine lv_goto (tgt := 4) hx hb dX7_emptyMany_36 (by decide) ?_
      exact ih_4 (k + 1, acc + 0) _ _ _ ⟨hPr, hS, lv_sub hl [2, 1, 0] rfl, (by omega), (by rw [hac]; simp [jemp, c_2])⟩ (by dsimp only; omega)
    · skip
      refine lv_iconst (v := 1) hx hb dX7_emptyMany_26 (by decide) ?_
      refine lv_goto (tgt := 31) hx hb dX7_emptyMany_27 (by decide) ?_
      refine lv_iadd hx hb dX7_emptyMany_31 ?_
      refine lv_istore_n (lv' := [(1, .int (acc + 1)), (0, .ref z), (2, .int (nI k))]) hx hb dX7_emptyMany_32 rfl hl (by decide) rfl (fun ls hl => ?_)
      refine lv_iinc (v := nI (k + 1)) (lv' := [(2, .int (nI (k + 1))), (1, .int (acc + 1)), (0, .ref z)]) hx hb dX7_emptyMany_33 hl (k := 2) rfl ((rfl : nI k + Int32.ofInt 1 = nI k + nI 1).trans (nI_add k 1)) (by decide) rfl (fun ls hl => ?_)
      refine lv_goto (tgt := 4) hx hb dX7_emptyMany_36 (by decide) ?_
      exact ih_4 (k + 1, acc + 1) _ _ _ ⟨hPr, hS, lv_sub hl [2, 1, 0] rfl, (by omega), (by rw [hac]; simp [jemp, c_2])⟩ (by dsimp only; omega)

def mwo (Rw : Nat → Int32) (y : Int32) (j c : Nat) : Int32 := if nI c ≤ Rw (5 * j + 3) then nI c * (mfi Rw j y - Rw (5 * j + 4)) - nI c * (nI c - 1) / 2 else -99999
set_option maxHeartbeats 4000000 in
set_option maxRecDepth 100000 in
theorem c_worthOf (l : Launch) (D : va_G) (cI cJ : ClassId) (z : Nat) (zr : Nat) (a0 : Value) (a1 : Value) (a2 : Value) (a4 : Value) (a5 : Value) (a6 : Value) (a7 : Value) (a9 : Value) (a10 : Value) (a11 : Value) (a12 : Value) (a13 : Value) (a14 : Value) (a15 : Value) (a16 : Value) (a17 : Value) (a18 : Value) (a19 : Value) (a20 : Value) (a21 : Value) (a22 : Value) (a23 : Value) (a24 : Value) (Rw : Nat → Int32) (y : Int32) (j : Nat) (cq : Nat) (hj6 : j < 6) : jRi l yX7_worthOf wsX7_worthOf ({ frames := 3, cells := 0, slots := 0, locals := 70 }) [.ref z, .int (nI j), .int (nI cq)] D cI cJ (fun H => va_P D vwCl [(z, .inr (7, [a0, a1, a2, .int y, a4, a5, a6, a7, .ref zr, a9, a10, a11, a12, a13, a14, a15, a16, a17, a18, a19, a20, a21, a22, a23, a24])), (zr, .inl (cI, 30, .inl Rw))] H) (fun r => r = mwo Rw y j cq) := by
  intro sz
  refine Met.ofW (cc := cX7_worthOf) (maxL := 3) (ret := (some .int)) (by decide) rfl ?_
  intro p e s m args below meth c s₁ B hml hv
  obtain ⟨rfl, hsz, hT, hPr⟩ := hv
  have hK := hT.1
  have hx := B.exec
  have hb := B.bytes
  have hr := B.returns
  have hts := atoms_spec (ws := wsX7_worthOf) B.pre
  have hown : s.vm.findClass RX7 = some m.cls := findClass_of_methodNamed B.named
  have hlocks := B.notSynchronized
  subst hsz
  generalize hAe : va_A [] s.heap.size = A
  have hA : ∀ q : Nat, s.heap.size ≤ q → A q := fun q h => by rw [← hAe]; exact Or.inr h
  have hS : va_S A s.heap s.heap [] := va_S.rf
  have hl := lv_entry ([.ref z, .int (nI j), .int (nI cq)] : List Value) (n := 3) (Nat.le_of_ble_eq_true rfl)
  rw [lg_entry_eq]
  generalize (lg_sl ([.ref z, .int (nI j), .int (nI cq)]) ++ List.replicate (3 - (lg_sl ([.ref z, .int (nI j), .int (nI cq)])).length) Slot.unset).toArray = ls at hl ⊢
  have hl : lv_has ls 3 [(0, .ref z), (1, .int (nI j)), (2, .int (nI cq))] := hl
  refine lv_iload_n hx hb dX7_worthOf_0 rfl (lv_at hl 2 rfl) ?_
  refine lv_aload_n hx hb dX7_worthOf_1 rfl (lv_at hl 0 rfl) ?_
  refine va_get (D := D) (ci := 7) (v := .ref zr) (C := RX7) (T := TX7) (N := 25) hx hb hts (fun w h => List.mem_cons_of_mem _ (List.mem_append_right _ h)) hown hK hPr 0 rfl rfl 8 (by decide) (hts (Cond.fieldLink RX7 13 "JamDaysModel" "rows" "[I") (List.mem_of_getElem? (i := 1) rfl)) (fun _ h9 => h9) rfl dX7_worthOf_2 ?_
  refine lv_iconst (v := 5) hx hb dX7_worthOf_5 (by decide) ?_
  refine lv_iload_n hx hb dX7_worthOf_6 rfl (lv_at hl 1 rfl) ?_
  refine lv_imul hx hb dX7_worthOf_7 ?_
  refine jv_as (y := nI (5 * j)) (pk_mul 5 j) ?_
  refine lv_iconst (v := 3) hx hb dX7_worthOf_8 (by decide) ?_
  refine lv_iadd hx hb dX7_worthOf_9 ?_
  refine jv_as (y := nI ((5 * j) + 3)) (nI_add (5 * j) 3) ?_
  refine jv_ald (k := (5 * j) + 3) hx hb hK hPr 1 0 rfl rfl (by omega) (by decide) dX7_worthOf_10 ?_
  refine lv_icmp_le (tgt := 19) hx hb dX7_worthOf_11 (by decide) (fun c_1 => ?_) (fun c_1 => ?_)
  · skip
    refine lv_iload_n hx hb dX7_worthOf_19 rfl (lv_at hl 2 rfl) ?_
    refine lv_aload_n hx hb dX7_worthOf_20 rfl (lv_at hl 0 rfl) ?_
    refine lv_iload_n hx hb dX7_worthOf_21 rfl (lv_at hl 1 rfl) ?_
    have hPc_2 := hPr.sub (ws' := [(z, .inr (7, [a0, a1, a2, .int y, a4, a5, a6, a7, .ref zr, a9, a10, a11, a12, a13, a14, a15, a16, a17, a18, a19, a20, a21, a22, a23, a24])), (zr, .inl (cI, 30, .inl Rw))]) [0, 1] rfl
    refine jcalli (va_runV (As := [.int (nI j)]) (rest := [.int (nI cq)]) ⟨hx, hb, hml, hown, hts⟩ (c_nextNow l D cI cJ z zr a0 a1 a2 a4 a5 a6 a7 a9 a10 a11 a12 a13 a14 a15 a16 a17 a18 a19 a20 a21 a22 a23 a24 Rw y j hj6 s.heap.size) (cwV 1 hts gX7_worthOf_X7_nextNow rfl rfl rfl (by decide +kernel) ⟨Nat.le_of_ble_eq_true rfl, Nat.le_of_ble_eq_true rfl⟩) (jpreV hT (va_recv hK hPr (ci := 7) (q0 := 0) rfl rfl) hPc_2) rfl rfl hl.1 rfl (lv_room (Nat.le_of_ble_eq_true rfl)) dX7_worthOf_22 ⟨(Nat.zero_le _), (Nat.zero_le _)⟩) hS hA (fun r_3 H locs hw_r_3 hkq hS => ?_)
    try dsimp only at hw_r_3
    have hPr := jkeep hPr hkq
    subst hw_r_3
    refine lv_imul hx hb dX7_worthOf_25 ?_
    refine lv_iload_n hx hb dX7_worthOf_26 rfl (lv_at hl 2 rfl) ?_
    refine lv_iload_n hx hb dX7_worthOf_27 rfl (lv_at hl 2 rfl) ?_
    refine lv_iconst (v := 1) hx hb dX7_worthOf_28 (by decide) ?_
    refine lv_isub hx hb dX7_worthOf_29 ?_
    refine lv_imul hx hb dX7_worthOf_30 ?_
    refine lv_iconst (v := 2) hx hb dX7_worthOf_31 (by decide) ?_
    refine lv_idiv hx hb dX7_worthOf_32 (by decide) ?_
    refine lv_isub hx hb dX7_worthOf_33 ?_
    exact W.iret (v := ((nI cq) * (mfi Rw j y - Rw (5 * j + 4))) - (((nI cq) * ((nI cq) - 1)) / 2)) hx hb hr (fun t ht hW => ⟨⟨((nI cq) * (mfi Rw j y - Rw (5 * j + 4))) - (((nI cq) * ((nI cq) - 1)) / 2), (), rfl, (by simp [mwo, c_1]), trivial⟩, hS.F ht⟩) hS.2.2 dX7_worthOf_34
  · skip
    refine lv_ldc (v := (-99999)) hx hb hown (hts (Cond.constant RX7 91 (-99999)) (List.mem_of_getElem? (i := 2) rfl)) dX7_worthOf_14 ?_
    refine lv_goto (tgt := 34) hx hb dX7_worthOf_16 (by decide) ?_
    exact W.iret (v := (-99999)) hx hb hr (fun t ht hW => ⟨⟨(-99999), (), rfl, (by simp [mwo, c_1]), trivial⟩, hS.F ht⟩) hS.2.2 dX7_worthOf_34

set_option maxHeartbeats 4000000 in
set_option maxRecDepth 100000 in
theorem c_whichOf (l : Launch) (D : va_G) (cI cJ : ClassId) (z : Nat) (zr : Nat) (zt : Nat) (n : Nat) (tn : Nat) (a0 : Value) (a1 : Value) (a3 : Value) (a4 : Value) (a5 : Value) (a6 : Value) (a7 : Value) (a9 : Value) (a10 : Value) (a11 : Value) (a14 : Value) (a15 : Value) (a16 : Value) (a17 : Value) (a18 : Value) (a19 : Value) (a20 : Value) (a21 : Value) (a22 : Value) (a23 : Value) (a24 : Value) (Rw : Nat → Int32) (Tt : Nat → Int32) (hn6 : n ≤ 6) (ht6 : tn ≤ 6) : jRi l yX7_whichOf wsX7_whichOf ({ frames := 2, cells := 0, slots := 0, locals := 49 }) [.ref z] D cI cJ (fun H => va_P D vwCl [(z, .inr (7, [a0, a1, .int (nI n), a3, a4, a5, a6, a7, .ref zr, a9, a10, a11, .int (nI tn), .ref zt, a14, a15, a16, a17, a18, a19, a20, a21, a22, a23, a24])), (zr, .inl (cI, 30, .inl Rw)), (zt, .inl (cI, 12, .inl Tt))] H) (fun r => r = jcan (fun j => jag (mfi Rw) j (fun i => Tt (2 * i)) (fun i => Tt (2 * i + 1)) tn) n) := by
  intro sz
  refine Met.ofW (cc := cX7_whichOf) (maxL := 5) (ret := (some .int)) (by decide) rfl ?_
  intro p e s m args below meth c s₁ B hml hv
  obtain ⟨rfl, hsz, hT, hPr⟩ := hv
  have hK := hT.1
  have hx := B.exec
  have hb := B.bytes
  have hr := B.returns
  have hts := atoms_spec (ws := wsX7_whichOf) B.pre
  have hown : s.vm.findClass RX7 = some m.cls := findClass_of_methodNamed B.named
  have hlocks := B.notSynchronized
  subst hsz
  generalize hAe : va_A [] s.heap.size = A
  have hA : ∀ q : Nat, s.heap.size ≤ q → A q := fun q h => by rw [← hAe]; exact Or.inr h
  have hS : va_S A s.heap s.heap [] := va_S.rf
  have hl := lv_entry ([.ref z] : List Value) (n := 5) (Nat.le_of_ble_eq_true rfl)
  rw [lg_entry_eq]
  generalize (lg_sl ([.ref z]) ++ List.replicate (5 - (lg_sl ([.ref z])).length) Slot.unset).toArray = ls at hl ⊢
  have hl : lv_has ls 5 [(0, .ref z)] := hl
  refine lv_iconst (v := 0) hx hb dX7_whichOf_0 (by decide) ?_
  refine lv_istore_n (lv' := [(1, .int 0), (0, .ref z)]) hx hb dX7_whichOf_1 rfl hl (by decide) rfl (fun ls hl => ?_)
  refine lv_iconst (v := 0) hx hb dX7_whichOf_2 (by decide) ?_
  refine lv_istore_n (lv' := [(2, .int 0), (1, .int 0), (0, .ref z)]) hx hb dX7_whichOf_3 rfl hl (by decide) rfl (fun ls hl => ?_)
  refine jloop (α := Nat × Int32) (fun (x9 : Nat × Int32) (H : Heap) (locs : List Loc) (ls : Array Slot) => match x9 with | (k, acc) => (va_P D vwCl [(z, .inr (7, [a0, a1, .int (nI n), a3, a4, a5, a6, a7, .ref zr, a9, a10, a11, .int (nI tn), .ref zt, a14, a15, a16, a17, a18, a19, a20, a21, a22, a23, a24])), (zr, .inl (cI, 30, .inl Rw)), (zt, .inl (cI, 12, .inl Tt))] H) ∧ (va_S A s.heap H locs) ∧ (lv_has ls 5 [(0, .ref z), (1, .int acc), (2, .int (nI k))]) ∧ (k ≤ n) ∧ (acc = jcan (fun j => jag (mfi Rw) j (fun i => Tt (2 * i)) (fun i => Tt (2 * i + 1)) tn) k)) (fun (x9 : Nat × Int32) => match x9 with | (k, acc) => n - k) (fun x9 H locs ls hx9 ih_4 => ?_) (0, 0) _ _ _ ⟨hPr, hS, lv_sub hl [2, 1, 0] rfl, (by omega), rfl⟩
  obtain ⟨k, acc⟩ := x9
  obtain ⟨hPr, hS, hl, hk9, hac⟩ := hx9
  refine lv_iload_n hx hb dX7_whichOf_4 rfl (lv_at hl 2 rfl) ?_
  refine lv_aload_n hx hb dX7_whichOf_5 rfl (lv_at hl 0 rfl) ?_
  refine va_get (D := D) (ci := 7) (v := .int (nI n)) (C := RX7) (T := TX7) (N := 25) hx hb hts (fun w h => List.mem_cons_of_mem _ (List.mem_append_right _ h)) hown hK hPr 0 rfl rfl 2 (by decide) (hts (Cond.fieldLink RX7 63 "JamDaysModel" "jars" "I") (List.mem_of_getElem? (i := 1) rfl)) (fun _ h9 => h9) rfl dX7_whichOf_6 ?_
  refine lv_icmp_ge (tgt := 90) hx hb dX7_whichOf_9 (by decide) (fun c_1 => ?_) (fun c_1 => ?_)
  · skip
    replace c_1 : n ≤ k := (nI_leI (a := n) (b := k) (by omega) (by omega)).mp c_1
    refine lv_iload_n hx hb dX7_whichOf_90 rfl (lv_at hl 1 rfl) ?_
    exact W.iret (v := acc) hx hb hr (fun t ht hW => ⟨⟨acc, (), rfl, (by rw [hac, show k = n by omega]), trivial⟩, hS.F ht⟩) hS.2.2 dX7_whichOf_91
  · skip
    replace c_1 : ¬ n ≤ k := fun h => c_1 ((nI_leI (a := n) (b := k) (by omega) (by omega)).mpr h)
    refine lv_iconst (v := 1) hx hb dX7_whichOf_12 (by decide) ?_
    refine lv_istore_n (lv' := [(3, .int 1), (0, .ref z), (1, .int acc), (2, .int (nI k))]) hx hb dX7_whichOf_13 rfl hl (by decide) rfl (fun ls hl => ?_)
    refine lv_iconst (v := 0) hx hb dX7_whichOf_14 (by decide) ?_
    refine lv_istore (lv' := [(4, .int 0), (3, .int 1), (0, .ref z), (1, .int acc), (2, .int (nI k))]) hx hb dX7_whichOf_15 hl (by decide) rfl (fun ls hl => ?_)
    refine jloop (α := Nat × Int32) (fun (x9 : Nat × Int32) (H : Heap) (locs : List Loc) (ls : Array Slot) => match x9 with | (i, b9) => (va_P D vwCl [(z, .inr (7, [a0, a1, .int (nI n), a3, a4, a5, a6, a7, .ref zr, a9, a10, a11, .int (nI tn), .ref zt, a14, a15, a16, a17, a18, a19, a20, a21, a22, a23, a24])), (zr, .inl (cI, 30, .inl Rw)), (zt, .inl (cI, 12, .inl Tt))] H) ∧ (va_S A s.heap H locs) ∧ (lv_has ls 5 [(0, .ref z), (1, .int acc), (2, .int (nI k)), (3, .int b9), (4, .int (nI i))]) ∧ (i ≤ tn) ∧ (b9 = (if jag (mfi Rw) k (fun i => Tt (2 * i)) (fun i => Tt (2 * i + 1)) i then 1 else 0))) (fun (x9 : Nat × Int32) => match x9 with | (i, b9) => tn - i) (fun x9 H locs ls hx9 ih_17 => ?_) (0, 1) _ _ _ ⟨hPr, hS, lv_sub hl [2, 3, 4, 1, 0] rfl, (by omega), (by simp [jag])⟩
    obtain ⟨i, b9⟩ := x9
    obtain ⟨hPr, hS, hl, hi9, hb9⟩ := hx9
    refine lv_iload hx hb dX7_whichOf_17 (lv_at hl 4 rfl) ?_
    refine lv_aload_n hx hb dX7_whichOf_19 rfl (lv_at hl 0 rfl) ?_
    refine va_get (D := D) (ci := 7) (v := .int (nI tn)) (C := RX7) (T := TX7) (N := 25) hx hb hts (fun w h => List.mem_cons_of_mem _ (List.mem_append_right _ h)) hown hK hPr 0 rfl rfl 12 (by decide) (hts (Cond.fieldLink RX7 78 "JamDaysModel" "tastedMany" "I") (List.mem_of_getElem? (i := 2) rfl)) (fun _ h9 => h9) rfl dX7_whichOf_20 ?_
    refine lv_icmp_ge (tgt := 70) hx hb dX7_whichOf_23 (by decide) (fun c_2 => ?_) (fun c_2 => ?_)
    · skip
      replace c_2 : tn ≤ i := (nI_leI (a := tn) (b := i) (by omega) (by omega)).mp c_2
      refine lv_iload_n hx hb dX7_whichOf_70 rfl (lv_at hl 1 rfl) ?_
      refine lv_iload_n hx hb dX7_whichOf_71 rfl (lv_at hl 3 rfl) ?_
      refine lv_if_eq (tgt := 81) hx hb dX7_whichOf_72 (by decide) (fun c_3 => ?_) (fun c_3 => ?_)
      · skip
        refine lv_iconst (v := 0) hx hb dX7_whichOf_81 (by decide) ?_
        refine lv_ior hx hb dX7_whichOf_82 ?_
        refine lv_istore_n (lv' := [(1, .int (acc ||| 0)), (0, .ref z), (2, .int (nI k)), (3, .int b9), (4, .int (nI i))]) hx hb dX7_whichOf_83 rfl hl (by decide) rfl (fun ls hl => ?_)
        refine lv_iinc (v := nI (k + 1)) (lv' := [(2, .int (nI (k + 1))), (1, .int (acc ||| 0)), (0, .ref z), (3, .int b9), (4, .int (nI i))]) hx hb dX7_whichOf_84 hl (k := 2) rfl ((rfl : nI k + Int32.ofInt 1 = nI k + nI 1).trans (nI_add k 1)) (by decide) rfl (fun ls hl => ?_)
        refine lv_goto (tgt := 4) hx hb dX7_whichOf_87 (by decide) ?_
        exact ih_4 (k + 1, acc ||| 0) _ _ _ ⟨hPr, hS, lv_sub hl [2, 1, 0] rfl, (by omega), (by have hc9 := c_3; rw [hb9, show i = tn by omega] at hc9; rw [hac]; by_cases hq : jag (mfi Rw) k (fun i => Tt (2 * i)) (fun i => Tt (2 * i + 1)) tn = true <;> simp [jcan, hq] at hc9 ⊢)⟩ (by dsimp only; omega)
      · skip
        refine lv_iconst (v := 1) hx hb dX7_whichOf_75 (by decide) ?_
        refine lv_iload_n hx hb dX7_whichOf_76 rfl (lv_at hl 2 rfl) ?_
        refine lv_ishl hx hb dX7_whichOf_77 ?_
        refine lv_goto (tgt := 82) hx hb dX7_whichOf_78 (by decide) ?_
        refine lv_ior hx hb dX7_whichOf_82 ?_
        refine lv_istore_n (lv' := [(1, .int (acc ||| (1 <<< (nI k &&& 31)))), (0, .ref z), (2, .int (nI k)), (3, .int b9), (4, .int (nI i))]) hx hb dX7_whichOf_83 rfl hl (by decide) rfl (fun ls hl => ?_)
        refine lv_iinc (v := nI (k + 1)) (lv' := [(2, .int (nI (k + 1))), (1, .int (acc ||| (1 <<< (nI k &&& 31)))), (0, .ref z), (3, .int b9), (4, .int (nI i))]) hx hb dX7_whichOf_84 hl (k := 2) rfl ((rfl : nI k + Int32.ofInt 1 = nI k + nI 1).trans (nI_add k 1)) (by decide) rfl (fun ls hl => ?_)
        refine lv_goto (tgt := 4) hx hb dX7_whichOf_87 (by decide) ?_
        exact ih_4 (k + 1, acc ||| (1 <<< (nI k &&& 31))) _ _ _ ⟨hPr, hS, lv_sub hl [2, 1, 0] rfl, (by omega), (by have hc9 := c_3; rw [hb9, show i = tn by omega] at hc9; rw [hac]; by_cases hq : jag (mfi Rw) k (fun i => Tt (2 * i)) (fun i => Tt (2 * i + 1)) tn = true <;> simp [jcan, hq] at hc9 ⊢)⟩ (by dsimp only; omega)
    · skip
      replace c_2 : ¬ tn ≤ i := fun h => c_2 ((nI_leI (a := tn) (b := i) (by omega) (by omega)).mpr h)
      refine lv_iload_n hx hb dX7_whichOf_26 rfl (lv_at hl 3 rfl) ?_
      refine lv_if_eq (tgt := 62) hx hb dX7_whichOf_27 (by decide) (fun c_4 => ?_) (fun c_4 => ?_)
      · skip
        refine lv_iconst (v := 0) hx hb dX7_whichOf_62 (by decide) ?_
        refine lv_istore_n (lv' := [(3, .int 0), (0, .ref z), (1, .int acc), (2, .int (nI k)), (4, .int (nI i))]) hx hb dX7_whichOf_63 rfl hl (by decide) rfl (fun ls hl => ?_)
        refine lv_iinc (v := nI (i + 1)) (lv' := [(4, .int (nI (i + 1))), (3, .int 0), (0, .ref z), (1, .int acc), (2, .int (nI k))]) hx hb dX7_whichOf_64 hl (k := 4) rfl ((rfl : nI i + Int32.ofInt 1 = nI i + nI 1).trans (nI_add i 1)) (by decide) rfl (fun ls hl => ?_)
        refine lv_goto (tgt := 17) hx hb dX7_whichOf_67 (by decide) ?_
        exact ih_17 (i + 1, 0) _ _ _ ⟨hPr, hS, lv_sub hl [2, 3, 4, 1, 0] rfl, (by omega), (by have hc9 := c_4; rw [hb9] at hc9; by_cases hq : jag (mfi Rw) k (fun i => Tt (2 * i)) (fun i => Tt (2 * i + 1)) i = true <;> simp [jag, hq] at hc9 ⊢)⟩ (by dsimp only; omega)
      · skip
        refine lv_aload_n hx hb dX7_whichOf_30 rfl (lv_at hl 0 rfl) ?_
        refine lv_iload_n hx hb dX7_whichOf_31 rfl (lv_at hl 2 rfl) ?_
        refine lv_aload_n hx hb dX7_whichOf_32 rfl (lv_at hl 0 rfl) ?_
        refine va_get (D := D) (ci := 7) (v := .ref zt) (C := RX7) (T := TX7) (N := 25) hx hb hts (fun w h => List.mem_cons_of_mem _ (List.mem_append_right _ h)) hown hK hPr 0 rfl rfl 13 (by decide) (hts (Cond.fieldLink RX7 22 "JamDaysModel" "tastes" "[I") (List.mem_of_getElem? (i := 3) rfl)) (fun _ h9 => h9) rfl dX7_whichOf_33 ?_
        refine lv_iconst (v := 2) hx hb dX7_whichOf_36 (by decide) ?_
        refine lv_iload hx hb dX7_whichOf_37 (lv_at hl 4 rfl) ?_
        refine lv_imul hx hb dX7_whichOf_39 ?_
        refine jv_as (y := nI (2 * i)) (pk_mul 2 i) ?_
        refine jv_ald (k := 2 * i) hx hb hK hPr 2 0 rfl rfl (by omega) (by decide) dX7_whichOf_40 ?_
        have hPc_5 := hPr.sub (ws' := [(z, .inr (7, [a0, a1, .int (nI n), a3, a4, a5, a6, a7, .ref zr, a9, a10, a11, .int (nI tn), .ref zt, a14, a15, a16, a17, a18, a19, a20, a21, a22, a23, a24])), (zr, .inl (cI, 30, .inl Rw))]) [0, 1] rfl
        refine jcalli (va_runV (As := [.int (nI k), .int (Tt (2 * i))]) (rest := []) ⟨hx, hb, hml, hown, hts⟩ (c_firstIn l D cI cJ z zr a0 a1 (.int (nI n)) a3 a4 a5 a6 a7 a9 a10 a11 (.int (nI tn)) (.ref zt) a14 a15 a16 a17 a18 a19 a20 a21 a22 a23 a24 Rw k (Tt (2 * i)) (by omega) H.size) (cwV 2 hts gX7_whichOf_X7_firstIn rfl rfl rfl (by decide +kernel) ⟨Nat.le_of_ble_eq_true rfl, Nat.le_of_ble_eq_true rfl⟩) (jpreV hT (va_recv hK hPr (ci := 7) (q0 := 0) rfl rfl) hPc_5) rfl rfl hl.1 rfl (lv_room (Nat.le_of_ble_eq_true rfl)) dX7_whichOf_41 ⟨(Nat.zero_le _), (Nat.zero_le _)⟩) hS hA (fun r_6 H locs hw_r_6 hkq hS => ?_)
        try dsimp only at hw_r_6
        have hPr := jkeep hPr hkq
        subst hw_r_6
        refine lv_aload_n hx hb dX7_whichOf_44 rfl (lv_at hl 0 rfl) ?_
        refine va_get (D := D) (ci := 7) (v := .ref zt) (C := RX7) (T := TX7) (N := 25) hx hb hts (fun w h => List.mem_cons_of_mem _ (List.mem_append_right _ h)) hown hK hPr 0 rfl rfl 13 (by decide) (hts (Cond.fieldLink RX7 22 "JamDaysModel" "tastes" "[I") (List.mem_of_getElem? (i := 3) rfl)) (fun _ h9 => h9) rfl dX7_whichOf_45 ?_
        refine lv_iconst (v := 2) hx hb dX7_whichOf_48 (by decide) ?_
        refine lv_iload hx hb dX7_whichOf_49 (lv_at hl 4 rfl) ?_
        refine lv_imul hx hb dX7_whichOf_51 ?_
        refine jv_as (y := nI (2 * i)) (pk_mul 2 i) ?_
        refine lv_iconst (v := 1) hx hb dX7_whichOf_52 (by decide) ?_
        refine lv_iadd hx hb dX7_whichOf_53 ?_
        refine jv_as (y := nI ((2 * i) + 1)) (nI_add (2 * i) 1) ?_
        refine jv_ald (k := (2 * i) + 1) hx hb hK hPr 2 0 rfl rfl (by omega) (by decide) dX7_whichOf_54 ?_
        refine lv_icmp_ne (tgt := 62) hx hb dX7_whichOf_55 (by decide) (fun c_7 => ?_) (fun c_7 => ?_)
        · skip
          refine lv_iconst (v := 0) hx hb dX7_whichOf_62 (by decide) ?_
          refine lv_istore_n (lv' := [(3, .int 0), (0, .ref z), (1, .int acc), (2, .int (nI k)), (4, .int (nI i))]) hx hb dX7_whichOf_63 rfl hl (by decide) rfl (fun ls hl => ?_)
          refine lv_iinc (v := nI (i + 1)) (lv' := [(4, .int (nI (i + 1))), (3, .int 0), (0, .ref z), (1, .int acc), (2, .int (nI k))]) hx hb dX7_whichOf_64 hl (k := 4) rfl ((rfl : nI i + Int32.ofInt 1 = nI i + nI 1).trans (nI_add i 1)) (by decide) rfl (fun ls hl => ?_)
          refine lv_goto (tgt := 17) hx hb dX7_whichOf_67 (by decide) ?_
          exact ih_17 (i + 1, 0) _ _ _ ⟨hPr, hS, lv_sub hl [2, 3, 4, 1, 0] rfl, (by omega), (by have hc8 := c_4; have hc9 := c_7; rw [hb9] at hc8; by_cases hq : jag (mfi Rw) k (fun i => Tt (2 * i)) (fun i => Tt (2 * i + 1)) i = true <;> simp [jag, hq, hc9] at hc8 ⊢)⟩ (by dsimp only; omega)
        · skip
          refine lv_iconst (v := 1) hx hb dX7_whichOf_58 (by decide) ?_
          refine lv_goto (tgt := 63) hx hb dX7_whichOf_59 (by decide) ?_
          refine lv_istore_n (lv' := [(3, .int 1), (0, .ref z), (1, .int acc), (2, .int (nI k)), (4, .int (nI i))]) hx hb dX7_whichOf_63 rfl hl (by decide) rfl (fun ls hl => ?_)
          refine lv_iinc (v := nI (i + 1)) (lv' := [(4, .int (nI (i + 1))), (3, .int 1), (0, .ref z), (1, .int acc), (2, .int (nI k))]) hx hb dX7_whichOf_64 hl (k := 4) rfl ((rfl : nI i + Int32.ofInt 1 = nI i + nI 1).trans (nI_add i 1)) (by decide) rfl (fun ls hl => ?_)
          refine lv_goto (tgt := 17) hx hb dX7_whichOf_67 (by decide) ?_
          exact ih_17 (i + 1, 1) _ _ _ ⟨hPr, hS, lv_sub hl [2, 3, 4, 1, 0] rfl, (by omega), (by have hc8 := c_4; have hc9 := c_7; rw [hb9] at hc8; by_cases hq : jag (mfi Rw) k (fun i => Tt (2 * i)) (fun i => Tt (2 * i + 1)) i = true <;> simp [jag, hq, hc9] at hc8 ⊢)⟩ (by dsimp only; omega)

set_option maxHeartbeats 4000000 in
set_option maxRecDepth 100000 in
theorem c_mwhich_n (l : Launch) (D : va_G) (cI cJ : ClassId) (z : Nat) (n : Nat) (a0 : Value) (a1 : Value) (a3 : Value) (a4 : Value) (a5 : Value) (a6 : Value) (a7 : Value) (a8 : Value) (a9 : Value) (a10 : Value) (a11 : Value) (a12 : Value) (a13 : Value) (a14 : Value) (a15 : Value) (a16 : Value) (a17 : Value) (a18 : Value) (a19 : Value) (a20 : Value) (a21 : Value) (a22 : Value) (a23 : Value) (a24 : Value) (hn0 : n = 0) : jRi l yX7_which wsX7_which ({ frames := 1, cells := 0, slots := 0, locals := 20 }) [.ref z] D cI cJ (fun H => va_P D vwCl [(z, .inr (7, [a0, a1, .int (nI n), a3, a4, a5, a6, a7, a8, a9, a10, a11, a12, a13, a14, a15, a16, a17, a18, a19, a20, a21, a22, a23, a24]))] H) (fun r => r = -103) := by
  intro sz
  refine Met.ofW (cc := cX7_which) (maxL := 1) (ret := (some .int)) (by decide) rfl ?_
  intro p e s m args below meth c s₁ B hml hv
  obtain ⟨rfl, hsz, hT, hPr⟩ := hv
  have hK := hT.1
  have hx := B.exec
  have hb := B.bytes
  have hr := B.returns
  have hts := atoms_spec (ws := wsX7_which) B.pre
  have hown : s.vm.findClass RX7 = some m.cls := findClass_of_methodNamed B.named
  have hlocks := B.notSynchronized
  subst hsz
  generalize hAe : va_A [] s.heap.size = A
  have hA : ∀ q : Nat, s.heap.size ≤ q → A q := fun q h => by rw [← hAe]; exact Or.inr h
  have hS : va_S A s.heap s.heap [] := va_S.rf
  have hl := lv_entry ([.ref z] : List Value) (n := 1) (Nat.le_of_ble_eq_true rfl)
  rw [lg_entry_eq]
  generalize (lg_sl ([.ref z]) ++ List.replicate (1 - (lg_sl ([.ref z])).length) Slot.unset).toArray = ls at hl ⊢
  have hl : lv_has ls 1 [(0, .ref z)] := hl
  refine lv_aload_n hx hb dX7_which_0 rfl (lv_at hl 0 rfl) ?_
  have hPc_1 := hPr.sub (ws' := [(z, .inr (7, [a0, a1, .int (nI n), a3, a4, a5, a6, a7, a8, a9, a10, a11, a12, a13, a14, a15, a16, a17, a18, a19, a20, a21, a22, a23, a24]))]) [0] rfl
  refine jcalli (va_runV (As := []) (rest := []) ⟨hx, hb, hml, hown, hts⟩ (c_lacks_y l D cI cJ z n a0 a1 a3 a4 a5 a6 a7 a8 a9 a10 a11 a12 a13 a14 a15 a16 a17 a18 a19 a20 a21 a22 a23 a24 hn0 s.heap.size) (cwV 0 hts gX7_which_X7_lacks rfl rfl rfl (by decide +kernel) ⟨Nat.le_of_ble_eq_true rfl, Nat.le_of_ble_eq_true rfl⟩) (jpreV hT (va_recv hK hPr (ci := 7) (q0 := 0) rfl rfl) hPc_1) rfl rfl hl.1 rfl (lv_room (Nat.le_of_ble_eq_true rfl)) dX7_which_1 ⟨(Nat.zero_le _), (Nat.zero_le _)⟩) hS hA (fun r_2 H locs hw_r_2 hkq hS => ?_)
  try dsimp only at hw_r_2
  have hPr := jkeep hPr hkq
  subst hw_r_2
  refine lv_if_eq (tgt := 12) hx hb dX7_which_4 (by decide) (fun c_3 => ?_) (fun c_3 => ?_)
  · skip
    exact absurd c_3 (by decide)
  · skip
    refine lv_bipush (v := (-103)) hx hb dX7_which_7 (by decide) ?_
    refine lv_goto (tgt := 16) hx hb dX7_which_9 (by decide) ?_
    exact W.iret (v := (-103)) hx hb hr (fun t ht hW => ⟨⟨(-103), (), rfl, rfl, trivial⟩, hS.F ht⟩) hS.2.2 dX7_which_16

set_option maxHeartbeats 4000000 in
set_option maxRecDepth 100000 in
theorem c_mwhich (l : Launch) (D : va_G) (cI cJ : ClassId) (z : Nat) (zr : Nat) (zt : Nat) (n : Nat) (tn : Nat) (a0 : Value) (a1 : Value) (a3 : Value) (a4 : Value) (a5 : Value) (a6 : Value) (a7 : Value) (a9 : Value) (a10 : Value) (a11 : Value) (a14 : Value) (a15 : Value) (a16 : Value) (a17 : Value) (a18 : Value) (a19 : Value) (a20 : Value) (a21 : Value) (a22 : Value) (a23 : Value) (a24 : Value) (Rw : Nat → Int32) (Tt : Nat → Int32) (hn0 : 0 < n) (hn6 : n ≤ 6) (ht6 : tn ≤ 6) : jRi l yX7_which wsX7_which ({ frames := 3, cells := 0, slots := 0, locals := 73 }) [.ref z] D cI cJ (fun H => va_P D vwCl [(z, .inr (7, [a0, a1, .int (nI n), a3, a4, a5, a6, a7, .ref zr, a9, a10, a11, .int (nI tn), .ref zt, a14, a15, a16, a17, a18, a19, a20, a21, a22, a23, a24])), (zr, .inl (cI, 30, .inl Rw)), (zt, .inl (cI, 12, .inl Tt))] H) (fun r => r = jcan (fun j => jag (mfi Rw) j (fun i => Tt (2 * i)) (fun i => Tt (2 * i + 1)) tn) n) := by
  intro sz
  refine Met.ofW (cc := cX7_which) (maxL := 1) (ret := (some .int)) (by decide) rfl ?_
  intro p e s m args below meth c s₁ B hml hv
  obtain ⟨rfl, hsz, hT, hPr⟩ := hv
  have hK := hT.1
  have hx := B.exec
  have hb := B.bytes
  have hr := B.returns
  have hts := atoms_spec (ws := wsX7_which) B.pre
  have hown : s.vm.findClass RX7 = some m.cls := findClass_of_methodNamed B.named
  have hlocks := B.notSynchronized
  subst hsz
  generalize hAe : va_A [] s.heap.size = A
  have hA : ∀ q : Nat, s.heap.size ≤ q → A q := fun q h => by rw [← hAe]; exact Or.inr h
  have hS : va_S A s.heap s.heap [] := va_S.rf
  have hl := lv_entry ([.ref z] : List Value) (n := 1) (Nat.le_of_ble_eq_true rfl)
  rw [lg_entry_eq]
  generalize (lg_sl ([.ref z]) ++ List.replicate (1 - (lg_sl ([.ref z])).length) Slot.unset).toArray = ls at hl ⊢
  have hl : lv_has ls 1 [(0, .ref z)] := hl
  refine lv_aload_n hx hb dX7_which_0 rfl (lv_at hl 0 rfl) ?_
  have hPc_1 := hPr.sub (ws' := [(z, .inr (7, [a0, a1, .int (nI n), a3, a4, a5, a6, a7, .ref zr, a9, a10, a11, .int (nI tn), .ref zt, a14, a15, a16, a17, a18, a19, a20, a21, a22, a23, a24]))]) [0] rfl
  refine jcalli (va_runV (As := []) (rest := []) ⟨hx, hb, hml, hown, hts⟩ (c_lacks_n l D cI cJ z n a0 a1 a3 a4 a5 a6 a7 (.ref zr) a9 a10 a11 (.int (nI tn)) (.ref zt) a14 a15 a16 a17 a18 a19 a20 a21 a22 a23 a24 hn0 hn6 s.heap.size) (cwV 0 hts gX7_which_X7_lacks rfl rfl rfl (by decide +kernel) ⟨Nat.le_of_ble_eq_true rfl, Nat.le_of_ble_eq_true rfl⟩) (jpreV hT (va_recv hK hPr (ci := 7) (q0 := 0) rfl rfl) hPc_1) rfl rfl hl.1 rfl (lv_room (Nat.le_of_ble_eq_true rfl)) dX7_which_1 ⟨(Nat.zero_le _), (Nat.zero_le _)⟩) hS hA (fun r_2 H locs hw_r_2 hkq hS => ?_)
  try dsimp only at hw_r_2
  have hPr := jkeep hPr hkq
  subst hw_r_2
  refine lv_if_eq (tgt := 12) hx hb dX7_which_4 (by decide) (fun c_3 => ?_) (fun c_3 => ?_)
  · skip
    refine lv_aload_n hx hb dX7_which_12 rfl (lv_at hl 0 rfl) ?_
    have hPc_4 := hPr.sub (ws' := [(z, .inr (7, [a0, a1, .int (nI n), a3, a4, a5, a6, a7, .ref zr, a9, a10, a11, .int (nI tn), .ref zt, a14, a15, a16, a17, a18, a19, a20, a21, a22, a23, a24])), (zr, .inl (cI, 30, .inl Rw)), (zt, .inl (cI, 12, .inl Tt))]) [0, 1, 2] rfl
    refine jcalli (va_runV (As := []) (rest := []) ⟨hx, hb, hml, hown, hts⟩ (c_whichOf l D cI cJ z zr zt n tn a0 a1 a3 a4 a5 a6 a7 a9 a10 a11 a14 a15 a16 a17 a18 a19 a20 a21 a22 a23 a24 Rw Tt hn6 ht6 H.size) (cwV 0 hts gX7_which_X7_whichOf rfl rfl rfl (by decide +kernel) ⟨Nat.le_of_ble_eq_true rfl, Nat.le_of_ble_eq_true rfl⟩) (jpreV hT (va_recv hK hPr (ci := 7) (q0 := 0) rfl rfl) hPc_4) rfl rfl hl.1 rfl (lv_room (Nat.le_of_ble_eq_true rfl)) dX7_which_13 ⟨(Nat.zero_le _), (Nat.zero_le _)⟩) hS hA (fun r_5 H locs hw_r_5 hkq hS => ?_)
    try dsimp only at hw_r_5
    have hPr := jkeep hPr hkq
    subst hw_r_5
    exact W.iret (v := jcan (fun j => jag (mfi Rw) j (fun i => Tt (2 * i)) (fun i => Tt (2 * i + 1)) tn) n) hx hb hr (fun t ht hW => ⟨⟨jcan (fun j => jag (mfi Rw) j (fun i => Tt (2 * i)) (fun i => Tt (2 * i + 1)) tn) n, (), rfl, rfl, trivial⟩, hS.F ht⟩) hS.2.2 dX7_which_16
  · skip
    exact absurd c_3 (by decide)

set_option maxHeartbeats 4000000 in
set_option maxRecDepth 100000 in
theorem c_likeIn (l : Launch) (D : va_G) (cI cJ : ClassId) (z : Nat) (zr : Nat) (n : Nat) (a0 : Value) (a1 : Value) (a3 : Value) (a4 : Value) (a5 : Value) (a6 : Value) (a7 : Value) (a9 : Value) (a10 : Value) (a11 : Value) (a12 : Value) (a13 : Value) (a14 : Value) (a15 : Value) (a16 : Value) (a17 : Value) (a18 : Value) (a19 : Value) (a20 : Value) (a21 : Value) (a22 : Value) (a23 : Value) (a24 : Value) (Rw : Nat → Int32) (j : Nat) (o : Int32) (y0 : Int32) (hj : j < n) (hn6 : n ≤ 6) : jRi l yX7_likeIn wsX7_likeIn ({ frames := 2, cells := 0, slots := 0, locals := 49 }) [.ref z, .int o, .int (nI j), .int y0] D cI cJ (fun H => va_P D vwCl [(z, .inr (7, [a0, a1, .int (nI n), a3, a4, a5, a6, a7, .ref zr, a9, a10, a11, a12, a13, a14, a15, a16, a17, a18, a19, a20, a21, a22, a23, a24])), (zr, .inl (cI, 30, .inl Rw))] H) (fun r => r = jlk (mfi Rw) o j y0 n) := by
  intro sz
  refine Met.ofW (cc := cX7_likeIn) (maxL := 6) (ret := (some .int)) (by decide) rfl ?_
  intro p e s m args below meth c s₁ B hml hv
  obtain ⟨rfl, hsz, hT, hPr⟩ := hv
  have hK := hT.1
  have hx := B.exec
  have hb := B.bytes
  have hr := B.returns
  have hts := atoms_spec (ws := wsX7_likeIn) B.pre
  have hown : s.vm.findClass RX7 = some m.cls := findClass_of_methodNamed B.named
  have hlocks := B.notSynchronized
  subst hsz
  generalize hAe : va_A [] s.heap.size = A
  have hA : ∀ q : Nat, s.heap.size ≤ q → A q := fun q h => by rw [← hAe]; exact Or.inr h
  have hS : va_S A s.heap s.heap [] := va_S.rf
  have hl := lv_entry ([.ref z, .int o, .int (nI j), .int y0] : List Value) (n := 6) (Nat.le_of_ble_eq_true rfl)
  rw [lg_entry_eq]
  generalize (lg_sl ([.ref z, .int o, .int (nI j), .int y0]) ++ List.replicate (6 - (lg_sl ([.ref z, .int o, .int (nI j), .int y0])).length) Slot.unset).toArray = ls at hl ⊢
  have hl : lv_has ls 6 [(0, .ref z), (1, .int o), (2, .int (nI j)), (3, .int y0)] := hl
  refine lv_iconst (v := 0) hx hb dX7_likeIn_0 (by decide) ?_
  refine lv_istore (lv' := [(4, .int 0), (0, .ref z), (1, .int o), (2, .int (nI j)), (3, .int y0)]) hx hb dX7_likeIn_1 hl (by decide) rfl (fun ls hl => ?_)
  refine lv_iconst (v := 0) hx hb dX7_likeIn_3 (by decide) ?_
  refine lv_istore (lv' := [(5, .int 0), (4, .int 0), (0, .ref z), (1, .int o), (2, .int (nI j)), (3, .int y0)]) hx hb dX7_likeIn_4 hl (by decide) rfl (fun ls hl => ?_)
  refine jloop (α := Nat × Int32) (fun (x9 : Nat × Int32) (H : Heap) (locs : List Loc) (ls : Array Slot) => match x9 with | (k, acc) => (va_P D vwCl [(z, .inr (7, [a0, a1, .int (nI n), a3, a4, a5, a6, a7, .ref zr, a9, a10, a11, a12, a13, a14, a15, a16, a17, a18, a19, a20, a21, a22, a23, a24])), (zr, .inl (cI, 30, .inl Rw))] H) ∧ (va_S A s.heap H locs) ∧ (lv_has ls 6 [(0, .ref z), (1, .int o), (2, .int (nI j)), (3, .int y0), (4, .int acc), (5, .int (nI k))]) ∧ (k ≤ n) ∧ (acc = jlk (mfi Rw) o j y0 k)) (fun (x9 : Nat × Int32) => match x9 with | (k, acc) => n - k) (fun x9 H locs ls hx9 ih_6 => ?_) (0, 0) _ _ _ ⟨hPr, hS, lv_sub hl [2, 3, 4, 5, 1, 0] rfl, (by omega), rfl⟩
  obtain ⟨k, acc⟩ := x9
  obtain ⟨hPr, hS, hl, hk9, hac⟩ := hx9
  refine lv_iload hx hb dX7_likeIn_6 (lv_at hl 5 rfl) ?_
  refine lv_aload_n hx hb dX7_likeIn_8 rfl (lv_at hl 0 rfl) ?_
  refine va_get (D := D) (ci := 7) (v := .int (nI n)) (C := RX7) (T := TX7) (N := 25) hx hb hts (fun w h => List.mem_cons_of_mem _ (List.mem_append_right _ h)) hown hK hPr 0 rfl rfl 2 (by decide) (hts (Cond.fieldLink RX7 63 "JamDaysModel" "jars" "I") (List.mem_of_getElem? (i := 1) rfl)) (fun _ h9 => h9) rfl dX7_likeIn_9 ?_
  refine lv_icmp_ge (tgt := 57) hx hb dX7_likeIn_12 (by decide) (fun c_1 => ?_) (fun c_1 => ?_)
  · skip
    replace c_1 : n ≤ k := (nI_leI (a := n) (b := k) (by omega) (by omega)).mp c_1
    refine lv_iload hx hb dX7_likeIn_57 (lv_at hl 4 rfl) ?_
    exact W.iret (v := acc) hx hb hr (fun t ht hW => ⟨⟨acc, (), rfl, (by rw [hac, show k = n by omega]), trivial⟩, hS.F ht⟩) hS.2.2 dX7_likeIn_59
  · skip
    replace c_1 : ¬ n ≤ k := fun h => c_1 ((nI_leI (a := n) (b := k) (by omega) (by omega)).mpr h)
    refine lv_iload hx hb dX7_likeIn_15 (lv_at hl 4 rfl) ?_
    refine lv_iload_n hx hb dX7_likeIn_17 rfl (lv_at hl 1 rfl) ?_
    refine lv_iload hx hb dX7_likeIn_18 (lv_at hl 5 rfl) ?_
    refine lv_ishr hx hb dX7_likeIn_20 ?_
    refine lv_iconst (v := 1) hx hb dX7_likeIn_21 (by decide) ?_
    refine lv_iand hx hb dX7_likeIn_22 ?_
    refine lv_iconst (v := 1) hx hb dX7_likeIn_23 (by decide) ?_
    refine lv_icmp_ne (tgt := 47) hx hb dX7_likeIn_24 (by decide) (fun c_2 => ?_) (fun c_2 => ?_)
    · skip
      refine lv_iconst (v := 0) hx hb dX7_likeIn_47 (by decide) ?_
      refine lv_iadd hx hb dX7_likeIn_48 ?_
      refine lv_istore (lv' := [(4, .int (acc + 0)), (0, .ref z), (1, .int o), (2, .int (nI j)), (3, .int y0), (5, .int (nI k))]) hx hb dX7_likeIn_49 hl (by decide) rfl (fun ls hl => ?_)
      refine lv_iinc (v := nI (k + 1)) (lv' := [(5, .int (nI (k + 1))), (4, .int (acc + 0)), (0, .ref z), (1, .int o), (2, .int (nI j)), (3, .int y0)]) hx hb dX7_likeIn_51 hl (k := 5) rfl ((rfl : nI k + Int32.ofInt 1 = nI k + nI 1).trans (nI_add k 1)) (by decide) rfl (fun ls hl => ?_)
      refine lv_goto (tgt := 6) hx hb dX7_likeIn_54 (by decide) ?_
      exact ih_6 (k + 1, acc + 0) _ _ _ ⟨hPr, hS, lv_sub hl [2, 3, 4, 5, 1, 0] rfl, (by omega), (by rw [hac]; simp [jlk, jbit, c_2])⟩ (by dsimp only; omega)
    · skip
      refine lv_aload_n hx hb dX7_likeIn_27 rfl (lv_at hl 0 rfl) ?_
      refine lv_iload hx hb dX7_likeIn_28 (lv_at hl 5 rfl) ?_
      refine lv_iload_n hx hb dX7_likeIn_30 rfl (lv_at hl 3 rfl) ?_
      have hPc_3 := hPr.sub (ws' := [(z, .inr (7, [a0, a1, .int (nI n), a3, a4, a5, a6, a7, .ref zr, a9, a10, a11, a12, a13, a14, a15, a16, a17, a18, a19, a20, a21, a22, a23, a24])), (zr, .inl (cI, 30, .inl Rw))]) [0, 1] rfl
      refine jcalli (va_runV (As := [.int (nI k), .int y0]) (rest := [.int acc]) ⟨hx, hb, hml, hown, hts⟩ (c_firstIn l D cI cJ z zr a0 a1 (.int (nI n)) a3 a4 a5 a6 a7 a9 a10 a11 a12 a13 a14 a15 a16 a17 a18 a19 a20 a21 a22 a23 a24 Rw k y0 (by omega) H.size) (cwV 2 hts gX7_likeIn_X7_firstIn rfl rfl rfl (by decide +kernel) ⟨Nat.le_of_ble_eq_true rfl, Nat.le_of_ble_eq_true rfl⟩) (jpreV hT (va_recv hK hPr (ci := 7) (q0 := 0) rfl rfl) hPc_3) rfl rfl hl.1 rfl (lv_room (Nat.le_of_ble_eq_true rfl)) dX7_likeIn_31 ⟨(Nat.zero_le _), (Nat.zero_le _)⟩) hS hA (fun r_4 H locs hw_r_4 hkq hS => ?_)
      try dsimp only at hw_r_4
      have hPr := jkeep hPr hkq
      subst hw_r_4
      refine lv_aload_n hx hb dX7_likeIn_34 rfl (lv_at hl 0 rfl) ?_
      refine lv_iload_n hx hb dX7_likeIn_35 rfl (lv_at hl 2 rfl) ?_
      refine lv_iload_n hx hb dX7_likeIn_36 rfl (lv_at hl 3 rfl) ?_
      have hPc_5 := hPr.sub (ws' := [(z, .inr (7, [a0, a1, .int (nI n), a3, a4, a5, a6, a7, .ref zr, a9, a10, a11, a12, a13, a14, a15, a16, a17, a18, a19, a20, a21, a22, a23, a24])), (zr, .inl (cI, 30, .inl Rw))]) [0, 1] rfl
      refine jcalli (va_runV (As := [.int (nI j), .int y0]) (rest := [.int (mfi Rw k y0), .int acc]) ⟨hx, hb, hml, hown, hts⟩ (c_firstIn l D cI cJ z zr a0 a1 (.int (nI n)) a3 a4 a5 a6 a7 a9 a10 a11 a12 a13 a14 a15 a16 a17 a18 a19 a20 a21 a22 a23 a24 Rw j y0 (by omega) H.size) (cwV 2 hts gX7_likeIn_X7_firstIn rfl rfl rfl (by decide +kernel) ⟨Nat.le_of_ble_eq_true rfl, Nat.le_of_ble_eq_true rfl⟩) (jpreV hT (va_recv hK hPr (ci := 7) (q0 := 0) rfl rfl) hPc_5) rfl rfl hl.1 rfl (lv_room (Nat.le_of_ble_eq_true rfl)) dX7_likeIn_37 ⟨(Nat.zero_le _), (Nat.zero_le _)⟩) hS hA (fun r_6 H locs hw_r_6 hkq hS => ?_)
      try dsimp only at hw_r_6
      have hPr := jkeep hPr hkq
      subst hw_r_6
      refine lv_icmp_ne (tgt := 47) hx hb dX7_likeIn_40 (by decide) (fun c_7 => ?_) (fun c_7 => ?_)
      · skip
        refine lv_iconst (v := 0) hx hb dX7_likeIn_47 (by decide) ?_
        refine lv_iadd hx hb dX7_likeIn_48 ?_
        refine lv_istore (lv' := [(4, .int (acc + 0)), (0, .ref z), (1, .int o), (2, .int (nI j)), (3, .int y0), (5, .int (nI k))]) hx hb dX7_likeIn_49 hl (by decide) rfl (fun ls hl => ?_)
        refine lv_iinc (v := nI (k + 1)) (lv' := [(5, .int (nI (k + 1))), (4, .int (acc + 0)), (0, .ref z), (1, .int o), (2, .int (nI j)), (3, .int y0)]) hx hb dX7_likeIn_51 hl (k := 5) rfl ((rfl : nI k + Int32.ofInt 1 = nI k + nI 1).trans (nI_add k 1)) (by decide) rfl (fun ls hl => ?_)
        refine lv_goto (tgt := 6) hx hb dX7_likeIn_54 (by decide) ?_
        exact ih_6 (k + 1, acc + 0) _ _ _ ⟨hPr, hS, lv_sub hl [2, 3, 4, 5, 1, 0] rfl, (by omega), (by rw [hac]; simp [jlk, jbit, c_2, c_7])⟩ (by dsimp only; omega)
      · skip
        refine lv_iconst (v := 1) hx hb dX7_likeIn_43 (by decide) ?_
        refine lv_goto (tgt := 48) hx hb dX7_likeIn_44 (by decide) ?_
        refine lv_iadd hx hb dX7_likeIn_48 ?_
        refine lv_istore (lv' := [(4, .int (acc + 1)), (0, .ref z), (1, .int o), (2, .int (nI j)), (3, .int y0), (5, .int (nI k))]) hx hb dX7_likeIn_49 hl (by decide) rfl (fun ls hl => ?_)
        refine lv_iinc (v := nI (k + 1)) (lv' := [(5, .int (nI (k + 1))), (4, .int (acc + 1)), (0, .ref z), (1, .int o), (2, .int (nI j)), (3, .int y0)]) hx hb dX7_likeIn_51 hl (k := 5) rfl ((rfl : nI k + Int32.ofInt 1 = nI k + nI 1).trans (nI_add k 1)) (by decide) rfl (fun ls hl => ?_)
        refine lv_goto (tgt := 6) hx hb dX7_likeIn_54 (by decide) ?_
        exact ih_6 (k + 1, acc + 1) _ _ _ ⟨hPr, hS, lv_sub hl [2, 3, 4, 5, 1, 0] rfl, (by omega), (by rw [hac]; simp [jlk, jbit, c_2, c_7])⟩ (by dsimp only; omega)

theorem jlk_nn (fw : Nat → Int32 → Int32) (o : Int32) (j : Nat) (y : Int32) : ∀ k : Nat, ∃ q : Nat, q ≤ k ∧ jlk fw o j y k = nI q
  | 0 => ⟨0, Nat.le_refl 0, rfl⟩
  | k + 1 => by
    obtain ⟨q, h1, h2⟩ := jlk_nn fw o j y k
    unfold jlk
    split
    · exact ⟨q + 1, by omega, by rw [h2]; exact nI_1 q⟩
    · exact ⟨q, by omega, h2⟩
theorem jlw_nn (fw : Nat → Int32 → Int32) (o : Int32) (n : Nat) (y : Int32) : ∀ k : Nat, ∃ q : Nat, q ≤ n ∧ jlw fw o n y k = nI q
  | 0 => ⟨0, Nat.zero_le n, rfl⟩
  | k + 1 => by
    obtain ⟨q, h1, h2⟩ := jlw_nn fw o n y k
    unfold jlw
    split
    · split
      · exact jlk_nn fw o k y n
      · exact ⟨q, h1, h2⟩
    · exact ⟨q, h1, h2⟩
theorem jlw_0 {fw : Nat → Int32 → Int32} {o : Int32} {n : Nat} {y : Int32} {k : Nat} (hn : n ≤ 6) : (0 : Int32) ≤ jlw fw o n y k := by
  obtain ⟨q, h1, h2⟩ := jlw_nn fw o n y k
  rw [h2]
  exact nI_pos' (by omega)
set_option maxHeartbeats 4000000 in
set_option maxRecDepth 100000 in
theorem c_tryOf (l : Launch) (D : va_G) (cI cJ : ClassId) (z : Nat) (zr : Nat) (zt : Nat) (n : Nat) (tn : Nat) (a0 : Value) (a1 : Value) (a4 : Value) (a5 : Value) (a6 : Value) (a7 : Value) (a9 : Value) (a10 : Value) (a11 : Value) (a14 : Value) (a15 : Value) (a16 : Value) (a17 : Value) (a18 : Value) (a19 : Value) (a20 : Value) (a21 : Value) (a22 : Value) (a23 : Value) (a24 : Value) (Rw : Nat → Int32) (Tt : Nat → Int32) (y : Int32) (hn6 : n ≤ 6) (ht6 : tn ≤ 6) : jRi l yX7_tryOf wsX7_tryOf ({ frames := 3, cells := 0, slots := 0, locals := 74 }) [.ref z] D cI cJ (fun H => va_P D vwCl [(z, .inr (7, [a0, a1, .int (nI n), .int y, a4, a5, a6, a7, .ref zr, a9, a10, a11, .int (nI tn), .ref zt, a14, a15, a16, a17, a18, a19, a20, a21, a22, a23, a24])), (zr, .inl (cI, 30, .inl Rw)), (zt, .inl (cI, 12, .inl Tt))] H) (fun r => r = (if jcan (fun j => jag (mfi Rw) j (fun i => Tt (2 * i)) (fun i => Tt (2 * i + 1)) tn) n = 0 then -1 else jtf (fun i => jlw (mfi Rw) (jcan (fun j => jag (mfi Rw) j (fun i => Tt (2 * i)) (fun i => Tt (2 * i + 1)) tn) n) n (y + nI i) n) 10)) := by
  intro sz
  refine Met.ofW (cc := cX7_tryOf) (maxL := 8) (ret := (some .int)) (by decide) rfl ?_
  intro p e s m args below meth c s₁ B hml hv
  obtain ⟨rfl, hsz, hT, hPr⟩ := hv
  have hK := hT.1
  have hx := B.exec
  have hb := B.bytes
  have hr := B.returns
  have hts := atoms_spec (ws := wsX7_tryOf) B.pre
  have hown : s.vm.findClass RX7 = some m.cls := findClass_of_methodNamed B.named
  have hlocks := B.notSynchronized
  subst hsz
  generalize hAe : va_A [] s.heap.size = A
  have hA : ∀ q : Nat, s.heap.size ≤ q → A q := fun q h => by rw [← hAe]; exact Or.inr h
  have hS : va_S A s.heap s.heap [] := va_S.rf
  have hl := lv_entry ([.ref z] : List Value) (n := 8) (Nat.le_of_ble_eq_true rfl)
  rw [lg_entry_eq]
  generalize (lg_sl ([.ref z]) ++ List.replicate (8 - (lg_sl ([.ref z])).length) Slot.unset).toArray = ls at hl ⊢
  have hl : lv_has ls 8 [(0, .ref z)] := hl
  refine lv_aload_n hx hb dX7_tryOf_0 rfl (lv_at hl 0 rfl) ?_
  have hPc_1 := hPr.sub (ws' := [(z, .inr (7, [a0, a1, .int (nI n), .int y, a4, a5, a6, a7, .ref zr, a9, a10, a11, .int (nI tn), .ref zt, a14, a15, a16, a17, a18, a19, a20, a21, a22, a23, a24])), (zr, .inl (cI, 30, .inl Rw)), (zt, .inl (cI, 12, .inl Tt))]) [0, 1, 2] rfl
  refine jcalli (va_runV (As := []) (rest := []) ⟨hx, hb, hml, hown, hts⟩ (c_whichOf l D cI cJ z zr zt n tn a0 a1 (.int y) a4 a5 a6 a7 a9 a10 a11 a14 a15 a16 a17 a18 a19 a20 a21 a22 a23 a24 Rw Tt hn6 ht6 s.heap.size) (cwV 0 hts gX7_tryOf_X7_whichOf rfl rfl rfl (by decide +kernel) ⟨Nat.le_of_ble_eq_true rfl, Nat.le_of_ble_eq_true rfl⟩) (jpreV hT (va_recv hK hPr (ci := 7) (q0 := 0) rfl rfl) hPc_1) rfl rfl hl.1 rfl (lv_room (Nat.le_of_ble_eq_true rfl)) dX7_tryOf_1 ⟨(Nat.zero_le _), (Nat.zero_le _)⟩) hS hA (fun r_2 H locs hw_r_2 hkq hS => ?_)
  try dsimp only at hw_r_2
  have hPr := jkeep hPr hkq
  subst hw_r_2
  refine lv_istore_n (lv' := [(1, .int (jcan (fun j => jag (mfi Rw) j (fun i => Tt (2 * i)) (fun i => Tt (2 * i + 1)) tn) n)), (0, .ref z)]) hx hb dX7_tryOf_4 rfl hl (by decide) rfl (fun ls hl => ?_)
  refine lv_iconst (v := (-1)) hx hb dX7_tryOf_5 (by decide) ?_
  refine lv_istore_n (lv' := [(2, .int (-1)), (1, .int (jcan (fun j => jag (mfi Rw) j (fun i => Tt (2 * i)) (fun i => Tt (2 * i + 1)) tn) n)), (0, .ref z)]) hx hb dX7_tryOf_6 rfl hl (by decide) rfl (fun ls hl => ?_)
  refine lv_bipush (v := 7) hx hb dX7_tryOf_7 (by decide) ?_
  refine lv_istore_n (lv' := [(3, .int 7), (2, .int (-1)), (1, .int (jcan (fun j => jag (mfi Rw) j (fun i => Tt (2 * i)) (fun i => Tt (2 * i + 1)) tn) n)), (0, .ref z)]) hx hb dX7_tryOf_9 rfl hl (by decide) rfl (fun ls hl => ?_)
  refine lv_iconst (v := 0) hx hb dX7_tryOf_10 (by decide) ?_
  refine lv_istore (lv' := [(4, .int 0), (3, .int 7), (2, .int (-1)), (1, .int (jcan (fun j => jag (mfi Rw) j (fun i => Tt (2 * i)) (fun i => Tt (2 * i + 1)) tn) n)), (0, .ref z)]) hx hb dX7_tryOf_11 hl (by decide) rfl (fun ls hl => ?_)
  refine jloop (α := Nat × Int32 × Int32) (fun (x9 : Nat × Int32 × Int32) (H : Heap) (locs : List Loc) (ls : Array Slot) => match x9 with | (k, f, w) => (va_P D vwCl [(z, .inr (7, [a0, a1, .int (nI n), .int y, a4, a5, a6, a7, .ref zr, a9, a10, a11, .int (nI tn), .ref zt, a14, a15, a16, a17, a18, a19, a20, a21, a22, a23, a24])), (zr, .inl (cI, 30, .inl Rw)), (zt, .inl (cI, 12, .inl Tt))] H) ∧ (va_S A s.heap H locs) ∧ (lv_has ls 8 [(0, .ref z), (1, .int (jcan (fun j => jag (mfi Rw) j (fun i => Tt (2 * i)) (fun i => Tt (2 * i + 1)) tn) n)), (2, .int f), (3, .int w), (4, .int (nI k))]) ∧ (k ≤ 10) ∧ (f = jtf (fun i => jlw (mfi Rw) (jcan (fun j => jag (mfi Rw) j (fun i => Tt (2 * i)) (fun i => Tt (2 * i + 1)) tn) n) n (y + nI i) n) k) ∧ (w = jtw (fun i => jlw (mfi Rw) (jcan (fun j => jag (mfi Rw) j (fun i => Tt (2 * i)) (fun i => Tt (2 * i + 1)) tn) n) n (y + nI i) n) k) ∧ (k = 0 ∨ ¬ jcan (fun j => jag (mfi Rw) j (fun i => Tt (2 * i)) (fun i => Tt (2 * i + 1)) tn) n = 0)) (fun (x9 : Nat × Int32 × Int32) => match x9 with | (k, f, w) => 10 - k) (fun x9 H locs ls hx9 ih_13 => ?_) (0, (-1), 7) _ _ _ ⟨hPr, hS, lv_sub hl [4, 3, 2, 1, 0] rfl, (by omega), rfl, rfl, (Or.inl rfl)⟩
  obtain ⟨k, f, w⟩ := x9
  obtain ⟨hPr, hS, hl, hk9, hfk, hwk, hz⟩ := hx9
  refine lv_iload hx hb dX7_tryOf_13 (lv_at hl 4 rfl) ?_
  refine lv_bipush (v := 10) hx hb dX7_tryOf_15 (by decide) ?_
  refine lv_icmp_ge (tgt := 123) hx hb dX7_tryOf_17 (by decide) (fun c_3 => ?_) (fun c_3 => ?_)
  · skip
    replace c_3 : 10 ≤ k := (nI_leI (a := 10) (b := k) (by omega) (by omega)).mp c_3
    refine lv_iload_n hx hb dX7_tryOf_123 rfl (lv_at hl 2 rfl) ?_
    exact W.iret (v := f) hx hb hr (fun t ht hW => ⟨⟨f, (), rfl, (by rw [if_neg (hz.resolve_left (by omega)), hfk, show k = 10 by omega]), trivial⟩, hS.F ht⟩) hS.2.2 dX7_tryOf_124
  · skip
    replace c_3 : ¬ 10 ≤ k := fun h => c_3 ((nI_leI (a := 10) (b := k) (by omega) (by omega)).mpr h)
    refine lv_iload_n hx hb dX7_tryOf_20 rfl (lv_at hl 1 rfl) ?_
    refine lv_if_eq (tgt := 123) hx hb dX7_tryOf_21 (by decide) (fun c_4 => ?_) (fun c_4 => ?_)
    · skip
      refine lv_iload_n hx hb dX7_tryOf_123 rfl (lv_at hl 2 rfl) ?_
      exact W.iret (v := f) hx hb hr (fun t ht hW => ⟨⟨f, (), rfl, (by rw [if_pos c_4, hfk, hz.resolve_right (fun h => h c_4)]; rfl), trivial⟩, hS.F ht⟩) hS.2.2 dX7_tryOf_124
    · skip
      have hz9 := c_4
      refine lv_iconst (v := 0) hx hb dX7_tryOf_24 (by decide) ?_
      refine lv_istore (lv' := [(5, .int 0), (0, .ref z), (1, .int (jcan (fun j => jag (mfi Rw) j (fun i => Tt (2 * i)) (fun i => Tt (2 * i + 1)) tn) n)), (2, .int f), (3, .int w), (4, .int (nI k))]) hx hb dX7_tryOf_25 hl (by decide) rfl (fun ls hl => ?_)
      refine lv_iconst (v := 0) hx hb dX7_tryOf_27 (by decide) ?_
      refine lv_istore (lv' := [(6, .int 0), (5, .int 0), (0, .ref z), (1, .int (jcan (fun j => jag (mfi Rw) j (fun i => Tt (2 * i)) (fun i => Tt (2 * i + 1)) tn) n)), (2, .int f), (3, .int w), (4, .int (nI k))]) hx hb dX7_tryOf_28 hl (by decide) rfl (fun ls hl => ?_)
      refine jloop (α := Nat × Int32) (fun (x9 : Nat × Int32) (H : Heap) (locs : List Loc) (ls : Array Slot) => match x9 with | (i, ws) => (va_P D vwCl [(z, .inr (7, [a0, a1, .int (nI n), .int y, a4, a5, a6, a7, .ref zr, a9, a10, a11, .int (nI tn), .ref zt, a14, a15, a16, a17, a18, a19, a20, a21, a22, a23, a24])), (zr, .inl (cI, 30, .inl Rw)), (zt, .inl (cI, 12, .inl Tt))] H) ∧ (va_S A s.heap H locs) ∧ (lv_has ls 8 [(0, .ref z), (1, .int (jcan (fun j => jag (mfi Rw) j (fun i => Tt (2 * i)) (fun i => Tt (2 * i + 1)) tn) n)), (2, .int f), (3, .int w), (4, .int (nI k)), (5, .int ws), (6, .int (nI i))]) ∧ (i ≤ n) ∧ (ws = jlw (mfi Rw) (jcan (fun j => jag (mfi Rw) j (fun i => Tt (2 * i)) (fun i => Tt (2 * i + 1)) tn) n) n (y + nI k) i)) (fun (x9 : Nat × Int32) => match x9 with | (i, ws) => n - i) (fun x9 H locs ls hx9 ih_30 => ?_) (0, 0) _ _ _ ⟨hPr, hS, lv_sub hl [2, 3, 4, 5, 6, 1, 0] rfl, (by omega), rfl⟩
      obtain ⟨i, ws⟩ := x9
      obtain ⟨hPr, hS, hl, hi9, hws⟩ := hx9
      refine lv_iload hx hb dX7_tryOf_30 (lv_at hl 6 rfl) ?_
      refine lv_aload_n hx hb dX7_tryOf_32 rfl (lv_at hl 0 rfl) ?_
      refine va_get (D := D) (ci := 7) (v := .int (nI n)) (C := RX7) (T := TX7) (N := 25) hx hb hts (fun w h => List.mem_cons_of_mem _ (List.mem_append_right _ h)) hown hK hPr 0 rfl rfl 2 (by decide) (hts (Cond.fieldLink RX7 63 "JamDaysModel" "jars" "I") (List.mem_of_getElem? (i := 1) rfl)) (fun _ h9 => h9) rfl dX7_tryOf_33 ?_
      refine lv_icmp_ge (tgt := 91) hx hb dX7_tryOf_36 (by decide) (fun c_5 => ?_) (fun c_5 => ?_)
      · skip
        replace c_5 : n ≤ i := (nI_leI (a := n) (b := i) (by omega) (by omega)).mp c_5
        obtain rfl : n = i := by omega
        refine lv_iload hx hb dX7_tryOf_91 (lv_at hl 5 rfl) ?_
        refine lv_iload_n hx hb dX7_tryOf_93 rfl (lv_at hl 3 rfl) ?_
        refine lv_icmp_ge (tgt := 102) hx hb dX7_tryOf_94 (by decide) (fun c_6 => ?_) (fun c_6 => ?_)
        · skip
          refine lv_iload_n hx hb dX7_tryOf_102 rfl (lv_at hl 2 rfl) ?_
          refine lv_istore_n (lv' := [(2, .int f), (0, .ref z), (1, .int (jcan (fun j => jag (mfi Rw) j (fun n => Tt (2 * n)) (fun n => Tt (2 * n + 1)) tn) n)), (3, .int w), (4, .int (nI k)), (5, .int ws), (6, .int (nI n))]) hx hb dX7_tryOf_103 rfl hl (by decide) rfl (fun ls hl => ?_)
          refine lv_iload hx hb dX7_tryOf_104 (lv_at hl 5 rfl) ?_
          refine lv_iload_n hx hb dX7_tryOf_106 rfl (lv_at hl 3 rfl) ?_
          refine lv_icmp_ge (tgt := 115) hx hb dX7_tryOf_107 (by decide) (fun c_7 => ?_) (fun c_7 => ?_)
          · skip
            refine lv_iload_n hx hb dX7_tryOf_115 rfl (lv_at hl 3 rfl) ?_
            refine lv_istore_n (lv' := [(3, .int w), (2, .int f), (0, .ref z), (1, .int (jcan (fun j => jag (mfi Rw) j (fun n => Tt (2 * n)) (fun n => Tt (2 * n + 1)) tn) n)), (4, .int (nI k)), (5, .int ws), (6, .int (nI n))]) hx hb dX7_tryOf_116 rfl hl (by decide) rfl (fun ls hl => ?_)
            refine lv_iinc (v := nI (k + 1)) (lv' := [(4, .int (nI (k + 1))), (3, .int w), (2, .int f), (0, .ref z), (1, .int (jcan (fun j => jag (mfi Rw) j (fun n => Tt (2 * n)) (fun n => Tt (2 * n + 1)) tn) n)), (5, .int ws), (6, .int (nI n))]) hx hb dX7_tryOf_117 hl (k := 4) rfl ((rfl : nI k + Int32.ofInt 1 = nI k + nI 1).trans (nI_add k 1)) (by decide) rfl (fun ls hl => ?_)
            refine lv_goto (tgt := 13) hx hb dX7_tryOf_120 (by decide) ?_
            exact ih_13 (k + 1, f, w) _ _ _ ⟨hPr, hS, lv_sub hl [3, 4, 2, 1, 0] rfl, (by omega), (by rw [jtf, if_pos (by show jtw _ _ ≤ jlw (mfi Rw) (jcan (fun j => jag (mfi Rw) j (fun i => Tt (2 * i)) (fun i => Tt (2 * i + 1)) tn) n) n (y + nI k) n; rw [← hwk, ← hws]; exact c_6)]; exact hfk), (by rw [jtw, if_pos (by show jtw _ _ ≤ jlw (mfi Rw) (jcan (fun j => jag (mfi Rw) j (fun i => Tt (2 * i)) (fun i => Tt (2 * i + 1)) tn) n) n (y + nI k) n; rw [← hwk, ← hws]; exact c_6)]; exact hwk), (Or.inr hz9)⟩ (by dsimp only; omega)
          · skip
            exact absurd c_6 c_7
        · skip
          refine lv_iload hx hb dX7_tryOf_97 (lv_at hl 4 rfl) ?_
          refine lv_goto (tgt := 103) hx hb dX7_tryOf_99 (by decide) ?_
          refine lv_istore_n (lv' := [(2, .int (nI k)), (0, .ref z), (1, .int (jcan (fun j => jag (mfi Rw) j (fun n => Tt (2 * n)) (fun n => Tt (2 * n + 1)) tn) n)), (3, .int w), (4, .int (nI k)), (5, .int ws), (6, .int (nI n))]) hx hb dX7_tryOf_103 rfl hl (by decide) rfl (fun ls hl => ?_)
          refine lv_iload hx hb dX7_tryOf_104 (lv_at hl 5 rfl) ?_
          refine lv_iload_n hx hb dX7_tryOf_106 rfl (lv_at hl 3 rfl) ?_
          refine lv_icmp_ge (tgt := 115) hx hb dX7_tryOf_107 (by decide) (fun c_8 => ?_) (fun c_8 => ?_)
          · skip
            exact absurd c_8 c_6
          · skip
            refine lv_iload hx hb dX7_tryOf_110 (lv_at hl 5 rfl) ?_
            refine lv_goto (tgt := 116) hx hb dX7_tryOf_112 (by decide) ?_
            refine lv_istore_n (lv' := [(3, .int ws), (2, .int (nI k)), (0, .ref z), (1, .int (jcan (fun j => jag (mfi Rw) j (fun n => Tt (2 * n)) (fun n => Tt (2 * n + 1)) tn) n)), (4, .int (nI k)), (5, .int ws), (6, .int (nI n))]) hx hb dX7_tryOf_116 rfl hl (by decide) rfl (fun ls hl => ?_)
            refine lv_iinc (v := nI (k + 1)) (lv' := [(4, .int (nI (k + 1))), (3, .int ws), (2, .int (nI k)), (0, .ref z), (1, .int (jcan (fun j => jag (mfi Rw) j (fun n => Tt (2 * n)) (fun n => Tt (2 * n + 1)) tn) n)), (5, .int ws), (6, .int (nI n))]) hx hb dX7_tryOf_117 hl (k := 4) rfl ((rfl : nI k + Int32.ofInt 1 = nI k + nI 1).trans (nI_add k 1)) (by decide) rfl (fun ls hl => ?_)
            refine lv_goto (tgt := 13) hx hb dX7_tryOf_120 (by decide) ?_
            exact ih_13 (k + 1, nI k, ws) _ _ _ ⟨hPr, hS, lv_sub hl [3, 4, 2, 1, 0] rfl, (by omega), (by rw [jtf, if_neg (by show ¬ jtw _ _ ≤ jlw (mfi Rw) (jcan (fun j => jag (mfi Rw) j (fun i => Tt (2 * i)) (fun i => Tt (2 * i + 1)) tn) n) n (y + nI k) n; rw [← hwk, ← hws]; exact c_6)]), (by rw [jtw, if_neg (by show ¬ jtw _ _ ≤ jlw (mfi Rw) (jcan (fun j => jag (mfi Rw) j (fun i => Tt (2 * i)) (fun i => Tt (2 * i + 1)) tn) n) n (y + nI k) n; rw [← hwk, ← hws]; exact c_6)]; exact hws), (Or.inr hz9)⟩ (by dsimp only; omega)
      · skip
        replace c_5 : ¬ n ≤ i := fun h => c_5 ((nI_leI (a := n) (b := i) (by omega) (by omega)).mpr h)
        refine lv_iload_n hx hb dX7_tryOf_39 rfl (lv_at hl 1 rfl) ?_
        refine lv_iload hx hb dX7_tryOf_40 (lv_at hl 6 rfl) ?_
        refine lv_ishr hx hb dX7_tryOf_42 ?_
        refine lv_iconst (v := 1) hx hb dX7_tryOf_43 (by decide) ?_
        refine lv_iand hx hb dX7_tryOf_44 ?_
        refine lv_iconst (v := 1) hx hb dX7_tryOf_45 (by decide) ?_
        refine lv_icmp_ne (tgt := 66) hx hb dX7_tryOf_46 (by decide) (fun c_9 => ?_) (fun c_9 => ?_)
        · skip
          refine lv_iconst (v := 0) hx hb dX7_tryOf_66 (by decide) ?_
          refine lv_istore (lv' := [(7, .int 0), (0, .ref z), (1, .int (jcan (fun j => jag (mfi Rw) j (fun i => Tt (2 * i)) (fun i => Tt (2 * i + 1)) tn) n)), (2, .int f), (3, .int w), (4, .int (nI k)), (5, .int ws), (6, .int (nI i))]) hx hb dX7_tryOf_67 hl (by decide) rfl (fun ls hl => ?_)
          refine lv_iload hx hb dX7_tryOf_69 (lv_at hl 0 rfl) ?_
          refine lv_iload hx hb dX7_tryOf_71 (lv_at hl 6 rfl) ?_
          refine lv_icmp_le (tgt := 81) hx hb dX7_tryOf_73 (by decide) (fun c_10 => ?_) (fun c_10 => ?_)
          · skip
            refine lv_iload hx hb dX7_tryOf_81 (lv_at hl 6 rfl) ?_
            refine lv_istore (lv' := [(5, .int ws), (7, .int 0), (0, .ref z), (1, .int (jcan (fun j => jag (mfi Rw) j (fun i => Tt (2 * i)) (fun i => Tt (2 * i + 1)) tn) n)), (2, .int f), (3, .int w), (4, .int (nI k)), (6, .int (nI i))]) hx hb dX7_tryOf_83 hl (by decide) rfl (fun ls hl => ?_)
            refine lv_iinc (v := nI (i + 1)) (lv' := [(6, .int (nI (i + 1))), (5, .int ws), (7, .int 0), (0, .ref z), (1, .int (jcan (fun j => jag (mfi Rw) j (fun i => Tt (2 * i)) (fun i => Tt (2 * i + 1)) tn) n)), (2, .int f), (3, .int w), (4, .int (nI k))]) hx hb dX7_tryOf_85 hl (k := 7) rfl ((rfl : nI i + Int32.ofInt 1 = nI i + nI 1).trans (nI_add i 1)) (by decide) rfl (fun ls hl => ?_)
            refine lv_goto (tgt := 30) hx hb dX7_tryOf_88 (by decide) ?_
            exact ih_30 (i + 1, ws) _ _ _ ⟨hPr, hS, lv_sub hl [3, 4, 5, 6, 7, 1, 0] rfl, (by omega), (by rw [hws]; simp [jlw, jbit, c_9])⟩ (by dsimp only; omega)
          · skip
            exact absurd (by rw [hws]; exact jlw_0 hn6) c_10
        · skip
          refine lv_aload_n hx hb dX7_tryOf_49 rfl (lv_at hl 0 rfl) ?_
          refine lv_iload_n hx hb dX7_tryOf_50 rfl (lv_at hl 1 rfl) ?_
          refine lv_iload hx hb dX7_tryOf_51 (lv_at hl 6 rfl) ?_
          refine lv_aload_n hx hb dX7_tryOf_53 rfl (lv_at hl 0 rfl) ?_
          refine va_get (D := D) (ci := 7) (v := .int y) (C := RX7) (T := TX7) (N := 25) hx hb hts (fun w h => List.mem_cons_of_mem _ (List.mem_append_right _ h)) hown hK hPr 0 rfl rfl 3 (by decide) (hts (Cond.fieldLink RX7 66 "JamDaysModel" "yearNow" "I") (List.mem_of_getElem? (i := 2) rfl)) (fun _ h9 => h9) rfl dX7_tryOf_54 ?_
          refine lv_iload hx hb dX7_tryOf_57 (lv_at hl 4 rfl) ?_
          refine lv_iadd hx hb dX7_tryOf_59 ?_
          have hPc_11 := hPr.sub (ws' := [(z, .inr (7, [a0, a1, .int (nI n), .int y, a4, a5, a6, a7, .ref zr, a9, a10, a11, .int (nI tn), .ref zt, a14, a15, a16, a17, a18, a19, a20, a21, a22, a23, a24])), (zr, .inl (cI, 30, .inl Rw))]) [0, 1] rfl
          refine jcalli (va_runV (As := [.int (jcan (fun j => jag (mfi Rw) j (fun i => Tt (2 * i)) (fun i => Tt (2 * i + 1)) tn) n), .int (nI i), .int (y + (nI k))]) (rest := []) ⟨hx, hb, hml, hown, hts⟩ (c_likeIn l D cI cJ z zr n a0 a1 (.int y) a4 a5 a6 a7 a9 a10 a11 (.int (nI tn)) (.ref zt) a14 a15 a16 a17 a18 a19 a20 a21 a22 a23 a24 Rw i (jcan (fun j => jag (mfi Rw) j (fun i => Tt (2 * i)) (fun i => Tt (2 * i + 1)) tn) n) (y + (nI k)) (by omega) hn6 H.size) (cwV 3 hts gX7_tryOf_X7_likeIn rfl rfl rfl (by decide +kernel) ⟨Nat.le_of_ble_eq_true rfl, Nat.le_of_ble_eq_true rfl⟩) (jpreV hT (va_recv hK hPr (ci := 7) (q0 := 0) rfl rfl) hPc_11) rfl rfl hl.1 rfl (lv_room (Nat.le_of_ble_eq_true rfl)) dX7_tryOf_60 ⟨(Nat.zero_le _), (Nat.zero_le _)⟩) hS hA (fun r_12 H locs hw_r_12 hkq hS => ?_)
          try dsimp only at hw_r_12
          have hPr := jkeep hPr hkq
          subst hw_r_12
          refine lv_goto (tgt := 67) hx hb dX7_tryOf_63 (by decide) ?_
          refine lv_istore (lv' := [(7, .int (jlk (mfi Rw) (jcan (fun j => jag (mfi Rw) j (fun i => Tt (2 * i)) (fun i => Tt (2 * i + 1)) tn) n) i (y + (nI k)) n)), (0, .ref z), (1, .int (jcan (fun j => jag (mfi Rw) j (fun i => Tt (2 * i)) (fun i => Tt (2 * i + 1)) tn) n)), (2, .int f), (3, .int w), (4, .int (nI k)), (5, .int ws), (6, .int (nI i))]) hx hb dX7_tryOf_67 hl (by decide) rfl (fun ls hl => ?_)
          refine lv_iload hx hb dX7_tryOf_69 (lv_at hl 0 rfl) ?_
          refine lv_iload hx hb dX7_tryOf_71 (lv_at hl 6 rfl) ?_
          refine lv_icmp_le (tgt := 81) hx hb dX7_tryOf_73 (by decide) (fun c_13 => ?_) (fun c_13 => ?_)
          · skip
            refine lv_iload hx hb dX7_tryOf_81 (lv_at hl 6 rfl) ?_
            refine lv_istore (lv' := [(5, .int ws), (7, .int (jlk (mfi Rw) (jcan (fun j => jag (mfi Rw) j (fun i => Tt (2 * i)) (fun i => Tt (2 * i + 1)) tn) n) i (y + (nI k)) n)), (0, .ref z), (1, .int (jcan (fun j => jag (mfi Rw) j (fun i => Tt (2 * i)) (fun i => Tt (2 * i + 1)) tn) n)), (2, .int f), (3, .int w), (4, .int (nI k)), (6, .int (nI i))]) hx hb dX7_tryOf_83 hl (by decide) rfl (fun ls hl => ?_)
            refine lv_iinc (v := nI (i + 1)) (lv' := [(6, .int (nI (i + 1))), (5, .int ws), (7, .int (jlk (mfi Rw) (jcan (fun j => jag (mfi Rw) j (fun i => Tt (2 * i)) (fun i => Tt (2 * i + 1)) tn) n) i (y + (nI k)) n)), (0, .ref z), (1, .int (jcan (fun j => jag (mfi Rw) j (fun i => Tt (2 * i)) (fun i => Tt (2 * i + 1)) tn) n)), (2, .int f), (3, .int w), (4, .int (nI k))]) hx hb dX7_tryOf_85 hl (k := 7) rfl ((rfl : nI i + Int32.ofInt 1 = nI i + nI 1).trans (nI_add i 1)) (by decide) rfl (fun ls hl => ?_)
            refine lv_goto (tgt := 30) hx hb dX7_tryOf_88 (by decide) ?_
            exact ih_30 (i + 1, ws) _ _ _ ⟨hPr, hS, lv_sub hl [3, 4, 5, 6, 7, 1, 0] rfl, (by omega), (by have hc9 := c_13; rw [hws] at hc9; rw [jlw, if_pos (by simp [jbit, c_9]), if_neg (fun h => jlt_le h hc9)]; exact hws)⟩ (by dsimp only; omega)
          · skip
            refine lv_iload hx hb dX7_tryOf_76 (lv_at hl 0 rfl) ?_
            refine lv_goto (tgt := 83) hx hb dX7_tryOf_78 (by decide) ?_
            refine lv_istore (lv' := [(5, .int (jlk (mfi Rw) (jcan (fun j => jag (mfi Rw) j (fun i => Tt (2 * i)) (fun i => Tt (2 * i + 1)) tn) n) i (y + (nI k)) n)), (7, .int (jlk (mfi Rw) (jcan (fun j => jag (mfi Rw) j (fun i => Tt (2 * i)) (fun i => Tt (2 * i + 1)) tn) n) i (y + (nI k)) n)), (0, .ref z), (1, .int (jcan (fun j => jag (mfi Rw) j (fun i => Tt (2 * i)) (fun i => Tt (2 * i + 1)) tn) n)), (2, .int f), (3, .int w), (4, .int (nI k)), (6, .int (nI i))]) hx hb dX7_tryOf_83 hl (by decide) rfl (fun ls hl => ?_)
            refine lv_iinc (v := nI (i + 1)) (lv' := [(6, .int (nI (i + 1))), (5, .int (jlk (mfi Rw) (jcan (fun j => jag (mfi Rw) j (fun i => Tt (2 * i)) (fun i => Tt (2 * i + 1)) tn) n) i (y + (nI k)) n)), (7, .int (jlk (mfi Rw) (jcan (fun j => jag (mfi Rw) j (fun i => Tt (2 * i)) (fun i => Tt (2 * i + 1)) tn) n) i (y + (nI k)) n)), (0, .ref z), (1, .int (jcan (fun j => jag (mfi Rw) j (fun i => Tt (2 * i)) (fun i => Tt (2 * i + 1)) tn) n)), (2, .int f), (3, .int w), (4, .int (nI k))]) hx hb dX7_tryOf_85 hl (k := 7) rfl ((rfl : nI i + Int32.ofInt 1 = nI i + nI 1).trans (nI_add i 1)) (by decide) rfl (fun ls hl => ?_)
            refine lv_goto (tgt := 30) hx hb dX7_tryOf_88 (by decide) ?_
            exact ih_30 (i + 1, jlk (mfi Rw) (jcan (fun j => jag (mfi Rw) j (fun i => Tt (2 * i)) (fun i => Tt (2 * i + 1)) tn) n) i (y + (nI k)) n) _ _ _ ⟨hPr, hS, lv_sub hl [3, 4, 5, 6, 7, 1, 0] rfl, (by omega), (by have hc9 := c_13; rw [hws] at hc9; rw [jlw, if_pos (by simp [jbit, c_9]), if_pos (jnle hc9)])⟩ (by dsimp only; omega)

set_option maxHeartbeats 4000000 in
set_option maxRecDepth 100000 in
theorem c_mtasteNext_n (l : Launch) (D : va_G) (cI cJ : ClassId) (z : Nat) (n : Nat) (a0 : Value) (a1 : Value) (a3 : Value) (a4 : Value) (a5 : Value) (a6 : Value) (a7 : Value) (a8 : Value) (a9 : Value) (a10 : Value) (a11 : Value) (a12 : Value) (a13 : Value) (a14 : Value) (a15 : Value) (a16 : Value) (a17 : Value) (a18 : Value) (a19 : Value) (a20 : Value) (a21 : Value) (a22 : Value) (a23 : Value) (a24 : Value) (hn0 : n = 0) : jRi l yX7_tasteNext wsX7_tasteNext ({ frames := 1, cells := 0, slots := 0, locals := 20 }) [.ref z] D cI cJ (fun H => va_P D vwCl [(z, .inr (7, [a0, a1, .int (nI n), a3, a4, a5, a6, a7, a8, a9, a10, a11, a12, a13, a14, a15, a16, a17, a18, a19, a20, a21, a22, a23, a24]))] H) (fun r => r = -103) := by
  intro sz
  refine Met.ofW (cc := cX7_tasteNext) (maxL := 1) (ret := (some .int)) (by decide) rfl ?_
  intro p e s m args below meth c s₁ B hml hv
  obtain ⟨rfl, hsz, hT, hPr⟩ := hv
  have hK := hT.1
  have hx := B.exec
  have hb := B.bytes
  have hr := B.returns
  have hts := atoms_spec (ws := wsX7_tasteNext) B.pre
  have hown : s.vm.findClass RX7 = some m.cls := findClass_of_methodNamed B.named
  have hlocks := B.notSynchronized
  subst hsz
  generalize hAe : va_A [] s.heap.size = A
  have hA : ∀ q : Nat, s.heap.size ≤ q → A q := fun q h => by rw [← hAe]; exact Or.inr h
  have hS : va_S A s.heap s.heap [] := va_S.rf
  have hl := lv_entry ([.ref z] : List Value) (n := 1) (Nat.le_of_ble_eq_true rfl)
  rw [lg_entry_eq]
  generalize (lg_sl ([.ref z]) ++ List.replicate (1 - (lg_sl ([.ref z])).length) Slot.unset).toArray = ls at hl ⊢
  have hl : lv_has ls 1 [(0, .ref z)] := hl
  refine lv_aload_n hx hb dX7_tasteNext_0 rfl (lv_at hl 0 rfl) ?_
  have hPc_1 := hPr.sub (ws' := [(z, .inr (7, [a0, a1, .int (nI n), a3, a4, a5, a6, a7, a8, a9, a10, a11, a12, a13, a14, a15, a16, a17, a18, a19, a20, a21, a22, a23, a24]))]) [0] rfl
  refine jcalli (va_runV (As := []) (rest := []) ⟨hx, hb, hml, hown, hts⟩ (c_lacks_y l D cI cJ z n a0 a1 a3 a4 a5 a6 a7 a8 a9 a10 a11 a12 a13 a14 a15 a16 a17 a18 a19 a20 a21 a22 a23 a24 hn0 s.heap.size) (cwV 0 hts gX7_tasteNext_X7_lacks rfl rfl rfl (by decide +kernel) ⟨Nat.le_of_ble_eq_true rfl, Nat.le_of_ble_eq_true rfl⟩) (jpreV hT (va_recv hK hPr (ci := 7) (q0 := 0) rfl rfl) hPc_1) rfl rfl hl.1 rfl (lv_room (Nat.le_of_ble_eq_true rfl)) dX7_tasteNext_1 ⟨(Nat.zero_le _), (Nat.zero_le _)⟩) hS hA (fun r_2 H locs hw_r_2 hkq hS => ?_)
  try dsimp only at hw_r_2
  have hPr := jkeep hPr hkq
  subst hw_r_2
  refine lv_if_eq (tgt := 12) hx hb dX7_tasteNext_4 (by decide) (fun c_3 => ?_) (fun c_3 => ?_)
  · skip
    exact absurd c_3 (by decide)
  · skip
    refine lv_bipush (v := (-103)) hx hb dX7_tasteNext_7 (by decide) ?_
    refine lv_goto (tgt := 16) hx hb dX7_tasteNext_9 (by decide) ?_
    exact W.iret (v := (-103)) hx hb hr (fun t ht hW => ⟨⟨(-103), (), rfl, rfl, trivial⟩, hS.F ht⟩) hS.2.2 dX7_tasteNext_16

set_option maxHeartbeats 4000000 in
set_option maxRecDepth 100000 in
theorem c_mtasteNext (l : Launch) (D : va_G) (cI cJ : ClassId) (z : Nat) (zr : Nat) (zt : Nat) (n : Nat) (tn : Nat) (a0 : Value) (a1 : Value) (a4 : Value) (a5 : Value) (a6 : Value) (a7 : Value) (a9 : Value) (a10 : Value) (a11 : Value) (a14 : Value) (a15 : Value) (a16 : Value) (a17 : Value) (a18 : Value) (a19 : Value) (a20 : Value) (a21 : Value) (a22 : Value) (a23 : Value) (a24 : Value) (Rw : Nat → Int32) (Tt : Nat → Int32) (y : Int32) (hn0 : 0 < n) (hn6 : n ≤ 6) (ht6 : tn ≤ 6) : jRi l yX7_tasteNext wsX7_tasteNext ({ frames := 4, cells := 0, slots := 0, locals := 101 }) [.ref z] D cI cJ (fun H => va_P D vwCl [(z, .inr (7, [a0, a1, .int (nI n), .int y, a4, a5, a6, a7, .ref zr, a9, a10, a11, .int (nI tn), .ref zt, a14, a15, a16, a17, a18, a19, a20, a21, a22, a23, a24])), (zr, .inl (cI, 30, .inl Rw)), (zt, .inl (cI, 12, .inl Tt))] H) (fun r => r = (if jcan (fun j => jag (mfi Rw) j (fun i => Tt (2 * i)) (fun i => Tt (2 * i + 1)) tn) n = 0 then -1 else jtf (fun i => jlw (mfi Rw) (jcan (fun j => jag (mfi Rw) j (fun i => Tt (2 * i)) (fun i => Tt (2 * i + 1)) tn) n) n (y + nI i) n) 10)) := by
  intro sz
  refine Met.ofW (cc := cX7_tasteNext) (maxL := 1) (ret := (some .int)) (by decide) rfl ?_
  intro p e s m args below meth c s₁ B hml hv
  obtain ⟨rfl, hsz, hT, hPr⟩ := hv
  have hK := hT.1
  have hx := B.exec
  have hb := B.bytes
  have hr := B.returns
  have hts := atoms_spec (ws := wsX7_tasteNext) B.pre
  have hown : s.vm.findClass RX7 = some m.cls := findClass_of_methodNamed B.named
  have hlocks := B.notSynchronized
  subst hsz
  generalize hAe : va_A [] s.heap.size = A
  have hA : ∀ q : Nat, s.heap.size ≤ q → A q := fun q h => by rw [← hAe]; exact Or.inr h
  have hS : va_S A s.heap s.heap [] := va_S.rf
  have hl := lv_entry ([.ref z] : List Value) (n := 1) (Nat.le_of_ble_eq_true rfl)
  rw [lg_entry_eq]
  generalize (lg_sl ([.ref z]) ++ List.replicate (1 - (lg_sl ([.ref z])).length) Slot.unset).toArray = ls at hl ⊢
  have hl : lv_has ls 1 [(0, .ref z)] := hl
  refine lv_aload_n hx hb dX7_tasteNext_0 rfl (lv_at hl 0 rfl) ?_
  have hPc_1 := hPr.sub (ws' := [(z, .inr (7, [a0, a1, .int (nI n), .int y, a4, a5, a6, a7, .ref zr, a9, a10, a11, .int (nI tn), .ref zt, a14, a15, a16, a17, a18, a19, a20, a21, a22, a23, a24]))]) [0] rfl
  refine jcalli (va_runV (As := []) (rest := []) ⟨hx, hb, hml, hown, hts⟩ (c_lacks_n l D cI cJ z n a0 a1 (.int y) a4 a5 a6 a7 (.ref zr) a9 a10 a11 (.int (nI tn)) (.ref zt) a14 a15 a16 a17 a18 a19 a20 a21 a22 a23 a24 hn0 hn6 s.heap.size) (cwV 0 hts gX7_tasteNext_X7_lacks rfl rfl rfl (by decide +kernel) ⟨Nat.le_of_ble_eq_true rfl, Nat.le_of_ble_eq_true rfl⟩) (jpreV hT (va_recv hK hPr (ci := 7) (q0 := 0) rfl rfl) hPc_1) rfl rfl hl.1 rfl (lv_room (Nat.le_of_ble_eq_true rfl)) dX7_tasteNext_1 ⟨(Nat.zero_le _), (Nat.zero_le _)⟩) hS hA (fun r_2 H locs hw_r_2 hkq hS => ?_)
  try dsimp only at hw_r_2
  have hPr := jkeep hPr hkq
  subst hw_r_2
  refine lv_if_eq (tgt := 12) hx hb dX7_tasteNext_4 (by decide) (fun c_3 => ?_) (fun c_3 => ?_)
  · skip
    refine lv_aload_n hx hb dX7_tasteNext_12 rfl (lv_at hl 0 rfl) ?_
    have hPc_4 := hPr.sub (ws' := [(z, .inr (7, [a0, a1, .int (nI n), .int y, a4, a5, a6, a7, .ref zr, a9, a10, a11, .int (nI tn), .ref zt, a14, a15, a16, a17, a18, a19, a20, a21, a22, a23, a24])), (zr, .inl (cI, 30, .inl Rw)), (zt, .inl (cI, 12, .inl Tt))]) [0, 1, 2] rfl
    refine jcalli (va_runV (As := []) (rest := []) ⟨hx, hb, hml, hown, hts⟩ (c_tryOf l D cI cJ z zr zt n tn a0 a1 a4 a5 a6 a7 a9 a10 a11 a14 a15 a16 a17 a18 a19 a20 a21 a22 a23 a24 Rw Tt y hn6 ht6 H.size) (cwV 0 hts gX7_tasteNext_X7_tryOf rfl rfl rfl (by decide +kernel) ⟨Nat.le_of_ble_eq_true rfl, Nat.le_of_ble_eq_true rfl⟩) (jpreV hT (va_recv hK hPr (ci := 7) (q0 := 0) rfl rfl) hPc_4) rfl rfl hl.1 rfl (lv_room (Nat.le_of_ble_eq_true rfl)) dX7_tasteNext_13 ⟨(Nat.zero_le _), (Nat.zero_le _)⟩) hS hA (fun r_5 H locs hw_r_5 hkq hS => ?_)
    try dsimp only at hw_r_5
    have hPr := jkeep hPr hkq
    subst hw_r_5
    exact W.iret (v := (if jcan (fun j => jag (mfi Rw) j (fun i => Tt (2 * i)) (fun i => Tt (2 * i + 1)) tn) n = 0 then -1 else jtf (fun i => jlw (mfi Rw) (jcan (fun j => jag (mfi Rw) j (fun i => Tt (2 * i)) (fun i => Tt (2 * i + 1)) tn) n) n (y + nI i) n) 10)) hx hb hr (fun t ht hW => ⟨⟨(if jcan (fun j => jag (mfi Rw) j (fun i => Tt (2 * i)) (fun i => Tt (2 * i + 1)) tn) n = 0 then -1 else jtf (fun i => jlw (mfi Rw) (jcan (fun j => jag (mfi Rw) j (fun i => Tt (2 * i)) (fun i => Tt (2 * i + 1)) tn) n) n (y + nI i) n) 10), (), rfl, rfl, trivial⟩, hS.F ht⟩) hS.2.2 dX7_tasteNext_16
  · skip
    exact absurd c_3 (by decide)

set_option maxHeartbeats 4000000 in
set_option maxRecDepth 100000 in
theorem c_countOf_out (l : Launch) (D : va_G) (cI cJ : ClassId) (z : Nat) (wh : Int32) (h8 : wh.toInt < 0 ∨ 10 < wh.toInt) : jRi l yX7_countOf wsX7_countOf ({ frames := 0, cells := 0, slots := 0, locals := 0 }) [.ref z, .int wh] D cI cJ (fun H => True) (fun r => r = -102) := by
  intro sz
  refine Met.ofW (cc := cX7_countOf) (maxL := 2) (ret := (some .int)) (by decide) rfl ?_
  intro p e s m args below meth c s₁ B hml hv
  obtain ⟨rfl, hsz, hT, _⟩ := hv
  have hK := hT.1
  have hx := B.exec
  have hb := B.bytes
  have hr := B.returns
  have hts := atoms_spec (ws := wsX7_countOf) B.pre
  have hown : s.vm.findClass RX7 = some m.cls := findClass_of_methodNamed B.named
  have hlocks := B.notSynchronized
  subst hsz
  generalize hAe : va_A [] s.heap.size = A
  have hA : ∀ q : Nat, s.heap.size ≤ q → A q := fun q h => by rw [← hAe]; exact Or.inr h
  have hS : va_S A s.heap s.heap [] := va_S.rf
  have hl := lv_entry ([.ref z, .int wh] : List Value) (n := 2) (Nat.le_of_ble_eq_true rfl)
  rw [lg_entry_eq]
  generalize (lg_sl ([.ref z, .int wh]) ++ List.replicate (2 - (lg_sl ([.ref z, .int wh])).length) Slot.unset).toArray = ls at hl ⊢
  have hl : lv_has ls 2 [(0, .ref z), (1, .int wh)] := hl
  refine lv_iload_n hx hb dX7_countOf_0 rfl (lv_at hl 1 rfl) ?_
  refine lv_tableOut (tgt := 119) hx hb dX7_countOf_1 h8 (by decide) ?_
  refine lv_bipush (v := (-102)) hx hb dX7_countOf_119 (by decide) ?_
  exact W.iret (v := (-102)) hx hb hr (fun t ht hW => ⟨⟨(-102), (), rfl, rfl, trivial⟩, hS.F ht⟩) hS.2.2 dX7_countOf_121

set_option maxHeartbeats 4000000 in
set_option maxRecDepth 100000 in
theorem c_countOf_ok (l : Launch) (D : va_G) (cI cJ : ClassId) (z : Nat) (zr : Nat) (n : Nat) (pn : Nat) (tn : Nat) (a0 : Value) (a10 : Value) (a11 : Value) (a13 : Value) (a14 : Value) (a15 : Value) (a16 : Value) (a17 : Value) (a18 : Value) (a19 : Value) (a20 : Value) (a21 : Value) (a22 : Value) (a23 : Value) (a24 : Value) (lr : Int32) (bd : Int32) (y : Int32) (ea : Int32) (lo : Int32) (jo : Int32) (Rw : Nat → Int32) (cq : Nat) (hn6 : n ≤ 6) (hc : cq < 11) : jRi l yX7_countOf wsX7_countOf ({ frames := 1, cells := 0, slots := 0, locals := 22 }) [.ref z, .int (nI cq)] D cI cJ (fun H => va_P D vwCl [(z, .inr (7, [a0, .int (nI pn), .int (nI n), .int y, .int jo, .int ea, .int lo, .int lr, .ref zr, .int bd, a10, a11, .int (nI tn), a13, a14, a15, a16, a17, a18, a19, a20, a21, a22, a23, a24])), (zr, .inl (cI, 30, .inl Rw))] H) (fun r => r = jct (nI n) y (msum Rw n) (jo + 2000) (jemp (fun k => Rw (5 * k + 3)) n) ea lo (nI tn) (nI pn) lr bd cq) := by
  intro sz
  refine Met.ofW (cc := cX7_countOf) (maxL := 2) (ret := (some .int)) (by decide) rfl ?_
  intro p e s m args below meth c s₁ B hml hv
  obtain ⟨rfl, hsz, hT, hPr⟩ := hv
  have hK := hT.1
  have hx := B.exec
  have hb := B.bytes
  have hr := B.returns
  have hts := atoms_spec (ws := wsX7_countOf) B.pre
  have hown : s.vm.findClass RX7 = some m.cls := findClass_of_methodNamed B.named
  have hlocks := B.notSynchronized
  subst hsz
  generalize hAe : va_A [] s.heap.size = A
  have hA : ∀ q : Nat, s.heap.size ≤ q → A q := fun q h => by rw [← hAe]; exact Or.inr h
  have hS : va_S A s.heap s.heap [] := va_S.rf
  have hl := lv_entry ([.ref z, .int (nI cq)] : List Value) (n := 2) (Nat.le_of_ble_eq_true rfl)
  rw [lg_entry_eq]
  generalize (lg_sl ([.ref z, .int (nI cq)]) ++ List.replicate (2 - (lg_sl ([.ref z, .int (nI cq)])).length) Slot.unset).toArray = ls at hl ⊢
  have hl : lv_has ls 2 [(0, .ref z), (1, .int (nI cq))] := hl
  rcases (show cq = 0 ∨ cq = 1 ∨ cq = 2 ∨ cq = 3 ∨ cq = 4 ∨ cq = 5 ∨ cq = 6 ∨ cq = 7 ∨ cq = 8 ∨ cq = 9 ∨ cq = 10 from by omega) with rfl | rfl | rfl | rfl | rfl | rfl | rfl | rfl | rfl | rfl | rfl
  · skip
    have hl : lv_has ls 2 [(0, .ref z), (1, .int 0)] := hl
    refine lv_iload_n hx hb dX7_countOf_0 rfl (lv_at hl 1 rfl) ?_
    refine lv_tableIn (off := 59) (tgt := 60) hx hb dX7_countOf_1 (by decide) (by decide) (by decide) (by decide) ?_
    refine lv_aload_n hx hb dX7_countOf_60 rfl (lv_at hl 0 rfl) ?_
    refine va_get (D := D) (ci := 7) (v := .int (nI n)) (C := RX7) (T := TX7) (N := 25) hx hb hts (fun w h => List.mem_cons_of_mem _ (List.mem_append_right _ h)) hown hK hPr 0 rfl rfl 2 (by decide) (hts (Cond.fieldLink RX7 63 "JamDaysModel" "jars" "I") (List.mem_of_getElem? (i := 1) rfl)) (fun _ h9 => h9) rfl dX7_countOf_61 ?_
    exact W.iret (v := nI n) hx hb hr (fun t ht hW => ⟨⟨nI n, (), rfl, rfl, trivial⟩, hS.F ht⟩) hS.2.2 dX7_countOf_64
  · skip
    have hl : lv_has ls 2 [(0, .ref z), (1, .int 1)] := hl
    refine lv_iload_n hx hb dX7_countOf_0 rfl (lv_at hl 1 rfl) ?_
    refine lv_tableIn (off := 64) (tgt := 65) hx hb dX7_countOf_1 (by decide) (by decide) (by decide) (by decide) ?_
    refine lv_aload_n hx hb dX7_countOf_65 rfl (lv_at hl 0 rfl) ?_
    refine va_get (D := D) (ci := 7) (v := .int y) (C := RX7) (T := TX7) (N := 25) hx hb hts (fun w h => List.mem_cons_of_mem _ (List.mem_append_right _ h)) hown hK hPr 0 rfl rfl 3 (by decide) (hts (Cond.fieldLink RX7 66 "JamDaysModel" "yearNow" "I") (List.mem_of_getElem? (i := 2) rfl)) (fun _ h9 => h9) rfl dX7_countOf_66 ?_
    exact W.iret (v := y) hx hb hr (fun t ht hW => ⟨⟨y, (), rfl, rfl, trivial⟩, hS.F ht⟩) hS.2.2 dX7_countOf_69
  · skip
    have hl : lv_has ls 2 [(0, .ref z), (1, .int 2)] := hl
    refine lv_iload_n hx hb dX7_countOf_0 rfl (lv_at hl 1 rfl) ?_
    refine lv_tableIn (off := 69) (tgt := 70) hx hb dX7_countOf_1 (by decide) (by decide) (by decide) (by decide) ?_
    refine lv_aload_n hx hb dX7_countOf_70 rfl (lv_at hl 0 rfl) ?_
    have hPc_1 := hPr.sub (ws' := [(z, .inr (7, [a0, .int (nI pn), .int (nI n), .int y, .int jo, .int ea, .int lo, .int lr, .ref zr, .int bd, a10, a11, .int (nI tn), a13, a14, a15, a16, a17, a18, a19, a20, a21, a22, a23, a24])), (zr, .inl (cI, 30, .inl Rw))]) [0, 1] rfl
    refine jcalli (va_runV (As := []) (rest := []) ⟨hx, hb, hml, hown, hts⟩ (c_spoonsAll l D cI cJ z zr n a0 (.int (nI pn)) (.int y) (.int jo) (.int ea) (.int lo) (.int lr) (.int bd) a10 a11 (.int (nI tn)) a13 a14 a15 a16 a17 a18 a19 a20 a21 a22 a23 a24 Rw hn6 s.heap.size) (cwV 0 hts gX7_countOf_X7_spoonsAll rfl rfl rfl (by decide +kernel) ⟨Nat.le_of_ble_eq_true rfl, Nat.le_of_ble_eq_true rfl⟩) (jpreV hT (va_recv hK hPr (ci := 7) (q0 := 0) rfl rfl) hPc_1) rfl rfl hl.1 rfl (lv_room (Nat.le_of_ble_eq_true rfl)) dX7_countOf_71 ⟨(Nat.zero_le _), (Nat.zero_le _)⟩) hS hA (fun r_2 H locs hw_r_2 hkq hS => ?_)
    try dsimp only at hw_r_2
    have hPr := jkeep hPr hkq
    subst hw_r_2
    exact W.iret (v := msum Rw n) hx hb hr (fun t ht hW => ⟨⟨msum Rw n, (), rfl, rfl, trivial⟩, hS.F ht⟩) hS.2.2 dX7_countOf_74
  · skip
    have hl : lv_has ls 2 [(0, .ref z), (1, .int 3)] := hl
    refine lv_iload_n hx hb dX7_countOf_0 rfl (lv_at hl 1 rfl) ?_
    refine lv_tableIn (off := 74) (tgt := 75) hx hb dX7_countOf_1 (by decide) (by decide) (by decide) (by decide) ?_
    refine lv_aload_n hx hb dX7_countOf_75 rfl (lv_at hl 0 rfl) ?_
    refine va_get (D := D) (ci := 7) (v := .int jo) (C := RX7) (T := TX7) (N := 25) hx hb hts (fun w h => List.mem_cons_of_mem _ (List.mem_append_right _ h)) hown hK hPr 0 rfl rfl 4 (by decide) (hts (Cond.fieldLink RX7 69 "JamDaysModel" "joy" "I") (List.mem_of_getElem? (i := 3) rfl)) (fun _ h9 => h9) rfl dX7_countOf_76 ?_
    refine lv_sipush (v := 2000) hx hb dX7_countOf_79 (by decide) ?_
    refine lv_iadd hx hb dX7_countOf_82 ?_
    exact W.iret (v := jo + 2000) hx hb hr (fun t ht hW => ⟨⟨jo + 2000, (), rfl, rfl, trivial⟩, hS.F ht⟩) hS.2.2 dX7_countOf_83
  · skip
    have hl : lv_has ls 2 [(0, .ref z), (1, .int 4)] := hl
    refine lv_iload_n hx hb dX7_countOf_0 rfl (lv_at hl 1 rfl) ?_
    refine lv_tableIn (off := 83) (tgt := 84) hx hb dX7_countOf_1 (by decide) (by decide) (by decide) (by decide) ?_
    refine lv_aload_n hx hb dX7_countOf_84 rfl (lv_at hl 0 rfl) ?_
    have hPc_3 := hPr.sub (ws' := [(z, .inr (7, [a0, .int (nI pn), .int (nI n), .int y, .int jo, .int ea, .int lo, .int lr, .ref zr, .int bd, a10, a11, .int (nI tn), a13, a14, a15, a16, a17, a18, a19, a20, a21, a22, a23, a24])), (zr, .inl (cI, 30, .inl Rw))]) [0, 1] rfl
    refine jcalli (va_runV (As := []) (rest := []) ⟨hx, hb, hml, hown, hts⟩ (c_emptyMany l D cI cJ z zr n a0 (.int (nI pn)) (.int y) (.int jo) (.int ea) (.int lo) (.int lr) (.int bd) a10 a11 (.int (nI tn)) a13 a14 a15 a16 a17 a18 a19 a20 a21 a22 a23 a24 Rw hn6 s.heap.size) (cwV 0 hts gX7_countOf_X7_emptyMany rfl rfl rfl (by decide +kernel) ⟨Nat.le_of_ble_eq_true rfl, Nat.le_of_ble_eq_true rfl⟩) (jpreV hT (va_recv hK hPr (ci := 7) (q0 := 0) rfl rfl) hPc_3) rfl rfl hl.1 rfl (lv_room (Nat.le_of_ble_eq_true rfl)) dX7_countOf_85 ⟨(Nat.zero_le _), (Nat.zero_le _)⟩) hS hA (fun r_4 H locs hw_r_4 hkq hS => ?_)
    try dsimp only at hw_r_4
    have hPr := jkeep hPr hkq
    subst hw_r_4
    exact W.iret (v := jemp (fun k => Rw (5 * k + 3)) n) hx hb hr (fun t ht hW => ⟨⟨jemp (fun k => Rw (5 * k + 3)) n, (), rfl, rfl, trivial⟩, hS.F ht⟩) hS.2.2 dX7_countOf_88
  · skip
    have hl : lv_has ls 2 [(0, .ref z), (1, .int 5)] := hl
    refine lv_iload_n hx hb dX7_countOf_0 rfl (lv_at hl 1 rfl) ?_
    refine lv_tableIn (off := 88) (tgt := 89) hx hb dX7_countOf_1 (by decide) (by decide) (by decide) (by decide) ?_
    refine lv_aload_n hx hb dX7_countOf_89 rfl (lv_at hl 0 rfl) ?_
    refine va_get (D := D) (ci := 7) (v := .int ea) (C := RX7) (T := TX7) (N := 25) hx hb hts (fun w h => List.mem_cons_of_mem _ (List.mem_append_right _ h)) hown hK hPr 0 rfl rfl 5 (by decide) (hts (Cond.fieldLink RX7 72 "JamDaysModel" "eaten" "I") (List.mem_of_getElem? (i := 4) rfl)) (fun _ h9 => h9) rfl dX7_countOf_90 ?_
    exact W.iret (v := ea) hx hb hr (fun t ht hW => ⟨⟨ea, (), rfl, rfl, trivial⟩, hS.F ht⟩) hS.2.2 dX7_countOf_93
  · skip
    have hl : lv_has ls 2 [(0, .ref z), (1, .int 6)] := hl
    refine lv_iload_n hx hb dX7_countOf_0 rfl (lv_at hl 1 rfl) ?_
    refine lv_tableIn (off := 93) (tgt := 94) hx hb dX7_countOf_1 (by decide) (by decide) (by decide) (by decide) ?_
    refine lv_aload_n hx hb dX7_countOf_94 rfl (lv_at hl 0 rfl) ?_
    refine va_get (D := D) (ci := 7) (v := .int lo) (C := RX7) (T := TX7) (N := 25) hx hb hts (fun w h => List.mem_cons_of_mem _ (List.mem_append_right _ h)) hown hK hPr 0 rfl rfl 6 (by decide) (hts (Cond.fieldLink RX7 75 "JamDaysModel" "taken" "I") (List.mem_of_getElem? (i := 5) rfl)) (fun _ h9 => h9) rfl dX7_countOf_95 ?_
    exact W.iret (v := lo) hx hb hr (fun t ht hW => ⟨⟨lo, (), rfl, rfl, trivial⟩, hS.F ht⟩) hS.2.2 dX7_countOf_98
  · skip
    have hl : lv_has ls 2 [(0, .ref z), (1, .int 7)] := hl
    refine lv_iload_n hx hb dX7_countOf_0 rfl (lv_at hl 1 rfl) ?_
    refine lv_tableIn (off := 98) (tgt := 99) hx hb dX7_countOf_1 (by decide) (by decide) (by decide) (by decide) ?_
    refine lv_aload_n hx hb dX7_countOf_99 rfl (lv_at hl 0 rfl) ?_
    refine va_get (D := D) (ci := 7) (v := .int (nI tn)) (C := RX7) (T := TX7) (N := 25) hx hb hts (fun w h => List.mem_cons_of_mem _ (List.mem_append_right _ h)) hown hK hPr 0 rfl rfl 12 (by decide) (hts (Cond.fieldLink RX7 78 "JamDaysModel" "tastedMany" "I") (List.mem_of_getElem? (i := 6) rfl)) (fun _ h9 => h9) rfl dX7_countOf_100 ?_
    exact W.iret (v := nI tn) hx hb hr (fun t ht hW => ⟨⟨nI tn, (), rfl, rfl, trivial⟩, hS.F ht⟩) hS.2.2 dX7_countOf_103
  · skip
    have hl : lv_has ls 2 [(0, .ref z), (1, .int 8)] := hl
    refine lv_iload_n hx hb dX7_countOf_0 rfl (lv_at hl 1 rfl) ?_
    refine lv_tableIn (off := 103) (tgt := 104) hx hb dX7_countOf_1 (by decide) (by decide) (by decide) (by decide) ?_
    refine lv_aload_n hx hb dX7_countOf_104 rfl (lv_at hl 0 rfl) ?_
    refine va_get (D := D) (ci := 7) (v := .int (nI pn)) (C := RX7) (T := TX7) (N := 25) hx hb hts (fun w h => List.mem_cons_of_mem _ (List.mem_append_right _ h)) hown hK hPr 0 rfl rfl 1 (by decide) (hts (Cond.fieldLink RX7 44 "JamDaysModel" "pageMany" "I") (List.mem_of_getElem? (i := 7) rfl)) (fun _ h9 => h9) rfl dX7_countOf_105 ?_
    exact W.iret (v := nI pn) hx hb hr (fun t ht hW => ⟨⟨nI pn, (), rfl, rfl, trivial⟩, hS.F ht⟩) hS.2.2 dX7_countOf_108
  · skip
    have hl : lv_has ls 2 [(0, .ref z), (1, .int 9)] := hl
    refine lv_iload_n hx hb dX7_countOf_0 rfl (lv_at hl 1 rfl) ?_
    refine lv_tableIn (off := 108) (tgt := 109) hx hb dX7_countOf_1 (by decide) (by decide) (by decide) (by decide) ?_
    refine lv_aload_n hx hb dX7_countOf_109 rfl (lv_at hl 0 rfl) ?_
    refine va_get (D := D) (ci := 7) (v := .int lr) (C := RX7) (T := TX7) (N := 25) hx hb hts (fun w h => List.mem_cons_of_mem _ (List.mem_append_right _ h)) hown hK hPr 0 rfl rfl 7 (by decide) (hts (Cond.fieldLink RX7 81 "JamDaysModel" "lardersRead" "I") (List.mem_of_getElem? (i := 8) rfl)) (fun _ h9 => h9) rfl dX7_countOf_110 ?_
    exact W.iret (v := lr) hx hb hr (fun t ht hW => ⟨⟨lr, (), rfl, rfl, trivial⟩, hS.F ht⟩) hS.2.2 dX7_countOf_113
  · skip
    have hl : lv_has ls 2 [(0, .ref z), (1, .int 10)] := hl
    refine lv_iload_n hx hb dX7_countOf_0 rfl (lv_at hl 1 rfl) ?_
    refine lv_tableIn (off := 113) (tgt := 114) hx hb dX7_countOf_1 (by decide) (by decide) (by decide) (by decide) ?_
    refine lv_aload_n hx hb dX7_countOf_114 rfl (lv_at hl 0 rfl) ?_
    refine va_get (D := D) (ci := 7) (v := .int bd) (C := RX7) (T := TX7) (N := 25) hx hb hts (fun w h => List.mem_cons_of_mem _ (List.mem_append_right _ h)) hown hK hPr 0 rfl rfl 9 (by decide) (hts (Cond.fieldLink RX7 131 "JamDaysModel" "bestDone" "I") (List.mem_of_getElem? (i := 9) rfl)) (fun _ h9 => h9) rfl dX7_countOf_115 ?_
    exact W.iret (v := bd) hx hb hr (fun t ht hW => ⟨⟨bd, (), rfl, rfl, trivial⟩, hS.F ht⟩) hS.2.2 dX7_countOf_118

set_option maxHeartbeats 4000000 in
set_option maxRecDepth 100000 in
theorem c_mcount_out (l : Launch) (D : va_G) (cI cJ : ClassId) (z : Nat) (a0 : Value) (a1 : Value) (a2 : Value) (a3 : Value) (a4 : Value) (a5 : Value) (a6 : Value) (a7 : Value) (a8 : Value) (a9 : Value) (a10 : Value) (a11 : Value) (a12 : Value) (a13 : Value) (a14 : Value) (a15 : Value) (a16 : Value) (a17 : Value) (a18 : Value) (a19 : Value) (a20 : Value) (a21 : Value) (a22 : Value) (a23 : Value) (a24 : Value) (wh : Int32) (h8 : wh.toInt < 0 ∨ 10 < wh.toInt) : jRi l yX7_count wsX7_count ({ frames := 1, cells := 0, slots := 0, locals := 21 }) [.ref z, .int wh] D cI cJ (fun H => va_P D vwCl [(z, .inr (7, [a0, a1, a2, a3, a4, a5, a6, a7, a8, a9, a10, a11, a12, a13, a14, a15, a16, a17, a18, a19, a20, a21, a22, a23, a24]))] H) (fun r => r = -102) := by
  intro sz
  refine Met.ofW (cc := cX7_count) (maxL := 2) (ret := (some .int)) (by decide) rfl ?_
  intro p e s m args below meth c s₁ B hml hv
  obtain ⟨rfl, hsz, hT, hPr⟩ := hv
  have hK := hT.1
  have hx := B.exec
  have hb := B.bytes
  have hr := B.returns
  have hts := atoms_spec (ws := wsX7_count) B.pre
  have hown : s.vm.findClass RX7 = some m.cls := findClass_of_methodNamed B.named
  have hlocks := B.notSynchronized
  subst hsz
  generalize hAe : va_A [] s.heap.size = A
  have hA : ∀ q : Nat, s.heap.size ≤ q → A q := fun q h => by rw [← hAe]; exact Or.inr h
  have hS : va_S A s.heap s.heap [] := va_S.rf
  have hl := lv_entry ([.ref z, .int wh] : List Value) (n := 2) (Nat.le_of_ble_eq_true rfl)
  rw [lg_entry_eq]
  generalize (lg_sl ([.ref z, .int wh]) ++ List.replicate (2 - (lg_sl ([.ref z, .int wh])).length) Slot.unset).toArray = ls at hl ⊢
  have hl : lv_has ls 2 [(0, .ref z), (1, .int wh)] := hl
  refine lv_aload_n hx hb dX7_count_0 rfl (lv_at hl 0 rfl) ?_
  refine lv_iload_n hx hb dX7_count_1 rfl (lv_at hl 1 rfl) ?_
  refine jcalli (va_runV (As := [.int wh]) (rest := []) ⟨hx, hb, hml, hown, hts⟩ (c_countOf_out l D cI cJ z wh h8 s.heap.size) (cwV 1 hts gX7_count_X7_countOf rfl rfl rfl (by decide +kernel) ⟨Nat.le_of_ble_eq_true rfl, Nat.le_of_ble_eq_true rfl⟩) (jpreV hT (va_recv hK hPr (ci := 7) (q0 := 0) rfl rfl) trivial) rfl rfl hl.1 rfl (lv_room (Nat.le_of_ble_eq_true rfl)) dX7_count_2 ⟨(Nat.zero_le _), (Nat.zero_le _)⟩) hS hA (fun r_1 H locs hw_r_1 hkq hS => ?_)
  try dsimp only at hw_r_1
  have hPr := jkeep hPr hkq
  subst hw_r_1
  exact W.iret (v := (-102)) hx hb hr (fun t ht hW => ⟨⟨(-102), (), rfl, rfl, trivial⟩, hS.F ht⟩) hS.2.2 dX7_count_5

set_option maxHeartbeats 4000000 in
set_option maxRecDepth 100000 in
theorem c_mcount_ok (l : Launch) (D : va_G) (cI cJ : ClassId) (z : Nat) (zr : Nat) (n : Nat) (pn : Nat) (tn : Nat) (a0 : Value) (a10 : Value) (a11 : Value) (a13 : Value) (a14 : Value) (a15 : Value) (a16 : Value) (a17 : Value) (a18 : Value) (a19 : Value) (a20 : Value) (a21 : Value) (a22 : Value) (a23 : Value) (a24 : Value) (lr : Int32) (bd : Int32) (y : Int32) (ea : Int32) (lo : Int32) (jo : Int32) (Rw : Nat → Int32) (cq : Nat) (hn6 : n ≤ 6) (hc : cq < 11) : jRi l yX7_count wsX7_count ({ frames := 2, cells := 0, slots := 0, locals := 43 }) [.ref z, .int (nI cq)] D cI cJ (fun H => va_P D vwCl [(z, .inr (7, [a0, .int (nI pn), .int (nI n), .int y, .int jo, .int ea, .int lo, .int lr, .ref zr, .int bd, a10, a11, .int (nI tn), a13, a14, a15, a16, a17, a18, a19, a20, a21, a22, a23, a24])), (zr, .inl (cI, 30, .inl Rw))] H) (fun r => r = jct (nI n) y (msum Rw n) (jo + 2000) (jemp (fun k => Rw (5 * k + 3)) n) ea lo (nI tn) (nI pn) lr bd cq) := by
  intro sz
  refine Met.ofW (cc := cX7_count) (maxL := 2) (ret := (some .int)) (by decide) rfl ?_
  intro p e s m args below meth c s₁ B hml hv
  obtain ⟨rfl, hsz, hT, hPr⟩ := hv
  have hK := hT.1
  have hx := B.exec
  have hb := B.bytes
  have hr := B.returns
  have hts := atoms_spec (ws := wsX7_count) B.pre
  have hown : s.vm.findClass RX7 = some m.cls := findClass_of_methodNamed B.named
  have hlocks := B.notSynchronized
  subst hsz
  generalize hAe : va_A [] s.heap.size = A
  have hA : ∀ q : Nat, s.heap.size ≤ q → A q := fun q h => by rw [← hAe]; exact Or.inr h
  have hS : va_S A s.heap s.heap [] := va_S.rf
  have hl := lv_entry ([.ref z, .int (nI cq)] : List Value) (n := 2) (Nat.le_of_ble_eq_true rfl)
  rw [lg_entry_eq]
  generalize (lg_sl ([.ref z, .int (nI cq)]) ++ List.replicate (2 - (lg_sl ([.ref z, .int (nI cq)])).length) Slot.unset).toArray = ls at hl ⊢
  have hl : lv_has ls 2 [(0, .ref z), (1, .int (nI cq))] := hl
  refine lv_aload_n hx hb dX7_count_0 rfl (lv_at hl 0 rfl) ?_
  refine lv_iload_n hx hb dX7_count_1 rfl (lv_at hl 1 rfl) ?_
  have hPc_1 := hPr.sub (ws' := [(z, .inr (7, [a0, .int (nI pn), .int (nI n), .int y, .int jo, .int ea, .int lo, .int lr, .ref zr, .int bd, a10, a11, .int (nI tn), a13, a14, a15, a16, a17, a18, a19, a20, a21, a22, a23, a24])), (zr, .inl (cI, 30, .inl Rw))]) [0, 1] rfl
  refine jcalli (va_runV (As := [.int (nI cq)]) (rest := []) ⟨hx, hb, hml, hown, hts⟩ (c_countOf_ok l D cI cJ z zr n pn tn a0 a10 a11 a13 a14 a15 a16 a17 a18 a19 a20 a21 a22 a23 a24 lr bd y ea lo jo Rw cq hn6 hc s.heap.size) (cwV 1 hts gX7_count_X7_countOf rfl rfl rfl (by decide +kernel) ⟨Nat.le_of_ble_eq_true rfl, Nat.le_of_ble_eq_true rfl⟩) (jpreV hT (va_recv hK hPr (ci := 7) (q0 := 0) rfl rfl) hPc_1) rfl rfl hl.1 rfl (lv_room (Nat.le_of_ble_eq_true rfl)) dX7_count_2 ⟨(Nat.zero_le _), (Nat.zero_le _)⟩) hS hA (fun r_2 H locs hw_r_2 hkq hS => ?_)
  try dsimp only at hw_r_2
  have hPr := jkeep hPr hkq
  subst hw_r_2
  exact W.iret (v := jct (nI n) y (msum Rw n) (jo + 2000) (jemp (fun k => Rw (5 * k + 3)) n) ea lo (nI tn) (nI pn) lr bd cq) hx hb hr (fun t ht hW => ⟨⟨jct (nI n) y (msum Rw n) (jo + 2000) (jemp (fun k => Rw (5 * k + 3)) n) ea lo (nI tn) (nI pn) lr bd cq, (), rfl, rfl, trivial⟩, hS.F ht⟩) hS.2.2 dX7_count_5

