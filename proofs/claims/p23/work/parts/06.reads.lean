theorem jlt_le {a b : Int32} (h : a < b) (h2 : b ≤ a) : False := by rw [fa_lt] at h; rw [fa_le] at h2; omega
theorem jne {x a : Int32} {A : Int} (hA : a.toInt = A) (h : ¬ x = a) : ¬ A = x.toInt := fun e => h ((fa_eq x a).mpr (by rw [hA]; exact e.symm))
theorem jneN {n a : Nat} {A : Int} (hn : n < 2 ^ 31) (hA : A = (a : Int)) (h : ¬ n = a) : ¬ A = (nI n).toInt := by rw [nI_toInt hn, hA]; omega
/-- is it a jar's letter -/
def jkl (c : Int32) : Int32 := if c = 106 ∨ c = 119 ∨ c = 99 ∨ c = 112 ∨ c = 103 then 1 else 0
/-- has a larder this letter at place k, behind those ahead of it -/
def jft (k : Nat) (c : Int32) : Int32 := if 23 ≤ k then 0 else if k % 4 = 0 then jkl c else if k % 4 = 3 then (if c = 44 then 1 else 0) else (if c < 48 then 0 else if c ≤ 57 then 1 else 0)
theorem jkl_b (c : Int32) : jkl c = 0 ∨ jkl c = 1 := by unfold jkl; split <;> simp
theorem jft_b (k : Nat) (c : Int32) : jft k c = 0 ∨ jft k c = 1 := by
  unfold jft
  split
  · exact Or.inl rfl
  · split
    · exact jkl_b c
    · split <;> split <;> first | exact Or.inl rfl | exact Or.inr rfl | (split <;> first | exact Or.inl rfl | exact Or.inr rfl)
theorem jb_nar {r : Int32} (h : r = 0 ∨ r = 1) : narrow .boolean (.int r) = .int r := by rcases h with rfl | rfl <;> decide
set_option maxHeartbeats 4000000 in
set_option maxRecDepth 100000 in
theorem c_isKindLetter (l : Launch) (D : va_G) (cI cJ : ClassId) (p0 : Int32)  : jRi l yX6_isKindLetter wsX6_isKindLetter ({ frames := 0, cells := 0, slots := 0, locals := 0 }) [.int p0] D cI cJ (fun H => True) (fun r => r = jkl p0) := by
  intro sz
  refine Met.ofW (cc := cX6_isKindLetter) (maxL := 1) (ret := (some .boolean)) (by decide) rfl ?_
  intro p e s m args below meth c s₁ B hml hv
  obtain ⟨rfl, hsz, hT, _⟩ := hv
  have hK := hT.1
  have hx := B.exec
  have hb := B.bytes
  have hr := B.returns
  have hts := atoms_spec (ws := wsX6_isKindLetter) B.pre
  have hown : s.vm.findClass RX6 = some m.cls := findClass_of_methodNamed B.named
  have hlocks := B.notSynchronized
  subst hsz
  generalize hAe : va_A [] s.heap.size = A
  have hA : ∀ q : Nat, s.heap.size ≤ q → A q := fun q h => by rw [← hAe]; exact Or.inr h
  have hS : va_S A s.heap s.heap [] := va_S.rf
  have hl := lv_entry ([.int p0] : List Value) (n := 1) (Nat.le_of_ble_eq_true rfl)
  rw [lg_entry_eq]
  generalize (lg_sl ([.int p0]) ++ List.replicate (1 - (lg_sl ([.int p0])).length) Slot.unset).toArray = ls at hl ⊢
  have hl : lv_has ls 1 [(0, .int p0)] := hl
  refine lv_iload_n hx hb dX6_isKindLetter_0 rfl (lv_at hl 0 rfl) ?_
  refine lv_bipush (v := 106) hx hb dX6_isKindLetter_1 (by decide) ?_
  refine lv_icmp_eq (tgt := 30) hx hb dX6_isKindLetter_3 (by decide) (fun c_1 => ?_) (fun c_1 => ?_)
  · skip
    refine lv_iconst (v := 1) hx hb dX6_isKindLetter_30 (by decide) ?_
    refine lv_goto (tgt := 35) hx hb dX6_isKindLetter_31 (by decide) ?_
    exact W.zret (v := 1) hx hb hr (by decide) (fun t ht hW => ⟨⟨1, (), rfl, (by simp [jkl, c_1]), trivial⟩, hS.F ht⟩) hS.2.2 dX6_isKindLetter_35
  · skip
    refine lv_iload_n hx hb dX6_isKindLetter_6 rfl (lv_at hl 0 rfl) ?_
    refine lv_bipush (v := 119) hx hb dX6_isKindLetter_7 (by decide) ?_
    refine lv_icmp_eq (tgt := 30) hx hb dX6_isKindLetter_9 (by decide) (fun c_2 => ?_) (fun c_2 => ?_)
    · skip
      refine lv_iconst (v := 1) hx hb dX6_isKindLetter_30 (by decide) ?_
      refine lv_goto (tgt := 35) hx hb dX6_isKindLetter_31 (by decide) ?_
      exact W.zret (v := 1) hx hb hr (by decide) (fun t ht hW => ⟨⟨1, (), rfl, (by simp [jkl, c_1, c_2]), trivial⟩, hS.F ht⟩) hS.2.2 dX6_isKindLetter_35
    · skip
      refine lv_iload_n hx hb dX6_isKindLetter_12 rfl (lv_at hl 0 rfl) ?_
      refine lv_bipush (v := 99) hx hb dX6_isKindLetter_13 (by decide) ?_
      refine lv_icmp_eq (tgt := 30) hx hb dX6_isKindLetter_15 (by decide) (fun c_3 => ?_) (fun c_3 => ?_)
      · skip
        refine lv_iconst (v := 1) hx hb dX6_isKindLetter_30 (by decide) ?_
        refine lv_goto (tgt := 35) hx hb dX6_isKindLetter_31 (by decide) ?_
        exact W.zret (v := 1) hx hb hr (by decide) (fun t ht hW => ⟨⟨1, (), rfl, (by simp [jkl, c_1, c_2, c_3]), trivial⟩, hS.F ht⟩) hS.2.2 dX6_isKindLetter_35
      · skip
        refine lv_iload_n hx hb dX6_isKindLetter_18 rfl (lv_at hl 0 rfl) ?_
        refine lv_bipush (v := 112) hx hb dX6_isKindLetter_19 (by decide) ?_
        refine lv_icmp_eq (tgt := 30) hx hb dX6_isKindLetter_21 (by decide) (fun c_4 => ?_) (fun c_4 => ?_)
        · skip
          refine lv_iconst (v := 1) hx hb dX6_isKindLetter_30 (by decide) ?_
          refine lv_goto (tgt := 35) hx hb dX6_isKindLetter_31 (by decide) ?_
          exact W.zret (v := 1) hx hb hr (by decide) (fun t ht hW => ⟨⟨1, (), rfl, (by simp [jkl, c_1, c_2, c_3, c_4]), trivial⟩, hS.F ht⟩) hS.2.2 dX6_isKindLetter_35
        · skip
          refine lv_iload_n hx hb dX6_isKindLetter_24 rfl (lv_at hl 0 rfl) ?_
          refine lv_bipush (v := 103) hx hb dX6_isKindLetter_25 (by decide) ?_
          refine lv_icmp_ne (tgt := 34) hx hb dX6_isKindLetter_27 (by decide) (fun c_5 => ?_) (fun c_5 => ?_)
          · skip
            refine lv_iconst (v := 0) hx hb dX6_isKindLetter_34 (by decide) ?_
            exact W.zret (v := 0) hx hb hr (by decide) (fun t ht hW => ⟨⟨0, (), rfl, (by simp [jkl, c_1, c_2, c_3, c_4, c_5]), trivial⟩, hS.F ht⟩) hS.2.2 dX6_isKindLetter_35
          · skip
            refine lv_iconst (v := 1) hx hb dX6_isKindLetter_30 (by decide) ?_
            refine lv_goto (tgt := 35) hx hb dX6_isKindLetter_31 (by decide) ?_
            exact W.zret (v := 1) hx hb hr (by decide) (fun t ht hW => ⟨⟨1, (), rfl, (by simp [jkl, c_1, c_2, c_3, c_4, c_5]), trivial⟩, hS.F ht⟩) hS.2.2 dX6_isKindLetter_35

set_option maxHeartbeats 4000000 in
set_option maxRecDepth 100000 in
theorem c_fits (l : Launch) (D : va_G) (cI cJ : ClassId) (k : Nat) (p0 : Int32) (hk : k < 25) : jRi l yX6_fits wsX6_fits ({ frames := 1, cells := 0, slots := 0, locals := 20 }) [.int (nI k), .int p0] D cI cJ (fun H => True) (fun r => r = jft k p0) := by
  intro sz
  refine Met.ofW (cc := cX6_fits) (maxL := 2) (ret := (some .boolean)) (by decide) rfl ?_
  intro p e s m args below meth c s₁ B hml hv
  obtain ⟨rfl, hsz, hT, _⟩ := hv
  have hK := hT.1
  have hx := B.exec
  have hb := B.bytes
  have hr := B.returns
  have hts := atoms_spec (ws := wsX6_fits) B.pre
  have hown : s.vm.findClass RX6 = some m.cls := findClass_of_methodNamed B.named
  have hlocks := B.notSynchronized
  subst hsz
  generalize hAe : va_A [] s.heap.size = A
  have hA : ∀ q : Nat, s.heap.size ≤ q → A q := fun q h => by rw [← hAe]; exact Or.inr h
  have hS : va_S A s.heap s.heap [] := va_S.rf
  have hl := lv_entry ([.int (nI k), .int p0] : List Value) (n := 2) (Nat.le_of_ble_eq_true rfl)
  rw [lg_entry_eq]
  generalize (lg_sl ([.int (nI k), .int p0]) ++ List.replicate (2 - (lg_sl ([.int (nI k), .int p0])).length) Slot.unset).toArray = ls at hl ⊢
  have hl : lv_has ls 2 [(0, .int (nI k)), (1, .int p0)] := hl
  refine lv_iload_n hx hb dX6_fits_0 rfl (lv_at hl 0 rfl) ?_
  refine lv_if_lt (tgt := 10) hx hb dX6_fits_1 (by decide) (fun c_1 => ?_) (fun c_1 => ?_)
  · skip
    replace c_1 : k < 0 := (nI_ltI (a := k) (b := 0) (by omega) (by omega)).mp c_1
    exact absurd c_1 (by omega)
  · skip
    replace c_1 : ¬ k < 0 := fun h => c_1 ((nI_ltI (a := k) (b := 0) (by omega) (by omega)).mpr h)
    refine lv_iload_n hx hb dX6_fits_4 rfl (lv_at hl 0 rfl) ?_
    refine lv_bipush (v := 23) hx hb dX6_fits_5 (by decide) ?_
    refine lv_icmp_lt (tgt := 12) hx hb dX6_fits_7 (by decide) (fun c_2 => ?_) (fun c_2 => ?_)
    · skip
      replace c_2 : k < 23 := (nI_ltI (a := k) (b := 23) (by omega) (by omega)).mp c_2
      refine lv_iload_n hx hb dX6_fits_12 rfl (lv_at hl 0 rfl) ?_
      refine lv_iconst (v := 4) hx hb dX6_fits_13 (by decide) ?_
      refine lv_irem hx hb dX6_fits_14 (by decide) ?_
      refine jv_as (y := nI (k % 4)) (by rw [show (4 : Int32) = nI 4 from rfl]; exact pk_rem (by omega) (by omega) (by omega)) ?_
      by_cases c_3 : k % 4 = 0
      · skip
        refine lv_lookup (off := 25) (tgt := 40) hx hb dX6_fits_15 (by decide) (by rw [c_3]; decide) (by decide) ?_
        refine lv_iload_n hx hb dX6_fits_40 rfl (lv_at hl 1 rfl) ?_
        refine jcalli (va_runS (As := [.int p0]) (rest := []) ⟨hx, hb, hml, hown, hts⟩ (c_isKindLetter l D cI cJ p0 s.heap.size) (va_cwS 1 hts gX6_fits_X6_isKindLetter rfl rfl rfl (by decide +kernel) ⟨Nat.le_of_ble_eq_true rfl, Nat.le_of_ble_eq_true rfl⟩) (jpreS hT trivial) rfl rfl hl.1 rfl (lv_room (Nat.le_of_ble_eq_true rfl)) dX6_fits_41 ⟨(Nat.zero_le _), (Nat.zero_le _)⟩) hS hA (fun r_4 H locs hw_r_4 hkq hS => ?_)
        try dsimp only at hw_r_4
        subst hw_r_4
        exact W.zret (v := jkl p0) hx hb hr (jb_nar (jkl_b _)) (fun t ht hW => ⟨⟨jkl p0, (), rfl, (by simp [jft, show ¬ 23 ≤ k by omega, c_1, c_2, c_3]), trivial⟩, hS.F ht⟩) hS.2.2 dX6_fits_44
      by_cases c_5 : k % 4 = 3
      · skip
        refine lv_lookup (off := 30) (tgt := 45) hx hb dX6_fits_15 (by decide) (by rw [c_5]; decide) (by decide) ?_
        refine lv_iload_n hx hb dX6_fits_45 rfl (lv_at hl 1 rfl) ?_
        refine lv_bipush (v := 44) hx hb dX6_fits_46 (by decide) ?_
        refine lv_icmp_ne (tgt := 55) hx hb dX6_fits_48 (by decide) (fun c_6 => ?_) (fun c_6 => ?_)
        · skip
          refine lv_iconst (v := 0) hx hb dX6_fits_55 (by decide) ?_
          exact W.zret (v := 0) hx hb hr (by decide) (fun t ht hW => ⟨⟨0, (), rfl, (by simp [jft, show ¬ 23 ≤ k by omega, c_1, c_2, c_3, c_5, c_6]), trivial⟩, hS.F ht⟩) hS.2.2 dX6_fits_56
        · skip
          refine lv_iconst (v := 1) hx hb dX6_fits_51 (by decide) ?_
          refine lv_goto (tgt := 56) hx hb dX6_fits_52 (by decide) ?_
          exact W.zret (v := 1) hx hb hr (by decide) (fun t ht hW => ⟨⟨1, (), rfl, (by simp [jft, show ¬ 23 ≤ k by omega, c_1, c_2, c_3, c_5, c_6]), trivial⟩, hS.F ht⟩) hS.2.2 dX6_fits_56
      refine lv_lookup (off := 42) (tgt := 57) hx hb dX6_fits_15 (by decide) (by show Op.lookupswitch.offset [(0, 25), (3, 30)] 42 _ = 42; rw [Op.lookupswitch.offset_cons, if_neg (jneN (A := 0) (by omega) rfl c_3), Op.lookupswitch.offset_cons, if_neg (jneN (A := 3) (by omega) rfl c_5), Op.lookupswitch.offset_nil]) (by decide) ?_
      refine lv_iload_n hx hb dX6_fits_57 rfl (lv_at hl 1 rfl) ?_
      refine lv_bipush (v := 48) hx hb dX6_fits_58 (by decide) ?_
      refine lv_icmp_lt (tgt := 73) hx hb dX6_fits_60 (by decide) (fun c_7 => ?_) (fun c_7 => ?_)
      · skip
        refine lv_iconst (v := 0) hx hb dX6_fits_73 (by decide) ?_
        exact W.zret (v := 0) hx hb hr (by decide) (fun t ht hW => ⟨⟨0, (), rfl, (by simp [jft, show ¬ 23 ≤ k by omega, c_1, c_2, c_3, c_5, c_7]), trivial⟩, hS.F ht⟩) hS.2.2 dX6_fits_74
      · skip
        refine lv_iload_n hx hb dX6_fits_63 rfl (lv_at hl 1 rfl) ?_
        refine lv_bipush (v := 57) hx hb dX6_fits_64 (by decide) ?_
        refine lv_icmp_gt (tgt := 73) hx hb dX6_fits_66 (by decide) (fun c_8 => ?_) (fun c_8 => ?_)
        · skip
          refine lv_iconst (v := 0) hx hb dX6_fits_73 (by decide) ?_
          exact W.zret (v := 0) hx hb hr (by decide) (fun t ht hW => ⟨⟨0, (), rfl, (by simp [jft, show ¬ 23 ≤ k by omega, c_1, c_2, c_3, c_5, c_7, c_8]), trivial⟩, hS.F ht⟩) hS.2.2 dX6_fits_74
        · skip
          refine lv_iconst (v := 1) hx hb dX6_fits_69 (by decide) ?_
          refine lv_goto (tgt := 74) hx hb dX6_fits_70 (by decide) ?_
          exact W.zret (v := 1) hx hb hr (by decide) (fun t ht hW => ⟨⟨1, (), rfl, (by simp [jft, show ¬ 23 ≤ k by omega, c_1, c_2, c_3, c_5, c_7, c_8]), trivial⟩, hS.F ht⟩) hS.2.2 dX6_fits_74
    · skip
      replace c_2 : ¬ k < 23 := fun h => c_2 ((nI_ltI (a := k) (b := 23) (by omega) (by omega)).mpr h)
      refine lv_iconst (v := 0) hx hb dX6_fits_10 (by decide) ?_
      exact W.zret (v := 0) hx hb hr (by decide) (fun t ht hW => ⟨⟨0, (), rfl, (by simp [jft, show 23 ≤ k by omega]), trivial⟩, hS.F ht⟩) hS.2.2 dX6_fits_11

set_option maxHeartbeats 4000000 in
set_option maxRecDepth 100000 in
theorem c_isNoYear_y (l : Launch) (D : va_G) (cI cJ : ClassId) (p0 : Int32) (h9 : p0 < 0 ∨ 99 < p0) : jRi l yX6_isNoYear wsX6_isNoYear ({ frames := 0, cells := 0, slots := 0, locals := 0 }) [.int p0] D cI cJ (fun H => True) (fun r => r = 1) := by
  intro sz
  refine Met.ofW (cc := cX6_isNoYear) (maxL := 1) (ret := (some .boolean)) (by decide) rfl ?_
  intro p e s m args below meth c s₁ B hml hv
  obtain ⟨rfl, hsz, hT, _⟩ := hv
  have hK := hT.1
  have hx := B.exec
  have hb := B.bytes
  have hr := B.returns
  have hts := atoms_spec (ws := wsX6_isNoYear) B.pre
  have hown : s.vm.findClass RX6 = some m.cls := findClass_of_methodNamed B.named
  have hlocks := B.notSynchronized
  subst hsz
  generalize hAe : va_A [] s.heap.size = A
  have hA : ∀ q : Nat, s.heap.size ≤ q → A q := fun q h => by rw [← hAe]; exact Or.inr h
  have hS : va_S A s.heap s.heap [] := va_S.rf
  have hl := lv_entry ([.int p0] : List Value) (n := 1) (Nat.le_of_ble_eq_true rfl)
  rw [lg_entry_eq]
  generalize (lg_sl ([.int p0]) ++ List.replicate (1 - (lg_sl ([.int p0])).length) Slot.unset).toArray = ls at hl ⊢
  have hl : lv_has ls 1 [(0, .int p0)] := hl
  refine lv_iload_n hx hb dX6_isNoYear_0 rfl (lv_at hl 0 rfl) ?_
  refine lv_if_lt (tgt := 10) hx hb dX6_isNoYear_1 (by decide) (fun c_1 => ?_) (fun c_1 => ?_)
  · skip
    refine lv_iconst (v := 1) hx hb dX6_isNoYear_10 (by decide) ?_
    refine lv_goto (tgt := 15) hx hb dX6_isNoYear_11 (by decide) ?_
    exact W.zret (v := 1) hx hb hr (by decide) (fun t ht hW => ⟨⟨1, (), rfl, rfl, trivial⟩, hS.F ht⟩) hS.2.2 dX6_isNoYear_15
  · skip
    refine lv_iload_n hx hb dX6_isNoYear_4 rfl (lv_at hl 0 rfl) ?_
    refine lv_bipush (v := 99) hx hb dX6_isNoYear_5 (by decide) ?_
    refine lv_icmp_le (tgt := 14) hx hb dX6_isNoYear_7 (by decide) (fun c_2 => ?_) (fun c_2 => ?_)
    · skip
      exact (h9.elim (fun h => c_1 h) (fun h => jlt_le h c_2)).elim
    · skip
      refine lv_iconst (v := 1) hx hb dX6_isNoYear_10 (by decide) ?_
      refine lv_goto (tgt := 15) hx hb dX6_isNoYear_11 (by decide) ?_
      exact W.zret (v := 1) hx hb hr (by decide) (fun t ht hW => ⟨⟨1, (), rfl, rfl, trivial⟩, hS.F ht⟩) hS.2.2 dX6_isNoYear_15

set_option maxHeartbeats 4000000 in
set_option maxRecDepth 100000 in
theorem c_isNoYear_n (l : Launch) (D : va_G) (cI cJ : ClassId) (p0 : Int32) (h8 : ¬ p0 < 0) (h9 : p0 ≤ 99) : jRi l yX6_isNoYear wsX6_isNoYear ({ frames := 0, cells := 0, slots := 0, locals := 0 }) [.int p0] D cI cJ (fun H => True) (fun r => r = 0) := by
  intro sz
  refine Met.ofW (cc := cX6_isNoYear) (maxL := 1) (ret := (some .boolean)) (by decide) rfl ?_
  intro p e s m args below meth c s₁ B hml hv
  obtain ⟨rfl, hsz, hT, _⟩ := hv
  have hK := hT.1
  have hx := B.exec
  have hb := B.bytes
  have hr := B.returns
  have hts := atoms_spec (ws := wsX6_isNoYear) B.pre
  have hown : s.vm.findClass RX6 = some m.cls := findClass_of_methodNamed B.named
  have hlocks := B.notSynchronized
  subst hsz
  generalize hAe : va_A [] s.heap.size = A
  have hA : ∀ q : Nat, s.heap.size ≤ q → A q := fun q h => by rw [← hAe]; exact Or.inr h
  have hS : va_S A s.heap s.heap [] := va_S.rf
  have hl := lv_entry ([.int p0] : List Value) (n := 1) (Nat.le_of_ble_eq_true rfl)
  rw [lg_entry_eq]
  generalize (lg_sl ([.int p0]) ++ List.replicate (1 - (lg_sl ([.int p0])).length) Slot.unset).toArray = ls at hl ⊢
  have hl : lv_has ls 1 [(0, .int p0)] := hl
  refine lv_iload_n hx hb dX6_isNoYear_0 rfl (lv_at hl 0 rfl) ?_
  refine lv_if_lt (tgt := 10) hx hb dX6_isNoYear_1 (by decide) (fun c_1 => ?_) (fun c_1 => ?_)
  · skip
    exact absurd c_1 h8
  · skip
    refine lv_iload_n hx hb dX6_isNoYear_4 rfl (lv_at hl 0 rfl) ?_
    refine lv_bipush (v := 99) hx hb dX6_isNoYear_5 (by decide) ?_
    refine lv_icmp_le (tgt := 14) hx hb dX6_isNoYear_7 (by decide) (fun c_2 => ?_) (fun c_2 => ?_)
    · skip
      refine lv_iconst (v := 0) hx hb dX6_isNoYear_14 (by decide) ?_
      exact W.zret (v := 0) hx hb hr (by decide) (fun t ht hW => ⟨⟨0, (), rfl, rfl, trivial⟩, hS.F ht⟩) hS.2.2 dX6_isNoYear_15
    · skip
      exact absurd h9 c_2

def jbit (o : Int32) (i : Nat) : Bool := decide ((o >>> (nI i &&& 31)) &&& 1 = 1)
def jsd (q : Nat) : Nat := (1103515245 * q + 12345) % 2147483648
theorem jsd_lt (q : Nat) : jsd q < 2147483648 := Nat.mod_lt _ (by decide)
theorem jsd_eq {q : Nat} (h : q < 2147483648) : ((1103515245 : Int64) * (nI q).toInt64 + 12345 - ((1103515245 : Int64) * (nI q).toInt64 + 12345) / 2147483648 * 2147483648).toInt32 = nI (jsd q) := by
  rw [nI_l h, show (1103515245 : Int64) = lN 1103515245 from rfl, show (12345 : Int64) = lN 12345 from rfl, show (2147483648 : Int64) = lN 2147483648 from rfl, lN_mul, lN_add, pk_lRem (by omega) (by decide) (by decide), lN_i]
  rfl
theorem jdr_eq {q n : Nat} (h : q < 2147483648) (h0 : 0 < n) (hn : n ≤ 6) : ((nI q).toInt64 / 65536 - (nI q).toInt64 / 65536 / (nI n).toInt64 * (nI n).toInt64).toInt32 = nI (q / 65536 % n) := by
  rw [nI_l h, nI_l (show n < 2 ^ 31 by omega), show (65536 : Int64) = lN 65536 from rfl, pk_lDiv (by omega) (by decide) (by decide), pk_lRem (by omega) h0 (by omega), lN_i]
theorem jl_ne {n : Nat} (h0 : 0 < n) (hn : n ≤ 6) : ¬ (nI n).toInt64 = 0 := by
  rw [nI_l (show n < 2 ^ 31 by omega), show (0 : Int64) = lN 0 from rfl, lN_eq (by omega) (by omega)]
  omega
set_option maxHeartbeats 4000000 in
set_option maxRecDepth 100000 in
theorem c_nextSeed (l : Launch) (D : va_G) (cI cJ : ClassId) (q : Nat) (hq : q < 2147483648) : jRi l yX6_nextSeed wsX6_nextSeed ({ frames := 0, cells := 0, slots := 0, locals := 0 }) [.int (nI q)] D cI cJ (fun H => True) (fun r => r = nI (jsd q)) := by
  intro sz
  refine Met.ofW (cc := cX6_nextSeed) (maxL := 1) (ret := (some .int)) (by decide) rfl ?_
  intro p e s m args below meth c s₁ B hml hv
  obtain ⟨rfl, hsz, hT, _⟩ := hv
  have hK := hT.1
  have hx := B.exec
  have hb := B.bytes
  have hr := B.returns
  have hts := atoms_spec (ws := wsX6_nextSeed) B.pre
  have hown : s.vm.findClass RX6 = some m.cls := findClass_of_methodNamed B.named
  have hlocks := B.notSynchronized
  subst hsz
  generalize hAe : va_A [] s.heap.size = A
  have hA : ∀ q : Nat, s.heap.size ≤ q → A q := fun q h => by rw [← hAe]; exact Or.inr h
  have hS : va_S A s.heap s.heap [] := va_S.rf
  have hl := lv_entry ([.int (nI q)] : List Value) (n := 1) (Nat.le_of_ble_eq_true rfl)
  rw [lg_entry_eq]
  generalize (lg_sl ([.int (nI q)]) ++ List.replicate (1 - (lg_sl ([.int (nI q)])).length) Slot.unset).toArray = ls at hl ⊢
  have hl : lv_has ls 1 [(0, .int (nI q))] := hl
  refine lv_ldc2 (v := 1103515245) hx hb hown (hts (Cond.constantLong RX6 267 (1103515245)) (List.mem_of_getElem? (i := 1) rfl)) dX6_nextSeed_0 ?_
  refine lv_iload_n hx hb dX6_nextSeed_3 rfl (lv_at hl 0 rfl) ?_
  refine lv_i2l (v := (nI q).toInt64) hx hb dX6_nextSeed_4 rfl ?_
  refine lv_lmul hx hb dX6_nextSeed_5 ?_
  refine lv_ldc2 (v := 12345) hx hb hown (hts (Cond.constantLong RX6 269 (12345)) (List.mem_of_getElem? (i := 2) rfl)) dX6_nextSeed_6 ?_
  refine lv_ladd hx hb dX6_nextSeed_9 ?_
  refine lv_ldc2 (v := 2147483648) hx hb hown (hts (Cond.constantLong RX6 271 (2147483648)) (List.mem_of_getElem? (i := 3) rfl)) dX6_nextSeed_10 ?_
  refine lv_lrem hx hb dX6_nextSeed_13 (by decide) ?_
  refine lv_l2i (v := (((1103515245 * ((nI q).toInt64)) + 12345) - ((1103515245 * ((nI q).toInt64)) + 12345) / 2147483648 * 2147483648).toInt32) hx hb dX6_nextSeed_14 rfl ?_
  exact W.iret (v := (((1103515245 * ((nI q).toInt64)) + 12345) - ((1103515245 * ((nI q).toInt64)) + 12345) / 2147483648 * 2147483648).toInt32) hx hb hr (fun t ht hW => ⟨⟨(((1103515245 * ((nI q).toInt64)) + 12345) - ((1103515245 * ((nI q).toInt64)) + 12345) / 2147483648 * 2147483648).toInt32, (), rfl, (jsd_eq hq), trivial⟩, hS.F ht⟩) hS.2.2 dX6_nextSeed_15

set_option maxHeartbeats 4000000 in
set_option maxRecDepth 100000 in
theorem c_hasNoLarder_y (l : Launch) (D : va_G) (cI cJ : ClassId) (x : Nat) (n : Nat) (a0 : Value) (a1 : Value) (a2 : Value) (a4 : Value) (a5 : Value) (a6 : Value) (a7 : Value) (a8 : Value) (a9 : Value) (a10 : Value) (a11 : Value) (hn0 : n = 0) : jRi l yX6_hasNoLarder wsX6_hasNoLarder ({ frames := 0, cells := 0, slots := 0, locals := 0 }) [.ref x] D cI cJ (fun H => va_P D vwCl [(x, .inr (6, [a0, a1, a2, .int (nI n), a4, a5, a6, a7, a8, a9, a10, a11]))] H) (fun r => r = 1) := by
  intro sz
  refine Met.ofW (cc := cX6_hasNoLarder) (maxL := 1) (ret := (some .boolean)) (by decide) rfl ?_
  intro p e s m args below meth c s₁ B hml hv
  obtain ⟨rfl, hsz, hT, hPr⟩ := hv
  have hK := hT.1
  have hx := B.exec
  have hb := B.bytes
  have hr := B.returns
  have hts := atoms_spec (ws := wsX6_hasNoLarder) B.pre
  have hown : s.vm.findClass RX6 = some m.cls := findClass_of_methodNamed B.named
  have hlocks := B.notSynchronized
  subst hsz
  generalize hAe : va_A [] s.heap.size = A
  have hA : ∀ q : Nat, s.heap.size ≤ q → A q := fun q h => by rw [← hAe]; exact Or.inr h
  have hS : va_S A s.heap s.heap [] := va_S.rf
  have hl := lv_entry ([.ref x] : List Value) (n := 1) (Nat.le_of_ble_eq_true rfl)
  rw [lg_entry_eq]
  generalize (lg_sl ([.ref x]) ++ List.replicate (1 - (lg_sl ([.ref x])).length) Slot.unset).toArray = ls at hl ⊢
  have hl : lv_has ls 1 [(0, .ref x)] := hl
  refine lv_aload_n hx hb dX6_hasNoLarder_0 rfl (lv_at hl 0 rfl) ?_
  refine va_get (D := D) (ci := 6) (v := .int (nI n)) (C := RX6) (T := TX6) (N := 12) hx hb hts (fun w h => List.mem_cons_of_mem _ (List.mem_append_right _ h)) hown hK hPr 0 rfl rfl 3 (by decide) (hts (Cond.fieldLink RX6 23 "JamDays" "jarCount" "I") (List.mem_of_getElem? (i := 1) rfl)) (fun _ h9 => h9) rfl dX6_hasNoLarder_1 ?_
  refine lv_if_ne (tgt := 11) hx hb dX6_hasNoLarder_4 (by decide) (fun c_1 => ?_) (fun c_1 => ?_)
  · skip
    replace c_1 : ¬ n = 0 := fun h => c_1 ((nI_eq (a := n) (b := 0) (by omega) (by omega)).mpr h)
    exact absurd hn0 (by omega)
  · skip
    replace c_1 : n = 0 := (nI_eq (a := n) (b := 0) (by omega) (by omega)).mp c_1
    refine lv_iconst (v := 1) hx hb dX6_hasNoLarder_7 (by decide) ?_
    refine lv_goto (tgt := 12) hx hb dX6_hasNoLarder_8 (by decide) ?_
    exact W.zret (v := 1) hx hb hr (by decide) (fun t ht hW => ⟨⟨1, (), rfl, rfl, trivial⟩, hS.F ht⟩) hS.2.2 dX6_hasNoLarder_12

set_option maxHeartbeats 4000000 in
set_option maxRecDepth 100000 in
theorem c_hasNoLarder_n (l : Launch) (D : va_G) (cI cJ : ClassId) (x : Nat) (n : Nat) (a0 : Value) (a1 : Value) (a2 : Value) (a4 : Value) (a5 : Value) (a6 : Value) (a7 : Value) (a8 : Value) (a9 : Value) (a10 : Value) (a11 : Value) (hn0 : 0 < n) (hn6 : n ≤ 6) : jRi l yX6_hasNoLarder wsX6_hasNoLarder ({ frames := 0, cells := 0, slots := 0, locals := 0 }) [.ref x] D cI cJ (fun H => va_P D vwCl [(x, .inr (6, [a0, a1, a2, .int (nI n), a4, a5, a6, a7, a8, a9, a10, a11]))] H) (fun r => r = 0) := by
  intro sz
  refine Met.ofW (cc := cX6_hasNoLarder) (maxL := 1) (ret := (some .boolean)) (by decide) rfl ?_
  intro p e s m args below meth c s₁ B hml hv
  obtain ⟨rfl, hsz, hT, hPr⟩ := hv
  have hK := hT.1
  have hx := B.exec
  have hb := B.bytes
  have hr := B.returns
  have hts := atoms_spec (ws := wsX6_hasNoLarder) B.pre
  have hown : s.vm.findClass RX6 = some m.cls := findClass_of_methodNamed B.named
  have hlocks := B.notSynchronized
  subst hsz
  generalize hAe : va_A [] s.heap.size = A
  have hA : ∀ q : Nat, s.heap.size ≤ q → A q := fun q h => by rw [← hAe]; exact Or.inr h
  have hS : va_S A s.heap s.heap [] := va_S.rf
  have hl := lv_entry ([.ref x] : List Value) (n := 1) (Nat.le_of_ble_eq_true rfl)
  rw [lg_entry_eq]
  generalize (lg_sl ([.ref x]) ++ List.replicate (1 - (lg_sl ([.ref x])).length) Slot.unset).toArray = ls at hl ⊢
  have hl : lv_has ls 1 [(0, .ref x)] := hl
  refine lv_aload_n hx hb dX6_hasNoLarder_0 rfl (lv_at hl 0 rfl) ?_
  refine va_get (D := D) (ci := 6) (v := .int (nI n)) (C := RX6) (T := TX6) (N := 12) hx hb hts (fun w h => List.mem_cons_of_mem _ (List.mem_append_right _ h)) hown hK hPr 0 rfl rfl 3 (by decide) (hts (Cond.fieldLink RX6 23 "JamDays" "jarCount" "I") (List.mem_of_getElem? (i := 1) rfl)) (fun _ h9 => h9) rfl dX6_hasNoLarder_1 ?_
  refine lv_if_ne (tgt := 11) hx hb dX6_hasNoLarder_4 (by decide) (fun c_1 => ?_) (fun c_1 => ?_)
  · skip
    replace c_1 : ¬ n = 0 := fun h => c_1 ((nI_eq (a := n) (b := 0) (by omega) (by omega)).mpr h)
    refine lv_iconst (v := 0) hx hb dX6_hasNoLarder_11 (by decide) ?_
    exact W.zret (v := 0) hx hb hr (by decide) (fun t ht hW => ⟨⟨0, (), rfl, rfl, trivial⟩, hS.F ht⟩) hS.2.2 dX6_hasNoLarder_12
  · skip
    replace c_1 : n = 0 := (nI_eq (a := n) (b := 0) (by omega) (by omega)).mp c_1
    exact absurd c_1 (by omega)

set_option maxHeartbeats 4000000 in
set_option maxRecDepth 100000 in
theorem c_codeAt (l : Launch) (D : va_G) (cI cJ : ClassId) (x : Nat) (xp : Nat) (k : Nat) (a1 : Value) (a2 : Value) (a3 : Value) (a4 : Value) (a5 : Value) (a6 : Value) (a7 : Value) (a8 : Value) (a9 : Value) (a10 : Value) (a11 : Value) (pg : Nat → Int32) (hk : k < 25) : jRi l yX6_codeAt wsX6_codeAt ({ frames := 0, cells := 0, slots := 0, locals := 0 }) [.ref x, .int (nI k)] D cI cJ (fun H => va_P D vwCl [(x, .inr (6, [.ref xp, a1, a2, a3, a4, a5, a6, a7, a8, a9, a10, a11])), (xp, .inl (cI, 25, .inl pg))] H) (fun r => r = pg k) := by
  intro sz
  refine Met.ofW (cc := cX6_codeAt) (maxL := 2) (ret := (some .int)) (by decide) rfl ?_
  intro p e s m args below meth c s₁ B hml hv
  obtain ⟨rfl, hsz, hT, hPr⟩ := hv
  have hK := hT.1
  have hx := B.exec
  have hb := B.bytes
  have hr := B.returns
  have hts := atoms_spec (ws := wsX6_codeAt) B.pre
  have hown : s.vm.findClass RX6 = some m.cls := findClass_of_methodNamed B.named
  have hlocks := B.notSynchronized
  subst hsz
  generalize hAe : va_A [] s.heap.size = A
  have hA : ∀ q : Nat, s.heap.size ≤ q → A q := fun q h => by rw [← hAe]; exact Or.inr h
  have hS : va_S A s.heap s.heap [] := va_S.rf
  have hl := lv_entry ([.ref x, .int (nI k)] : List Value) (n := 2) (Nat.le_of_ble_eq_true rfl)
  rw [lg_entry_eq]
  generalize (lg_sl ([.ref x, .int (nI k)]) ++ List.replicate (2 - (lg_sl ([.ref x, .int (nI k)])).length) Slot.unset).toArray = ls at hl ⊢
  have hl : lv_has ls 2 [(0, .ref x), (1, .int (nI k))] := hl
  refine lv_iload_n hx hb dX6_codeAt_0 rfl (lv_at hl 1 rfl) ?_
  refine lv_if_lt (tgt := 19) hx hb dX6_codeAt_1 (by decide) (fun c_1 => ?_) (fun c_1 => ?_)
  · skip
    replace c_1 : k < 0 := (nI_ltI (a := k) (b := 0) (by omega) (by omega)).mp c_1
    exact absurd c_1 (by omega)
  · skip
    replace c_1 : ¬ k < 0 := fun h => c_1 ((nI_ltI (a := k) (b := 0) (by omega) (by omega)).mpr h)
    refine lv_iload_n hx hb dX6_codeAt_4 rfl (lv_at hl 1 rfl) ?_
    refine lv_bipush (v := 25) hx hb dX6_codeAt_5 (by decide) ?_
    refine lv_icmp_ge (tgt := 19) hx hb dX6_codeAt_7 (by decide) (fun c_2 => ?_) (fun c_2 => ?_)
    · skip
      replace c_2 : 25 ≤ k := (nI_leI (a := 25) (b := k) (by omega) (by omega)).mp c_2
      exact absurd c_2 (by omega)
    · skip
      replace c_2 : ¬ 25 ≤ k := fun h => c_2 ((nI_leI (a := 25) (b := k) (by omega) (by omega)).mpr h)
      refine lv_aload_n hx hb dX6_codeAt_10 rfl (lv_at hl 0 rfl) ?_
      refine va_get (D := D) (ci := 6) (v := .ref xp) (C := RX6) (T := TX6) (N := 12) hx hb hts (fun w h => List.mem_cons_of_mem _ (List.mem_append_right _ h)) hown hK hPr 0 rfl rfl 0 (by decide) (hts (Cond.fieldLink RX6 9 "JamDays" "page" "[I") (List.mem_of_getElem? (i := 1) rfl)) (fun _ h9 => h9) rfl dX6_codeAt_11 ?_
      refine lv_iload_n hx hb dX6_codeAt_14 rfl (lv_at hl 1 rfl) ?_
      refine jv_ald (k := k) hx hb hK hPr 1 0 rfl rfl (by omega) (by decide) dX6_codeAt_15 ?_
      refine lv_goto (tgt := 20) hx hb dX6_codeAt_16 (by decide) ?_
      exact W.iret (v := pg k) hx hb hr (fun t ht hW => ⟨⟨pg k, (), rfl, rfl, trivial⟩, hS.F ht⟩) hS.2.2 dX6_codeAt_20

set_option maxHeartbeats 4000000 in
set_option maxRecDepth 100000 in
theorem c_find_ok (l : Launch) (D : va_G) (cI cJ : ClassId) (x : Nat) (xj : Nat) (n : Nat) (a0 : Value) (a1 : Value) (a4 : Value) (a5 : Value) (a6 : Value) (a7 : Value) (a8 : Value) (a9 : Value) (a10 : Value) (a11 : Value) (jr : Nat → Option Nat) (j : Nat) (hj : j < n) (hn6 : n ≤ 6) : jRq l yX6_find wsX6_find ({ frames := 0, cells := 0, slots := 0, locals := 0 }) [.ref x, .int (nI j)] D cI cJ (fun H => va_P D vwCl [(x, .inr (6, [a0, a1, .ref xj, .int (nI n), a4, a5, a6, a7, a8, a9, a10, a11])), (xj, .inl (cJ, 6, .inr (.inr (.inr (.inr jr)))))] H) (fun r => r = jr j) := by
  intro sz
  refine Met.ofW (cc := cX6_find) (maxL := 2) (ret := (some (.object "JamDays$Jar"))) (by decide) rfl ?_
  intro p e s m args below meth c s₁ B hml hv
  obtain ⟨rfl, hsz, hT, hPr⟩ := hv
  have hK := hT.1
  have hx := B.exec
  have hb := B.bytes
  have hr := B.returns
  have hts := atoms_spec (ws := wsX6_find) B.pre
  have hown : s.vm.findClass RX6 = some m.cls := findClass_of_methodNamed B.named
  have hlocks := B.notSynchronized
  subst hsz
  generalize hAe : va_A [] s.heap.size = A
  have hA : ∀ q : Nat, s.heap.size ≤ q → A q := fun q h => by rw [← hAe]; exact Or.inr h
  have hS : va_S A s.heap s.heap [] := va_S.rf
  have hl := lv_entry ([.ref x, .int (nI j)] : List Value) (n := 2) (Nat.le_of_ble_eq_true rfl)
  rw [lg_entry_eq]
  generalize (lg_sl ([.ref x, .int (nI j)]) ++ List.replicate (2 - (lg_sl ([.ref x, .int (nI j)])).length) Slot.unset).toArray = ls at hl ⊢
  have hl : lv_has ls 2 [(0, .ref x), (1, .int (nI j))] := hl
  refine lv_iload_n hx hb dX6_find_0 rfl (lv_at hl 1 rfl) ?_
  refine lv_if_lt (tgt := 27) hx hb dX6_find_1 (by decide) (fun c_1 => ?_) (fun c_1 => ?_)
  · skip
    replace c_1 : j < 0 := (nI_ltI (a := j) (b := 0) (by omega) (by omega)).mp c_1
    exact absurd c_1 (by omega)
  · skip
    replace c_1 : ¬ j < 0 := fun h => c_1 ((nI_ltI (a := j) (b := 0) (by omega) (by omega)).mpr h)
    refine lv_iload_n hx hb dX6_find_4 rfl (lv_at hl 1 rfl) ?_
    refine lv_aload_n hx hb dX6_find_5 rfl (lv_at hl 0 rfl) ?_
    refine va_get (D := D) (ci := 6) (v := .int (nI n)) (C := RX6) (T := TX6) (N := 12) hx hb hts (fun w h => List.mem_cons_of_mem _ (List.mem_append_right _ h)) hown hK hPr 0 rfl rfl 3 (by decide) (hts (Cond.fieldLink RX6 23 "JamDays" "jarCount" "I") (List.mem_of_getElem? (i := 1) rfl)) (fun _ h9 => h9) rfl dX6_find_6 ?_
    refine lv_icmp_ge (tgt := 27) hx hb dX6_find_9 (by decide) (fun c_2 => ?_) (fun c_2 => ?_)
    · skip
      replace c_2 : n ≤ j := (nI_leI (a := n) (b := j) (by omega) (by omega)).mp c_2
      exact absurd c_2 (by omega)
    · skip
      replace c_2 : ¬ n ≤ j := fun h => c_2 ((nI_leI (a := n) (b := j) (by omega) (by omega)).mpr h)
      refine lv_iload_n hx hb dX6_find_12 rfl (lv_at hl 1 rfl) ?_
      refine lv_bipush (v := 6) hx hb dX6_find_13 (by decide) ?_
      refine lv_icmp_ge (tgt := 27) hx hb dX6_find_15 (by decide) (fun c_3 => ?_) (fun c_3 => ?_)
      · skip
        replace c_3 : 6 ≤ j := (nI_leI (a := 6) (b := j) (by omega) (by omega)).mp c_3
        exact absurd c_3 (by omega)
      · skip
        replace c_3 : ¬ 6 ≤ j := fun h => c_3 ((nI_leI (a := 6) (b := j) (by omega) (by omega)).mpr h)
        refine lv_aload_n hx hb dX6_find_18 rfl (lv_at hl 0 rfl) ?_
        refine va_get (D := D) (ci := 6) (v := .ref xj) (C := RX6) (T := TX6) (N := 12) hx hb hts (fun w h => List.mem_cons_of_mem _ (List.mem_append_right _ h)) hown hK hPr 0 rfl rfl 2 (by decide) (hts (Cond.fieldLink RX6 19 "JamDays" "jars" "[LJamDays$Jar;") (List.mem_of_getElem? (i := 2) rfl)) (fun _ h9 => h9) rfl dX6_find_19 ?_
        refine lv_iload_n hx hb dX6_find_22 rfl (lv_at hl 1 rfl) ?_
        refine jv_aldq (k := j) hx hb hK hPr 1 1 rfl rfl (by omega) (by decide) dX6_find_23 ?_
        refine lv_goto (tgt := 28) hx hb dX6_find_24 (by decide) ?_
        exact W.aret (v := va_rf (jr j)) hx hb hr (Or.inl ⟨_, rfl⟩) (va_rf_or _) (fun t ht hW => ⟨⟨jr j, (), rfl, rfl, trivial⟩, hS.F ht⟩) hS.2.2 dX6_find_28

set_option maxHeartbeats 4000000 in
set_option maxRecDepth 100000 in
theorem c_find_no (l : Launch) (D : va_G) (cI cJ : ClassId) (x : Nat) (xj : Nat) (n : Nat) (a0 : Value) (a1 : Value) (a4 : Value) (a5 : Value) (a6 : Value) (a7 : Value) (a8 : Value) (a9 : Value) (a10 : Value) (a11 : Value) (jr : Nat → Option Nat) (p0 : Int32) (h9 : p0 < 0 ∨ nI n ≤ p0) : jRq l yX6_find wsX6_find ({ frames := 0, cells := 0, slots := 0, locals := 0 }) [.ref x, .int p0] D cI cJ (fun H => va_P D vwCl [(x, .inr (6, [a0, a1, .ref xj, .int (nI n), a4, a5, a6, a7, a8, a9, a10, a11])), (xj, .inl (cJ, 6, .inr (.inr (.inr (.inr jr)))))] H) (fun r => r = none) := by
  intro sz
  refine Met.ofW (cc := cX6_find) (maxL := 2) (ret := (some (.object "JamDays$Jar"))) (by decide) rfl ?_
  intro p e s m args below meth c s₁ B hml hv
  obtain ⟨rfl, hsz, hT, hPr⟩ := hv
  have hK := hT.1
  have hx := B.exec
  have hb := B.bytes
  have hr := B.returns
  have hts := atoms_spec (ws := wsX6_find) B.pre
  have hown : s.vm.findClass RX6 = some m.cls := findClass_of_methodNamed B.named
  have hlocks := B.notSynchronized
  subst hsz
  generalize hAe : va_A [] s.heap.size = A
  have hA : ∀ q : Nat, s.heap.size ≤ q → A q := fun q h => by rw [← hAe]; exact Or.inr h
  have hS : va_S A s.heap s.heap [] := va_S.rf
  have hl := lv_entry ([.ref x, .int p0] : List Value) (n := 2) (Nat.le_of_ble_eq_true rfl)
  rw [lg_entry_eq]
  generalize (lg_sl ([.ref x, .int p0]) ++ List.replicate (2 - (lg_sl ([.ref x, .int p0])).length) Slot.unset).toArray = ls at hl ⊢
  have hl : lv_has ls 2 [(0, .ref x), (1, .int p0)] := hl
  refine lv_iload_n hx hb dX6_find_0 rfl (lv_at hl 1 rfl) ?_
  refine lv_if_lt (tgt := 27) hx hb dX6_find_1 (by decide) (fun c_1 => ?_) (fun c_1 => ?_)
  · skip
    refine lv_null hx hb dX6_find_27 ?_
    exact W.aret (v := .null) hx hb hr (Or.inl ⟨_, rfl⟩) (Or.inl rfl) (fun t ht hW => ⟨⟨none, (), rfl, rfl, trivial⟩, hS.F ht⟩) hS.2.2 dX6_find_28
  · skip
    refine lv_iload_n hx hb dX6_find_4 rfl (lv_at hl 1 rfl) ?_
    refine lv_aload_n hx hb dX6_find_5 rfl (lv_at hl 0 rfl) ?_
    refine va_get (D := D) (ci := 6) (v := .int (nI n)) (C := RX6) (T := TX6) (N := 12) hx hb hts (fun w h => List.mem_cons_of_mem _ (List.mem_append_right _ h)) hown hK hPr 0 rfl rfl 3 (by decide) (hts (Cond.fieldLink RX6 23 "JamDays" "jarCount" "I") (List.mem_of_getElem? (i := 1) rfl)) (fun _ h9 => h9) rfl dX6_find_6 ?_
    refine lv_icmp_ge (tgt := 27) hx hb dX6_find_9 (by decide) (fun c_2 => ?_) (fun c_2 => ?_)
    · skip
      refine lv_null hx hb dX6_find_27 ?_
      exact W.aret (v := .null) hx hb hr (Or.inl ⟨_, rfl⟩) (Or.inl rfl) (fun t ht hW => ⟨⟨none, (), rfl, rfl, trivial⟩, hS.F ht⟩) hS.2.2 dX6_find_28
    · skip
      exact (h9.elim (fun h => c_1 h) (fun h => c_2 h)).elim

set_option maxHeartbeats 4000000 in
set_option maxRecDepth 100000 in
theorem c_firstWorth (l : Launch) (D : va_G) (cI cJ : ClassId) (x : Nat) (xj : Nat) (n : Nat) (a0 : Value) (a1 : Value) (a4 : Value) (a5 : Value) (a6 : Value) (a7 : Value) (a8 : Value) (a9 : Value) (a10 : Value) (a11 : Value) (jr : Nat → Option Nat) (jk : Nat → Nat) (jg : Nat → Int32) (js : Nat → Int32) (jm : Nat → Int32) (fw : Nat → Int32 → Int32) (j : Nat) (y : Int32) (hj : j < n) (hn6 : n ≤ 6) (hfw : ∀ i : Nat, i < n → ∀ z : Int32, cfw (jk i) (jg i) (jm i) z = fw i z) : jRi l yX6_firstWorth wsX6_firstWorth ({ frames := 2, cells := 0, slots := 0, locals := 44 }) [.ref x, .int (nI j), .int y] D cI cJ (fun H => va_P D vwCl [(x, .inr (6, [a0, a1, .ref xj, .int (nI n), a4, a5, a6, a7, a8, a9, a10, a11])), (xj, .inl (cJ, 6, .inr (.inr (.inr (.inr jr)))))] H ∧ jJ D n jr jk jg js jm H) (fun r => r = fw j y) := by
  intro sz
  refine Met.ofW (cc := cX6_firstWorth) (maxL := 4) (ret := (some .int)) (by decide) rfl ?_
  intro p e s m args below meth c s₁ B hml hv
  obtain ⟨rfl, hsz, hT, ⟨hPr, hJ⟩⟩ := hv
  have hK := hT.1
  have hx := B.exec
  have hb := B.bytes
  have hr := B.returns
  have hts := atoms_spec (ws := wsX6_firstWorth) B.pre
  have hown : s.vm.findClass RX6 = some m.cls := findClass_of_methodNamed B.named
  have hlocks := B.notSynchronized
  subst hsz
  generalize hAe : va_A [] s.heap.size = A
  have hA : ∀ q : Nat, s.heap.size ≤ q → A q := fun q h => by rw [← hAe]; exact Or.inr h
  have hS : va_S A s.heap s.heap [] := va_S.rf
  have hl := lv_entry ([.ref x, .int (nI j), .int y] : List Value) (n := 4) (Nat.le_of_ble_eq_true rfl)
  rw [lg_entry_eq]
  generalize (lg_sl ([.ref x, .int (nI j), .int y]) ++ List.replicate (4 - (lg_sl ([.ref x, .int (nI j), .int y])).length) Slot.unset).toArray = ls at hl ⊢
  have hl : lv_has ls 4 [(0, .ref x), (1, .int (nI j)), (2, .int y)] := hl
  refine lv_aload_n hx hb dX6_firstWorth_0 rfl (lv_at hl 0 rfl) ?_
  refine lv_iload_n hx hb dX6_firstWorth_1 rfl (lv_at hl 1 rfl) ?_
  have hPc_1 := hPr.sub (ws' := [(x, .inr (6, [a0, a1, .ref xj, .int (nI n), a4, a5, a6, a7, a8, a9, a10, a11])), (xj, .inl (cJ, 6, .inr (.inr (.inr (.inr jr)))))]) [0, 1] rfl
  refine jcallq (va_runV (As := [.int (nI j)]) (rest := []) ⟨hx, hb, hml, hown, hts⟩ (c_find_ok l D cI cJ x xj n a0 a1 a4 a5 a6 a7 a8 a9 a10 a11 jr j (by omega) (by omega) s.heap.size) (cwV 1 hts gX6_firstWorth_X6_find rfl rfl rfl (by decide +kernel) ⟨Nat.le_of_ble_eq_true rfl, Nat.le_of_ble_eq_true rfl⟩) (jpreV hT (va_recv hK hPr (ci := 6) (q0 := 0) rfl rfl) hPc_1) rfl rfl hl.1 rfl (lv_room (Nat.le_of_ble_eq_true rfl)) dX6_firstWorth_2 ⟨(Nat.zero_le _), (Nat.zero_le _)⟩) hS hA (fun r_2 H locs hw_r_2 hkq hS => ?_)
  try dsimp only at hw_r_2
  have hPr := jkeep hPr hkq
  have hJ := hJ.kept hkq
  obtain ⟨hk5, a, ea9, hat⟩ := hJ j (by omega)
  rw [ea9] at hw_r_2
  subst hw_r_2
  try dsimp only [va_rf]
  refine lv_astore_n (lv' := [(3, .ref a), (0, .ref x), (1, .int (nI j)), (2, .int y)]) hx hb dX6_firstWorth_5 rfl hl (by decide) rfl (fun ls hl => ?_)
  refine lv_aload_n hx hb dX6_firstWorth_6 rfl (lv_at hl 0 rfl) ?_
  refine lv_ifnonnull (tgt := 14) hx hb dX6_firstWorth_7 (by decide) ?_
  rcases hk5 with hk5 | hk5 | hk5 | hk5 | hk5
  · skip
    rw [hk5] at hat
    have hPj := jone hat
    refine lv_aload_n hx hb dX6_firstWorth_14 rfl (lv_at hl 0 rfl) ?_
    refine lv_iload_n hx hb dX6_firstWorth_15 rfl (lv_at hl 3 rfl) ?_
    have hPc_3 := hPj.sub (ws' := [(a, .inr (0, [.int (jg j), .int (js j), .int (jm j)]))]) [0] rfl
    refine jcalli (va_runU (As := [.int y]) (rest := []) ⟨hx, hb, hml, hown, hts⟩ (c_firstWorthIn_0 l D cI cJ a (jg j) (js j) (jm j) y H.size) (va_cwU 1 hts gX6_firstWorth_X3_firstWorthIn_u218X0 rfl rfl rfl rfl (by decide +kernel) ⟨Nat.le_of_ble_eq_true rfl, Nat.le_of_ble_eq_true rfl⟩) (jpreV hT (va_recv hK hPj (ci := 0) (q0 := 0) rfl rfl) hPc_3) rfl rfl hl.1 rfl (lv_room (Nat.le_of_ble_eq_true rfl)) dX6_firstWorth_16 ⟨(Nat.zero_le _), (Nat.zero_le _)⟩) hS hA (fun r_4 H locs hw_r_4 hkq hS => ?_)
    try dsimp only at hw_r_4
    have hPr := jkeep hPr hkq
    have hPj := jkeep hPj hkq
    have hJ := hJ.kept hkq
    subst hw_r_4
    exact W.iret (v := cfw 0 (jg j) (jm j) y) hx hb hr (fun t ht hW => ⟨⟨cfw 0 (jg j) (jm j) y, (), rfl, (by rw [← hfw j (by omega) y, hk5]), trivial⟩, hS.F ht⟩) hS.2.2 dX6_firstWorth_19
  · skip
    rw [hk5] at hat
    have hPj := jone hat
    refine lv_aload_n hx hb dX6_firstWorth_14 rfl (lv_at hl 0 rfl) ?_
    refine lv_iload_n hx hb dX6_firstWorth_15 rfl (lv_at hl 3 rfl) ?_
    have hPc_5 := hPj.sub (ws' := [(a, .inr (2, [.int (jg j), .int (js j), .int (jm j)]))]) [0] rfl
    refine jcalli (va_runU (As := [.int y]) (rest := []) ⟨hx, hb, hml, hown, hts⟩ (c_firstWorthIn_2 l D cI cJ a (jg j) (js j) (jm j) y H.size) (va_cwO 1 hts gX6_firstWorth_X2_firstWorthIn_u218X2 rfl rfl rfl (List.mem_of_getElem? (i := 13) (show _ = some (Cond.code yX3_firstWorthIn cX3_firstWorthIn 2 (some .int)) from rfl)) (by decide +kernel) ⟨Nat.le_of_ble_eq_true rfl, Nat.le_of_ble_eq_true rfl⟩) (jpreV hT (va_recv hK hPj (ci := 2) (q0 := 0) rfl rfl) hPc_5) rfl rfl hl.1 rfl (lv_room (Nat.le_of_ble_eq_true rfl)) dX6_firstWorth_16 ⟨(Nat.zero_le _), (Nat.zero_le _)⟩) hS hA (fun r_6 H locs hw_r_6 hkq hS => ?_)
    try dsimp only at hw_r_6
    have hPr := jkeep hPr hkq
    have hPj := jkeep hPj hkq
    have hJ := hJ.kept hkq
    subst hw_r_6
    exact W.iret (v := cfw 2 (jg j) (jm j) y) hx hb hr (fun t ht hW => ⟨⟨cfw 2 (jg j) (jm j) y, (), rfl, (by rw [← hfw j (by omega) y, hk5]), trivial⟩, hS.F ht⟩) hS.2.2 dX6_firstWorth_19
  · skip
    rw [hk5] at hat
    have hPj := jone hat
    refine lv_aload_n hx hb dX6_firstWorth_14 rfl (lv_at hl 0 rfl) ?_
    refine lv_iload_n hx hb dX6_firstWorth_15 rfl (lv_at hl 3 rfl) ?_
    have hPc_7 := hPj.sub (ws' := [(a, .inr (3, [.int (jg j), .int (js j), .int (jm j)]))]) [0] rfl
    refine jcalli (va_runV (As := [.int y]) (rest := []) ⟨hx, hb, hml, hown, hts⟩ (c_firstWorthIn_3 l D cI cJ a (jg j) (js j) (jm j) y H.size) (cwV 1 hts gX6_firstWorth_X3_firstWorthIn rfl rfl rfl (by decide +kernel) ⟨Nat.le_of_ble_eq_true rfl, Nat.le_of_ble_eq_true rfl⟩) (jpreV hT (va_recv hK hPj (ci := 3) (q0 := 0) rfl rfl) hPc_7) rfl rfl hl.1 rfl (lv_room (Nat.le_of_ble_eq_true rfl)) dX6_firstWorth_16 ⟨(Nat.zero_le _), (Nat.zero_le _)⟩) hS hA (fun r_8 H locs hw_r_8 hkq hS => ?_)
    try dsimp only at hw_r_8
    have hPr := jkeep hPr hkq
    have hPj := jkeep hPj hkq
    have hJ := hJ.kept hkq
    subst hw_r_8
    exact W.iret (v := cfw 3 (jg j) (jm j) y) hx hb hr (fun t ht hW => ⟨⟨cfw 3 (jg j) (jm j) y, (), rfl, (by rw [← hfw j (by omega) y, hk5]), trivial⟩, hS.F ht⟩) hS.2.2 dX6_firstWorth_19
  · skip
    rw [hk5] at hat
    have hPj := jone hat
    refine lv_aload_n hx hb dX6_firstWorth_14 rfl (lv_at hl 0 rfl) ?_
    refine lv_iload_n hx hb dX6_firstWorth_15 rfl (lv_at hl 3 rfl) ?_
    have hPc_9 := hPj.sub (ws' := [(a, .inr (4, [.int (jg j), .int (js j), .int (jm j)]))]) [0] rfl
    refine jcalli (va_runU (As := [.int y]) (rest := []) ⟨hx, hb, hml, hown, hts⟩ (c_firstWorthIn_4 l D cI cJ a (jg j) (js j) (jm j) y H.size) (va_cwO 1 hts gX6_firstWorth_X4_firstWorthIn_u218X4 rfl rfl rfl (List.mem_of_getElem? (i := 13) (show _ = some (Cond.code yX3_firstWorthIn cX3_firstWorthIn 2 (some .int)) from rfl)) (by decide +kernel) ⟨Nat.le_of_ble_eq_true rfl, Nat.le_of_ble_eq_true rfl⟩) (jpreV hT (va_recv hK hPj (ci := 4) (q0 := 0) rfl rfl) hPc_9) rfl rfl hl.1 rfl (lv_room (Nat.le_of_ble_eq_true rfl)) dX6_firstWorth_16 ⟨(Nat.zero_le _), (Nat.zero_le _)⟩) hS hA (fun r_10 H locs hw_r_10 hkq hS => ?_)
    try dsimp only at hw_r_10
    have hPr := jkeep hPr hkq
    have hPj := jkeep hPj hkq
    have hJ := hJ.kept hkq
    subst hw_r_10
    exact W.iret (v := cfw 4 (jg j) (jm j) y) hx hb hr (fun t ht hW => ⟨⟨cfw 4 (jg j) (jm j) y, (), rfl, (by rw [← hfw j (by omega) y, hk5]), trivial⟩, hS.F ht⟩) hS.2.2 dX6_firstWorth_19
  · skip
    rw [hk5] at hat
    have hPj := jone hat
    refine lv_aload_n hx hb dX6_firstWorth_14 rfl (lv_at hl 0 rfl) ?_
    refine lv_iload_n hx hb dX6_firstWorth_15 rfl (lv_at hl 3 rfl) ?_
    have hPc_11 := hPj.sub (ws' := [(a, .inr (5, [.int (jg j), .int (js j), .int (jm j)]))]) [0] rfl
    refine jcalli (va_runU (As := [.int y]) (rest := []) ⟨hx, hb, hml, hown, hts⟩ (c_firstWorthIn_5 l D cI cJ a (jg j) (js j) (jm j) y H.size) (va_cwU 1 hts gX6_firstWorth_X3_firstWorthIn_u218X5 rfl rfl rfl rfl (by decide +kernel) ⟨Nat.le_of_ble_eq_true rfl, Nat.le_of_ble_eq_true rfl⟩) (jpreV hT (va_recv hK hPj (ci := 5) (q0 := 0) rfl rfl) hPc_11) rfl rfl hl.1 rfl (lv_room (Nat.le_of_ble_eq_true rfl)) dX6_firstWorth_16 ⟨(Nat.zero_le _), (Nat.zero_le _)⟩) hS hA (fun r_12 H locs hw_r_12 hkq hS => ?_)
    try dsimp only at hw_r_12
    have hPr := jkeep hPr hkq
    have hPj := jkeep hPj hkq
    have hJ := hJ.kept hkq
    subst hw_r_12
    exact W.iret (v := cfw 5 (jg j) (jm j) y) hx hb hr (fun t ht hW => ⟨⟨cfw 5 (jg j) (jm j) y, (), rfl, (by rw [← hfw j (by omega) y, hk5]), trivial⟩, hS.F ht⟩) hS.2.2 dX6_firstWorth_19

set_option maxHeartbeats 4000000 in
set_option maxRecDepth 100000 in
theorem c_nextWorth (l : Launch) (D : va_G) (cI cJ : ClassId) (x : Nat) (xj : Nat) (xn : Nat) (ne : Nat) (n : Nat) (a0 : Value) (a1 : Value) (a5 : Value) (a6 : Value) (a7 : Value) (a8 : Value) (a9 : Value) (a10 : Value) (a11 : Value) (b1 : Value) (b2 : Value) (b3 : Value) (b4 : Value) (b5 : Value) (b7 : Value) (b8 : Value) (jr : Nat → Option Nat) (jk : Nat → Nat) (jg : Nat → Int32) (js : Nat → Int32) (jm : Nat → Int32) (fw : Nat → Int32 → Int32) (en : Nat → Int32) (y : Int32) (j : Nat) (hj : j < n) (hn6 : n ≤ 6) (hfw : ∀ i : Nat, i < n → ∀ z : Int32, cfw (jk i) (jg i) (jm i) z = fw i z) : jRi l yX6_nextWorth wsX6_nextWorth ({ frames := 3, cells := 0, slots := 0, locals := 67 }) [.ref x, .int (nI j)] D cI cJ (fun H => va_P D vwCl [(x, .inr (6, [a0, a1, .ref xj, .int (nI n), .ref xn, a5, a6, a7, a8, a9, a10, a11])), (xj, .inl (cJ, 6, .inr (.inr (.inr (.inr jr))))), (xn, .inr (1, [.int y, b1, b2, b3, b4, b5, .ref ne, b7, b8])), (ne, .inl (cI, 6, .inl en))] H ∧ jJ D n jr jk jg js jm H) (fun r => r = fw j y - en j) := by
  intro sz
  refine Met.ofW (cc := cX6_nextWorth) (maxL := 2) (ret := (some .int)) (by decide) rfl ?_
  intro p e s m args below meth c s₁ B hml hv
  obtain ⟨rfl, hsz, hT, ⟨hPr, hJ⟩⟩ := hv
  have hK := hT.1
  have hx := B.exec
  have hb := B.bytes
  have hr := B.returns
  have hts := atoms_spec (ws := wsX6_nextWorth) B.pre
  have hown : s.vm.findClass RX6 = some m.cls := findClass_of_methodNamed B.named
  have hlocks := B.notSynchronized
  subst hsz
  generalize hAe : va_A [] s.heap.size = A
  have hA : ∀ q : Nat, s.heap.size ≤ q → A q := fun q h => by rw [← hAe]; exact Or.inr h
  have hS : va_S A s.heap s.heap [] := va_S.rf
  have hl := lv_entry ([.ref x, .int (nI j)] : List Value) (n := 2) (Nat.le_of_ble_eq_true rfl)
  rw [lg_entry_eq]
  generalize (lg_sl ([.ref x, .int (nI j)]) ++ List.replicate (2 - (lg_sl ([.ref x, .int (nI j)])).length) Slot.unset).toArray = ls at hl ⊢
  have hl : lv_has ls 2 [(0, .ref x), (1, .int (nI j))] := hl
  refine lv_aload_n hx hb dX6_nextWorth_0 rfl (lv_at hl 0 rfl) ?_
  refine lv_iload_n hx hb dX6_nextWorth_1 rfl (lv_at hl 1 rfl) ?_
  refine lv_aload_n hx hb dX6_nextWorth_2 rfl (lv_at hl 0 rfl) ?_
  refine va_get (D := D) (ci := 6) (v := .ref xn) (C := RX6) (T := TX6) (N := 12) hx hb hts (fun w h => List.mem_cons_of_mem _ (List.mem_append_left _ (List.mem_append_left _ (List.mem_append_left _ (List.mem_append_left _ (List.mem_append_left _ (List.mem_append_left _ (List.mem_append_right _ h)))))))) hown hK hPr 0 rfl rfl 4 (by decide) (hts (Cond.fieldLink RX6 29 "JamDays" "now" "LJamDays$Days;") (List.mem_of_getElem? (i := 1) rfl)) (fun _ h9 => h9) rfl dX6_nextWorth_3 ?_
  refine va_get (D := D) (ci := 1) (v := .int y) (C := RX1) (T := TX1) (N := 9) hx hb hts (fun w h => List.mem_cons_of_mem _ (List.mem_append_left _ (List.mem_append_left _ (List.mem_append_left _ (List.mem_append_left _ (List.mem_append_left _ (List.mem_append_right _ h))))))) hown hK hPr 2 rfl rfl 0 (by decide) (hts (Cond.fieldLink RX6 91 "JamDays$Days" "year" "I") (List.mem_of_getElem? (i := 2) rfl)) (fun _ h9 => h9) rfl dX6_nextWorth_6 ?_
  have hPc_1 := hPr.sub (ws' := [(x, .inr (6, [a0, a1, .ref xj, .int (nI n), .ref xn, a5, a6, a7, a8, a9, a10, a11])), (xj, .inl (cJ, 6, .inr (.inr (.inr (.inr jr)))))]) [0, 1] rfl
  refine jcalli (va_runV (As := [.int (nI j), .int y]) (rest := []) ⟨hx, hb, hml, hown, hts⟩ (c_firstWorth l D cI cJ x xj n a0 a1 (.ref xn) a5 a6 a7 a8 a9 a10 a11 jr jk jg js jm fw j y hj hn6 hfw s.heap.size) (cwV 2 hts gX6_nextWorth_X6_firstWorth rfl rfl rfl (by decide +kernel) ⟨Nat.le_of_ble_eq_true rfl, Nat.le_of_ble_eq_true rfl⟩) (jpreV hT (va_recv hK hPr (ci := 6) (q0 := 0) rfl rfl) ⟨hPc_1, hJ⟩) rfl rfl hl.1 rfl (lv_room (Nat.le_of_ble_eq_true rfl)) dX6_nextWorth_9 ⟨(Nat.zero_le _), (Nat.zero_le _)⟩) hS hA (fun r_2 H locs hw_r_2 hkq hS => ?_)
  try dsimp only at hw_r_2
  have hPr := jkeep hPr hkq
  have hJ := hJ.kept hkq
  subst hw_r_2
  refine lv_aload_n hx hb dX6_nextWorth_12 rfl (lv_at hl 0 rfl) ?_
  refine va_get (D := D) (ci := 6) (v := .ref xn) (C := RX6) (T := TX6) (N := 12) hx hb hts (fun w h => List.mem_cons_of_mem _ (List.mem_append_left _ (List.mem_append_left _ (List.mem_append_left _ (List.mem_append_left _ (List.mem_append_left _ (List.mem_append_left _ (List.mem_append_right _ h)))))))) hown hK hPr 0 rfl rfl 4 (by decide) (hts (Cond.fieldLink RX6 29 "JamDays" "now" "LJamDays$Days;") (List.mem_of_getElem? (i := 1) rfl)) (fun _ h9 => h9) rfl dX6_nextWorth_13 ?_
  refine lv_iload_n hx hb dX6_nextWorth_16 rfl (lv_at hl 1 rfl) ?_
  have hPc_3 := hPr.sub (ws' := [(xn, .inr (1, [.int y, b1, b2, b3, b4, b5, .ref ne, b7, b8])), (ne, .inl (cI, 6, .inl en))]) [2, 3] rfl
  refine jcalli (va_runV (As := [.int (nI j)]) (rest := [.int (fw j y)]) ⟨hx, hb, hml, hown, hts⟩ (c_eatenNowOf l D cI cJ xn ne (.int y) b1 b2 b3 b4 b5 b7 b8 en j (by omega) H.size) (cwV 1 hts gX6_nextWorth_X1_eatenNowOf rfl rfl rfl (by decide +kernel) ⟨Nat.le_of_ble_eq_true rfl, Nat.le_of_ble_eq_true rfl⟩) (jpreV hT (va_recv hK hPr (ci := 1) (q0 := 2) rfl rfl) hPc_3) rfl rfl hl.1 rfl (lv_room (Nat.le_of_ble_eq_true rfl)) dX6_nextWorth_17 ⟨(Nat.zero_le _), (Nat.zero_le _)⟩) hS hA (fun r_4 H locs hw_r_4 hkq hS => ?_)
  try dsimp only at hw_r_4
  have hPr := jkeep hPr hkq
  have hJ := hJ.kept hkq
  subst hw_r_4
  refine lv_isub hx hb dX6_nextWorth_20 ?_
  exact W.iret (v := (fw j y) - (en j)) hx hb hr (fun t ht hW => ⟨⟨(fw j y) - (en j), (), rfl, rfl, trivial⟩, hS.F ht⟩) hS.2.2 dX6_nextWorth_21

/-- the first of k numbers that is the greatest -/
def jyb (g : Nat → Int32) : Nat → Nat
  | 0 => 0
  | k + 1 => if g k ≤ g (jyb g k) then jyb g k else k
theorem jyb_le (g : Nat → Int32) : ∀ k : Nat, jyb g k ≤ k
  | 0 => Nat.le_refl 0
  | k + 1 => by
    have h := jyb_le g k
    unfold jyb
    split <;> omega
set_option maxHeartbeats 4000000 in
set_option maxRecDepth 100000 in
theorem c_yearsToBest (l : Launch) (D : va_G) (cI cJ : ClassId) (x : Nat) (xj : Nat) (xn : Nat) (n : Nat) (a0 : Value) (a1 : Value) (a5 : Value) (a6 : Value) (a7 : Value) (a8 : Value) (a9 : Value) (a10 : Value) (a11 : Value) (b1 : Value) (b2 : Value) (b3 : Value) (b4 : Value) (b5 : Value) (b6 : Value) (b7 : Value) (b8 : Value) (jr : Nat → Option Nat) (jk : Nat → Nat) (jg : Nat → Int32) (js : Nat → Int32) (jm : Nat → Int32) (fw : Nat → Int32 → Int32) (y : Int32) (j : Nat) (hj : j < n) (hn6 : n ≤ 6) (hfw : ∀ i : Nat, i < n → ∀ z : Int32, cfw (jk i) (jg i) (jm i) z = fw i z) : jRi l yX6_yearsToBest wsX6_yearsToBest ({ frames := 3, cells := 0, slots := 0, locals := 67 }) [.ref x, .int (nI j)] D cI cJ (fun H => va_P D vwCl [(x, .inr (6, [a0, a1, .ref xj, .int (nI n), .ref xn, a5, a6, a7, a8, a9, a10, a11])), (xj, .inl (cJ, 6, .inr (.inr (.inr (.inr jr))))), (xn, .inr (1, [.int y, b1, b2, b3, b4, b5, b6, b7, b8]))] H ∧ jJ D n jr jk jg js jm H) (fun r => r = nI (jyb (fun i => fw j (y + nI i)) 10)) := by
  intro sz
  refine Met.ofW (cc := cX6_yearsToBest) (maxL := 4) (ret := (some .int)) (by decide) rfl ?_
  intro p e s m args below meth c s₁ B hml hv
  obtain ⟨rfl, hsz, hT, ⟨hPr, hJ⟩⟩ := hv
  have hK := hT.1
  have hx := B.exec
  have hb := B.bytes
  have hr := B.returns
  have hts := atoms_spec (ws := wsX6_yearsToBest) B.pre
  have hown : s.vm.findClass RX6 = some m.cls := findClass_of_methodNamed B.named
  have hlocks := B.notSynchronized
  subst hsz
  generalize hAe : va_A [] s.heap.size = A
  have hA : ∀ q : Nat, s.heap.size ≤ q → A q := fun q h => by rw [← hAe]; exact Or.inr h
  have hS : va_S A s.heap s.heap [] := va_S.rf
  have hl := lv_entry ([.ref x, .int (nI j)] : List Value) (n := 4) (Nat.le_of_ble_eq_true rfl)
  rw [lg_entry_eq]
  generalize (lg_sl ([.ref x, .int (nI j)]) ++ List.replicate (4 - (lg_sl ([.ref x, .int (nI j)])).length) Slot.unset).toArray = ls at hl ⊢
  have hl : lv_has ls 4 [(0, .ref x), (1, .int (nI j))] := hl
  refine lv_iconst (v := 0) hx hb dX6_yearsToBest_0 (by decide) ?_
  refine lv_istore_n (lv' := [(2, .int 0), (0, .ref x), (1, .int (nI j))]) hx hb dX6_yearsToBest_1 rfl hl (by decide) rfl (fun ls hl => ?_)
  refine lv_iconst (v := 1) hx hb dX6_yearsToBest_2 (by decide) ?_
  refine lv_istore_n (lv' := [(3, .int 1), (2, .int 0), (0, .ref x), (1, .int (nI j))]) hx hb dX6_yearsToBest_3 rfl hl (by decide) rfl (fun ls hl => ?_)
  refine jloop (α := Nat × Nat) (fun (x9 : Nat × Nat) (H : Heap) (locs : List Loc) (ls : Array Slot) => match x9 with | (k, f) => (va_P D vwCl [(x, .inr (6, [a0, a1, .ref xj, .int (nI n), .ref xn, a5, a6, a7, a8, a9, a10, a11])), (xj, .inl (cJ, 6, .inr (.inr (.inr (.inr jr))))), (xn, .inr (1, [.int y, b1, b2, b3, b4, b5, b6, b7, b8]))] H) ∧ (jJ D n jr jk jg js jm H) ∧ (va_S A s.heap H locs) ∧ (lv_has ls 4 [(0, .ref x), (1, .int (nI j)), (2, .int (nI f)), (3, .int (nI k))]) ∧ (0 < k) ∧ (k ≤ 10) ∧ (f = jyb (fun i => fw j (y + nI i)) k)) (fun (x9 : Nat × Nat) => match x9 with | (k, f) => 10 - k) (fun x9 H locs ls hx9 ih_4 => ?_) (1, 0) _ _ _ ⟨hPr, hJ, hS, lv_sub hl [2, 3, 1, 0] rfl, (by omega), (by omega), (by simp [jyb])⟩
  obtain ⟨k, f⟩ := x9
  obtain ⟨hPr, hJ, hS, hl, h0k, hk9, hf⟩ := hx9
  refine lv_iload_n hx hb dX6_yearsToBest_4 rfl (lv_at hl 3 rfl) ?_
  refine lv_bipush (v := 10) hx hb dX6_yearsToBest_5 (by decide) ?_
  refine lv_icmp_ge (tgt := 49) hx hb dX6_yearsToBest_7 (by decide) (fun c_1 => ?_) (fun c_1 => ?_)
  · skip
    replace c_1 : 10 ≤ k := (nI_leI (a := 10) (b := k) (by omega) (by omega)).mp c_1
    refine lv_iload_n hx hb dX6_yearsToBest_49 rfl (lv_at hl 2 rfl) ?_
    exact W.iret (v := nI f) hx hb hr (fun t ht hW => ⟨⟨nI f, (), rfl, (by rw [hf, show k = 10 by omega]), trivial⟩, hS.F ht⟩) hS.2.2 dX6_yearsToBest_50
  · skip
    replace c_1 : ¬ 10 ≤ k := fun h => c_1 ((nI_leI (a := 10) (b := k) (by omega) (by omega)).mpr h)
    refine lv_aload_n hx hb dX6_yearsToBest_10 rfl (lv_at hl 0 rfl) ?_
    refine lv_iload_n hx hb dX6_yearsToBest_11 rfl (lv_at hl 1 rfl) ?_
    refine lv_aload_n hx hb dX6_yearsToBest_12 rfl (lv_at hl 0 rfl) ?_
    refine va_get (D := D) (ci := 6) (v := .ref xn) (C := RX6) (T := TX6) (N := 12) hx hb hts (fun w h => List.mem_cons_of_mem _ (List.mem_append_left _ (List.mem_append_left _ (List.mem_append_left _ (List.mem_append_left _ (List.mem_append_left _ (List.mem_append_left _ (List.mem_append_right _ h)))))))) hown hK hPr 0 rfl rfl 4 (by decide) (hts (Cond.fieldLink RX6 29 "JamDays" "now" "LJamDays$Days;") (List.mem_of_getElem? (i := 1) rfl)) (fun _ h9 => h9) rfl dX6_yearsToBest_13 ?_
    refine va_get (D := D) (ci := 1) (v := .int y) (C := RX1) (T := TX1) (N := 9) hx hb hts (fun w h => List.mem_cons_of_mem _ (List.mem_append_left _ (List.mem_append_left _ (List.mem_append_left _ (List.mem_append_left _ (List.mem_append_left _ (List.mem_append_right _ h))))))) hown hK hPr 2 rfl rfl 0 (by decide) (hts (Cond.fieldLink RX6 91 "JamDays$Days" "year" "I") (List.mem_of_getElem? (i := 2) rfl)) (fun _ h9 => h9) rfl dX6_yearsToBest_16 ?_
    refine lv_iload_n hx hb dX6_yearsToBest_19 rfl (lv_at hl 3 rfl) ?_
    refine lv_iadd hx hb dX6_yearsToBest_20 ?_
    have hPc_2 := hPr.sub (ws' := [(x, .inr (6, [a0, a1, .ref xj, .int (nI n), .ref xn, a5, a6, a7, a8, a9, a10, a11])), (xj, .inl (cJ, 6, .inr (.inr (.inr (.inr jr)))))]) [0, 1] rfl
    refine jcalli (va_runV (As := [.int (nI j), .int (y + (nI k))]) (rest := []) ⟨hx, hb, hml, hown, hts⟩ (c_firstWorth l D cI cJ x xj n a0 a1 (.ref xn) a5 a6 a7 a8 a9 a10 a11 jr jk jg js jm fw j (y + (nI k)) hj hn6 hfw H.size) (cwV 2 hts gX6_yearsToBest_X6_firstWorth rfl rfl rfl (by decide +kernel) ⟨Nat.le_of_ble_eq_true rfl, Nat.le_of_ble_eq_true rfl⟩) (jpreV hT (va_recv hK hPr (ci := 6) (q0 := 0) rfl rfl) ⟨hPc_2, hJ⟩) rfl rfl hl.1 rfl (lv_room (Nat.le_of_ble_eq_true rfl)) dX6_yearsToBest_21 ⟨(Nat.zero_le _), (Nat.zero_le _)⟩) hS hA (fun r_3 H locs hw_r_3 hkq hS => ?_)
    try dsimp only at hw_r_3
    have hPr := jkeep hPr hkq
    have hJ := hJ.kept hkq
    subst hw_r_3
    refine lv_aload_n hx hb dX6_yearsToBest_24 rfl (lv_at hl 0 rfl) ?_
    refine lv_iload_n hx hb dX6_yearsToBest_25 rfl (lv_at hl 1 rfl) ?_
    refine lv_aload_n hx hb dX6_yearsToBest_26 rfl (lv_at hl 0 rfl) ?_
    refine va_get (D := D) (ci := 6) (v := .ref xn) (C := RX6) (T := TX6) (N := 12) hx hb hts (fun w h => List.mem_cons_of_mem _ (List.mem_append_left _ (List.mem_append_left _ (List.mem_append_left _ (List.mem_append_left _ (List.mem_append_left _ (List.mem_append_left _ (List.mem_append_right _ h)))))))) hown hK hPr 0 rfl rfl 4 (by decide) (hts (Cond.fieldLink RX6 29 "JamDays" "now" "LJamDays$Days;") (List.mem_of_getElem? (i := 1) rfl)) (fun _ h9 => h9) rfl dX6_yearsToBest_27 ?_
    refine va_get (D := D) (ci := 1) (v := .int y) (C := RX1) (T := TX1) (N := 9) hx hb hts (fun w h => List.mem_cons_of_mem _ (List.mem_append_left _ (List.mem_append_left _ (List.mem_append_left _ (List.mem_append_left _ (List.mem_append_left _ (List.mem_append_right _ h))))))) hown hK hPr 2 rfl rfl 0 (by decide) (hts (Cond.fieldLink RX6 91 "JamDays$Days" "year" "I") (List.mem_of_getElem? (i := 2) rfl)) (fun _ h9 => h9) rfl dX6_yearsToBest_30 ?_
    refine lv_iload_n hx hb dX6_yearsToBest_33 rfl (lv_at hl 2 rfl) ?_
    refine lv_iadd hx hb dX6_yearsToBest_34 ?_
    have hPc_4 := hPr.sub (ws' := [(x, .inr (6, [a0, a1, .ref xj, .int (nI n), .ref xn, a5, a6, a7, a8, a9, a10, a11])), (xj, .inl (cJ, 6, .inr (.inr (.inr (.inr jr)))))]) [0, 1] rfl
    refine jcalli (va_runV (As := [.int (nI j), .int (y + (nI f))]) (rest := [.int (fw j (y + (nI k)))]) ⟨hx, hb, hml, hown, hts⟩ (c_firstWorth l D cI cJ x xj n a0 a1 (.ref xn) a5 a6 a7 a8 a9 a10 a11 jr jk jg js jm fw j (y + (nI f)) hj hn6 hfw H.size) (cwV 2 hts gX6_yearsToBest_X6_firstWorth rfl rfl rfl (by decide +kernel) ⟨Nat.le_of_ble_eq_true rfl, Nat.le_of_ble_eq_true rfl⟩) (jpreV hT (va_recv hK hPr (ci := 6) (q0 := 0) rfl rfl) ⟨hPc_4, hJ⟩) rfl rfl hl.1 rfl (lv_room (Nat.le_of_ble_eq_true rfl)) dX6_yearsToBest_35 ⟨(Nat.zero_le _), (Nat.zero_le _)⟩) hS hA (fun r_5 H locs hw_r_5 hkq hS => ?_)
    try dsimp only at hw_r_5
    have hPr := jkeep hPr hkq
    have hJ := hJ.kept hkq
    subst hw_r_5
    refine lv_icmp_le (tgt := 43) hx hb dX6_yearsToBest_38 (by decide) (fun c_6 => ?_) (fun c_6 => ?_)
    · skip
      refine lv_iinc (v := nI (k + 1)) (lv' := [(3, .int (nI (k + 1))), (0, .ref x), (1, .int (nI j)), (2, .int (nI f))]) hx hb dX6_yearsToBest_43 hl (k := 3) rfl ((rfl : nI k + Int32.ofInt 1 = nI k + nI 1).trans (nI_add k 1)) (by decide) rfl (fun ls hl => ?_)
      refine lv_goto (tgt := 4) hx hb dX6_yearsToBest_46 (by decide) ?_
      exact ih_4 (k + 1, f) _ _ _ ⟨hPr, hJ, hS, lv_sub hl [1, 2, 3, 0] rfl, (by omega), (by omega), (by rw [jyb, if_pos (by rw [← hf]; exact c_6)]; exact hf)⟩ (by dsimp only; omega)
    · skip
      refine lv_iload_n hx hb dX6_yearsToBest_41 rfl (lv_at hl 3 rfl) ?_
      refine lv_istore_n (lv' := [(2, .int (nI k)), (0, .ref x), (1, .int (nI j)), (3, .int (nI k))]) hx hb dX6_yearsToBest_42 rfl hl (by decide) rfl (fun ls hl => ?_)
      refine lv_iinc (v := nI (k + 1)) (lv' := [(3, .int (nI (k + 1))), (2, .int (nI k)), (0, .ref x), (1, .int (nI j))]) hx hb dX6_yearsToBest_43 hl (k := 3) rfl ((rfl : nI k + Int32.ofInt 1 = nI k + nI 1).trans (nI_add k 1)) (by decide) rfl (fun ls hl => ?_)
      refine lv_goto (tgt := 4) hx hb dX6_yearsToBest_46 (by decide) ?_
      exact ih_4 (k + 1, k) _ _ _ ⟨hPr, hJ, hS, lv_sub hl [2, 3, 1, 0] rfl, (by omega), (by omega), (by rw [jyb, if_neg (by rw [← hf]; exact c_6)])⟩ (by dsimp only; omega)

def jemp (sp : Nat → Int32) : Nat → Int32
  | 0 => 0
  | k + 1 => if sp k = 0 then jemp sp k + 1 else jemp sp k
set_option maxHeartbeats 4000000 in
set_option maxRecDepth 100000 in
theorem c_emptyJars (l : Launch) (D : va_G) (cI cJ : ClassId) (x : Nat) (xn : Nat) (ns : Nat) (n : Nat) (a0 : Value) (a1 : Value) (a2 : Value) (a5 : Value) (a6 : Value) (a7 : Value) (a8 : Value) (a9 : Value) (a10 : Value) (a11 : Value) (b0 : Value) (b1 : Value) (b2 : Value) (b3 : Value) (b4 : Value) (b6 : Value) (b7 : Value) (b8 : Value) (sp : Nat → Int32) (hn6 : n ≤ 6) : jRi l yX6_emptyJars wsX6_emptyJars ({ frames := 1, cells := 0, slots := 0, locals := 21 }) [.ref x] D cI cJ (fun H => va_P D vwCl [(x, .inr (6, [a0, a1, a2, .int (nI n), .ref xn, a5, a6, a7, a8, a9, a10, a11])), (xn, .inr (1, [b0, b1, b2, b3, b4, .ref ns, b6, b7, b8])), (ns, .inl (cI, 6, .inl sp))] H) (fun r => r = jemp sp n) := by
  intro sz
  refine Met.ofW (cc := cX6_emptyJars) (maxL := 3) (ret := (some .int)) (by decide) rfl ?_
  intro p e s m args below meth c s₁ B hml hv
  obtain ⟨rfl, hsz, hT, hPr⟩ := hv
  have hK := hT.1
  have hx := B.exec
  have hb := B.bytes
  have hr := B.returns
  have hts := atoms_spec (ws := wsX6_emptyJars) B.pre
  have hown : s.vm.findClass RX6 = some m.cls := findClass_of_methodNamed B.named
  have hlocks := B.notSynchronized
  subst hsz
  generalize hAe : va_A [] s.heap.size = A
  have hA : ∀ q : Nat, s.heap.size ≤ q → A q := fun q h => by rw [← hAe]; exact Or.inr h
  have hS : va_S A s.heap s.heap [] := va_S.rf
  have hl := lv_entry ([.ref x] : List Value) (n := 3) (Nat.le_of_ble_eq_true rfl)
  rw [lg_entry_eq]
  generalize (lg_sl ([.ref x]) ++ List.replicate (3 - (lg_sl ([.ref x])).length) Slot.unset).toArray = ls at hl ⊢
  have hl : lv_has ls 3 [(0, .ref x)] := hl
  refine lv_iconst (v := 0) hx hb dX6_emptyJars_0 (by decide) ?_
  refine lv_istore_n (lv' := [(1, .int 0), (0, .ref x)]) hx hb dX6_emptyJars_1 rfl hl (by decide) rfl (fun ls hl => ?_)
  refine lv_iconst (v := 0) hx hb dX6_emptyJars_2 (by decide) ?_
  refine lv_istore_n (lv' := [(2, .int 0), (1, .int 0), (0, .ref x)]) hx hb dX6_emptyJars_3 rfl hl (by decide) rfl (fun ls hl => ?_)
  refine jloop (α := Nat × Int32) (fun (x9 : Nat × Int32) (H : Heap) (locs : List Loc) (ls : Array Slot) => match x9 with | (k, acc) => (va_P D vwCl [(x, .inr (6, [a0, a1, a2, .int (nI n), .ref xn, a5, a6, a7, a8, a9, a10, a11])), (xn, .inr (1, [b0, b1, b2, b3, b4, .ref ns, b6, b7, b8])), (ns, .inl (cI, 6, .inl sp))] H) ∧ (va_S A s.heap H locs) ∧ (lv_has ls 3 [(0, .ref x), (1, .int acc), (2, .int (nI k))]) ∧ (k ≤ n) ∧ (acc = jemp sp k)) (fun (x9 : Nat × Int32) => match x9 with | (k, acc) => n - k) (fun x9 H locs ls hx9 ih_4 => ?_) (0, 0) _ _ _ ⟨hPr, hS, lv_sub hl [2, 1, 0] rfl, (by omega), rfl⟩
  obtain ⟨k, acc⟩ := x9
  obtain ⟨hPr, hS, hl, hk9, hac⟩ := hx9
  refine lv_iload_n hx hb dX6_emptyJars_4 rfl (lv_at hl 2 rfl) ?_
  refine lv_aload_n hx hb dX6_emptyJars_5 rfl (lv_at hl 0 rfl) ?_
  refine va_get (D := D) (ci := 6) (v := .int (nI n)) (C := RX6) (T := TX6) (N := 12) hx hb hts (fun w h => List.mem_cons_of_mem _ (List.mem_append_left _ (List.mem_append_right _ h))) hown hK hPr 0 rfl rfl 3 (by decide) (hts (Cond.fieldLink RX6 23 "JamDays" "jarCount" "I") (List.mem_of_getElem? (i := 1) rfl)) (fun _ h9 => h9) rfl dX6_emptyJars_6 ?_
  refine lv_icmp_ge (tgt := 32) hx hb dX6_emptyJars_9 (by decide) (fun c_1 => ?_) (fun c_1 => ?_)
  · skip
    replace c_1 : n ≤ k := (nI_leI (a := n) (b := k) (by omega) (by omega)).mp c_1
    refine lv_iload_n hx hb dX6_emptyJars_32 rfl (lv_at hl 1 rfl) ?_
    exact W.iret (v := acc) hx hb hr (fun t ht hW => ⟨⟨acc, (), rfl, (by rw [hac, show k = n by omega]), trivial⟩, hS.F ht⟩) hS.2.2 dX6_emptyJars_33
  · skip
    replace c_1 : ¬ n ≤ k := fun h => c_1 ((nI_leI (a := n) (b := k) (by omega) (by omega)).mpr h)
    refine lv_aload_n hx hb dX6_emptyJars_12 rfl (lv_at hl 0 rfl) ?_
    refine va_get (D := D) (ci := 6) (v := .ref xn) (C := RX6) (T := TX6) (N := 12) hx hb hts (fun w h => List.mem_cons_of_mem _ (List.mem_append_left _ (List.mem_append_right _ h))) hown hK hPr 0 rfl rfl 4 (by decide) (hts (Cond.fieldLink RX6 29 "JamDays" "now" "LJamDays$Days;") (List.mem_of_getElem? (i := 2) rfl)) (fun _ h9 => h9) rfl dX6_emptyJars_13 ?_
    refine lv_iload_n hx hb dX6_emptyJars_16 rfl (lv_at hl 2 rfl) ?_
    have hPc_2 := hPr.sub (ws' := [(xn, .inr (1, [b0, b1, b2, b3, b4, .ref ns, b6, b7, b8])), (ns, .inl (cI, 6, .inl sp))]) [1, 2] rfl
    refine jcalli (va_runV (As := [.int (nI k)]) (rest := []) ⟨hx, hb, hml, hown, hts⟩ (c_spoonsOf l D cI cJ xn ns b0 b1 b2 b3 b4 b6 b7 b8 sp k (by omega) H.size) (cwV 1 hts gX6_emptyJars_X1_spoonsOf rfl rfl rfl (by decide +kernel) ⟨Nat.le_of_ble_eq_true rfl, Nat.le_of_ble_eq_true rfl⟩) (jpreV hT (va_recv hK hPr (ci := 1) (q0 := 1) rfl rfl) hPc_2) rfl rfl hl.1 rfl (lv_room (Nat.le_of_ble_eq_true rfl)) dX6_emptyJars_17 ⟨(Nat.zero_le _), (Nat.zero_le _)⟩) hS hA (fun r_3 H locs hw_r_3 hkq hS => ?_)
    try dsimp only at hw_r_3
    have hPr := jkeep hPr hkq
    subst hw_r_3
    refine lv_if_ne (tgt := 26) hx hb dX6_emptyJars_20 (by decide) (fun c_4 => ?_) (fun c_4 => ?_)
    · skip
      refine lv_iinc (v := nI (k + 1)) (lv' := [(2, .int (nI (k + 1))), (0, .ref x), (1, .int acc)]) hx hb dX6_emptyJars_26 hl (k := 2) rfl ((rfl : nI k + Int32.ofInt 1 = nI k + nI 1).trans (nI_add k 1)) (by decide) rfl (fun ls hl => ?_)
      refine lv_goto (tgt := 4) hx hb dX6_emptyJars_29 (by decide) ?_
      exact ih_4 (k + 1, acc) _ _ _ ⟨hPr, hS, lv_sub hl [1, 2, 0] rfl, (by omega), (by rw [hac]; simp [jemp, c_4])⟩ (by dsimp only; omega)
    · skip
      refine lv_iinc (v := acc + 1) (lv' := [(1, .int (acc + 1)), (0, .ref x), (2, .int (nI k))]) hx hb dX6_emptyJars_23 hl (k := 1) rfl rfl (by decide) rfl (fun ls hl => ?_)
      refine lv_iinc (v := nI (k + 1)) (lv' := [(2, .int (nI (k + 1))), (1, .int (acc + 1)), (0, .ref x)]) hx hb dX6_emptyJars_26 hl (k := 2) rfl ((rfl : nI k + Int32.ofInt 1 = nI k + nI 1).trans (nI_add k 1)) (by decide) rfl (fun ls hl => ?_)
      refine lv_goto (tgt := 4) hx hb dX6_emptyJars_29 (by decide) ?_
      exact ih_4 (k + 1, acc + 1) _ _ _ ⟨hPr, hS, lv_sub hl [2, 1, 0] rfl, (by omega), (by rw [hac]; simp [jemp, c_4])⟩ (by dsimp only; omega)

def jag (fw : Nat → Int32 → Int32) (j : Nat) (tY tW : Nat → Int32) : Nat → Bool
  | 0 => true
  | k + 1 => jag fw j tY tW k && decide (fw j (tY k) = tW k)
theorem jag_no {fw : Nat → Int32 → Int32} {j : Nat} {tY tW : Nat → Int32} {k : Nat} (h : ¬ fw j (tY k) = tW k) : ∀ n : Nat, k < n → jag fw j tY tW n = false
  | 0, h1 => absurd h1 (Nat.not_lt_zero _)
  | n + 1, h1 => by
    unfold jag
    by_cases h2 : k = n
    · subst h2; simp [h]
    · rw [jag_no h n (by omega)]; rfl
def jcan (B : Nat → Bool) : Nat → Int32
  | 0 => 0
  | k + 1 => if B k then jcan B k ||| ((1 : Int32) <<< (nI k &&& 31)) else jcan B k
def jlk (fw : Nat → Int32 → Int32) (o : Int32) (j : Nat) (y : Int32) : Nat → Int32
  | 0 => 0
  | k + 1 => if jbit o k = true ∧ fw k y = fw j y then jlk fw o j y k + 1 else jlk fw o j y k
def jlw (fw : Nat → Int32 → Int32) (o : Int32) (n : Nat) (y : Int32) : Nat → Int32
  | 0 => 0
  | k + 1 => if jbit o k then (if jlw fw o n y k < jlk fw o k y n then jlk fw o k y n else jlw fw o n y k) else jlw fw o n y k
def jtw (lw : Nat → Int32) : Nat → Int32
  | 0 => 7
  | k + 1 => if jtw lw k ≤ lw k then jtw lw k else lw k
def jtf (lw : Nat → Int32) : Nat → Int32
  | 0 => -1
  | k + 1 => if jtw lw k ≤ lw k then jtf lw k else nI k
