/-- the reference's row behind the last jar -/
def md0 (T : Nat → Int32) (n : Nat) : Nat → Nat → Int32
  | 0 => T
  | k + 1 => upd (md0 T n k) (13 * n + k) (if k = 0 then 0 else -99999)
def mdm (f : Nat → Int32) : Nat → Int32
  | 0 => -99999
  | k + 1 => if f k ≤ mdm f k then mdm f k else f k
def mdr (wo : Nat → Nat → Int32) (T : Nat → Int32) (j : Nat) : Nat → Nat → Int32
  | 0 => T
  | k + 1 => upd (mdr wo T j k) (13 * j + k) (mdm (fun c => wo j c + mdr wo T j k (13 * (j + 1) + k - c)) (k + 1))
def mdl (wo : Nat → Nat → Int32) (T : Nat → Int32) (n : Nat) : Nat → Nat → Int32
  | 0 => md0 T n 13
  | d + 1 => mdr wo (mdl wo T n d) (n - (d + 1)) 13
theorem mdl_s {wo : Nat → Nat → Int32} {T : Nat → Int32} {n j : Nat} {Ty : Nat → Int32} (hj : j + 1 ≤ n) (hT : Ty = mdl wo T n (n - (j + 1))) : mdr wo Ty j 13 = mdl wo T n (n - j) := by
  have e : n - j = (n - (j + 1)) + 1 := by omega
  have e2 : n - ((n - (j + 1)) + 1) = j := by omega
  rw [e]
  simp only [mdl, e2]
  rw [← hT]
set_option maxHeartbeats 4000000 in
set_option maxRecDepth 100000 in
theorem c_layTable (l : Launch) (D : va_G) (cI cJ : ClassId) (z : Nat) (zr : Nat) (zb : Nat) (n : Nat) (a0 : Value) (a1 : Value) (a4 : Value) (a5 : Value) (a6 : Value) (a7 : Value) (a9 : Value) (a11 : Value) (a12 : Value) (a13 : Value) (a14 : Value) (a15 : Value) (a16 : Value) (a17 : Value) (a18 : Value) (a19 : Value) (a20 : Value) (a21 : Value) (a22 : Value) (a23 : Value) (a24 : Value) (Rw : Nat → Int32) (T : Nat → Int32) (y : Int32) (hn6 : n ≤ 6) : jWv l yX7_layTable wsX7_layTable ({ frames := 4, cells := 0, slots := 0, locals := 92 }) 0 0 [.ref z] D cI cJ [(z, .inr (7, [a0, a1, .int (nI n), .int y, a4, a5, a6, a7, .ref zr, a9, .ref zb, a11, a12, a13, a14, a15, a16, a17, a18, a19, a20, a21, a22, a23, a24])), (zr, .inl (cI, 30, .inl Rw)), (zb, .inl (cI, 91, .inl T))] (fun H => True) (fun H => va_P D vwCl [(z, .inr (7, [a0, a1, .int (nI n), .int y, a4, a5, a6, a7, .ref zr, a9, .ref zb, a11, a12, a13, a14, a15, a16, a17, a18, a19, a20, a21, a22, a23, a24])), (zr, .inl (cI, 30, .inl Rw)), (zb, .inl (cI, 91, .inl (mdl (mwo Rw y) T n n)))] H) := by
  intro sz
  refine Met.ofW (cc := cX7_layTable) (maxL := 6) (ret := none) (by decide) rfl ?_
  intro p e s m args below meth c s₁ B hml hv
  obtain ⟨rfl, hsz, hT, hP, hD0, _⟩ := hv
  have hK := hT.1
  have hx := B.exec
  have hb := B.bytes
  have hr := B.returns
  have hts := atoms_spec (ws := wsX7_layTable) B.pre
  have hown : s.vm.findClass RX7 = some m.cls := findClass_of_methodNamed B.named
  have hlocks := B.notSynchronized
  subst hsz
  have hD := hD0.self (sz := s.heap.size)
  generalize hAe : va_A [(z, .inr (7, [a0, a1, .int (nI n), .int y, a4, a5, a6, a7, .ref zr, a9, .ref zb, a11, a12, a13, a14, a15, a16, a17, a18, a19, a20, a21, a22, a23, a24])), (zr, .inl (cI, 30, .inl Rw)), (zb, .inl (cI, 91, .inl T))] s.heap.size = A at hD ⊢
  have hA : ∀ q : Nat, s.heap.size ≤ q → A q := fun q h => by rw [← hAe]; exact Or.inr h
  have hS : va_S A s.heap s.heap [] := va_S.rf
  have hl := lv_entry ([.ref z] : List Value) (n := 6) (Nat.le_of_ble_eq_true rfl)
  rw [lg_entry_eq]
  generalize (lg_sl ([.ref z]) ++ List.replicate (6 - (lg_sl ([.ref z])).length) Slot.unset).toArray = ls at hl ⊢
  have hl : lv_has ls 6 [(0, .ref z)] := hl
  refine lv_iconst (v := 0) hx hb dX7_layTable_0 (by decide) ?_
  refine lv_istore_n (lv' := [(1, .int 0), (0, .ref z)]) hx hb dX7_layTable_1 rfl hl (by decide) rfl (fun ls hl => ?_)
  refine jloop (α := Nat × (Nat → Int32)) (fun (x9 : Nat × (Nat → Int32)) (H : Heap) (locs : List Loc) (ls : Array Slot) => match x9 with | (k, Tx) => (va_P D vwCl [(z, .inr (7, [a0, a1, .int (nI n), .int y, a4, a5, a6, a7, .ref zr, a9, .ref zb, a11, a12, a13, a14, a15, a16, a17, a18, a19, a20, a21, a22, a23, a24])), (zr, .inl (cI, 30, .inl Rw)), (zb, .inl (cI, 91, .inl Tx))] H) ∧ (va_D A [(z, .inr (7, [a0, a1, .int (nI n), .int y, a4, a5, a6, a7, .ref zr, a9, .ref zb, a11, a12, a13, a14, a15, a16, a17, a18, a19, a20, a21, a22, a23, a24])), (zr, .inl (cI, 30, .inl Rw)), (zb, .inl (cI, 91, .inl Tx))]) ∧ (va_S A s.heap H locs) ∧ (lv_has ls 6 [(0, .ref z), (1, .int (nI k))]) ∧ (k ≤ 13) ∧ (Tx = md0 T n k)) (fun (x9 : Nat × (Nat → Int32)) => match x9 with | (k, Tx) => 13 - k) (fun x9 H locs ls hx9 ih_2 => ?_) (0, T) _ _ _ ⟨hP, hD, hS, lv_sub hl [1, 0] rfl, (by omega), rfl⟩
  obtain ⟨k, Tx⟩ := x9
  obtain ⟨hP, hD, hS, hl, hk9, hM⟩ := hx9
  refine lv_iload_n hx hb dX7_layTable_2 rfl (lv_at hl 1 rfl) ?_
  refine lv_bipush (v := 13) hx hb dX7_layTable_3 (by decide) ?_
  refine lv_icmp_ge (tgt := 38) hx hb dX7_layTable_5 (by decide) (fun c_1 => ?_) (fun c_1 => ?_)
  · skip
    replace c_1 : 13 ≤ k := (nI_leI (a := 13) (b := k) (by omega) (by omega)).mp c_1
    refine lv_aload_n hx hb dX7_layTable_38 rfl (lv_at hl 0 rfl) ?_
    refine va_get (D := D) (ci := 7) (v := .int (nI n)) (C := RX7) (T := TX7) (N := 25) hx hb hts (fun w h => List.mem_cons_of_mem _ (List.mem_append_right _ h)) hown hK hP 0 rfl rfl 2 (by decide) (hts (Cond.fieldLink RX7 63 "JamDaysModel" "jars" "I") (List.mem_of_getElem? (i := 2) rfl)) (fun _ h9 => h9) rfl dX7_layTable_39 ?_
    refine lv_iconst (v := 1) hx hb dX7_layTable_42 (by decide) ?_
    refine lv_isub hx hb dX7_layTable_43 ?_
    refine jv_as (y := nI n + (-1)) (Int32.sub_eq_add_neg _ _) ?_
    refine lv_istore_n (lv' := [(1, .int (nI n + (-1))), (0, .ref z)]) hx hb dX7_layTable_44 rfl hl (by decide) rfl (fun ls hl => ?_)
    refine jloop (α := Nat × (Nat → Int32)) (fun (x9 : Nat × (Nat → Int32)) (H : Heap) (locs : List Loc) (ls : Array Slot) => match x9 with | (i, Ty) => (va_P D vwCl [(z, .inr (7, [a0, a1, .int (nI n), .int y, a4, a5, a6, a7, .ref zr, a9, .ref zb, a11, a12, a13, a14, a15, a16, a17, a18, a19, a20, a21, a22, a23, a24])), (zr, .inl (cI, 30, .inl Rw)), (zb, .inl (cI, 91, .inl Ty))] H) ∧ (va_D A [(z, .inr (7, [a0, a1, .int (nI n), .int y, a4, a5, a6, a7, .ref zr, a9, .ref zb, a11, a12, a13, a14, a15, a16, a17, a18, a19, a20, a21, a22, a23, a24])), (zr, .inl (cI, 30, .inl Rw)), (zb, .inl (cI, 91, .inl Ty))]) ∧ (va_S A s.heap H locs) ∧ (lv_has ls 6 [(0, .ref z), (1, .int (nI i + (-1)))]) ∧ (i ≤ n) ∧ (Ty = mdl (mwo Rw y) T n (n - i))) (fun (x9 : Nat × (Nat → Int32)) => match x9 with | (i, Ty) => i) (fun x9 H locs ls hx9 ih_45 => ?_) (n, Tx) _ _ _ ⟨hP, hD, hS, lv_sub hl [1, 0] rfl, (by omega), (by rw [Nat.sub_self, hM, show k = 13 by omega]; rfl)⟩
    obtain ⟨i, Ty⟩ := x9
    obtain ⟨hP, hD, hS, hl, hi9, hMy⟩ := hx9
    refine lv_iload_n hx hb dX7_layTable_45 rfl (lv_at hl 1 rfl) ?_
    rcases i with _ | j
    · skip
      refine jv_as (y := -1) (by decide) ?_
      rw [show nI 0 + (-1) = (-1 : Int32) from by decide] at hl
      refine lv_if_lt (tgt := 138) hx hb dX7_layTable_46 (by decide) (fun c_2 => ?_) (fun c_2 => ?_)
      · skip
        exact W.vret hx hb hr (fun t ht hW => ⟨⟨(), rfl, trivial, by dsimp only; rw [ht]; exact (by rw [Nat.sub_zero] at hMy; rw [← hMy]; exact hP)⟩, hS.F ht⟩) hS.2.2 dX7_layTable_138
      · skip
        exact absurd c_2 (by decide)
    · skip
      refine jv_as (y := nI j) (pk_m1 j) ?_
      rw [pk_m1] at hl
      have hj : j < n := by omega
      refine lv_if_lt (tgt := 138) hx hb dX7_layTable_46 (by decide) (fun c_3 => ?_) (fun c_3 => ?_)
      · skip
        replace c_3 : j < 0 := (nI_ltI (a := j) (b := 0) (by omega) (by omega)).mp c_3
        exact absurd c_3 (by omega)
      · skip
        replace c_3 : ¬ j < 0 := fun h => c_3 ((nI_ltI (a := j) (b := 0) (by omega) (by omega)).mpr h)
        refine lv_iconst (v := 0) hx hb dX7_layTable_49 (by decide) ?_
        refine lv_istore_n (lv' := [(2, .int 0), (0, .ref z), (1, .int (nI j))]) hx hb dX7_layTable_50 rfl hl (by decide) rfl (fun ls hl => ?_)
        refine jloop (α := Nat × (Nat → Int32)) (fun (x9 : Nat × (Nat → Int32)) (H : Heap) (locs : List Loc) (ls : Array Slot) => match x9 with | (cq, Tz) => (va_P D vwCl [(z, .inr (7, [a0, a1, .int (nI n), .int y, a4, a5, a6, a7, .ref zr, a9, .ref zb, a11, a12, a13, a14, a15, a16, a17, a18, a19, a20, a21, a22, a23, a24])), (zr, .inl (cI, 30, .inl Rw)), (zb, .inl (cI, 91, .inl Tz))] H) ∧ (va_D A [(z, .inr (7, [a0, a1, .int (nI n), .int y, a4, a5, a6, a7, .ref zr, a9, .ref zb, a11, a12, a13, a14, a15, a16, a17, a18, a19, a20, a21, a22, a23, a24])), (zr, .inl (cI, 30, .inl Rw)), (zb, .inl (cI, 91, .inl Tz))]) ∧ (va_S A s.heap H locs) ∧ (lv_has ls 6 [(0, .ref z), (1, .int (nI j)), (2, .int (nI cq))]) ∧ (cq ≤ 13) ∧ (Tz = mdr (mwo Rw y) Ty j cq)) (fun (x9 : Nat × (Nat → Int32)) => match x9 with | (cq, Tz) => 13 - cq) (fun x9 H locs ls hx9 ih_51 => ?_) (0, Ty) _ _ _ ⟨hP, hD, hS, lv_sub hl [1, 2, 0] rfl, (by omega), rfl⟩
        obtain ⟨cq, Tz⟩ := x9
        obtain ⟨hP, hD, hS, hl, hc9, hMz⟩ := hx9
        refine lv_iload_n hx hb dX7_layTable_51 rfl (lv_at hl 2 rfl) ?_
        refine lv_bipush (v := 13) hx hb dX7_layTable_52 (by decide) ?_
        refine lv_icmp_ge (tgt := 132) hx hb dX7_layTable_54 (by decide) (fun c_4 => ?_) (fun c_4 => ?_)
        · skip
          replace c_4 : 13 ≤ cq := (nI_leI (a := 13) (b := cq) (by omega) (by omega)).mp c_4
          obtain rfl : cq = 13 := by omega
          refine lv_iinc (v := (nI j) + (-1)) (lv' := [(1, .int ((nI j) + (-1))), (0, .ref z), (2, .int (nI 13))]) hx hb dX7_layTable_132 hl (k := 1) rfl rfl (by decide) rfl (fun ls hl => ?_)
          refine lv_goto (tgt := 45) hx hb dX7_layTable_135 (by decide) ?_
          exact ih_45 (j, Tz) _ _ _ ⟨hP, hD, hS, lv_sub hl [1, 0] rfl, (by omega), (by rw [hMz]; exact mdl_s hi9 hMy)⟩ (by dsimp only; omega)
        · skip
          replace c_4 : ¬ 13 ≤ cq := fun h => c_4 ((nI_leI (a := 13) (b := cq) (by omega) (by omega)).mpr h)
          refine lv_ldc (v := (-99999)) hx hb hown (hts (Cond.constant RX7 91 (-99999)) (List.mem_of_getElem? (i := 3) rfl)) dX7_layTable_57 ?_
          refine lv_istore_n (lv' := [(3, .int (-99999)), (0, .ref z), (1, .int (nI j)), (2, .int (nI cq))]) hx hb dX7_layTable_59 rfl hl (by decide) rfl (fun ls hl => ?_)
          refine lv_iconst (v := 0) hx hb dX7_layTable_60 (by decide) ?_
          refine lv_istore (lv' := [(4, .int 0), (3, .int (-99999)), (0, .ref z), (1, .int (nI j)), (2, .int (nI cq))]) hx hb dX7_layTable_61 hl (by decide) rfl (fun ls hl => ?_)
          refine jloop (α := Nat × Int32) (fun (x9 : Nat × Int32) (H : Heap) (locs : List Loc) (ls : Array Slot) => match x9 with | (c, bv) => (va_P D vwCl [(z, .inr (7, [a0, a1, .int (nI n), .int y, a4, a5, a6, a7, .ref zr, a9, .ref zb, a11, a12, a13, a14, a15, a16, a17, a18, a19, a20, a21, a22, a23, a24])), (zr, .inl (cI, 30, .inl Rw)), (zb, .inl (cI, 91, .inl Tz))] H) ∧ (va_D A [(z, .inr (7, [a0, a1, .int (nI n), .int y, a4, a5, a6, a7, .ref zr, a9, .ref zb, a11, a12, a13, a14, a15, a16, a17, a18, a19, a20, a21, a22, a23, a24])), (zr, .inl (cI, 30, .inl Rw)), (zb, .inl (cI, 91, .inl Tz))]) ∧ (va_S A s.heap H locs) ∧ (lv_has ls 6 [(0, .ref z), (1, .int (nI j)), (2, .int (nI cq)), (3, .int bv), (4, .int (nI c))]) ∧ (c ≤ cq + 1) ∧ (bv = mdm (fun c => mwo Rw y j c + Tz (13 * (j + 1) + cq - c)) c)) (fun (x9 : Nat × Int32) => match x9 with | (c, bv) => cq + 1 - c) (fun x9 H locs ls hx9 ih_63 => ?_) (0, (-99999)) _ _ _ ⟨hP, hD, hS, lv_sub hl [2, 3, 4, 1, 0] rfl, (by omega), rfl⟩
          obtain ⟨c, bv⟩ := x9
          obtain ⟨hP, hD, hS, hl, hd9, hB⟩ := hx9
          refine lv_iload hx hb dX7_layTable_63 (lv_at hl 4 rfl) ?_
          refine lv_iload_n hx hb dX7_layTable_65 rfl (lv_at hl 2 rfl) ?_
          refine lv_icmp_gt (tgt := 114) hx hb dX7_layTable_66 (by decide) (fun c_5 => ?_) (fun c_5 => ?_)
          · skip
            replace c_5 : cq < c := (nI_ltI (a := cq) (b := c) (by omega) (by omega)).mp c_5
            refine lv_aload_n hx hb dX7_layTable_114 rfl (lv_at hl 0 rfl) ?_
            refine va_get (D := D) (ci := 7) (v := .ref zb) (C := RX7) (T := TX7) (N := 25) hx hb hts (fun w h => List.mem_cons_of_mem _ (List.mem_append_right _ h)) hown hK hP 0 rfl rfl 10 (by decide) (hts (Cond.fieldLink RX7 16 "JamDaysModel" "table" "[I") (List.mem_of_getElem? (i := 1) rfl)) (fun _ h9 => h9) rfl dX7_layTable_115 ?_
            refine lv_bipush (v := 13) hx hb dX7_layTable_118 (by decide) ?_
            refine lv_iload_n hx hb dX7_layTable_120 rfl (lv_at hl 1 rfl) ?_
            refine lv_imul hx hb dX7_layTable_121 ?_
            refine jv_as (y := nI (13 * j)) (pk_mul 13 j) ?_
            refine lv_iload_n hx hb dX7_layTable_122 rfl (lv_at hl 2 rfl) ?_
            refine lv_iadd hx hb dX7_layTable_123 ?_
            refine jv_as (y := nI ((13 * j) + cq)) (nI_add (13 * j) cq) ?_
            refine lv_iload_n hx hb dX7_layTable_124 rfl (lv_at hl 3 rfl) ?_
            refine jv_ast (k := (13 * j) + cq) (x := bv) hx hb hK hP hD hS 2 0 rfl rfl (by omega) (by decide) dX7_layTable_125 (fun H locs hP hD hS => ?_)
            have hP : va_P D vwCl [(z, .inr (7, [a0, a1, .int (nI n), .int y, a4, a5, a6, a7, .ref zr, a9, .ref zb, a11, a12, a13, a14, a15, a16, a17, a18, a19, a20, a21, a22, a23, a24])), (zr, .inl (cI, 30, .inl Rw)), (zb, .inl (cI, 91, .inl (upd Tz ((13 * j) + cq) bv)))] H := hP
            have hD : va_D A [(z, .inr (7, [a0, a1, .int (nI n), .int y, a4, a5, a6, a7, .ref zr, a9, .ref zb, a11, a12, a13, a14, a15, a16, a17, a18, a19, a20, a21, a22, a23, a24])), (zr, .inl (cI, 30, .inl Rw)), (zb, .inl (cI, 91, .inl (upd Tz ((13 * j) + cq) bv)))] := hD
            refine lv_iinc (v := nI (cq + 1)) (lv' := [(2, .int (nI (cq + 1))), (0, .ref z), (1, .int (nI j)), (3, .int bv), (4, .int (nI c))]) hx hb dX7_layTable_126 hl (k := 2) rfl ((rfl : nI cq + Int32.ofInt 1 = nI cq + nI 1).trans (nI_add cq 1)) (by decide) rfl (fun ls hl => ?_)
            refine lv_goto (tgt := 51) hx hb dX7_layTable_129 (by decide) ?_
            exact ih_51 (cq + 1, upd Tz ((13 * j) + cq) bv) _ _ _ ⟨hP, hD, hS, lv_sub hl [1, 2, 0] rfl, (by omega), (by rw [mdr, ← hMz, hB, show c = cq + 1 by omega])⟩ (by dsimp only; omega)
          · skip
            replace c_5 : ¬ cq < c := fun h => c_5 ((nI_ltI (a := cq) (b := c) (by omega) (by omega)).mpr h)
            refine lv_aload_n hx hb dX7_layTable_69 rfl (lv_at hl 0 rfl) ?_
            refine lv_iload_n hx hb dX7_layTable_70 rfl (lv_at hl 1 rfl) ?_
            refine lv_iload hx hb dX7_layTable_71 (lv_at hl 4 rfl) ?_
            have hPc_6 := hP.sub (ws' := [(z, .inr (7, [a0, a1, .int (nI n), .int y, a4, a5, a6, a7, .ref zr, a9, .ref zb, a11, a12, a13, a14, a15, a16, a17, a18, a19, a20, a21, a22, a23, a24])), (zr, .inl (cI, 30, .inl Rw))]) [0, 1] rfl
            refine jcalli (va_runV (As := [.int (nI j), .int (nI c)]) (rest := []) ⟨hx, hb, hml, hown, hts⟩ (c_worthOf l D cI cJ z zr a0 a1 (.int (nI n)) a4 a5 a6 a7 a9 (.ref zb) a11 a12 a13 a14 a15 a16 a17 a18 a19 a20 a21 a22 a23 a24 Rw y j c (by omega) H.size) (cwV 2 hts gX7_layTable_X7_worthOf rfl rfl rfl (by decide +kernel) ⟨Nat.le_of_ble_eq_true rfl, Nat.le_of_ble_eq_true rfl⟩) (jpreV hT (va_recv hK hP (ci := 7) (q0 := 0) rfl rfl) hPc_6) rfl rfl hl.1 rfl (lv_room (Nat.le_of_ble_eq_true rfl)) dX7_layTable_73 ⟨(Nat.zero_le _), (Nat.zero_le _)⟩) hS hA (fun r_7 H locs hw_r_7 hkq hS => ?_)
            try dsimp only at hw_r_7
            have hP := jkeep hP hkq
            subst hw_r_7
            refine lv_aload_n hx hb dX7_layTable_76 rfl (lv_at hl 0 rfl) ?_
            refine va_get (D := D) (ci := 7) (v := .ref zb) (C := RX7) (T := TX7) (N := 25) hx hb hts (fun w h => List.mem_cons_of_mem _ (List.mem_append_right _ h)) hown hK hP 0 rfl rfl 10 (by decide) (hts (Cond.fieldLink RX7 16 "JamDaysModel" "table" "[I") (List.mem_of_getElem? (i := 1) rfl)) (fun _ h9 => h9) rfl dX7_layTable_77 ?_
            refine lv_bipush (v := 13) hx hb dX7_layTable_80 (by decide) ?_
            refine lv_iload_n hx hb dX7_layTable_82 rfl (lv_at hl 1 rfl) ?_
            refine lv_iconst (v := 1) hx hb dX7_layTable_83 (by decide) ?_
            refine lv_iadd hx hb dX7_layTable_84 ?_
            refine jv_as (y := nI (j + 1)) (nI_add j 1) ?_
            refine lv_imul hx hb dX7_layTable_85 ?_
            refine jv_as (y := nI (13 * (j + 1))) (pk_mul 13 (j + 1)) ?_
            refine lv_iload_n hx hb dX7_layTable_86 rfl (lv_at hl 2 rfl) ?_
            refine lv_iadd hx hb dX7_layTable_87 ?_
            refine jv_as (y := nI ((13 * (j + 1)) + cq)) (nI_add (13 * (j + 1)) cq) ?_
            refine lv_iload hx hb dX7_layTable_88 (lv_at hl 4 rfl) ?_
            refine lv_isub hx hb dX7_layTable_90 ?_
            refine jv_as (y := nI (13 * (j + 1) + cq - c)) (pk_sub (by omega)) ?_
            refine jv_ald (k := 13 * (j + 1) + cq - c) hx hb hK hP 2 0 rfl rfl (by omega) (by decide) dX7_layTable_91 ?_
            refine lv_iadd hx hb dX7_layTable_92 ?_
            refine lv_istore (lv' := [(5, .int ((mwo Rw y j c) + (Tz (13 * (j + 1) + cq - c)))), (0, .ref z), (1, .int (nI j)), (2, .int (nI cq)), (3, .int bv), (4, .int (nI c))]) hx hb dX7_layTable_93 hl (by decide) rfl (fun ls hl => ?_)
            refine lv_iload hx hb dX7_layTable_95 (lv_at hl 0 rfl) ?_
            refine lv_iload_n hx hb dX7_layTable_97 rfl (lv_at hl 4 rfl) ?_
            refine lv_icmp_le (tgt := 106) hx hb dX7_layTable_98 (by decide) (fun c_8 => ?_) (fun c_8 => ?_)
            · skip
              refine lv_iload_n hx hb dX7_layTable_106 rfl (lv_at hl 4 rfl) ?_
              refine lv_istore_n (lv' := [(3, .int bv), (5, .int ((mwo Rw y j c) + (Tz (13 * (j + 1) + cq - c)))), (0, .ref z), (1, .int (nI j)), (2, .int (nI cq)), (4, .int (nI c))]) hx hb dX7_layTable_107 rfl hl (by decide) rfl (fun ls hl => ?_)
              refine lv_iinc (v := nI (c + 1)) (lv' := [(4, .int (nI (c + 1))), (3, .int bv), (5, .int ((mwo Rw y j c) + (Tz (13 * (j + 1) + cq - c)))), (0, .ref z), (1, .int (nI j)), (2, .int (nI cq))]) hx hb dX7_layTable_108 hl (k := 5) rfl ((rfl : nI c + Int32.ofInt 1 = nI c + nI 1).trans (nI_add c 1)) (by decide) rfl (fun ls hl => ?_)
              refine lv_goto (tgt := 63) hx hb dX7_layTable_111 (by decide) ?_
              exact ih_63 (c + 1, bv) _ _ _ ⟨hP, hD, hS, lv_sub hl [3, 4, 5, 1, 0] rfl, (by omega), (by rw [mdm, if_pos (by rw [← hB]; exact c_8)]; exact hB)⟩ (by dsimp only; omega)
            · skip
              refine lv_iload hx hb dX7_layTable_101 (lv_at hl 0 rfl) ?_
              refine lv_goto (tgt := 107) hx hb dX7_layTable_103 (by decide) ?_
              refine lv_istore_n (lv' := [(3, .int ((mwo Rw y j c) + (Tz (13 * (j + 1) + cq - c)))), (5, .int ((mwo Rw y j c) + (Tz (13 * (j + 1) + cq - c)))), (0, .ref z), (1, .int (nI j)), (2, .int (nI cq)), (4, .int (nI c))]) hx hb dX7_layTable_107 rfl hl (by decide) rfl (fun ls hl => ?_)
              refine lv_iinc (v := nI (c + 1)) (lv' := [(4, .int (nI (c + 1))), (3, .int ((mwo Rw y j c) + (Tz (13 * (j + 1) + cq - c)))), (5, .int ((mwo Rw y j c) + (Tz (13 * (j + 1) + cq - c)))), (0, .ref z), (1, .int (nI j)), (2, .int (nI cq))]) hx hb dX7_layTable_108 hl (k := 5) rfl ((rfl : nI c + Int32.ofInt 1 = nI c + nI 1).trans (nI_add c 1)) (by decide) rfl (fun ls hl => ?_)
              refine lv_goto (tgt := 63) hx hb dX7_layTable_111 (by decide) ?_
              exact ih_63 (c + 1, (mwo Rw y j c) + (Tz (13 * (j + 1) + cq - c))) _ _ _ ⟨hP, hD, hS, lv_sub hl [3, 4, 5, 1, 0] rfl, (by omega), (by rw [mdm, if_neg (by rw [← hB]; exact c_8)])⟩ (by dsimp only; omega)
  · skip
    replace c_1 : ¬ 13 ≤ k := fun h => c_1 ((nI_leI (a := 13) (b := k) (by omega) (by omega)).mpr h)
    refine lv_aload_n hx hb dX7_layTable_8 rfl (lv_at hl 0 rfl) ?_
    refine va_get (D := D) (ci := 7) (v := .ref zb) (C := RX7) (T := TX7) (N := 25) hx hb hts (fun w h => List.mem_cons_of_mem _ (List.mem_append_right _ h)) hown hK hP 0 rfl rfl 10 (by decide) (hts (Cond.fieldLink RX7 16 "JamDaysModel" "table" "[I") (List.mem_of_getElem? (i := 1) rfl)) (fun _ h9 => h9) rfl dX7_layTable_9 ?_
    refine lv_bipush (v := 13) hx hb dX7_layTable_12 (by decide) ?_
    refine lv_aload_n hx hb dX7_layTable_14 rfl (lv_at hl 0 rfl) ?_
    refine va_get (D := D) (ci := 7) (v := .int (nI n)) (C := RX7) (T := TX7) (N := 25) hx hb hts (fun w h => List.mem_cons_of_mem _ (List.mem_append_right _ h)) hown hK hP 0 rfl rfl 2 (by decide) (hts (Cond.fieldLink RX7 63 "JamDaysModel" "jars" "I") (List.mem_of_getElem? (i := 2) rfl)) (fun _ h9 => h9) rfl dX7_layTable_15 ?_
    refine lv_imul hx hb dX7_layTable_18 ?_
    refine jv_as (y := nI (13 * n)) (pk_mul 13 n) ?_
    refine lv_iload_n hx hb dX7_layTable_19 rfl (lv_at hl 1 rfl) ?_
    refine lv_iadd hx hb dX7_layTable_20 ?_
    refine jv_as (y := nI ((13 * n) + k)) (nI_add (13 * n) k) ?_
    refine lv_iload_n hx hb dX7_layTable_21 rfl (lv_at hl 1 rfl) ?_
    refine lv_if_ne (tgt := 29) hx hb dX7_layTable_22 (by decide) (fun c_9 => ?_) (fun c_9 => ?_)
    · skip
      replace c_9 : ¬ k = 0 := fun h => c_9 ((nI_eq (a := k) (b := 0) (by omega) (by omega)).mpr h)
      refine lv_ldc (v := (-99999)) hx hb hown (hts (Cond.constant RX7 91 (-99999)) (List.mem_of_getElem? (i := 3) rfl)) dX7_layTable_29 ?_
      refine jv_ast (k := (13 * n) + k) (x := (-99999)) hx hb hK hP hD hS 2 0 rfl rfl (by omega) (by decide) dX7_layTable_31 (fun H locs hP hD hS => ?_)
      have hP : va_P D vwCl [(z, .inr (7, [a0, a1, .int (nI n), .int y, a4, a5, a6, a7, .ref zr, a9, .ref zb, a11, a12, a13, a14, a15, a16, a17, a18, a19, a20, a21, a22, a23, a24])), (zr, .inl (cI, 30, .inl Rw)), (zb, .inl (cI, 91, .inl (upd Tx ((13 * n) + k) (-99999))))] H := hP
      have hD : va_D A [(z, .inr (7, [a0, a1, .int (nI n), .int y, a4, a5, a6, a7, .ref zr, a9, .ref zb, a11, a12, a13, a14, a15, a16, a17, a18, a19, a20, a21, a22, a23, a24])), (zr, .inl (cI, 30, .inl Rw)), (zb, .inl (cI, 91, .inl (upd Tx ((13 * n) + k) (-99999))))] := hD
      refine lv_iinc (v := nI (k + 1)) (lv' := [(1, .int (nI (k + 1))), (0, .ref z)]) hx hb dX7_layTable_32 hl (k := 1) rfl ((rfl : nI k + Int32.ofInt 1 = nI k + nI 1).trans (nI_add k 1)) (by decide) rfl (fun ls hl => ?_)
      refine lv_goto (tgt := 2) hx hb dX7_layTable_35 (by decide) ?_
      exact ih_2 (k + 1, upd Tx ((13 * n) + k) (-99999)) _ _ _ ⟨hP, hD, hS, lv_sub hl [1, 0] rfl, (by omega), (by rw [md0, if_neg c_9, ← hM])⟩ (by dsimp only; omega)
    · skip
      replace c_9 : k = 0 := (nI_eq (a := k) (b := 0) (by omega) (by omega)).mp c_9
      refine lv_iconst (v := 0) hx hb dX7_layTable_25 (by decide) ?_
      refine lv_goto (tgt := 31) hx hb dX7_layTable_26 (by decide) ?_
      refine jv_ast (k := (13 * n) + k) (x := 0) hx hb hK hP hD hS 2 0 rfl rfl (by omega) (by decide) dX7_layTable_31 (fun H locs hP hD hS => ?_)
      have hP : va_P D vwCl [(z, .inr (7, [a0, a1, .int (nI n), .int y, a4, a5, a6, a7, .ref zr, a9, .ref zb, a11, a12, a13, a14, a15, a16, a17, a18, a19, a20, a21, a22, a23, a24])), (zr, .inl (cI, 30, .inl Rw)), (zb, .inl (cI, 91, .inl (upd Tx ((13 * n) + k) 0)))] H := hP
      have hD : va_D A [(z, .inr (7, [a0, a1, .int (nI n), .int y, a4, a5, a6, a7, .ref zr, a9, .ref zb, a11, a12, a13, a14, a15, a16, a17, a18, a19, a20, a21, a22, a23, a24])), (zr, .inl (cI, 30, .inl Rw)), (zb, .inl (cI, 91, .inl (upd Tx ((13 * n) + k) 0)))] := hD
      refine lv_iinc (v := nI (k + 1)) (lv' := [(1, .int (nI (k + 1))), (0, .ref z)]) hx hb dX7_layTable_32 hl (k := 1) rfl ((rfl : nI k + Int32.ofInt 1 = nI k + nI 1).trans (nI_add k 1)) (by decide) rfl (fun ls hl => ?_)
      refine lv_goto (tgt := 2) hx hb dX7_layTable_35 (by decide) ?_
      exact ih_2 (k + 1, upd Tx ((13 * n) + k) 0) _ _ _ ⟨hP, hD, hS, lv_sub hl [1, 0] rfl, (by omega), (by rw [md0, if_pos c_9, ← hM])⟩ (by dsimp only; omega)

