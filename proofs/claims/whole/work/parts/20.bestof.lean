theorem cfp_ex {f : Nat → Int32} {t : Int32} : ∀ m : Nat, cfp f t m = m → ∀ k0 : Nat, k0 < m → ¬ f k0 = t
  | 0, _, _, h1 => absurd h1 (Nat.not_lt_zero _)
  | m + 1, h, k0, h1 => by
    have hl := cfp_le f t m
    unfold cfp at h
    by_cases h3 : cfp f t m < m
    · rw [if_pos h3] at h; omega
    · rw [if_neg h3] at h
      by_cases h4 : f m = t
      · rw [if_pos h4] at h; omega
      · by_cases h5 : k0 = m
        · subst h5; exact h4
        · exact cfp_ex m (by omega) k0 (by omega)
theorem cfp_go {f : Nat → Int32} {t : Int32} {k lf : Nat} (h : cfp f t k = k) (h2 : ¬ f k = t) (hk : k ≤ lf) (hex : ∃ k0 : Nat, k0 ≤ lf ∧ f k0 = t) : k + 1 ≤ lf := by
  obtain ⟨k0, h0, h1⟩ := hex
  rcases Nat.lt_or_ge k lf with h3 | h3
  · omega
  · exact absurd h1 (cfp_ex (k + 1) (cfp_n h h2) k0 (by omega))
/-- how many of jar i, of s left -/
def mpk (wo : Nat → Nat → Int32) (T : Nat → Int32) (i s : Nat) : Nat := cfp (fun c => wo i c + T (13 * (i + 1) + s - c)) (T (13 * i + s)) (s + 1)
def mpl (wo : Nat → Nat → Int32) (T : Nat → Int32) (s : Nat) : Nat → Nat
  | 0 => s
  | i + 1 => mpl wo T s i - mpk wo T i (mpl wo T s i)
def mcu (wo : Nat → Nat → Int32) (T : Nat → Int32) (s : Nat) (C : Nat → Int32) : Nat → Nat → Int32
  | 0 => C
  | i + 1 => upd (mcu wo T s C i) i (nI (mpk wo T i (mpl wo T s i)))
set_option maxHeartbeats 4000000 in
set_option maxRecDepth 100000 in
theorem c_bestOf_all (l : Launch) (D : va_G) (cI cJ : ClassId) (z : Nat) (zr : Nat) (zb : Nat) (zc : Nat) (n : Nat) (a0 : Value) (a1 : Value) (a4 : Value) (a5 : Value) (a6 : Value) (a7 : Value) (a9 : Value) (a12 : Value) (a13 : Value) (a14 : Value) (a15 : Value) (a16 : Value) (a17 : Value) (a18 : Value) (a19 : Value) (a20 : Value) (a21 : Value) (a22 : Value) (a23 : Value) (a24 : Value) (Rw : Nat → Int32) (T : Nat → Int32) (C : Nat → Int32) (y : Int32) (s9 : Nat) (hn6 : n ≤ 6) (hs : s9 < 13) (hex : ∀ i : Nat, i < n → ∃ k0 : Nat, k0 ≤ mpl (mwo Rw y) (mdl (mwo Rw y) T n n) s9 i ∧ mwo Rw y i k0 + (mdl (mwo Rw y) T n n) (13 * (i + 1) + mpl (mwo Rw y) (mdl (mwo Rw y) T n n) s9 i - k0) = (mdl (mwo Rw y) T n n) (13 * i + mpl (mwo Rw y) (mdl (mwo Rw y) T n n) s9 i)) (hle : nI s9 ≤ msum Rw n) : jWi l yX7_bestOf wsX7_bestOf ({ frames := 5, cells := 0, slots := 0, locals := 117 }) 0 0 [.ref z, .int (nI s9), .int 0] D cI cJ [(z, .inr (7, [a0, a1, .int (nI n), .int y, a4, a5, a6, a7, .ref zr, a9, .ref zb, .ref zc, a12, a13, a14, a15, a16, a17, a18, a19, a20, a21, a22, a23, a24])), (zr, .inl (cI, 30, .inl Rw)), (zb, .inl (cI, 91, .inl T)), (zc, .inl (cI, 6, .inl C))] (fun H => True) (fun r H => r = (mdl (mwo Rw y) T n n) s9 + 1000 ∧ va_P D vwCl [(z, .inr (7, [a0, a1, .int (nI n), .int y, a4, a5, a6, a7, .ref zr, a9, .ref zb, .ref zc, a12, a13, a14, a15, a16, a17, a18, a19, a20, a21, a22, a23, a24])), (zr, .inl (cI, 30, .inl Rw)), (zb, .inl (cI, 91, .inl (mdl (mwo Rw y) T n n))), (zc, .inl (cI, 6, .inl (mcu (mwo Rw y) (mdl (mwo Rw y) T n n) s9 C n)))] H) := by
  intro sz
  refine Met.ofW (cc := cX7_bestOf) (maxL := 6) (ret := (some .int)) (by decide) rfl ?_
  intro p e s m args below meth c s₁ B hml hv
  obtain ⟨rfl, hsz, hT, hP, hD0, _⟩ := hv
  have hK := hT.1
  have hx := B.exec
  have hb := B.bytes
  have hr := B.returns
  have hts := atoms_spec (ws := wsX7_bestOf) B.pre
  have hown : s.vm.findClass RX7 = some m.cls := findClass_of_methodNamed B.named
  have hlocks := B.notSynchronized
  subst hsz
  have hD := hD0.self (sz := s.heap.size)
  generalize hAe : va_A [(z, .inr (7, [a0, a1, .int (nI n), .int y, a4, a5, a6, a7, .ref zr, a9, .ref zb, .ref zc, a12, a13, a14, a15, a16, a17, a18, a19, a20, a21, a22, a23, a24])), (zr, .inl (cI, 30, .inl Rw)), (zb, .inl (cI, 91, .inl T)), (zc, .inl (cI, 6, .inl C))] s.heap.size = A at hD ⊢
  have hA : ∀ q : Nat, s.heap.size ≤ q → A q := fun q h => by rw [← hAe]; exact Or.inr h
  have hS : va_S A s.heap s.heap [] := va_S.rf
  have hl := lv_entry ([.ref z, .int (nI s9), .int 0] : List Value) (n := 6) (Nat.le_of_ble_eq_true rfl)
  rw [lg_entry_eq]
  generalize (lg_sl ([.ref z, .int (nI s9), .int 0]) ++ List.replicate (6 - (lg_sl ([.ref z, .int (nI s9), .int 0])).length) Slot.unset).toArray = ls at hl ⊢
  have hl : lv_has ls 6 [(0, .ref z), (1, .int (nI s9)), (2, .int 0)] := hl
  refine lv_iload_n hx hb dX7_bestOf_0 rfl (lv_at hl 1 rfl) ?_
  refine lv_aload_n hx hb dX7_bestOf_1 rfl (lv_at hl 0 rfl) ?_
  have hPc_1 := hP.sub (ws' := [(z, .inr (7, [a0, a1, .int (nI n), .int y, a4, a5, a6, a7, .ref zr, a9, .ref zb, .ref zc, a12, a13, a14, a15, a16, a17, a18, a19, a20, a21, a22, a23, a24])), (zr, .inl (cI, 30, .inl Rw))]) [0, 1] rfl
  refine jcalli (va_runV (As := []) (rest := [.int (nI s9)]) ⟨hx, hb, hml, hown, hts⟩ (c_spoonsAll l D cI cJ z zr n a0 a1 (.int y) a4 a5 a6 a7 a9 (.ref zb) (.ref zc) a12 a13 a14 a15 a16 a17 a18 a19 a20 a21 a22 a23 a24 Rw hn6 s.heap.size) (cwV 0 hts gX7_bestOf_X7_spoonsAll rfl rfl rfl (by decide +kernel) ⟨Nat.le_of_ble_eq_true rfl, Nat.le_of_ble_eq_true rfl⟩) (jpreV hT (va_recv hK hP (ci := 7) (q0 := 0) rfl rfl) hPc_1) rfl rfl hl.1 rfl (lv_room (Nat.le_of_ble_eq_true rfl)) dX7_bestOf_2 ⟨(Nat.zero_le _), (Nat.zero_le _)⟩) hS hA (fun r_2 H locs hw_r_2 hkq hS => ?_)
  try dsimp only at hw_r_2
  have hP := jkeep hP hkq
  subst hw_r_2
  refine lv_icmp_le (tgt := 10) hx hb dX7_bestOf_5 (by decide) (fun c_3 => ?_) (fun c_3 => ?_)
  · skip
    refine lv_aload_n hx hb dX7_bestOf_10 rfl (lv_at hl 0 rfl) ?_
    have hPc_4 := hP.sub (ws' := [(z, .inr (7, [a0, a1, .int (nI n), .int y, a4, a5, a6, a7, .ref zr, a9, .ref zb, .ref zc, a12, a13, a14, a15, a16, a17, a18, a19, a20, a21, a22, a23, a24])), (zr, .inl (cI, 30, .inl Rw)), (zb, .inl (cI, 91, .inl T))]) [0, 1, 2] rfl
    have hDc_5 := hD.sub (ws' := [(z, .inr (7, [a0, a1, .int (nI n), .int y, a4, a5, a6, a7, .ref zr, a9, .ref zb, .ref zc, a12, a13, a14, a15, a16, a17, a18, a19, a20, a21, a22, a23, a24])), (zr, .inl (cI, 30, .inl Rw)), (zb, .inl (cI, 91, .inl T))]) [0, 1, 2] (by decide) rfl
    have hFc_6 := va_free (wc := [(z, .inr (7, [a0, a1, .int (nI n), .int y, a4, a5, a6, a7, .ref zr, a9, .ref zb, .ref zc, a12, a13, a14, a15, a16, a17, a18, a19, a20, a21, a22, a23, a24])), (zr, .inl (cI, 30, .inl Rw)), (zb, .inl (cI, 91, .inl T))]) hD hS hA [0, 1, 2] rfl
    refine jcallWv (post := fun H => va_P D vwCl [(z, .inr (7, [a0, a1, .int (nI n), .int y, a4, a5, a6, a7, .ref zr, a9, .ref zb, (.ref zc), a12, a13, a14, a15, a16, a17, a18, a19, a20, a21, a22, a23, a24])), (zr, .inl (cI, 30, .inl Rw)), (zb, .inl (cI, 91, .inl (mdl (mwo Rw y) T n n)))] H) (va_runV (As := []) (rest := []) ⟨hx, hb, hml, hown, hts⟩ (c_layTable l D cI cJ z zr zb n a0 a1 a4 a5 a6 a7 a9 (.ref zc) a12 a13 a14 a15 a16 a17 a18 a19 a20 a21 a22 a23 a24 Rw T y hn6 H.size) (cwV 0 hts gX7_bestOf_X7_layTable rfl rfl rfl (by decide +kernel) ⟨Nat.le_of_ble_eq_true rfl, Nat.le_of_ble_eq_true rfl⟩) (jpreV hT (va_recv hK hP (ci := 7) (q0 := 0) rfl rfl) ⟨hPc_4, hDc_5.weaken (fun _ _ _ _ => trivial), trivial⟩) rfl rfl hl.1 rfl (lv_room (Nat.le_of_ble_eq_true rfl)) dX7_bestOf_11 ⟨(Nat.zero_le _), (Nat.zero_le _)⟩) hS hFc_6 (fun H locs hw_r_7 hz hkq hS => ?_)
    have hP1 := hw_r_7
    obtain ⟨hP, hD⟩ := jjoin (wc := [(z, .inr (7, [a0, a1, .int (nI n), .int y, a4, a5, a6, a7, .ref zr, a9, .ref zb, .ref zc, a12, a13, a14, a15, a16, a17, a18, a19, a20, a21, a22, a23, a24])), (zr, .inl (cI, 30, .inl Rw)), (zb, .inl (cI, 91, .inl T))]) (wr := [(zc, .inl (cI, 6, .inl C))]) (w1 := [(z, .inr (7, [a0, a1, .int (nI n), .int y, a4, a5, a6, a7, .ref zr, a9, .ref zb, .ref zc, a12, a13, a14, a15, a16, a17, a18, a19, a20, a21, a22, a23, a24])), (zr, .inl (cI, 30, .inl Rw)), (zb, .inl (cI, 91, .inl (mdl (mwo Rw y) T n n)))]) (ws' := [(z, .inr (7, [a0, a1, .int (nI n), .int y, a4, a5, a6, a7, .ref zr, a9, .ref zb, .ref zc, a12, a13, a14, a15, a16, a17, a18, a19, a20, a21, a22, a23, a24])), (zr, .inl (cI, 30, .inl Rw)), (zb, .inl (cI, 91, .inl (mdl (mwo Rw y) T n n))), (zc, .inl (cI, 6, .inl C))]) hP hD hFc_6 [0, 1, 2] [3] [1, 2, 3, 0] rfl rfl (by decide) (by decide) (by decide) (by decide) hkq hP1 rfl rfl rfl
    refine lv_iload_n hx hb dX7_bestOf_14 rfl (lv_at hl 1 rfl) ?_
    refine lv_istore_n (lv' := [(3, .int (nI s9)), (0, .ref z), (1, .int (nI s9)), (2, .int 0)]) hx hb dX7_bestOf_15 rfl hl (by decide) rfl (fun ls hl => ?_)
    refine lv_iconst (v := 0) hx hb dX7_bestOf_16 (by decide) ?_
    refine lv_istore (lv' := [(4, .int 0), (3, .int (nI s9)), (0, .ref z), (1, .int (nI s9)), (2, .int 0)]) hx hb dX7_bestOf_17 hl (by decide) rfl (fun ls hl => ?_)
    refine jloop (α := Nat × Nat × (Nat → Int32)) (fun (x9 : Nat × Nat × (Nat → Int32)) (H : Heap) (locs : List Loc) (ls : Array Slot) => match x9 with | (i, lf, Cx) => (va_P D vwCl [(z, .inr (7, [a0, a1, .int (nI n), .int y, a4, a5, a6, a7, .ref zr, a9, .ref zb, .ref zc, a12, a13, a14, a15, a16, a17, a18, a19, a20, a21, a22, a23, a24])), (zr, .inl (cI, 30, .inl Rw)), (zb, .inl (cI, 91, .inl (mdl (mwo Rw y) T n n))), (zc, .inl (cI, 6, .inl Cx))] H) ∧ (va_D A [(z, .inr (7, [a0, a1, .int (nI n), .int y, a4, a5, a6, a7, .ref zr, a9, .ref zb, .ref zc, a12, a13, a14, a15, a16, a17, a18, a19, a20, a21, a22, a23, a24])), (zr, .inl (cI, 30, .inl Rw)), (zb, .inl (cI, 91, .inl (mdl (mwo Rw y) T n n))), (zc, .inl (cI, 6, .inl Cx))]) ∧ (va_S A s.heap H locs) ∧ (lv_has ls 6 [(0, .ref z), (1, .int (nI s9)), (2, .int 0), (3, .int (nI lf)), (4, .int (nI i))]) ∧ (i ≤ n) ∧ (lf < 13) ∧ (lf = mpl (mwo Rw y) (mdl (mwo Rw y) T n n) s9 i) ∧ (Cx = mcu (mwo Rw y) (mdl (mwo Rw y) T n n) s9 C i)) (fun (x9 : Nat × Nat × (Nat → Int32)) => match x9 with | (i, lf, Cx) => n - i) (fun x9 H locs ls hx9 ih_19 => ?_) (0, s9, C) _ _ _ ⟨hP, hD, hS, lv_sub hl [2, 3, 4, 1, 0] rfl, (by omega), hs, rfl, rfl⟩
    obtain ⟨i, lf, Cx⟩ := x9
    obtain ⟨hP, hD, hS, hl, hi9, hl13, hlf, hC⟩ := hx9
    refine lv_iload hx hb dX7_bestOf_19 (lv_at hl 4 rfl) ?_
    refine lv_aload_n hx hb dX7_bestOf_21 rfl (lv_at hl 0 rfl) ?_
    refine va_get (D := D) (ci := 7) (v := .int (nI n)) (C := RX7) (T := TX7) (N := 25) hx hb hts (fun w h => List.mem_cons_of_mem _ (List.mem_append_right _ h)) hown hK hP 0 rfl rfl 2 (by decide) (hts (Cond.fieldLink RX7 63 "JamDaysModel" "jars" "I") (List.mem_of_getElem? (i := 1) rfl)) (fun _ h9 => h9) rfl dX7_bestOf_22 ?_
    refine lv_icmp_ge (tgt := 98) hx hb dX7_bestOf_25 (by decide) (fun c_8 => ?_) (fun c_8 => ?_)
    · skip
      replace c_8 : n ≤ i := (nI_leI (a := n) (b := i) (by omega) (by omega)).mp c_8
      refine lv_iload_n hx hb dX7_bestOf_98 rfl (lv_at hl 2 rfl) ?_
      refine lv_if_ne (tgt := 115) hx hb dX7_bestOf_99 (by decide) (fun c_9 => ?_) (fun c_9 => ?_)
      · skip
        exact absurd c_9 (by decide)
      · skip
        refine lv_aload_n hx hb dX7_bestOf_102 rfl (lv_at hl 0 rfl) ?_
        refine va_get (D := D) (ci := 7) (v := .ref zb) (C := RX7) (T := TX7) (N := 25) hx hb hts (fun w h => List.mem_cons_of_mem _ (List.mem_append_right _ h)) hown hK hP 0 rfl rfl 10 (by decide) (hts (Cond.fieldLink RX7 16 "JamDaysModel" "table" "[I") (List.mem_of_getElem? (i := 2) rfl)) (fun _ h9 => h9) rfl dX7_bestOf_103 ?_
        refine lv_iload_n hx hb dX7_bestOf_106 rfl (lv_at hl 1 rfl) ?_
        refine jv_ald (k := s9) hx hb hK hP 2 0 rfl rfl (by omega) (by decide) dX7_bestOf_107 ?_
        refine lv_sipush (v := 1000) hx hb dX7_bestOf_108 (by decide) ?_
        refine lv_iadd hx hb dX7_bestOf_111 ?_
        refine lv_goto (tgt := 139) hx hb dX7_bestOf_112 (by decide) ?_
        exact W.iret (v := ((mdl (mwo Rw y) T n n) s9) + 1000) hx hb hr (fun t ht hW => ⟨⟨((mdl (mwo Rw y) T n n) s9) + 1000, ((mdl (mwo Rw y) T n n) s9) + 1000, rfl, rfl, by dsimp only; rw [ht]; exact ⟨rfl, (by obtain rfl : n = i := (by omega); rw [← hC]; exact hP)⟩⟩, hS.F ht⟩) hS.2.2 dX7_bestOf_139
    · skip
      replace c_8 : ¬ n ≤ i := fun h => c_8 ((nI_leI (a := n) (b := i) (by omega) (by omega)).mpr h)
      refine lv_iconst (v := 0) hx hb dX7_bestOf_28 (by decide) ?_
      refine lv_istore (lv' := [(5, .int 0), (0, .ref z), (1, .int (nI s9)), (2, .int 0), (3, .int (nI lf)), (4, .int (nI i))]) hx hb dX7_bestOf_29 hl (by decide) rfl (fun ls hl => ?_)
      refine jloop (α := Nat) (fun (k : Nat) (H : Heap) (locs : List Loc) (ls : Array Slot) => (va_P D vwCl [(z, .inr (7, [a0, a1, .int (nI n), .int y, a4, a5, a6, a7, .ref zr, a9, .ref zb, .ref zc, a12, a13, a14, a15, a16, a17, a18, a19, a20, a21, a22, a23, a24])), (zr, .inl (cI, 30, .inl Rw)), (zb, .inl (cI, 91, .inl (mdl (mwo Rw y) T n n))), (zc, .inl (cI, 6, .inl Cx))] H) ∧ (va_D A [(z, .inr (7, [a0, a1, .int (nI n), .int y, a4, a5, a6, a7, .ref zr, a9, .ref zb, .ref zc, a12, a13, a14, a15, a16, a17, a18, a19, a20, a21, a22, a23, a24])), (zr, .inl (cI, 30, .inl Rw)), (zb, .inl (cI, 91, .inl (mdl (mwo Rw y) T n n))), (zc, .inl (cI, 6, .inl Cx))]) ∧ (va_S A s.heap H locs) ∧ (lv_has ls 6 [(0, .ref z), (1, .int (nI s9)), (2, .int 0), (3, .int (nI lf)), (4, .int (nI i)), (5, .int (nI k))]) ∧ (k ≤ lf) ∧ (cfp (fun c => mwo Rw y i c + (mdl (mwo Rw y) T n n) (13 * (i + 1) + lf - c)) ((mdl (mwo Rw y) T n n) (13 * i + lf)) k = k)) (fun (k : Nat) => lf + 1 - k) (fun k H locs ls hx9 ih_31 => ?_) 0 _ _ _ ⟨hP, hD, hS, lv_sub hl [1, 2, 3, 4, 5, 0] rfl, (by omega), rfl⟩
      obtain ⟨hP, hD, hS, hl, hk9, hK9⟩ := hx9
      refine lv_aload_n hx hb dX7_bestOf_31 rfl (lv_at hl 0 rfl) ?_
      refine lv_iload hx hb dX7_bestOf_32 (lv_at hl 4 rfl) ?_
      refine lv_iload hx hb dX7_bestOf_34 (lv_at hl 5 rfl) ?_
      have hPc_10 := hP.sub (ws' := [(z, .inr (7, [a0, a1, .int (nI n), .int y, a4, a5, a6, a7, .ref zr, a9, .ref zb, .ref zc, a12, a13, a14, a15, a16, a17, a18, a19, a20, a21, a22, a23, a24])), (zr, .inl (cI, 30, .inl Rw))]) [0, 1] rfl
      refine jcalli (va_runV (As := [.int (nI i), .int (nI k)]) (rest := []) ⟨hx, hb, hml, hown, hts⟩ (c_worthOf l D cI cJ z zr a0 a1 (.int (nI n)) a4 a5 a6 a7 a9 (.ref zb) (.ref zc) a12 a13 a14 a15 a16 a17 a18 a19 a20 a21 a22 a23 a24 Rw y i k (by omega) H.size) (cwV 2 hts gX7_bestOf_X7_worthOf rfl rfl rfl (by decide +kernel) ⟨Nat.le_of_ble_eq_true rfl, Nat.le_of_ble_eq_true rfl⟩) (jpreV hT (va_recv hK hP (ci := 7) (q0 := 0) rfl rfl) hPc_10) rfl rfl hl.1 rfl (lv_room (Nat.le_of_ble_eq_true rfl)) dX7_bestOf_36 ⟨(Nat.zero_le _), (Nat.zero_le _)⟩) hS hA (fun r_11 H locs hw_r_11 hkq hS => ?_)
      try dsimp only at hw_r_11
      have hP := jkeep hP hkq
      subst hw_r_11
      refine lv_aload_n hx hb dX7_bestOf_39 rfl (lv_at hl 0 rfl) ?_
      refine va_get (D := D) (ci := 7) (v := .ref zb) (C := RX7) (T := TX7) (N := 25) hx hb hts (fun w h => List.mem_cons_of_mem _ (List.mem_append_right _ h)) hown hK hP 0 rfl rfl 10 (by decide) (hts (Cond.fieldLink RX7 16 "JamDaysModel" "table" "[I") (List.mem_of_getElem? (i := 2) rfl)) (fun _ h9 => h9) rfl dX7_bestOf_40 ?_
      refine lv_bipush (v := 13) hx hb dX7_bestOf_43 (by decide) ?_
      refine lv_iload hx hb dX7_bestOf_45 (lv_at hl 4 rfl) ?_
      refine lv_iconst (v := 1) hx hb dX7_bestOf_47 (by decide) ?_
      refine lv_iadd hx hb dX7_bestOf_48 ?_
      refine jv_as (y := nI (i + 1)) (nI_add i 1) ?_
      refine lv_imul hx hb dX7_bestOf_49 ?_
      refine jv_as (y := nI (13 * (i + 1))) (pk_mul 13 (i + 1)) ?_
      refine lv_iload_n hx hb dX7_bestOf_50 rfl (lv_at hl 3 rfl) ?_
      refine lv_iadd hx hb dX7_bestOf_51 ?_
      refine jv_as (y := nI ((13 * (i + 1)) + lf)) (nI_add (13 * (i + 1)) lf) ?_
      refine lv_iload hx hb dX7_bestOf_52 (lv_at hl 5 rfl) ?_
      refine lv_isub hx hb dX7_bestOf_54 ?_
      refine jv_as (y := nI (13 * (i + 1) + lf - k)) (pk_sub (by omega)) ?_
      refine jv_ald (k := 13 * (i + 1) + lf - k) hx hb hK hP 2 0 rfl rfl (by omega) (by decide) dX7_bestOf_55 ?_
      refine lv_iadd hx hb dX7_bestOf_56 ?_
      refine lv_aload_n hx hb dX7_bestOf_57 rfl (lv_at hl 0 rfl) ?_
      refine va_get (D := D) (ci := 7) (v := .ref zb) (C := RX7) (T := TX7) (N := 25) hx hb hts (fun w h => List.mem_cons_of_mem _ (List.mem_append_right _ h)) hown hK hP 0 rfl rfl 10 (by decide) (hts (Cond.fieldLink RX7 16 "JamDaysModel" "table" "[I") (List.mem_of_getElem? (i := 2) rfl)) (fun _ h9 => h9) rfl dX7_bestOf_58 ?_
      refine lv_bipush (v := 13) hx hb dX7_bestOf_61 (by decide) ?_
      refine lv_iload hx hb dX7_bestOf_63 (lv_at hl 4 rfl) ?_
      refine lv_imul hx hb dX7_bestOf_65 ?_
      refine jv_as (y := nI (13 * i)) (pk_mul 13 i) ?_
      refine lv_iload_n hx hb dX7_bestOf_66 rfl (lv_at hl 3 rfl) ?_
      refine lv_iadd hx hb dX7_bestOf_67 ?_
      refine jv_as (y := nI ((13 * i) + lf)) (nI_add (13 * i) lf) ?_
      refine jv_ald (k := (13 * i) + lf) hx hb hK hP 2 0 rfl rfl (by omega) (by decide) dX7_bestOf_68 ?_
      refine lv_icmp_eq (tgt := 78) hx hb dX7_bestOf_69 (by decide) (fun c_12 => ?_) (fun c_12 => ?_)
      · skip
        refine lv_aload_n hx hb dX7_bestOf_78 rfl (lv_at hl 0 rfl) ?_
        refine va_get (D := D) (ci := 7) (v := .ref zc) (C := RX7) (T := TX7) (N := 25) hx hb hts (fun w h => List.mem_cons_of_mem _ (List.mem_append_right _ h)) hown hK hP 0 rfl rfl 11 (by decide) (hts (Cond.fieldLink RX7 19 "JamDaysModel" "counts" "[I") (List.mem_of_getElem? (i := 3) rfl)) (fun _ h9 => h9) rfl dX7_bestOf_79 ?_
        refine lv_iload hx hb dX7_bestOf_82 (lv_at hl 4 rfl) ?_
        refine lv_iload hx hb dX7_bestOf_84 (lv_at hl 5 rfl) ?_
        refine jv_ast (k := i) (x := nI k) hx hb hK hP hD hS 3 0 rfl rfl (by omega) (by decide) dX7_bestOf_86 (fun H locs hP hD hS => ?_)
        have hP : va_P D vwCl [(z, .inr (7, [a0, a1, .int (nI n), .int y, a4, a5, a6, a7, .ref zr, a9, .ref zb, .ref zc, a12, a13, a14, a15, a16, a17, a18, a19, a20, a21, a22, a23, a24])), (zr, .inl (cI, 30, .inl Rw)), (zb, .inl (cI, 91, .inl (mdl (mwo Rw y) T n n))), (zc, .inl (cI, 6, .inl (upd Cx i (nI k))))] H := hP
        have hD : va_D A [(z, .inr (7, [a0, a1, .int (nI n), .int y, a4, a5, a6, a7, .ref zr, a9, .ref zb, .ref zc, a12, a13, a14, a15, a16, a17, a18, a19, a20, a21, a22, a23, a24])), (zr, .inl (cI, 30, .inl Rw)), (zb, .inl (cI, 91, .inl (mdl (mwo Rw y) T n n))), (zc, .inl (cI, 6, .inl (upd Cx i (nI k))))] := hD
        refine lv_iload_n hx hb dX7_bestOf_87 rfl (lv_at hl 3 rfl) ?_
        refine lv_iload hx hb dX7_bestOf_88 (lv_at hl 5 rfl) ?_
        refine lv_isub hx hb dX7_bestOf_90 ?_
        refine jv_as (y := nI (lf - k)) (pk_sub hk9) ?_
        refine lv_istore_n (lv' := [(3, .int (nI (lf - k))), (0, .ref z), (1, .int (nI s9)), (2, .int 0), (4, .int (nI i)), (5, .int (nI k))]) hx hb dX7_bestOf_91 rfl hl (by decide) rfl (fun ls hl => ?_)
        refine lv_iinc (v := nI (i + 1)) (lv' := [(4, .int (nI (i + 1))), (3, .int (nI (lf - k))), (0, .ref z), (1, .int (nI s9)), (2, .int 0), (5, .int (nI k))]) hx hb dX7_bestOf_92 hl (k := 4) rfl ((rfl : nI i + Int32.ofInt 1 = nI i + nI 1).trans (nI_add i 1)) (by decide) rfl (fun ls hl => ?_)
        refine lv_goto (tgt := 19) hx hb dX7_bestOf_95 (by decide) ?_
        exact ih_19 (i + 1, lf - k, upd Cx i (nI k)) _ _ _ ⟨hP, hD, hS, lv_sub hl [2, 3, 4, 1, 0] rfl, (by omega), (by omega), (by rw [mpl, ← hlf, mpk, cfp_y hK9 c_12 _ (by omega)]), (by rw [mcu, ← hC, ← hlf, mpk, cfp_y hK9 c_12 _ (by omega)])⟩ (by dsimp only; omega)
      · skip
        refine lv_iinc (v := nI (k + 1)) (lv' := [(5, .int (nI (k + 1))), (0, .ref z), (1, .int (nI s9)), (2, .int 0), (3, .int (nI lf)), (4, .int (nI i))]) hx hb dX7_bestOf_72 hl (k := 5) rfl ((rfl : nI k + Int32.ofInt 1 = nI k + nI 1).trans (nI_add k 1)) (by decide) rfl (fun ls hl => ?_)
        refine lv_goto (tgt := 31) hx hb dX7_bestOf_75 (by decide) ?_
        exact ih_31 (k + 1) _ _ _ ⟨hP, hD, hS, lv_sub hl [1, 2, 3, 4, 5, 0] rfl, (cfp_go hK9 c_12 hk9 (by rw [hlf]; exact hex i (by omega))), (cfp_n hK9 c_12)⟩ (by omega)
  · skip
    exact absurd hle c_3

set_option maxHeartbeats 4000000 in
set_option maxRecDepth 100000 in
theorem c_bestOf_one (l : Launch) (D : va_G) (cI cJ : ClassId) (z : Nat) (zr : Nat) (zb : Nat) (zc : Nat) (n : Nat) (a0 : Value) (a1 : Value) (a4 : Value) (a5 : Value) (a6 : Value) (a7 : Value) (a9 : Value) (a12 : Value) (a13 : Value) (a14 : Value) (a15 : Value) (a16 : Value) (a17 : Value) (a18 : Value) (a19 : Value) (a20 : Value) (a21 : Value) (a22 : Value) (a23 : Value) (a24 : Value) (Rw : Nat → Int32) (T : Nat → Int32) (C : Nat → Int32) (y : Int32) (s9 : Nat) (j : Nat) (wq : Nat) (hn6 : n ≤ 6) (hs : s9 < 13) (hex : ∀ i : Nat, i < n → ∃ k0 : Nat, k0 ≤ mpl (mwo Rw y) (mdl (mwo Rw y) T n n) s9 i ∧ mwo Rw y i k0 + (mdl (mwo Rw y) T n n) (13 * (i + 1) + mpl (mwo Rw y) (mdl (mwo Rw y) T n n) s9 i - k0) = (mdl (mwo Rw y) T n n) (13 * i + mpl (mwo Rw y) (mdl (mwo Rw y) T n n) s9 i)) (hle : nI s9 ≤ msum Rw n) (h10 : 10 ≤ wq) (h16 : wq < 16) (hj : j < n) (h7 : wq = j + 10) : jWi l yX7_bestOf wsX7_bestOf ({ frames := 5, cells := 0, slots := 0, locals := 117 }) 0 0 [.ref z, .int (nI s9), .int (nI wq)] D cI cJ [(z, .inr (7, [a0, a1, .int (nI n), .int y, a4, a5, a6, a7, .ref zr, a9, .ref zb, .ref zc, a12, a13, a14, a15, a16, a17, a18, a19, a20, a21, a22, a23, a24])), (zr, .inl (cI, 30, .inl Rw)), (zb, .inl (cI, 91, .inl T)), (zc, .inl (cI, 6, .inl C))] (fun H => True) (fun r H => r = (mcu (mwo Rw y) (mdl (mwo Rw y) T n n) s9 C n) j ∧ va_P D vwCl [(z, .inr (7, [a0, a1, .int (nI n), .int y, a4, a5, a6, a7, .ref zr, a9, .ref zb, .ref zc, a12, a13, a14, a15, a16, a17, a18, a19, a20, a21, a22, a23, a24])), (zr, .inl (cI, 30, .inl Rw)), (zb, .inl (cI, 91, .inl (mdl (mwo Rw y) T n n))), (zc, .inl (cI, 6, .inl (mcu (mwo Rw y) (mdl (mwo Rw y) T n n) s9 C n)))] H) := by
  intro sz
  refine Met.ofW (cc := cX7_bestOf) (maxL := 6) (ret := (some .int)) (by decide) rfl ?_
  intro p e s m args below meth c s₁ B hml hv
  obtain ⟨rfl, hsz, hT, hP, hD0, _⟩ := hv
  have hK := hT.1
  have hx := B.exec
  have hb := B.bytes
  have hr := B.returns
  have hts := atoms_spec (ws := wsX7_bestOf) B.pre
  have hown : s.vm.findClass RX7 = some m.cls := findClass_of_methodNamed B.named
  have hlocks := B.notSynchronized
  subst hsz
  have hD := hD0.self (sz := s.heap.size)
  generalize hAe : va_A [(z, .inr (7, [a0, a1, .int (nI n), .int y, a4, a5, a6, a7, .ref zr, a9, .ref zb, .ref zc, a12, a13, a14, a15, a16, a17, a18, a19, a20, a21, a22, a23, a24])), (zr, .inl (cI, 30, .inl Rw)), (zb, .inl (cI, 91, .inl T)), (zc, .inl (cI, 6, .inl C))] s.heap.size = A at hD ⊢
  have hA : ∀ q : Nat, s.heap.size ≤ q → A q := fun q h => by rw [← hAe]; exact Or.inr h
  have hS : va_S A s.heap s.heap [] := va_S.rf
  have hl := lv_entry ([.ref z, .int (nI s9), .int (nI wq)] : List Value) (n := 6) (Nat.le_of_ble_eq_true rfl)
  rw [lg_entry_eq]
  generalize (lg_sl ([.ref z, .int (nI s9), .int (nI wq)]) ++ List.replicate (6 - (lg_sl ([.ref z, .int (nI s9), .int (nI wq)])).length) Slot.unset).toArray = ls at hl ⊢
  have hl : lv_has ls 6 [(0, .ref z), (1, .int (nI s9)), (2, .int (nI wq))] := hl
  refine lv_iload_n hx hb dX7_bestOf_0 rfl (lv_at hl 1 rfl) ?_
  refine lv_aload_n hx hb dX7_bestOf_1 rfl (lv_at hl 0 rfl) ?_
  have hPc_1 := hP.sub (ws' := [(z, .inr (7, [a0, a1, .int (nI n), .int y, a4, a5, a6, a7, .ref zr, a9, .ref zb, .ref zc, a12, a13, a14, a15, a16, a17, a18, a19, a20, a21, a22, a23, a24])), (zr, .inl (cI, 30, .inl Rw))]) [0, 1] rfl
  refine jcalli (va_runV (As := []) (rest := [.int (nI s9)]) ⟨hx, hb, hml, hown, hts⟩ (c_spoonsAll l D cI cJ z zr n a0 a1 (.int y) a4 a5 a6 a7 a9 (.ref zb) (.ref zc) a12 a13 a14 a15 a16 a17 a18 a19 a20 a21 a22 a23 a24 Rw hn6 s.heap.size) (cwV 0 hts gX7_bestOf_X7_spoonsAll rfl rfl rfl (by decide +kernel) ⟨Nat.le_of_ble_eq_true rfl, Nat.le_of_ble_eq_true rfl⟩) (jpreV hT (va_recv hK hP (ci := 7) (q0 := 0) rfl rfl) hPc_1) rfl rfl hl.1 rfl (lv_room (Nat.le_of_ble_eq_true rfl)) dX7_bestOf_2 ⟨(Nat.zero_le _), (Nat.zero_le _)⟩) hS hA (fun r_2 H locs hw_r_2 hkq hS => ?_)
  try dsimp only at hw_r_2
  have hP := jkeep hP hkq
  subst hw_r_2
  refine lv_icmp_le (tgt := 10) hx hb dX7_bestOf_5 (by decide) (fun c_3 => ?_) (fun c_3 => ?_)
  · skip
    refine lv_aload_n hx hb dX7_bestOf_10 rfl (lv_at hl 0 rfl) ?_
    have hPc_4 := hP.sub (ws' := [(z, .inr (7, [a0, a1, .int (nI n), .int y, a4, a5, a6, a7, .ref zr, a9, .ref zb, .ref zc, a12, a13, a14, a15, a16, a17, a18, a19, a20, a21, a22, a23, a24])), (zr, .inl (cI, 30, .inl Rw)), (zb, .inl (cI, 91, .inl T))]) [0, 1, 2] rfl
    have hDc_5 := hD.sub (ws' := [(z, .inr (7, [a0, a1, .int (nI n), .int y, a4, a5, a6, a7, .ref zr, a9, .ref zb, .ref zc, a12, a13, a14, a15, a16, a17, a18, a19, a20, a21, a22, a23, a24])), (zr, .inl (cI, 30, .inl Rw)), (zb, .inl (cI, 91, .inl T))]) [0, 1, 2] (by decide) rfl
    have hFc_6 := va_free (wc := [(z, .inr (7, [a0, a1, .int (nI n), .int y, a4, a5, a6, a7, .ref zr, a9, .ref zb, .ref zc, a12, a13, a14, a15, a16, a17, a18, a19, a20, a21, a22, a23, a24])), (zr, .inl (cI, 30, .inl Rw)), (zb, .inl (cI, 91, .inl T))]) hD hS hA [0, 1, 2] rfl
    refine jcallWv (post := fun H => va_P D vwCl [(z, .inr (7, [a0, a1, .int (nI n), .int y, a4, a5, a6, a7, .ref zr, a9, .ref zb, (.ref zc), a12, a13, a14, a15, a16, a17, a18, a19, a20, a21, a22, a23, a24])), (zr, .inl (cI, 30, .inl Rw)), (zb, .inl (cI, 91, .inl (mdl (mwo Rw y) T n n)))] H) (va_runV (As := []) (rest := []) ⟨hx, hb, hml, hown, hts⟩ (c_layTable l D cI cJ z zr zb n a0 a1 a4 a5 a6 a7 a9 (.ref zc) a12 a13 a14 a15 a16 a17 a18 a19 a20 a21 a22 a23 a24 Rw T y hn6 H.size) (cwV 0 hts gX7_bestOf_X7_layTable rfl rfl rfl (by decide +kernel) ⟨Nat.le_of_ble_eq_true rfl, Nat.le_of_ble_eq_true rfl⟩) (jpreV hT (va_recv hK hP (ci := 7) (q0 := 0) rfl rfl) ⟨hPc_4, hDc_5.weaken (fun _ _ _ _ => trivial), trivial⟩) rfl rfl hl.1 rfl (lv_room (Nat.le_of_ble_eq_true rfl)) dX7_bestOf_11 ⟨(Nat.zero_le _), (Nat.zero_le _)⟩) hS hFc_6 (fun H locs hw_r_7 hz hkq hS => ?_)
    have hP1 := hw_r_7
    obtain ⟨hP, hD⟩ := jjoin (wc := [(z, .inr (7, [a0, a1, .int (nI n), .int y, a4, a5, a6, a7, .ref zr, a9, .ref zb, .ref zc, a12, a13, a14, a15, a16, a17, a18, a19, a20, a21, a22, a23, a24])), (zr, .inl (cI, 30, .inl Rw)), (zb, .inl (cI, 91, .inl T))]) (wr := [(zc, .inl (cI, 6, .inl C))]) (w1 := [(z, .inr (7, [a0, a1, .int (nI n), .int y, a4, a5, a6, a7, .ref zr, a9, .ref zb, .ref zc, a12, a13, a14, a15, a16, a17, a18, a19, a20, a21, a22, a23, a24])), (zr, .inl (cI, 30, .inl Rw)), (zb, .inl (cI, 91, .inl (mdl (mwo Rw y) T n n)))]) (ws' := [(z, .inr (7, [a0, a1, .int (nI n), .int y, a4, a5, a6, a7, .ref zr, a9, .ref zb, .ref zc, a12, a13, a14, a15, a16, a17, a18, a19, a20, a21, a22, a23, a24])), (zr, .inl (cI, 30, .inl Rw)), (zb, .inl (cI, 91, .inl (mdl (mwo Rw y) T n n))), (zc, .inl (cI, 6, .inl C))]) hP hD hFc_6 [0, 1, 2] [3] [1, 2, 3, 0] rfl rfl (by decide) (by decide) (by decide) (by decide) hkq hP1 rfl rfl rfl
    refine lv_iload_n hx hb dX7_bestOf_14 rfl (lv_at hl 1 rfl) ?_
    refine lv_istore_n (lv' := [(3, .int (nI s9)), (0, .ref z), (1, .int (nI s9)), (2, .int (nI wq))]) hx hb dX7_bestOf_15 rfl hl (by decide) rfl (fun ls hl => ?_)
    refine lv_iconst (v := 0) hx hb dX7_bestOf_16 (by decide) ?_
    refine lv_istore (lv' := [(4, .int 0), (3, .int (nI s9)), (0, .ref z), (1, .int (nI s9)), (2, .int (nI wq))]) hx hb dX7_bestOf_17 hl (by decide) rfl (fun ls hl => ?_)
    refine jloop (α := Nat × Nat × (Nat → Int32)) (fun (x9 : Nat × Nat × (Nat → Int32)) (H : Heap) (locs : List Loc) (ls : Array Slot) => match x9 with | (i, lf, Cx) => (va_P D vwCl [(z, .inr (7, [a0, a1, .int (nI n), .int y, a4, a5, a6, a7, .ref zr, a9, .ref zb, .ref zc, a12, a13, a14, a15, a16, a17, a18, a19, a20, a21, a22, a23, a24])), (zr, .inl (cI, 30, .inl Rw)), (zb, .inl (cI, 91, .inl (mdl (mwo Rw y) T n n))), (zc, .inl (cI, 6, .inl Cx))] H) ∧ (va_D A [(z, .inr (7, [a0, a1, .int (nI n), .int y, a4, a5, a6, a7, .ref zr, a9, .ref zb, .ref zc, a12, a13, a14, a15, a16, a17, a18, a19, a20, a21, a22, a23, a24])), (zr, .inl (cI, 30, .inl Rw)), (zb, .inl (cI, 91, .inl (mdl (mwo Rw y) T n n))), (zc, .inl (cI, 6, .inl Cx))]) ∧ (va_S A s.heap H locs) ∧ (lv_has ls 6 [(0, .ref z), (1, .int (nI s9)), (2, .int (nI wq)), (3, .int (nI lf)), (4, .int (nI i))]) ∧ (i ≤ n) ∧ (lf < 13) ∧ (lf = mpl (mwo Rw y) (mdl (mwo Rw y) T n n) s9 i) ∧ (Cx = mcu (mwo Rw y) (mdl (mwo Rw y) T n n) s9 C i)) (fun (x9 : Nat × Nat × (Nat → Int32)) => match x9 with | (i, lf, Cx) => n - i) (fun x9 H locs ls hx9 ih_19 => ?_) (0, s9, C) _ _ _ ⟨hP, hD, hS, lv_sub hl [2, 3, 4, 1, 0] rfl, (by omega), hs, rfl, rfl⟩
    obtain ⟨i, lf, Cx⟩ := x9
    obtain ⟨hP, hD, hS, hl, hi9, hl13, hlf, hC⟩ := hx9
    refine lv_iload hx hb dX7_bestOf_19 (lv_at hl 4 rfl) ?_
    refine lv_aload_n hx hb dX7_bestOf_21 rfl (lv_at hl 0 rfl) ?_
    refine va_get (D := D) (ci := 7) (v := .int (nI n)) (C := RX7) (T := TX7) (N := 25) hx hb hts (fun w h => List.mem_cons_of_mem _ (List.mem_append_right _ h)) hown hK hP 0 rfl rfl 2 (by decide) (hts (Cond.fieldLink RX7 63 "JamDaysModel" "jars" "I") (List.mem_of_getElem? (i := 1) rfl)) (fun _ h9 => h9) rfl dX7_bestOf_22 ?_
    refine lv_icmp_ge (tgt := 98) hx hb dX7_bestOf_25 (by decide) (fun c_8 => ?_) (fun c_8 => ?_)
    · skip
      replace c_8 : n ≤ i := (nI_leI (a := n) (b := i) (by omega) (by omega)).mp c_8
      refine lv_iload_n hx hb dX7_bestOf_98 rfl (lv_at hl 2 rfl) ?_
      refine lv_if_ne (tgt := 115) hx hb dX7_bestOf_99 (by decide) (fun c_9 => ?_) (fun c_9 => ?_)
      · skip
        replace c_9 : ¬ wq = 0 := fun h => c_9 ((nI_eq (a := wq) (b := 0) (by omega) (by omega)).mpr h)
        refine lv_iload_n hx hb dX7_bestOf_115 rfl (lv_at hl 2 rfl) ?_
        refine lv_bipush (v := 10) hx hb dX7_bestOf_116 (by decide) ?_
        refine lv_isub hx hb dX7_bestOf_118 ?_
        refine jv_as (y := nI j) (by rw [show (10 : Int32) = nI 10 from rfl, pk_sub h10, show wq - 10 = j by omega]) ?_
        refine lv_aload_n hx hb dX7_bestOf_119 rfl (lv_at hl 0 rfl) ?_
        refine va_get (D := D) (ci := 7) (v := .int (nI n)) (C := RX7) (T := TX7) (N := 25) hx hb hts (fun w h => List.mem_cons_of_mem _ (List.mem_append_right _ h)) hown hK hP 0 rfl rfl 2 (by decide) (hts (Cond.fieldLink RX7 63 "JamDaysModel" "jars" "I") (List.mem_of_getElem? (i := 1) rfl)) (fun _ h9 => h9) rfl dX7_bestOf_120 ?_
        refine lv_icmp_ge (tgt := 138) hx hb dX7_bestOf_123 (by decide) (fun c_10 => ?_) (fun c_10 => ?_)
        · skip
          replace c_10 : n ≤ j := (nI_leI (a := n) (b := j) (by omega) (by omega)).mp c_10
          exact absurd c_10 (by omega)
        · skip
          replace c_10 : ¬ n ≤ j := fun h => c_10 ((nI_leI (a := n) (b := j) (by omega) (by omega)).mpr h)
          refine lv_aload_n hx hb dX7_bestOf_126 rfl (lv_at hl 0 rfl) ?_
          refine va_get (D := D) (ci := 7) (v := .ref zc) (C := RX7) (T := TX7) (N := 25) hx hb hts (fun w h => List.mem_cons_of_mem _ (List.mem_append_right _ h)) hown hK hP 0 rfl rfl 11 (by decide) (hts (Cond.fieldLink RX7 19 "JamDaysModel" "counts" "[I") (List.mem_of_getElem? (i := 3) rfl)) (fun _ h9 => h9) rfl dX7_bestOf_127 ?_
          refine lv_iload_n hx hb dX7_bestOf_130 rfl (lv_at hl 2 rfl) ?_
          refine lv_bipush (v := 10) hx hb dX7_bestOf_131 (by decide) ?_
          refine lv_isub hx hb dX7_bestOf_133 ?_
          refine jv_as (y := nI j) (by rw [show (10 : Int32) = nI 10 from rfl, pk_sub h10, show wq - 10 = j by omega]) ?_
          refine jv_ald (k := j) hx hb hK hP 3 0 rfl rfl (by omega) (by decide) dX7_bestOf_134 ?_
          refine lv_goto (tgt := 139) hx hb dX7_bestOf_135 (by decide) ?_
          exact W.iret (v := Cx j) hx hb hr (fun t ht hW => ⟨⟨Cx j, Cx j, rfl, rfl, by dsimp only; rw [ht]; exact ⟨(by obtain rfl : n = i := (by omega); rw [← hC]), (by obtain rfl : n = i := (by omega); rw [← hC]; exact hP)⟩⟩, hS.F ht⟩) hS.2.2 dX7_bestOf_139
      · skip
        replace c_9 : wq = 0 := (nI_eq (a := wq) (b := 0) (by omega) (by omega)).mp c_9
        exact absurd c_9 (by omega)
    · skip
      replace c_8 : ¬ n ≤ i := fun h => c_8 ((nI_leI (a := n) (b := i) (by omega) (by omega)).mpr h)
      refine lv_iconst (v := 0) hx hb dX7_bestOf_28 (by decide) ?_
      refine lv_istore (lv' := [(5, .int 0), (0, .ref z), (1, .int (nI s9)), (2, .int (nI wq)), (3, .int (nI lf)), (4, .int (nI i))]) hx hb dX7_bestOf_29 hl (by decide) rfl (fun ls hl => ?_)
      refine jloop (α := Nat) (fun (k : Nat) (H : Heap) (locs : List Loc) (ls : Array Slot) => (va_P D vwCl [(z, .inr (7, [a0, a1, .int (nI n), .int y, a4, a5, a6, a7, .ref zr, a9, .ref zb, .ref zc, a12, a13, a14, a15, a16, a17, a18, a19, a20, a21, a22, a23, a24])), (zr, .inl (cI, 30, .inl Rw)), (zb, .inl (cI, 91, .inl (mdl (mwo Rw y) T n n))), (zc, .inl (cI, 6, .inl Cx))] H) ∧ (va_D A [(z, .inr (7, [a0, a1, .int (nI n), .int y, a4, a5, a6, a7, .ref zr, a9, .ref zb, .ref zc, a12, a13, a14, a15, a16, a17, a18, a19, a20, a21, a22, a23, a24])), (zr, .inl (cI, 30, .inl Rw)), (zb, .inl (cI, 91, .inl (mdl (mwo Rw y) T n n))), (zc, .inl (cI, 6, .inl Cx))]) ∧ (va_S A s.heap H locs) ∧ (lv_has ls 6 [(0, .ref z), (1, .int (nI s9)), (2, .int (nI wq)), (3, .int (nI lf)), (4, .int (nI i)), (5, .int (nI k))]) ∧ (k ≤ lf) ∧ (cfp (fun c => mwo Rw y i c + (mdl (mwo Rw y) T n n) (13 * (i + 1) + lf - c)) ((mdl (mwo Rw y) T n n) (13 * i + lf)) k = k)) (fun (k : Nat) => lf + 1 - k) (fun k H locs ls hx9 ih_31 => ?_) 0 _ _ _ ⟨hP, hD, hS, lv_sub hl [1, 2, 3, 4, 5, 0] rfl, (by omega), rfl⟩
      obtain ⟨hP, hD, hS, hl, hk9, hK9⟩ := hx9
      refine lv_aload_n hx hb dX7_bestOf_31 rfl (lv_at hl 0 rfl) ?_
      refine lv_iload hx hb dX7_bestOf_32 (lv_at hl 4 rfl) ?_
      refine lv_iload hx hb dX7_bestOf_34 (lv_at hl 5 rfl) ?_
      have hPc_11 := hP.sub (ws' := [(z, .inr (7, [a0, a1, .int (nI n), .int y, a4, a5, a6, a7, .ref zr, a9, .ref zb, .ref zc, a12, a13, a14, a15, a16, a17, a18, a19, a20, a21, a22, a23, a24])), (zr, .inl (cI, 30, .inl Rw))]) [0, 1] rfl
      refine jcalli (va_runV (As := [.int (nI i), .int (nI k)]) (rest := []) ⟨hx, hb, hml, hown, hts⟩ (c_worthOf l D cI cJ z zr a0 a1 (.int (nI n)) a4 a5 a6 a7 a9 (.ref zb) (.ref zc) a12 a13 a14 a15 a16 a17 a18 a19 a20 a21 a22 a23 a24 Rw y i k (by omega) H.size) (cwV 2 hts gX7_bestOf_X7_worthOf rfl rfl rfl (by decide +kernel) ⟨Nat.le_of_ble_eq_true rfl, Nat.le_of_ble_eq_true rfl⟩) (jpreV hT (va_recv hK hP (ci := 7) (q0 := 0) rfl rfl) hPc_11) rfl rfl hl.1 rfl (lv_room (Nat.le_of_ble_eq_true rfl)) dX7_bestOf_36 ⟨(Nat.zero_le _), (Nat.zero_le _)⟩) hS hA (fun r_12 H locs hw_r_12 hkq hS => ?_)
      try dsimp only at hw_r_12
      have hP := jkeep hP hkq
      subst hw_r_12
      refine lv_aload_n hx hb dX7_bestOf_39 rfl (lv_at hl 0 rfl) ?_
      refine va_get (D := D) (ci := 7) (v := .ref zb) (C := RX7) (T := TX7) (N := 25) hx hb hts (fun w h => List.mem_cons_of_mem _ (List.mem_append_right _ h)) hown hK hP 0 rfl rfl 10 (by decide) (hts (Cond.fieldLink RX7 16 "JamDaysModel" "table" "[I") (List.mem_of_getElem? (i := 2) rfl)) (fun _ h9 => h9) rfl dX7_bestOf_40 ?_
      refine lv_bipush (v := 13) hx hb dX7_bestOf_43 (by decide) ?_
      refine lv_iload hx hb dX7_bestOf_45 (lv_at hl 4 rfl) ?_
      refine lv_iconst (v := 1) hx hb dX7_bestOf_47 (by decide) ?_
      refine lv_iadd hx hb dX7_bestOf_48 ?_
      refine jv_as (y := nI (i + 1)) (nI_add i 1) ?_
      refine lv_imul hx hb dX7_bestOf_49 ?_
      refine jv_as (y := nI (13 * (i + 1))) (pk_mul 13 (i + 1)) ?_
      refine lv_iload_n hx hb dX7_bestOf_50 rfl (lv_at hl 3 rfl) ?_
      refine lv_iadd hx hb dX7_bestOf_51 ?_
      refine jv_as (y := nI ((13 * (i + 1)) + lf)) (nI_add (13 * (i + 1)) lf) ?_
      refine lv_iload hx hb dX7_bestOf_52 (lv_at hl 5 rfl) ?_
      refine lv_isub hx hb dX7_bestOf_54 ?_
      refine jv_as (y := nI (13 * (i + 1) + lf - k)) (pk_sub (by omega)) ?_
      refine jv_ald (k := 13 * (i + 1) + lf - k) hx hb hK hP 2 0 rfl rfl (by omega) (by decide) dX7_bestOf_55 ?_
      refine lv_iadd hx hb dX7_bestOf_56 ?_
      refine lv_aload_n hx hb dX7_bestOf_57 rfl (lv_at hl 0 rfl) ?_
      refine va_get (D := D) (ci := 7) (v := .ref zb) (C := RX7) (T := TX7) (N := 25) hx hb hts (fun w h => List.mem_cons_of_mem _ (List.mem_append_right _ h)) hown hK hP 0 rfl rfl 10 (by decide) (hts (Cond.fieldLink RX7 16 "JamDaysModel" "table" "[I") (List.mem_of_getElem? (i := 2) rfl)) (fun _ h9 => h9) rfl dX7_bestOf_58 ?_
      refine lv_bipush (v := 13) hx hb dX7_bestOf_61 (by decide) ?_
      refine lv_iload hx hb dX7_bestOf_63 (lv_at hl 4 rfl) ?_
      refine lv_imul hx hb dX7_bestOf_65 ?_
      refine jv_as (y := nI (13 * i)) (pk_mul 13 i) ?_
      refine lv_iload_n hx hb dX7_bestOf_66 rfl (lv_at hl 3 rfl) ?_
      refine lv_iadd hx hb dX7_bestOf_67 ?_
      refine jv_as (y := nI ((13 * i) + lf)) (nI_add (13 * i) lf) ?_
      refine jv_ald (k := (13 * i) + lf) hx hb hK hP 2 0 rfl rfl (by omega) (by decide) dX7_bestOf_68 ?_
      refine lv_icmp_eq (tgt := 78) hx hb dX7_bestOf_69 (by decide) (fun c_13 => ?_) (fun c_13 => ?_)
      · skip
        refine lv_aload_n hx hb dX7_bestOf_78 rfl (lv_at hl 0 rfl) ?_
        refine va_get (D := D) (ci := 7) (v := .ref zc) (C := RX7) (T := TX7) (N := 25) hx hb hts (fun w h => List.mem_cons_of_mem _ (List.mem_append_right _ h)) hown hK hP 0 rfl rfl 11 (by decide) (hts (Cond.fieldLink RX7 19 "JamDaysModel" "counts" "[I") (List.mem_of_getElem? (i := 3) rfl)) (fun _ h9 => h9) rfl dX7_bestOf_79 ?_
        refine lv_iload hx hb dX7_bestOf_82 (lv_at hl 4 rfl) ?_
        refine lv_iload hx hb dX7_bestOf_84 (lv_at hl 5 rfl) ?_
        refine jv_ast (k := i) (x := nI k) hx hb hK hP hD hS 3 0 rfl rfl (by omega) (by decide) dX7_bestOf_86 (fun H locs hP hD hS => ?_)
        have hP : va_P D vwCl [(z, .inr (7, [a0, a1, .int (nI n), .int y, a4, a5, a6, a7, .ref zr, a9, .ref zb, .ref zc, a12, a13, a14, a15, a16, a17, a18, a19, a20, a21, a22, a23, a24])), (zr, .inl (cI, 30, .inl Rw)), (zb, .inl (cI, 91, .inl (mdl (mwo Rw y) T n n))), (zc, .inl (cI, 6, .inl (upd Cx i (nI k))))] H := hP
        have hD : va_D A [(z, .inr (7, [a0, a1, .int (nI n), .int y, a4, a5, a6, a7, .ref zr, a9, .ref zb, .ref zc, a12, a13, a14, a15, a16, a17, a18, a19, a20, a21, a22, a23, a24])), (zr, .inl (cI, 30, .inl Rw)), (zb, .inl (cI, 91, .inl (mdl (mwo Rw y) T n n))), (zc, .inl (cI, 6, .inl (upd Cx i (nI k))))] := hD
        refine lv_iload_n hx hb dX7_bestOf_87 rfl (lv_at hl 3 rfl) ?_
        refine lv_iload hx hb dX7_bestOf_88 (lv_at hl 5 rfl) ?_
        refine lv_isub hx hb dX7_bestOf_90 ?_
        refine jv_as (y := nI (lf - k)) (pk_sub hk9) ?_
        refine lv_istore_n (lv' := [(3, .int (nI (lf - k))), (0, .ref z), (1, .int (nI s9)), (2, .int (nI wq)), (4, .int (nI i)), (5, .int (nI k))]) hx hb dX7_bestOf_91 rfl hl (by decide) rfl (fun ls hl => ?_)
        refine lv_iinc (v := nI (i + 1)) (lv' := [(4, .int (nI (i + 1))), (3, .int (nI (lf - k))), (0, .ref z), (1, .int (nI s9)), (2, .int (nI wq)), (5, .int (nI k))]) hx hb dX7_bestOf_92 hl (k := 4) rfl ((rfl : nI i + Int32.ofInt 1 = nI i + nI 1).trans (nI_add i 1)) (by decide) rfl (fun ls hl => ?_)
        refine lv_goto (tgt := 19) hx hb dX7_bestOf_95 (by decide) ?_
        exact ih_19 (i + 1, lf - k, upd Cx i (nI k)) _ _ _ ⟨hP, hD, hS, lv_sub hl [2, 3, 4, 1, 0] rfl, (by omega), (by omega), (by rw [mpl, ← hlf, mpk, cfp_y hK9 c_13 _ (by omega)]), (by rw [mcu, ← hC, ← hlf, mpk, cfp_y hK9 c_13 _ (by omega)])⟩ (by dsimp only; omega)
      · skip
        refine lv_iinc (v := nI (k + 1)) (lv' := [(5, .int (nI (k + 1))), (0, .ref z), (1, .int (nI s9)), (2, .int (nI wq)), (3, .int (nI lf)), (4, .int (nI i))]) hx hb dX7_bestOf_72 hl (k := 5) rfl ((rfl : nI k + Int32.ofInt 1 = nI k + nI 1).trans (nI_add k 1)) (by decide) rfl (fun ls hl => ?_)
        refine lv_goto (tgt := 31) hx hb dX7_bestOf_75 (by decide) ?_
        exact ih_31 (k + 1) _ _ _ ⟨hP, hD, hS, lv_sub hl [1, 2, 3, 4, 5, 0] rfl, (cfp_go hK9 c_13 hk9 (by rw [hlf]; exact hex i (by omega))), (cfp_n hK9 c_13)⟩ (by omega)
  · skip
    exact absurd hle c_3

set_option maxHeartbeats 4000000 in
set_option maxRecDepth 100000 in
theorem c_bestOf_out (l : Launch) (D : va_G) (cI cJ : ClassId) (z : Nat) (zr : Nat) (zb : Nat) (zc : Nat) (n : Nat) (a0 : Value) (a1 : Value) (a4 : Value) (a5 : Value) (a6 : Value) (a7 : Value) (a9 : Value) (a12 : Value) (a13 : Value) (a14 : Value) (a15 : Value) (a16 : Value) (a17 : Value) (a18 : Value) (a19 : Value) (a20 : Value) (a21 : Value) (a22 : Value) (a23 : Value) (a24 : Value) (Rw : Nat → Int32) (T : Nat → Int32) (C : Nat → Int32) (y : Int32) (s9 : Nat) (wq : Nat) (hn6 : n ≤ 6) (hs : s9 < 13) (hex : ∀ i : Nat, i < n → ∃ k0 : Nat, k0 ≤ mpl (mwo Rw y) (mdl (mwo Rw y) T n n) s9 i ∧ mwo Rw y i k0 + (mdl (mwo Rw y) T n n) (13 * (i + 1) + mpl (mwo Rw y) (mdl (mwo Rw y) T n n) s9 i - k0) = (mdl (mwo Rw y) T n n) (13 * i + mpl (mwo Rw y) (mdl (mwo Rw y) T n n) s9 i)) (hle : nI s9 ≤ msum Rw n) (h10 : 10 ≤ wq) (h16 : wq < 16) (h7 : n ≤ wq - 10) : jWi l yX7_bestOf wsX7_bestOf ({ frames := 5, cells := 0, slots := 0, locals := 117 }) 0 0 [.ref z, .int (nI s9), .int (nI wq)] D cI cJ [(z, .inr (7, [a0, a1, .int (nI n), .int y, a4, a5, a6, a7, .ref zr, a9, .ref zb, .ref zc, a12, a13, a14, a15, a16, a17, a18, a19, a20, a21, a22, a23, a24])), (zr, .inl (cI, 30, .inl Rw)), (zb, .inl (cI, 91, .inl T)), (zc, .inl (cI, 6, .inl C))] (fun H => True) (fun r H => r = -1 ∧ va_P D vwCl [(z, .inr (7, [a0, a1, .int (nI n), .int y, a4, a5, a6, a7, .ref zr, a9, .ref zb, .ref zc, a12, a13, a14, a15, a16, a17, a18, a19, a20, a21, a22, a23, a24])), (zr, .inl (cI, 30, .inl Rw)), (zb, .inl (cI, 91, .inl (mdl (mwo Rw y) T n n))), (zc, .inl (cI, 6, .inl (mcu (mwo Rw y) (mdl (mwo Rw y) T n n) s9 C n)))] H) := by
  intro sz
  refine Met.ofW (cc := cX7_bestOf) (maxL := 6) (ret := (some .int)) (by decide) rfl ?_
  intro p e s m args below meth c s₁ B hml hv
  obtain ⟨rfl, hsz, hT, hP, hD0, _⟩ := hv
  have hK := hT.1
  have hx := B.exec
  have hb := B.bytes
  have hr := B.returns
  have hts := atoms_spec (ws := wsX7_bestOf) B.pre
  have hown : s.vm.findClass RX7 = some m.cls := findClass_of_methodNamed B.named
  have hlocks := B.notSynchronized
  subst hsz
  have hD := hD0.self (sz := s.heap.size)
  generalize hAe : va_A [(z, .inr (7, [a0, a1, .int (nI n), .int y, a4, a5, a6, a7, .ref zr, a9, .ref zb, .ref zc, a12, a13, a14, a15, a16, a17, a18, a19, a20, a21, a22, a23, a24])), (zr, .inl (cI, 30, .inl Rw)), (zb, .inl (cI, 91, .inl T)), (zc, .inl (cI, 6, .inl C))] s.heap.size = A at hD ⊢
  have hA : ∀ q : Nat, s.heap.size ≤ q → A q := fun q h => by rw [← hAe]; exact Or.inr h
  have hS : va_S A s.heap s.heap [] := va_S.rf
  have hl := lv_entry ([.ref z, .int (nI s9), .int (nI wq)] : List Value) (n := 6) (Nat.le_of_ble_eq_true rfl)
  rw [lg_entry_eq]
  generalize (lg_sl ([.ref z, .int (nI s9), .int (nI wq)]) ++ List.replicate (6 - (lg_sl ([.ref z, .int (nI s9), .int (nI wq)])).length) Slot.unset).toArray = ls at hl ⊢
  have hl : lv_has ls 6 [(0, .ref z), (1, .int (nI s9)), (2, .int (nI wq))] := hl
  refine lv_iload_n hx hb dX7_bestOf_0 rfl (lv_at hl 1 rfl) ?_
  refine lv_aload_n hx hb dX7_bestOf_1 rfl (lv_at hl 0 rfl) ?_
  have hPc_1 := hP.sub (ws' := [(z, .inr (7, [a0, a1, .int (nI n), .int y, a4, a5, a6, a7, .ref zr, a9, .ref zb, .ref zc, a12, a13, a14, a15, a16, a17, a18, a19, a20, a21, a22, a23, a24])), (zr, .inl (cI, 30, .inl Rw))]) [0, 1] rfl
  refine jcalli (va_runV (As := []) (rest := [.int (nI s9)]) ⟨hx, hb, hml, hown, hts⟩ (c_spoonsAll l D cI cJ z zr n a0 a1 (.int y) a4 a5 a6 a7 a9 (.ref zb) (.ref zc) a12 a13 a14 a15 a16 a17 a18 a19 a20 a21 a22 a23 a24 Rw hn6 s.heap.size) (cwV 0 hts gX7_bestOf_X7_spoonsAll rfl rfl rfl (by decide +kernel) ⟨Nat.le_of_ble_eq_true rfl, Nat.le_of_ble_eq_true rfl⟩) (jpreV hT (va_recv hK hP (ci := 7) (q0 := 0) rfl rfl) hPc_1) rfl rfl hl.1 rfl (lv_room (Nat.le_of_ble_eq_true rfl)) dX7_bestOf_2 ⟨(Nat.zero_le _), (Nat.zero_le _)⟩) hS hA (fun r_2 H locs hw_r_2 hkq hS => ?_)
  try dsimp only at hw_r_2
  have hP := jkeep hP hkq
  subst hw_r_2
  refine lv_icmp_le (tgt := 10) hx hb dX7_bestOf_5 (by decide) (fun c_3 => ?_) (fun c_3 => ?_)
  · skip
    refine lv_aload_n hx hb dX7_bestOf_10 rfl (lv_at hl 0 rfl) ?_
    have hPc_4 := hP.sub (ws' := [(z, .inr (7, [a0, a1, .int (nI n), .int y, a4, a5, a6, a7, .ref zr, a9, .ref zb, .ref zc, a12, a13, a14, a15, a16, a17, a18, a19, a20, a21, a22, a23, a24])), (zr, .inl (cI, 30, .inl Rw)), (zb, .inl (cI, 91, .inl T))]) [0, 1, 2] rfl
    have hDc_5 := hD.sub (ws' := [(z, .inr (7, [a0, a1, .int (nI n), .int y, a4, a5, a6, a7, .ref zr, a9, .ref zb, .ref zc, a12, a13, a14, a15, a16, a17, a18, a19, a20, a21, a22, a23, a24])), (zr, .inl (cI, 30, .inl Rw)), (zb, .inl (cI, 91, .inl T))]) [0, 1, 2] (by decide) rfl
    have hFc_6 := va_free (wc := [(z, .inr (7, [a0, a1, .int (nI n), .int y, a4, a5, a6, a7, .ref zr, a9, .ref zb, .ref zc, a12, a13, a14, a15, a16, a17, a18, a19, a20, a21, a22, a23, a24])), (zr, .inl (cI, 30, .inl Rw)), (zb, .inl (cI, 91, .inl T))]) hD hS hA [0, 1, 2] rfl
    refine jcallWv (post := fun H => va_P D vwCl [(z, .inr (7, [a0, a1, .int (nI n), .int y, a4, a5, a6, a7, .ref zr, a9, .ref zb, (.ref zc), a12, a13, a14, a15, a16, a17, a18, a19, a20, a21, a22, a23, a24])), (zr, .inl (cI, 30, .inl Rw)), (zb, .inl (cI, 91, .inl (mdl (mwo Rw y) T n n)))] H) (va_runV (As := []) (rest := []) ⟨hx, hb, hml, hown, hts⟩ (c_layTable l D cI cJ z zr zb n a0 a1 a4 a5 a6 a7 a9 (.ref zc) a12 a13 a14 a15 a16 a17 a18 a19 a20 a21 a22 a23 a24 Rw T y hn6 H.size) (cwV 0 hts gX7_bestOf_X7_layTable rfl rfl rfl (by decide +kernel) ⟨Nat.le_of_ble_eq_true rfl, Nat.le_of_ble_eq_true rfl⟩) (jpreV hT (va_recv hK hP (ci := 7) (q0 := 0) rfl rfl) ⟨hPc_4, hDc_5.weaken (fun _ _ _ _ => trivial), trivial⟩) rfl rfl hl.1 rfl (lv_room (Nat.le_of_ble_eq_true rfl)) dX7_bestOf_11 ⟨(Nat.zero_le _), (Nat.zero_le _)⟩) hS hFc_6 (fun H locs hw_r_7 hz hkq hS => ?_)
    have hP1 := hw_r_7
    obtain ⟨hP, hD⟩ := jjoin (wc := [(z, .inr (7, [a0, a1, .int (nI n), .int y, a4, a5, a6, a7, .ref zr, a9, .ref zb, .ref zc, a12, a13, a14, a15, a16, a17, a18, a19, a20, a21, a22, a23, a24])), (zr, .inl (cI, 30, .inl Rw)), (zb, .inl (cI, 91, .inl T))]) (wr := [(zc, .inl (cI, 6, .inl C))]) (w1 := [(z, .inr (7, [a0, a1, .int (nI n), .int y, a4, a5, a6, a7, .ref zr, a9, .ref zb, .ref zc, a12, a13, a14, a15, a16, a17, a18, a19, a20, a21, a22, a23, a24])), (zr, .inl (cI, 30, .inl Rw)), (zb, .inl (cI, 91, .inl (mdl (mwo Rw y) T n n)))]) (ws' := [(z, .inr (7, [a0, a1, .int (nI n), .int y, a4, a5, a6, a7, .ref zr, a9, .ref zb, .ref zc, a12, a13, a14, a15, a16, a17, a18, a19, a20, a21, a22, a23, a24])), (zr, .inl (cI, 30, .inl Rw)), (zb, .inl (cI, 91, .inl (mdl (mwo Rw y) T n n))), (zc, .inl (cI, 6, .inl C))]) hP hD hFc_6 [0, 1, 2] [3] [1, 2, 3, 0] rfl rfl (by decide) (by decide) (by decide) (by decide) hkq hP1 rfl rfl rfl
    refine lv_iload_n hx hb dX7_bestOf_14 rfl (lv_at hl 1 rfl) ?_
    refine lv_istore_n (lv' := [(3, .int (nI s9)), (0, .ref z), (1, .int (nI s9)), (2, .int (nI wq))]) hx hb dX7_bestOf_15 rfl hl (by decide) rfl (fun ls hl => ?_)
    refine lv_iconst (v := 0) hx hb dX7_bestOf_16 (by decide) ?_
    refine lv_istore (lv' := [(4, .int 0), (3, .int (nI s9)), (0, .ref z), (1, .int (nI s9)), (2, .int (nI wq))]) hx hb dX7_bestOf_17 hl (by decide) rfl (fun ls hl => ?_)
    refine jloop (α := Nat × Nat × (Nat → Int32)) (fun (x9 : Nat × Nat × (Nat → Int32)) (H : Heap) (locs : List Loc) (ls : Array Slot) => match x9 with | (i, lf, Cx) => (va_P D vwCl [(z, .inr (7, [a0, a1, .int (nI n), .int y, a4, a5, a6, a7, .ref zr, a9, .ref zb, .ref zc, a12, a13, a14, a15, a16, a17, a18, a19, a20, a21, a22, a23, a24])), (zr, .inl (cI, 30, .inl Rw)), (zb, .inl (cI, 91, .inl (mdl (mwo Rw y) T n n))), (zc, .inl (cI, 6, .inl Cx))] H) ∧ (va_D A [(z, .inr (7, [a0, a1, .int (nI n), .int y, a4, a5, a6, a7, .ref zr, a9, .ref zb, .ref zc, a12, a13, a14, a15, a16, a17, a18, a19, a20, a21, a22, a23, a24])), (zr, .inl (cI, 30, .inl Rw)), (zb, .inl (cI, 91, .inl (mdl (mwo Rw y) T n n))), (zc, .inl (cI, 6, .inl Cx))]) ∧ (va_S A s.heap H locs) ∧ (lv_has ls 6 [(0, .ref z), (1, .int (nI s9)), (2, .int (nI wq)), (3, .int (nI lf)), (4, .int (nI i))]) ∧ (i ≤ n) ∧ (lf < 13) ∧ (lf = mpl (mwo Rw y) (mdl (mwo Rw y) T n n) s9 i) ∧ (Cx = mcu (mwo Rw y) (mdl (mwo Rw y) T n n) s9 C i)) (fun (x9 : Nat × Nat × (Nat → Int32)) => match x9 with | (i, lf, Cx) => n - i) (fun x9 H locs ls hx9 ih_19 => ?_) (0, s9, C) _ _ _ ⟨hP, hD, hS, lv_sub hl [2, 3, 4, 1, 0] rfl, (by omega), hs, rfl, rfl⟩
    obtain ⟨i, lf, Cx⟩ := x9
    obtain ⟨hP, hD, hS, hl, hi9, hl13, hlf, hC⟩ := hx9
    refine lv_iload hx hb dX7_bestOf_19 (lv_at hl 4 rfl) ?_
    refine lv_aload_n hx hb dX7_bestOf_21 rfl (lv_at hl 0 rfl) ?_
    refine va_get (D := D) (ci := 7) (v := .int (nI n)) (C := RX7) (T := TX7) (N := 25) hx hb hts (fun w h => List.mem_cons_of_mem _ (List.mem_append_right _ h)) hown hK hP 0 rfl rfl 2 (by decide) (hts (Cond.fieldLink RX7 63 "JamDaysModel" "jars" "I") (List.mem_of_getElem? (i := 1) rfl)) (fun _ h9 => h9) rfl dX7_bestOf_22 ?_
    refine lv_icmp_ge (tgt := 98) hx hb dX7_bestOf_25 (by decide) (fun c_8 => ?_) (fun c_8 => ?_)
    · skip
      replace c_8 : n ≤ i := (nI_leI (a := n) (b := i) (by omega) (by omega)).mp c_8
      refine lv_iload_n hx hb dX7_bestOf_98 rfl (lv_at hl 2 rfl) ?_
      refine lv_if_ne (tgt := 115) hx hb dX7_bestOf_99 (by decide) (fun c_9 => ?_) (fun c_9 => ?_)
      · skip
        replace c_9 : ¬ wq = 0 := fun h => c_9 ((nI_eq (a := wq) (b := 0) (by omega) (by omega)).mpr h)
        refine lv_iload_n hx hb dX7_bestOf_115 rfl (lv_at hl 2 rfl) ?_
        refine lv_bipush (v := 10) hx hb dX7_bestOf_116 (by decide) ?_
        refine lv_isub hx hb dX7_bestOf_118 ?_
        refine jv_as (y := nI (wq - 10)) (pk_sub h10) ?_
        refine lv_aload_n hx hb dX7_bestOf_119 rfl (lv_at hl 0 rfl) ?_
        refine va_get (D := D) (ci := 7) (v := .int (nI n)) (C := RX7) (T := TX7) (N := 25) hx hb hts (fun w h => List.mem_cons_of_mem _ (List.mem_append_right _ h)) hown hK hP 0 rfl rfl 2 (by decide) (hts (Cond.fieldLink RX7 63 "JamDaysModel" "jars" "I") (List.mem_of_getElem? (i := 1) rfl)) (fun _ h9 => h9) rfl dX7_bestOf_120 ?_
        refine lv_icmp_ge (tgt := 138) hx hb dX7_bestOf_123 (by decide) (fun c_10 => ?_) (fun c_10 => ?_)
        · skip
          replace c_10 : n ≤ wq - 10 := (nI_leI (a := n) (b := wq - 10) (by omega) (by omega)).mp c_10
          refine lv_iconst (v := (-1)) hx hb dX7_bestOf_138 (by decide) ?_
          exact W.iret (v := (-1)) hx hb hr (fun t ht hW => ⟨⟨(-1), (-1), rfl, rfl, by dsimp only; rw [ht]; exact ⟨rfl, (by obtain rfl : n = i := (by omega); rw [← hC]; exact hP)⟩⟩, hS.F ht⟩) hS.2.2 dX7_bestOf_139
        · skip
          replace c_10 : ¬ n ≤ wq - 10 := fun h => c_10 ((nI_leI (a := n) (b := wq - 10) (by omega) (by omega)).mpr h)
          exact absurd c_10 (by omega)
      · skip
        replace c_9 : wq = 0 := (nI_eq (a := wq) (b := 0) (by omega) (by omega)).mp c_9
        exact absurd c_9 (by omega)
    · skip
      replace c_8 : ¬ n ≤ i := fun h => c_8 ((nI_leI (a := n) (b := i) (by omega) (by omega)).mpr h)
      refine lv_iconst (v := 0) hx hb dX7_bestOf_28 (by decide) ?_
      refine lv_istore (lv' := [(5, .int 0), (0, .ref z), (1, .int (nI s9)), (2, .int (nI wq)), (3, .int (nI lf)), (4, .int (nI i))]) hx hb dX7_bestOf_29 hl (by decide) rfl (fun ls hl => ?_)
      refine jloop (α := Nat) (fun (k : Nat) (H : Heap) (locs : List Loc) (ls : Array Slot) => (va_P D vwCl [(z, .inr (7, [a0, a1, .int (nI n), .int y, a4, a5, a6, a7, .ref zr, a9, .ref zb, .ref zc, a12, a13, a14, a15, a16, a17, a18, a19, a20, a21, a22, a23, a24])), (zr, .inl (cI, 30, .inl Rw)), (zb, .inl (cI, 91, .inl (mdl (mwo Rw y) T n n))), (zc, .inl (cI, 6, .inl Cx))] H) ∧ (va_D A [(z, .inr (7, [a0, a1, .int (nI n), .int y, a4, a5, a6, a7, .ref zr, a9, .ref zb, .ref zc, a12, a13, a14, a15, a16, a17, a18, a19, a20, a21, a22, a23, a24])), (zr, .inl (cI, 30, .inl Rw)), (zb, .inl (cI, 91, .inl (mdl (mwo Rw y) T n n))), (zc, .inl (cI, 6, .inl Cx))]) ∧ (va_S A s.heap H locs) ∧ (lv_has ls 6 [(0, .ref z), (1, .int (nI s9)), (2, .int (nI wq)), (3, .int (nI lf)), (4, .int (nI i)), (5, .int (nI k))]) ∧ (k ≤ lf) ∧ (cfp (fun c => mwo Rw y i c + (mdl (mwo Rw y) T n n) (13 * (i + 1) + lf - c)) ((mdl (mwo Rw y) T n n) (13 * i + lf)) k = k)) (fun (k : Nat) => lf + 1 - k) (fun k H locs ls hx9 ih_31 => ?_) 0 _ _ _ ⟨hP, hD, hS, lv_sub hl [1, 2, 3, 4, 5, 0] rfl, (by omega), rfl⟩
      obtain ⟨hP, hD, hS, hl, hk9, hK9⟩ := hx9
      refine lv_aload_n hx hb dX7_bestOf_31 rfl (lv_at hl 0 rfl) ?_
      refine lv_iload hx hb dX7_bestOf_32 (lv_at hl 4 rfl) ?_
      refine lv_iload hx hb dX7_bestOf_34 (lv_at hl 5 rfl) ?_
      have hPc_11 := hP.sub (ws' := [(z, .inr (7, [a0, a1, .int (nI n), .int y, a4, a5, a6, a7, .ref zr, a9, .ref zb, .ref zc, a12, a13, a14, a15, a16, a17, a18, a19, a20, a21, a22, a23, a24])), (zr, .inl (cI, 30, .inl Rw))]) [0, 1] rfl
      refine jcalli (va_runV (As := [.int (nI i), .int (nI k)]) (rest := []) ⟨hx, hb, hml, hown, hts⟩ (c_worthOf l D cI cJ z zr a0 a1 (.int (nI n)) a4 a5 a6 a7 a9 (.ref zb) (.ref zc) a12 a13 a14 a15 a16 a17 a18 a19 a20 a21 a22 a23 a24 Rw y i k (by omega) H.size) (cwV 2 hts gX7_bestOf_X7_worthOf rfl rfl rfl (by decide +kernel) ⟨Nat.le_of_ble_eq_true rfl, Nat.le_of_ble_eq_true rfl⟩) (jpreV hT (va_recv hK hP (ci := 7) (q0 := 0) rfl rfl) hPc_11) rfl rfl hl.1 rfl (lv_room (Nat.le_of_ble_eq_true rfl)) dX7_bestOf_36 ⟨(Nat.zero_le _), (Nat.zero_le _)⟩) hS hA (fun r_12 H locs hw_r_12 hkq hS => ?_)
      try dsimp only at hw_r_12
      have hP := jkeep hP hkq
      subst hw_r_12
      refine lv_aload_n hx hb dX7_bestOf_39 rfl (lv_at hl 0 rfl) ?_
      refine va_get (D := D) (ci := 7) (v := .ref zb) (C := RX7) (T := TX7) (N := 25) hx hb hts (fun w h => List.mem_cons_of_mem _ (List.mem_append_right _ h)) hown hK hP 0 rfl rfl 10 (by decide) (hts (Cond.fieldLink RX7 16 "JamDaysModel" "table" "[I") (List.mem_of_getElem? (i := 2) rfl)) (fun _ h9 => h9) rfl dX7_bestOf_40 ?_
      refine lv_bipush (v := 13) hx hb dX7_bestOf_43 (by decide) ?_
      refine lv_iload hx hb dX7_bestOf_45 (lv_at hl 4 rfl) ?_
      refine lv_iconst (v := 1) hx hb dX7_bestOf_47 (by decide) ?_
      refine lv_iadd hx hb dX7_bestOf_48 ?_
      refine jv_as (y := nI (i + 1)) (nI_add i 1) ?_
      refine lv_imul hx hb dX7_bestOf_49 ?_
      refine jv_as (y := nI (13 * (i + 1))) (pk_mul 13 (i + 1)) ?_
      refine lv_iload_n hx hb dX7_bestOf_50 rfl (lv_at hl 3 rfl) ?_
      refine lv_iadd hx hb dX7_bestOf_51 ?_
      refine jv_as (y := nI ((13 * (i + 1)) + lf)) (nI_add (13 * (i + 1)) lf) ?_
      refine lv_iload hx hb dX7_bestOf_52 (lv_at hl 5 rfl) ?_
      refine lv_isub hx hb dX7_bestOf_54 ?_
      refine jv_as (y := nI (13 * (i + 1) + lf - k)) (pk_sub (by omega)) ?_
      refine jv_ald (k := 13 * (i + 1) + lf - k) hx hb hK hP 2 0 rfl rfl (by omega) (by decide) dX7_bestOf_55 ?_
      refine lv_iadd hx hb dX7_bestOf_56 ?_
      refine lv_aload_n hx hb dX7_bestOf_57 rfl (lv_at hl 0 rfl) ?_
      refine va_get (D := D) (ci := 7) (v := .ref zb) (C := RX7) (T := TX7) (N := 25) hx hb hts (fun w h => List.mem_cons_of_mem _ (List.mem_append_right _ h)) hown hK hP 0 rfl rfl 10 (by decide) (hts (Cond.fieldLink RX7 16 "JamDaysModel" "table" "[I") (List.mem_of_getElem? (i := 2) rfl)) (fun _ h9 => h9) rfl dX7_bestOf_58 ?_
      refine lv_bipush (v := 13) hx hb dX7_bestOf_61 (by decide) ?_
      refine lv_iload hx hb dX7_bestOf_63 (lv_at hl 4 rfl) ?_
      refine lv_imul hx hb dX7_bestOf_65 ?_
      refine jv_as (y := nI (13 * i)) (pk_mul 13 i) ?_
      refine lv_iload_n hx hb dX7_bestOf_66 rfl (lv_at hl 3 rfl) ?_
      refine lv_iadd hx hb dX7_bestOf_67 ?_
      refine jv_as (y := nI ((13 * i) + lf)) (nI_add (13 * i) lf) ?_
      refine jv_ald (k := (13 * i) + lf) hx hb hK hP 2 0 rfl rfl (by omega) (by decide) dX7_bestOf_68 ?_
      refine lv_icmp_eq (tgt := 78) hx hb dX7_bestOf_69 (by decide) (fun c_13 => ?_) (fun c_13 => ?_)
      · skip
        refine lv_aload_n hx hb dX7_bestOf_78 rfl (lv_at hl 0 rfl) ?_
        refine va_get (D := D) (ci := 7) (v := .ref zc) (C := RX7) (T := TX7) (N := 25) hx hb hts (fun w h => List.mem_cons_of_mem _ (List.mem_append_right _ h)) hown hK hP 0 rfl rfl 11 (by decide) (hts (Cond.fieldLink RX7 19 "JamDaysModel" "counts" "[I") (List.mem_of_getElem? (i := 3) rfl)) (fun _ h9 => h9) rfl dX7_bestOf_79 ?_
        refine lv_iload hx hb dX7_bestOf_82 (lv_at hl 4 rfl) ?_
        refine lv_iload hx hb dX7_bestOf_84 (lv_at hl 5 rfl) ?_
        refine jv_ast (k := i) (x := nI k) hx hb hK hP hD hS 3 0 rfl rfl (by omega) (by decide) dX7_bestOf_86 (fun H locs hP hD hS => ?_)
        have hP : va_P D vwCl [(z, .inr (7, [a0, a1, .int (nI n), .int y, a4, a5, a6, a7, .ref zr, a9, .ref zb, .ref zc, a12, a13, a14, a15, a16, a17, a18, a19, a20, a21, a22, a23, a24])), (zr, .inl (cI, 30, .inl Rw)), (zb, .inl (cI, 91, .inl (mdl (mwo Rw y) T n n))), (zc, .inl (cI, 6, .inl (upd Cx i (nI k))))] H := hP
        have hD : va_D A [(z, .inr (7, [a0, a1, .int (nI n), .int y, a4, a5, a6, a7, .ref zr, a9, .ref zb, .ref zc, a12, a13, a14, a15, a16, a17, a18, a19, a20, a21, a22, a23, a24])), (zr, .inl (cI, 30, .inl Rw)), (zb, .inl (cI, 91, .inl (mdl (mwo Rw y) T n n))), (zc, .inl (cI, 6, .inl (upd Cx i (nI k))))] := hD
        refine lv_iload_n hx hb dX7_bestOf_87 rfl (lv_at hl 3 rfl) ?_
        refine lv_iload hx hb dX7_bestOf_88 (lv_at hl 5 rfl) ?_
        refine lv_isub hx hb dX7_bestOf_90 ?_
        refine jv_as (y := nI (lf - k)) (pk_sub hk9) ?_
        refine lv_istore_n (lv' := [(3, .int (nI (lf - k))), (0, .ref z), (1, .int (nI s9)), (2, .int (nI wq)), (4, .int (nI i)), (5, .int (nI k))]) hx hb dX7_bestOf_91 rfl hl (by decide) rfl (fun ls hl => ?_)
        refine lv_iinc (v := nI (i + 1)) (lv' := [(4, .int (nI (i + 1))), (3, .int (nI (lf - k))), (0, .ref z), (1, .int (nI s9)), (2, .int (nI wq)), (5, .int (nI k))]) hx hb dX7_bestOf_92 hl (k := 4) rfl ((rfl : nI i + Int32.ofInt 1 = nI i + nI 1).trans (nI_add i 1)) (by decide) rfl (fun ls hl => ?_)
        refine lv_goto (tgt := 19) hx hb dX7_bestOf_95 (by decide) ?_
        exact ih_19 (i + 1, lf - k, upd Cx i (nI k)) _ _ _ ⟨hP, hD, hS, lv_sub hl [2, 3, 4, 1, 0] rfl, (by omega), (by omega), (by rw [mpl, ← hlf, mpk, cfp_y hK9 c_13 _ (by omega)]), (by rw [mcu, ← hC, ← hlf, mpk, cfp_y hK9 c_13 _ (by omega)])⟩ (by dsimp only; omega)
      · skip
        refine lv_iinc (v := nI (k + 1)) (lv' := [(5, .int (nI (k + 1))), (0, .ref z), (1, .int (nI s9)), (2, .int (nI wq)), (3, .int (nI lf)), (4, .int (nI i))]) hx hb dX7_bestOf_72 hl (k := 5) rfl ((rfl : nI k + Int32.ofInt 1 = nI k + nI 1).trans (nI_add k 1)) (by decide) rfl (fun ls hl => ?_)
        refine lv_goto (tgt := 31) hx hb dX7_bestOf_75 (by decide) ?_
        exact ih_31 (k + 1) _ _ _ ⟨hP, hD, hS, lv_sub hl [1, 2, 3, 4, 5, 0] rfl, (cfp_go hK9 c_13 hk9 (by rw [hlf]; exact hex i (by omega))), (cfp_n hK9 c_13)⟩ (by omega)
  · skip
    exact absurd hle c_3

set_option maxHeartbeats 4000000 in
set_option maxRecDepth 100000 in
theorem c_bestOf_no (l : Launch) (D : va_G) (cI cJ : ClassId) (z : Nat) (zr : Nat) (n : Nat) (s9 : Nat) (a0 : Value) (a1 : Value) (a3 : Value) (a4 : Value) (a5 : Value) (a6 : Value) (a7 : Value) (a9 : Value) (a10 : Value) (a11 : Value) (a12 : Value) (a13 : Value) (a14 : Value) (a15 : Value) (a16 : Value) (a17 : Value) (a18 : Value) (a19 : Value) (a20 : Value) (a21 : Value) (a22 : Value) (a23 : Value) (a24 : Value) (Rw : Nat → Int32) (p1 : Int32) (hn6 : n ≤ 6) (hgt : ¬ nI s9 ≤ msum Rw n) : jRi l yX7_bestOf wsX7_bestOf ({ frames := 1, cells := 0, slots := 0, locals := 22 }) [.ref z, .int (nI s9), .int p1] D cI cJ (fun H => va_P D vwCl [(z, .inr (7, [a0, a1, .int (nI n), a3, a4, a5, a6, a7, .ref zr, a9, a10, a11, a12, a13, a14, a15, a16, a17, a18, a19, a20, a21, a22, a23, a24])), (zr, .inl (cI, 30, .inl Rw))] H) (fun r => r = -1) := by
  intro sz
  refine Met.ofW (cc := cX7_bestOf) (maxL := 6) (ret := (some .int)) (by decide) rfl ?_
  intro p e s m args below meth c s₁ B hml hv
  obtain ⟨rfl, hsz, hT, hPr⟩ := hv
  have hK := hT.1
  have hx := B.exec
  have hb := B.bytes
  have hr := B.returns
  have hts := atoms_spec (ws := wsX7_bestOf) B.pre
  have hown : s.vm.findClass RX7 = some m.cls := findClass_of_methodNamed B.named
  have hlocks := B.notSynchronized
  subst hsz
  generalize hAe : va_A [] s.heap.size = A
  have hA : ∀ q : Nat, s.heap.size ≤ q → A q := fun q h => by rw [← hAe]; exact Or.inr h
  have hS : va_S A s.heap s.heap [] := va_S.rf
  have hl := lv_entry ([.ref z, .int (nI s9), .int p1] : List Value) (n := 6) (Nat.le_of_ble_eq_true rfl)
  rw [lg_entry_eq]
  generalize (lg_sl ([.ref z, .int (nI s9), .int p1]) ++ List.replicate (6 - (lg_sl ([.ref z, .int (nI s9), .int p1])).length) Slot.unset).toArray = ls at hl ⊢
  have hl : lv_has ls 6 [(0, .ref z), (1, .int (nI s9)), (2, .int p1)] := hl
  refine lv_iload_n hx hb dX7_bestOf_0 rfl (lv_at hl 1 rfl) ?_
  refine lv_aload_n hx hb dX7_bestOf_1 rfl (lv_at hl 0 rfl) ?_
  have hPc_1 := hPr.sub (ws' := [(z, .inr (7, [a0, a1, .int (nI n), a3, a4, a5, a6, a7, .ref zr, a9, a10, a11, a12, a13, a14, a15, a16, a17, a18, a19, a20, a21, a22, a23, a24])), (zr, .inl (cI, 30, .inl Rw))]) [0, 1] rfl
  refine jcalli (va_runV (As := []) (rest := [.int (nI s9)]) ⟨hx, hb, hml, hown, hts⟩ (c_spoonsAll l D cI cJ z zr n a0 a1 a3 a4 a5 a6 a7 a9 a10 a11 a12 a13 a14 a15 a16 a17 a18 a19 a20 a21 a22 a23 a24 Rw hn6 s.heap.size) (cwV 0 hts gX7_bestOf_X7_spoonsAll rfl rfl rfl (by decide +kernel) ⟨Nat.le_of_ble_eq_true rfl, Nat.le_of_ble_eq_true rfl⟩) (jpreV hT (va_recv hK hPr (ci := 7) (q0 := 0) rfl rfl) hPc_1) rfl rfl hl.1 rfl (lv_room (Nat.le_of_ble_eq_true rfl)) dX7_bestOf_2 ⟨(Nat.zero_le _), (Nat.zero_le _)⟩) hS hA (fun r_2 H locs hw_r_2 hkq hS => ?_)
  try dsimp only at hw_r_2
  have hPr := jkeep hPr hkq
  subst hw_r_2
  refine lv_icmp_le (tgt := 10) hx hb dX7_bestOf_5 (by decide) (fun c_3 => ?_) (fun c_3 => ?_)
  · skip
    exact absurd c_3 hgt
  · skip
    refine lv_iconst (v := (-1)) hx hb dX7_bestOf_8 (by decide) ?_
    exact W.iret (v := (-1)) hx hb hr (fun t ht hW => ⟨⟨(-1), (), rfl, rfl, trivial⟩, hS.F ht⟩) hS.2.2 dX7_bestOf_9

