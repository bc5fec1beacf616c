/-- the row behind the last jar -/
def cf0 (M : Nat → Int32) (n : Nat) : Nat → Nat → Int32
  | 0 => M
  | k + 1 => upd (cf0 M n k) (n * 13 + k) (if k = 0 then 0 else -1000000)
/-- jar j's row -/
def cfr (nw sp M : Nat → Int32) (j : Nat) : Nat → Nat → Int32
  | 0 => M
  | k + 1 => upd (cfr nw sp M j k) (j * 13 + k) (cmf (cww nw sp (cfr nw sp M j k) j k) (k + 1))
/-- the table and the worths, when the last d jars are done -/
def cfl (g sp M nw : Nat → Int32) (n : Nat) : Nat → (Nat → Int32) × (Nat → Int32)
  | 0 => (cf0 M n 13, nw)
  | d + 1 => (cfr (upd (cfl g sp M nw n d).2 (n - (d + 1)) (g (n - (d + 1)))) sp (cfl g sp M nw n d).1 (n - (d + 1)) 13, upd (cfl g sp M nw n d).2 (n - (d + 1)) (g (n - (d + 1))))
theorem cfl_s {g sp M nw : Nat → Int32} {n j : Nat} {Mx nx : Nat → Int32} (hj : j + 1 ≤ n) (hM : Mx = (cfl g sp M nw n (n - (j + 1))).1) (hW : nx = (cfl g sp M nw n (n - (j + 1))).2) :
    cfr (upd nx j (g j)) sp Mx j 13 = (cfl g sp M nw n (n - j)).1 ∧ upd nx j (g j) = (cfl g sp M nw n (n - j)).2 := by
  have e : n - j = (n - (j + 1)) + 1 := by omega
  have e2 : n - ((n - (j + 1)) + 1) = j := by omega
  rw [e]
  simp only [cfl, e2]
  rw [← hM, ← hW]
  exact ⟨rfl, rfl⟩
set_option maxHeartbeats 4000000 in
set_option maxRecDepth 100000 in
theorem c_fillMost (l : Launch) (D : va_G) (cI cJ : ClassId) (x : Nat) (xj : Nat) (xn : Nat) (xm : Nat) (xw : Nat) (ns : Nat) (ne : Nat) (n : Nat) (a0 : Value) (a1 : Value) (a5 : Value) (a6 : Value) (a7 : Value) (a8 : Value) (a9 : Value) (b1 : Value) (b2 : Value) (b3 : Value) (b4 : Value) (b7 : Value) (b8 : Value) (jr : Nat → Option Nat) (jk : Nat → Nat) (jg : Nat → Int32) (js : Nat → Int32) (jm : Nat → Int32) (fw : Nat → Int32 → Int32) (nw : Nat → Int32) (sp : Nat → Int32) (en : Nat → Int32) (M : Nat → Int32) (y : Int32) (hn6 : n ≤ 6) (hfw : ∀ i : Nat, i < n → ∀ z : Int32, cfw (jk i) (jg i) (jm i) z = fw i z) (hap : ∀ i a : Nat, i < n → jr i = some a → a ∉ [x, xj, xn, ns, ne, xm, xw]) : jWv l yX6_fillMost wsX6_fillMost ({ frames := 4, cells := 0, slots := 0, locals := 91 }) 0 0 [.ref x] D cI cJ [(x, .inr (6, [a0, a1, .ref xj, .int (nI n), .ref xn, a5, a6, a7, a8, a9, .ref xm, .ref xw])), (xj, .inl (cJ, 6, .inr (.inr (.inr (.inr jr))))), (xn, .inr (1, [.int y, b1, b2, b3, b4, .ref ns, .ref ne, b7, b8])), (ns, .inl (cI, 6, .inl sp)), (ne, .inl (cI, 6, .inl en)), (xm, .inl (cI, 91, .inl M)), (xw, .inl (cI, 6, .inl nw))] (fun H => jJ D n jr jk jg js jm H) (fun H => va_P D vwCl [(x, .inr (6, [a0, a1, .ref xj, .int (nI n), .ref xn, a5, a6, a7, a8, a9, .ref xm, .ref xw])), (xj, .inl (cJ, 6, .inr (.inr (.inr (.inr jr))))), (xn, .inr (1, [.int y, b1, b2, b3, b4, .ref ns, .ref ne, b7, b8])), (ns, .inl (cI, 6, .inl sp)), (ne, .inl (cI, 6, .inl en)), (xm, .inl (cI, 91, .inl ((cfl (fun i => fw i y - en i) sp M nw n n).1))), (xw, .inl (cI, 6, .inl ((cfl (fun i => fw i y - en i) sp M nw n n).2)))] H) := by
  intro sz
  refine Met.ofW (cc := cX6_fillMost) (maxL := 3) (ret := none) (by decide) rfl ?_
  intro p e s m args below meth c s₁ B hml hv
  obtain ⟨rfl, hsz, hT, hP, hD0, hJ⟩ := hv
  have hK := hT.1
  have hx := B.exec
  have hb := B.bytes
  have hr := B.returns
  have hts := atoms_spec (ws := wsX6_fillMost) B.pre
  have hown : s.vm.findClass RX6 = some m.cls := findClass_of_methodNamed B.named
  have hlocks := B.notSynchronized
  subst hsz
  have hD := hD0.self (sz := s.heap.size)
  generalize hAe : va_A [(x, .inr (6, [a0, a1, .ref xj, .int (nI n), .ref xn, a5, a6, a7, a8, a9, .ref xm, .ref xw])), (xj, .inl (cJ, 6, .inr (.inr (.inr (.inr jr))))), (xn, .inr (1, [.int y, b1, b2, b3, b4, .ref ns, .ref ne, b7, b8])), (ns, .inl (cI, 6, .inl sp)), (ne, .inl (cI, 6, .inl en)), (xm, .inl (cI, 91, .inl M)), (xw, .inl (cI, 6, .inl nw))] s.heap.size = A at hD ⊢
  have hA : ∀ q : Nat, s.heap.size ≤ q → A q := fun q h => by rw [← hAe]; exact Or.inr h
  have hS : va_S A s.heap s.heap [] := va_S.rf
  have hl := lv_entry ([.ref x] : List Value) (n := 3) (Nat.le_of_ble_eq_true rfl)
  rw [lg_entry_eq]
  generalize (lg_sl ([.ref x]) ++ List.replicate (3 - (lg_sl ([.ref x])).length) Slot.unset).toArray = ls at hl ⊢
  have hl : lv_has ls 3 [(0, .ref x)] := hl
  have hJ_0 := hJ
  have hJ_A : ∀ i a : Nat, i < n → jr i = some a → ¬ A a := fun i a hi ha => by rw [← hAe]; exact jap (hJ.lt hi ha) (hap i a hi ha)
  refine lv_iconst (v := 0) hx hb dX6_fillMost_0 (by decide) ?_
  refine lv_istore_n (lv' := [(1, .int 0), (0, .ref x)]) hx hb dX6_fillMost_1 rfl hl (by decide) rfl (fun ls hl => ?_)
  refine jloop (α := Nat × (Nat → Int32)) (fun (x9 : Nat × (Nat → Int32)) (H : Heap) (locs : List Loc) (ls : Array Slot) => match x9 with | (k, Mx) => (va_P D vwCl [(x, .inr (6, [a0, a1, .ref xj, .int (nI n), .ref xn, a5, a6, a7, a8, a9, .ref xm, .ref xw])), (xj, .inl (cJ, 6, .inr (.inr (.inr (.inr jr))))), (xn, .inr (1, [.int y, b1, b2, b3, b4, .ref ns, .ref ne, b7, b8])), (ns, .inl (cI, 6, .inl sp)), (ne, .inl (cI, 6, .inl en)), (xm, .inl (cI, 91, .inl Mx)), (xw, .inl (cI, 6, .inl nw))] H) ∧ (va_D A [(x, .inr (6, [a0, a1, .ref xj, .int (nI n), .ref xn, a5, a6, a7, a8, a9, .ref xm, .ref xw])), (xj, .inl (cJ, 6, .inr (.inr (.inr (.inr jr))))), (xn, .inr (1, [.int y, b1, b2, b3, b4, .ref ns, .ref ne, b7, b8])), (ns, .inl (cI, 6, .inl sp)), (ne, .inl (cI, 6, .inl en)), (xm, .inl (cI, 91, .inl Mx)), (xw, .inl (cI, 6, .inl nw))]) ∧ (jJ D n jr jk jg js jm H) ∧ (va_S A s.heap H locs) ∧ (lv_has ls 3 [(0, .ref x), (1, .int (nI k))]) ∧ (k ≤ 13) ∧ (Mx = cf0 M n k)) (fun (x9 : Nat × (Nat → Int32)) => match x9 with | (k, Mx) => 13 - k) (fun x9 H locs ls hx9 ih_2 => ?_) (0, M) _ _ _ ⟨hP, hD, hJ, hS, lv_sub hl [1, 0] rfl, (by omega), rfl⟩
  obtain ⟨k, Mx⟩ := x9
  obtain ⟨hP, hD, hJ, hS, hl, hk9, hM⟩ := hx9
  refine lv_iload_n hx hb dX6_fillMost_2 rfl (lv_at hl 1 rfl) ?_
  refine lv_bipush (v := 13) hx hb dX6_fillMost_3 (by decide) ?_
  refine lv_icmp_ge (tgt := 33) hx hb dX6_fillMost_5 (by decide) (fun c_1 => ?_) (fun c_1 => ?_)
  · skip
    replace c_1 : 13 ≤ k := (nI_leI (a := 13) (b := k) (by omega) (by omega)).mp c_1
    refine lv_aload_n hx hb dX6_fillMost_33 rfl (lv_at hl 0 rfl) ?_
    refine va_get (D := D) (ci := 6) (v := .int (nI n)) (C := RX6) (T := TX6) (N := 12) hx hb hts (fun w h => List.mem_cons_of_mem _ (List.mem_append_left _ (List.mem_append_left _ (List.mem_append_left _ (List.mem_append_left _ (List.mem_append_left _ (List.mem_append_left _ (List.mem_append_right _ h)))))))) hown hK hP 0 rfl rfl 3 (by decide) (hts (Cond.fieldLink RX6 23 "JamDays" "jarCount" "I") (List.mem_of_getElem? (i := 1) rfl)) (fun _ h9 => h9) rfl dX6_fillMost_34 ?_
    refine lv_bipush (v := 6) hx hb dX6_fillMost_37 (by decide) ?_
    refine va_mmin hx hb (by rw [hml]; exact hl.1.symm) hown (hts (Cond.methodLink RX6 225 Lib.Math.min.name) (List.mem_of_getElem? (i := 3) rfl)) (hts (Cond.static Lib.Math.min.name) (List.mem_of_getElem? (i := 4) rfl)) (hts (Cond.initialized "java/lang/Math") (List.mem_of_getElem? (i := 5) rfl)) (hts (Cond.code Lib.Math.min.name Lib.Math.min.code 2 (some .int)) (List.mem_of_getElem? (i := 6) rfl)) (Nat.le_of_ble_eq_true rfl) (Nat.le_of_ble_eq_true rfl) (Nat.zero_le _) (Nat.zero_le _) dX6_fillMost_39 ?_
    refine jv_as (y := nI n) (if_neg (fun h => by have h9 := (nI_ltI (a := 6) (b := n) (by omega) (by omega)).mp h; omega)) ?_
    refine lv_iconst (v := 1) hx hb dX6_fillMost_42 (by decide) ?_
    refine lv_isub hx hb dX6_fillMost_43 ?_
    refine jv_as (y := nI n + (-1)) (Int32.sub_eq_add_neg _ _) ?_
    refine lv_istore_n (lv' := [(1, .int (nI n + (-1))), (0, .ref x)]) hx hb dX6_fillMost_44 rfl hl (by decide) rfl (fun ls hl => ?_)
    refine jloop (α := Nat × (Nat → Int32) × (Nat → Int32)) (fun (x9 : Nat × (Nat → Int32) × (Nat → Int32)) (H : Heap) (locs : List Loc) (ls : Array Slot) => match x9 with | (i, My, nx) => (va_P D vwCl [(x, .inr (6, [a0, a1, .ref xj, .int (nI n), .ref xn, a5, a6, a7, a8, a9, .ref xm, .ref xw])), (xj, .inl (cJ, 6, .inr (.inr (.inr (.inr jr))))), (xn, .inr (1, [.int y, b1, b2, b3, b4, .ref ns, .ref ne, b7, b8])), (ns, .inl (cI, 6, .inl sp)), (ne, .inl (cI, 6, .inl en)), (xm, .inl (cI, 91, .inl My)), (xw, .inl (cI, 6, .inl nx))] H) ∧ (va_D A [(x, .inr (6, [a0, a1, .ref xj, .int (nI n), .ref xn, a5, a6, a7, a8, a9, .ref xm, .ref xw])), (xj, .inl (cJ, 6, .inr (.inr (.inr (.inr jr))))), (xn, .inr (1, [.int y, b1, b2, b3, b4, .ref ns, .ref ne, b7, b8])), (ns, .inl (cI, 6, .inl sp)), (ne, .inl (cI, 6, .inl en)), (xm, .inl (cI, 91, .inl My)), (xw, .inl (cI, 6, .inl nx))]) ∧ (jJ D n jr jk jg js jm H) ∧ (va_S A s.heap H locs) ∧ (lv_has ls 3 [(0, .ref x), (1, .int (nI i + (-1)))]) ∧ (i ≤ n) ∧ (My = (cfl (fun i => fw i y - en i) sp M nw n (n - i)).1) ∧ (nx = (cfl (fun i => fw i y - en i) sp M nw n (n - i)).2)) (fun (x9 : Nat × (Nat → Int32) × (Nat → Int32)) => match x9 with | (i, My, nx) => i) (fun x9 H locs ls hx9 ih_45 => ?_) (n, Mx, nw) _ _ _ ⟨hP, hD, hJ, hS, lv_sub hl [1, 0] rfl, (by omega), (by rw [Nat.sub_self, hM, show k = 13 by omega]; rfl), (by rw [Nat.sub_self]; rfl)⟩
    obtain ⟨i, My, nx⟩ := x9
    obtain ⟨hP, hD, hJ, hS, hl, hi9, hMy, hnx⟩ := hx9
    refine lv_iload_n hx hb dX6_fillMost_45 rfl (lv_at hl 1 rfl) ?_
    rcases i with _ | j
    · skip
      refine jv_as (y := -1) (by decide) ?_
      rw [show nI 0 + (-1) = (-1 : Int32) from by decide] at hl
      refine lv_if_lt (tgt := 92) hx hb dX6_fillMost_46 (by decide) (fun c_2 => ?_) (fun c_2 => ?_)
      · skip
        exact W.vret hx hb hr (fun t ht hW => ⟨⟨(), rfl, trivial, by dsimp only; rw [ht]; exact (by rw [Nat.sub_zero] at hMy hnx; rw [← hMy, ← hnx]; exact hP)⟩, hS.F ht⟩) hS.2.2 dX6_fillMost_92
      · skip
        exact absurd c_2 (by decide)
    · skip
      refine jv_as (y := nI j) (pk_m1 j) ?_
      rw [pk_m1] at hl
      have hj : j < n := by omega
      refine lv_if_lt (tgt := 92) hx hb dX6_fillMost_46 (by decide) (fun c_3 => ?_) (fun c_3 => ?_)
      · skip
        replace c_3 : j < 0 := (nI_ltI (a := j) (b := 0) (by omega) (by omega)).mp c_3
        exact absurd c_3 (by omega)
      · skip
        replace c_3 : ¬ j < 0 := fun h => c_3 ((nI_ltI (a := j) (b := 0) (by omega) (by omega)).mpr h)
        refine lv_aload_n hx hb dX6_fillMost_49 rfl (lv_at hl 0 rfl) ?_
        refine va_get (D := D) (ci := 6) (v := .ref xw) (C := RX6) (T := TX6) (N := 12) hx hb hts (fun w h => List.mem_cons_of_mem _ (List.mem_append_left _ (List.mem_append_left _ (List.mem_append_left _ (List.mem_append_left _ (List.mem_append_left _ (List.mem_append_left _ (List.mem_append_right _ h)))))))) hown hK hP 0 rfl rfl 11 (by decide) (hts (Cond.fieldLink RX6 52 "JamDays" "nextWorths" "[I") (List.mem_of_getElem? (i := 7) rfl)) (fun _ h9 => h9) rfl dX6_fillMost_50 ?_
        refine lv_iload_n hx hb dX6_fillMost_53 rfl (lv_at hl 1 rfl) ?_
        refine lv_aload_n hx hb dX6_fillMost_54 rfl (lv_at hl 0 rfl) ?_
        refine lv_iload_n hx hb dX6_fillMost_55 rfl (lv_at hl 1 rfl) ?_
        have hPc_4 := hP.sub (ws' := [(x, .inr (6, [a0, a1, .ref xj, .int (nI n), .ref xn, a5, a6, a7, a8, a9, .ref xm, .ref xw])), (xj, .inl (cJ, 6, .inr (.inr (.inr (.inr jr))))), (xn, .inr (1, [.int y, b1, b2, b3, b4, .ref ns, .ref ne, b7, b8])), (ne, .inl (cI, 6, .inl en))]) [0, 1, 2, 4] rfl
        refine jcalli (va_runV (As := [.int (nI j)]) (rest := [.int (nI j), .ref xw]) ⟨hx, hb, hml, hown, hts⟩ (c_nextWorth l D cI cJ x xj xn ne n a0 a1 a5 a6 a7 a8 a9 (.ref xm) (.ref xw) b1 b2 b3 b4 (.ref ns) b7 b8 jr jk jg js jm fw en y j hj hn6 hfw H.size) (cwV 1 hts gX6_fillMost_X6_nextWorth rfl rfl rfl (by decide +kernel) ⟨Nat.le_of_ble_eq_true rfl, Nat.le_of_ble_eq_true rfl⟩) (jpreV hT (va_recv hK hP (ci := 6) (q0 := 0) rfl rfl) ⟨hPc_4, hJ⟩) rfl rfl hl.1 rfl (lv_room (Nat.le_of_ble_eq_true rfl)) dX6_fillMost_56 ⟨(Nat.zero_le _), (Nat.zero_le _)⟩) hS hA (fun r_5 H locs hw_r_5 hkq hS => ?_)
        try dsimp only at hw_r_5
        have hP := jkeep hP hkq
        have hJ := hJ.kept hkq
        subst hw_r_5
        refine jv_ast (k := j) (x := fw j y - en j) hx hb hK hP hD hS 6 0 rfl rfl (by omega) (by decide) dX6_fillMost_59 (fun H locs hP hD hS => ?_)
        have hP : va_P D vwCl [(x, .inr (6, [a0, a1, .ref xj, .int (nI n), .ref xn, a5, a6, a7, a8, a9, .ref xm, .ref xw])), (xj, .inl (cJ, 6, .inr (.inr (.inr (.inr jr))))), (xn, .inr (1, [.int y, b1, b2, b3, b4, .ref ns, .ref ne, b7, b8])), (ns, .inl (cI, 6, .inl sp)), (ne, .inl (cI, 6, .inl en)), (xm, .inl (cI, 91, .inl My)), (xw, .inl (cI, 6, .inl (upd nx j (fw j y - en j))))] H := hP
        have hD : va_D A [(x, .inr (6, [a0, a1, .ref xj, .int (nI n), .ref xn, a5, a6, a7, a8, a9, .ref xm, .ref xw])), (xj, .inl (cJ, 6, .inr (.inr (.inr (.inr jr))))), (xn, .inr (1, [.int y, b1, b2, b3, b4, .ref ns, .ref ne, b7, b8])), (ns, .inl (cI, 6, .inl sp)), (ne, .inl (cI, 6, .inl en)), (xm, .inl (cI, 91, .inl My)), (xw, .inl (cI, 6, .inl (upd nx j (fw j y - en j))))] := hD
        have hJ := hJ_0.keptA hJ_A (fun q h1 h2 => hS.2.1 q h1 h2)
        refine lv_iconst (v := 0) hx hb dX6_fillMost_60 (by decide) ?_
        refine lv_istore_n (lv' := [(2, .int 0), (0, .ref x), (1, .int (nI j))]) hx hb dX6_fillMost_61 rfl hl (by decide) rfl (fun ls hl => ?_)
        refine jloop (α := Nat × (Nat → Int32)) (fun (x9 : Nat × (Nat → Int32)) (H : Heap) (locs : List Loc) (ls : Array Slot) => match x9 with | (cq, Mz) => (va_P D vwCl [(x, .inr (6, [a0, a1, .ref xj, .int (nI n), .ref xn, a5, a6, a7, a8, a9, .ref xm, .ref xw])), (xj, .inl (cJ, 6, .inr (.inr (.inr (.inr jr))))), (xn, .inr (1, [.int y, b1, b2, b3, b4, .ref ns, .ref ne, b7, b8])), (ns, .inl (cI, 6, .inl sp)), (ne, .inl (cI, 6, .inl en)), (xm, .inl (cI, 91, .inl Mz)), (xw, .inl (cI, 6, .inl (upd nx j (fw j y - en j))))] H) ∧ (va_D A [(x, .inr (6, [a0, a1, .ref xj, .int (nI n), .ref xn, a5, a6, a7, a8, a9, .ref xm, .ref xw])), (xj, .inl (cJ, 6, .inr (.inr (.inr (.inr jr))))), (xn, .inr (1, [.int y, b1, b2, b3, b4, .ref ns, .ref ne, b7, b8])), (ns, .inl (cI, 6, .inl sp)), (ne, .inl (cI, 6, .inl en)), (xm, .inl (cI, 91, .inl Mz)), (xw, .inl (cI, 6, .inl (upd nx j (fw j y - en j))))]) ∧ (jJ D n jr jk jg js jm H) ∧ (va_S A s.heap H locs) ∧ (lv_has ls 3 [(0, .ref x), (1, .int (nI j)), (2, .int (nI cq))]) ∧ (cq ≤ 13) ∧ (Mz = cfr (upd nx j (fw j y - en j)) sp My j cq)) (fun (x9 : Nat × (Nat → Int32)) => match x9 with | (cq, Mz) => 13 - cq) (fun x9 H locs ls hx9 ih_62 => ?_) (0, My) _ _ _ ⟨hP, hD, hJ, hS, lv_sub hl [1, 2, 0] rfl, (by omega), rfl⟩
        obtain ⟨cq, Mz⟩ := x9
        obtain ⟨hP, hD, hJ, hS, hl, hc9, hMz⟩ := hx9
        refine lv_iload_n hx hb dX6_fillMost_62 rfl (lv_at hl 2 rfl) ?_
        refine lv_bipush (v := 13) hx hb dX6_fillMost_63 (by decide) ?_
        refine lv_icmp_ge (tgt := 86) hx hb dX6_fillMost_65 (by decide) (fun c_6 => ?_) (fun c_6 => ?_)
        · skip
          replace c_6 : 13 ≤ cq := (nI_leI (a := 13) (b := cq) (by omega) (by omega)).mp c_6
          obtain rfl : cq = 13 := by omega
          refine lv_iinc (v := (nI j) + (-1)) (lv' := [(1, .int ((nI j) + (-1))), (0, .ref x), (2, .int (nI 13))]) hx hb dX6_fillMost_86 hl (k := 1) rfl rfl (by decide) rfl (fun ls hl => ?_)
          refine lv_goto (tgt := 45) hx hb dX6_fillMost_89 (by decide) ?_
          exact ih_45 (j, Mz, upd nx j (fw j y - en j)) _ _ _ ⟨hP, hD, hJ, hS, lv_sub hl [1, 0] rfl, (by omega), (by rw [hMz]; exact (cfl_s (g := (fun i => fw i y - en i)) hi9 hMy hnx).1), (cfl_s (g := (fun i => fw i y - en i)) hi9 hMy hnx).2⟩ (by dsimp only; omega)
        · skip
          replace c_6 : ¬ 13 ≤ cq := fun h => c_6 ((nI_leI (a := 13) (b := cq) (by omega) (by omega)).mpr h)
          refine lv_aload_n hx hb dX6_fillMost_68 rfl (lv_at hl 0 rfl) ?_
          refine lv_iload_n hx hb dX6_fillMost_69 rfl (lv_at hl 1 rfl) ?_
          refine lv_iload_n hx hb dX6_fillMost_70 rfl (lv_at hl 2 rfl) ?_
          refine lv_aload_n hx hb dX6_fillMost_71 rfl (lv_at hl 0 rfl) ?_
          refine lv_iload_n hx hb dX6_fillMost_72 rfl (lv_at hl 1 rfl) ?_
          refine lv_iload_n hx hb dX6_fillMost_73 rfl (lv_at hl 2 rfl) ?_
          have hPc_7 := hP.sub (ws' := [(x, .inr (6, [a0, a1, .ref xj, .int (nI n), .ref xn, a5, a6, a7, a8, a9, .ref xm, .ref xw])), (xj, .inl (cJ, 6, .inr (.inr (.inr (.inr jr))))), (xn, .inr (1, [.int y, b1, b2, b3, b4, .ref ns, .ref ne, b7, b8])), (ns, .inl (cI, 6, .inl sp)), (xm, .inl (cI, 91, .inl Mz)), (xw, .inl (cI, 6, .inl (upd nx j (fw j y - en j))))]) [0, 1, 2, 3, 5, 6] rfl
          refine jcalli (va_runV (As := [.int (nI j), .int (nI cq)]) (rest := [.int (nI cq), .int (nI j), .ref x]) ⟨hx, hb, hml, hown, hts⟩ (c_mostFrom l D cI cJ x xj xn xm xw ns n a0 a1 a5 a6 a7 a8 a9 (.int y) b1 b2 b3 b4 (.ref ne) b7 b8 jr jk jg js jm (upd nx j (fw j y - en j)) sp Mz j cq hj hn6 (by omega) H.size) (cwV 2 hts gX6_fillMost_X6_mostFrom rfl rfl rfl (by decide +kernel) ⟨Nat.le_of_ble_eq_true rfl, Nat.le_of_ble_eq_true rfl⟩) (jpreV hT (va_recv hK hP (ci := 6) (q0 := 0) rfl rfl) ⟨hPc_7, hJ⟩) rfl rfl hl.1 rfl (lv_room (Nat.le_of_ble_eq_true rfl)) dX6_fillMost_74 ⟨(Nat.zero_le _), (Nat.zero_le _)⟩) hS hA (fun r_8 H locs hw_r_8 hkq hS => ?_)
          try dsimp only at hw_r_8
          have hP := jkeep hP hkq
          have hJ := hJ.kept hkq
          subst hw_r_8
          have hPc_9 := hP.sub (ws' := [(x, .inr (6, [a0, a1, .ref xj, .int (nI n), .ref xn, a5, a6, a7, a8, a9, .ref xm, .ref xw])), (xm, .inl (cI, 91, .inl Mz))]) [0, 5] rfl
          have hDc_10 := hD.sub (ws' := [(x, .inr (6, [a0, a1, .ref xj, .int (nI n), .ref xn, a5, a6, a7, a8, a9, .ref xm, .ref xw])), (xm, .inl (cI, 91, .inl Mz))]) [0, 5] (by decide) rfl
          have hFc_11 := va_free (wc := [(x, .inr (6, [a0, a1, .ref xj, .int (nI n), .ref xn, a5, a6, a7, a8, a9, .ref xm, .ref xw])), (xm, .inl (cI, 91, .inl Mz))]) hD hS hA [0, 5] rfl
          refine jcallWv (post := fun H => va_P D vwCl [(x, .inr (6, [a0, a1, (.ref xj), (.int (nI n)), (.ref xn), a5, a6, a7, a8, a9, .ref xm, (.ref xw)])), (xm, .inl (cI, 91, .inl (upd Mz (j * 13 + cq) (cmf (cww (upd nx j (fw j y - en j)) sp Mz j cq) (cq + 1)))))] H) (va_runV (As := [.int (nI j), .int (nI cq), .int (cmf (cww (upd nx j (fw j y - en j)) sp Mz j cq) (cq + 1))]) (rest := []) ⟨hx, hb, hml, hown, hts⟩ (c_setMost l D cI cJ x xm j cq a0 a1 (.ref xj) (.int (nI n)) (.ref xn) a5 a6 a7 a8 a9 (.ref xw) Mz (cmf (cww (upd nx j (fw j y - en j)) sp Mz j cq) (cq + 1)) (by omega) (by omega) H.size) (cwV 3 hts gX6_fillMost_X6_setMost rfl rfl rfl (by decide +kernel) ⟨Nat.le_of_ble_eq_true rfl, Nat.le_of_ble_eq_true rfl⟩) (jpreV hT (va_recv hK hP (ci := 6) (q0 := 0) rfl rfl) ⟨hPc_9, hDc_10.weaken (fun _ _ _ _ => trivial), trivial⟩) rfl rfl hl.1 rfl (lv_room (Nat.le_of_ble_eq_true rfl)) dX6_fillMost_77 ⟨(Nat.zero_le _), (Nat.zero_le _)⟩) hS hFc_11 (fun H locs hw_r_12 hz hkq hS => ?_)
          have hP1 := hw_r_12
          obtain ⟨hP, hD⟩ := jjoin (wc := [(x, .inr (6, [a0, a1, .ref xj, .int (nI n), .ref xn, a5, a6, a7, a8, a9, .ref xm, .ref xw])), (xm, .inl (cI, 91, .inl Mz))]) (wr := [(xj, .inl (cJ, 6, .inr (.inr (.inr (.inr jr))))), (xn, .inr (1, [.int y, b1, b2, b3, b4, .ref ns, .ref ne, b7, b8])), (ns, .inl (cI, 6, .inl sp)), (ne, .inl (cI, 6, .inl en)), (xw, .inl (cI, 6, .inl (upd nx j (fw j y - en j))))]) (w1 := [(x, .inr (6, [a0, a1, .ref xj, .int (nI n), .ref xn, a5, a6, a7, a8, a9, .ref xm, .ref xw])), (xm, .inl (cI, 91, .inl (upd Mz (j * 13 + cq) (cmf (cww (upd nx j (fw j y - en j)) sp Mz j cq) (cq + 1)))))]) (ws' := [(x, .inr (6, [a0, a1, .ref xj, .int (nI n), .ref xn, a5, a6, a7, a8, a9, .ref xm, .ref xw])), (xj, .inl (cJ, 6, .inr (.inr (.inr (.inr jr))))), (xn, .inr (1, [.int y, b1, b2, b3, b4, .ref ns, .ref ne, b7, b8])), (ns, .inl (cI, 6, .inl sp)), (ne, .inl (cI, 6, .inl en)), (xm, .inl (cI, 91, .inl (upd Mz (j * 13 + cq) (cmf (cww (upd nx j (fw j y - en j)) sp Mz j cq) (cq + 1))))), (xw, .inl (cI, 6, .inl (upd nx j (fw j y - en j))))]) hP hD hFc_11 [0, 5] [1, 2, 3, 4, 6] [5, 0, 1, 2, 3, 6, 4] rfl rfl (by decide) (by decide) (by decide) (by decide) hkq hP1 rfl rfl rfl
          have hJ := hJ_0.keptA hJ_A (fun q h1 h2 => hS.2.1 q h1 h2)
          refine lv_iinc (v := nI (cq + 1)) (lv' := [(2, .int (nI (cq + 1))), (0, .ref x), (1, .int (nI j))]) hx hb dX6_fillMost_80 hl (k := 2) rfl ((rfl : nI cq + Int32.ofInt 1 = nI cq + nI 1).trans (nI_add cq 1)) (by decide) rfl (fun ls hl => ?_)
          refine lv_goto (tgt := 62) hx hb dX6_fillMost_83 (by decide) ?_
          exact ih_62 (cq + 1, upd Mz (j * 13 + cq) (cmf (cww (upd nx j (fw j y - en j)) sp Mz j cq) (cq + 1))) _ _ _ ⟨hP, hD, hJ, hS, lv_sub hl [1, 2, 0] rfl, (by omega), (by rw [cfr, ← hMz])⟩ (by dsimp only; omega)
  · skip
    replace c_1 : ¬ 13 ≤ k := fun h => c_1 ((nI_leI (a := 13) (b := k) (by omega) (by omega)).mpr h)
    refine lv_aload_n hx hb dX6_fillMost_8 rfl (lv_at hl 0 rfl) ?_
    refine lv_aload_n hx hb dX6_fillMost_9 rfl (lv_at hl 0 rfl) ?_
    refine va_get (D := D) (ci := 6) (v := .int (nI n)) (C := RX6) (T := TX6) (N := 12) hx hb hts (fun w h => List.mem_cons_of_mem _ (List.mem_append_left _ (List.mem_append_left _ (List.mem_append_left _ (List.mem_append_left _ (List.mem_append_left _ (List.mem_append_left _ (List.mem_append_right _ h)))))))) hown hK hP 0 rfl rfl 3 (by decide) (hts (Cond.fieldLink RX6 23 "JamDays" "jarCount" "I") (List.mem_of_getElem? (i := 1) rfl)) (fun _ h9 => h9) rfl dX6_fillMost_10 ?_
    refine lv_iload_n hx hb dX6_fillMost_13 rfl (lv_at hl 1 rfl) ?_
    refine lv_iload_n hx hb dX6_fillMost_14 rfl (lv_at hl 1 rfl) ?_
    refine lv_if_ne (tgt := 22) hx hb dX6_fillMost_15 (by decide) (fun c_13 => ?_) (fun c_13 => ?_)
    · skip
      replace c_13 : ¬ k = 0 := fun h => c_13 ((nI_eq (a := k) (b := 0) (by omega) (by omega)).mpr h)
      refine lv_ldc (v := (-1000000)) hx hb hown (hts (Cond.constant RX6 136 (-1000000)) (List.mem_of_getElem? (i := 2) rfl)) dX6_fillMost_22 ?_
      have hPc_14 := hP.sub (ws' := [(x, .inr (6, [a0, a1, .ref xj, .int (nI n), .ref xn, a5, a6, a7, a8, a9, .ref xm, .ref xw])), (xm, .inl (cI, 91, .inl Mx))]) [0, 5] rfl
      have hDc_15 := hD.sub (ws' := [(x, .inr (6, [a0, a1, .ref xj, .int (nI n), .ref xn, a5, a6, a7, a8, a9, .ref xm, .ref xw])), (xm, .inl (cI, 91, .inl Mx))]) [0, 5] (by decide) rfl
      have hFc_16 := va_free (wc := [(x, .inr (6, [a0, a1, .ref xj, .int (nI n), .ref xn, a5, a6, a7, a8, a9, .ref xm, .ref xw])), (xm, .inl (cI, 91, .inl Mx))]) hD hS hA [0, 5] rfl
      refine jcallWv (post := fun H => va_P D vwCl [(x, .inr (6, [a0, a1, (.ref xj), (.int (nI n)), (.ref xn), a5, a6, a7, a8, a9, .ref xm, (.ref xw)])), (xm, .inl (cI, 91, .inl (upd Mx (n * 13 + k) (-1000000))))] H) (va_runV (As := [.int (nI n), .int (nI k), .int (-1000000)]) (rest := []) ⟨hx, hb, hml, hown, hts⟩ (c_setMost l D cI cJ x xm n k a0 a1 (.ref xj) (.int (nI n)) (.ref xn) a5 a6 a7 a8 a9 (.ref xw) Mx (-1000000) hn6 (by omega) H.size) (cwV 3 hts gX6_fillMost_X6_setMost rfl rfl rfl (by decide +kernel) ⟨Nat.le_of_ble_eq_true rfl, Nat.le_of_ble_eq_true rfl⟩) (jpreV hT (va_recv hK hP (ci := 6) (q0 := 0) rfl rfl) ⟨hPc_14, hDc_15.weaken (fun _ _ _ _ => trivial), trivial⟩) rfl rfl hl.1 rfl (lv_room (Nat.le_of_ble_eq_true rfl)) dX6_fillMost_24 ⟨(Nat.zero_le _), (Nat.zero_le _)⟩) hS hFc_16 (fun H locs hw_r_17 hz hkq hS => ?_)
      have hP1 := hw_r_17
      obtain ⟨hP, hD⟩ := jjoin (wc := [(x, .inr (6, [a0, a1, .ref xj, .int (nI n), .ref xn, a5, a6, a7, a8, a9, .ref xm, .ref xw])), (xm, .inl (cI, 91, .inl Mx))]) (wr := [(xj, .inl (cJ, 6, .inr (.inr (.inr (.inr jr))))), (xn, .inr (1, [.int y, b1, b2, b3, b4, .ref ns, .ref ne, b7, b8])), (ns, .inl (cI, 6, .inl sp)), (ne, .inl (cI, 6, .inl en)), (xw, .inl (cI, 6, .inl nw))]) (w1 := [(x, .inr (6, [a0, a1, .ref xj, .int (nI n), .ref xn, a5, a6, a7, a8, a9, .ref xm, .ref xw])), (xm, .inl (cI, 91, .inl (upd Mx (n * 13 + k) (-1000000))))]) (ws' := [(x, .inr (6, [a0, a1, .ref xj, .int (nI n), .ref xn, a5, a6, a7, a8, a9, .ref xm, .ref xw])), (xj, .inl (cJ, 6, .inr (.inr (.inr (.inr jr))))), (xn, .inr (1, [.int y, b1, b2, b3, b4, .ref ns, .ref ne, b7, b8])), (ns, .inl (cI, 6, .inl sp)), (ne, .inl (cI, 6, .inl en)), (xm, .inl (cI, 91, .inl (upd Mx (n * 13 + k) (-1000000)))), (xw, .inl (cI, 6, .inl nw))]) hP hD hFc_16 [0, 5] [1, 2, 3, 4, 6] [5, 0, 1, 2, 3, 6, 4] rfl rfl (by decide) (by decide) (by decide) (by decide) hkq hP1 rfl rfl rfl
      have hJ := hJ_0.keptA hJ_A (fun q h1 h2 => hS.2.1 q h1 h2)
      refine lv_iinc (v := nI (k + 1)) (lv' := [(1, .int (nI (k + 1))), (0, .ref x)]) hx hb dX6_fillMost_27 hl (k := 1) rfl ((rfl : nI k + Int32.ofInt 1 = nI k + nI 1).trans (nI_add k 1)) (by decide) rfl (fun ls hl => ?_)
      refine lv_goto (tgt := 2) hx hb dX6_fillMost_30 (by decide) ?_
      exact ih_2 (k + 1, upd Mx (n * 13 + k) (-1000000)) _ _ _ ⟨hP, hD, hJ, hS, lv_sub hl [1, 0] rfl, (by omega), (by rw [cf0, if_neg c_13, ← hM])⟩ (by dsimp only; omega)
    · skip
      replace c_13 : k = 0 := (nI_eq (a := k) (b := 0) (by omega) (by omega)).mp c_13
      refine lv_iconst (v := 0) hx hb dX6_fillMost_18 (by decide) ?_
      refine lv_goto (tgt := 24) hx hb dX6_fillMost_19 (by decide) ?_
      have hPc_18 := hP.sub (ws' := [(x, .inr (6, [a0, a1, .ref xj, .int (nI n), .ref xn, a5, a6, a7, a8, a9, .ref xm, .ref xw])), (xm, .inl (cI, 91, .inl Mx))]) [0, 5] rfl
      have hDc_19 := hD.sub (ws' := [(x, .inr (6, [a0, a1, .ref xj, .int (nI n), .ref xn, a5, a6, a7, a8, a9, .ref xm, .ref xw])), (xm, .inl (cI, 91, .inl Mx))]) [0, 5] (by decide) rfl
      have hFc_20 := va_free (wc := [(x, .inr (6, [a0, a1, .ref xj, .int (nI n), .ref xn, a5, a6, a7, a8, a9, .ref xm, .ref xw])), (xm, .inl (cI, 91, .inl Mx))]) hD hS hA [0, 5] rfl
      refine jcallWv (post := fun H => va_P D vwCl [(x, .inr (6, [a0, a1, (.ref xj), (.int (nI n)), (.ref xn), a5, a6, a7, a8, a9, .ref xm, (.ref xw)])), (xm, .inl (cI, 91, .inl (upd Mx (n * 13 + k) 0)))] H) (va_runV (As := [.int (nI n), .int (nI k), .int 0]) (rest := []) ⟨hx, hb, hml, hown, hts⟩ (c_setMost l D cI cJ x xm n k a0 a1 (.ref xj) (.int (nI n)) (.ref xn) a5 a6 a7 a8 a9 (.ref xw) Mx 0 hn6 (by omega) H.size) (cwV 3 hts gX6_fillMost_X6_setMost rfl rfl rfl (by decide +kernel) ⟨Nat.le_of_ble_eq_true rfl, Nat.le_of_ble_eq_true rfl⟩) (jpreV hT (va_recv hK hP (ci := 6) (q0 := 0) rfl rfl) ⟨hPc_18, hDc_19.weaken (fun _ _ _ _ => trivial), trivial⟩) rfl rfl hl.1 rfl (lv_room (Nat.le_of_ble_eq_true rfl)) dX6_fillMost_24 ⟨(Nat.zero_le _), (Nat.zero_le _)⟩) hS hFc_20 (fun H locs hw_r_21 hz hkq hS => ?_)
      have hP1 := hw_r_21
      obtain ⟨hP, hD⟩ := jjoin (wc := [(x, .inr (6, [a0, a1, .ref xj, .int (nI n), .ref xn, a5, a6, a7, a8, a9, .ref xm, .ref xw])), (xm, .inl (cI, 91, .inl Mx))]) (wr := [(xj, .inl (cJ, 6, .inr (.inr (.inr (.inr jr))))), (xn, .inr (1, [.int y, b1, b2, b3, b4, .ref ns, .ref ne, b7, b8])), (ns, .inl (cI, 6, .inl sp)), (ne, .inl (cI, 6, .inl en)), (xw, .inl (cI, 6, .inl nw))]) (w1 := [(x, .inr (6, [a0, a1, .ref xj, .int (nI n), .ref xn, a5, a6, a7, a8, a9, .ref xm, .ref xw])), (xm, .inl (cI, 91, .inl (upd Mx (n * 13 + k) 0)))]) (ws' := [(x, .inr (6, [a0, a1, .ref xj, .int (nI n), .ref xn, a5, a6, a7, a8, a9, .ref xm, .ref xw])), (xj, .inl (cJ, 6, .inr (.inr (.inr (.inr jr))))), (xn, .inr (1, [.int y, b1, b2, b3, b4, .ref ns, .ref ne, b7, b8])), (ns, .inl (cI, 6, .inl sp)), (ne, .inl (cI, 6, .inl en)), (xm, .inl (cI, 91, .inl (upd Mx (n * 13 + k) 0))), (xw, .inl (cI, 6, .inl nw))]) hP hD hFc_20 [0, 5] [1, 2, 3, 4, 6] [5, 0, 1, 2, 3, 6, 4] rfl rfl (by decide) (by decide) (by decide) (by decide) hkq hP1 rfl rfl rfl
      have hJ := hJ_0.keptA hJ_A (fun q h1 h2 => hS.2.1 q h1 h2)
      refine lv_iinc (v := nI (k + 1)) (lv' := [(1, .int (nI (k + 1))), (0, .ref x)]) hx hb dX6_fillMost_27 hl (k := 1) rfl ((rfl : nI k + Int32.ofInt 1 = nI k + nI 1).trans (nI_add k 1)) (by decide) rfl (fun ls hl => ?_)
      refine lv_goto (tgt := 2) hx hb dX6_fillMost_30 (by decide) ?_
      exact ih_2 (k + 1, upd Mx (n * 13 + k) 0) _ _ _ ⟨hP, hD, hJ, hS, lv_sub hl [1, 0] rfl, (by omega), (by rw [cf0, if_pos c_13, ← hM])⟩ (by dsimp only; omega)

