theorem jap {w : va_W} {sz a : Nat} (h1 : a < sz) (h2 : a ∉ w.map (·.1)) : ¬ va_A w sz a := by
  rintro (⟨k, e, h⟩ | h)
  · exact h2 (List.mem_map.mpr ⟨(a, e), List.mem_of_getElem? h, rfl⟩)
  · omega
theorem jJ.lt {D : va_G} {n : Nat} {jr : Nat → Option Nat} {jk : Nat → Nat} {jg js jm : Nat → Int32} {H : Heap} {i a : Nat} (h : jJ D n jr jk jg js jm H) (hi : i < n) (ha : jr i = some a) : a < H.size := by
  obtain ⟨-, b, h1, h2⟩ := h i hi
  rw [ha] at h1
  cases h1
  exact h2.lt
theorem jy0 {y : Int32} : y + nI 0 = y := by rw [nI_0]; exact Int32.add_zero y
theorem jy1 {y : Int32} {k : Nat} : y + nI (k + 1) = y + nI k + 1 := by rw [← nI_1, Int32.add_assoc]
def jtm (a b c : Int32) (cq : Nat) : Int32 := if cq = 0 then a else if cq = 1 then b else c
/-- a year of times, for JamDays: spoons, eaten this year, joy, seed -/
def cst (fw : Nat → Int32 → Int32) (n : Nat) (y : Int32) (u : (Nat → Int32) × (Nat → Int32) × Int32 × Nat) : (Nat → Int32) × (Nat → Int32) × Int32 × Nat :=
  ((if 0 < (if 0 < u.1 (jsd u.2.2.2 / 65536 % n) then upd u.1 (jsd u.2.2.2 / 65536 % n) (u.1 (jsd u.2.2.2 / 65536 % n) - 1) else u.1) (jsd (jsd u.2.2.2) / 65536 % n) then upd (if 0 < u.1 (jsd u.2.2.2 / 65536 % n) then upd u.1 (jsd u.2.2.2 / 65536 % n) (u.1 (jsd u.2.2.2 / 65536 % n) - 1) else u.1) (jsd (jsd u.2.2.2) / 65536 % n) ((if 0 < u.1 (jsd u.2.2.2 / 65536 % n) then upd u.1 (jsd u.2.2.2 / 65536 % n) (u.1 (jsd u.2.2.2 / 65536 % n) - 1) else u.1) (jsd (jsd u.2.2.2) / 65536 % n) - 1) else (if 0 < u.1 (jsd u.2.2.2 / 65536 % n) then upd u.1 (jsd u.2.2.2 / 65536 % n) (u.1 (jsd u.2.2.2 / 65536 % n) - 1) else u.1)),
   jfl (fun _ => 0) (if 0 < (if 0 < u.1 (jsd u.2.2.2 / 65536 % n) then upd u.1 (jsd u.2.2.2 / 65536 % n) (u.1 (jsd u.2.2.2 / 65536 % n) - 1) else u.1) (jsd (jsd u.2.2.2) / 65536 % n) then upd u.2.1 (jsd (jsd u.2.2.2) / 65536 % n) (u.2.1 (jsd (jsd u.2.2.2) / 65536 % n) + 1) else u.2.1) 6,
   (if 0 < (if 0 < u.1 (jsd u.2.2.2 / 65536 % n) then upd u.1 (jsd u.2.2.2 / 65536 % n) (u.1 (jsd u.2.2.2 / 65536 % n) - 1) else u.1) (jsd (jsd u.2.2.2) / 65536 % n) then u.2.2.1 + (fw (jsd (jsd u.2.2.2) / 65536 % n) y - u.2.1 (jsd (jsd u.2.2.2) / 65536 % n)) else u.2.2.1),
   jsd (jsd u.2.2.2))
def cts (fw : Nat → Int32 → Int32) (n : Nat) (y : Int32) (u : (Nat → Int32) × (Nat → Int32) × Int32 × Nat) : Nat → (Nat → Int32) × (Nat → Int32) × Int32 × Nat
  | 0 => u
  | k + 1 => cst fw n (y + nI k) (cts fw n y u k)
/-- a year of times, for the reference: rows, joy, seed -/
def mst (n : Nat) (y : Int32) (u : (Nat → Int32) × Int32 × Nat) : (Nat → Int32) × Int32 × Nat :=
  if 0 < (upd u.1 (5 * (jsd u.2.2 / 65536 % n) + 3) (u.1 (5 * (jsd u.2.2 / 65536 % n) + 3) - (if 0 < u.1 (5 * (jsd u.2.2 / 65536 % n) + 3) then 1 else 0))) (5 * (jsd (jsd u.2.2) / 65536 % n) + 3)
  then (mne (upd (upd (upd u.1 (5 * (jsd u.2.2 / 65536 % n) + 3) (u.1 (5 * (jsd u.2.2 / 65536 % n) + 3) - (if 0 < u.1 (5 * (jsd u.2.2 / 65536 % n) + 3) then 1 else 0))) (5 * (jsd (jsd u.2.2) / 65536 % n) + 3) ((upd u.1 (5 * (jsd u.2.2 / 65536 % n) + 3) (u.1 (5 * (jsd u.2.2 / 65536 % n) + 3) - (if 0 < u.1 (5 * (jsd u.2.2 / 65536 % n) + 3) then 1 else 0))) (5 * (jsd (jsd u.2.2) / 65536 % n) + 3) - 1)) (5 * (jsd (jsd u.2.2) / 65536 % n) + 4) ((upd u.1 (5 * (jsd u.2.2 / 65536 % n) + 3) (u.1 (5 * (jsd u.2.2 / 65536 % n) + 3) - (if 0 < u.1 (5 * (jsd u.2.2 / 65536 % n) + 3) then 1 else 0))) (5 * (jsd (jsd u.2.2) / 65536 % n) + 4) + 1)) n,
        u.2.1 + (mfi (upd u.1 (5 * (jsd u.2.2 / 65536 % n) + 3) (u.1 (5 * (jsd u.2.2 / 65536 % n) + 3) - (if 0 < u.1 (5 * (jsd u.2.2 / 65536 % n) + 3) then 1 else 0))) (jsd (jsd u.2.2) / 65536 % n) y - (upd u.1 (5 * (jsd u.2.2 / 65536 % n) + 3) (u.1 (5 * (jsd u.2.2 / 65536 % n) + 3) - (if 0 < u.1 (5 * (jsd u.2.2 / 65536 % n) + 3) then 1 else 0))) (5 * (jsd (jsd u.2.2) / 65536 % n) + 4)),
        jsd (jsd u.2.2))
  else (mne (upd u.1 (5 * (jsd u.2.2 / 65536 % n) + 3) (u.1 (5 * (jsd u.2.2 / 65536 % n) + 3) - (if 0 < u.1 (5 * (jsd u.2.2 / 65536 % n) + 3) then 1 else 0))) n, u.2.1, jsd (jsd u.2.2))
def mts (n : Nat) (y : Int32) (u : (Nat → Int32) × Int32 × Nat) : Nat → (Nat → Int32) × Int32 × Nat
  | 0 => u
  | k + 1 => mst n (y + nI k) (mts n y u k)
set_option maxHeartbeats 4000000 in
set_option maxRecDepth 100000 in
theorem c_draw (l : Launch) (D : va_G) (cI cJ : ClassId) (x : Nat) (n : Nat) (q : Nat) (a0 : Value) (a1 : Value) (a2 : Value) (a4 : Value) (a5 : Value) (a6 : Value) (a7 : Value) (a8 : Value) (a9 : Value) (a10 : Value) (a11 : Value) (hn0 : 0 < n) (hn6 : n ≤ 6) (hq : q < 2147483648) : jRi l yX6_draw wsX6_draw ({ frames := 0, cells := 0, slots := 0, locals := 0 }) [.ref x, .int (nI q)] D cI cJ (fun H => va_P D vwCl [(x, .inr (6, [a0, a1, a2, .int (nI n), a4, a5, a6, a7, a8, a9, a10, a11]))] H) (fun r => r = nI (q / 65536 % n)) := by
  intro sz
  refine Met.ofW (cc := cX6_draw) (maxL := 2) (ret := (some .int)) (by decide) rfl ?_
  intro p e s m args below meth c s₁ B hml hv
  obtain ⟨rfl, hsz, hT, hPr⟩ := hv
  have hK := hT.1
  have hx := B.exec
  have hb := B.bytes
  have hr := B.returns
  have hts := atoms_spec (ws := wsX6_draw) B.pre
  have hown : s.vm.findClass RX6 = some m.cls := findClass_of_methodNamed B.named
  have hlocks := B.notSynchronized
  subst hsz
  generalize hAe : va_A [] s.heap.size = A
  have hA : ∀ q : Nat, s.heap.size ≤ q → A q := fun q h => by rw [← hAe]; exact Or.inr h
  have hS : va_S A s.heap s.heap [] := va_S.rf
  have hl := lv_entry ([.ref x, .int (nI q)] : List Value) (n := 2) (Nat.le_of_ble_eq_true rfl)
  rw [lg_entry_eq]
  generalize (lg_sl ([.ref x, .int (nI q)]) ++ List.replicate (2 - (lg_sl ([.ref x, .int (nI q)])).length) Slot.unset).toArray = ls at hl ⊢
  have hl : lv_has ls 2 [(0, .ref x), (1, .int (nI q))] := hl
  refine lv_aload_n hx hb dX6_draw_0 rfl (lv_at hl 0 rfl) ?_
  refine va_get (D := D) (ci := 6) (v := .int (nI n)) (C := RX6) (T := TX6) (N := 12) hx hb hts (fun w h => List.mem_cons_of_mem _ (List.mem_append_right _ h)) hown hK hPr 0 rfl rfl 3 (by decide) (hts (Cond.fieldLink RX6 23 "JamDays" "jarCount" "I") (List.mem_of_getElem? (i := 1) rfl)) (fun _ h9 => h9) rfl dX6_draw_1 ?_
  refine lv_if_le (tgt := 23) hx hb dX6_draw_4 (by decide) (fun c_1 => ?_) (fun c_1 => ?_)
  · skip
    replace c_1 : n ≤ 0 := (nI_leI (a := n) (b := 0) (by omega) (by omega)).mp c_1
    exact absurd c_1 (by omega)
  · skip
    replace c_1 : ¬ n ≤ 0 := fun h => c_1 ((nI_leI (a := n) (b := 0) (by omega) (by omega)).mpr h)
    refine lv_iload_n hx hb dX6_draw_7 rfl (lv_at hl 1 rfl) ?_
    refine lv_i2l (v := (nI q).toInt64) hx hb dX6_draw_8 rfl ?_
    refine lv_ldc2 (v := 65536) hx hb hown (hts (Cond.constantLong RX6 273 (65536)) (List.mem_of_getElem? (i := 2) rfl)) dX6_draw_9 ?_
    refine lv_ldiv hx hb dX6_draw_12 (by decide) ?_
    refine lv_aload_n hx hb dX6_draw_13 rfl (lv_at hl 0 rfl) ?_
    refine va_get (D := D) (ci := 6) (v := .int (nI n)) (C := RX6) (T := TX6) (N := 12) hx hb hts (fun w h => List.mem_cons_of_mem _ (List.mem_append_right _ h)) hown hK hPr 0 rfl rfl 3 (by decide) (hts (Cond.fieldLink RX6 23 "JamDays" "jarCount" "I") (List.mem_of_getElem? (i := 1) rfl)) (fun _ h9 => h9) rfl dX6_draw_14 ?_
    refine lv_i2l (v := (nI n).toInt64) hx hb dX6_draw_17 rfl ?_
    refine lv_lrem hx hb dX6_draw_18 (jl_ne hn0 hn6) ?_
    refine lv_l2i (v := ((((nI q).toInt64) / 65536) - (((nI q).toInt64) / 65536) / ((nI n).toInt64) * ((nI n).toInt64)).toInt32) hx hb dX6_draw_19 rfl ?_
    refine jv_as (y := nI (q / 65536 % n)) (jdr_eq hq hn0 hn6) ?_
    refine lv_goto (tgt := 24) hx hb dX6_draw_20 (by decide) ?_
    exact W.iret (v := nI (q / 65536 % n)) hx hb hr (fun t ht hW => ⟨⟨nI (q / 65536 % n), (), rfl, rfl, trivial⟩, hS.F ht⟩) hS.2.2 dX6_draw_24

theorem c_nextSeed2 (l : Launch) (D : va_G) (cI cJ : ClassId) (q : Nat) (qn : Nat) (hq : q < 2147483648) (hqn : qn = jsd q) : jRi l yX6_nextSeed wsX6_nextSeed ({ frames := 0, cells := 0, slots := 0, locals := 0 }) [.int (nI q)] D cI cJ (fun H => True) (fun r => r = nI qn) := by
  rw [hqn]; exact c_nextSeed l D cI cJ q hq

theorem c_draw2 (l : Launch) (D : va_G) (cI cJ : ClassId) (x : Nat) (n : Nat) (q : Nat) (tt : Nat) (a0 : Value) (a1 : Value) (a2 : Value) (a4 : Value) (a5 : Value) (a6 : Value) (a7 : Value) (a8 : Value) (a9 : Value) (a10 : Value) (a11 : Value) (hn0 : 0 < n) (hn6 : n ≤ 6) (hq : q < 2147483648) (htt : tt = q / 65536 % n) : jRi l yX6_draw wsX6_draw ({ frames := 0, cells := 0, slots := 0, locals := 0 }) [.ref x, .int (nI q)] D cI cJ (fun H => va_P D vwCl [(x, .inr (6, [a0, a1, a2, .int (nI n), a4, a5, a6, a7, a8, a9, a10, a11]))] H) (fun r => r = nI tt) := by
  rw [htt]; exact c_draw l D cI cJ x n q a0 a1 a2 a4 a5 a6 a7 a8 a9 a10 a11 hn0 hn6 hq

set_option maxHeartbeats 4000000 in
set_option maxRecDepth 100000 in
theorem c_liveOn (l : Launch) (D : va_G) (cI cJ : ClassId) (x : Nat) (xj : Nat) (xn : Nat) (ns : Nat) (ne : Nat) (n7 : Nat) (n8 : Nat) (xw : Nat) (w5 : Nat) (w6 : Nat) (w7 : Nat) (w8 : Nat) (n : Nat) (a0 : Value) (a1 : Value) (a5 : Value) (a7 : Value) (a8 : Value) (a9 : Value) (a10 : Value) (a11 : Value) (jr : Nat → Option Nat) (jk : Nat → Nat) (jg : Nat → Int32) (js : Nat → Int32) (jm : Nat → Int32) (fw : Nat → Int32 → Int32) (y : Int32) (ea : Int32) (lo : Int32) (jo : Int32) (ta : Int32) (sp : Nat → Int32) (en : Nat → Int32) (tY : Nat → Int32) (tW : Nat → Int32) (uy : Int32) (uea : Int32) (ulo : Int32) (ujo : Int32) (uta : Int32) (usp : Nat → Int32) (uen : Nat → Int32) (utY : Nat → Int32) (utW : Nat → Int32) (ys : Nat) (q0 : Nat) (hn0 : 0 < n) (hn6 : n ≤ 6) (hfw : ∀ i : Nat, i < n → ∀ z : Int32, cfw (jk i) (jg i) (jm i) z = fw i z) (hap : ∀ i a : Nat, i < n → jr i = some a → a ∉ [x, xj, xn, ns, ne, n7, n8, xw, w5, w6, w7, w8]) (hys : ys ≤ 60) (hq0 : q0 < 2147483648) : jWi l yX6_liveOn wsX6_liveOn ({ frames := 3, cells := 0, slots := 0, locals := 67 }) 0 0 [.ref x, .int (nI ys), .int (nI q0)] D cI cJ [(x, .inr (6, [a0, a1, .ref xj, .int (nI n), .ref xn, a5, .ref xw, a7, a8, a9, a10, a11])), (xj, .inl (cJ, 6, .inr (.inr (.inr (.inr jr))))), (xn, .inr (1, [.int y, .int ea, .int lo, .int jo, .int ta, .ref ns, .ref ne, .ref n7, .ref n8])), (ns, .inl (cI, 6, .inl sp)), (ne, .inl (cI, 6, .inl en)), (n7, .inl (cI, 6, .inl tY)), (n8, .inl (cI, 6, .inl tW)), (xw, .inr (1, [.int uy, .int uea, .int ulo, .int ujo, .int uta, .ref w5, .ref w6, .ref w7, .ref w8])), (w5, .inl (cI, 6, .inl usp)), (w6, .inl (cI, 6, .inl uen)), (w7, .inl (cI, 6, .inl utY)), (w8, .inl (cI, 6, .inl utW))] (fun H => jJ D n jr jk jg js jm H) (fun r H => ∃ (we wl wj : Int32) (us ue : Nat → Int32) (q : Nat), cts fw n y (jfl sp usp 6, jfl en uen 6, jo, q0) ys = (us, ue, wj, q) ∧ q < 2147483648 ∧ r = nI q ∧ va_P D vwCl [(x, .inr (6, [a0, a1, .ref xj, .int (nI n), .ref xn, a5, .ref xw, a7, a8, a9, a10, a11])), (xj, .inl (cJ, 6, .inr (.inr (.inr (.inr jr))))), (xn, .inr (1, [.int y, .int ea, .int lo, .int jo, .int ta, .ref ns, .ref ne, .ref n7, .ref n8])), (ns, .inl (cI, 6, .inl sp)), (ne, .inl (cI, 6, .inl en)), (n7, .inl (cI, 6, .inl tY)), (n8, .inl (cI, 6, .inl tW)), (xw, .inr (1, [.int (y + nI ys), .int we, .int wl, .int wj, .int ta, .ref w5, .ref w6, .ref w7, .ref w8])), (w5, .inl (cI, 6, .inl us)), (w6, .inl (cI, 6, .inl ue)), (w7, .inl (cI, 6, .inl (jfl tY utY 6))), (w8, .inl (cI, 6, .inl (jfl tW utW 6)))] H) := by
  intro sz
  refine Met.ofW (cc := cX6_liveOn) (maxL := 6) (ret := (some .int)) (by decide) rfl ?_
  intro p e s m args below meth c s₁ B hml hv
  obtain ⟨rfl, hsz, hT, hP, hD0, hJ⟩ := hv
  have hK := hT.1
  have hx := B.exec
  have hb := B.bytes
  have hr := B.returns
  have hts := atoms_spec (ws := wsX6_liveOn) B.pre
  have hown : s.vm.findClass RX6 = some m.cls := findClass_of_methodNamed B.named
  have hlocks := B.notSynchronized
  subst hsz
  have hD := hD0.self (sz := s.heap.size)
  generalize hAe : va_A [(x, .inr (6, [a0, a1, .ref xj, .int (nI n), .ref xn, a5, .ref xw, a7, a8, a9, a10, a11])), (xj, .inl (cJ, 6, .inr (.inr (.inr (.inr jr))))), (xn, .inr (1, [.int y, .int ea, .int lo, .int jo, .int ta, .ref ns, .ref ne, .ref n7, .ref n8])), (ns, .inl (cI, 6, .inl sp)), (ne, .inl (cI, 6, .inl en)), (n7, .inl (cI, 6, .inl tY)), (n8, .inl (cI, 6, .inl tW)), (xw, .inr (1, [.int uy, .int uea, .int ulo, .int ujo, .int uta, .ref w5, .ref w6, .ref w7, .ref w8])), (w5, .inl (cI, 6, .inl usp)), (w6, .inl (cI, 6, .inl uen)), (w7, .inl (cI, 6, .inl utY)), (w8, .inl (cI, 6, .inl utW))] s.heap.size = A at hD ⊢
  have hA : ∀ q : Nat, s.heap.size ≤ q → A q := fun q h => by rw [← hAe]; exact Or.inr h
  have hS : va_S A s.heap s.heap [] := va_S.rf
  have hl := lv_entry ([.ref x, .int (nI ys), .int (nI q0)] : List Value) (n := 6) (Nat.le_of_ble_eq_true rfl)
  rw [lg_entry_eq]
  generalize (lg_sl ([.ref x, .int (nI ys), .int (nI q0)]) ++ List.replicate (6 - (lg_sl ([.ref x, .int (nI ys), .int (nI q0)])).length) Slot.unset).toArray = ls at hl ⊢
  have hl : lv_has ls 6 [(0, .ref x), (1, .int (nI ys)), (2, .int (nI q0))] := hl
  have hJ_0 := hJ
  have hJ_A : ∀ i a : Nat, i < n → jr i = some a → ¬ A a := fun i a hi ha => by rw [← hAe]; exact jap (hJ.lt hi ha) (hap i a hi ha)
  refine lv_iload_n hx hb dX6_liveOn_0 rfl (lv_at hl 2 rfl) ?_
  refine lv_istore_n (lv' := [(3, .int (nI q0)), (0, .ref x), (1, .int (nI ys)), (2, .int (nI q0))]) hx hb dX6_liveOn_1 rfl hl (by decide) rfl (fun ls hl => ?_)
  refine lv_aload_n hx hb dX6_liveOn_2 rfl (lv_at hl 1 rfl) ?_
  refine va_get (D := D) (ci := 6) (v := .ref xw) (C := RX6) (T := TX6) (N := 12) hx hb hts (fun w h => List.mem_cons_of_mem _ (List.mem_append_left _ (List.mem_append_left _ (List.mem_append_left _ (List.mem_append_left _ (List.mem_append_left _ (List.mem_append_left _ (List.mem_append_right _ h)))))))) hown hK hP 0 rfl rfl 6 (by decide) (hts (Cond.fieldLink RX6 36 "JamDays" "would" "LJamDays$Days;") (List.mem_of_getElem? (i := 1) rfl)) (fun _ h9 => h9) rfl dX6_liveOn_3 ?_
  refine lv_aload_n hx hb dX6_liveOn_6 rfl (lv_at hl 1 rfl) ?_
  refine va_get (D := D) (ci := 6) (v := .ref xn) (C := RX6) (T := TX6) (N := 12) hx hb hts (fun w h => List.mem_cons_of_mem _ (List.mem_append_left _ (List.mem_append_left _ (List.mem_append_left _ (List.mem_append_left _ (List.mem_append_left _ (List.mem_append_left _ (List.mem_append_right _ h)))))))) hown hK hP 0 rfl rfl 4 (by decide) (hts (Cond.fieldLink RX6 29 "JamDays" "now" "LJamDays$Days;") (List.mem_of_getElem? (i := 2) rfl)) (fun _ h9 => h9) rfl dX6_liveOn_7 ?_
  have hPc_1 := hP.sub (ws' := [(xw, .inr (1, [.int uy, .int uea, .int ulo, .int ujo, .int uta, .ref w5, .ref w6, .ref w7, .ref w8])), (w5, .inl (cI, 6, .inl usp)), (w6, .inl (cI, 6, .inl uen)), (w7, .inl (cI, 6, .inl utY)), (w8, .inl (cI, 6, .inl utW)), (xn, .inr (1, [.int y, .int ea, .int lo, .int jo, .int ta, .ref ns, .ref ne, .ref n7, .ref n8])), (ns, .inl (cI, 6, .inl sp)), (ne, .inl (cI, 6, .inl en)), (n7, .inl (cI, 6, .inl tY)), (n8, .inl (cI, 6, .inl tW))]) [7, 8, 9, 10, 11, 2, 3, 4, 5, 6] rfl
  have hDc_2 := hD.sub (ws' := [(xw, .inr (1, [.int uy, .int uea, .int ulo, .int ujo, .int uta, .ref w5, .ref w6, .ref w7, .ref w8])), (w5, .inl (cI, 6, .inl usp)), (w6, .inl (cI, 6, .inl uen)), (w7, .inl (cI, 6, .inl utY)), (w8, .inl (cI, 6, .inl utW)), (xn, .inr (1, [.int y, .int ea, .int lo, .int jo, .int ta, .ref ns, .ref ne, .ref n7, .ref n8])), (ns, .inl (cI, 6, .inl sp)), (ne, .inl (cI, 6, .inl en)), (n7, .inl (cI, 6, .inl tY)), (n8, .inl (cI, 6, .inl tW))]) [7, 8, 9, 10, 11, 2, 3, 4, 5, 6] (by decide) rfl
  have hFc_3 := va_free (wc := [(xw, .inr (1, [.int uy, .int uea, .int ulo, .int ujo, .int uta, .ref w5, .ref w6, .ref w7, .ref w8])), (w5, .inl (cI, 6, .inl usp)), (w6, .inl (cI, 6, .inl uen)), (w7, .inl (cI, 6, .inl utY)), (w8, .inl (cI, 6, .inl utW)), (xn, .inr (1, [.int y, .int ea, .int lo, .int jo, .int ta, .ref ns, .ref ne, .ref n7, .ref n8])), (ns, .inl (cI, 6, .inl sp)), (ne, .inl (cI, 6, .inl en)), (n7, .inl (cI, 6, .inl tY)), (n8, .inl (cI, 6, .inl tW))]) hD hS hA [7, 8, 9, 10, 11, 2, 3, 4, 5, 6] rfl
  refine jcallWv (post := fun H => va_P D vwCl [(xw, .inr (1, [.int y, .int ea, .int lo, .int jo, .int ta, .ref w5, .ref w6, .ref w7, .ref w8])), (w5, .inl (cI, 6, .inl (jfl sp usp 6))), (w6, .inl (cI, 6, .inl (jfl en uen 6))), (w7, .inl (cI, 6, .inl (jfl tY utY 6))), (w8, .inl (cI, 6, .inl (jfl tW utW 6))), (xn, .inr (1, [.int y, .int ea, .int lo, .int jo, .int ta, .ref ns, .ref ne, .ref n7, .ref n8])), (ns, .inl (cI, 6, .inl sp)), (ne, .inl (cI, 6, .inl en)), (n7, .inl (cI, 6, .inl tY)), (n8, .inl (cI, 6, .inl tW))] H) (va_runV (As := [.ref xn]) (rest := []) ⟨hx, hb, hml, hown, hts⟩ (c_copyFrom l D cI cJ xw w5 w6 w7 w8 uy uea ulo ujo uta usp uen utY utW xn ns ne n7 n8 y ea lo jo ta sp en tY tW s.heap.size) (cwV 1 hts gX6_liveOn_X1_copyFrom rfl rfl rfl (by decide +kernel) ⟨Nat.le_of_ble_eq_true rfl, Nat.le_of_ble_eq_true rfl⟩) (jpreV hT (va_recv hK hP (ci := 1) (q0 := 7) rfl rfl) ⟨hPc_1, hDc_2.weaken (fun _ _ _ _ => trivial), trivial⟩) rfl rfl hl.1 rfl (lv_room (Nat.le_of_ble_eq_true rfl)) dX6_liveOn_10 ⟨(Nat.zero_le _), (Nat.zero_le _)⟩) hS hFc_3 (fun H locs hw_r_4 hz hkq hS => ?_)
  have hP1 := hw_r_4
  obtain ⟨hP, hD⟩ := jjoin (wc := [(xw, .inr (1, [.int uy, .int uea, .int ulo, .int ujo, .int uta, .ref w5, .ref w6, .ref w7, .ref w8])), (w5, .inl (cI, 6, .inl usp)), (w6, .inl (cI, 6, .inl uen)), (w7, .inl (cI, 6, .inl utY)), (w8, .inl (cI, 6, .inl utW)), (xn, .inr (1, [.int y, .int ea, .int lo, .int jo, .int ta, .ref ns, .ref ne, .ref n7, .ref n8])), (ns, .inl (cI, 6, .inl sp)), (ne, .inl (cI, 6, .inl en)), (n7, .inl (cI, 6, .inl tY)), (n8, .inl (cI, 6, .inl tW))]) (wr := [(x, .inr (6, [a0, a1, .ref xj, .int (nI n), .ref xn, a5, .ref xw, a7, a8, a9, a10, a11])), (xj, .inl (cJ, 6, .inr (.inr (.inr (.inr jr)))))]) (w1 := [(xw, .inr (1, [.int y, .int ea, .int lo, .int jo, .int ta, .ref w5, .ref w6, .ref w7, .ref w8])), (w5, .inl (cI, 6, .inl (jfl sp usp 6))), (w6, .inl (cI, 6, .inl (jfl en uen 6))), (w7, .inl (cI, 6, .inl (jfl tY utY 6))), (w8, .inl (cI, 6, .inl (jfl tW utW 6))), (xn, .inr (1, [.int y, .int ea, .int lo, .int jo, .int ta, .ref ns, .ref ne, .ref n7, .ref n8])), (ns, .inl (cI, 6, .inl sp)), (ne, .inl (cI, 6, .inl en)), (n7, .inl (cI, 6, .inl tY)), (n8, .inl (cI, 6, .inl tW))]) (ws' := [(x, .inr (6, [a0, a1, .ref xj, .int (nI n), .ref xn, a5, .ref xw, a7, a8, a9, a10, a11])), (xj, .inl (cJ, 6, .inr (.inr (.inr (.inr jr))))), (xn, .inr (1, [.int y, .int ea, .int lo, .int jo, .int ta, .ref ns, .ref ne, .ref n7, .ref n8])), (ns, .inl (cI, 6, .inl sp)), (ne, .inl (cI, 6, .inl en)), (n7, .inl (cI, 6, .inl tY)), (n8, .inl (cI, 6, .inl tW)), (xw, .inr (1, [.int y, .int ea, .int lo, .int jo, .int ta, .ref w5, .ref w6, .ref w7, .ref w8])), (w5, .inl (cI, 6, .inl (jfl sp usp 6))), (w6, .inl (cI, 6, .inl (jfl en uen 6))), (w7, .inl (cI, 6, .inl (jfl tY utY 6))), (w8, .inl (cI, 6, .inl (jfl tW utW 6)))]) hP hD hFc_3 [7, 8, 9, 10, 11, 2, 3, 4, 5, 6] [0, 1] [0, 1, 7, 8, 9, 10, 11, 2, 3, 4, 5, 6] rfl rfl (by decide) (by decide) (by decide) (by decide) hkq hP1 rfl rfl rfl
  have hJ := hJ_0.keptA hJ_A (fun q h1 h2 => hS.2.1 q h1 h2)
  refine lv_iconst (v := 0) hx hb dX6_liveOn_13 (by decide) ?_
  refine lv_istore (lv' := [(4, .int 0), (3, .int (nI q0)), (0, .ref x), (1, .int (nI ys)), (2, .int (nI q0))]) hx hb dX6_liveOn_14 hl (by decide) rfl (fun ls hl => ?_)
  have hP : va_P D vwCl [(x, .inr (6, [a0, a1, .ref xj, .int (nI n), .ref xn, a5, .ref xw, a7, a8, a9, a10, a11])), (xj, .inl (cJ, 6, .inr (.inr (.inr (.inr jr))))), (xn, .inr (1, [.int y, .int ea, .int lo, .int jo, .int ta, .ref ns, .ref ne, .ref n7, .ref n8])), (ns, .inl (cI, 6, .inl sp)), (ne, .inl (cI, 6, .inl en)), (n7, .inl (cI, 6, .inl tY)), (n8, .inl (cI, 6, .inl tW)), (xw, .inr (1, [.int (y + nI 0), .int ea, .int lo, .int jo, .int ta, .ref w5, .ref w6, .ref w7, .ref w8])), (w5, .inl (cI, 6, .inl (jfl sp usp 6))), (w6, .inl (cI, 6, .inl (jfl en uen 6))), (w7, .inl (cI, 6, .inl (jfl tY utY 6))), (w8, .inl (cI, 6, .inl (jfl tW utW 6)))] H := by rw [jy0]; exact hP
  have hD : va_D A [(x, .inr (6, [a0, a1, .ref xj, .int (nI n), .ref xn, a5, .ref xw, a7, a8, a9, a10, a11])), (xj, .inl (cJ, 6, .inr (.inr (.inr (.inr jr))))), (xn, .inr (1, [.int y, .int ea, .int lo, .int jo, .int ta, .ref ns, .ref ne, .ref n7, .ref n8])), (ns, .inl (cI, 6, .inl sp)), (ne, .inl (cI, 6, .inl en)), (n7, .inl (cI, 6, .inl tY)), (n8, .inl (cI, 6, .inl tW)), (xw, .inr (1, [.int (y + nI 0), .int ea, .int lo, .int jo, .int ta, .ref w5, .ref w6, .ref w7, .ref w8])), (w5, .inl (cI, 6, .inl (jfl sp usp 6))), (w6, .inl (cI, 6, .inl (jfl en uen 6))), (w7, .inl (cI, 6, .inl (jfl tY utY 6))), (w8, .inl (cI, 6, .inl (jfl tW utW 6)))] := jD_of hD rfl
  refine jloop (α := Nat × Nat × (Nat → Int32) × (Nat → Int32) × Int32 × Int32 × Int32) (fun (x9 : Nat × Nat × (Nat → Int32) × (Nat → Int32) × Int32 × Int32 × Int32) (H : Heap) (locs : List Loc) (ls : Array Slot) => match x9 with | (k, q, us, ue, wj, we, wl) => (va_P D vwCl [(x, .inr (6, [a0, a1, .ref xj, .int (nI n), .ref xn, a5, .ref xw, a7, a8, a9, a10, a11])), (xj, .inl (cJ, 6, .inr (.inr (.inr (.inr jr))))), (xn, .inr (1, [.int y, .int ea, .int lo, .int jo, .int ta, .ref ns, .ref ne, .ref n7, .ref n8])), (ns, .inl (cI, 6, .inl sp)), (ne, .inl (cI, 6, .inl en)), (n7, .inl (cI, 6, .inl tY)), (n8, .inl (cI, 6, .inl tW)), (xw, .inr (1, [.int (y + nI k), .int we, .int wl, .int wj, .int ta, .ref w5, .ref w6, .ref w7, .ref w8])), (w5, .inl (cI, 6, .inl us)), (w6, .inl (cI, 6, .inl ue)), (w7, .inl (cI, 6, .inl (jfl tY utY 6))), (w8, .inl (cI, 6, .inl (jfl tW utW 6)))] H) ∧ (va_D A [(x, .inr (6, [a0, a1, .ref xj, .int (nI n), .ref xn, a5, .ref xw, a7, a8, a9, a10, a11])), (xj, .inl (cJ, 6, .inr (.inr (.inr (.inr jr))))), (xn, .inr (1, [.int y, .int ea, .int lo, .int jo, .int ta, .ref ns, .ref ne, .ref n7, .ref n8])), (ns, .inl (cI, 6, .inl sp)), (ne, .inl (cI, 6, .inl en)), (n7, .inl (cI, 6, .inl tY)), (n8, .inl (cI, 6, .inl tW)), (xw, .inr (1, [.int (y + nI k), .int we, .int wl, .int wj, .int ta, .ref w5, .ref w6, .ref w7, .ref w8])), (w5, .inl (cI, 6, .inl us)), (w6, .inl (cI, 6, .inl ue)), (w7, .inl (cI, 6, .inl (jfl tY utY 6))), (w8, .inl (cI, 6, .inl (jfl tW utW 6)))]) ∧ (jJ D n jr jk jg js jm H) ∧ (va_S A s.heap H locs) ∧ (lv_has ls 6 [(0, .ref x), (1, .int (nI ys)), (3, .int (nI q)), (4, .int (nI k))]) ∧ (k ≤ ys) ∧ (q < 2147483648) ∧ (cts fw n y (jfl sp usp 6, jfl en uen 6, jo, q0) k = (us, ue, wj, q))) (fun (x9 : Nat × Nat × (Nat → Int32) × (Nat → Int32) × Int32 × Int32 × Int32) => match x9 with | (k, q, us, ue, wj, we, wl) => ys - k) (fun x9 H locs ls hx9 ih_16 => ?_) (0, q0, jfl sp usp 6, jfl en uen 6, jo, ea, lo) _ _ _ ⟨hP, hD, hJ, hS, lv_sub hl [2, 3, 1, 0] rfl, (by omega), hq0, rfl⟩
  obtain ⟨k, q, us, ue, wj, we, wl⟩ := x9
  obtain ⟨hP, hD, hJ, hS, hl, hk9, hq9, hst⟩ := hx9
  refine lv_iload hx hb dX6_liveOn_16 (lv_at hl 3 rfl) ?_
  refine lv_iload_n hx hb dX6_liveOn_18 rfl (lv_at hl 1 rfl) ?_
  refine lv_icmp_ge (tgt := 98) hx hb dX6_liveOn_19 (by decide) (fun c_5 => ?_) (fun c_5 => ?_)
  · skip
    replace c_5 : ys ≤ k := (nI_leI (a := ys) (b := k) (by omega) (by omega)).mp c_5
    refine lv_iload_n hx hb dX6_liveOn_98 rfl (lv_at hl 2 rfl) ?_
    exact W.iret (v := nI q) hx hb hr (fun t ht hW => ⟨⟨nI q, nI q, rfl, rfl, by dsimp only; rw [ht]; exact ⟨we, wl, wj, us, ue, q, (by rw [show ys = k by omega]; exact hst), hq9, rfl, (by rw [show ys = k by omega]; exact hP)⟩⟩, hS.F ht⟩) hS.2.2 dX6_liveOn_99
  · skip
    replace c_5 : ¬ ys ≤ k := fun h => c_5 ((nI_leI (a := ys) (b := k) (by omega) (by omega)).mpr h)
    obtain ⟨q1, hq1⟩ : ∃ z9 : Nat, z9 = jsd q := ⟨_, rfl⟩
    obtain ⟨t1, ht1⟩ : ∃ z9 : Nat, z9 = q1 / 65536 % n := ⟨_, rfl⟩
    obtain ⟨q2, hq2⟩ : ∃ z9 : Nat, z9 = jsd q1 := ⟨_, rfl⟩
    obtain ⟨t2, ht2⟩ : ∃ z9 : Nat, z9 = q2 / 65536 % n := ⟨_, rfl⟩
    have hq1l : q1 < 2147483648 := by rw [hq1]; exact jsd_lt _
    have hq2l : q2 < 2147483648 := by rw [hq2]; exact jsd_lt _
    have ht9 : t1 < n := by rw [ht1]; exact Nat.mod_lt _ hn0
    have he9 : t2 < n := by rw [ht2]; exact Nat.mod_lt _ hn0
    refine lv_iload_n hx hb dX6_liveOn_22 rfl (lv_at hl 2 rfl) ?_
    refine jcalli (va_runS (As := [.int (nI q)]) (rest := []) ⟨hx, hb, hml, hown, hts⟩ (c_nextSeed2 l D cI cJ q q1 hq9 hq1 H.size) (va_cwS 1 hts gX6_liveOn_X6_nextSeed rfl rfl rfl (by decide +kernel) ⟨Nat.le_of_ble_eq_true rfl, Nat.le_of_ble_eq_true rfl⟩) (jpreS hT trivial) rfl rfl hl.1 rfl (lv_room (Nat.le_of_ble_eq_true rfl)) dX6_liveOn_23 ⟨(Nat.zero_le _), (Nat.zero_le _)⟩) hS hA (fun r_6 H locs hw_r_6 hkq hS => ?_)
    try dsimp only at hw_r_6
    have hP := jkeep hP hkq
    have hJ := hJ.kept hkq
    subst hw_r_6
    refine lv_istore_n (lv' := [(3, .int (nI q1)), (0, .ref x), (1, .int (nI ys)), (4, .int (nI k))]) hx hb dX6_liveOn_26 rfl hl (by decide) rfl (fun ls hl => ?_)
    refine lv_aload_n hx hb dX6_liveOn_27 rfl (lv_at hl 1 rfl) ?_
    refine va_get (D := D) (ci := 6) (v := .ref xw) (C := RX6) (T := TX6) (N := 12) hx hb hts (fun w h => List.mem_cons_of_mem _ (List.mem_append_left _ (List.mem_append_left _ (List.mem_append_left _ (List.mem_append_left _ (List.mem_append_left _ (List.mem_append_left _ (List.mem_append_right _ h)))))))) hown hK hP 0 rfl rfl 6 (by decide) (hts (Cond.fieldLink RX6 36 "JamDays" "would" "LJamDays$Days;") (List.mem_of_getElem? (i := 1) rfl)) (fun _ h9 => h9) rfl dX6_liveOn_28 ?_
    refine lv_aload_n hx hb dX6_liveOn_31 rfl (lv_at hl 1 rfl) ?_
    refine lv_iload_n hx hb dX6_liveOn_32 rfl (lv_at hl 0 rfl) ?_
    have hPc_7 := hP.sub (ws' := [(x, .inr (6, [a0, a1, .ref xj, .int (nI n), .ref xn, a5, .ref xw, a7, a8, a9, a10, a11]))]) [0] rfl
    refine jcalli (va_runV (As := [.int (nI q1)]) (rest := [.ref xw]) ⟨hx, hb, hml, hown, hts⟩ (c_draw2 l D cI cJ x n q1 t1 a0 a1 (.ref xj) (.ref xn) a5 (.ref xw) a7 a8 a9 a10 a11 hn0 hn6 hq1l ht1 H.size) (cwV 1 hts gX6_liveOn_X6_draw rfl rfl rfl (by decide +kernel) ⟨Nat.le_of_ble_eq_true rfl, Nat.le_of_ble_eq_true rfl⟩) (jpreV hT (va_recv hK hP (ci := 6) (q0 := 0) rfl rfl) hPc_7) rfl rfl hl.1 rfl (lv_room (Nat.le_of_ble_eq_true rfl)) dX6_liveOn_33 ⟨(Nat.zero_le _), (Nat.zero_le _)⟩) hS hA (fun r_8 H locs hw_r_8 hkq hS => ?_)
    try dsimp only at hw_r_8
    have hP := jkeep hP hkq
    have hJ := hJ.kept hkq
    subst hw_r_8
    have hPc_9 := hP.sub (ws' := [(xw, .inr (1, [.int (y + nI k), .int we, .int wl, .int wj, .int ta, .ref w5, .ref w6, .ref w7, .ref w8])), (w5, .inl (cI, 6, .inl us)), (w6, .inl (cI, 6, .inl ue)), (w7, .inl (cI, 6, .inl (jfl tY utY 6))), (w8, .inl (cI, 6, .inl (jfl tW utW 6)))]) [7, 8, 9, 10, 11] rfl
    have hDc_10 := hD.sub (ws' := [(xw, .inr (1, [.int (y + nI k), .int we, .int wl, .int wj, .int ta, .ref w5, .ref w6, .ref w7, .ref w8])), (w5, .inl (cI, 6, .inl us)), (w6, .inl (cI, 6, .inl ue)), (w7, .inl (cI, 6, .inl (jfl tY utY 6))), (w8, .inl (cI, 6, .inl (jfl tW utW 6)))]) [7, 8, 9, 10, 11] (by decide) rfl
    have hFc_11 := va_free (wc := [(xw, .inr (1, [.int (y + nI k), .int we, .int wl, .int wj, .int ta, .ref w5, .ref w6, .ref w7, .ref w8])), (w5, .inl (cI, 6, .inl us)), (w6, .inl (cI, 6, .inl ue)), (w7, .inl (cI, 6, .inl (jfl tY utY 6))), (w8, .inl (cI, 6, .inl (jfl tW utW 6)))]) hD hS hA [7, 8, 9, 10, 11] rfl
    refine jcallWi (post := fun r H => r = (if 0 < us t1 then 1 else 0) ∧ va_P D vwCl [(xw, .inr (1, [.int (y + nI k), .int we, .int (if 0 < us t1 then wl + 1 else wl), .int wj, .int ta, .ref w5, .ref w6, .ref w7, .ref w8])), (w5, .inl (cI, 6, .inl (if 0 < us t1 then upd us t1 (us t1 - 1) else us))), (w6, .inl (cI, 6, .inl ue)), (w7, .inl (cI, 6, .inl (jfl tY utY 6))), (w8, .inl (cI, 6, .inl (jfl tW utW 6)))] H) (va_runV (As := [.int (nI t1)]) (rest := []) ⟨hx, hb, hml, hown, hts⟩ (c_loseSpoon l D cI cJ xw w5 w6 w7 w8 (y + nI k) we wl wj ta us ue (jfl tY utY 6) (jfl tW utW 6) t1 (by omega) H.size) (cwV 1 hts gX6_liveOn_X1_loseSpoon rfl rfl rfl (by decide +kernel) ⟨Nat.le_of_ble_eq_true rfl, Nat.le_of_ble_eq_true rfl⟩) (jpreV hT (va_recv hK hP (ci := 1) (q0 := 7) rfl rfl) ⟨hPc_9, hDc_10.weaken (fun _ _ _ _ => trivial), trivial⟩) rfl rfl hl.1 rfl (lv_room (Nat.le_of_ble_eq_true rfl)) dX6_liveOn_36 ⟨(Nat.zero_le _), (Nat.zero_le _)⟩) hS hFc_11 (fun r_12 H locs hw_r_12 hz hkq hS => ?_)
    obtain ⟨hr9, hP1⟩ := hw_r_12
    obtain ⟨hP, hD⟩ := jjoin (wc := [(xw, .inr (1, [.int (y + nI k), .int we, .int wl, .int wj, .int ta, .ref w5, .ref w6, .ref w7, .ref w8])), (w5, .inl (cI, 6, .inl us)), (w6, .inl (cI, 6, .inl ue)), (w7, .inl (cI, 6, .inl (jfl tY utY 6))), (w8, .inl (cI, 6, .inl (jfl tW utW 6)))]) (wr := [(x, .inr (6, [a0, a1, .ref xj, .int (nI n), .ref xn, a5, .ref xw, a7, a8, a9, a10, a11])), (xj, .inl (cJ, 6, .inr (.inr (.inr (.inr jr))))), (xn, .inr (1, [.int y, .int ea, .int lo, .int jo, .int ta, .ref ns, .ref ne, .ref n7, .ref n8])), (ns, .inl (cI, 6, .inl sp)), (ne, .inl (cI, 6, .inl en)), (n7, .inl (cI, 6, .inl tY)), (n8, .inl (cI, 6, .inl tW))]) (w1 := [(xw, .inr (1, [.int (y + nI k), .int we, .int (if 0 < us t1 then wl + 1 else wl), .int wj, .int ta, .ref w5, .ref w6, .ref w7, .ref w8])), (w5, .inl (cI, 6, .inl (if 0 < us t1 then upd us t1 (us t1 - 1) else us))), (w6, .inl (cI, 6, .inl ue)), (w7, .inl (cI, 6, .inl (jfl tY utY 6))), (w8, .inl (cI, 6, .inl (jfl tW utW 6)))]) (ws' := [(x, .inr (6, [a0, a1, .ref xj, .int (nI n), .ref xn, a5, .ref xw, a7, a8, a9, a10, a11])), (xj, .inl (cJ, 6, .inr (.inr (.inr (.inr jr))))), (xn, .inr (1, [.int y, .int ea, .int lo, .int jo, .int ta, .ref ns, .ref ne, .ref n7, .ref n8])), (ns, .inl (cI, 6, .inl sp)), (ne, .inl (cI, 6, .inl en)), (n7, .inl (cI, 6, .inl tY)), (n8, .inl (cI, 6, .inl tW)), (xw, .inr (1, [.int (y + nI k), .int we, .int (if 0 < us t1 then wl + 1 else wl), .int wj, .int ta, .ref w5, .ref w6, .ref w7, .ref w8])), (w5, .inl (cI, 6, .inl (if 0 < us t1 then upd us t1 (us t1 - 1) else us))), (w6, .inl (cI, 6, .inl ue)), (w7, .inl (cI, 6, .inl (jfl tY utY 6))), (w8, .inl (cI, 6, .inl (jfl tW utW 6)))]) hP hD hFc_11 [7, 8, 9, 10, 11] [0, 1, 2, 3, 4, 5, 6] [0, 1, 2, 3, 4, 5, 6, 7, 8, 9, 10, 11] rfl rfl (by decide) (by decide) (by decide) (by decide) hkq hP1 rfl rfl rfl
    have hJ := hJ_0.keptA hJ_A (fun q h1 h2 => hS.2.1 q h1 h2)
    refine lv_pop hx hb dX6_liveOn_39 rfl ?_
    refine lv_iload_n hx hb dX6_liveOn_40 rfl (lv_at hl 0 rfl) ?_
    refine jcalli (va_runS (As := [.int (nI q1)]) (rest := []) ⟨hx, hb, hml, hown, hts⟩ (c_nextSeed2 l D cI cJ q1 q2 hq1l hq2 H.size) (va_cwS 1 hts gX6_liveOn_X6_nextSeed rfl rfl rfl (by decide +kernel) ⟨Nat.le_of_ble_eq_true rfl, Nat.le_of_ble_eq_true rfl⟩) (jpreS hT trivial) rfl rfl hl.1 rfl (lv_room (Nat.le_of_ble_eq_true rfl)) dX6_liveOn_41 ⟨(Nat.zero_le _), (Nat.zero_le _)⟩) hS hA (fun r_13 H locs hw_r_13 hkq hS => ?_)
    try dsimp only at hw_r_13
    have hP := jkeep hP hkq
    have hJ := hJ.kept hkq
    subst hw_r_13
    refine lv_istore_n (lv' := [(3, .int (nI q2)), (0, .ref x), (1, .int (nI ys)), (4, .int (nI k))]) hx hb dX6_liveOn_44 rfl hl (by decide) rfl (fun ls hl => ?_)
    refine lv_aload_n hx hb dX6_liveOn_45 rfl (lv_at hl 1 rfl) ?_
    refine lv_iload_n hx hb dX6_liveOn_46 rfl (lv_at hl 0 rfl) ?_
    have hPc_14 := hP.sub (ws' := [(x, .inr (6, [a0, a1, .ref xj, .int (nI n), .ref xn, a5, .ref xw, a7, a8, a9, a10, a11]))]) [0] rfl
    refine jcalli (va_runV (As := [.int (nI q2)]) (rest := []) ⟨hx, hb, hml, hown, hts⟩ (c_draw2 l D cI cJ x n q2 t2 a0 a1 (.ref xj) (.ref xn) a5 (.ref xw) a7 a8 a9 a10 a11 hn0 hn6 hq2l ht2 H.size) (cwV 1 hts gX6_liveOn_X6_draw rfl rfl rfl (by decide +kernel) ⟨Nat.le_of_ble_eq_true rfl, Nat.le_of_ble_eq_true rfl⟩) (jpreV hT (va_recv hK hP (ci := 6) (q0 := 0) rfl rfl) hPc_14) rfl rfl hl.1 rfl (lv_room (Nat.le_of_ble_eq_true rfl)) dX6_liveOn_47 ⟨(Nat.zero_le _), (Nat.zero_le _)⟩) hS hA (fun r_15 H locs hw_r_15 hkq hS => ?_)
    try dsimp only at hw_r_15
    have hP := jkeep hP hkq
    have hJ := hJ.kept hkq
    subst hw_r_15
    refine lv_istore (lv' := [(5, .int (nI t2)), (3, .int (nI q2)), (0, .ref x), (1, .int (nI ys)), (4, .int (nI k))]) hx hb dX6_liveOn_50 hl (by decide) rfl (fun ls hl => ?_)
    refine lv_aload_n hx hb dX6_liveOn_52 rfl (lv_at hl 2 rfl) ?_
    refine va_get (D := D) (ci := 6) (v := .ref xw) (C := RX6) (T := TX6) (N := 12) hx hb hts (fun w h => List.mem_cons_of_mem _ (List.mem_append_left _ (List.mem_append_left _ (List.mem_append_left _ (List.mem_append_left _ (List.mem_append_left _ (List.mem_append_left _ (List.mem_append_right _ h)))))))) hown hK hP 0 rfl rfl 6 (by decide) (hts (Cond.fieldLink RX6 36 "JamDays" "would" "LJamDays$Days;") (List.mem_of_getElem? (i := 1) rfl)) (fun _ h9 => h9) rfl dX6_liveOn_53 ?_
    refine lv_iload hx hb dX6_liveOn_56 (lv_at hl 0 rfl) ?_
    refine lv_aload_n hx hb dX6_liveOn_58 rfl (lv_at hl 2 rfl) ?_
    refine lv_iload hx hb dX6_liveOn_59 (lv_at hl 0 rfl) ?_
    refine lv_aload_n hx hb dX6_liveOn_61 rfl (lv_at hl 2 rfl) ?_
    refine va_get (D := D) (ci := 6) (v := .ref xw) (C := RX6) (T := TX6) (N := 12) hx hb hts (fun w h => List.mem_cons_of_mem _ (List.mem_append_left _ (List.mem_append_left _ (List.mem_append_left _ (List.mem_append_left _ (List.mem_append_left _ (List.mem_append_left _ (List.mem_append_right _ h)))))))) hown hK hP 0 rfl rfl 6 (by decide) (hts (Cond.fieldLink RX6 36 "JamDays" "would" "LJamDays$Days;") (List.mem_of_getElem? (i := 1) rfl)) (fun _ h9 => h9) rfl dX6_liveOn_62 ?_
    refine va_get (D := D) (ci := 1) (v := .int (y + nI k)) (C := RX1) (T := TX1) (N := 9) hx hb hts (fun w h => List.mem_cons_of_mem _ (List.mem_append_left _ (List.mem_append_left _ (List.mem_append_left _ (List.mem_append_left _ (List.mem_append_left _ (List.mem_append_right _ h))))))) hown hK hP 7 rfl rfl 0 (by decide) (hts (Cond.fieldLink RX6 91 "JamDays$Days" "year" "I") (List.mem_of_getElem? (i := 3) rfl)) (fun _ h9 => h9) rfl dX6_liveOn_65 ?_
    have hPc_16 := hP.sub (ws' := [(x, .inr (6, [a0, a1, .ref xj, .int (nI n), .ref xn, a5, .ref xw, a7, a8, a9, a10, a11])), (xj, .inl (cJ, 6, .inr (.inr (.inr (.inr jr)))))]) [0, 1] rfl
    refine jcalli (va_runV (As := [.int (nI t2), .int (y + nI k)]) (rest := [.int (nI t2), .ref xw]) ⟨hx, hb, hml, hown, hts⟩ (c_firstWorth l D cI cJ x xj n a0 a1 (.ref xn) a5 (.ref xw) a7 a8 a9 a10 a11 jr jk jg js jm fw t2 (y + nI k) he9 hn6 hfw H.size) (cwV 2 hts gX6_liveOn_X6_firstWorth rfl rfl rfl (by decide +kernel) ⟨Nat.le_of_ble_eq_true rfl, Nat.le_of_ble_eq_true rfl⟩) (jpreV hT (va_recv hK hP (ci := 6) (q0 := 0) rfl rfl) ⟨hPc_16, hJ⟩) rfl rfl hl.1 rfl (lv_room (Nat.le_of_ble_eq_true rfl)) dX6_liveOn_68 ⟨(Nat.zero_le _), (Nat.zero_le _)⟩) hS hA (fun r_17 H locs hw_r_17 hkq hS => ?_)
    try dsimp only at hw_r_17
    have hP := jkeep hP hkq
    have hJ := hJ.kept hkq
    subst hw_r_17
    refine lv_aload_n hx hb dX6_liveOn_71 rfl (lv_at hl 2 rfl) ?_
    refine va_get (D := D) (ci := 6) (v := .ref xw) (C := RX6) (T := TX6) (N := 12) hx hb hts (fun w h => List.mem_cons_of_mem _ (List.mem_append_left _ (List.mem_append_left _ (List.mem_append_left _ (List.mem_append_left _ (List.mem_append_left _ (List.mem_append_left _ (List.mem_append_right _ h)))))))) hown hK hP 0 rfl rfl 6 (by decide) (hts (Cond.fieldLink RX6 36 "JamDays" "would" "LJamDays$Days;") (List.mem_of_getElem? (i := 1) rfl)) (fun _ h9 => h9) rfl dX6_liveOn_72 ?_
    refine lv_iload hx hb dX6_liveOn_75 (lv_at hl 0 rfl) ?_
    have hPc_18 := hP.sub (ws' := [(xw, .inr (1, [.int (y + nI k), .int we, .int (if 0 < us t1 then wl + 1 else wl), .int wj, .int ta, .ref w5, .ref w6, .ref w7, .ref w8])), (w6, .inl (cI, 6, .inl ue))]) [7, 9] rfl
    refine jcalli (va_runV (As := [.int (nI t2)]) (rest := [.int (fw t2 (y + nI k)), .int (nI t2), .ref xw]) ⟨hx, hb, hml, hown, hts⟩ (c_eatenNowOf l D cI cJ xw w6 (.int (y + nI k)) (.int we) (.int (if 0 < us t1 then wl + 1 else wl)) (.int wj) (.int ta) (.ref w5) (.ref w7) (.ref w8) ue t2 (by omega) H.size) (cwV 1 hts gX6_liveOn_X1_eatenNowOf rfl rfl rfl (by decide +kernel) ⟨Nat.le_of_ble_eq_true rfl, Nat.le_of_ble_eq_true rfl⟩) (jpreV hT (va_recv hK hP (ci := 1) (q0 := 7) rfl rfl) hPc_18) rfl rfl hl.1 rfl (lv_room (Nat.le_of_ble_eq_true rfl)) dX6_liveOn_77 ⟨(Nat.zero_le _), (Nat.zero_le _)⟩) hS hA (fun r_19 H locs hw_r_19 hkq hS => ?_)
    try dsimp only at hw_r_19
    have hP := jkeep hP hkq
    have hJ := hJ.kept hkq
    subst hw_r_19
    refine lv_isub hx hb dX6_liveOn_80 ?_
    have hPc_20 := hP.sub (ws' := [(xw, .inr (1, [.int (y + nI k), .int we, .int (if 0 < us t1 then wl + 1 else wl), .int wj, .int ta, .ref w5, .ref w6, .ref w7, .ref w8])), (w5, .inl (cI, 6, .inl (if 0 < us t1 then upd us t1 (us t1 - 1) else us))), (w6, .inl (cI, 6, .inl ue)), (w7, .inl (cI, 6, .inl (jfl tY utY 6))), (w8, .inl (cI, 6, .inl (jfl tW utW 6)))]) [7, 8, 9, 10, 11] rfl
    have hDc_21 := hD.sub (ws' := [(xw, .inr (1, [.int (y + nI k), .int we, .int (if 0 < us t1 then wl + 1 else wl), .int wj, .int ta, .ref w5, .ref w6, .ref w7, .ref w8])), (w5, .inl (cI, 6, .inl (if 0 < us t1 then upd us t1 (us t1 - 1) else us))), (w6, .inl (cI, 6, .inl ue)), (w7, .inl (cI, 6, .inl (jfl tY utY 6))), (w8, .inl (cI, 6, .inl (jfl tW utW 6)))]) [7, 8, 9, 10, 11] (by decide) rfl
    have hFc_22 := va_free (wc := [(xw, .inr (1, [.int (y + nI k), .int we, .int (if 0 < us t1 then wl + 1 else wl), .int wj, .int ta, .ref w5, .ref w6, .ref w7, .ref w8])), (w5, .inl (cI, 6, .inl (if 0 < us t1 then upd us t1 (us t1 - 1) else us))), (w6, .inl (cI, 6, .inl ue)), (w7, .inl (cI, 6, .inl (jfl tY utY 6))), (w8, .inl (cI, 6, .inl (jfl tW utW 6)))]) hD hS hA [7, 8, 9, 10, 11] rfl
    refine jcallWi (post := fun r H => r = (if 0 < (if 0 < us t1 then upd us t1 (us t1 - 1) else us) t2 then 1 else 0) ∧ va_P D vwCl [(xw, .inr (1, [.int (y + nI k), .int (if 0 < (if 0 < us t1 then upd us t1 (us t1 - 1) else us) t2 then we + 1 else we), .int (if 0 < us t1 then wl + 1 else wl), .int (if 0 < (if 0 < us t1 then upd us t1 (us t1 - 1) else us) t2 then wj + ((fw t2 (y + nI k)) - (ue t2)) else wj), .int ta, .ref w5, .ref w6, .ref w7, .ref w8])), (w5, .inl (cI, 6, .inl (if 0 < (if 0 < us t1 then upd us t1 (us t1 - 1) else us) t2 then upd (if 0 < us t1 then upd us t1 (us t1 - 1) else us) t2 ((if 0 < us t1 then upd us t1 (us t1 - 1) else us) t2 - 1) else (if 0 < us t1 then upd us t1 (us t1 - 1) else us)))), (w6, .inl (cI, 6, .inl (if 0 < (if 0 < us t1 then upd us t1 (us t1 - 1) else us) t2 then upd ue t2 (ue t2 + 1) else ue))), (w7, .inl (cI, 6, .inl (jfl tY utY 6))), (w8, .inl (cI, 6, .inl (jfl tW utW 6)))] H) (va_runV (As := [.int (nI t2), .int ((fw t2 (y + nI k)) - (ue t2))]) (rest := []) ⟨hx, hb, hml, hown, hts⟩ (c_eatSpoon l D cI cJ xw w5 w6 w7 w8 (y + nI k) we (if 0 < us t1 then wl + 1 else wl) wj ta (if 0 < us t1 then upd us t1 (us t1 - 1) else us) ue (jfl tY utY 6) (jfl tW utW 6) t2 ((fw t2 (y + nI k)) - (ue t2)) (by omega) H.size) (cwV 2 hts gX6_liveOn_X1_eatSpoon rfl rfl rfl (by decide +kernel) ⟨Nat.le_of_ble_eq_true rfl, Nat.le_of_ble_eq_true rfl⟩) (jpreV hT (va_recv hK hP (ci := 1) (q0 := 7) rfl rfl) ⟨hPc_20, hDc_21.weaken (fun _ _ _ _ => trivial), trivial⟩) rfl rfl hl.1 rfl (lv_room (Nat.le_of_ble_eq_true rfl)) dX6_liveOn_81 ⟨(Nat.zero_le _), (Nat.zero_le _)⟩) hS hFc_22 (fun r_23 H locs hw_r_23 hz hkq hS => ?_)
    obtain ⟨hr9, hP1⟩ := hw_r_23
    obtain ⟨hP, hD⟩ := jjoin (wc := [(xw, .inr (1, [.int (y + nI k), .int we, .int (if 0 < us t1 then wl + 1 else wl), .int wj, .int ta, .ref w5, .ref w6, .ref w7, .ref w8])), (w5, .inl (cI, 6, .inl (if 0 < us t1 then upd us t1 (us t1 - 1) else us))), (w6, .inl (cI, 6, .inl ue)), (w7, .inl (cI, 6, .inl (jfl tY utY 6))), (w8, .inl (cI, 6, .inl (jfl tW utW 6)))]) (wr := [(x, .inr (6, [a0, a1, .ref xj, .int (nI n), .ref xn, a5, .ref xw, a7, a8, a9, a10, a11])), (xj, .inl (cJ, 6, .inr (.inr (.inr (.inr jr))))), (xn, .inr (1, [.int y, .int ea, .int lo, .int jo, .int ta, .ref ns, .ref ne, .ref n7, .ref n8])), (ns, .inl (cI, 6, .inl sp)), (ne, .inl (cI, 6, .inl en)), (n7, .inl (cI, 6, .inl tY)), (n8, .inl (cI, 6, .inl tW))]) (w1 := [(xw, .inr (1, [.int (y + nI k), .int (if 0 < (if 0 < us t1 then upd us t1 (us t1 - 1) else us) t2 then we + 1 else we), .int (if 0 < us t1 then wl + 1 else wl), .int (if 0 < (if 0 < us t1 then upd us t1 (us t1 - 1) else us) t2 then wj + ((fw t2 (y + nI k)) - (ue t2)) else wj), .int ta, .ref w5, .ref w6, .ref w7, .ref w8])), (w5, .inl (cI, 6, .inl (if 0 < (if 0 < us t1 then upd us t1 (us t1 - 1) else us) t2 then upd (if 0 < us t1 then upd us t1 (us t1 - 1) else us) t2 ((if 0 < us t1 then upd us t1 (us t1 - 1) else us) t2 - 1) else (if 0 < us t1 then upd us t1 (us t1 - 1) else us)))), (w6, .inl (cI, 6, .inl (if 0 < (if 0 < us t1 then upd us t1 (us t1 - 1) else us) t2 then upd ue t2 (ue t2 + 1) else ue))), (w7, .inl (cI, 6, .inl (jfl tY utY 6))), (w8, .inl (cI, 6, .inl (jfl tW utW 6)))]) (ws' := [(x, .inr (6, [a0, a1, .ref xj, .int (nI n), .ref xn, a5, .ref xw, a7, a8, a9, a10, a11])), (xj, .inl (cJ, 6, .inr (.inr (.inr (.inr jr))))), (xn, .inr (1, [.int y, .int ea, .int lo, .int jo, .int ta, .ref ns, .ref ne, .ref n7, .ref n8])), (ns, .inl (cI, 6, .inl sp)), (ne, .inl (cI, 6, .inl en)), (n7, .inl (cI, 6, .inl tY)), (n8, .inl (cI, 6, .inl tW)), (xw, .inr (1, [.int (y + nI k), .int (if 0 < (if 0 < us t1 then upd us t1 (us t1 - 1) else us) t2 then we + 1 else we), .int (if 0 < us t1 then wl + 1 else wl), .int (if 0 < (if 0 < us t1 then upd us t1 (us t1 - 1) else us) t2 then wj + ((fw t2 (y + nI k)) - (ue t2)) else wj), .int ta, .ref w5, .ref w6, .ref w7, .ref w8])), (w5, .inl (cI, 6, .inl (if 0 < (if 0 < us t1 then upd us t1 (us t1 - 1) else us) t2 then upd (if 0 < us t1 then upd us t1 (us t1 - 1) else us) t2 ((if 0 < us t1 then upd us t1 (us t1 - 1) else us) t2 - 1) else (if 0 < us t1 then upd us t1 (us t1 - 1) else us)))), (w6, .inl (cI, 6, .inl (if 0 < (if 0 < us t1 then upd us t1 (us t1 - 1) else us) t2 then upd ue t2 (ue t2 + 1) else ue))), (w7, .inl (cI, 6, .inl (jfl tY utY 6))), (w8, .inl (cI, 6, .inl (jfl tW utW 6)))]) hP hD hFc_22 [7, 8, 9, 10, 11] [0, 1, 2, 3, 4, 5, 6] [0, 1, 2, 3, 4, 5, 6, 7, 8, 9, 10, 11] rfl rfl (by decide) (by decide) (by decide) (by decide) hkq hP1 rfl rfl rfl
    have hJ := hJ_0.keptA hJ_A (fun q h1 h2 => hS.2.1 q h1 h2)
    refine lv_pop hx hb dX6_liveOn_84 rfl ?_
    refine lv_aload_n hx hb dX6_liveOn_85 rfl (lv_at hl 2 rfl) ?_
    refine va_get (D := D) (ci := 6) (v := .ref xw) (C := RX6) (T := TX6) (N := 12) hx hb hts (fun w h => List.mem_cons_of_mem _ (List.mem_append_left _ (List.mem_append_left _ (List.mem_append_left _ (List.mem_append_left _ (List.mem_append_left _ (List.mem_append_left _ (List.mem_append_right _ h)))))))) hown hK hP 0 rfl rfl 6 (by decide) (hts (Cond.fieldLink RX6 36 "JamDays" "would" "LJamDays$Days;") (List.mem_of_getElem? (i := 1) rfl)) (fun _ h9 => h9) rfl dX6_liveOn_86 ?_
    have hPc_24 := hP.sub (ws' := [(xw, .inr (1, [.int (y + nI k), .int (if 0 < (if 0 < us t1 then upd us t1 (us t1 - 1) else us) t2 then we + 1 else we), .int (if 0 < us t1 then wl + 1 else wl), .int (if 0 < (if 0 < us t1 then upd us t1 (us t1 - 1) else us) t2 then wj + ((fw t2 (y + nI k)) - (ue t2)) else wj), .int ta, .ref w5, .ref w6, .ref w7, .ref w8])), (w5, .inl (cI, 6, .inl (if 0 < (if 0 < us t1 then upd us t1 (us t1 - 1) else us) t2 then upd (if 0 < us t1 then upd us t1 (us t1 - 1) else us) t2 ((if 0 < us t1 then upd us t1 (us t1 - 1) else us) t2 - 1) else (if 0 < us t1 then upd us t1 (us t1 - 1) else us)))), (w6, .inl (cI, 6, .inl (if 0 < (if 0 < us t1 then upd us t1 (us t1 - 1) else us) t2 then upd ue t2 (ue t2 + 1) else ue))), (w7, .inl (cI, 6, .inl (jfl tY utY 6))), (w8, .inl (cI, 6, .inl (jfl tW utW 6)))]) [7, 8, 9, 10, 11] rfl
    have hDc_25 := hD.sub (ws' := [(xw, .inr (1, [.int (y + nI k), .int (if 0 < (if 0 < us t1 then upd us t1 (us t1 - 1) else us) t2 then we + 1 else we), .int (if 0 < us t1 then wl + 1 else wl), .int (if 0 < (if 0 < us t1 then upd us t1 (us t1 - 1) else us) t2 then wj + ((fw t2 (y + nI k)) - (ue t2)) else wj), .int ta, .ref w5, .ref w6, .ref w7, .ref w8])), (w5, .inl (cI, 6, .inl (if 0 < (if 0 < us t1 then upd us t1 (us t1 - 1) else us) t2 then upd (if 0 < us t1 then upd us t1 (us t1 - 1) else us) t2 ((if 0 < us t1 then upd us t1 (us t1 - 1) else us) t2 - 1) else (if 0 < us t1 then upd us t1 (us t1 - 1) else us)))), (w6, .inl (cI, 6, .inl (if 0 < (if 0 < us t1 then upd us t1 (us t1 - 1) else us) t2 then upd ue t2 (ue t2 + 1) else ue))), (w7, .inl (cI, 6, .inl (jfl tY utY 6))), (w8, .inl (cI, 6, .inl (jfl tW utW 6)))]) [7, 8, 9, 10, 11] (by decide) rfl
    have hFc_26 := va_free (wc := [(xw, .inr (1, [.int (y + nI k), .int (if 0 < (if 0 < us t1 then upd us t1 (us t1 - 1) else us) t2 then we + 1 else we), .int (if 0 < us t1 then wl + 1 else wl), .int (if 0 < (if 0 < us t1 then upd us t1 (us t1 - 1) else us) t2 then wj + ((fw t2 (y + nI k)) - (ue t2)) else wj), .int ta, .ref w5, .ref w6, .ref w7, .ref w8])), (w5, .inl (cI, 6, .inl (if 0 < (if 0 < us t1 then upd us t1 (us t1 - 1) else us) t2 then upd (if 0 < us t1 then upd us t1 (us t1 - 1) else us) t2 ((if 0 < us t1 then upd us t1 (us t1 - 1) else us) t2 - 1) else (if 0 < us t1 then upd us t1 (us t1 - 1) else us)))), (w6, .inl (cI, 6, .inl (if 0 < (if 0 < us t1 then upd us t1 (us t1 - 1) else us) t2 then upd ue t2 (ue t2 + 1) else ue))), (w7, .inl (cI, 6, .inl (jfl tY utY 6))), (w8, .inl (cI, 6, .inl (jfl tW utW 6)))]) hD hS hA [7, 8, 9, 10, 11] rfl
    refine jcallWv (post := fun H => va_P D vwCl [(xw, .inr (1, [.int ((y + nI k) + 1), .int (if 0 < (if 0 < us t1 then upd us t1 (us t1 - 1) else us) t2 then we + 1 else we), .int (if 0 < us t1 then wl + 1 else wl), .int (if 0 < (if 0 < us t1 then upd us t1 (us t1 - 1) else us) t2 then wj + ((fw t2 (y + nI k)) - (ue t2)) else wj), .int ta, .ref w5, .ref w6, .ref w7, .ref w8])), (w5, .inl (cI, 6, .inl (if 0 < (if 0 < us t1 then upd us t1 (us t1 - 1) else us) t2 then upd (if 0 < us t1 then upd us t1 (us t1 - 1) else us) t2 ((if 0 < us t1 then upd us t1 (us t1 - 1) else us) t2 - 1) else (if 0 < us t1 then upd us t1 (us t1 - 1) else us)))), (w6, .inl (cI, 6, .inl (jfl (fun _ => 0) (if 0 < (if 0 < us t1 then upd us t1 (us t1 - 1) else us) t2 then upd ue t2 (ue t2 + 1) else ue) 6))), (w7, .inl (cI, 6, .inl (jfl tY utY 6))), (w8, .inl (cI, 6, .inl (jfl tW utW 6)))] H) (va_runV (As := []) (rest := []) ⟨hx, hb, hml, hown, hts⟩ (c_passYear l D cI cJ xw w5 w6 w7 w8 (y + nI k) (if 0 < (if 0 < us t1 then upd us t1 (us t1 - 1) else us) t2 then we + 1 else we) (if 0 < us t1 then wl + 1 else wl) (if 0 < (if 0 < us t1 then upd us t1 (us t1 - 1) else us) t2 then wj + ((fw t2 (y + nI k)) - (ue t2)) else wj) ta (if 0 < (if 0 < us t1 then upd us t1 (us t1 - 1) else us) t2 then upd (if 0 < us t1 then upd us t1 (us t1 - 1) else us) t2 ((if 0 < us t1 then upd us t1 (us t1 - 1) else us) t2 - 1) else (if 0 < us t1 then upd us t1 (us t1 - 1) else us)) (if 0 < (if 0 < us t1 then upd us t1 (us t1 - 1) else us) t2 then upd ue t2 (ue t2 + 1) else ue) (jfl tY utY 6) (jfl tW utW 6) H.size) (cwV 0 hts gX6_liveOn_X1_passYear rfl rfl rfl (by decide +kernel) ⟨Nat.le_of_ble_eq_true rfl, Nat.le_of_ble_eq_true rfl⟩) (jpreV hT (va_recv hK hP (ci := 1) (q0 := 7) rfl rfl) ⟨hPc_24, hDc_25.weaken (fun _ _ _ _ => trivial), trivial⟩) rfl rfl hl.1 rfl (lv_room (Nat.le_of_ble_eq_true rfl)) dX6_liveOn_89 ⟨(Nat.zero_le _), (Nat.zero_le _)⟩) hS hFc_26 (fun H locs hw_r_27 hz hkq hS => ?_)
    have hP1 := hw_r_27
    obtain ⟨hP, hD⟩ := jjoin (wc := [(xw, .inr (1, [.int (y + nI k), .int (if 0 < (if 0 < us t1 then upd us t1 (us t1 - 1) else us) t2 then we + 1 else we), .int (if 0 < us t1 then wl + 1 else wl), .int (if 0 < (if 0 < us t1 then upd us t1 (us t1 - 1) else us) t2 then wj + ((fw t2 (y + nI k)) - (ue t2)) else wj), .int ta, .ref w5, .ref w6, .ref w7, .ref w8])), (w5, .inl (cI, 6, .inl (if 0 < (if 0 < us t1 then upd us t1 (us t1 - 1) else us) t2 then upd (if 0 < us t1 then upd us t1 (us t1 - 1) else us) t2 ((if 0 < us t1 then upd us t1 (us t1 - 1) else us) t2 - 1) else (if 0 < us t1 then upd us t1 (us t1 - 1) else us)))), (w6, .inl (cI, 6, .inl (if 0 < (if 0 < us t1 then upd us t1 (us t1 - 1) else us) t2 then upd ue t2 (ue t2 + 1) else ue))), (w7, .inl (cI, 6, .inl (jfl tY utY 6))), (w8, .inl (cI, 6, .inl (jfl tW utW 6)))]) (wr := [(x, .inr (6, [a0, a1, .ref xj, .int (nI n), .ref xn, a5, .ref xw, a7, a8, a9, a10, a11])), (xj, .inl (cJ, 6, .inr (.inr (.inr (.inr jr))))), (xn, .inr (1, [.int y, .int ea, .int lo, .int jo, .int ta, .ref ns, .ref ne, .ref n7, .ref n8])), (ns, .inl (cI, 6, .inl sp)), (ne, .inl (cI, 6, .inl en)), (n7, .inl (cI, 6, .inl tY)), (n8, .inl (cI, 6, .inl tW))]) (w1 := [(xw, .inr (1, [.int ((y + nI k) + 1), .int (if 0 < (if 0 < us t1 then upd us t1 (us t1 - 1) else us) t2 then we + 1 else we), .int (if 0 < us t1 then wl + 1 else wl), .int (if 0 < (if 0 < us t1 then upd us t1 (us t1 - 1) else us) t2 then wj + ((fw t2 (y + nI k)) - (ue t2)) else wj), .int ta, .ref w5, .ref w6, .ref w7, .ref w8])), (w5, .inl (cI, 6, .inl (if 0 < (if 0 < us t1 then upd us t1 (us t1 - 1) else us) t2 then upd (if 0 < us t1 then upd us t1 (us t1 - 1) else us) t2 ((if 0 < us t1 then upd us t1 (us t1 - 1) else us) t2 - 1) else (if 0 < us t1 then upd us t1 (us t1 - 1) else us)))), (w6, .inl (cI, 6, .inl (jfl (fun _ => 0) (if 0 < (if 0 < us t1 then upd us t1 (us t1 - 1) else us) t2 then upd ue t2 (ue t2 + 1) else ue) 6))), (w7, .inl (cI, 6, .inl (jfl tY utY 6))), (w8, .inl (cI, 6, .inl (jfl tW utW 6)))]) (ws' := [(x, .inr (6, [a0, a1, .ref xj, .int (nI n), .ref xn, a5, .ref xw, a7, a8, a9, a10, a11])), (xj, .inl (cJ, 6, .inr (.inr (.inr (.inr jr))))), (xn, .inr (1, [.int y, .int ea, .int lo, .int jo, .int ta, .ref ns, .ref ne, .ref n7, .ref n8])), (ns, .inl (cI, 6, .inl sp)), (ne, .inl (cI, 6, .inl en)), (n7, .inl (cI, 6, .inl tY)), (n8, .inl (cI, 6, .inl tW)), (xw, .inr (1, [.int ((y + nI k) + 1), .int (if 0 < (if 0 < us t1 then upd us t1 (us t1 - 1) else us) t2 then we + 1 else we), .int (if 0 < us t1 then wl + 1 else wl), .int (if 0 < (if 0 < us t1 then upd us t1 (us t1 - 1) else us) t2 then wj + ((fw t2 (y + nI k)) - (ue t2)) else wj), .int ta, .ref w5, .ref w6, .ref w7, .ref w8])), (w5, .inl (cI, 6, .inl (if 0 < (if 0 < us t1 then upd us t1 (us t1 - 1) else us) t2 then upd (if 0 < us t1 then upd us t1 (us t1 - 1) else us) t2 ((if 0 < us t1 then upd us t1 (us t1 - 1) else us) t2 - 1) else (if 0 < us t1 then upd us t1 (us t1 - 1) else us)))), (w6, .inl (cI, 6, .inl (jfl (fun _ => 0) (if 0 < (if 0 < us t1 then upd us t1 (us t1 - 1) else us) t2 then upd ue t2 (ue t2 + 1) else ue) 6))), (w7, .inl (cI, 6, .inl (jfl tY utY 6))), (w8, .inl (cI, 6, .inl (jfl tW utW 6)))]) hP hD hFc_26 [7, 8, 9, 10, 11] [0, 1, 2, 3, 4, 5, 6] [0, 1, 2, 3, 4, 5, 6, 7, 8, 9, 10, 11] rfl rfl (by decide) (by decide) (by decide) (by decide) hkq hP1 rfl rfl rfl
    have hJ := hJ_0.keptA hJ_A (fun q h1 h2 => hS.2.1 q h1 h2)
    refine lv_iinc (v := nI (k + 1)) (lv' := [(4, .int (nI (k + 1))), (5, .int (nI t2)), (3, .int (nI q2)), (0, .ref x), (1, .int (nI ys))]) hx hb dX6_liveOn_92 hl (k := 4) rfl ((rfl : nI k + Int32.ofInt 1 = nI k + nI 1).trans (nI_add k 1)) (by decide) rfl (fun ls hl => ?_)
    refine lv_goto (tgt := 16) hx hb dX6_liveOn_95 (by decide) ?_
    have hP : va_P D vwCl [(x, .inr (6, [a0, a1, .ref xj, .int (nI n), .ref xn, a5, .ref xw, a7, a8, a9, a10, a11])), (xj, .inl (cJ, 6, .inr (.inr (.inr (.inr jr))))), (xn, .inr (1, [.int y, .int ea, .int lo, .int jo, .int ta, .ref ns, .ref ne, .ref n7, .ref n8])), (ns, .inl (cI, 6, .inl sp)), (ne, .inl (cI, 6, .inl en)), (n7, .inl (cI, 6, .inl tY)), (n8, .inl (cI, 6, .inl tW)), (xw, .inr (1, [.int (y + nI (k + 1)), .int (if 0 < (if 0 < us t1 then upd us t1 (us t1 - 1) else us) t2 then we + 1 else we), .int (if 0 < us t1 then wl + 1 else wl), .int (if 0 < (if 0 < us t1 then upd us t1 (us t1 - 1) else us) t2 then wj + ((fw t2 (y + nI k)) - (ue t2)) else wj), .int ta, .ref w5, .ref w6, .ref w7, .ref w8])), (w5, .inl (cI, 6, .inl (if 0 < (if 0 < us t1 then upd us t1 (us t1 - 1) else us) t2 then upd (if 0 < us t1 then upd us t1 (us t1 - 1) else us) t2 ((if 0 < us t1 then upd us t1 (us t1 - 1) else us) t2 - 1) else (if 0 < us t1 then upd us t1 (us t1 - 1) else us)))), (w6, .inl (cI, 6, .inl (jfl (fun _ => 0) (if 0 < (if 0 < us t1 then upd us t1 (us t1 - 1) else us) t2 then upd ue t2 (ue t2 + 1) else ue) 6))), (w7, .inl (cI, 6, .inl (jfl tY utY 6))), (w8, .inl (cI, 6, .inl (jfl tW utW 6)))] H := by rw [jy1]; exact hP
    have hD : va_D A [(x, .inr (6, [a0, a1, .ref xj, .int (nI n), .ref xn, a5, .ref xw, a7, a8, a9, a10, a11])), (xj, .inl (cJ, 6, .inr (.inr (.inr (.inr jr))))), (xn, .inr (1, [.int y, .int ea, .int lo, .int jo, .int ta, .ref ns, .ref ne, .ref n7, .ref n8])), (ns, .inl (cI, 6, .inl sp)), (ne, .inl (cI, 6, .inl en)), (n7, .inl (cI, 6, .inl tY)), (n8, .inl (cI, 6, .inl tW)), (xw, .inr (1, [.int (y + nI (k + 1)), .int (if 0 < (if 0 < us t1 then upd us t1 (us t1 - 1) else us) t2 then we + 1 else we), .int (if 0 < us t1 then wl + 1 else wl), .int (if 0 < (if 0 < us t1 then upd us t1 (us t1 - 1) else us) t2 then wj + ((fw t2 (y + nI k)) - (ue t2)) else wj), .int ta, .ref w5, .ref w6, .ref w7, .ref w8])), (w5, .inl (cI, 6, .inl (if 0 < (if 0 < us t1 then upd us t1 (us t1 - 1) else us) t2 then upd (if 0 < us t1 then upd us t1 (us t1 - 1) else us) t2 ((if 0 < us t1 then upd us t1 (us t1 - 1) else us) t2 - 1) else (if 0 < us t1 then upd us t1 (us t1 - 1) else us)))), (w6, .inl (cI, 6, .inl (jfl (fun _ => 0) (if 0 < (if 0 < us t1 then upd us t1 (us t1 - 1) else us) t2 then upd ue t2 (ue t2 + 1) else ue) 6))), (w7, .inl (cI, 6, .inl (jfl tY utY 6))), (w8, .inl (cI, 6, .inl (jfl tW utW 6)))] := jD_of hD rfl
    exact ih_16 (k + 1, q2, (if 0 < (if 0 < us t1 then upd us t1 (us t1 - 1) else us) t2 then upd (if 0 < us t1 then upd us t1 (us t1 - 1) else us) t2 ((if 0 < us t1 then upd us t1 (us t1 - 1) else us) t2 - 1) else (if 0 < us t1 then upd us t1 (us t1 - 1) else us)), jfl (fun _ => 0) (if 0 < (if 0 < us t1 then upd us t1 (us t1 - 1) else us) t2 then upd ue t2 (ue t2 + 1) else ue) 6, (if 0 < (if 0 < us t1 then upd us t1 (us t1 - 1) else us) t2 then wj + ((fw t2 (y + nI k)) - (ue t2)) else wj), (if 0 < (if 0 < us t1 then upd us t1 (us t1 - 1) else us) t2 then we + 1 else we), (if 0 < us t1 then wl + 1 else wl)) _ _ _ ⟨hP, hD, hJ, hS, lv_sub hl [3, 4, 2, 0] rfl, (by omega), hq2l, (by show cst _ _ _ (cts fw n y (jfl sp usp 6, jfl en uen 6, jo, q0) k) = _; rw [hst]; subst ht1 ht2 hq2 hq1; rfl)⟩ (by dsimp only; omega)

set_option maxHeartbeats 4000000 in
set_option maxRecDepth 100000 in
theorem c_times_out1 (l : Launch) (D : va_G) (cI cJ : ClassId) (x : Nat) (y0 : Int32) (s0 : Int32) (w0 : Int32) (h9 : y0 < 1 ∨ 60 < y0) : jRi l yX6_times wsX6_times ({ frames := 0, cells := 0, slots := 0, locals := 0 }) [.ref x, .int y0, .int s0, .int w0] D cI cJ (fun H => True) (fun r => r = -102) := by
  intro sz
  refine Met.ofW (cc := cX6_times) (maxL := 5) (ret := (some .int)) (by decide) rfl ?_
  intro p e s m args below meth c s₁ B hml hv
  obtain ⟨rfl, hsz, hT, _⟩ := hv
  have hK := hT.1
  have hx := B.exec
  have hb := B.bytes
  have hr := B.returns
  have hts := atoms_spec (ws := wsX6_times) B.pre
  have hown : s.vm.findClass RX6 = some m.cls := findClass_of_methodNamed B.named
  have hlocks := B.notSynchronized
  subst hsz
  generalize hAe : va_A [] s.heap.size = A
  have hA : ∀ q : Nat, s.heap.size ≤ q → A q := fun q h => by rw [← hAe]; exact Or.inr h
  have hS : va_S A s.heap s.heap [] := va_S.rf
  have hl := lv_entry ([.ref x, .int y0, .int s0, .int w0] : List Value) (n := 5) (Nat.le_of_ble_eq_true rfl)
  rw [lg_entry_eq]
  generalize (lg_sl ([.ref x, .int y0, .int s0, .int w0]) ++ List.replicate (5 - (lg_sl ([.ref x, .int y0, .int s0, .int w0])).length) Slot.unset).toArray = ls at hl ⊢
  have hl : lv_has ls 5 [(0, .ref x), (1, .int y0), (2, .int s0), (3, .int w0)] := hl
  refine lv_iload_n hx hb dX6_times_0 rfl (lv_at hl 1 rfl) ?_
  refine lv_iconst (v := 1) hx hb dX6_times_1 (by decide) ?_
  refine lv_icmp_lt (tgt := 24) hx hb dX6_times_2 (by decide) (fun c_1 => ?_) (fun c_1 => ?_)
  · skip
    refine lv_bipush (v := (-102)) hx hb dX6_times_24 (by decide) ?_
    exact W.iret (v := (-102)) hx hb hr (fun t ht hW => ⟨⟨(-102), (), rfl, rfl, trivial⟩, hS.F ht⟩) hS.2.2 dX6_times_26
  · skip
    refine lv_iload_n hx hb dX6_times_5 rfl (lv_at hl 1 rfl) ?_
    refine lv_bipush (v := 60) hx hb dX6_times_6 (by decide) ?_
    refine lv_icmp_gt (tgt := 24) hx hb dX6_times_8 (by decide) (fun c_2 => ?_) (fun c_2 => ?_)
    · skip
      refine lv_bipush (v := (-102)) hx hb dX6_times_24 (by decide) ?_
      exact W.iret (v := (-102)) hx hb hr (fun t ht hW => ⟨⟨(-102), (), rfl, rfl, trivial⟩, hS.F ht⟩) hS.2.2 dX6_times_26
    · skip
      exact (h9.elim (fun h => c_1 h) (fun h => c_2 h)).elim

set_option maxHeartbeats 4000000 in
set_option maxRecDepth 100000 in
theorem c_times_out2 (l : Launch) (D : va_G) (cI cJ : ClassId) (x : Nat) (y0 : Int32) (s0 : Int32) (w0 : Int32) (h1 : 1 ≤ y0) (h2 : y0 ≤ 60) (h9 : s0 < 0) : jRi l yX6_times wsX6_times ({ frames := 0, cells := 0, slots := 0, locals := 0 }) [.ref x, .int y0, .int s0, .int w0] D cI cJ (fun H => True) (fun r => r = -102) := by
  intro sz
  refine Met.ofW (cc := cX6_times) (maxL := 5) (ret := (some .int)) (by decide) rfl ?_
  intro p e s m args below meth c s₁ B hml hv
  obtain ⟨rfl, hsz, hT, _⟩ := hv
  have hK := hT.1
  have hx := B.exec
  have hb := B.bytes
  have hr := B.returns
  have hts := atoms_spec (ws := wsX6_times) B.pre
  have hown : s.vm.findClass RX6 = some m.cls := findClass_of_methodNamed B.named
  have hlocks := B.notSynchronized
  subst hsz
  generalize hAe : va_A [] s.heap.size = A
  have hA : ∀ q : Nat, s.heap.size ≤ q → A q := fun q h => by rw [← hAe]; exact Or.inr h
  have hS : va_S A s.heap s.heap [] := va_S.rf
  have hl := lv_entry ([.ref x, .int y0, .int s0, .int w0] : List Value) (n := 5) (Nat.le_of_ble_eq_true rfl)
  rw [lg_entry_eq]
  generalize (lg_sl ([.ref x, .int y0, .int s0, .int w0]) ++ List.replicate (5 - (lg_sl ([.ref x, .int y0, .int s0, .int w0])).length) Slot.unset).toArray = ls at hl ⊢
  have hl : lv_has ls 5 [(0, .ref x), (1, .int y0), (2, .int s0), (3, .int w0)] := hl
  refine lv_iload_n hx hb dX6_times_0 rfl (lv_at hl 1 rfl) ?_
  refine lv_iconst (v := 1) hx hb dX6_times_1 (by decide) ?_
  refine lv_icmp_lt (tgt := 24) hx hb dX6_times_2 (by decide) (fun c_1 => ?_) (fun c_1 => ?_)
  · skip
    exact (jlt_le c_1 h1).elim
  · skip
    refine lv_iload_n hx hb dX6_times_5 rfl (lv_at hl 1 rfl) ?_
    refine lv_bipush (v := 60) hx hb dX6_times_6 (by decide) ?_
    refine lv_icmp_gt (tgt := 24) hx hb dX6_times_8 (by decide) (fun c_2 => ?_) (fun c_2 => ?_)
    · skip
      exact (jlt_le c_2 h2).elim
    · skip
      refine lv_iload_n hx hb dX6_times_11 rfl (lv_at hl 2 rfl) ?_
      refine lv_if_lt (tgt := 24) hx hb dX6_times_12 (by decide) (fun c_3 => ?_) (fun c_3 => ?_)
      · skip
        refine lv_bipush (v := (-102)) hx hb dX6_times_24 (by decide) ?_
        exact W.iret (v := (-102)) hx hb hr (fun t ht hW => ⟨⟨(-102), (), rfl, rfl, trivial⟩, hS.F ht⟩) hS.2.2 dX6_times_26
      · skip
        exact absurd h9 c_3

set_option maxHeartbeats 4000000 in
set_option maxRecDepth 100000 in
theorem c_times_out3 (l : Launch) (D : va_G) (cI cJ : ClassId) (x : Nat) (y0 : Int32) (s0 : Int32) (w0 : Int32) (h1 : 1 ≤ y0) (h2 : y0 ≤ 60) (h3 : ¬ s0 < 0) (h9 : w0 < 0 ∨ 2 < w0) : jRi l yX6_times wsX6_times ({ frames := 0, cells := 0, slots := 0, locals := 0 }) [.ref x, .int y0, .int s0, .int w0] D cI cJ (fun H => True) (fun r => r = -102) := by
  intro sz
  refine Met.ofW (cc := cX6_times) (maxL := 5) (ret := (some .int)) (by decide) rfl ?_
  intro p e s m args below meth c s₁ B hml hv
  obtain ⟨rfl, hsz, hT, _⟩ := hv
  have hK := hT.1
  have hx := B.exec
  have hb := B.bytes
  have hr := B.returns
  have hts := atoms_spec (ws := wsX6_times) B.pre
  have hown : s.vm.findClass RX6 = some m.cls := findClass_of_methodNamed B.named
  have hlocks := B.notSynchronized
  subst hsz
  generalize hAe : va_A [] s.heap.size = A
  have hA : ∀ q : Nat, s.heap.size ≤ q → A q := fun q h => by rw [← hAe]; exact Or.inr h
  have hS : va_S A s.heap s.heap [] := va_S.rf
  have hl := lv_entry ([.ref x, .int y0, .int s0, .int w0] : List Value) (n := 5) (Nat.le_of_ble_eq_true rfl)
  rw [lg_entry_eq]
  generalize (lg_sl ([.ref x, .int y0, .int s0, .int w0]) ++ List.replicate (5 - (lg_sl ([.ref x, .int y0, .int s0, .int w0])).length) Slot.unset).toArray = ls at hl ⊢
  have hl : lv_has ls 5 [(0, .ref x), (1, .int y0), (2, .int s0), (3, .int w0)] := hl
  refine lv_iload_n hx hb dX6_times_0 rfl (lv_at hl 1 rfl) ?_
  refine lv_iconst (v := 1) hx hb dX6_times_1 (by decide) ?_
  refine lv_icmp_lt (tgt := 24) hx hb dX6_times_2 (by decide) (fun c_1 => ?_) (fun c_1 => ?_)
  · skip
    exact (jlt_le c_1 h1).elim
  · skip
    refine lv_iload_n hx hb dX6_times_5 rfl (lv_at hl 1 rfl) ?_
    refine lv_bipush (v := 60) hx hb dX6_times_6 (by decide) ?_
    refine lv_icmp_gt (tgt := 24) hx hb dX6_times_8 (by decide) (fun c_2 => ?_) (fun c_2 => ?_)
    · skip
      exact (jlt_le c_2 h2).elim
    · skip
      refine lv_iload_n hx hb dX6_times_11 rfl (lv_at hl 2 rfl) ?_
      refine lv_if_lt (tgt := 24) hx hb dX6_times_12 (by decide) (fun c_3 => ?_) (fun c_3 => ?_)
      · skip
        exact absurd c_3 h3
      · skip
        refine lv_iload_n hx hb dX6_times_15 rfl (lv_at hl 3 rfl) ?_
        refine lv_if_lt (tgt := 24) hx hb dX6_times_16 (by decide) (fun c_4 => ?_) (fun c_4 => ?_)
        · skip
          refine lv_bipush (v := (-102)) hx hb dX6_times_24 (by decide) ?_
          exact W.iret (v := (-102)) hx hb hr (fun t ht hW => ⟨⟨(-102), (), rfl, rfl, trivial⟩, hS.F ht⟩) hS.2.2 dX6_times_26
        · skip
          refine lv_iload_n hx hb dX6_times_19 rfl (lv_at hl 3 rfl) ?_
          refine lv_iconst (v := 2) hx hb dX6_times_20 (by decide) ?_
          refine lv_icmp_le (tgt := 27) hx hb dX6_times_21 (by decide) (fun c_5 => ?_) (fun c_5 => ?_)
          · skip
            exact (h9.elim (fun h => c_4 h) (fun h => jlt_le h c_5)).elim
          · skip
            refine lv_bipush (v := (-102)) hx hb dX6_times_24 (by decide) ?_
            exact W.iret (v := (-102)) hx hb hr (fun t ht hW => ⟨⟨(-102), (), rfl, rfl, trivial⟩, hS.F ht⟩) hS.2.2 dX6_times_26

set_option maxHeartbeats 4000000 in
set_option maxRecDepth 100000 in
theorem c_times_n (l : Launch) (D : va_G) (cI cJ : ClassId) (x : Nat) (n : Nat) (ys : Nat) (q0 : Nat) (cq : Nat) (a0 : Value) (a1 : Value) (a2 : Value) (a4 : Value) (a5 : Value) (a6 : Value) (a7 : Value) (a8 : Value) (a9 : Value) (a10 : Value) (a11 : Value) (hy1 : 1 ≤ ys) (hys : ys ≤ 60) (hq0 : q0 < 2147483648) (hc : cq < 3) (hn0 : n = 0) : jRi l yX6_times wsX6_times ({ frames := 1, cells := 0, slots := 0, locals := 20 }) [.ref x, .int (nI ys), .int (nI q0), .int (nI cq)] D cI cJ (fun H => va_P D vwCl [(x, .inr (6, [a0, a1, a2, .int (nI n), a4, a5, a6, a7, a8, a9, a10, a11]))] H) (fun r => r = -103) := by
  intro sz
  refine Met.ofW (cc := cX6_times) (maxL := 5) (ret := (some .int)) (by decide) rfl ?_
  intro p e s m args below meth c s₁ B hml hv
  obtain ⟨rfl, hsz, hT, hPr⟩ := hv
  have hK := hT.1
  have hx := B.exec
  have hb := B.bytes
  have hr := B.returns
  have hts := atoms_spec (ws := wsX6_times) B.pre
  have hown : s.vm.findClass RX6 = some m.cls := findClass_of_methodNamed B.named
  have hlocks := B.notSynchronized
  subst hsz
  generalize hAe : va_A [] s.heap.size = A
  have hA : ∀ q : Nat, s.heap.size ≤ q → A q := fun q h => by rw [← hAe]; exact Or.inr h
  have hS : va_S A s.heap s.heap [] := va_S.rf
  have hl := lv_entry ([.ref x, .int (nI ys), .int (nI q0), .int (nI cq)] : List Value) (n := 5) (Nat.le_of_ble_eq_true rfl)
  rw [lg_entry_eq]
  generalize (lg_sl ([.ref x, .int (nI ys), .int (nI q0), .int (nI cq)]) ++ List.replicate (5 - (lg_sl ([.ref x, .int (nI ys), .int (nI q0), .int (nI cq)])).length) Slot.unset).toArray = ls at hl ⊢
  have hl : lv_has ls 5 [(0, .ref x), (1, .int (nI ys)), (2, .int (nI q0)), (3, .int (nI cq))] := hl
  refine lv_iload_n hx hb dX6_times_0 rfl (lv_at hl 1 rfl) ?_
  refine lv_iconst (v := 1) hx hb dX6_times_1 (by decide) ?_
  refine lv_icmp_lt (tgt := 24) hx hb dX6_times_2 (by decide) (fun c_1 => ?_) (fun c_1 => ?_)
  · skip
    replace c_1 : ys < 1 := (nI_ltI (a := ys) (b := 1) (by omega) (by omega)).mp c_1
    exact absurd c_1 (by omega)
  · skip
    replace c_1 : ¬ ys < 1 := fun h => c_1 ((nI_ltI (a := ys) (b := 1) (by omega) (by omega)).mpr h)
    refine lv_iload_n hx hb dX6_times_5 rfl (lv_at hl 1 rfl) ?_
    refine lv_bipush (v := 60) hx hb dX6_times_6 (by decide) ?_
    refine lv_icmp_gt (tgt := 24) hx hb dX6_times_8 (by decide) (fun c_2 => ?_) (fun c_2 => ?_)
    · skip
      replace c_2 : 60 < ys := (nI_ltI (a := 60) (b := ys) (by omega) (by omega)).mp c_2
      exact absurd c_2 (by omega)
    · skip
      replace c_2 : ¬ 60 < ys := fun h => c_2 ((nI_ltI (a := 60) (b := ys) (by omega) (by omega)).mpr h)
      refine lv_iload_n hx hb dX6_times_11 rfl (lv_at hl 2 rfl) ?_
      refine lv_if_lt (tgt := 24) hx hb dX6_times_12 (by decide) (fun c_3 => ?_) (fun c_3 => ?_)
      · skip
        replace c_3 : q0 < 0 := (nI_ltI (a := q0) (b := 0) (by omega) (by omega)).mp c_3
        exact absurd c_3 (by omega)
      · skip
        replace c_3 : ¬ q0 < 0 := fun h => c_3 ((nI_ltI (a := q0) (b := 0) (by omega) (by omega)).mpr h)
        refine lv_iload_n hx hb dX6_times_15 rfl (lv_at hl 3 rfl) ?_
        refine lv_if_lt (tgt := 24) hx hb dX6_times_16 (by decide) (fun c_4 => ?_) (fun c_4 => ?_)
        · skip
          replace c_4 : cq < 0 := (nI_ltI (a := cq) (b := 0) (by omega) (by omega)).mp c_4
          exact absurd c_4 (by omega)
        · skip
          replace c_4 : ¬ cq < 0 := fun h => c_4 ((nI_ltI (a := cq) (b := 0) (by omega) (by omega)).mpr h)
          refine lv_iload_n hx hb dX6_times_19 rfl (lv_at hl 3 rfl) ?_
          refine lv_iconst (v := 2) hx hb dX6_times_20 (by decide) ?_
          refine lv_icmp_le (tgt := 27) hx hb dX6_times_21 (by decide) (fun c_5 => ?_) (fun c_5 => ?_)
          · skip
            replace c_5 : cq ≤ 2 := (nI_leI (a := cq) (b := 2) (by omega) (by omega)).mp c_5
            refine lv_aload_n hx hb dX6_times_27 rfl (lv_at hl 0 rfl) ?_
            have hPc_6 := hPr.sub (ws' := [(x, .inr (6, [a0, a1, a2, .int (nI n), a4, a5, a6, a7, a8, a9, a10, a11]))]) [0] rfl
            refine jcalli (va_runV (As := []) (rest := []) ⟨hx, hb, hml, hown, hts⟩ (c_hasNoLarder_y l D cI cJ x n a0 a1 a2 a4 a5 a6 a7 a8 a9 a10 a11 hn0 s.heap.size) (cwV 0 hts gX6_times_X6_hasNoLarder rfl rfl rfl (by decide +kernel) ⟨Nat.le_of_ble_eq_true rfl, Nat.le_of_ble_eq_true rfl⟩) (jpreV hT (va_recv hK hPr (ci := 6) (q0 := 0) rfl rfl) hPc_6) rfl rfl hl.1 rfl (lv_room (Nat.le_of_ble_eq_true rfl)) dX6_times_28 ⟨(Nat.zero_le _), (Nat.zero_le _)⟩) hS hA (fun r_7 H locs hw_r_7 hkq hS => ?_)
            try dsimp only at hw_r_7
            have hPr := jkeep hPr hkq
            subst hw_r_7
            refine lv_if_eq (tgt := 37) hx hb dX6_times_31 (by decide) (fun c_8 => ?_) (fun c_8 => ?_)
            · skip
              exact absurd c_8 (by decide)
            · skip
              refine lv_bipush (v := (-103)) hx hb dX6_times_34 (by decide) ?_
              exact W.iret (v := (-103)) hx hb hr (fun t ht hW => ⟨⟨(-103), (), rfl, rfl, trivial⟩, hS.F ht⟩) hS.2.2 dX6_times_36
          · skip
            replace c_5 : ¬ cq ≤ 2 := fun h => c_5 ((nI_leI (a := cq) (b := 2) (by omega) (by omega)).mpr h)
            exact absurd c_5 (by omega)

set_option maxHeartbeats 4000000 in
set_option maxRecDepth 100000 in
theorem c_times_ok (l : Launch) (D : va_G) (cI cJ : ClassId) (x : Nat) (xj : Nat) (xn : Nat) (ns : Nat) (ne : Nat) (n7 : Nat) (n8 : Nat) (xw : Nat) (w5 : Nat) (w6 : Nat) (w7 : Nat) (w8 : Nat) (n : Nat) (a0 : Value) (a1 : Value) (a5 : Value) (a7 : Value) (a8 : Value) (a9 : Value) (a10 : Value) (a11 : Value) (jr : Nat → Option Nat) (jk : Nat → Nat) (jg : Nat → Int32) (js : Nat → Int32) (jm : Nat → Int32) (fw : Nat → Int32 → Int32) (y : Int32) (ea : Int32) (lo : Int32) (jo : Int32) (ta : Int32) (sp : Nat → Int32) (en : Nat → Int32) (tY : Nat → Int32) (tW : Nat → Int32) (uy : Int32) (uea : Int32) (ulo : Int32) (ujo : Int32) (uta : Int32) (usp : Nat → Int32) (uen : Nat → Int32) (utY : Nat → Int32) (utW : Nat → Int32) (ys : Nat) (q0 : Nat) (cq : Nat) (hn0 : 0 < n) (hn6 : n ≤ 6) (hfw : ∀ i : Nat, i < n → ∀ z : Int32, cfw (jk i) (jg i) (jm i) z = fw i z) (hap : ∀ i a : Nat, i < n → jr i = some a → a ∉ [x, xj, xn, ns, ne, n7, n8, xw, w5, w6, w7, w8]) (hy1 : 1 ≤ ys) (hys : ys ≤ 60) (hq0 : q0 < 2147483648) (hc : cq < 3) : jWi l yX6_times wsX6_times ({ frames := 4, cells := 0, slots := 0, locals := 92 }) 0 0 [.ref x, .int (nI ys), .int (nI q0), .int (nI cq)] D cI cJ [(x, .inr (6, [a0, a1, .ref xj, .int (nI n), .ref xn, a5, .ref xw, a7, a8, a9, a10, a11])), (xj, .inl (cJ, 6, .inr (.inr (.inr (.inr jr))))), (xn, .inr (1, [.int y, .int ea, .int lo, .int jo, .int ta, .ref ns, .ref ne, .ref n7, .ref n8])), (ns, .inl (cI, 6, .inl sp)), (ne, .inl (cI, 6, .inl en)), (n7, .inl (cI, 6, .inl tY)), (n8, .inl (cI, 6, .inl tW)), (xw, .inr (1, [.int uy, .int uea, .int ulo, .int ujo, .int uta, .ref w5, .ref w6, .ref w7, .ref w8])), (w5, .inl (cI, 6, .inl usp)), (w6, .inl (cI, 6, .inl uen)), (w7, .inl (cI, 6, .inl utY)), (w8, .inl (cI, 6, .inl utW))] (fun H => jJ D n jr jk jg js jm H) (fun r H => ∃ (we wl wj : Int32) (us ue : Nat → Int32) (q : Nat), cts fw n y (jfl sp usp 6, jfl en uen 6, jo, q0) ys = (us, ue, wj, q) ∧ r = jtm (jsum us 6) (wj + 2000) (nI q) cq ∧ va_P D vwCl [(x, .inr (6, [a0, a1, .ref xj, .int (nI n), .ref xn, a5, .ref xw, a7, a8, a9, a10, a11])), (xj, .inl (cJ, 6, .inr (.inr (.inr (.inr jr))))), (xn, .inr (1, [.int y, .int ea, .int lo, .int jo, .int ta, .ref ns, .ref ne, .ref n7, .ref n8])), (ns, .inl (cI, 6, .inl sp)), (ne, .inl (cI, 6, .inl en)), (n7, .inl (cI, 6, .inl tY)), (n8, .inl (cI, 6, .inl tW)), (xw, .inr (1, [.int (y + nI ys), .int we, .int wl, .int wj, .int ta, .ref w5, .ref w6, .ref w7, .ref w8])), (w5, .inl (cI, 6, .inl us)), (w6, .inl (cI, 6, .inl ue)), (w7, .inl (cI, 6, .inl (jfl tY utY 6))), (w8, .inl (cI, 6, .inl (jfl tW utW 6)))] H) := by
  intro sz
  refine Met.ofW (cc := cX6_times) (maxL := 5) (ret := (some .int)) (by decide) rfl ?_
  intro p e s m args below meth c s₁ B hml hv
  obtain ⟨rfl, hsz, hT, hP, hD0, hJ⟩ := hv
  have hK := hT.1
  have hx := B.exec
  have hb := B.bytes
  have hr := B.returns
  have hts := atoms_spec (ws := wsX6_times) B.pre
  have hown : s.vm.findClass RX6 = some m.cls := findClass_of_methodNamed B.named
  have hlocks := B.notSynchronized
  subst hsz
  have hD := hD0.self (sz := s.heap.size)
  generalize hAe : va_A [(x, .inr (6, [a0, a1, .ref xj, .int (nI n), .ref xn, a5, .ref xw, a7, a8, a9, a10, a11])), (xj, .inl (cJ, 6, .inr (.inr (.inr (.inr jr))))), (xn, .inr (1, [.int y, .int ea, .int lo, .int jo, .int ta, .ref ns, .ref ne, .ref n7, .ref n8])), (ns, .inl (cI, 6, .inl sp)), (ne, .inl (cI, 6, .inl en)), (n7, .inl (cI, 6, .inl tY)), (n8, .inl (cI, 6, .inl tW)), (xw, .inr (1, [.int uy, .int uea, .int ulo, .int ujo, .int uta, .ref w5, .ref w6, .ref w7, .ref w8])), (w5, .inl (cI, 6, .inl usp)), (w6, .inl (cI, 6, .inl uen)), (w7, .inl (cI, 6, .inl utY)), (w8, .inl (cI, 6, .inl utW))] s.heap.size = A at hD ⊢
  have hA : ∀ q : Nat, s.heap.size ≤ q → A q := fun q h => by rw [← hAe]; exact Or.inr h
  have hS : va_S A s.heap s.heap [] := va_S.rf
  have hl := lv_entry ([.ref x, .int (nI ys), .int (nI q0), .int (nI cq)] : List Value) (n := 5) (Nat.le_of_ble_eq_true rfl)
  rw [lg_entry_eq]
  generalize (lg_sl ([.ref x, .int (nI ys), .int (nI q0), .int (nI cq)]) ++ List.replicate (5 - (lg_sl ([.ref x, .int (nI ys), .int (nI q0), .int (nI cq)])).length) Slot.unset).toArray = ls at hl ⊢
  have hl : lv_has ls 5 [(0, .ref x), (1, .int (nI ys)), (2, .int (nI q0)), (3, .int (nI cq))] := hl
  rcases (show cq = 0 ∨ cq = 1 ∨ cq = 2 from by omega) with rfl | rfl | rfl
  · skip
    have hl : lv_has ls 5 [(0, .ref x), (1, .int (nI ys)), (2, .int (nI q0)), (3, .int 0)] := hl
    refine lv_iload_n hx hb dX6_times_0 rfl (lv_at hl 1 rfl) ?_
    refine lv_iconst (v := 1) hx hb dX6_times_1 (by decide) ?_
    refine lv_icmp_lt (tgt := 24) hx hb dX6_times_2 (by decide) (fun c_1 => ?_) (fun c_1 => ?_)
    · skip
      replace c_1 : ys < 1 := (nI_ltI (a := ys) (b := 1) (by omega) (by omega)).mp c_1
      exact absurd c_1 (by omega)
    · skip
      replace c_1 : ¬ ys < 1 := fun h => c_1 ((nI_ltI (a := ys) (b := 1) (by omega) (by omega)).mpr h)
      refine lv_iload_n hx hb dX6_times_5 rfl (lv_at hl 1 rfl) ?_
      refine lv_bipush (v := 60) hx hb dX6_times_6 (by decide) ?_
      refine lv_icmp_gt (tgt := 24) hx hb dX6_times_8 (by decide) (fun c_2 => ?_) (fun c_2 => ?_)
      · skip
        replace c_2 : 60 < ys := (nI_ltI (a := 60) (b := ys) (by omega) (by omega)).mp c_2
        exact absurd c_2 (by omega)
      · skip
        replace c_2 : ¬ 60 < ys := fun h => c_2 ((nI_ltI (a := 60) (b := ys) (by omega) (by omega)).mpr h)
        refine lv_iload_n hx hb dX6_times_11 rfl (lv_at hl 2 rfl) ?_
        refine lv_if_lt (tgt := 24) hx hb dX6_times_12 (by decide) (fun c_3 => ?_) (fun c_3 => ?_)
        · skip
          replace c_3 : q0 < 0 := (nI_ltI (a := q0) (b := 0) (by omega) (by omega)).mp c_3
          exact absurd c_3 (by omega)
        · skip
          replace c_3 : ¬ q0 < 0 := fun h => c_3 ((nI_ltI (a := q0) (b := 0) (by omega) (by omega)).mpr h)
          refine lv_iload_n hx hb dX6_times_15 rfl (lv_at hl 3 rfl) ?_
          refine lv_if_lt (tgt := 24) hx hb dX6_times_16 (by decide) (fun c_4 => ?_) (fun c_4 => ?_)
          · skip
            exact absurd c_4 (by decide)
          · skip
            refine lv_iload_n hx hb dX6_times_19 rfl (lv_at hl 3 rfl) ?_
            refine lv_iconst (v := 2) hx hb dX6_times_20 (by decide) ?_
            refine lv_icmp_le (tgt := 27) hx hb dX6_times_21 (by decide) (fun c_5 => ?_) (fun c_5 => ?_)
            · skip
              refine lv_aload_n hx hb dX6_times_27 rfl (lv_at hl 0 rfl) ?_
              have hPc_6 := hP.sub (ws' := [(x, .inr (6, [a0, a1, .ref xj, .int (nI n), .ref xn, a5, .ref xw, a7, a8, a9, a10, a11]))]) [0] rfl
              refine jcalli (va_runV (As := []) (rest := []) ⟨hx, hb, hml, hown, hts⟩ (c_hasNoLarder_n l D cI cJ x n a0 a1 (.ref xj) (.ref xn) a5 (.ref xw) a7 a8 a9 a10 a11 hn0 hn6 s.heap.size) (cwV 0 hts gX6_times_X6_hasNoLarder rfl rfl rfl (by decide +kernel) ⟨Nat.le_of_ble_eq_true rfl, Nat.le_of_ble_eq_true rfl⟩) (jpreV hT (va_recv hK hP (ci := 6) (q0 := 0) rfl rfl) hPc_6) rfl rfl hl.1 rfl (lv_room (Nat.le_of_ble_eq_true rfl)) dX6_times_28 ⟨(Nat.zero_le _), (Nat.zero_le _)⟩) hS hA (fun r_7 H locs hw_r_7 hkq hS => ?_)
              try dsimp only at hw_r_7
              have hP := jkeep hP hkq
              have hJ := hJ.kept hkq
              subst hw_r_7
              refine lv_if_eq (tgt := 37) hx hb dX6_times_31 (by decide) (fun c_8 => ?_) (fun c_8 => ?_)
              · skip
                refine lv_aload_n hx hb dX6_times_37 rfl (lv_at hl 0 rfl) ?_
                refine lv_iload_n hx hb dX6_times_38 rfl (lv_at hl 1 rfl) ?_
                refine lv_iload_n hx hb dX6_times_39 rfl (lv_at hl 2 rfl) ?_
                have hPc_9 := hP.sub (ws' := [(x, .inr (6, [a0, a1, .ref xj, .int (nI n), .ref xn, a5, .ref xw, a7, a8, a9, a10, a11])), (xj, .inl (cJ, 6, .inr (.inr (.inr (.inr jr))))), (xn, .inr (1, [.int y, .int ea, .int lo, .int jo, .int ta, .ref ns, .ref ne, .ref n7, .ref n8])), (ns, .inl (cI, 6, .inl sp)), (ne, .inl (cI, 6, .inl en)), (n7, .inl (cI, 6, .inl tY)), (n8, .inl (cI, 6, .inl tW)), (xw, .inr (1, [.int uy, .int uea, .int ulo, .int ujo, .int uta, .ref w5, .ref w6, .ref w7, .ref w8])), (w5, .inl (cI, 6, .inl usp)), (w6, .inl (cI, 6, .inl uen)), (w7, .inl (cI, 6, .inl utY)), (w8, .inl (cI, 6, .inl utW))]) [0, 1, 2, 3, 4, 5, 6, 7, 8, 9, 10, 11] rfl
                have hDc_10 := hD.sub (ws' := [(x, .inr (6, [a0, a1, .ref xj, .int (nI n), .ref xn, a5, .ref xw, a7, a8, a9, a10, a11])), (xj, .inl (cJ, 6, .inr (.inr (.inr (.inr jr))))), (xn, .inr (1, [.int y, .int ea, .int lo, .int jo, .int ta, .ref ns, .ref ne, .ref n7, .ref n8])), (ns, .inl (cI, 6, .inl sp)), (ne, .inl (cI, 6, .inl en)), (n7, .inl (cI, 6, .inl tY)), (n8, .inl (cI, 6, .inl tW)), (xw, .inr (1, [.int uy, .int uea, .int ulo, .int ujo, .int uta, .ref w5, .ref w6, .ref w7, .ref w8])), (w5, .inl (cI, 6, .inl usp)), (w6, .inl (cI, 6, .inl uen)), (w7, .inl (cI, 6, .inl utY)), (w8, .inl (cI, 6, .inl utW))]) [0, 1, 2, 3, 4, 5, 6, 7, 8, 9, 10, 11] (by decide) rfl
                have hFc_11 := va_free (wc := [(x, .inr (6, [a0, a1, .ref xj, .int (nI n), .ref xn, a5, .ref xw, a7, a8, a9, a10, a11])), (xj, .inl (cJ, 6, .inr (.inr (.inr (.inr jr))))), (xn, .inr (1, [.int y, .int ea, .int lo, .int jo, .int ta, .ref ns, .ref ne, .ref n7, .ref n8])), (ns, .inl (cI, 6, .inl sp)), (ne, .inl (cI, 6, .inl en)), (n7, .inl (cI, 6, .inl tY)), (n8, .inl (cI, 6, .inl tW)), (xw, .inr (1, [.int uy, .int uea, .int ulo, .int ujo, .int uta, .ref w5, .ref w6, .ref w7, .ref w8])), (w5, .inl (cI, 6, .inl usp)), (w6, .inl (cI, 6, .inl uen)), (w7, .inl (cI, 6, .inl utY)), (w8, .inl (cI, 6, .inl utW))]) hD hS hA [0, 1, 2, 3, 4, 5, 6, 7, 8, 9, 10, 11] rfl
                refine jcallWi (post := fun r H => ∃ (we wl wj : Int32) (us ue : Nat → Int32) (q : Nat), cts fw n y (jfl sp usp 6, jfl en uen 6, jo, q0) ys = (us, ue, wj, q) ∧ q < 2147483648 ∧ r = nI q ∧ va_P D vwCl [(x, .inr (6, [a0, a1, .ref xj, .int (nI n), .ref xn, a5, .ref xw, a7, a8, a9, a10, a11])), (xj, .inl (cJ, 6, .inr (.inr (.inr (.inr jr))))), (xn, .inr (1, [.int y, .int ea, .int lo, .int jo, .int ta, .ref ns, .ref ne, .ref n7, .ref n8])), (ns, .inl (cI, 6, .inl sp)), (ne, .inl (cI, 6, .inl en)), (n7, .inl (cI, 6, .inl tY)), (n8, .inl (cI, 6, .inl tW)), (xw, .inr (1, [.int (y + nI ys), .int we, .int wl, .int wj, .int ta, .ref w5, .ref w6, .ref w7, .ref w8])), (w5, .inl (cI, 6, .inl us)), (w6, .inl (cI, 6, .inl ue)), (w7, .inl (cI, 6, .inl (jfl tY utY 6))), (w8, .inl (cI, 6, .inl (jfl tW utW 6)))] H) (va_runV (As := [.int (nI ys), .int (nI q0)]) (rest := []) ⟨hx, hb, hml, hown, hts⟩ (c_liveOn l D cI cJ x xj xn ns ne n7 n8 xw w5 w6 w7 w8 n a0 a1 a5 a7 a8 a9 a10 a11 jr jk jg js jm fw y ea lo jo ta sp en tY tW uy uea ulo ujo uta usp uen utY utW ys q0 hn0 hn6 hfw hap hys hq0 H.size) (cwV 2 hts gX6_times_X6_liveOn rfl rfl rfl (by decide +kernel) ⟨Nat.le_of_ble_eq_true rfl, Nat.le_of_ble_eq_true rfl⟩) (jpreV hT (va_recv hK hP (ci := 6) (q0 := 0) rfl rfl) ⟨hPc_9, hDc_10.weaken (fun _ _ _ _ => trivial), hJ⟩) rfl rfl hl.1 rfl (lv_room (Nat.le_of_ble_eq_true rfl)) dX6_times_40 ⟨(Nat.zero_le _), (Nat.zero_le _)⟩) hS hFc_11 (fun r_12 H locs hw_r_12 hz hkq hS => ?_)
                obtain ⟨we, wl, wj, us, ue, q, hst, hq9, hr9, hP1⟩ := hw_r_12
                obtain ⟨hP, hD⟩ := jjoin (wc := [(x, .inr (6, [a0, a1, .ref xj, .int (nI n), .ref xn, a5, .ref xw, a7, a8, a9, a10, a11])), (xj, .inl (cJ, 6, .inr (.inr (.inr (.inr jr))))), (xn, .inr (1, [.int y, .int ea, .int lo, .int jo, .int ta, .ref ns, .ref ne, .ref n7, .ref n8])), (ns, .inl (cI, 6, .inl sp)), (ne, .inl (cI, 6, .inl en)), (n7, .inl (cI, 6, .inl tY)), (n8, .inl (cI, 6, .inl tW)), (xw, .inr (1, [.int uy, .int uea, .int ulo, .int ujo, .int uta, .ref w5, .ref w6, .ref w7, .ref w8])), (w5, .inl (cI, 6, .inl usp)), (w6, .inl (cI, 6, .inl uen)), (w7, .inl (cI, 6, .inl utY)), (w8, .inl (cI, 6, .inl utW))]) (wr := []) (w1 := [(x, .inr (6, [a0, a1, .ref xj, .int (nI n), .ref xn, a5, .ref xw, a7, a8, a9, a10, a11])), (xj, .inl (cJ, 6, .inr (.inr (.inr (.inr jr))))), (xn, .inr (1, [.int y, .int ea, .int lo, .int jo, .int ta, .ref ns, .ref ne, .ref n7, .ref n8])), (ns, .inl (cI, 6, .inl sp)), (ne, .inl (cI, 6, .inl en)), (n7, .inl (cI, 6, .inl tY)), (n8, .inl (cI, 6, .inl tW)), (xw, .inr (1, [.int (y + nI ys), .int we, .int wl, .int wj, .int ta, .ref w5, .ref w6, .ref w7, .ref w8])), (w5, .inl (cI, 6, .inl us)), (w6, .inl (cI, 6, .inl ue)), (w7, .inl (cI, 6, .inl (jfl tY utY 6))), (w8, .inl (cI, 6, .inl (jfl tW utW 6)))]) (ws' := [(x, .inr (6, [a0, a1, .ref xj, .int (nI n), .ref xn, a5, .ref xw, a7, a8, a9, a10, a11])), (xj, .inl (cJ, 6, .inr (.inr (.inr (.inr jr))))), (xn, .inr (1, [.int y, .int ea, .int lo, .int jo, .int ta, .ref ns, .ref ne, .ref n7, .ref n8])), (ns, .inl (cI, 6, .inl sp)), (ne, .inl (cI, 6, .inl en)), (n7, .inl (cI, 6, .inl tY)), (n8, .inl (cI, 6, .inl tW)), (xw, .inr (1, [.int (y + nI ys), .int we, .int wl, .int wj, .int ta, .ref w5, .ref w6, .ref w7, .ref w8])), (w5, .inl (cI, 6, .inl us)), (w6, .inl (cI, 6, .inl ue)), (w7, .inl (cI, 6, .inl (jfl tY utY 6))), (w8, .inl (cI, 6, .inl (jfl tW utW 6)))]) hP hD hFc_11 [0, 1, 2, 3, 4, 5, 6, 7, 8, 9, 10, 11] [] [0, 1, 2, 3, 4, 5, 6, 7, 8, 9, 10, 11] rfl rfl (by decide) (by decide) (by decide) (by decide) hkq hP1 rfl rfl rfl
                subst hr9
                refine lv_istore (lv' := [(4, .int (nI q)), (0, .ref x), (1, .int (nI ys)), (2, .int (nI q0)), (3, .int 0)]) hx hb dX6_times_43 hl (by decide) rfl (fun ls hl => ?_)
                refine lv_iload_n hx hb dX6_times_45 rfl (lv_at hl 4 rfl) ?_
                refine lv_lookup (off := 26) (tgt := 72) hx hb dX6_times_46 (by decide) (by decide) (by decide) ?_
                refine lv_aload_n hx hb dX6_times_72 rfl (lv_at hl 1 rfl) ?_
                refine va_get (D := D) (ci := 6) (v := .ref xw) (C := RX6) (T := TX6) (N := 12) hx hb hts (fun w h => List.mem_cons_of_mem _ (List.mem_append_left _ (List.mem_append_left _ (List.mem_append_left _ (List.mem_append_left _ (List.mem_append_left _ (List.mem_append_left _ (List.mem_append_right _ h)))))))) hown hK hP 0 rfl rfl 6 (by decide) (hts (Cond.fieldLink RX6 36 "JamDays" "would" "LJamDays$Days;") (List.mem_of_getElem? (i := 1) rfl)) (fun _ h9 => h9) rfl dX6_times_73 ?_
                have hPc_13 := hP.sub (ws' := [(xw, .inr (1, [.int (y + nI ys), .int we, .int wl, .int wj, .int ta, .ref w5, .ref w6, .ref w7, .ref w8])), (w5, .inl (cI, 6, .inl us))]) [7, 8] rfl
                refine jcalli (va_runV (As := []) (rest := []) ⟨hx, hb, hml, hown, hts⟩ (c_spoonsOfAll l D cI cJ xw w5 (.int (y + nI ys)) (.int we) (.int wl) (.int wj) (.int ta) (.ref w6) (.ref w7) (.ref w8) us H.size) (cwV 0 hts gX6_times_X1_spoonsOfAll rfl rfl rfl (by decide +kernel) ⟨Nat.le_of_ble_eq_true rfl, Nat.le_of_ble_eq_true rfl⟩) (jpreV hT (va_recv hK hP (ci := 1) (q0 := 7) rfl rfl) hPc_13) rfl rfl hl.1 rfl (lv_room (Nat.le_of_ble_eq_true rfl)) dX6_times_76 ⟨(Nat.zero_le _), (Nat.zero_le _)⟩) hS hA (fun r_14 H locs hw_r_14 hkq hS => ?_)
                try dsimp only at hw_r_14
                have hP := jkeep hP hkq
                subst hw_r_14
                exact W.iret (v := jsum us 6) hx hb hr (fun t ht hW => ⟨⟨jsum us 6, jsum us 6, rfl, rfl, by dsimp only; rw [ht]; exact ⟨we, wl, wj, us, ue, q, hst, rfl, hP⟩⟩, hS.F ht⟩) hS.2.2 dX6_times_79
              · skip
                exact absurd c_8 (by decide)
            · skip
              exact absurd c_5 (by decide)
  · skip
    have hl : lv_has ls 5 [(0, .ref x), (1, .int (nI ys)), (2, .int (nI q0)), (3, .int 1)] := hl
    refine lv_iload_n hx hb dX6_times_0 rfl (lv_at hl 1 rfl) ?_
    refine lv_iconst (v := 1) hx hb dX6_times_1 (by decide) ?_
    refine lv_icmp_lt (tgt := 24) hx hb dX6_times_2 (by decide) (fun c_15 => ?_) (fun c_15 => ?_)
    · skip
      replace c_15 : ys < 1 := (nI_ltI (a := ys) (b := 1) (by omega) (by omega)).mp c_15
      exact absurd c_15 (by omega)
    · skip
      replace c_15 : ¬ ys < 1 := fun h => c_15 ((nI_ltI (a := ys) (b := 1) (by omega) (by omega)).mpr h)
      refine lv_iload_n hx hb dX6_times_5 rfl (lv_at hl 1 rfl) ?_
      refine lv_bipush (v := 60) hx hb dX6_times_6 (by decide) ?_
      refine lv_icmp_gt (tgt := 24) hx hb dX6_times_8 (by decide) (fun c_16 => ?_) (fun c_16 => ?_)
      · skip
        replace c_16 : 60 < ys := (nI_ltI (a := 60) (b := ys) (by omega) (by omega)).mp c_16
        exact absurd c_16 (by omega)
      · skip
        replace c_16 : ¬ 60 < ys := fun h => c_16 ((nI_ltI (a := 60) (b := ys) (by omega) (by omega)).mpr h)
        refine lv_iload_n hx hb dX6_times_11 rfl (lv_at hl 2 rfl) ?_
        refine lv_if_lt (tgt := 24) hx hb dX6_times_12 (by decide) (fun c_17 => ?_) (fun c_17 => ?_)
        · skip
          replace c_17 : q0 < 0 := (nI_ltI (a := q0) (b := 0) (by omega) (by omega)).mp c_17
          exact absurd c_17 (by omega)
        · skip
          replace c_17 : ¬ q0 < 0 := fun h => c_17 ((nI_ltI (a := q0) (b := 0) (by omega) (by omega)).mpr h)
          refine lv_iload_n hx hb dX6_times_15 rfl (lv_at hl 3 rfl) ?_
          refine lv_if_lt (tgt := 24) hx hb dX6_times_16 (by decide) (fun c_18 => ?_) (fun c_18 => ?_)
          · skip
            exact absurd c_18 (by decide)
          · skip
            refine lv_iload_n hx hb dX6_times_19 rfl (lv_at hl 3 rfl) ?_
            refine lv_iconst (v := 2) hx hb dX6_times_20 (by decide) ?_
            refine lv_icmp_le (tgt := 27) hx hb dX6_times_21 (by decide) (fun c_19 => ?_) (fun c_19 => ?_)
            · skip
              refine lv_aload_n hx hb dX6_times_27 rfl (lv_at hl 0 rfl) ?_
              have hPc_20 := hP.sub (ws' := [(x, .inr (6, [a0, a1, .ref xj, .int (nI n), .ref xn, a5, .ref xw, a7, a8, a9, a10, a11]))]) [0] rfl
              refine jcalli (va_runV (As := []) (rest := []) ⟨hx, hb, hml, hown, hts⟩ (c_hasNoLarder_n l D cI cJ x n a0 a1 (.ref xj) (.ref xn) a5 (.ref xw) a7 a8 a9 a10 a11 hn0 hn6 s.heap.size) (cwV 0 hts gX6_times_X6_hasNoLarder rfl rfl rfl (by decide +kernel) ⟨Nat.le_of_ble_eq_true rfl, Nat.le_of_ble_eq_true rfl⟩) (jpreV hT (va_recv hK hP (ci := 6) (q0 := 0) rfl rfl) hPc_20) rfl rfl hl.1 rfl (lv_room (Nat.le_of_ble_eq_true rfl)) dX6_times_28 ⟨(Nat.zero_le _), (Nat.zero_le _)⟩) hS hA (fun r_21 H locs hw_r_21 hkq hS => ?_)
              try dsimp only at hw_r_21
              have hP := jkeep hP hkq
              have hJ := hJ.kept hkq
              subst hw_r_21
              refine lv_if_eq (tgt := 37) hx hb dX6_times_31 (by decide) (fun c_22 => ?_) (fun c_22 => ?_)
              · skip
                refine lv_aload_n hx hb dX6_times_37 rfl (lv_at hl 0 rfl) ?_
                refine lv_iload_n hx hb dX6_times_38 rfl (lv_at hl 1 rfl) ?_
                refine lv_iload_n hx hb dX6_times_39 rfl (lv_at hl 2 rfl) ?_
                have hPc_23 := hP.sub (ws' := [(x, .inr (6, [a0, a1, .ref xj, .int (nI n), .ref xn, a5, .ref xw, a7, a8, a9, a10, a11])), (xj, .inl (cJ, 6, .inr (.inr (.inr (.inr jr))))), (xn, .inr (1, [.int y, .int ea, .int lo, .int jo, .int ta, .ref ns, .ref ne, .ref n7, .ref n8])), (ns, .inl (cI, 6, .inl sp)), (ne, .inl (cI, 6, .inl en)), (n7, .inl (cI, 6, .inl tY)), (n8, .inl (cI, 6, .inl tW)), (xw, .inr (1, [.int uy, .int uea, .int ulo, .int ujo, .int uta, .ref w5, .ref w6, .ref w7, .ref w8])), (w5, .inl (cI, 6, .inl usp)), (w6, .inl (cI, 6, .inl uen)), (w7, .inl (cI, 6, .inl utY)), (w8, .inl (cI, 6, .inl utW))]) [0, 1, 2, 3, 4, 5, 6, 7, 8, 9, 10, 11] rfl
                have hDc_24 := hD.sub (ws' := [(x, .inr (6, [a0, a1, .ref xj, .int (nI n), .ref xn, a5, .ref xw, a7, a8, a9, a10, a11])), (xj, .inl (cJ, 6, .inr (.inr (.inr (.inr jr))))), (xn, .inr (1, [.int y, .int ea, .int lo, .int jo, .int ta, .ref ns, .ref ne, .ref n7, .ref n8])), (ns, .inl (cI, 6, .inl sp)), (ne, .inl (cI, 6, .inl en)), (n7, .inl (cI, 6, .inl tY)), (n8, .inl (cI, 6, .inl tW)), (xw, .inr (1, [.int uy, .int uea, .int ulo, .int ujo, .int uta, .ref w5, .ref w6, .ref w7, .ref w8])), (w5, .inl (cI, 6, .inl usp)), (w6, .inl (cI, 6, .inl uen)), (w7, .inl (cI, 6, .inl utY)), (w8, .inl (cI, 6, .inl utW))]) [0, 1, 2, 3, 4, 5, 6, 7, 8, 9, 10, 11] (by decide) rfl
                have hFc_25 := va_free (wc := [(x, .inr (6, [a0, a1, .ref xj, .int (nI n), .ref xn, a5, .ref xw, a7, a8, a9, a10, a11])), (xj, .inl (cJ, 6, .inr (.inr (.inr (.inr jr))))), (xn, .inr (1, [.int y, .int ea, .int lo, .int jo, .int ta, .ref ns, .ref ne, .ref n7, .ref n8])), (ns, .inl (cI, 6, .inl sp)), (ne, .inl (cI, 6, .inl en)), (n7, .inl (cI, 6, .inl tY)), (n8, .inl (cI, 6, .inl tW)), (xw, .inr (1, [.int uy, .int uea, .int ulo, .int ujo, .int uta, .ref w5, .ref w6, .ref w7, .ref w8])), (w5, .inl (cI, 6, .inl usp)), (w6, .inl (cI, 6, .inl uen)), (w7, .inl (cI, 6, .inl utY)), (w8, .inl (cI, 6, .inl utW))]) hD hS hA [0, 1, 2, 3, 4, 5, 6, 7, 8, 9, 10, 11] rfl
                refine jcallWi (post := fun r H => ∃ (we wl wj : Int32) (us ue : Nat → Int32) (q : Nat), cts fw n y (jfl sp usp 6, jfl en uen 6, jo, q0) ys = (us, ue, wj, q) ∧ q < 2147483648 ∧ r = nI q ∧ va_P D vwCl [(x, .inr (6, [a0, a1, .ref xj, .int (nI n), .ref xn, a5, .ref xw, a7, a8, a9, a10, a11])), (xj, .inl (cJ, 6, .inr (.inr (.inr (.inr jr))))), (xn, .inr (1, [.int y, .int ea, .int lo, .int jo, .int ta, .ref ns, .ref ne, .ref n7, .ref n8])), (ns, .inl (cI, 6, .inl sp)), (ne, .inl (cI, 6, .inl en)), (n7, .inl (cI, 6, .inl tY)), (n8, .inl (cI, 6, .inl tW)), (xw, .inr (1, [.int (y + nI ys), .int we, .int wl, .int wj, .int ta, .ref w5, .ref w6, .ref w7, .ref w8])), (w5, .inl (cI, 6, .inl us)), (w6, .inl (cI, 6, .inl ue)), (w7, .inl (cI, 6, .inl (jfl tY utY 6))), (w8, .inl (cI, 6, .inl (jfl tW utW 6)))] H) (va_runV (As := [.int (nI ys), .int (nI q0)]) (rest := []) ⟨hx, hb, hml, hown, hts⟩ (c_liveOn l D cI cJ x xj xn ns ne n7 n8 xw w5 w6 w7 w8 n a0 a1 a5 a7 a8 a9 a10 a11 jr jk jg js jm fw y ea lo jo ta sp en tY tW uy uea ulo ujo uta usp uen utY utW ys q0 hn0 hn6 hfw hap hys hq0 H.size) (cwV 2 hts gX6_times_X6_liveOn rfl rfl rfl (by decide +kernel) ⟨Nat.le_of_ble_eq_true rfl, Nat.le_of_ble_eq_true rfl⟩) (jpreV hT (va_recv hK hP (ci := 6) (q0 := 0) rfl rfl) ⟨hPc_23, hDc_24.weaken (fun _ _ _ _ => trivial), hJ⟩) rfl rfl hl.1 rfl (lv_room (Nat.le_of_ble_eq_true rfl)) dX6_times_40 ⟨(Nat.zero_le _), (Nat.zero_le _)⟩) hS hFc_25 (fun r_26 H locs hw_r_26 hz hkq hS => ?_)
                obtain ⟨we, wl, wj, us, ue, q, hst, hq9, hr9, hP1⟩ := hw_r_26
                obtain ⟨hP, hD⟩ := jjoin (wc := [(x, .inr (6, [a0, a1, .ref xj, .int (nI n), .ref xn, a5, .ref xw, a7, a8, a9, a10, a11])), (xj, .inl (cJ, 6, .inr (.inr (.inr (.inr jr))))), (xn, .inr (1, [.int y, .int ea, .int lo, .int jo, .int ta, .ref ns, .ref ne, .ref n7, .ref n8])), (ns, .inl (cI, 6, .inl sp)), (ne, .inl (cI, 6, .inl en)), (n7, .inl (cI, 6, .inl tY)), (n8, .inl (cI, 6, .inl tW)), (xw, .inr (1, [.int uy, .int uea, .int ulo, .int ujo, .int uta, .ref w5, .ref w6, .ref w7, .ref w8])), (w5, .inl (cI, 6, .inl usp)), (w6, .inl (cI, 6, .inl uen)), (w7, .inl (cI, 6, .inl utY)), (w8, .inl (cI, 6, .inl utW))]) (wr := []) (w1 := [(x, .inr (6, [a0, a1, .ref xj, .int (nI n), .ref xn, a5, .ref xw, a7, a8, a9, a10, a11])), (xj, .inl (cJ, 6, .inr (.inr (.inr (.inr jr))))), (xn, .inr (1, [.int y, .int ea, .int lo, .int jo, .int ta, .ref ns, .ref ne, .ref n7, .ref n8])), (ns, .inl (cI, 6, .inl sp)), (ne, .inl (cI, 6, .inl en)), (n7, .inl (cI, 6, .inl tY)), (n8, .inl (cI, 6, .inl tW)), (xw, .inr (1, [.int (y + nI ys), .int we, .int wl, .int wj, .int ta, .ref w5, .ref w6, .ref w7, .ref w8])), (w5, .inl (cI, 6, .inl us)), (w6, .inl (cI, 6, .inl ue)), (w7, .inl (cI, 6, .inl (jfl tY utY 6))), (w8, .inl (cI, 6, .inl (jfl tW utW 6)))]) (ws' := [(x, .inr (6, [a0, a1, .ref xj, .int (nI n), .ref xn, a5, .ref xw, a7, a8, a9, a10, a11])), (xj, .inl (cJ, 6, .inr (.inr (.inr (.inr jr))))), (xn, .inr (1, [.int y, .int ea, .int lo, .int jo, .int ta, .ref ns, .ref ne, .ref n7, .ref n8])), (ns, .inl (cI, 6, .inl sp)), (ne, .inl (cI, 6, .inl en)), (n7, .inl (cI, 6, .inl tY)), (n8, .inl (cI, 6, .inl tW)), (xw, .inr (1, [.int (y + nI ys), .int we, .int wl, .int wj, .int ta, .ref w5, .ref w6, .ref w7, .ref w8])), (w5, .inl (cI, 6, .inl us)), (w6, .inl (cI, 6, .inl ue)), (w7, .inl (cI, 6, .inl (jfl tY utY 6))), (w8, .inl (cI, 6, .inl (jfl tW utW 6)))]) hP hD hFc_25 [0, 1, 2, 3, 4, 5, 6, 7, 8, 9, 10, 11] [] [0, 1, 2, 3, 4, 5, 6, 7, 8, 9, 10, 11] rfl rfl (by decide) (by decide) (by decide) (by decide) hkq hP1 rfl rfl rfl
                subst hr9
                refine lv_istore (lv' := [(4, .int (nI q)), (0, .ref x), (1, .int (nI ys)), (2, .int (nI q0)), (3, .int 1)]) hx hb dX6_times_43 hl (by decide) rfl (fun ls hl => ?_)
                refine lv_iload_n hx hb dX6_times_45 rfl (lv_at hl 4 rfl) ?_
                refine lv_lookup (off := 34) (tgt := 80) hx hb dX6_times_46 (by decide) (by decide) (by decide) ?_
                refine lv_aload_n hx hb dX6_times_80 rfl (lv_at hl 1 rfl) ?_
                refine va_get (D := D) (ci := 6) (v := .ref xw) (C := RX6) (T := TX6) (N := 12) hx hb hts (fun w h => List.mem_cons_of_mem _ (List.mem_append_left _ (List.mem_append_left _ (List.mem_append_left _ (List.mem_append_left _ (List.mem_append_left _ (List.mem_append_left _ (List.mem_append_right _ h)))))))) hown hK hP 0 rfl rfl 6 (by decide) (hts (Cond.fieldLink RX6 36 "JamDays" "would" "LJamDays$Days;") (List.mem_of_getElem? (i := 1) rfl)) (fun _ h9 => h9) rfl dX6_times_81 ?_
                refine va_get (D := D) (ci := 1) (v := .int wj) (C := RX1) (T := TX1) (N := 9) hx hb hts (fun w h => List.mem_cons_of_mem _ (List.mem_append_left _ (List.mem_append_left _ (List.mem_append_left _ (List.mem_append_left _ (List.mem_append_left _ (List.mem_append_right _ h))))))) hown hK hP 7 rfl rfl 3 (by decide) (hts (Cond.fieldLink RX6 158 "JamDays$Days" "joy" "I") (List.mem_of_getElem? (i := 2) rfl)) (fun _ h9 => h9) rfl dX6_times_84 ?_
                refine lv_sipush (v := 2000) hx hb dX6_times_87 (by decide) ?_
                refine lv_iadd hx hb dX6_times_90 ?_
                exact W.iret (v := wj + 2000) hx hb hr (fun t ht hW => ⟨⟨wj + 2000, wj + 2000, rfl, rfl, by dsimp only; rw [ht]; exact ⟨we, wl, wj, us, ue, q, hst, rfl, hP⟩⟩, hS.F ht⟩) hS.2.2 dX6_times_91
              · skip
                exact absurd c_22 (by decide)
            · skip
              exact absurd c_19 (by decide)
  · skip
    have hl : lv_has ls 5 [(0, .ref x), (1, .int (nI ys)), (2, .int (nI q0)), (3, .int 2)] := hl
    refine lv_iload_n hx hb dX6_times_0 rfl (lv_at hl 1 rfl) ?_
    refine lv_iconst (v := 1) hx hb dX6_times_1 (by decide) ?_
    refine lv_icmp_lt (tgt := 24) hx hb dX6_times_2 (by decide) (fun c_27 => ?_) (fun c_27 => ?_)
    · skip
      replace c_27 : ys < 1 := (nI_ltI (a := ys) (b := 1) (by omega) (by omega)).mp c_27
      exact absurd c_27 (by omega)
    · skip
      replace c_27 : ¬ ys < 1 := fun h => c_27 ((nI_ltI (a := ys) (b := 1) (by omega) (by omega)).mpr h)
      refine lv_iload_n hx hb dX6_times_5 rfl (lv_at hl 1 rfl) ?_
      refine lv_bipush (v := 60) hx hb dX6_times_6 (by decide) ?_
      refine lv_icmp_gt (tgt := 24) hx hb dX6_times_8 (by decide) (fun c_28 => ?_) (fun c_28 => ?_)
      · skip
        replace c_28 : 60 < ys := (nI_ltI (a := 60) (b := ys) (by omega) (by omega)).mp c_28
        exact absurd c_28 (by omega)
      · skip
        replace c_28 : ¬ 60 < ys := fun h => c_28 ((nI_ltI (a := 60) (b := ys) (by omega) (by omega)).mpr h)
        refine lv_iload_n hx hb dX6_times_11 rfl (lv_at hl 2 rfl) ?_
        refine lv_if_lt (tgt := 24) hx hb dX6_times_12 (by decide) (fun c_29 => ?_) (fun c_29 => ?_)
        · skip
          replace c_29 : q0 < 0 := (nI_ltI (a := q0) (b := 0) (by omega) (by omega)).mp c_29
          exact absurd c_29 (by omega)
        · skip
          replace c_29 : ¬ q0 < 0 := fun h => c_29 ((nI_ltI (a := q0) (b := 0) (by omega) (by omega)).mpr h)
          refine lv_iload_n hx hb dX6_times_15 rfl (lv_at hl 3 rfl) ?_
          refine lv_if_lt (tgt := 24) hx hb dX6_times_16 (by decide) (fun c_30 => ?_) (fun c_30 => ?_)
          · skip
            exact absurd c_30 (by decide)
          · skip
            refine lv_iload_n hx hb dX6_times_19 rfl (lv_at hl 3 rfl) ?_
            refine lv_iconst (v := 2) hx hb dX6_times_20 (by decide) ?_
            refine lv_icmp_le (tgt := 27) hx hb dX6_times_21 (by decide) (fun c_31 => ?_) (fun c_31 => ?_)
            · skip
              refine lv_aload_n hx hb dX6_times_27 rfl (lv_at hl 0 rfl) ?_
              have hPc_32 := hP.sub (ws' := [(x, .inr (6, [a0, a1, .ref xj, .int (nI n), .ref xn, a5, .ref xw, a7, a8, a9, a10, a11]))]) [0] rfl
              refine jcalli (va_runV (As := []) (rest := []) ⟨hx, hb, hml, hown, hts⟩ (c_hasNoLarder_n l D cI cJ x n a0 a1 (.ref xj) (.ref xn) a5 (.ref xw) a7 a8 a9 a10 a11 hn0 hn6 s.heap.size) (cwV 0 hts gX6_times_X6_hasNoLarder rfl rfl rfl (by decide +kernel) ⟨Nat.le_of_ble_eq_true rfl, Nat.le_of_ble_eq_true rfl⟩) (jpreV hT (va_recv hK hP (ci := 6) (q0 := 0) rfl rfl) hPc_32) rfl rfl hl.1 rfl (lv_room (Nat.le_of_ble_eq_true rfl)) dX6_times_28 ⟨(Nat.zero_le _), (Nat.zero_le _)⟩) hS hA (fun r_33 H locs hw_r_33 hkq hS => ?_)
              try dsimp only at hw_r_33
              have hP := jkeep hP hkq
              have hJ := hJ.kept hkq
              subst hw_r_33
              refine lv_if_eq (tgt := 37) hx hb dX6_times_31 (by decide) (fun c_34 => ?_) (fun c_34 => ?_)
              · skip
                refine lv_aload_n hx hb dX6_times_37 rfl (lv_at hl 0 rfl) ?_
                refine lv_iload_n hx hb dX6_times_38 rfl (lv_at hl 1 rfl) ?_
                refine lv_iload_n hx hb dX6_times_39 rfl (lv_at hl 2 rfl) ?_
                have hPc_35 := hP.sub (ws' := [(x, .inr (6, [a0, a1, .ref xj, .int (nI n), .ref xn, a5, .ref xw, a7, a8, a9, a10, a11])), (xj, .inl (cJ, 6, .inr (.inr (.inr (.inr jr))))), (xn, .inr (1, [.int y, .int ea, .int lo, .int jo, .int ta, .ref ns, .ref ne, .ref n7, .ref n8])), (ns, .inl (cI, 6, .inl sp)), (ne, .inl (cI, 6, .inl en)), (n7, .inl (cI, 6, .inl tY)), (n8, .inl (cI, 6, .inl tW)), (xw, .inr (1, [.int uy, .int uea, .int ulo, .int ujo, .int uta, .ref w5, .ref w6, .ref w7, .ref w8])), (w5, .inl (cI, 6, .inl usp)), (w6, .inl (cI, 6, .inl uen)), (w7, .inl (cI, 6, .inl utY)), (w8, .inl (cI, 6, .inl utW))]) [0, 1, 2, 3, 4, 5, 6, 7, 8, 9, 10, 11] rfl
                have hDc_36 := hD.sub (ws' := [(x, .inr (6, [a0, a1, .ref xj, .int (nI n), .ref xn, a5, .ref xw, a7, a8, a9, a10, a11])), (xj, .inl (cJ, 6, .inr (.inr (.inr (.inr jr))))), (xn, .inr (1, [.int y, .int ea, .int lo, .int jo, .int ta, .ref ns, .ref ne, .ref n7, .ref n8])), (ns, .inl (cI, 6, .inl sp)), (ne, .inl (cI, 6, .inl en)), (n7, .inl (cI, 6, .inl tY)), (n8, .inl (cI, 6, .inl tW)), (xw, .inr (1, [.int uy, .int uea, .int ulo, .int ujo, .int uta, .ref w5, .ref w6, .ref w7, .ref w8])), (w5, .inl (cI, 6, .inl usp)), (w6, .inl (cI, 6, .inl uen)), (w7, .inl (cI, 6, .inl utY)), (w8, .inl (cI, 6, .inl utW))]) [0, 1, 2, 3, 4, 5, 6, 7, 8, 9, 10, 11] (by decide) rfl
                have hFc_37 := va_free (wc := [(x, .inr (6, [a0, a1, .ref xj, .int (nI n), .ref xn, a5, .ref xw, a7, a8, a9, a10, a11])), (xj, .inl (cJ, 6, .inr (.inr (.inr (.inr jr))))), (xn, .inr (1, [.int y, .int ea, .int lo, .int jo, .int ta, .ref ns, .ref ne, .ref n7, .ref n8])), (ns, .inl (cI, 6, .inl sp)), (ne, .inl (cI, 6, .inl en)), (n7, .inl (cI, 6, .inl tY)), (n8, .inl (cI, 6, .inl tW)), (xw, .inr (1, [.int uy, .int uea, .int ulo, .int ujo, .int uta, .ref w5, .ref w6, .ref w7, .ref w8])), (w5, .inl (cI, 6, .inl usp)), (w6, .inl (cI, 6, .inl uen)), (w7, .inl (cI, 6, .inl utY)), (w8, .inl (cI, 6, .inl utW))]) hD hS hA [0, 1, 2, 3, 4, 5, 6, 7, 8, 9, 10, 11] rfl
                refine jcallWi (post := fun r H => ∃ (we wl wj : Int32) (us ue : Nat → Int32) (q : Nat), cts fw n y (jfl sp usp 6, jfl en uen 6, jo, q0) ys = (us, ue, wj, q) ∧ q < 2147483648 ∧ r = nI q ∧ va_P D vwCl [(x, .inr (6, [a0, a1, .ref xj, .int (nI n), .ref xn, a5, .ref xw, a7, a8, a9, a10, a11])), (xj, .inl (cJ, 6, .inr (.inr (.inr (.inr jr))))), (xn, .inr (1, [.int y, .int ea, .int lo, .int jo, .int ta, .ref ns, .ref ne, .ref n7, .ref n8])), (ns, .inl (cI, 6, .inl sp)), (ne, .inl (cI, 6, .inl en)), (n7, .inl (cI, 6, .inl tY)), (n8, .inl (cI, 6, .inl tW)), (xw, .inr (1, [.int (y + nI ys), .int we, .int wl, .int wj, .int ta, .ref w5, .ref w6, .ref w7, .ref w8])), (w5, .inl (cI, 6, .inl us)), (w6, .inl (cI, 6, .inl ue)), (w7, .inl (cI, 6, .inl (jfl tY utY 6))), (w8, .inl (cI, 6, .inl (jfl tW utW 6)))] H) (va_runV (As := [.int (nI ys), .int (nI q0)]) (rest := []) ⟨hx, hb, hml, hown, hts⟩ (c_liveOn l D cI cJ x xj xn ns ne n7 n8 xw w5 w6 w7 w8 n a0 a1 a5 a7 a8 a9 a10 a11 jr jk jg js jm fw y ea lo jo ta sp en tY tW uy uea ulo ujo uta usp uen utY utW ys q0 hn0 hn6 hfw hap hys hq0 H.size) (cwV 2 hts gX6_times_X6_liveOn rfl rfl rfl (by decide +kernel) ⟨Nat.le_of_ble_eq_true rfl, Nat.le_of_ble_eq_true rfl⟩) (jpreV hT (va_recv hK hP (ci := 6) (q0 := 0) rfl rfl) ⟨hPc_35, hDc_36.weaken (fun _ _ _ _ => trivial), hJ⟩) rfl rfl hl.1 rfl (lv_room (Nat.le_of_ble_eq_true rfl)) dX6_times_40 ⟨(Nat.zero_le _), (Nat.zero_le _)⟩) hS hFc_37 (fun r_38 H locs hw_r_38 hz hkq hS => ?_)
                obtain ⟨we, wl, wj, us, ue, q, hst, hq9, hr9, hP1⟩ := hw_r_38
                obtain ⟨hP, hD⟩ := jjoin (wc := [(x, .inr (6, [a0, a1, .ref xj, .int (nI n), .ref xn, a5, .ref xw, a7, a8, a9, a10, a11])), (xj, .inl (cJ, 6, .inr (.inr (.inr (.inr jr))))), (xn, .inr (1, [.int y, .int ea, .int lo, .int jo, .int ta, .ref ns, .ref ne, .ref n7, .ref n8])), (ns, .inl (cI, 6, .inl sp)), (ne, .inl (cI, 6, .inl en)), (n7, .inl (cI, 6, .inl tY)), (n8, .inl (cI, 6, .inl tW)), (xw, .inr (1, [.int uy, .int uea, .int ulo, .int ujo, .int uta, .ref w5, .ref w6, .ref w7, .ref w8])), (w5, .inl (cI, 6, .inl usp)), (w6, .inl (cI, 6, .inl uen)), (w7, .inl (cI, 6, .inl utY)), (w8, .inl (cI, 6, .inl utW))]) (wr := []) (w1 := [(x, .inr (6, [a0, a1, .ref xj, .int (nI n), .ref xn, a5, .ref xw, a7, a8, a9, a10, a11])), (xj, .inl (cJ, 6, .inr (.inr (.inr (.inr jr))))), (xn, .inr (1, [.int y, .int ea, .int lo, .int jo, .int ta, .ref ns, .ref ne, .ref n7, .ref n8])), (ns, .inl (cI, 6, .inl sp)), (ne, .inl (cI, 6, .inl en)), (n7, .inl (cI, 6, .inl tY)), (n8, .inl (cI, 6, .inl tW)), (xw, .inr (1, [.int (y + nI ys), .int we, .int wl, .int wj, .int ta, .ref w5, .ref w6, .ref w7, .ref w8])), (w5, .inl (cI, 6, .inl us)), (w6, .inl (cI, 6, .inl ue)), (w7, .inl (cI, 6, .inl (jfl tY utY 6))), (w8, .inl (cI, 6, .inl (jfl tW utW 6)))]) (ws' := [(x, .inr (6, [a0, a1, .ref xj, .int (nI n), .ref xn, a5, .ref xw, a7, a8, a9, a10, a11])), (xj, .inl (cJ, 6, .inr (.inr (.inr (.inr jr))))), (xn, .inr (1, [.int y, .int ea, .int lo, .int jo, .int ta, .ref ns, .ref ne, .ref n7, .ref n8])), (ns, .inl (cI, 6, .inl sp)), (ne, .inl (cI, 6, .inl en)), (n7, .inl (cI, 6, .inl tY)), (n8, .inl (cI, 6, .inl tW)), (xw, .inr (1, [.int (y + nI ys), .int we, .int wl, .int wj, .int ta, .ref w5, .ref w6, .ref w7, .ref w8])), (w5, .inl (cI, 6, .inl us)), (w6, .inl (cI, 6, .inl ue)), (w7, .inl (cI, 6, .inl (jfl tY utY 6))), (w8, .inl (cI, 6, .inl (jfl tW utW 6)))]) hP hD hFc_37 [0, 1, 2, 3, 4, 5, 6, 7, 8, 9, 10, 11] [] [0, 1, 2, 3, 4, 5, 6, 7, 8, 9, 10, 11] rfl rfl (by decide) (by decide) (by decide) (by decide) hkq hP1 rfl rfl rfl
                subst hr9
                refine lv_istore (lv' := [(4, .int (nI q)), (0, .ref x), (1, .int (nI ys)), (2, .int (nI q0)), (3, .int 2)]) hx hb dX6_times_43 hl (by decide) rfl (fun ls hl => ?_)
                refine lv_iload_n hx hb dX6_times_45 rfl (lv_at hl 4 rfl) ?_
                refine lv_lookup (off := 46) (tgt := 92) hx hb dX6_times_46 (by decide) (by decide) (by decide) ?_
                refine lv_iload hx hb dX6_times_92 (lv_at hl 0 rfl) ?_
                exact W.iret (v := nI q) hx hb hr (fun t ht hW => ⟨⟨nI q, nI q, rfl, rfl, by dsimp only; rw [ht]; exact ⟨we, wl, wj, us, ue, q, hst, rfl, hP⟩⟩, hS.F ht⟩) hS.2.2 dX6_times_94
              · skip
                exact absurd c_34 (by decide)
            · skip
              exact absurd c_31 (by decide)

