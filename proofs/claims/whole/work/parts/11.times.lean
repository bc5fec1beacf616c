theorem jap {w : va_W} {sz a : Nat} (h1 : a < sz) (h2 : a ∉ w.map (·.1)) : ¬ va_A w sz a := by
  rintro (⟨k, e, h⟩ | h)
  · exact h2 (List.mem_map.mpr ⟨(a, e), List.mem_of_getElem? h, rfl⟩)
  · omega
theorem jJ.lt {D : va_G} {n : Nat} {jr : Nat → Option Nat} {jk : Nat → Nat} {jg js jm : Nat → Int32} {H : Heap} {i a : Nat} (h : jJ D n jr jk jg js jm H) (hi : i < n) (ha : jr i = some a) : a < H.size := by
  obtain ⟨-, b, h1, h2⟩ := h i hi
  rw [ha] at h1
  cases h1
  exact h2.lt
theorem jy0 {y : Int32} : y + nI 0 = y := by rw [nI_0]; exact Int32.add_zero y
theorem jy1 {y : Int32} {k : Nat} : y + nI (k + 1) = y + nI k + 1 := by rw [← nI_1, Int32.add_assoc]
def jtm (a b c : Int32) (cq : Nat) : Int32 := if cq = 0 then a else if cq = 1 then b else c
/-- a year of times, for JamDays: spoons, eaten this year, joy, seed -/
def cst (fw : Nat → Int32 → Int32) (n : Nat) (y : Int32) (u : (Nat → Int32) × (Nat → Int32) × Int32 × Nat) : (Nat → Int32) × (Nat → Int32) × Int32 × Nat :=
  ((if 0 < (if 0 < u.1 (jsd u.2.2.2 / 65536 % n) then upd u.1 (jsd u.2.2.2 / 65536 % n) (u.1 (jsd u.2.2.2 / 65536 % n) - 1) else u.1) (jsd (jsd u.2.2.2) / 65536 % n) then upd (if 0 < u.1 (jsd u.2.2.2 / 65536 % n) then upd u.1 (jsd u.2.2.2 / 65536 % n) (u.1 (jsd u.2.2.2 / 65536 % n) - 1) else u.1) (jsd (jsd u.2.2.2) / 65536 % n) ((if 0 < u.1 (jsd u.2.2.2 / 65536 % n) then upd u.1 (jsd u.2.2.2 / 65536 % n) (u.1 (jsd u.2.2.2 / 65536 % n) - 1) else u.1) (jsd (jsd u.2.2.2) / 65536 % n) - 1) else (if 0 < u.1 (jsd u.2.2.2 / 65536 % n) then upd u.1 (jsd u.2.2.2 / 65536 % n) (u.1 (jsd u.2.2.2 / 65536 % n) - 1) else u.1)),
   jfl (fun _ => 0) (if 0 < (if 0 < u.1 (jsd u.2.2.2 / 65536 % n) then upd u.1 (jsd u.2.2.2 / 65536 % n) (u.1 (jsd u.2.2.2 / 65536 % n) - 1) else u.1) (jsd (jsd u.2.2.2) / 65536 % n) then upd u.2.1 (jsd (jsd u.2.2.2) / 65536 % n) (u.2.1 (jsd (jsd u.2.2.2) / 65536 % n) + 1) else u.2.1) 6,
   (if 0 < (if 0 < u.1 (jsd u.2.2.2 / 65536 % n) then upd u.1 (jsd u.2.2.2 / 65536 % n) (u.1 (jsd u.2.2.2 / 65536 % n) - 1) else u.1) (jsd (jsd u.2.2.2) / 65536 % n) then u.2.2.1 + (fw (jsd (jsd u.2.2.2) / 65536 % n) y - u.2.1 (jsd (jsd u.2.2.2) / 65536 % n)) else u.2.2.1),
   jsd (jsd u.2.2.2))
def cts (fw : Nat → Int32 → Int32) (n : Nat) (y : Int32) (u : (Nat → Int32) × (Nat → Int32) × Int32 × Nat) : Nat → (Nat → Int32) × (Nat → Int32) × Int32 × Nat
  | 0 => u
  | k + 1 => cst fw n (y + nI k) (cts fw n y u k)
/-- a year of times, for the reference: rows, joy, seed -/
def mst (n : Nat) (y : Int32) (u : (Nat → Int32) × Int32 × Nat) : (Nat → Int32) × Int32 × Nat :=
  if 0 < (upd u.1 (5 * (jsd u.2.2 / 65536 % n) + 3) (u.1 (5 * (jsd u.2.2 / 65536 % n) + 3) - (if 0 < u.1 (5 * (jsd u.2.2 / 65536 % n) + 3) then 1 else 0))) (5 * (jsd (jsd u.2.2) / 65536 % n) + 3)
  then (mne (upd (upd (upd u.1 (5 * (jsd u.2.2 / 65536 % n) + 3) (u.1 (5 * (jsd u.2.2 / 65536 % n) + 3) - (if 0 < u.1 (5 * (jsd u.2.2 / 65536 % n) + 3) then 1 else 0))) (5 * (jsd (jsd u.2.2) / 65536 % n) + 3) ((upd u.1 (5 * (jsd u.2.2 / 65536 % n) + 3) (u.1 (5 * (jsd u.2.2 / 65536 % n) + 3) - (if 0 < u.1 (5 * (jsd u.2.2 / 65536 % n) + 3) then 1 else 0))) (5 * (jsd (jsd u.2.2) / 65536 % n) + 3) - 1)) (5 * (jsd (jsd u.2.2) / 65536 % n) + 4) ((upd u.1 (5 * (jsd u.2.2 / 65536 % n) + 3) (u.1 (5 * (jsd u.2.2 / 65536 % n) + 3) - (if 0 < u.1 (5 * (jsd u.2.2 / 65536 % n) + 3) then 1 else 0))) (5 * (jsd (jsd u.2.2) / 65536 % n) + 4) + 1)) n,
        u.2.1 + (mfi (upd u.1 (5 * (jsd u.2.2 / 65536 % n) + 3) (u.1 (5 * (jsd u.2.2 / 65536 % n) + 3) - (if 0 < u.1 (5 * (jsd u.2.2 / 65536 % n) + 3) then 1 else 0))) (jsd (jsd u.2.2) / 65536 % n) y - (upd u.1 (5 * (jsd u.2.2 / 65536 % n) + 3) (u.1 (5 * (jsd u.2.2 / 65536 % n) + 3) - (if 0 < u.1 (5 * (jsd u.2.2 / 65536 % n) + 3) then 1 else 0))) (5 * (jsd (jsd u.2.2) / 65536 % n) + 4)),
        jsd (jsd u.2.2))
  else (mne (upd u.1 (5 * (jsd u.2.2 / 65536 % n) + 3) (u.1 (5 * (jsd u.2.2 / 65536 % n) + 3) - (if 0 < u.1 (5 * (jsd u.2.2 / 65536 % n) + 3) then 1 else 0))) n, u.2.1, jsd (jsd u.2.2))
def mts (n : Nat) (y : Int32) (u : (Nat → Int32) × Int32 × Nat) : Nat → (Nat → Int32) × Int32 × Nat
  | 0 => u
  | k + 1 => mst n (y + nI k) (mts n y u k)
set_option maxHeartbeats 4000000 in
set_option maxRecDepth 100000 in
theorem c_draw (l : Launch) (D : va_G) (cI cJ : ClassId) (x : Nat) (n : Nat) (q : Nat) (a0 : Value) (a1 : Value) (a2 : Value) (a4 : Value) (a5 : Value) (a6 : Value) (a7 : Value) (a8 : Value) (a9 : Value) (a10 : Value) (a11 : Value) (hn0 : 0 < n) (hn6 : n ≤ 6) (hq : q < 2147483648) : jRi l yX6_draw wsX6_draw ({ frames := 0, cells := 0, slots := 0, locals := 0 }) [.ref x, .int (nI q)] D cI cJ (fun H => va_P D vwCl [(x, .inr (6, [a0, a1, a2, .int (nI n), a4, a5, a6, a7, a8, a9, a10, a11]))] H) (fun r => r = nI (q / 65536 % n)) := by
  intro sz
  refine Met.ofW (cc := cX6_draw) (maxL := 2) (ret := (some .int)) (by decide) rfl ?_
  intro p e s m args below meth c s₁ B hml hv
  obtain ⟨rfl, hsz, hT, hPr⟩ := hv
  have hK := hT.1
  have hx := B.exec
  have hb := B.bytes
  have hr := B.returns
  have hts := atoms_spec (ws := wsX6_draw) B.pre
  have hown : s.vm.findClass RX6 = some m.cls := findClass_of_methodNamed B.named
  have hlocks := B.notSynchronized
  subst hsz
  generalize hAe : va_A [] s.heap.size = A
  have hA : ∀ q : Nat, s.heap.size ≤ q → A q := fun q h => by rw [← hAe]; exact Or.inr h
  have hS : va_S A s.heap s.heap [] := va_S.rf
  have hl := lv_entry ([.ref x, .int (nI q)] : List Value) (n := 2) (Nat.le_of_ble_eq_true rfl)
  rw [lg_entry_eq]
  generalize (lg_sl ([.ref x, .int (nI q)]) ++ List.replicate (2 - (lg_sl ([.ref x, .int (nI q)])).length) Slot.unset).toArray = ls at hl ⊢
  have hl : lv_has ls 2 [(0, .ref x), (1, .int (nI q))] := hl
  refine lv_aload_n hx hb dX6_draw_0 rfl (lv_at hl 0 rfl) ?_
  refine va_get (D := D) (ci := 6) (v := .int (nI n)) (C := RX6) (T := TX6) (N := 12) hx hb hts (fun w h => List.mem_cons_of_mem _ (List.mem_append_right _ h)) hown hK hPr 0 rfl rfl 3 (by decide) (hts (Cond.fieldLink RX6 23 "JamDays" "jarCount" "I") (List.mem_of_getElem? (i := 1) rfl)) (fun _ h9 => h9) rfl dX6_draw_1 ?_
  refine lv_if_le (tgt := 23) hx hb dX6_draw_4 (by decide) (fun c_1 => ?_) (fun c_1 => ?_)
  · skip
    replace c_1 : n ≤ 0 := (nI_leI (a := n) (b := 0) (by omega) (by omega)).mp c_1
    exact absurd c_1 (by omega)
  · skip
    replace c_1 : ¬ n ≤ 0 := fun h => c_1 ((nI_leI (a := n) (b := 0) (by omega) (by omega)).mpr h)
    refine lv_iload_n hx hb dX6_draw_7 rfl (lv_at hl 1 rfl) ?_
    refine lv_i2l (v := (nI q).toInt64) hx hb dX6_draw_8 rfl ?_
    refine lv_ldc2 (v := 65536) hx hb hown (hts (Cond.constantLong RX6 273 (65536)) (List.mem_of_getElem? (i := 2) rfl)) dX6_draw_9 ?_
    refine lv_ldiv hx hb dX6_draw_12 (by decide) ?_
    refine lv_aload_n hx hb dX6_draw_13 rfl (lv_at hl 0 rfl) ?_
    refine va_get (D := D) (ci := 6) (v := .int (nI n)) (C := RX6) (T := TX6) (N := 12) hx hb hts (fun w h => List.mem_cons_of_mem _ (List.mem_append_right _ h)) hown hK hPr 0 rfl rfl 3 (by decide) (hts (Cond.fieldLink RX6 23 "JamDays" "jarCount" "I") (List.mem_of_getElem? (i := 1) rfl)) (fun _ h9 => h9) rfl dX6_draw_14 ?_
    refine lv_i2l (v := (nI n).toInt64) hx hb dX6_draw_17 rfl ?_
    refine lv_lrem hx hb dX6_draw_18 (jl_ne hn0 hn6) ?_
    refine lv_l2i (v := ((((nI q).toInt64) / 65536) - (((nI q).toInt64) / 65536) / ((nI n).toInt64) * ((nI n).toInt64)).toInt32) hx hb dX6_draw_19 rfl ?_
    refine jv_as (y := nI (q / 65536 % n)) (jdr_eq hq hn0 hn6) ?_
    refine lv_goto (tgt := 24) hx hb dX6_draw_20 (by decide) ?_
    exact W.iret (v := nI (q / 65536 % n)) hx hb hr (fun t ht hW => ⟨⟨nI (q / 65536 % n), (), rfl, rfl, trivial⟩, hS.F ht⟩) hS.2.2 dX6_draw_24

theorem c_nextSeed2 (l : Launch) (D : va_G) (cI cJ : ClassId) (q : Nat) (qn : Nat) (hq : q < 2147483648) (hqn : qn = jsd q) : jRi l yX6_nextSeed wsX6_nextSeed ({ frames := 0, cells := 0, slots := 0, locals := 0 }) [.int (nI q)] D cI cJ (fun H => True) (fun r => r = nI qn) := by
  rw [hqn]; exact c_nextSeed l D cI cJ q hq

theorem c_draw2 (l : Launch) (D : va_G) (cI cJ : ClassId) (x : Nat) (n : Nat) (q : Nat) (tt : Nat) (a0 : Value) (a1 : Value) (a2 : Value) (a4 : Value) (a5 : Value) (a6 : Value) (a7 : Value) (a8 : Value) (a9 : Value) (a10 : Value) (a11 : Value) (hn0 : 0 < n) (hn6 : n ≤ 6) (hq : q < 2147483648) (htt : tt = q / 65536 % n) : jRi l yX6_draw wsX6_draw ({ frames := 0, cells := 0, slots := 0, locals := 0 }) [.ref x, .int (nI q)] D cI cJ (fun H => va_P D vwCl [(x, .inr (6, [a0, a1, a2, .int (nI n), a4, a5, a6, a7, a8, a9, a10, a11]))] H) (fun r => r = nI tt) := by
  rw [htt]; exact c_draw l D cI cJ x n q a0 a1 a2 a4 a5 a6 a7 a8 a9 a10 a11 hn0 hn6 hq

theorem c_mdraw2 (l : Launch) (D : va_G) (cI cJ : ClassId) (z : Nat) (q : Nat) (of : Nat) (qn : Nat) (tt : Nat) (a0 : Value) (a1 : Value) (a2 : Value) (a3 : Value) (a4 : Value) (a5 : Value) (a6 : Value) (a7 : Value) (a8 : Value) (a9 : Value) (a10 : Value) (a11 : Value) (a12 : Value) (a13 : Value) (a15 : Value) (a16 : Value) (a17 : Value) (a18 : Value) (a19 : Value) (a20 : Value) (a21 : Value) (a22 : Value) (a23 : Value) (a24 : Value) (hq : q < 2147483648) (h0 : 0 < of) (h6 : of ≤ 6) (hqn : qn = jsd q) (htt : tt = qn / 65536 % of) : jWi l yX7_draw wsX7_draw ({ frames := 0, cells := 0, slots := 0, locals := 0 }) 0 0 [.ref z, .int (nI of)] D cI cJ [(z, .inr (7, [a0, a1, a2, a3, a4, a5, a6, a7, a8, a9, a10, a11, a12, a13, .int (nI q), a15, a16, a17, a18, a19, a20, a21, a22, a23, a24]))] (fun H => True) (fun r H => r = nI tt ∧ va_P D vwCl [(z, .inr (7, [a0, a1, a2, a3, a4, a5, a6, a7, a8, a9, a10, a11, a12, a13, .int (nI qn), a15, a16, a17, a18, a19, a20, a21, a22, a23, a24]))] H) := by
  rw [htt, hqn]; exact c_mdraw l D cI cJ z q of a0 a1 a2 a3 a4 a5 a6 a7 a8 a9 a10 a11 a12 a13 a15 a16 a17 a18 a19 a20 a21 a22 a23 a24 hq h0 h6

set_option maxHeartbeats 4000000 in
set_option maxRecDepth 100000 in
theorem c_liveOn (l : Launch) (D : va_G) (cI cJ : ClassId) (x : Nat) (xj : Nat) (xn : Nat) (ns : Nat) (ne : Nat) (n7 : Nat) (n8 : Nat) (xw : Nat) (w5 : Nat) (w6 : Nat) (w7 : Nat) (w8 : Nat) (n : Nat) (a0 : Value) (a1 : Value) (a5 : Value) (a7 : Value) (a8 : Value) (a9 : Value) (a10 : Value) (a11 : Value) (jr : Nat → Option Nat) (jk : Nat → Nat) (jg : Nat → Int32) (js : Nat → Int32) (jm : Nat → Int32) (fw : Nat → Int32 → Int32) (y : Int32) (ea : Int32) (lo : Int32) (jo : Int32) (ta : Int32) (sp : Nat → Int32) (en : Nat → Int32) (tY : Nat → Int32) (tW : Nat → Int32) (uy : Int32) (uea : Int32) (ulo : Int32) (ujo : Int32) (uta : Int32) (usp : Nat → Int32) (uen : Nat → Int32) (utY : Nat → Int32) (utW : Nat → Int32) (ys : Nat) (q0 : Nat) (hn0 : 0 < n) (hn6 : n ≤ 6) (hfw : ∀ i : Nat, i < n → ∀ z : Int32, cfw (jk i) (jg i) (jm i) z = fw i z) (hap : ∀ i a : Nat, i < n → jr i = some a → a ∉ [x, xj, xn, ns, ne, n7, n8, xw, w5, w6, w7, w8]) (hys : ys ≤ 60) (hq0 : q0 < 2147483648) : jWi l yX6_liveOn wsX6_liveOn ({ frames := 3, cells := 0, slots := 0, locals := 67 }) 0 0 [.ref x, .int (nI ys), .int (nI q0)] D cI cJ [(x, .inr (6, [a0, a1, .ref xj, .int (nI n), .ref xn, a5, .ref xw, a7, a8, a9, a10, a11])), (xj, .inl (cJ, 6, .inr (.inr (.inr (.inr jr))))), (xn, .inr (1, [.int y, .int ea, .int lo, .int jo, .int ta, .ref ns, .ref ne, .ref n7, .ref n8])), (ns, .inl (cI, 6, .inl sp)), (ne, .inl (cI, 6, .inl en)), (n7, .inl (cI, 6, .inl tY)), (n8, .inl (cI, 6, .inl tW)), (xw, .inr (1, [.int uy, .int uea, .int ulo, .int ujo, .int uta, .ref w5, .ref w6, .ref w7, .ref w8])), (w5, .inl (cI, 6, .inl usp)), (w6, .inl (cI, 6, .inl uen)), (w7, .inl (cI, 6, .inl utY)), (w8, .inl (cI, 6, .inl utW))] (fun H => jJ D n jr jk jg js jm H) (fun r H => ∃ (we wl wj : Int32) (us ue : Nat → Int32) (q : Nat), cts fw n y (jfl sp usp 6, jfl en uen 6, jo, q0) ys = (us, ue, wj, q) ∧ q < 2147483648 ∧ r = nI q ∧ va_P D vwCl [(x, .inr (6, [a0, a1, .ref xj, .int (nI n), .ref xn, a5, .ref xw, a7, a8, a9, a10, a11])), (xj, .inl (cJ, 6, .inr (.inr (.inr (.inr jr))))), (xn, .inr (1, [.int y, .int ea, .int lo, .int jo, .int ta, .ref ns, .ref ne, .ref n7, .ref n8])), (ns, .inl (cI, 6, .inl sp)), (ne, .inl (cI, 6, .inl en)), (n7, .inl (cI, 6, .inl tY)), (n8, .inl (cI, 6, .inl tW)), (xw, .inr (1, [.int (y + nI ys), .int we, .int wl, .int wj, .int ta, .ref w5, .ref w6, .ref w7, .ref w8])), (w5, .inl (cI, 6, .inl us)), (w6, .inl (cI, 6, .inl ue)), (w7, .inl (cI, 6, .inl (jfl tY utY 6))), (w8, .inl (cI, 6, .inl (jfl tW utW 6)))] H) := by
  intro sz
  refine Met.ofW (cc := cX6_liveOn) (maxL := 6) (ret := (some .int)) (by decide) rfl ?_
  intro p e s m args below meth c s₁ B hml hv
  obtain ⟨rfl, hsz, hT, hP, hD0, hJ⟩ := hv
  have hK := hT.1
  have hx := B.exec
  have hb := B.bytes
  have hr := B.returns
  have hts := atoms_spec (ws := wsX6_liveOn) B.pre
  have hown : s.vm.findClass RX6 = some m.cls := findClass_of_methodNamed B.named
  have hlocks := B.notSynchronized
  subst hsz
  have hD := hD0.self (sz := s.heap.size)
  generalize hAe : va_A [(x, .inr (6, [a0, a1, .ref xj, .int (nI n), .ref xn, a5, .ref xw, a7, a8, a9, a10, a11])), (xj, .inl (cJ, 6, .inr (.inr (.inr (.inr jr))))), (xn, .inr (1, [.int y, .int ea, .int lo, .int jo, .int ta, .ref ns, .ref ne, .ref n7, .ref n8])), (ns, .inl (cI, 6, .inl sp)), (ne, .inl (cI, 6, .inl en)), (n7, .inl (cI, 6, .inl tY)), (n8, .inl (cI, 6, .inl tW)), (xw, .inr (1, [.int uy, .int uea, .int ulo, .int ujo, .int uta, .ref w5, .ref w6, .ref w7, .ref w8])), (w5, .inl (cI, 6, .inl usp)), (w6, .inl (cI, 6, .inl uen)), (w7, .inl (cI, 6, .inl utY)), (w8, .inl (cI, 6, .inl utW))] s.heap.size = A at hD ⊢
  have hA : ∀ q : Nat, s.heap.size ≤ q → A q := fun q h => by rw [← hAe]; exact Or.inr h
  have hS : va_S A s.heap s.heap [] := va_S.rf
  have hl := lv_entry ([.ref x, .int (nI ys), .int (nI q0)] : List Value) (n := 6) (Nat.le_of_ble_eq_true rfl)
  rw [lg_entry_eq]
  generalize (lg_sl ([.ref x, .int (nI ys), .int (nI q0)]) ++ List.replicate (6 - (lg_sl ([.ref x, .int (nI ys), .int (nI q0)])).length) Slot.unset).toArray = ls at hl ⊢
  have hl : lv_has ls 6 [(0, .ref x), (1, .int (nI ys)), (2, .int (nI q0))] := hl
  have hJ_0 := hJ
  have hJ_A : ∀ i a : Nat, i < n → jr i = some a → ¬ A a := fun i a hi ha => by rw [← hAe]; exact jap (hJ.lt hi ha) (hap i a hi ha)
  refine lv_iload_n hx hb dX6_liveOn_0 rfl (lv_at hl 2 rfl) ?_
  refine lv_istore_n (lv' := [(3, .int (nI q0)), (0, .ref x), (1, .int (nI ys)), (2, .int (nI q0))]) hx hb dX6_liveOn_1 rfl hl (by decide) rfl (fun ls hl => ?_)
  refine lv_aload_n hx hb dX6_liveOn_2 rfl (lv_at hl 1 rfl) ?_
  refine va_get (D := D) (ci := 6) (v := .ref xw) (C := RX6) (T := TX6) (N := 12) hx hb hts (fun w h => List.mem_cons_of_mem _ (List.mem_append_left _ (List.mem_append_left _ (List.mem_append_left _ (List.mem_append_left _ (List.mem_append_left _ (List.mem_append_left _ (List.mem_append_right _ h)))))))) hown hK hP 0 rfl rfl 6 (by decide) (hts (Cond.fieldLink RX6 36 "JamDays" "would" "LJamDays$Days;") (List.mem_of_getElem? (i := 1) rfl)) (fun _ h9 => h9) rfl dX6_liveOn_3 ?_
  refine lv_aload_n hx hb dX6_liveOn_6 rfl (lv_at hl 1 rfl) ?_
  refine va_get (D := D) (ci := 6) (v := .ref xn) (C := RX6) (T := TX6) (N := 12) hx hb hts (fun w h => List.mem_cons_of_mem _ (List.mem_append_left _ (List.mem_append_left _ (List.mem_append_left _ (List.mem_append_left _ (List.mem_append_left _ (List.mem_append_left _ (List.mem_append_right _ h)))))))) hown hK hP 0 rfl rfl 4 (by decide) (hts (Cond.fieldLink RX6 29 "JamDays" "now" "LJamDays$Days;") (List.mem_of_getElem? (i := 2) rfl)) (fun _ h9 => h9) rfl dX6_liveOn_7 ?_
  have hPc_1 := hP.sub (ws' := [(xw, .inr (1, [.int uy, .int uea, .int ulo, .int ujo, .int uta, .ref w5, .ref w6, .ref w7, .ref w8])), (w5, .inl (cI, 6, .inl usp)), (w6, .inl (cI, 6, .inl uen)), (w7, .inl (cI, 6, .inl utY)), (w8, .inl (cI, 6, .inl utW)), (xn, .inr (1, [.int y, .int ea, .int lo, .int jo, .int ta, .ref ns, .ref ne, .ref n7, .ref n8])), (ns, .inl (cI, 6, .inl sp)), (ne, .inl (cI, 6, .inl en)), (n7, .inl (cI, 6, .inl tY)), (n8, .inl (cI, 6, .inl tW))]) [7, 8, 9, 10, 11, 2, 3, 4, 5, 6] rfl
  have hDc_2 := hD.sub (ws' := [(xw, .inr (1, [.int uy, .int uea, .int ulo, .int ujo, .int uta, .ref w5, .ref w6, .ref w7, .ref w8])), (w5, .inl (cI, 6, .inl usp)), (w6, .inl (cI, 6, .inl uen)), (w7, .inl (cI, 6, .inl utY)), (w8, .inl (cI, 6, .inl utW)), (xn, .inr (1, [.int y, .int ea, .int lo, .int jo, .int ta, .ref ns, .ref ne, .ref n7, .ref n8])), (ns, .inl (cI, 6, .inl sp)), (ne, .inl (cI, 6, .inl en)), (n7, .inl (cI, 6, .inl tY)), (n8, .inl (cI, 6, .inl tW))]) [7, 8, 9, 10, 11, 2, 3, 4, 5, 6] (by decide) rfl
  have hFc_3 := va_free (wc := [(xw, .inr (1, [.int uy, .int uea, .int ulo, .int ujo, .int uta, .ref w5, .ref w6, .ref w7, .ref w8])), (w5, .inl (cI, 6, .inl usp)), (w6, .inl (cI, 6, .inl uen)), (w7, .inl (cI, 6, .inl utY)), (w8, .inl (cI, 6, .inl utW)), (xn, .inr (1, [.int y, .int ea, .int lo, .int jo, .int ta, .ref ns, .ref ne, .ref n7, .ref n8])), (ns, .inl (cI, 6, .inl sp)), (ne, .inl (cI, 6, .inl en)), (n7, .inl (cI, 6, .inl tY)), (n8, .inl (cI, 6, .inl tW))]) hD hS hA [7, 8, 9, 10, 11, 2, 3, 4, 5, 6] rfl
  refine jcallWv (post := fun H => va_P D vwCl [(xw, .inr (1, [.int y, .int ea, .int lo, .int jo, .int ta, .ref w5, .ref w6, .ref w7, .ref w8])), (w5, .inl (cI, 6, .inl (jfl sp usp 6))), (w6, .inl (cI, 6, .inl (jfl en uen 6))), (w7, .inl (cI, 6, .inl (jfl tY utY 6))), (w8, .inl (cI, 6, .inl (jfl tW utW 6))), (xn, .inr (1, [.int y, .int ea, .int lo, .int jo, .int ta, .ref ns, .ref ne, .ref n7, .ref n8])), (ns, .inl (cI, 6, .inl sp)), (ne, .inl (cI, 6, .inl en)), (n7, .inl (cI, 6, .inl tY)), (n8, .inl (cI, 6, .inl tW))] H) (va_runV (As := [.ref xn]) (rest := []) ⟨hx, hb, hml, hown, hts⟩ (c_copyFrom l D cI cJ xw w5 w6 w7 w8 uy uea ulo ujo uta usp uen utY utW xn ns ne n7 n8 y ea lo jo ta sp en tY tW s.heap.size) (cwV 1 hts gX6_liveOn_X1_copyFrom rfl rfl rfl (by decide +kernel) ⟨Nat.le_of_ble_eq_true rfl, Nat.le_of_ble_eq_true rfl⟩) (jpreV hT (va_recv hK hP (ci := 1) (q0 := 7) rfl rfl) ⟨hPc_1, hDc_2.weaken (fun _ _ _ _ => trivial), trivial⟩) rfl rfl hl.1 rfl (lv_room (Nat.le_of_ble_eq_true rfl)) dX6_liveOn_10 ⟨(Nat.zero_le _), (Nat.zero_le _)⟩) hS hFc_3 (fun H locs hw_r_4 hz hkq hS => ?_)
  have hP1 := hw_r_4
  obtain ⟨hP, hD⟩ := jjoin (wc := [(xw, .inr (1, [.int uy, .int uea, .int ulo, .int ujo, .int uta, .ref w5, .ref w6, .ref w7, .ref w8])), (w5, .inl (cI, 6, .inl usp)), (w6, .inl (cI, 6, .inl uen)), (w7, .inl (cI, 6, .inl utY)), (w8, .inl (cI, 6, .inl utW)), (xn, .inr (1, [.int y, .int ea, .int lo, .int jo, .int ta, .ref ns, .ref ne, .ref n7, .ref n8])), (ns, .inl (cI, 6, .inl sp)), (ne, .inl (cI, 6, .inl en)), (n7, .inl (cI, 6, .inl tY)), (n8, .inl (cI, 6, .inl tW))]) (wr := [(x, .inr (6, [a0, a1, .ref xj, .int (nI n), .ref xn, a5, .ref xw, a7, a8, a9, a10, a11])), (xj, .inl (cJ, 6, .inr (.inr (.inr (.inr jr)))))]) (w1 := [(xw, .inr (1, [.int y, .int ea, .int lo, .int jo, .int ta, .ref w5, .ref w6, .ref w7, .ref w8])), (w5, .inl (cI, 6, .inl (jfl sp usp 6))), (w6, .inl (cI, 6, .inl (jfl en uen 6))), (w7, .inl (cI, 6, .inl (jfl tY utY 6))), (w8, .inl (cI, 6, .inl (jfl tW utW 6))), (xn, .inr (1, [.int y, .int ea, .int lo, .int jo, .int ta, .ref ns, .ref ne, .ref n7, .ref n8])), (ns, .inl (cI, 6, .inl sp)), (ne, .inl (cI, 6, .inl en)), (n7, .inl (cI, 6, .inl tY)), (n8, .inl (cI, 6, .inl tW))]) (ws' := [(x, .inr (6, [a0, a1, .ref xj, .int (nI n), .ref xn, a5, .ref xw, a7, a8, a9, a10, a11])), (xj, .inl (cJ, 6, .inr (.inr (.inr (.inr jr))))), (xn, .inr (1, [.int y, .int ea, .int lo, .int jo, .int ta, .ref ns, .ref ne, .ref n7, .ref n8])), (ns, .inl (cI, 6, .inl sp)), (ne, .inl (cI, 6, .inl en)), (n7, .inl (cI, 6, .inl tY)), (n8, .inl (cI, 6, .inl tW)), (xw, .inr (1, [.int y, .int ea, .int lo, .int jo, .int ta, .ref w5, .ref w6, .ref w7, .ref w8])), (w5, .inl (cI, 6, .inl (jfl sp usp 6))), (w6, .inl (cI, 6, .inl (jfl en uen 6))), (w7, .inl (cI, 6, .inl (jfl tY utY 6))), (w8, .inl (cI, 6, .inl (jfl tW utW 6)))]) hP hD hFc_3 [7, 8, 9, 10, 11, 2, 3, 4, 5, 6] [0, 1] [0, 1, 7, 8, 9, 10, 11, 2, 3, 4, 5, 6] rfl rfl (by decide) (by decide) (by decide) (by decide) hkq hP1 rfl rfl rfl
  have hJ := hJ_0.keptA hJ_A (fun q h1 h2 => hS.2.1 q h1 h2)
  refine lv_iconst (v := 0) hx hb dX6_liveOn_13 (by decide) ?_
  refine lv_istore (lv' := [(4, .int 0), (3, .int (nI q0)), (0, .ref x), (1, .int (nI ys)), (2, .int (nI q0))]) hx hb dX6_liveOn_14 hl (by decide) rfl (fun ls hl => ?_)
  have hP : va_P D vwCl [(x, .inr (6, [a0, a1, .ref xj, .int (nI n), .ref xn, a5, .ref xw, a7, a8, a9, a10, a11])), (xj, .inl (cJ, 6, .inr (.inr (.inr (.inr jr))))), (xn, .inr (1, [.int y, .int ea, .int lo, .int jo, .int ta, .ref ns, .ref ne, .ref n7, .ref n8])), (ns, .inl (cI, 6, .inl sp)), (ne, .inl (cI, 6, .inl en)), (n7, .inl (cI, 6, .inl tY)), (n8, .inl (cI, 6, .inl tW)), (xw, .inr (1, [.int (y + nI 0), .int ea, .int lo, .int jo, .int ta, .ref w5, .ref w6, .ref w7, .ref w8])), (w5, .inl (cI, 6, .inl (jfl sp usp 6))), (w6, .inl (cI, 6, .inl (jfl en uen 6))), (w7, .inl (cI, 6, .inl (jfl tY utY 6))), (w8, .inl (cI, 6, .inl (jfl tW utW 6)))] H := by rw [jy0]; exact hP
  have hD : va_D A [(x, .inr (6, [a0, a1, .ref xj, .int (nI n), .ref xn, a5, .ref xw, a7, a8, a9, a10, a11])), (xj, .inl (cJ, 6, .inr (.inr (.inr (.inr jr))))), (xn, .inr (1, [.int y, .int ea, .int lo, .int jo, .int ta, .ref ns, .ref ne, .ref n7, .ref n8])), (ns, .inl (cI, 6, .inl sp)), (ne, .inl (cI, 6, .inl en)), (n7, .inl (cI, 6, .inl tY)), (n8, .inl (cI, 6, .inl tW)), (xw, .inr (1, [.int (y + nI 0), .int ea, .int lo, .int jo, .int ta, .ref w5, .ref w6, .ref w7, .ref w8])), (w5, .inl (cI, 6, .inl (jfl sp usp 6))), (w6, .inl (cI, 6, .inl (jfl en uen 6))), (w7, .inl (cI, 6, .inl (jfl tY utY 6))), (w8, .inl (cI, 6, .inl (jfl tW utW 6)))] := jD_of hD rfl
  refine jloop (α := Nat × Nat × (Nat → Int32) × (Nat → Int32) × Int32 × Int32 × Int32) (fun (x9 : Nat × Nat × (Nat → Int32) × (Nat → Int32) × Int32 × Int32 × Int32) (H : Heap) (locs : List Loc) (ls : Array Slot) => match x9 with | (k, q, us, ue, wj, we, wl) => (va_P D vwCl [(x, .inr (6, [a0, a1, .ref xj, .int (nI n), .ref xn, a5, .ref xw, a7, a8, a9, a10, a11])), (xj, .inl (cJ, 6, .inr (.inr (.inr (.inr jr))))), (xn, .inr (1, [.int y, .int ea, .int lo, .int jo, .int ta, .ref ns, .ref ne, .ref n7, .ref n8])), (ns, .inl (cI, 6, .inl sp)), (ne, .inl (cI, 6, .inl en)), (n7, .inl (cI, 6, .inl tY)), (n8, .inl (cI, 6, .inl tW)), (xw, .inr (1, [.int (y + nI k), .int we, .int wl, .int wj, .int ta, .ref w5, .ref w6, .ref w7, .ref w8])), (w5, .inl (cI, 6, .inl us)), (w6, .inl (cI, 6, .inl ue)), (w7, .inl (cI, 6, .inl (jfl tY utY 6))), (w8, .inl (cI, 6, .inl (jfl tW utW 6)))] H) ∧ (va_D A [(x, .inr (6, [a0, a1, .ref xj, .int (nI n), .ref xn, a5, .ref xw, a7, a8, a9, a10, a11])), (xj, .inl (cJ, 6, .inr (.inr (.inr (.inr jr))))), (xn, .inr (1, [.int y, .int ea, .int lo, .int jo, .int ta, .ref ns, .ref ne, .ref n7, .ref n8])), (ns, .inl (cI, 6, .inl sp)), (ne, .inl (cI, 6, .inl en)), (n7, .inl (cI, 6, .inl tY)), (n8, .inl (cI, 6, .inl tW)), (xw, .inr (1, [.int (y + nI k), .int we, .int wl, .int wj, .int ta, .ref w5, .ref w6, .ref w7, .ref w8])), (w5, .inl (cI, 6, .inl us)), (w6, .inl (cI, 6, .inl ue)), (w7, .inl (cI, 6, .inl (jfl tY utY 6))), (w8, .inl (cI, 6, .inl (jfl tW utW 6)))]) ∧ (jJ D n jr jk jg js jm H) ∧ (va_S A s.heap H locs) ∧ (lv_has ls 6 [(0, .ref x), (1, .int (nI ys)), (3, .int (nI q)), (4, .int (nI k))]) ∧ (k ≤ ys) ∧ (q < 2147483648) ∧ (cts fw n y (jfl sp usp 6, jfl en uen 6, jo, q0) k = (us, ue, wj, q))) (fun (x9 : Nat × Nat × (Nat → Int32) × (Nat → Int32) × Int32 × Int32 × Int32) => match x9 with | (k, q, us, ue, wj, we, wl) => ys - k) (fun x9 H locs ls hx9 ih_16 => ?_) (0, q0, jfl sp usp 6, jfl en uen 6, jo, ea, lo) _ _ _ ⟨hP, hD, hJ, hS, lv_sub hl [2, 3, 1, 0] rfl, (by omega), hq0, rfl⟩
  obtain ⟨k, q, us, ue, wj, we, wl⟩ := x9
  obtain ⟨hP, hD, hJ, hS, hl, hk9, hq9, hst⟩ := hx9
  refine lv_iload hx hb dX6_liveOn_16 (lv_at hl 3 rfl) ?_
  refine lv_iload_n hx hb dX6_liveOn_18 rfl (lv_at hl 1 rfl) ?_
  refine lv_icmp_ge (tgt := 98) hx hb dX6_liveOn_19 (by decide) (fun c_5 => ?_) (fun c_5 => ?_)
  · skip
    replace c_5 : ys ≤ k := (nI_leI (a := ys) (b := k) (by omega) (by omega)).mp c_5
    refine lv_iload_n hx hb dX6_liveOn_98 rfl (lv_at hl 2 rfl) ?_
    exact W.iret (v := nI q) hx hb hr (fun t ht hW => ⟨⟨nI q, nI q, rfl, rfl, by dsimp only; rw [ht]; exact ⟨we, wl, wj, us, ue, q, (by rw [show ys = k by omega]; exact hst), hq9, rfl, (by rw [show ys = k by omega]; exact hP)⟩⟩, hS.F ht⟩) hS.2.2 dX6_liveOn_99
  · skip
    replace c_5 : ¬ ys ≤ k := fun h => c_5 ((nI_leI (a := ys) (b := k) (by omega) (by omega)).mpr h)
    obtain ⟨q1, hq1⟩ : ∃ z9 : Nat, z9 = jsd q := ⟨_, rfl⟩
    obtain ⟨t1, ht1⟩ : ∃ z9 : Nat, z9 = q1 / 65536 % n := ⟨_, rfl⟩
    obtain ⟨q2, hq2⟩ : ∃ z9 : Nat, z9 = jsd q1 := ⟨_, rfl⟩
    obtain ⟨t2, ht2⟩ : ∃ z9 : Nat, z9 = q2 / 65536 % n := ⟨_, rfl⟩
    have hq1l : q1 < 2147483648 := by rw [hq1]; exact jsd_lt _
    have hq2l : q2 < 2147483648 := by rw [hq2]; exact jsd_lt _
    have ht9 : t1 < n := by rw [ht1]; exact Nat.mod_lt _ hn0
    have he9 : t2 < n := by rw [ht2]; exact Nat.mod_lt _ hn0
    refine lv_iload_n hx hb dX6_liveOn_22 rfl (lv_at hl 2 rfl) ?_
    refine jcalli (va_runS (As := [.int (nI q)]) (rest := []) ⟨hx, hb, hml, hown, hts⟩ (c_nextSeed2 l D cI cJ q q1 hq9 hq1 H.size) (va_cwS 1 hts gX6_liveOn_X6_nextSeed rfl rfl rfl (by decide +kernel) ⟨Nat.le_of_ble_eq_true rfl, Nat.le_of_ble_eq_true rfl⟩) (jpreS hT trivial) rfl rfl hl.1 rfl (lv_room (Nat.le_of_ble_eq_true rfl)) dX6_liveOn_23 ⟨(Nat.zero_le _), (Nat.zero_le _)⟩) hS hA (fun r_6 H locs hw_r_6 hkq hS => ?_)
    try dsimp only at hw_r_6
    have hP := jkeep hP hkq
    have hJ := hJ.kept hkq
    subst hw_r_6
    refine lv_istore_n (lv' := [(3, .int (nI q1)), (0, .ref x), (1, .int (nI ys)), (4, .int (nI k))]) hx hb dX6_liveOn_26 rfl hl (by decide) rfl (fun ls hl => ?_)
    refine lv_aload_n hx hb dX6_liveOn_27 rfl (lv_at hl 1 rfl) ?_
    refine va_get (D := D) (ci := 6) (v := .ref xw) (C := RX6) (T := TX6) (N := 12) hx hb hts (fun w h => List.mem_cons_of_mem _ (List.mem_append_left _ (List.mem_append_left _ (List.mem_append_left _ (List.mem_append_left _ (List.mem_append_left _ (List.mem_append_left _ (List.mem_append_right _ h)))))))) hown hK hP 0 rfl rfl 6 (by decide) (hts (Cond.fieldLink RX6 36 "JamDays" "would" "LJamDays$Days;") (List.mem_of_getElem? (i := 1) rfl)) (fun _ h9 => h9) rfl dX6_liveOn_28 ?_
    refine lv_aload_n hx hb dX6_liveOn_31 rfl (lv_at hl 1 rfl) ?_
    refine lv_iload_n hx hb dX6_liveOn_32 rfl (lv_at hl 0 rfl) ?_
    have hPc_7 := hP.sub (ws' := [(x, .inr (6, [a0, a1, .ref xj, .int (nI n), .ref xn, a5, .ref xw, a7, a8, a9, a10, a11]))]) [0] rfl
    refine jcalli (va_runV (As := [.int (nI q1)]) (rest := [.ref xw]) ⟨hx, hb, hml, hown, hts⟩ (c_draw2 l D cI cJ x n q1 t1 a0 a1 (.ref xj) (.ref xn) a5 (.ref xw) a7 a8 a9 a10 a11 hn0 hn6 hq1l ht1 H.size) (cwV 1 hts gX6_liveOn_X6_draw rfl rfl rfl (by decide +kernel) ⟨Nat.le_of_ble_eq_true rfl, Nat.le_of_ble_eq_true rfl⟩) (jpreV hT (va_recv hK hP (ci := 6) (q0 := 0) rfl rfl) hPc_7) rfl rfl hl.1 rfl (lv_room (Nat.le_of_ble_eq_true rfl)) dX6_liveOn_33 ⟨(Nat.zero_le _), (Nat.zero_le _)⟩) hS hA (fun r_8 H locs hw_r_8 hkq hS => ?_)
    try dsimp only at hw_r_8
    have hP := jkeep hP hkq
    have hJ := hJ.kept hkq
    subst hw_r_8
    have hPc_9 := hP.sub (ws' := [(xw, .inr (1, [.int (y + nI k), .int we, .int wl, .int wj, .int ta, .ref w5, .ref w6, .ref w7, .ref w8])), (w5, .inl (cI, 6, .inl us)), (w6, .inl (cI, 6, .inl ue)), (w7, .inl (cI, 6, .inl (jfl tY utY 6))), (w8, .inl (cI, 6, .inl (jfl tW utW 6)))]) [7, 8, 9, 10, 11] rfl
    have hDc_10 := hD.sub (ws' := [(xw, .inr (1, [.int (y + nI k), .int we, .int wl, .int wj, .int ta, .ref w5, .ref w6, .ref w7, .ref w8])), (w5, .inl (cI, 6, .inl us)), (w6, .inl (cI, 6, .inl ue)), (w7, .inl (cI, 6, .inl (jfl tY utY 6))), (w8, .inl (cI, 6, .inl (jfl tW utW 6)))]) [7, 8, 9, 10, 11] (by decide) rfl
    have hFc_11 := va_free (wc := [(xw, .inr (1, [.int (y + nI k), .int we, .int wl, .int wj, .int ta, .ref w5, .ref w6, .ref w7, .ref w8])), (w5, .inl (cI, 6, .inl us)), (w6, .inl (cI, 6, .inl ue)), (w7, .inl (cI, 6, .inl (jfl tY utY 6))), (w8, .inl (cI, 6, .inl (jfl tW utW 6)))]) hD hS hA [7, 8, 9, 10, 11] rfl
    refine jcallWi (post := fun r H => r = (if 0 < us t1 then 1 else 0) ∧ va_P D vwCl [(xw, .inr (1, [.int (y + nI k), .int we, .int (if 0 < us t1 then wl + 1 else wl), .int wj, .int ta, .ref w5, .ref w6, .ref w7, .ref w8])), (w5, .inl (cI, 6, .inl (if 0 < us t1 then upd us t1 (us t1 - 1) else us))), (w6, .inl (cI, 6, .inl ue)), (w7, .inl (cI, 6, .inl (jfl tY utY 6))), (w8, .inl (cI, 6, .inl (jfl tW utW 6)))] H) (va_runV (As := [.int (nI t1)]) (rest := []) ⟨hx, hb, hml, hown, hts⟩ (c_loseSpoon l D cI cJ xw w5 w6 w7 w8 (y + nI k) we wl wj ta us ue (jfl tY utY 6) (jfl tW utW 6) t1 (by omega) H.size) (cwV 1 hts gX6_liveOn_X1_loseSpoon rfl rfl rfl (by decide +kernel) ⟨Nat.le_of_ble_eq_true rfl, Nat.le_of_ble_eq_true rfl⟩) (jpreV hT (va_recv hK hP (ci := 1) (q0 := 7) rfl rfl) ⟨hPc_9, hDc_10.weaken (fun _ _ _ _ => trivial), trivial⟩) rfl rfl hl.1 rfl (lv_room (Nat.le_of_ble_eq_true rfl)) dX6_liveOn_36 ⟨(Nat.zero_le _), (Nat.zero_le _)⟩) hS hFc_11 (fun r_12 H locs hw_r_12 hz hkq hS => ?_)
    obtain ⟨hr9, hP1⟩ := hw_r_12
    obtain ⟨hP, hD⟩ := jjoin (wc := [(xw, .inr (1, [.int (y + nI k), .int we, .int wl, .int wj, .int ta, .ref w5, .ref w6, .ref w7, .ref w8])), (w5, .inl (cI, 6, .inl us)), (w6, .inl (cI, 6, .inl ue)), (w7, .inl (cI, 6, .inl (jfl tY utY 6))), (w8, .inl (cI, 6, .inl (jfl tW utW 6)))]) (wr := [(x, .inr (6, [a0, a1, .ref xj, .int (nI n), .ref xn, a5, .ref xw, a7, a8, a9, a10, a11])), (xj, .inl (cJ, 6, .inr (.inr (.inr (.inr jr))))), (xn, .inr (1, [.int y, .int ea, .int lo, .int jo, .int ta, .ref ns, .ref ne, .ref n7, .ref n8])), (ns, .inl (cI, 6, .inl sp)), (ne, .inl (cI, 6, .inl en)), (n7, .inl (cI, 6, .inl tY)), (n8, .inl (cI, 6, .inl tW))]) (w1 := [(xw, .inr (1, [.int (y + nI k), .int we, .int (if 0 < us t1 then wl + 1 else wl), .int wj, .int ta, .ref w5, .ref w6, .ref w7, .ref w8])), (w5, .inl (cI, 6, .inl (if 0 < us t1 then upd us t1 (us t1 - 1) else us))), (w6, .inl (cI, 6, .inl ue)), (w7, .inl (cI, 6, .inl (jfl tY utY 6))), (w8, .inl (cI, 6, .inl (jfl tW utW 6)))]) (ws' := [(x, .inr (6, [a0, a1, .ref xj, .int (nI n), .ref xn, a5, .ref xw, a7, a8, a9, a10, a11])), (xj, .inl (cJ, 6, .inr (.inr (.inr (.inr jr))))), (xn, .inr (1, [.int y, .int ea, .int lo, .int jo, .int ta, .ref ns, .ref ne, .ref n7, .ref n8])), (ns, .inl (cI, 6, .inl sp)), (ne, .inl (cI, 6, .inl en)), (n7, .inl (cI, 6, .inl tY)), (n8, .inl (cI, 6, .inl tW)), (xw, .inr (1, [.int (y + nI k), .int we, .int (if 0 < us t1 then wl + 1 else wl), .int wj, .int ta, .ref w5, .ref w6, .ref w7, .ref w8])), (w5, .inl (cI, 6, .inl (if 0 < us t1 then upd us t1 (us t1 - 1) else us))), (w6, .inl (cI, 6, .inl ue)), (w7, .inl (cI, 6, .inl (jfl tY utY 6))), (w8, .inl (cI, 6, .inl (jfl tW utW 6)))]) hP hD hFc_11 [7, 8, 9, 10, 11] [0, 1, 2, 3, 4, 5, 6] [0, 1, 2, 3, 4, 5, 6, 7, 8, 9, 10, 11] rfl rfl (by decide) (by decide) (by decide) (by decide) hkq hP1 rfl rfl rfl
    have hJ := hJ_0.keptA hJ_A (fun q h1 h2 => hS.2.1 q h1 h2)
    refine lv_pop hx hb dX6_liveOn_39 rfl ?_
    refine lv_iload_n hx hb dX6_liveOn_40 rfl (lv_at hl 0 rfl) ?_
    refine jcalli (va_runS (As := [.int (nI q1)]) (rest := []) ⟨hx, hb, hml, hown, hts⟩ (c_nextSeed2 l D cI cJ q1 q2 hq1l hq2 H.size) (va_cwS 1 hts gX6_liveOn_X6_nextSeed rfl rfl rfl (by decide +kernel) ⟨Nat.le_of_ble_eq_true rfl, Nat.le_of_ble_eq_true rfl⟩) (jpreS hT trivial) rfl rfl hl.1 rfl (lv_room (Nat.le_of_ble_eq_true rfl)) dX6_liveOn_41 ⟨(Nat.zero_le _), (Nat.zero_le _)⟩) hS hA (fun r_13 H locs hw_r_13 hkq hS => ?_)
    try dsimp only at hw_r_13
    have hP := jkeep hP hkq
    have hJ := hJ.kept hkq
    subst hw_r_13
    refine lv_istore_n (lv' := [(3, .int (nI q2)), (0, .ref x), (1, .int (nI ys)), (4, .int (nI k))]) hx hb dX6_liveOn_44 rfl hl (by decide) rfl (fun ls hl => ?_)
    refine lv_aload_n hx hb dX6_liveOn_45 rfl (lv_at hl 1 rfl) ?_
    refine lv_iload_n hx hb dX6_liveOn_46 rfl (lv_at hl 0 rfl) ?_
    have hPc_14 := hP.sub (ws' := [(x, .inr (6, [a0, a1, .ref xj, .int (nI n), .ref xn, a5, .ref xw, a7, a8, a9, a10, a11]))]) [0] rfl
    refine jcalli (va_runV (As := [.int (nI q2)]) (rest := []) ⟨hx, hb, hml, hown, hts⟩ (c_draw2 l D cI cJ x n q2 t2 a0 a1 (.ref xj) (.ref xn) a5 (.ref xw) a7 a8 a9 a10 a11 hn0 hn6 hq2l ht2 H.size) (cwV 1 hts gX6_liveOn_X6_draw rfl rfl rfl (by decide +kernel) ⟨Nat.le_of_ble_eq_true rfl, Nat.le_of_ble_eq_true rfl⟩) (jpreV hT (va_recv hK hP (ci := 6) (q0 := 0) rfl rfl) hPc_14) rfl rfl hl.1 rfl (lv_room (Nat.le_of_ble_eq_true rfl)) dX6_liveOn_47 ⟨(Nat.zero_le _), (Nat.zero_le _)⟩) hS hA (fun r_15 H locs hw_r_15 hkq hS => ?_)
    try dsimp only at hw_r_15
    have hP := jkeep hP hkq
    have hJ := hJ.kept hkq
    subst hw_r_15
    refine lv_istore (lv' := [(5, .int (nI t2)), (3, .int (nI q2)), (0, .ref x), (1, .int (nI ys)), (4, .int (nI k))]) hx hb dX6_liveOn_50 hl (by decide) rfl (fun ls hl => ?_)
    refine lv_aload_n hx hb dX6_liveOn_52 rfl (lv_at hl 2 rfl) ?_
    refine va_get (D := D) (ci := 6) (v := .ref xw) (C := RX6) (T := TX6) (N := 12) hx hb hts (fun w h => List.mem_cons_of_mem _ (List.mem_append_left _ (List.mem_append_left _ (List.mem_append_left _ (List.mem_append_left _ (List.mem_append_left _ (List.mem_append_left _ (List.mem_append_right _ h)))))))) hown hK hP 0 rfl rfl 6 (by decide) (hts (Cond.fieldLink RX6 36 "JamDays" "would" "LJamDays$Days;") (List.mem_of_getElem? (i := 1) rfl)) (fun _ h9 => h9) rfl dX6_liveOn_53 ?_
    refine lv_iload hx hb dX6_liveOn_56 (lv_at hl 0 rfl) ?_
    refine lv_aload_n hx hb dX6_liveOn_58 rfl (lv_at hl 2 rfl) ?_
    refine lv_iload hx hb dX6_liveOn_59 (lv_at hl 0 rfl) ?_
    refine lv_aload_n hx hb dX6_liveOn_61 rfl (lv_at hl 2 rfl) ?_
    refine va_get (D := D) (ci := 6) (v := .ref xw) (C := RX6) (T := TX6) (N := 12) hx hb hts (fun w h => List.mem_cons_of_mem _ (List.mem_append_left _ (List.mem_append_left _ (List.mem_append_left _ (List.mem_append_left _ (List.mem_append_left _ (List.mem_append_left _ (List.mem_append_right _ h)))))))) hown hK hP 0 rfl rfl 6 (by decide) (hts (Cond.fieldLink RX6 36 "JamDays" "would" "LJamDays$Days;") (List.mem_of_getElem? (i := 1) rfl)) (fun _ h9 => h9) rfl dX6_liveOn_62 ?_
    refine va_get (D := D) (ci := 1) (v := .int (y + nI k)) (C := RX1) (T := TX1) (N := 9) hx hb hts (fun w h => List.mem_cons_of_mem _ (List.mem_append_left _ (List.mem_append_left _ (List.mem_append_left _ (List.mem_append_left _ (List.mem_append_left _ (List.mem_append_right _ h))))))) hown hK hP 7 rfl rfl 0 (by decide) (hts (Cond.fieldLink RX6 91 "JamDays$Days" "year" "I") (List.mem_of_getElem? (i := 3) rfl)) (fun _ h9 => h9) rfl dX6_liveOn_65 ?_
    have hPc_16 := hP.sub (ws' := [(x, .inr (6, [a0, a1, .ref xj, .int (nI n), .ref xn, a5, .ref xw, a7, a8, a9, a10, a11])), (xj, .inl (cJ, 6, .inr (.inr (.inr (.inr jr)))))]) [0, 1] rfl
    refine jcalli (va_runV (As := [.int (nI t2), .int (y + nI k)]) (rest := [.int (nI t2), .ref xw]) ⟨hx, hb, hml, hown, hts⟩ (c_firstWorth l D cI cJ x xj n a0 a1 (.ref xn) a5 (.ref xw) a7 a8 a9 a10 a11 jr jk jg js jm fw t2 (y + nI k) he9 hn6 hfw H.size) (cwV 2 hts gX6_liveOn_X6_firstWorth rfl rfl rfl (by decide +kernel) ⟨Nat.le_of_ble_eq_true rfl, Nat.le_of_ble_eq_true rfl⟩) (jpreV hT (va_recv hK hP (ci := 6) (q0 := 0) rfl rfl) ⟨hPc_16, hJ⟩) rfl rfl hl.1 rfl (lv_room (Nat.le_of_ble_eq_true rfl)) dX6_liveOn_68 ⟨(Nat.zero_le _), (Nat.zero_le _)⟩) hS hA (fun r_17 H locs hw_r_17 hkq hS => ?_)
    try dsimp only at hw_r_17
    have hP := jkeep hP hkq
    have hJ := hJ.kept hkq
    subst hw_r_17
    refine lv_aload_n hx hb dX6_liveOn_71 rfl (lv_at hl 2 rfl) ?_
    refine va_get (D := D) (ci := 6) (v := .ref xw) (C := RX6) (T := TX6) (N := 12) hx hb hts (fun w h => List.mem_cons_of_mem _ (List.mem_append_left _ (List.mem_append_left _ (List.mem_append_left _ (List.mem_append_left _ (List.mem_append_left _ (List.mem_append_left _ (List.mem_append_right _ h)))))))) hown hK hP 0 rfl rfl 6 (by decide) (hts (Cond.fieldLink RX6 36 "JamDays" "would" "LJamDays$Days;") (List.mem_of_getElem? (i := 1) rfl)) (fun _ h9 => h9) rfl dX6_liveOn_72 ?_
    refine lv_iload hx hb dX6_liveOn_75 (lv_at hl 0 rfl) ?_
    have hPc_18 := hP.sub (ws' := [(xw, .inr (1, [.int (y + nI k), .int we, .int (if 0 < us t1 then wl + 1 else wl), .int wj, .int ta, .ref w5, .ref w6, .ref w7, .ref w8])), (w6, .inl (cI, 6, .inl ue))]) [7, 9] rfl
    refine jcalli (va_runV (As := [.int (nI t2)]) (rest := [.int (fw t2 (y + nI k)), .int (nI t2), .ref xw]) ⟨hx, hb, hml, hown, hts⟩ (c_eatenNowOf l D cI cJ xw w6 (.int (y + nI k)) (.int we) (.int (if 0 < us t1 then wl + 1 else wl)) (.int wj) (.int ta) (.ref w5) (.ref w7) (.ref w8) ue t2 (by omega) H.size) (cwV 1 hts gX6_liveOn_X1_eatenNowOf rfl rfl rfl (by decide +kernel) ⟨Nat.le_of_ble_eq_true rfl, Nat.le_of_ble_eq_true rfl⟩) (jpreV hT (va_recv hK hP (ci := 1) (q0 := 7) rfl rfl) hPc_18) rfl rfl hl.1 rfl (lv_room (Nat.le_of_ble_eq_true rfl)) dX6_liveOn_77 ⟨(Nat.zero_le _), (Nat.zero_le _)⟩) hS hA (fun r_19 H locs hw_r_19 hkq hS => ?_)
    try dsimp only at hw_r_19
    have hP := jkeep hP hkq
    have hJ := hJ.kept hkq
    subst hw_r_19
    refine lv_isub hx hb dX6_liveOn_80 ?_
    have hPc_20 := hP.sub (ws' := [(xw, .inr (1, [.int (y + nI k), .int we, .int (if 0 < us t1 then wl + 1 else wl), .int wj, .int ta, .ref w5, .ref w6, .ref w7, .ref w8])), (w5, .inl (cI, 6, .inl (if 0 < us t1 then upd us t1 (us t1 - 1) else us))), (w6, .inl (cI, 6, .inl ue)), (w7, .inl (cI, 6, .inl (jfl tY utY 6))), (w8, .inl (cI, 6, .inl (jfl tW utW 6)))]) [7, 8, 9, 10, 11] rfl
    have hDc_21 := hD.sub (ws' := [(xw, .inr (1, [.int (y + nI k), .int we, .int (if 0 < us t1 then wl + 1 else wl), .int wj, .int ta, .ref w5, .ref w6, .ref w7, .ref w8])), (w5, .inl (cI, 6, .inl (if 0 < us t1 then upd us t1 (us t1 - 1) else us))), (w6, .inl (cI, 6, .inl ue)), (w7, .inl (cI, 6, .inl (jfl tY utY 6))), (w8, .inl (cI, 6, .inl (jfl tW utW 6)))]) [7, 8, 9, 10, 11] (by decide) rfl
    have hFc_22 := va_free (wc := [(xw, .inr (1, [.int (y + nI k), .int we, .int (if 0 < us t1 then wl + 1 else wl), .int wj, .int ta, .ref w5, .ref w6, .ref w7, .ref w8])), (w5, .inl (cI, 6, .inl (if 0 < us t1 then upd us t1 (us t1 - 1) else us))), (w6, .inl (cI, 6, .inl ue)), (w7, .inl (cI, 6, .inl (jfl tY utY 6))), (w8, .inl (cI, 6, .inl (jfl tW utW 6)))]) hD hS hA [7, 8, 9, 10, 11] rfl
    refine jcallWi (post := fun r H => r = (if 0 < (if 0 < us t1 then upd us t1 (us t1 - 1) else us) t2 then 1 else 0) ∧ va_P D vwCl [(xw, .inr (1, [.int (y + nI k), .int (if 0 < (if 0 < us t1 then upd us t1 (us t1 - 1) else us) t2 then we + 1 else we), .int (if 0 < us t1 then wl + 1 else wl), .int (if 0 < (if 0 < us t1 then upd us t1 (us t1 - 1) else us) t2 then wj + ((fw t2 (y + nI k)) - (ue t2)) else wj), .int ta, .ref w5, .ref w6, .ref w7, .ref w8])), (w5, .inl (cI, 6, .inl (if 0 < (if 0 < us t1 then upd us t1 (us t1 - 1) else us) t2 then upd (if 0 < us t1 then upd us t1 (us t1 - 1) else us) t2 ((if 0 < us t1 then upd us t1 (us t1 - 1) else us) t2 - 1) else (if 0 < us t1 then upd us t1 (us t1 - 1) else us)))), (w6, .inl (cI, 6, .inl (if 0 < (if 0 < us t1 then upd us t1 (us t1 - 1) else us) t2 then upd ue t2 (ue t2 + 1) else ue))), (w7, .inl (cI, 6, .inl (jfl tY utY 6))), (w8, .inl (cI, 6, .inl (jfl tW utW 6)))] H) (va_runV (As := [.int (nI t2), .int ((fw t2 (y + nI k)) - (ue t2))]) (rest := []) ⟨hx, hb, hml, hown, hts⟩ (c_eatSpoon l D cI cJ xw w5 w6 w7 w8 (y + nI k) we (if 0 < us t1 then wl + 1 else wl) wj ta (if 0 < us t1 then upd us t1 (us t1 - 1) else us) ue (jfl tY utY 6) (jfl tW utW 6) t2 ((fw t2 (y + nI k)) - (ue t2)) (by omega) H.size) (cwV 2 hts gX6_liveOn_X1_eatSpoon rfl rfl rfl (by decide +kernel) ⟨Nat.le_of_ble_eq_true rfl, Nat.le_of_ble_eq_true rfl⟩) (jpreV hT (va_recv hK hP (ci := 1) (q0 := 7) rfl rfl) ⟨hPc_20, hDc_21.weaken (fun _ _ _ _ => trivial), trivial⟩) rfl rfl hl.1 rfl (lv_room (Nat.le_of_ble_eq_true rfl)) dX6_liveOn_81 ⟨(Nat.zero_le _), (Nat.zero_le _)⟩) hS hFc_22 (fun r_23 H locs hw_r_23 hz hkq hS => ?_)
    obtain ⟨hr9, hP1⟩ := hw_r_23
    obtain ⟨hP, hD⟩ := jjoin (wc := [(xw, .inr (1, [.int (y + nI k), .int we, .int (if 0 < us t1 then wl + 1 else wl), .int wj, .int ta, .ref w5, .ref w6, .ref w7, .ref w8])), (w5, .inl (cI, 6, .inl (if 0 < us t1 then upd us t1 (us t1 - 1) else us))), (w6, .inl (cI, 6, .inl ue)), (w7, .inl (cI, 6, .inl (jfl tY utY 6))), (w8, .inl (cI, 6, .inl (jfl tW utW 6)))]) (wr := [(x, .inr (6, [a0, a1, .ref xj, .int (nI n), .ref xn, a5, .ref xw, a7, a8, a9, a10, a11])), (xj, .inl (cJ, 6, .inr (.inr (.inr (.inr jr))))), (xn, .inr (1, [.int y, .int ea, .int lo, .int jo, .int ta, .ref ns, .ref ne, .ref n7, .ref n8])), (ns, .inl (cI, 6, .inl sp)), (ne, .inl (cI, 6, .inl en)), (n7, .inl (cI, 6, .inl tY)), (n8, .inl (cI, 6, .inl tW))]) (w1 := [(xw, .inr (1, [.int (y + nI k), .int (if 0 < (if 0 < us t1 then upd us t1 (us t1 - 1) else us) t2 then we + 1 else we), .int (if 0 < us t1 then wl + 1 else wl), .int (if 0 < (if 0 < us t1 then upd us t1 (us t1 - 1) else us) t2 then wj + ((fw t2 (y + nI k)) - (ue t2)) else wj), .int ta, .ref w5, .ref w6, .ref w7, .ref w8])), (w5, .inl (cI, 6, .inl (if 0 < (if 0 < us t1 then upd us t1 (us t1 - 1) else us) t2 then upd (if 0 < us t1 then upd us t1 (us t1 - 1) else us) t2 ((if 0 < us t1 then upd us t1 (us t1 - 1) else us) t2 - 1) else (if 0 < us t1 then upd us t1 (us t1 - 1) else us)))), (w6, .inl (cI, 6, .inl (if 0 < (if 0 < us t1 then upd us t1 (us t1 - 1) else us) t2 then upd ue t2 (ue t2 + 1) else ue))), (w7, .inl (cI, 6, .inl (jfl tY utY 6))), (w8, .inl (cI, 6, .inl (jfl tW utW 6)))]) (ws' := [(x, .inr (6, [a0, a1, .ref xj, .int (nI n), .ref xn, a5, .ref xw, a7, a8, a9, a10, a11])), (xj, .inl (cJ, 6, .inr (.inr (.inr (.inr jr))))), (xn, .inr (1, [.int y, .int ea, .int lo, .int jo, .int ta, .ref ns, .ref ne, .ref n7, .ref n8])), (ns, .inl (cI, 6, .inl sp)), (ne, .inl (cI, 6, .inl en)), (n7, .inl (cI, 6, .inl tY)), (n8, .inl (cI, 6, .inl tW)), (xw, .inr (1, [.int (y + nI k), .int (if 0 < (if 0 < us t1 then upd us t1 (us t1 - 1) else us) t2 then we + 1 else we), .int (if 0 < us t1 then wl + 1 else wl), .int (if 0 < (if 0 < us t1 then upd us t1 (us t1 - 1) else us) t2 then wj + ((fw t2 (y + nI k)) - (ue t2)) else wj), .int ta, .ref w5, .ref w6, .ref w7, .ref w8])), (w5, .inl (cI, 6, .inl (if 0 < (if 0 < us t1 then upd us t1 (us t1 - 1) else us) t2 then upd (if 0 < us t1 then upd us t1 (us t1 - 1) else us) t2 ((if 0 < us t1 then upd us t1 (us t1 - 1) else us) t2 - 1) else (if 0 < us t1 then upd us t1 (us t1 - 1) else us)))), (w6, .inl (cI, 6, .inl (if 0 < (if 0 < us t1 then upd us t1 (us t1 - 1) else us) t2 then upd ue t2 (ue t2 + 1) else ue))), (w7, .inl (cI, 6, .inl (jfl tY utY 6))), (w8, .inl (cI, 6, .inl (jfl tW utW 6)))]) hP hD hFc_22 [7, 8, 9, 10, 11] [0, 1, 2, 3, 4, 5, 6] [0, 1, 2, 3, 4, 5, 6, 7, 8, 9, 10, 11] rfl rfl (by decide) (by decide) (by decide) (by decide) hkq hP1 rfl rfl rfl
    have hJ := hJ_0.keptA hJ_A (fun q h1 h2 => hS.2.1 q h1 h2)
    refine lv_pop hx hb dX6_liveOn_84 rfl ?_
    refine lv_aload_n hx hb dX6_liveOn_85 rfl (lv_at hl 2 rfl) ?_
    refine va_get (D := D) (ci := 6) (v := .ref xw) (C := RX6) (T := TX6) (N := 12) hx hb hts (fun w h => List.mem_cons_of_mem _ (List.mem_append_left _ (List.mem_append_left _ (List.mem_append_left _ (List.mem_append_left _ (List.mem_append_left _ (List.mem_append_left _ (List.mem_append_right _ h)))))))) hown hK hP 0 rfl rfl 6 (by decide) (hts (Cond.fieldLink RX6 36 "JamDays" "would" "LJamDays$Days;") (List.mem_of_getElem? (i := 1) rfl)) (fun _ h9 => h9) rfl dX6_liveOn_86 ?_
    have hPc_24 := hP.sub (ws' := [(xw, .inr (1, [.int (y + nI k), .int (if 0 < (if 0 < us t1 then upd us t1 (us t1 - 1) else us) t2 then we + 1 else we), .int (if 0 < us t1 then wl + 1 else wl), .int (if 0 < (if 0 < us t1 then upd us t1 (us t1 - 1) else us) t2 then wj + ((fw t2 (y + nI k)) - (ue t2)) else wj), .int ta, .ref w5, .ref w6, .ref w7, .ref w8])), (w5, .inl (cI, 6, .inl (if 0 < (if 0 < us t1 then upd us t1 (us t1 - 1) else us) t2 then upd (if 0 < us t1 then upd us t1 (us t1 - 1) else us) t2 ((if 0 < us t1 then upd us t1 (us t1 - 1) else us) t2 - 1) else (if 0 < us t1 then upd us t1 (us t1 - 1) else us)))), (w6, .inl (cI, 6, .inl (if 0 < (if 0 < us t1 then upd us t1 (us t1 - 1) else us) t2 then upd ue t2 (ue t2 + 1) else ue))), (w7, .inl (cI, 6, .inl (jfl tY utY 6))), (w8, .inl (cI, 6, .inl (jfl tW utW 6)))]) [7, 8, 9, 10, 11] rfl
    have hDc_25 := hD.sub (ws' := [(xw, .inr (1, [.int (y + nI k), .int (if 0 < (if 0 < us t1 then upd us t1 (us t1 - 1) else us) t2 then we + 1 else we), .int (if 0 < us t1 then wl + 1 else wl), .int (if 0 < (if 0 < us t1 then upd us t1 (us t1 - 1) else us) t2 then wj + ((fw t2 (y + nI k)) - (ue t2)) else wj), .int ta, .ref w5, .ref w6, .ref w7, .ref w8])), (w5, .inl (cI, 6, .inl (if 0 < (if 0 < us t1 then upd us t1 (us t1 - 1) else us) t2 then upd (if 0 < us t1 then upd us t1 (us t1 - 1) else us) t2 ((if 0 < us t1 then upd us t1 (us t1 - 1) else us) t2 - 1) else (if 0 < us t1 then upd us t1 (us t1 - 1) else us)))), (w6, .inl (cI, 6, .inl (if 0 < (if 0 < us t1 then upd us t1 (us t1 - 1) else us) t2 then upd ue t2 (ue t2 + 1) else ue))), (w7, .inl (cI, 6, .inl (jfl tY utY 6))), (w8, .inl (cI, 6, .inl (jfl tW utW 6)))]) [7, 8, 9, 10, 11] (by decide) rfl
    have hFc_26 := va_free (wc := [(xw, .inr (1, [.int (y + nI k), .int (if 0 < (if 0 < us t1 then upd us t1 (us t1 - 1) else us) t2 then we + 1 else we), .int (if 0 < us t1 then wl + 1 else wl), .int (if 0 < (if 0 < us t1 then upd us t1 (us t1 - 1) else us) t2 then wj + ((fw t2 (y + nI k)) - (ue t2)) else wj), .int ta, .ref w5, .ref w6, .ref w7, .ref w8])), (w5, .inl (cI, 6, .inl (if 0 < (if 0 < us t1 then upd us t1 (us t1 - 1) else us) t2 then upd (if 0 < us t1 then upd us t1 (us t1 - 1) else us) t2 ((if 0 < us t1 then upd us t1 (us t1 - 1) else us) t2 - 1) else (if 0 < us t1 then upd us t1 (us t1 - 1) else us)))), (w6, .inl (cI, 6, .inl (if 0 < (if 0 < us t1 then upd us t1 (us t1 - 1) else us) t2 then upd ue t2 (ue t2 + 1) else ue))), (w7, .inl (cI, 6, .inl (jfl tY utY 6))), (w8, .inl (cI, 6, .inl (jfl tW utW 6)))]) hD hS hA [7, 8, 9, 10, 11] rfl
    refine jcallWv (post := fun H => va_P D vwCl [(xw, .inr (1, [.int ((y + nI k) + 1), .int (if 0 < (if 0 < us t1 then upd us t1 (us t1 - 1) else us) t2 then we + 1 else we), .int (if 0 < us t1 then wl + 1 else wl), .int (if 0 < (if 0 < us t1 then upd us t1 (us t1 - 1) else us) t2 then wj + ((fw t2 (y + nI k)) - (ue t2)) else wj), .int ta, .ref w5, .ref w6, .ref w7, .ref w8])), (w5, .inl (cI, 6, .inl (if 0 < (if 0 < us t1 then upd us t1 (us t1 - 1) else us) t2 then upd (if 0 < us t1 then upd us t1 (us t1 - 1) else us) t2 ((if 0 < us t1 then upd us t1 (us t1 - 1) else us) t2 - 1) else (if 0 < us t1 then upd us t1 (us t1 - 1) else us)))), (w6, .inl (cI, 6, .inl (jfl (fun _ => 0) (if 0 < (if 0 < us t1 then upd us t1 (us t1 - 1) else us) t2 then upd ue t2 (ue t2 + 1) else ue) 6))), (w7, .inl (cI, 6, .inl (jfl tY utY 6))), (w8, .inl (cI, 6, .inl (jfl tW utW 6)))] H) (va_runV (As := []) (rest := []) ⟨hx, hb, hml, hown, hts⟩ (c_passYear l D cI cJ xw w5 w6 w7 w8 (y + nI k) (if 0 < (if 0 < us t1 then upd us t1 (us t1 - 1) else us) t2 then we + 1 else we) (if 0 < us t1 then wl + 1 else wl) (if 0 < (if 0 < us t1 then upd us t1 (us t1 - 1) else us) t2 then wj + ((fw t2 (y + nI k)) - (ue t2)) else wj) ta (if 0 < (if 0 < us t1 then upd us t1 (us t1 - 1) else us) t2 then upd (if 0 < us t1 then upd us t1 (us t1 - 1) else us) t2 ((if 0 < us t1 then upd us t1 (us t1 - 1) else us) t2 - 1) else (if 0 < us t1 then upd us t1 (us t1 - 1) else us)) (if 0 < (if 0 < us t1 then upd us t1 (us t1 - 1) else us) t2 then upd ue t2 (ue t2 + 1) else ue) (jfl tY utY 6) (jfl tW utW 6) H.size) (cwV 0 hts gX6_liveOn_X1_passYear rfl rfl rfl (by decide +kernel) ⟨Nat.le_of_ble_eq_true rfl, Nat.le_of_ble_eq_true rfl⟩) (jpreV hT (va_recv hK hP (ci := 1) (q0 := 7) rfl rfl) ⟨hPc_24, hDc_25.weaken (fun _ _ _ _ => trivial), trivial⟩) rfl rfl hl.1 rfl (lv_room (Nat.le_of_ble_eq_true rfl)) dX6_liveOn_89 ⟨(Nat.zero_le _), (Nat.zero_le _)⟩) hS hFc_26 (fun H locs hw_r_27 hz hkq hS => ?_)
    have hP1 := hw_r_27
    obtain ⟨hP, hD⟩ := jjoin (wc := [(xw, .inr (1, [.int (y + nI k), .int (if 0 < (if 0 < us t1 then upd us t1 (us t1 - 1) else us) t2 then we + 1 else we), .int (if 0 < us t1 then wl + 1 else wl), .int (if 0 < (if 0 < us t1 then upd us t1 (us t1 - 1) else us) t2 then wj + ((fw t2 (y + nI k)) - (ue t2)) else wj), .int ta, .ref w5, .ref w6, .ref w7, .ref w8])), (w5, .inl (cI, 6, .inl (if 0 < (if 0 < us t1 then upd us t1 (us t1 - 1) else us) t2 then upd (if 0 < us t1 then upd us t1 (us t1 - 1) else us) t2 ((if 0 < us t1 then upd us t1 (us t1 - 1) else us) t2 - 1) else (if 0 < us t1 then upd us t1 (us t1 - 1) else us)))), (w6, .inl (cI, 6, .inl (if 0 < (if 0 < us t1 then upd us t1 (us t1 - 1) else us) t2 then upd ue t2 (ue t2 + 1) else ue))), (w7, .inl (cI, 6, .inl (jfl tY utY 6))), (w8, .inl (cI, 6, .inl (jfl tW utW 6)))]) (wr := [(x, .inr (6, [a0, a1, .ref xj, .int (nI n), .ref xn, a5, .ref xw, a7, a8, a9, a10, a11])), (xj, .inl (cJ, 6, .inr (.inr (.inr (.inr jr))))), (xn, .inr (1, [.int y, .int ea, .int lo, .int jo, .int ta, .ref ns, .ref ne, .ref n7, .ref n8])), (ns, .inl (cI, 6, .inl sp)), (ne, .inl (cI, 6, .inl en)), (n7, .inl (cI, 6, .inl tY)), (n8, .inl (cI, 6, .inl tW))]) (w1 := [(xw, .inr (1, [.int ((y + nI k) + 1), .int (if 0 < (if 0 < us t1 then upd us t1 (us t1 - 1) else us) t2 then we + 1 else we), .int (if 0 < us t1 then wl + 1 else wl), .int (if 0 < (if 0 < us t1 then upd us t1 (us t1 - 1) else us) t2 then wj + ((fw t2 (y + nI k)) - (ue t2)) else wj), .int ta, .ref w5, .ref w6, .ref w7, .ref w8])), (w5, .inl (cI, 6, .inl (if 0 < (if 0 < us t1 then upd us t1 (us t1 - 1) else us) t2 then upd (if 0 < us t1 then upd us t1 (us t1 - 1) else us) t2 ((if 0 < us t1 then upd us t1 (us t1 - 1) else us) t2 - 1) else (if 0 < us t1 then upd us t1 (us t1 - 1) else us)))), (w6, .inl (cI, 6, .inl (jfl (fun _ => 0) (if 0 < (if 0 < us t1 then upd us t1 (us t1 - 1) else us) t2 then upd ue t2 (ue t2 + 1) else ue) 6))), (w7, .inl (cI, 6, .inl (jfl tY utY 6))), (w8, .inl (cI, 6, .inl (jfl tW utW 6)))]) (ws' := [(x, .inr (6, [a0, a1, .ref xj, .int (nI n), .ref xn, a5, .ref xw, a7, a8, a9, a10, a11])), (xj, .inl (cJ, 6, .inr (.inr (.inr (.inr jr))))), (xn, .inr (1, [.int y, .int ea, .int lo, .int jo, .int ta, .ref ns, .ref ne, .ref n7, .ref n8])), (ns, .inl (cI, 6, .inl sp)), (ne, .inl (cI, 6, .inl en)), (n7, .inl (cI, 6, .inl tY)), (n8, .inl (cI, 6, .inl tW)), (xw, .inr (1, [.int ((y + nI k) + 1), .int (if 0 < (if 0 < us t1 then upd us t1 (us t1 - 1) else us) t2 then we + 1 else we), .int (if 0 < us t1 then wl + 1 else wl), .int (if 0 < (if 0 < us t1 then upd us t1 (us t1 - 1) else us) t2 then wj + ((fw t2 (y + nI k)) - (ue t2)) else wj), .int ta, .ref w5, .ref w6, .ref w7, .ref w8])), (w5, .inl (cI, 6, .inl (if 0 < (if 0 < us t1 then upd us t1 (us t1 - 1) else us) t2 then upd (if 0 < us t1 then upd us t1 (us t1 - 1) else us) t2 ((if 0 < us t1 then upd us t1 (us t1 - 1) else us) t2 - 1) else (if 0 < us t1 then upd us t1 (us t1 - 1) else us)))), (w6, .inl (cI, 6, .inl (jfl (fun _ => 0) (if 0 < (if 0 < us t1 then upd us t1 (us t1 - 1) else us) t2 then upd ue t2 (ue t2 + 1) else ue) 6))), (w7, .inl (cI, 6, .inl (jfl tY utY 6))), (w8, .inl (cI, 6, .inl (jfl tW utW 6)))]) hP hD hFc_26 [7, 8, 9, 10, 11] [0, 1, 2, 3, 4, 5, 6] [0, 1, 2, 3, 4, 5, 6, 7, 8, 9, 10, 11] rfl rfl (by decide) (by decide) (by decide) (by decide) hkq hP1 rfl rfl rfl
    have hJ := hJ_0.keptA hJ_A (fun q h1 h2 => hS.2.1 q h1 h2)
    refine lv_iinc (v := nI (k + 1)) (lv' := [(4, .int (nI (k + 1))), (5, .int (nI t2)), (3, .int (nI q2)), (0, .ref x), (1, .int (nI ys))]) hx hb dX6_liveOn_92 hl (k := 4) rfl ((rfl : nI k + Int32.ofInt 1 = nI k + nI 1).trans (nI_add k 1)) (by decide) rfl (fun ls hl => ?_)
    refine lv_goto (tgt := 16) hx hb dX6_liveOn_95 (by decide) ?_
    have hP : va_P D vwCl [(x, .inr (6, [a0, a1, .ref xj, .int (nI n), .ref xn, a5, .ref xw, a7, a8, a9, a10, a11])), (xj, .inl (cJ, 6, .inr (.inr (.inr (.inr jr))))), (xn, .inr (1, [.int y, .int ea, .int lo, .int jo, .int ta, .ref ns, .ref ne, .ref n7, .ref n8])), (ns, .inl (cI, 6, .inl sp)), (ne, .inl (cI, 6, .inl en)), (n7, .inl (cI, 6, .inl tY)), (n8, .inl (cI, 6, .inl tW)), (xw, .inr (1, [.int (y + nI (k + 1)), .int (if 0 < (if 0 < us t1 then upd us t1 (us t1 - 1) else us) t2 then we + 1 else we), .int (if 0 < us t1 then wl + 1 else wl), .int (if 0 < (if 0 < us t1 then upd us t1 (us t1 - 1) else us) t2 then wj + ((fw t2 (y + nI k)) - (ue t2)) else wj), .int ta, .ref w5, .ref w6, .ref w7, .ref w8])), (w5, .inl (cI, 6, .inl (if 0 < (if 0 < us t1 then upd us t1 (us t1 - 1) else us) t2 then upd (if 0 < us t1 then upd us t1 (us t1 - 1) else us) t2 ((if 0 < us t1 then upd us t1 (us t1 - 1) else us) t2 - 1) else (if 0 < us t1 then upd us t1 (us t1 - 1) else us)))), (w6, .inl (cI, 6, .inl (jfl (fun _ => 0) (if 0 < (if 0 < us t1 then upd us t1 (us t1 - 1) else us) t2 then upd ue t2 (ue t2 + 1) else ue) 6))), (w7, .inl (cI, 6, .inl (jfl tY utY 6))), (w8, .inl (cI, 6, .inl (jfl tW utW 6)))] H := by rw [jy1]; exact hP
    have hD : va_D A [(x, .inr (6, [a0, a1, .ref xj, .int (nI n), .ref xn, a5, .ref xw, a7, a8, a9, a10, a11])), (xj, .inl (cJ, 6, .inr (.inr (.inr (.inr jr))))), (xn, .inr (1, [.int y, .int ea, .int lo, .int jo, .int ta, .ref ns, .ref ne, .ref n7, .ref n8])), (ns, .inl (cI, 6, .inl sp)), (ne, .inl (cI, 6, .inl en)), (n7, .inl (cI, 6, .inl tY)), (n8, .inl (cI, 6, .inl tW)), (xw, .inr (1, [.int (y + nI (k + 1)), .int (if 0 < (if 0 < us t1 then upd us t1 (us t1 - 1) else us) t2 then we + 1 else we), .int (if 0 < us t1 then wl + 1 else wl), .int (if 0 < (if 0 < us t1 then upd us t1 (us t1 - 1) else us) t2 then wj + ((fw t2 (y + nI k)) - (ue t2)) else wj), .int ta, .ref w5, .ref w6, .ref w7, .ref w8])), (w5, .inl (cI, 6, .inl (if 0 < (if 0 < us t1 then upd us t1 (us t1 - 1) else us) t2 then upd (if 0 < us t1 then upd us t1 (us t1 - 1) else us) t2 ((if 0 < us t1 then upd us t1 (us t1 - 1) else us) t2 - 1) else (if 0 < us t1 then upd us t1 (us t1 - 1) else us)))), (w6, .inl (cI, 6, .inl (jfl (fun _ => 0) (if 0 < (if 0 < us t1 then upd us t1 (us t1 - 1) else us) t2 then upd ue t2 (ue t2 + 1) else ue) 6))), (w7, .inl (cI, 6, .inl (jfl tY utY 6))), (w8, .inl (cI, 6, .inl (jfl tW utW 6)))] := jD_of hD rfl
    exact ih_16 (k + 1, q2, (if 0 < (if 0 < us t1 then upd us t1 (us t1 - 1) else us) t2 then upd (if 0 < us t1 then upd us t1 (us t1 - 1) else us) t2 ((if 0 < us t1 then upd us t1 (us t1 - 1) else us) t2 - 1) else (if 0 < us t1 then upd us t1 (us t1 - 1) else us)), jfl (fun _ => 0) (if 0 < (if 0 < us t1 then upd us t1 (us t1 - 1) else us) t2 then upd ue t2 (ue t2 + 1) else ue) 6, (if 0 < (if 0 < us t1 then upd us t1 (us t1 - 1) else us) t2 then wj + ((fw t2 (y + nI k)) - (ue t2)) else wj), (if 0 < (if 0 < us t1 then upd us t1 (us t1 - 1) else us) t2 then we + 1 else we), (if 0 < us t1 then wl + 1 else wl)) _ _ _ ⟨hP, hD, hJ, hS, lv_sub hl [3, 4, 2, 0] rfl, (by omega), hq2l, (by show cst _ _ _ (cts fw n y (jfl sp usp 6, jfl en uen 6, jo, q0) k) = _; rw [hst]; subst ht1 ht2 hq2 hq1; rfl)⟩ (by dsimp only; omega)

set_option maxHeartbeats 4000000 in
set_option maxRecDepth 100000 in
theorem c_times_out1 (l : Launch) (D : va_G) (cI cJ : ClassId) (x : Nat) (y0 : Int32) (s0 : Int32) (w0 : Int32) (h9 : y0 < 1 ∨ 60 < y0) : jRi l yX6_times wsX6_times ({ frames := 0, cells := 0, slots := 0, locals := 0 }) [.ref x, .int y0, .int s0, .int w0] D cI cJ (fun H => True) (fun r => r = -102) := by
  intro sz
  refine Met.ofW (cc := cX6_times) (maxL := 5) (ret := (some .int)) (by decide) rfl ?_
  intro p e s m args below meth c s₁ B hml hv
  obtain ⟨rfl, hsz, hT, _⟩ := hv
  have hK := hT.1
  have hx := B.exec
  have hb := B.bytes
  have hr := B.returns
  have hts := atoms_spec (ws := wsX6_times) B.pre
  have hown : s.vm.findClass RX6 = some m.cls := findClass_of_methodNamed B.named
  have hlocks := B.notSynchronized
  subst hsz
  generalize hAe : va_A [] s.heap.size = A
  have hA : ∀ q : Nat, s.heap.size ≤ q → A q := fun q h => by rw [← hAe]; exact Or.inr h
  have hS : va_S A s.heap s.heap [] := va_S.rf
  have hl := lv_entry ([.ref x, .int y0, .int s0, .int w0] : List Value) (n := 5) (Nat.le_of_ble_eq_true rfl)
  rw [lg_entry_eq]
  generalize (lg_sl ([.ref x, .int y0, .int s0, .int w0]) ++ List.replicate (5 - (lg_sl ([.ref x, .int y0, .int s0, .int w0])).length) Slot.unset).toArray = ls at hl ⊢
  have hl : lv_has ls 5 [(0, .ref x), (1, .int y0), (2, .int s0), (3, .int w0)] := hl
  refine lv_iload_n hx hb dX6_times_0 rfl (lv_at hl 1 rfl) ?_
  refine lv_iconst (v := 1) hx hb dX6_times_1 (by decide) ?_
  refine lv_icmp_lt (tgt := 24) hx hb dX6_times_2 (by decide) (fun c_1 => ?_) (fun c_1 => ?_)
  · skip
    refine lv_bipush (v := (-102)) hx hb dX6_times_24 (by decide) ?_
    exact W.iret (v := (-102)) hx hb hr (fun t ht hW => ⟨⟨(-102), (), rfl, rfl, trivial⟩, hS.F ht⟩) hS.2.2 dX6_times_26
  · skip
    refine lv_iload_n hx hb dX6_times_5 rfl (lv_at hl 1 rfl) ?_
    refine lv_bipush (v := 60) hx hb dX6_times_6 (by decide) ?_
    refine lv_icmp_gt (tgt := 24) hx hb dX6_times_8 (by decide) (fun c_2 => ?_) (fun c_2 => ?_)
    · skip
      refine lv_bipush (v := (-102)) hx hb dX6_times_24 (by decide) ?_
      exact W.iret (v := (-102)) hx hb hr (fun t ht hW => ⟨⟨(-102), (), rfl, rfl, trivial⟩, hS.F ht⟩) hS.2.2 dX6_times_26
    · skip
      exact (h9.elim (fun h => c_1 h) (fun h => c_2 h)).elim

set_option maxHeartbeats 4000000 in
set_option maxRecDepth 100000 in
theorem c_times_out2 (l : Launch) (D : va_G) (cI cJ : ClassId) (x : Nat) (y0 : Int32) (s0 : Int32) (w0 : Int32) (h1 : 1 ≤ y0) (h2 : y0 ≤ 60) (h9 : s0 < 0) : jRi l yX6_times wsX6_times ({ frames := 0, cells := 0, slots := 0, locals := 0 }) [.ref x, .int y0, .int s0, .int w0] D cI cJ (fun H => True) (fun r => r = -102) := by
  intro sz
  refine Met.ofW (cc := cX6_times) (maxL := 5) (ret := (some .int)) (by decide) rfl ?_
  intro p e s m args below meth c s₁ B hml hv
  obtain ⟨rfl, hsz, hT, _⟩ := hv
  have hK := hT.1
  have hx := B.exec
  have hb := B.bytes
  have hr := B.returns
  have hts := atoms_spec (ws := wsX6_times) B.pre
  have hown : s.vm.findClass RX6 = some m.cls := findClass_of_methodNamed B.named
  have hlocks := B.notSynchronized
  subst hsz
  generalize hAe : va_A [] s.heap.size = A
  have hA : ∀ q : Nat, s.heap.size ≤ q → A q := fun q h => by rw [← hAe]; exact Or.inr h
  have hS : va_S A s.heap s.heap [] := va_S.rf
  have hl := lv_entry ([.ref x, .int y0, .int s0, .int w0] : List Value) (n := 5) (Nat.le_of_ble_eq_true rfl)
  rw [lg_entry_eq]
  generalize (lg_sl ([.ref x, .int y0, .int s0, .int w0]) ++ List.replicate (5 - (lg_sl ([.ref x, .int y0, .int s0, .int w0])).length) Slot.unset).toArray = ls at hl ⊢
  have hl : lv_has ls 5 [(0, .ref x), (1, .int y0), (2, .int s0), (3, .int w0)] := hl
  refine lv_iload_n hx hb dX6_times_0 rfl (lv_at hl 1 rfl) ?_
  refine lv_iconst (v := 1) hx hb dX6_times_1 (by decide) ?_
  refine lv_icmp_lt (tgt := 24) hx hb dX6_times_2 (by decide) (fun c_1 => ?_) (fun c_1 => ?_)
  · skip
    exact (jlt_le c_1 h1).elim
  · skip
    refine lv_iload_n hx hb dX6_times_5 rfl (lv_at hl 1 rfl) ?_
    refine lv_bipush (v := 60) hx hb dX6_times_6 (by decide) ?_
    refine lv_icmp_gt (tgt := 24) hx hb dX6_times_8 (by decide) (fun c_2 => ?_) (fun c_2 => ?_)
    · skip
      exact (jlt_le c_2 h2).elim
    · skip
      refine lv_iload_n hx hb dX6_times_11 rfl (lv_at hl 2 rfl) ?_
      refine lv_if_lt (tgt := 24) hx hb dX6_times_12 (by decide) (fun c_3 => ?_) (fun c_3 => ?_)
      · skip
        refine lv_bipush (v := (-102)) hx hb dX6_times_24 (by decide) ?_
        exact W.iret (v := (-102)) hx hb hr (fun t ht hW => ⟨⟨(-102), (), rfl, rfl, trivial⟩, hS.F ht⟩) hS.2.2 dX6_times_26
      · skip
        exact absurd h9 c_3

set_option maxHeartbeats 4000000 in
set_option maxRecDepth 100000 in
theorem c_times_out3 (l : Launch) (D : va_G) (cI cJ : ClassId) (x : Nat) (y0 : Int32) (s0 : Int32) (w0 : Int32) (h1 : 1 ≤ y0) (h2 : y0 ≤ 60) (h3 : ¬ s0 < 0) (h9 : w0 < 0 ∨ 2 < w0) : jRi l yX6_times wsX6_times ({ frames := 0, cells := 0, slots := 0, locals := 0 }) [.ref x, .int y0, .int s0, .int w0] D cI cJ (fun H => True) (fun r => r = -102) := by
  intro sz
  refine Met.ofW (cc := cX6_times) (maxL := 5) (ret := (some .int)) (by decide) rfl ?_
  intro p e s m args below meth c s₁ B hml hv
  obtain ⟨rfl, hsz, hT, _⟩ := hv
  have hK := hT.1
  have hx := B.exec
  have hb := B.bytes
  have hr := B.returns
  have hts := atoms_spec (ws := wsX6_times) B.pre
  have hown : s.vm.findClass RX6 = some m.cls := findClass_of_methodNamed B.named
  have hlocks := B.notSynchronized
  subst hsz
  generalize hAe : va_A [] s.heap.size = A
  have hA : ∀ q : Nat, s.heap.size ≤ q → A q := fun q h => by rw [← hAe]; exact Or.inr h
  have hS : va_S A s.heap s.heap [] := va_S.rf
  have hl := lv_entry ([.ref x, .int y0, .int s0, .int w0] : List Value) (n := 5) (Nat.le_of_ble_eq_true rfl)
  rw [lg_entry_eq]
  generalize (lg_sl ([.ref x, .int y0, .int s0, .int w0]) ++ List.replicate (5 - (lg_sl ([.ref x, .int y0, .int s0, .int w0])).length) Slot.unset).toArray = ls at hl ⊢
  have hl : lv_has ls 5 [(0, .ref x), (1, .int y0), (2, .int s0), (3, .int w0)] := hl
  refine lv_iload_n hx hb dX6_times_0 rfl (lv_at hl 1 rfl) ?_
  refine lv_iconst (v := 1) hx hb dX6_times_1 (by decide) ?_
  refine lv_icmp_lt (tgt := 24) hx hb dX6_times_2 (by decide) (fun c_1 => ?_) (fun c_1 => ?_)
  · skip
    exact (jlt_le c_1 h1).elim
  · skip
    refine lv_iload_n hx hb dX6_times_5 rfl (lv_at hl 1 rfl) ?_
    refine lv_bipush (v := 60) hx hb dX6_times_6 (by decide) ?_
    refine lv_icmp_gt (tgt := 24) hx hb dX6_times_8 (by decide) (fun c_2 => ?_) (fun c_2 => ?_)
    · skip
      exact (jlt_le c_2 h2).elim
    · skip
      refine lv_iload_n hx hb dX6_times_11 rfl (lv_at hl 2 rfl) ?_
      refine lv_if_lt (tgt := 24) hx hb dX6_times_12 (by decide) (fun c_3 => ?_) (fun c_3 => ?_)
      · skip
        exact absurd c_3 h3
      · skip
        refine lv_iload_n hx hb dX6_times_15 rfl (lv_at hl 3 rfl) ?_
        refine lv_if_lt (tgt := 24) hx hb dX6_times_16 (by decide) (fun c_4 => ?_) (fun c_4 => ?_)
        · skip
          refine lv_bipush (v := (-102)) hx hb dX6_times_24 (by decide) ?_
          exact W.iret (v := (-102)) hx hb hr (fun t ht hW => ⟨⟨(-102), (), rfl, rfl, trivial⟩, hS.F ht⟩) hS.2.2 dX6_times_26
        · skip
          refine lv_iload_n hx hb dX6_times_19 rfl (lv_at hl 3 rfl) ?_
          refine lv_iconst (v := 2) hx hb dX6_times_20 (by decide) ?_
          refine lv_icmp_le (tgt := 27) hx hb dX6_times_21 (by decide) (fun c_5 => ?_) (fun c_5 => ?_)
          · skip
            exact (h9.elim (fun h => c_4 h) (fun h => jlt_le h c_5)).elim
          · skip
            refine lv_bipush (v := (-102)) hx hb dX6_times_24 (by decide) ?_
            exact W.iret (v := (-102)) hx hb hr (fun t ht hW => ⟨⟨(-102), (), rfl, rfl, trivial⟩, hS.F ht⟩) hS.2.2 dX6_times_26

set_option maxHeartbeats 4000000 in
set_option maxRecDepth 100000 in
theorem c_times_n (l : Launch) (D : va_G) (cI cJ : ClassId) (x : Nat) (n : Nat) (ys : Nat) (q0 : Nat) (cq : Nat) (a0 : Value) (a1 : Value) (a2 : Value) (a4 : Value) (a5 : Value) (a6 : Value) (a7 : Value) (a8 : Value) (a9 : Value) (a10 : Value) (a11 : Value) (hy1 : 1 ≤ ys) (hys : ys ≤ 60) (hq0 : q0 < 2147483648) (hc : cq < 3) (hn0 : n = 0) : jRi l yX6_times wsX6_times ({ frames := 1, cells := 0, slots := 0, locals := 20 }) [.ref x, .int (nI ys), .int (nI q0), .int (nI cq)] D cI cJ (fun H => va_P D vwCl [(x, .inr (6, [a0, a1, a2, .int (nI n), a4, a5, a6, a7, a8, a9, a10, a11]))] H) (fun r => r = -103) := by
  intro sz
  refine Met.ofW (cc := cX6_times) (maxL := 5) (ret := (some .int)) (by decide) rfl ?_
  intro p e s m args below meth c s₁ B hml hv
  obtain ⟨rfl, hsz, hT, hPr⟩ := hv
  have hK := hT.1
  have hx := B.exec
  have hb := B.bytes
  have hr := B.returns
  have hts := atoms_spec (ws := wsX6_times) B.pre
  have hown : s.vm.findClass RX6 = some m.cls := findClass_of_methodNamed B.named
  have hlocks := B.notSynchronized
  subst hsz
  generalize hAe : va_A [] s.heap.size = A
  have hA : ∀ q : Nat, s.heap.size ≤ q → A q := fun q h => by rw [← hAe]; exact Or.inr h
  have hS : va_S A s.heap s.heap [] := va_S.rf
  have hl := lv_entry ([.ref x, .int (nI ys), .int (nI q0), .int (nI cq)] : List Value) (n := 5) (Nat.le_of_ble_eq_true rfl)
  rw [lg_entry_eq]
  generalize (lg_sl ([.ref x, .int (nI ys), .int (nI q0), .int (nI cq)]) ++ List.replicate (5 - (lg_sl ([.ref x, .int (nI ys), .int (nI q0), .int (nI cq)])).length) Slot.unset).toArray = ls at hl ⊢
  have hl : lv_has ls 5 [(0, .ref x), (1, .int (nI ys)), (2, .int (nI q0)), (3, .int (nI cq))] := hl
  refine lv_iload_n hx hb dX6_times_0 rfl (lv_at hl 1 rfl) ?_
  refine lv_iconst (v := 1) hx hb dX6_times_1 (by decide) ?_
  refine lv_icmp_lt (tgt := 24) hx hb dX6_times_2 (by decide) (fun c_1 => ?_) (fun c_1 => ?_)
  · skip
    replace c_1 : ys < 1 := (nI_ltI (a := ys) (b := 1) (by omega) (by omega)).mp c_1
    exact absurd c_1 (by omega)
  · skip
    replace c_1 : ¬ ys < 1 := fun h => c_1 ((nI_ltI (a := ys) (b := 1) (by omega) (by omega)).mpr h)
    refine lv_iload_n hx hb dX6_times_5 rfl (lv_at hl 1 rfl) ?_
    refine lv_bipush (v := 60) hx hb dX6_times_6 (by decide) ?_
    refine lv_icmp_gt (tgt := 24) hx hb dX6_times_8 (by decide) (fun c_2 => ?_) (fun c_2 => ?_)
    · skip
      replace c_2 : 60 < ys := (nI_ltI (a := 60) (b := ys) (by omega) (by omega)).mp c_2
      exact absurd c_2 (by omega)
    · skip
      replace c_2 : ¬ 60 < ys := fun h => c_2 ((nI_ltI (a := 60) (b := ys) (by omega) (by omega)).mpr h)
      refine lv_iload_n hx hb dX6_times_11 rfl (lv_at hl 2 rfl) ?_
      refine lv_if_lt (tgt := 24) hx hb dX6_times_12 (by decide) (fun c_3 => ?_) (fun c_3 => ?_)
      · skip
        replace c_3 : q0 < 0 := (nI_ltI (a := q0) (b := 0) (by omega) (by omega)).mp c_3
        exact absurd c_3 (by omega)
      · skip
        replace c_3 : ¬ q0 < 0 := fun h => c_3 ((nI_ltI (a := q0) (b := 0) (by omega) (by omega)).mpr h)
        refine lv_iload_n hx hb dX6_times_15 rfl (lv_at hl 3 rfl) ?_
        refine lv_if_lt (tgt := 24) hx hb dX6_times_16 (by decide) (fun c_4 => ?_) (fun c_4 => ?_)
        · skip
          replace c_4 : cq < 0 := (nI_ltI (a := cq) (b := 0) (by omega) (by omega)).mp c_4
          exact absurd c_4 (by omega)
        · skip
          replace c_4 : ¬ cq < 0 := fun h => c_4 ((nI_ltI (a := cq) (b := 0) (by omega) (by omega)).mpr h)
          refine lv_iload_n hx hb dX6_times_19 rfl (lv_at hl 3 rfl) ?_
          refine lv_iconst (v := 2) hx hb dX6_times_20 (by decide) ?_
          refine lv_icmp_le (tgt := 27) hx hb dX6_times_21 (by decide) (fun c_5 => ?_) (fun c_5 => ?_)
          · skip
            replace c_5 : cq ≤ 2 := (nI_leI (a := cq) (b := 2) (by omega) (by omega)).mp c_5
            refine lv_aload_n hx hb dX6_times_27 rfl (lv_at hl 0 rfl) ?_
            have hPc_6 := hPr.sub (ws' := [(x, .inr (6, [a0, a1, a2, .int (nI n), a4, a5, a6, a7, a8, a9, a10, a11]))]) [0] rfl
            refine jcalli (va_runV (As := []) (rest := []) ⟨hx, hb, hml, hown, hts⟩ (c_hasNoLarder_y l D cI cJ x n a0 a1 a2 a4 a5 a6 a7 a8 a9 a10 a11 hn0 s.heap.size) (cwV 0 hts gX6_times_X6_hasNoLarder rfl rfl rfl (by decide +kernel) ⟨Nat.le_of_ble_eq_true rfl, Nat.le_of_ble_eq_true rfl⟩) (jpreV hT (va_recv hK hPr (ci := 6) (q0 := 0) rfl rfl) hPc_6) rfl rfl hl.1 rfl (lv_room (Nat.le_of_ble_eq_true rfl)) dX6_times_28 ⟨(Nat.zero_le _), (Nat.zero_le _)⟩) hS hA (fun r_7 H locs hw_r_7 hkq hS => ?_)
            try dsimp only at hw_r_7
            have hPr := jkeep hPr hkq
            subst hw_r_7
            refine lv_if_eq (tgt := 37) hx hb dX6_times_31 (by decide) (fun c_8 => ?_) (fun c_8 => ?_)
            · skip
              exact absurd c_8 (by decide)
            · skip
              refine lv_bipush (v := (-103)) hx hb dX6_times_34 (by decide) ?_
              exact W.iret (v := (-103)) hx hb hr (fun t ht hW => ⟨⟨(-103), (), rfl, rfl, trivial⟩, hS.F ht⟩) hS.2.2 dX6_times_36
          · skip
            replace c_5 : ¬ cq ≤ 2 := fun h => c_5 ((nI_leI (a := cq) (b := 2) (by omega) (by omega)).mpr h)
            exact absurd c_5 (by omega)

set_option maxHeartbeats 4000000 in
set_option maxRecDepth 100000 in
theorem c_times_ok (l : Launch) (D : va_G) (cI cJ : ClassId) (x : Nat) (xj : Nat) (xn : Nat) (ns : Nat) (ne : Nat) (n7 : Nat) (n8 : Nat) (xw : Nat) (w5 : Nat) (w6 : Nat) (w7 : Nat) (w8 : Nat) (n : Nat) (a0 : Value) (a1 : Value) (a5 : Value) (a7 : Value) (a8 : Value) (a9 : Value) (a10 : Value) (a11 : Value) (jr : Nat → Option Nat) (jk : Nat → Nat) (jg : Nat → Int32) (js : Nat → Int32) (jm : Nat → Int32) (fw : Nat → Int32 → Int32) (y : Int32) (ea : Int32) (lo : Int32) (jo : Int32) (ta : Int32) (sp : Nat → Int32) (en : Nat → Int32) (tY : Nat → Int32) (tW : Nat → Int32) (uy : Int32) (uea : Int32) (ulo : Int32) (ujo : Int32) (uta : Int32) (usp : Nat → Int32) (uen : Nat → Int32) (utY : Nat → Int32) (utW : Nat → Int32) (ys : Nat) (q0 : Nat) (cq : Nat) (hn0 : 0 < n) (hn6 : n ≤ 6) (hfw : ∀ i : Nat, i < n → ∀ z : Int32, cfw (jk i) (jg i) (jm i) z = fw i z) (hap : ∀ i a : Nat, i < n → jr i = some a → a ∉ [x, xj, xn, ns, ne, n7, n8, xw, w5, w6, w7, w8]) (hy1 : 1 ≤ ys) (hys : ys ≤ 60) (hq0 : q0 < 2147483648) (hc : cq < 3) : jWi l yX6_times wsX6_times ({ frames := 4, cells := 0, slots := 0, locals := 92 }) 0 0 [.ref x, .int (nI ys), .int (nI q0), .int (nI cq)] D cI cJ [(x, .inr (6, [a0, a1, .ref xj, .int (nI n), .ref xn, a5, .ref xw, a7, a8, a9, a10, a11])), (xj, .inl (cJ, 6, .inr (.inr (.inr (.inr jr))))), (xn, .inr (1, [.int y, .int ea, .int lo, .int jo, .int ta, .ref ns, .ref ne, .ref n7, .ref n8])), (ns, .inl (cI, 6, .inl sp)), (ne, .inl (cI, 6, .inl en)), (n7, .inl (cI, 6, .inl tY)), (n8, .inl (cI, 6, .inl tW)), (xw, .inr (1, [.int uy, .int uea, .int ulo, .int ujo, .int uta, .ref w5, .ref w6, .ref w7, .ref w8])), (w5, .inl (cI, 6, .inl usp)), (w6, .inl (cI, 6, .inl uen)), (w7, .inl (cI, 6, .inl utY)), (w8, .inl (cI, 6, .inl utW))] (fun H => jJ D n jr jk jg js jm H) (fun r H => ∃ (we wl wj : Int32) (us ue : Nat → Int32) (q : Nat), cts fw n y (jfl sp usp 6, jfl en uen 6, jo, q0) ys = (us, ue, wj, q) ∧ r = jtm (jsum us 6) (wj + 2000) (nI q) cq ∧ va_P D vwCl [(x, .inr (6, [a0, a1, .ref xj, .int (nI n), .ref xn, a5, .ref xw, a7, a8, a9, a10, a11])), (xj, .inl (cJ, 6, .inr (.inr (.inr (.inr jr))))), (xn, .inr (1, [.int y, .int ea, .int lo, .int jo, .int ta, .ref ns, .ref ne, .ref n7, .ref n8])), (ns, .inl (cI, 6, .inl sp)), (ne, .inl (cI, 6, .inl en)), (n7, .inl (cI, 6, .inl tY)), (n8, .inl (cI, 6, .inl tW)), (xw, .inr (1, [.int (y + nI ys), .int we, .int wl, .int wj, .int ta, .ref w5, .ref w6, .ref w7, .ref w8])), (w5, .inl (cI, 6, .inl us)), (w6, .inl (cI, 6, .inl ue)), (w7, .inl (cI, 6, .inl (jfl tY utY 6))), (w8, .inl (cI, 6, .inl (jfl tW utW 6)))] H) := by
  intro sz
  refine Met.ofW (cc := cX6_times) (maxL := 5) (ret := (some .int)) (by decide) rfl ?_
  intro p e s m args below meth c s₁ B hml hv
  obtain ⟨rfl, hsz, hT, hP, hD0, hJ⟩ := hv
  have hK := hT.1
  have hx := B.exec
  have hb := B.bytes
  have hr := B.returns
  have hts := atoms_spec (ws := wsX6_times) B.pre
  have hown : s.vm.findClass RX6 = some m.cls := findClass_of_methodNamed B.named
  have hlocks := B.notSynchronized
  subst hsz
  have hD := hD0.self (sz := s.heap.size)
  generalize hAe : va_A [(x, .inr (6, [a0, a1, .ref xj, .int (nI n), .ref xn, a5, .ref xw, a7, a8, a9, a10, a11])), (xj, .inl (cJ, 6, .inr (.inr (.inr (.inr jr))))), (xn, .inr (1, [.int y, .int ea, .int lo, .int jo, .int ta, .ref ns, .ref ne, .ref n7, .ref n8])), (ns, .inl (cI, 6, .inl sp)), (ne, .inl (cI, 6, .inl en)), (n7, .inl (cI, 6, .inl tY)), (n8, .inl (cI, 6, .inl tW)), (xw, .inr (1, [.int uy, .int uea, .int ulo, .int ujo, .int uta, .ref w5, .ref w6, .ref w7, .ref w8])), (w5, .inl (cI, 6, .inl usp)), (w6, .inl (cI, 6, .inl uen)), (w7, .inl (cI, 6, .inl utY)), (w8, .inl (cI, 6, .inl utW))] s.heap.size = A at hD ⊢
  have hA : ∀ q : Nat, s.heap.size ≤ q → A q := fun q h => by rw [← hAe]; exact Or.inr h
  have hS : va_S A s.heap s.heap [] := va_S.rf
  have hl := lv_entry ([.ref x, .int (nI ys), .int (nI q0), .int (nI cq)] : List Value) (n := 5) (Nat.le_of_ble_eq_true rfl)
  rw [lg_entry_eq]
  generalize (lg_sl ([.ref x, .int (nI ys), .int (nI q0), .int (nI cq)]) ++ List.replicate (5 - (lg_sl ([.ref x, .int (nI ys), .int (nI q0), .int (nI cq)])).length) Slot.unset).toArray = ls at hl ⊢
  have hl : lv_has ls 5 [(0, .ref x), (1, .int (nI ys)), (2, .int (nI q0)), (3, .int (nI cq))] := hl
  rcases (show cq = 0 ∨ cq = 1 ∨ cq = 2 from by omega) with rfl | rfl | rfl
  · skip
    have hl : lv_has ls 5 [(0, .ref x), (1, .int (nI ys)), (2, .int (nI q0)), (3, .int 0)] := hl
    refine lv_iload_n hx hb dX6_times_0 rfl (lv_at hl 1 rfl) ?_
    refine lv_iconst (v := 1) hx hb dX6_times_1 (by decide) ?_
    refine lv_icmp_lt (tgt := 24) hx hb dX6_times_2 (by decide) (fun c_1 => ?_) (fun c_1 => ?_)
    · skip
      replace c_1 : ys < 1 := (nI_ltI (a := ys) (b := 1) (by omega) (by omega)).mp c_1
      exact absurd c_1 (by omega)
    · skip
      replace c_1 : ¬ ys < 1 := fun h => c_1 ((nI_ltI (a := ys) (b := 1) (by omega) (by omega)).mpr h)
      refine lv_iload_n hx hb dX6_times_5 rfl (lv_at hl 1 rfl) ?_
      refine lv_bipush (v := 60) hx hb dX6_times_6 (by decide) ?_
      refine lv_icmp_gt (tgt := 24) hx hb dX6_times_8 (by decide) (fun c_2 => ?_) (fun c_2 => ?_)
      · skip
        replace c_2 : 60 < ys := (nI_ltI (a := 60) (b := ys) (by omega) (by omega)).mp c_2
        exact absurd c_2 (by omega)
      · skip
        replace c_2 : ¬ 60 < ys := fun h => c_2 ((nI_ltI (a := 60) (b := ys) (by omega) (by omega)).mpr h)
        refine lv_iload_n hx hb dX6_times_11 rfl (lv_at hl 2 rfl) ?_
        refine lv_if_lt (tgt := 24) hx hb dX6_times_12 (by decide) (fun c_3 => ?_) (fun c_3 => ?_)
        · skip
          replace c_3 : q0 < 0 := (nI_ltI (a := q0) (b := 0) (by omega) (by omega)).mp c_3
          exact absurd c_3 (by omega)
        · skip
          replace c_3 : ¬ q0 < 0 := fun h => c_3 ((nI_ltI (a := q0) (b := 0) (by omega) (by omega)).mpr h)
          refine lv_iload_n hx hb dX6_times_15 rfl (lv_at hl 3 rfl) ?_
          refine lv_if_lt (tgt := 24) hx hb dX6_times_16 (by decide) (fun c_4 => ?_) (fun c_4 => ?_)
          · skip
            exact absurd c_4 (by decide)
          · skip
            refine lv_iload_n hx hb dX6_times_19 rfl (lv_at hl 3 rfl) ?_
            refine lv_iconst (v := 2) hx hb dX6_times_20 (by decide) ?_
            refine lv_icmp_le (tgt := 27) hx hb dX6_times_21 (by decide) (fun c_5 => ?_) (fun c_5 => ?_)
            · skip
              refine lv_aload_n hx hb dX6_times_27 rfl (lv_at hl 0 rfl) ?_
              have hPc_6 := hP.sub (ws' := [(x, .inr (6, [a0, a1, .ref xj, .int (nI n), .ref xn, a5, .ref xw, a7, a8, a9, a10, a11]))]) [0] rfl
              refine jcalli (va_runV (As := []) (rest := []) ⟨hx, hb, hml, hown, hts⟩ (c_hasNoLarder_n l D cI cJ x n a0 a1 (.ref xj) (.ref xn) a5 (.ref xw) a7 a8 a9 a10 a11 hn0 hn6 s.heap.size) (cwV 0 hts gX6_times_X6_hasNoLarder rfl rfl rfl (by decide +kernel) ⟨Nat.le_of_ble_eq_true rfl, Nat.le_of_ble_eq_true rfl⟩) (jpreV hT (va_recv hK hP (ci := 6) (q0 := 0) rfl rfl) hPc_6) rfl rfl hl.1 rfl (lv_room (Nat.le_of_ble_eq_true rfl)) dX6_times_28 ⟨(Nat.zero_le _), (Nat.zero_le _)⟩) hS hA (fun r_7 H locs hw_r_7 hkq hS => ?_)
              try dsimp only at hw_r_7
              have hP := jkeep hP hkq
              have hJ := hJ.kept hkq
              subst hw_r_7
              refine lv_if_eq (tgt := 37) hx hb dX6_times_31 (by decide) (fun c_8 => ?_) (fun c_8 => ?_)
              · skip
                refine lv_aload_n hx hb dX6_times_37 rfl (lv_at hl 0 rfl) ?_
                refine lv_iload_n hx hb dX6_times_38 rfl (lv_at hl 1 rfl) ?_
                refine lv_iload_n hx hb dX6_times_39 rfl (lv_at hl 2 rfl) ?_
                have hPc_9 := hP.sub (ws' := [(x, .inr (6, [a0, a1, .ref xj, .int (nI n), .ref xn, a5, .ref xw, a7, a8, a9, a10, a11])), (xj, .inl (cJ, 6, .inr (.inr (.inr (.inr jr))))), (xn, .inr (1, [.int y, .int ea, .int lo, .int jo, .int ta, .ref ns, .ref ne, .ref n7, .ref n8])), (ns, .inl (cI, 6, .inl sp)), (ne, .inl (cI, 6, .inl en)), (n7, .inl (cI, 6, .inl tY)), (n8, .inl (cI, 6, .inl tW)), (xw, .inr (1, [.int uy, .int uea, .int ulo, .int ujo, .int uta, .ref w5, .ref w6, .ref w7, .ref w8])), (w5, .inl (cI, 6, .inl usp)), (w6, .inl (cI, 6, .inl uen)), (w7, .inl (cI, 6, .inl utY)), (w8, .inl (cI, 6, .inl utW))]) [0, 1, 2, 3, 4, 5, 6, 7, 8, 9, 10, 11] rfl
                have hDc_10 := hD.sub (ws' := [(x, .inr (6, [a0, a1, .ref xj, .int (nI n), .ref xn, a5, .ref xw, a7, a8, a9, a10, a11])), (xj, .inl (cJ, 6, .inr (.inr (.inr (.inr jr))))), (xn, .inr (1, [.int y, .int ea, .int lo, .int jo, .int ta, .ref ns, .ref ne, .ref n7, .ref n8])), (ns, .inl (cI, 6, .inl sp)), (ne, .inl (cI, 6, .inl en)), (n7, .inl (cI, 6, .inl tY)), (n8, .inl (cI, 6, .inl tW)), (xw, .inr (1, [.int uy, .int uea, .int ulo, .int ujo, .int uta, .ref w5, .ref w6, .ref w7, .ref w8])), (w5, .inl (cI, 6, .inl usp)), (w6, .inl (cI, 6, .inl uen)), (w7, .inl (cI, 6, .inl utY)), (w8, .inl (cI, 6, .inl utW))]) [0, 1, 2, 3, 4, 5, 6, 7, 8, 9, 10, 11] (by decide) rfl
                have hFc_11 := va_free (wc := [(x, .inr (6, [a0, a1, .ref xj, .int (nI n), .ref xn, a5, .ref xw, a7, a8, a9, a10, a11])), (xj, .inl (cJ, 6, .inr (.inr (.inr (.inr jr))))), (xn, .inr (1, [.int y, .int ea, .int lo, .int jo, .int ta, .ref ns, .ref ne, .ref n7, .ref n8])), (ns, .inl (cI, 6, .inl sp)), (ne, .inl (cI, 6, .inl en)), (n7, .inl (cI, 6, .inl tY)), (n8, .inl (cI, 6, .inl tW)), (xw, .inr (1, [.int uy, .int uea, .int ulo, .int ujo, .int uta, .ref w5, .ref w6, .ref w7, .ref w8])), (w5, .inl (cI, 6, .inl usp)), (w6, .inl (cI, 6, .inl uen)), (w7, .inl (cI, 6, .inl utY)), (w8, .inl (cI, 6, .inl utW))]) hD hS hA [0, 1, 2, 3, 4, 5, 6, 7, 8, 9, 10, 11] rfl
                refine jcallWi (post := fun r H => ∃ (we wl wj : Int32) (us ue : Nat → Int32) (q : Nat), cts fw n y (jfl sp usp 6, jfl en uen 6, jo, q0) ys = (us, ue, wj, q) ∧ q < 2147483648 ∧ r = nI q ∧ va_P D vwCl [(x, .inr (6, [a0, a1, .ref xj, .int (nI n), .ref xn, a5, .ref xw, a7, a8, a9, a10, a11])), (xj, .inl (cJ, 6, .inr (.inr (.inr (.inr jr))))), (xn, .inr (1, [.int y, .int ea, .int lo, .int jo, .int ta, .ref ns, .ref ne, .ref n7, .ref n8])), (ns, .inl (cI, 6, .inl sp)), (ne, .inl (cI, 6, .inl en)), (n7, .inl (cI, 6, .inl tY)), (n8, .inl (cI, 6, .inl tW)), (xw, .inr (1, [.int (y + nI ys), .int we, .int wl, .int wj, .int ta, .ref w5, .ref w6, .ref w7, .ref w8])), (w5, .inl (cI, 6, .inl us)), (w6, .inl (cI, 6, .inl ue)), (w7, .inl (cI, 6, .inl (jfl tY utY 6))), (w8, .inl (cI, 6, .inl (jfl tW utW 6)))] H) (va_runV (As := [.int (nI ys), .int (nI q0)]) (rest := []) ⟨hx, hb, hml, hown, hts⟩ (c_liveOn l D cI cJ x xj xn ns ne n7 n8 xw w5 w6 w7 w8 n a0 a1 a5 a7 a8 a9 a10 a11 jr jk jg js jm fw y ea lo jo ta sp en tY tW uy uea ulo ujo uta usp uen utY utW ys q0 hn0 hn6 hfw hap hys hq0 H.size) (cwV 2 hts gX6_times_X6_liveOn rfl rfl rfl (by decide +kernel) ⟨Nat.le_of_ble_eq_true rfl, Nat.le_of_ble_eq_true rfl⟩) (jpreV hT (va_recv hK hP (ci := 6) (q0 := 0) rfl rfl) ⟨hPc_9, hDc_10.weaken (fun _ _ _ _ => trivial), hJ⟩) rfl rfl hl.1 rfl (lv_room (Nat.le_of_ble_eq_true rfl)) dX6_times_40 ⟨(Nat.zero_le _), (Nat.zero_le _)⟩) hS hFc_11 (fun r_12 H locs hw_r_12 hz hkq hS => ?_)
                obtain ⟨we, wl, wj, us, ue, q, hst, hq9, hr9, hP1⟩ := hw_r_12
                obtain ⟨hP, hD⟩ := jjoin (wc := [(x, .inr (6, [a0, a1, .ref xj, .int (nI n), .ref xn, a5, .ref xw, a7, a8, a9, a10, a11])), (xj, .inl (cJ, 6, .inr (.inr (.inr (.inr jr))))), (xn, .inr (1, [.int y, .int ea, .int lo, .int jo, .int ta, .ref ns, .ref ne, .ref n7, .ref n8])), (ns, .inl (cI, 6, .inl sp)), (ne, .inl (cI, 6, .inl en)), (n7, .inl (cI, 6, .inl tY)), (n8, .inl (cI, 6, .inl tW)), (xw, .inr (1, [.int uy, .int uea, .int ulo, .int ujo, .int uta, .ref w5, .ref w6, .ref w7, .ref w8])), (w5, .inl (cI, 6, .inl usp)), (w6, .inl (cI, 6, .inl uen)), (w7, .inl (cI, 6, .inl utY)), (w8, .inl (cI, 6, .inl utW))]) (wr := []) (w1 := [(x, .inr (6, [a0, a1, .ref xj, .int (nI n), .ref xn, a5, .ref xw, a7, a8, a9, a10, a11])), (xj, .inl (cJ, 6, .inr (.inr (.inr (.inr jr))))), (xn, .inr (1, [.int y, .int ea, .int lo, .int jo, .int ta, .ref ns, .ref ne, .ref n7, .ref n8])), (ns, .inl (cI, 6, .inl sp)), (ne, .inl (cI, 6, .inl en)), (n7, .inl (cI, 6, .inl tY)), (n8, .inl (cI, 6, .inl tW)), (xw, .inr (1, [.int (y + nI ys), .int we, .int wl, .int wj, .int ta, .ref w5, .ref w6, .ref w7, .ref w8])), (w5, .inl (cI, 6, .inl us)), (w6, .inl (cI, 6, .inl ue)), (w7, .inl (cI, 6, .inl (jfl tY utY 6))), (w8, .inl (cI, 6, .inl (jfl tW utW 6)))]) (ws' := [(x, .inr (6, [a0, a1, .ref xj, .int (nI n), .ref xn, a5, .ref xw, a7, a8, a9, a10, a11])), (xj, .inl (cJ, 6, .inr (.inr (.inr (.inr jr))))), (xn, .inr (1, [.int y, .int ea, .int lo, .int jo, .int ta, .ref ns, .ref ne, .ref n7, .ref n8])), (ns, .inl (cI, 6, .inl sp)), (ne, .inl (cI, 6, .inl en)), (n7, .inl (cI, 6, .inl tY)), (n8, .inl (cI, 6, .inl tW)), (xw, .inr (1, [.int (y + nI ys), .int we, .int wl, .int wj, .int ta, .ref w5, .ref w6, .ref w7, .ref w8])), (w5, .inl (cI, 6, .inl us)), (w6, .inl (cI, 6, .inl ue)), (w7, .inl (cI, 6, .inl (jfl tY utY 6))), (w8, .inl (cI, 6, .inl (jfl tW utW 6)))]) hP hD hFc_11 [0, 1, 2, 3, 4, 5, 6, 7, 8, 9, 10, 11] [] [0, 1, 2, 3, 4, 5, 6, 7, 8, 9, 10, 11] rfl rfl (by decide) (by decide) (by decide) (by decide) hkq hP1 rfl rfl rfl
                subst hr9
                refine lv_istore (lv' := [(4, .int (nI q)), (0, .ref x), (1, .int (nI ys)), (2, .int (nI q0)), (3, .int 0)]) hx hb dX6_times_43 hl (by decide) rfl (fun ls hl => ?_)
                refine lv_iload_n hx hb dX6_times_45 rfl (lv_at hl 4 rfl) ?_
                refine lv_lookup (off := 26) (tgt := 72) hx hb dX6_times_46 (by decide) (by decide) (by decide) ?_
                refine lv_aload_n hx hb dX6_times_72 rfl (lv_at hl 1 rfl) ?_
                refine va_get (D := D) (ci := 6) (v := .ref xw) (C := RX6) (T := TX6) (N := 12) hx hb hts (fun w h => List.mem_cons_of_mem _ (List.mem_append_left _ (List.mem_append_left _ (List.mem_append_left _ (List.mem_append_left _ (List.mem_append_left _ (List.mem_append_left _ (List.mem_append_right _ h)))))))) hown hK hP 0 rfl rfl 6 (by decide) (hts (Cond.fieldLink RX6 36 "JamDays" "would" "LJamDays$Days;") (List.mem_of_getElem? (i := 1) rfl)) (fun _ h9 => h9) rfl dX6_times_73 ?_
                have hPc_13 := hP.sub (ws' := [(xw, .inr (1, [.int (y + nI ys), .int we, .int wl, .int wj, .int ta, .ref w5, .ref w6, .ref w7, .ref w8])), (w5, .inl (cI, 6, .inl us))]) [7, 8] rfl
                refine jcalli (va_runV (As := []) (rest := []) ⟨hx, hb, hml, hown, hts⟩ (c_spoonsOfAll l D cI cJ xw w5 (.int (y + nI ys)) (.int we) (.int wl) (.int wj) (.int ta) (.ref w6) (.ref w7) (.ref w8) us H.size) (cwV 0 hts gX6_times_X1_spoonsOfAll rfl rfl rfl (by decide +kernel) ⟨Nat.le_of_ble_eq_true rfl, Nat.le_of_ble_eq_true rfl⟩) (jpreV hT (va_recv hK hP (ci := 1) (q0 := 7) rfl rfl) hPc_13) rfl rfl hl.1 rfl (lv_room (Nat.le_of_ble_eq_true rfl)) dX6_times_76 ⟨(Nat.zero_le _), (Nat.zero_le _)⟩) hS hA (fun r_14 H locs hw_r_14 hkq hS => ?_)
                try dsimp only at hw_r_14
                have hP := jkeep hP hkq
                subst hw_r_14
                exact W.iret (v := jsum us 6) hx hb hr (fun t ht hW => ⟨⟨jsum us 6, jsum us 6, rfl, rfl, by dsimp only; rw [ht]; exact ⟨we, wl, wj, us, ue, q, hst, rfl, hP⟩⟩, hS.F ht⟩) hS.2.2 dX6_times_79
              · skip
                exact absurd c_8 (by decide)
            · skip
              exact absurd c_5 (by decide)
  · skip
    have hl : lv_has ls 5 [(0, .ref x), (1, .int (nI ys)), (2, .int (nI q0)), (3, .int 1)] := hl
    refine lv_iload_n hx hb dX6_times_0 rfl (lv_at hl 1 rfl) ?_
    refine lv_iconst (v := 1) hx hb dX6_times_1 (by decide) ?_
    refine lv_icmp_lt (tgt := 24) hx hb dX6_times_2 (by decide) (fun c_15 => ?_) (fun c_15 => ?_)
    · skip
      replace c_15 : ys < 1 := (nI_ltI (a := ys) (b := 1) (by omega) (by omega)).mp c_15
      exact absurd c_15 (by omega)
    · skip
      replace c_15 : ¬ ys < 1 := fun h => c_15 ((nI_ltI (a := ys) (b := 1) (by omega) (by omega)).mpr h)
      refine lv_iload_n hx hb dX6_times_5 rfl (lv_at hl 1 rfl) ?_
      refine lv_bipush (v := 60) hx hb dX6_times_6 (by decide) ?_
      refine lv_icmp_gt (tgt := 24) hx hb dX6_times_8 (by decide) (fun c_16 => ?_) (fun c_16 => ?_)
      · skip
        replace c_16 : 60 < ys := (nI_ltI (a := 60) (b := ys) (by omega) (by omega)).mp c_16
        exact absurd c_16 (by omega)
      · skip
        replace c_16 : ¬ 60 < ys := fun h => c_16 ((nI_ltI (a := 60) (b := ys) (by omega) (by omega)).mpr h)
        refine lv_iload_n hx hb dX6_times_11 rfl (lv_at hl 2 rfl) ?_
        refine lv_if_lt (tgt := 24) hx hb dX6_times_12 (by decide) (fun c_17 => ?_) (fun c_17 => ?_)
        · skip
          replace c_17 : q0 < 0 := (nI_ltI (a := q0) (b := 0) (by omega) (by omega)).mp c_17
          exact absurd c_17 (by omega)
        · skip
          replace c_17 : ¬ q0 < 0 := fun h => c_17 ((nI_ltI (a := q0) (b := 0) (by omega) (by omega)).mpr h)
          refine lv_iload_n hx hb dX6_times_15 rfl (lv_at hl 3 rfl) ?_
          refine lv_if_lt (tgt := 24) hx hb dX6_times_16 (by decide) (fun c_18 => ?_) (fun c_18 => ?_)
          · skip
            exact absurd c_18 (by decide)
          · skip
            refine lv_iload_n hx hb dX6_times_19 rfl (lv_at hl 3 rfl) ?_
            refine lv_iconst (v := 2) hx hb dX6_times_20 (by decide) ?_
            refine lv_icmp_le (tgt := 27) hx hb dX6_times_21 (by decide) (fun c_19 => ?_) (fun c_19 => ?_)
            · skip
              refine lv_aload_n hx hb dX6_times_27 rfl (lv_at hl 0 rfl) ?_
              have hPc_20 := hP.sub (ws' := [(x, .inr (6, [a0, a1, .ref xj, .int (nI n), .ref xn, a5, .ref xw, a7, a8, a9, a10, a11]))]) [0] rfl
              refine jcalli (va_runV (As := []) (rest := []) ⟨hx, hb, hml, hown, hts⟩ (c_hasNoLarder_n l D cI cJ x n a0 a1 (.ref xj) (.ref xn) a5 (.ref xw) a7 a8 a9 a10 a11 hn0 hn6 s.heap.size) (cwV 0 hts gX6_times_X6_hasNoLarder rfl rfl rfl (by decide +kernel) ⟨Nat.le_of_ble_eq_true rfl, Nat.le_of_ble_eq_true rfl⟩) (jpreV hT (va_recv hK hP (ci := 6) (q0 := 0) rfl rfl) hPc_20) rfl rfl hl.1 rfl (lv_room (Nat.le_of_ble_eq_true rfl)) dX6_times_28 ⟨(Nat.zero_le _), (Nat.zero_le _)⟩) hS hA (fun r_21 H locs hw_r_21 hkq hS => ?_)
              try dsimp only at hw_r_21
              have hP := jkeep hP hkq
              have hJ := hJ.kept hkq
              subst hw_r_21
              refine lv_if_eq (tgt := 37) hx hb dX6_times_31 (by decide) (fun c_22 => ?_) (fun c_22 => ?_)
              · skip
                refine lv_aload_n hx hb dX6_times_37 rfl (lv_at hl 0 rfl) ?_
                refine lv_iload_n hx hb dX6_times_38 rfl (lv_at hl 1 rfl) ?_
                refine lv_iload_n hx hb dX6_times_39 rfl (lv_at hl 2 rfl) ?_
                have hPc_23 := hP.sub (ws' := [(x, .inr (6, [a0, a1, .ref xj, .int (nI n), .ref xn, a5, .ref xw, a7, a8, a9, a10, a11])), (xj, .inl (cJ, 6, .inr (.inr (.inr (.inr jr))))), (xn, .inr (1, [.int y, .int ea, .int lo, .int jo, .int ta, .ref ns, .ref ne, .ref n7, .ref n8])), (ns, .inl (cI, 6, .inl sp)), (ne, .inl (cI, 6, .inl en)), (n7, .inl (cI, 6, .inl tY)), (n8, .inl (cI, 6, .inl tW)), (xw, .inr (1, [.int uy, .int uea, .int ulo, .int ujo, .int uta, .ref w5, .ref w6, .ref w7, .ref w8])), (w5, .inl (cI, 6, .inl usp)), (w6, .inl (cI, 6, .inl uen)), (w7, .inl (cI, 6, .inl utY)), (w8, .inl (cI, 6, .inl utW))]) [0, 1, 2, 3, 4, 5, 6, 7, 8, 9, 10, 11] rfl
                have hDc_24 := hD.sub (ws' := [(x, .inr (6, [a0, a1, .ref xj, .int (nI n), .ref xn, a5, .ref xw, a7, a8, a9, a10, a11])), (xj, .inl (cJ, 6, .inr (.inr (.inr (.inr jr))))), (xn, .inr (1, [.int y, .int ea, .int lo, .int jo, .int ta, .ref ns, .ref ne, .ref n7, .ref n8])), (ns, .inl (cI, 6, .inl sp)), (ne, .inl (cI, 6, .inl en)), (n7, .inl (cI, 6, .inl tY)), (n8, .inl (cI, 6, .inl tW)), (xw, .inr (1, [.int uy, .int uea, .int ulo, .int ujo, .int uta, .ref w5, .ref w6, .ref w7, .ref w8])), (w5, .inl (cI, 6, .inl usp)), (w6, .inl (cI, 6, .inl uen)), (w7, .inl (cI, 6, .inl utY)), (w8, .inl (cI, 6, .inl utW))]) [0, 1, 2, 3, 4, 5, 6, 7, 8, 9, 10, 11] (by decide) rfl
                have hFc_25 := va_free (wc := [(x, .inr (6, [a0, a1, .ref xj, .int (nI n), .ref xn, a5, .ref xw, a7, a8, a9, a10, a11])), (xj, .inl (cJ, 6, .inr (.inr (.inr (.inr jr))))), (xn, .inr (1, [.int y, .int ea, .int lo, .int jo, .int ta, .ref ns, .ref ne, .ref n7, .ref n8])), (ns, .inl (cI, 6, .inl sp)), (ne, .inl (cI, 6, .inl en)), (n7, .inl (cI, 6, .inl tY)), (n8, .inl (cI, 6, .inl tW)), (xw, .inr (1, [.int uy, .int uea, .int ulo, .int ujo, .int uta, .ref w5, .ref w6, .ref w7, .ref w8])), (w5, .inl (cI, 6, .inl usp)), (w6, .inl (cI, 6, .inl uen)), (w7, .inl (cI, 6, .inl utY)), (w8, .inl (cI, 6, .inl utW))]) hD hS hA [0, 1, 2, 3, 4, 5, 6, 7, 8, 9, 10, 11] rfl
                refine jcallWi (post := fun r H => ∃ (we wl wj : Int32) (us ue : Nat → Int32) (q : Nat), cts fw n y (jfl sp usp 6, jfl en uen 6, jo, q0) ys = (us, ue, wj, q) ∧ q < 2147483648 ∧ r = nI q ∧ va_P D vwCl [(x, .inr (6, [a0, a1, .ref xj, .int (nI n), .ref xn, a5, .ref xw, a7, a8, a9, a10, a11])), (xj, .inl (cJ, 6, .inr (.inr (.inr (.inr jr))))), (xn, .inr (1, [.int y, .int ea, .int lo, .int jo, .int ta, .ref ns, .ref ne, .ref n7, .ref n8])), (ns, .inl (cI, 6, .inl sp)), (ne, .inl (cI, 6, .inl en)), (n7, .inl (cI, 6, .inl tY)), (n8, .inl (cI, 6, .inl tW)), (xw, .inr (1, [.int (y + nI ys), .int we, .int wl, .int wj, .int ta, .ref w5, .ref w6, .ref w7, .ref w8])), (w5, .inl (cI, 6, .inl us)), (w6, .inl (cI, 6, .inl ue)), (w7, .inl (cI, 6, .inl (jfl tY utY 6))), (w8, .inl (cI, 6, .inl (jfl tW utW 6)))] H) (va_runV (As := [.int (nI ys), .int (nI q0)]) (rest := []) ⟨hx, hb, hml, hown, hts⟩ (c_liveOn l D cI cJ x xj xn ns ne n7 n8 xw w5 w6 w7 w8 n a0 a1 a5 a7 a8 a9 a10 a11 jr jk jg js jm fw y ea lo jo ta sp en tY tW uy uea ulo ujo uta usp uen utY utW ys q0 hn0 hn6 hfw hap hys hq0 H.size) (cwV 2 hts gX6_times_X6_liveOn rfl rfl rfl (by decide +kernel) ⟨Nat.le_of_ble_eq_true rfl, Nat.le_of_ble_eq_true rfl⟩) (jpreV hT (va_recv hK hP (ci := 6) (q0 := 0) rfl rfl) ⟨hPc_23, hDc_24.weaken (fun _ _ _ _ => trivial), hJ⟩) rfl rfl hl.1 rfl (lv_room (Nat.le_of_ble_eq_true rfl)) dX6_times_40 ⟨(Nat.zero_le _), (Nat.zero_le _)⟩) hS hFc_25 (fun r_26 H locs hw_r_26 hz hkq hS => ?_)
                obtain ⟨we, wl, wj, us, ue, q, hst, hq9, hr9, hP1⟩ := hw_r_26
                obtain ⟨hP, hD⟩ := jjoin (wc := [(x, .inr (6, [a0, a1, .ref xj, .int (nI n), .ref xn, a5, .ref xw, a7, a8, a9, a10, a11])), (xj, .inl (cJ, 6, .inr (.inr (.inr (.inr jr))))), (xn, .inr (1, [.int y, .int ea, .int lo, .int jo, .int ta, .ref ns, .ref ne, .ref n7, .ref n8])), (ns, .inl (cI, 6, .inl sp)), (ne, .inl (cI, 6, .inl en)), (n7, .inl (cI, 6, .inl tY)), (n8, .inl (cI, 6, .inl tW)), (xw, .inr (1, [.int uy, .int uea, .int ulo, .int ujo, .int uta, .ref w5, .ref w6, .ref w7, .ref w8])), (w5, .inl (cI, 6, .inl usp)), (w6, .inl (cI, 6, .inl uen)), (w7, .inl (cI, 6, .inl utY)), (w8, .inl (cI, 6, .inl utW))]) (wr := []) (w1 := [(x, .inr (6, [a0, a1, .ref xj, .int (nI n), .ref xn, a5, .ref xw, a7, a8, a9, a10, a11])), (xj, .inl (cJ, 6, .inr (.inr (.inr (.inr jr))))), (xn, .inr (1, [.int y, .int ea, .int lo, .int jo, .int ta, .ref ns, .ref ne, .ref n7, .ref n8])), (ns, .inl (cI, 6, .inl sp)), (ne, .inl (cI, 6, .inl en)), (n7, .inl (cI, 6, .inl tY)), (n8, .inl (cI, 6, .inl tW)), (xw, .inr (1, [.int (y + nI ys), .int we, .int wl, .int wj, .int ta, .ref w5, .ref w6, .ref w7, .ref w8])), (w5, .inl (cI, 6, .inl us)), (w6, .inl (cI, 6, .inl ue)), (w7, .inl (cI, 6, .inl (jfl tY utY 6))), (w8, .inl (cI, 6, .inl (jfl tW utW 6)))]) (ws' := [(x, .inr (6, [a0, a1, .ref xj, .int (nI n), .ref xn, a5, .ref xw, a7, a8, a9, a10, a11])), (xj, .inl (cJ, 6, .inr (.inr (.inr (.inr jr))))), (xn, .inr (1, [.int y, .int ea, .int lo, .int jo, .int ta, .ref ns, .ref ne, .ref n7, .ref n8])), (ns, .inl (cI, 6, .inl sp)), (ne, .inl (cI, 6, .inl en)), (n7, .inl (cI, 6, .inl tY)), (n8, .inl (cI, 6, .inl tW)), (xw, .inr (1, [.int (y + nI ys), .int we, .int wl, .int wj, .int ta, .ref w5, .ref w6, .ref w7, .ref w8])), (w5, .inl (cI, 6, .inl us)), (w6, .inl (cI, 6, .inl ue)), (w7, .inl (cI, 6, .inl (jfl tY utY 6))), (w8, .inl (cI, 6, .inl (jfl tW utW 6)))]) hP hD hFc_25 [0, 1, 2, 3, 4, 5, 6, 7, 8, 9, 10, 11] [] [0, 1, 2, 3, 4, 5, 6, 7, 8, 9, 10, 11] rfl rfl (by decide) (by decide) (by decide) (by decide) hkq hP1 rfl rfl rfl
                subst hr9
                refine lv_istore (lv' := [(4, .int (nI q)), (0, .ref x), (1, .int (nI ys)), (2, .int (nI q0)), (3, .int 1)]) hx hb dX6_times_43 hl (by decide) rfl (fun ls hl => ?_)
                refine lv_iload_n hx hb dX6_times_45 rfl (lv_at hl 4 rfl) ?_
                refine lv_lookup (off := 34) (tgt := 80) hx hb dX6_times_46 (by decide) (by decide) (by decide) ?_
                refine lv_aload_n hx hb dX6_times_80 rfl (lv_at hl 1 rfl) ?_
                refine va_get (D := D) (ci := 6) (v := .ref xw) (C := RX6) (T := TX6) (N := 12) hx hb hts (fun w h => List.mem_cons_of_mem _ (List.mem_append_left _ (List.mem_append_left _ (List.mem_append_left _ (List.mem_append_left _ (List.mem_append_left _ (List.mem_append_left _ (List.mem_append_right _ h)))))))) hown hK hP 0 rfl rfl 6 (by decide) (hts (Cond.fieldLink RX6 36 "JamDays" "would" "LJamDays$Days;") (List.mem_of_getElem? (i := 1) rfl)) (fun _ h9 => h9) rfl dX6_times_81 ?_
                refine va_get (D := D) (ci := 1) (v := .int wj) (C := RX1) (T := TX1) (N := 9) hx hb hts (fun w h => List.mem_cons_of_mem _ (List.mem_append_left _ (List.mem_append_left _ (List.mem_append_left _ (List.mem_append_left _ (List.mem_append_left _ (List.mem_append_right _ h))))))) hown hK hP 7 rfl rfl 3 (by decide) (hts (Cond.fieldLink RX6 158 "JamDays$Days" "joy" "I") (List.mem_of_getElem? (i := 2) rfl)) (fun _ h9 => h9) rfl dX6_times_84 ?_
                refine lv_sipush (v := 2000) hx hb dX6_times_87 (by decide) ?_
                refine lv_iadd hx hb dX6_times_90 ?_
                exact W.iret (v := wj + 2000) hx hb hr (fun t ht hW => ⟨⟨wj + 2000, wj + 2000, rfl, rfl, by dsimp only; rw [ht]; exact ⟨we, wl, wj, us, ue, q, hst, rfl, hP⟩⟩, hS.F ht⟩) hS.2.2 dX6_times_91
              · skip
                exact absurd c_22 (by decide)
            · skip
              exact absurd c_19 (by decide)
  · skip
    have hl : lv_has ls 5 [(0, .ref x), (1, .int (nI ys)), (2, .int (nI q0)), (3, .int 2)] := hl
    refine lv_iload_n hx hb dX6_times_0 rfl (lv_at hl 1 rfl) ?_
    refine lv_iconst (v := 1) hx hb dX6_times_1 (by decide) ?_
    refine lv_icmp_lt (tgt := 24) hx hb dX6_times_2 (by decide) (fun c_27 => ?_) (fun c_27 => ?_)
    · skip
      replace c_27 : ys < 1 := (nI_ltI (a := ys) (b := 1) (by omega) (by omega)).mp c_27
      exact absurd c_27 (by omega)
    · skip
      replace c_27 : ¬ ys < 1 := fun h => c_27 ((nI_ltI (a := ys) (b := 1) (by omega) (by omega)).mpr h)
      refine lv_iload_n hx hb dX6_times_5 rfl (lv_at hl 1 rfl) ?_
      refine lv_bipush (v := 60) hx hb dX6_times_6 (by decide) ?_
      refine lv_icmp_gt (tgt := 24) hx hb dX6_times_8 (by decide) (fun c_28 => ?_) (fun c_28 => ?_)
      · skip
        replace c_28 : 60 < ys := (nI_ltI (a := 60) (b := ys) (by omega) (by omega)).mp c_28
        exact absurd c_28 (by omega)
      · skip
        replace c_28 : ¬ 60 < ys := fun h => c_28 ((nI_ltI (a := 60) (b := ys) (by omega) (by omega)).mpr h)
        refine lv_iload_n hx hb dX6_times_11 rfl (lv_at hl 2 rfl) ?_
        refine lv_if_lt (tgt := 24) hx hb dX6_times_12 (by decide) (fun c_29 => ?_) (fun c_29 => ?_)
        · skip
          replace c_29 : q0 < 0 := (nI_ltI (a := q0) (b := 0) (by omega) (by omega)).mp c_29
          exact absurd c_29 (by omega)
        · skip
          replace c_29 : ¬ q0 < 0 := fun h => c_29 ((nI_ltI (a := q0) (b := 0) (by omega) (by omega)).mpr h)
          refine lv_iload_n hx hb dX6_times_15 rfl (lv_at hl 3 rfl) ?_
          refine lv_if_lt (tgt := 24) hx hb dX6_times_16 (by decide) (fun c_30 => ?_) (fun c_30 => ?_)
          · skip
            exact absurd c_30 (by decide)
          · skip
            refine lv_iload_n hx hb dX6_times_19 rfl (lv_at hl 3 rfl) ?_
            refine lv_iconst (v := 2) hx hb dX6_times_20 (by decide) ?_
            refine lv_icmp_le (tgt := 27) hx hb dX6_times_21 (by decide) (fun c_31 => ?_) (fun c_31 => ?_)
            · skip
              refine lv_aload_n hx hb dX6_times_27 rfl (lv_at hl 0 rfl) ?_
              have hPc_32 := hP.sub (ws' := [(x, .inr (6, [a0, a1, .ref xj, .int (nI n), .ref xn, a5, .ref xw, a7, a8, a9, a10, a11]))]) [0] rfl
              refine jcalli (va_runV (As := []) (rest := []) ⟨hx, hb, hml, hown, hts⟩ (c_hasNoLarder_n l D cI cJ x n a0 a1 (.ref xj) (.ref xn) a5 (.ref xw) a7 a8 a9 a10 a11 hn0 hn6 s.heap.size) (cwV 0 hts gX6_times_X6_hasNoLarder rfl rfl rfl (by decide +kernel) ⟨Nat.le_of_ble_eq_true rfl, Nat.le_of_ble_eq_true rfl⟩) (jpreV hT (va_recv hK hP (ci := 6) (q0 := 0) rfl rfl) hPc_32) rfl rfl hl.1 rfl (lv_room (Nat.le_of_ble_eq_true rfl)) dX6_times_28 ⟨(Nat.zero_le _), (Nat.zero_le _)⟩) hS hA (fun r_33 H locs hw_r_33 hkq hS => ?_)
              try dsimp only at hw_r_33
              have hP := jkeep hP hkq
              have hJ := hJ.kept hkq
              subst hw_r_33
              refine lv_if_eq (tgt := 37) hx hb dX6_times_31 (by decide) (fun c_34 => ?_) (fun c_34 => ?_)
              · skip
                refine lv_aload_n hx hb dX6_times_37 rfl (lv_at hl 0 rfl) ?_
                refine lv_iload_n hx hb dX6_times_38 rfl (lv_at hl 1 rfl) ?_
                refine lv_iload_n hx hb dX6_times_39 rfl (lv_at hl 2 rfl) ?_
                have hPc_35 := hP.sub (ws' := [(x, .inr (6, [a0, a1, .ref xj, .int (nI n), .ref xn, a5, .ref xw, a7, a8, a9, a10, a11])), (xj, .inl (cJ, 6, .inr (.inr (.inr (.inr jr))))), (xn, .inr (1, [.int y, .int ea, .int lo, .int jo, .int ta, .ref ns, .ref ne, .ref n7, .ref n8])), (ns, .inl (cI, 6, .inl sp)), (ne, .inl (cI, 6, .inl en)), (n7, .inl (cI, 6, .inl tY)), (n8, .inl (cI, 6, .inl tW)), (xw, .inr (1, [.int uy, .int uea, .int ulo, .int ujo, .int uta, .ref w5, .ref w6, .ref w7, .ref w8])), (w5, .inl (cI, 6, .inl usp)), (w6, .inl (cI, 6, .inl uen)), (w7, .inl (cI, 6, .inl utY)), (w8, .inl (cI, 6, .inl utW))]) [0, 1, 2, 3, 4, 5, 6, 7, 8, 9, 10, 11] rfl
                have hDc_36 := hD.sub (ws' := [(x, .inr (6, [a0, a1, .ref xj, .int (nI n), .ref xn, a5, .ref xw, a7, a8, a9, a10, a11])), (xj, .inl (cJ, 6, .inr (.inr (.inr (.inr jr))))), (xn, .inr (1, [.int y, .int ea, .int lo, .int jo, .int ta, .ref ns, .ref ne, .ref n7, .ref n8])), (ns, .inl (cI, 6, .inl sp)), (ne, .inl (cI, 6, .inl en)), (n7, .inl (cI, 6, .inl tY)), (n8, .inl (cI, 6, .inl tW)), (xw, .inr (1, [.int uy, .int uea, .int ulo, .int ujo, .int uta, .ref w5, .ref w6, .ref w7, .ref w8])), (w5, .inl (cI, 6, .inl usp)), (w6, .inl (cI, 6, .inl uen)), (w7, .inl (cI, 6, .inl utY)), (w8, .inl (cI, 6, .inl utW))]) [0, 1, 2, 3, 4, 5, 6, 7, 8, 9, 10, 11] (by decide) rfl
                have hFc_37 := va_free (wc := [(x, .inr (6, [a0, a1, .ref xj, .int (nI n), .ref xn, a5, .ref xw, a7, a8, a9, a10, a11])), (xj, .inl (cJ, 6, .inr (.inr (.inr (.inr jr))))), (xn, .inr (1, [.int y, .int ea, .int lo, .int jo, .int ta, .ref ns, .ref ne, .ref n7, .ref n8])), (ns, .inl (cI, 6, .inl sp)), (ne, .inl (cI, 6, .inl en)), (n7, .inl (cI, 6, .inl tY)), (n8, .inl (cI, 6, .inl tW)), (xw, .inr (1, [.int uy, .int uea, .int ulo, .int ujo, .int uta, .ref w5, .ref w6, .ref w7, .ref w8])), (w5, .inl (cI, 6, .inl usp)), (w6, .inl (cI, 6, .inl uen)), (w7, .inl (cI, 6, .inl utY)), (w8, .inl (cI, 6, .inl utW))]) hD hS hA [0, 1, 2, 3, 4, 5, 6, 7, 8, 9, 10, 11] rfl
                refine jcallWi (post := fun r H => ∃ (we wl wj : Int32) (us ue : Nat → Int32) (q : Nat), cts fw n y (jfl sp usp 6, jfl en uen 6, jo, q0) ys = (us, ue, wj, q) ∧ q < 2147483648 ∧ r = nI q ∧ va_P D vwCl [(x, .inr (6, [a0, a1, .ref xj, .int (nI n), .ref xn, a5, .ref xw, a7, a8, a9, a10, a11])), (xj, .inl (cJ, 6, .inr (.inr (.inr (.inr jr))))), (xn, .inr (1, [.int y, .int ea, .int lo, .int jo, .int ta, .ref ns, .ref ne, .ref n7, .ref n8])), (ns, .inl (cI, 6, .inl sp)), (ne, .inl (cI, 6, .inl en)), (n7, .inl (cI, 6, .inl tY)), (n8, .inl (cI, 6, .inl tW)), (xw, .inr (1, [.int (y + nI ys), .int we, .int wl, .int wj, .int ta, .ref w5, .ref w6, .ref w7, .ref w8])), (w5, .inl (cI, 6, .inl us)), (w6, .inl (cI, 6, .inl ue)), (w7, .inl (cI, 6, .inl (jfl tY utY 6))), (w8, .inl (cI, 6, .inl (jfl tW utW 6)))] H) (va_runV (As := [.int (nI ys), .int (nI q0)]) (rest := []) ⟨hx, hb, hml, hown, hts⟩ (c_liveOn l D cI cJ x xj xn ns ne n7 n8 xw w5 w6 w7 w8 n a0 a1 a5 a7 a8 a9 a10 a11 jr jk jg js jm fw y ea lo jo ta sp en tY tW uy uea ulo ujo uta usp uen utY utW ys q0 hn0 hn6 hfw hap hys hq0 H.size) (cwV 2 hts gX6_times_X6_liveOn rfl rfl rfl (by decide +kernel) ⟨Nat.le_of_ble_eq_true rfl, Nat.le_of_ble_eq_true rfl⟩) (jpreV hT (va_recv hK hP (ci := 6) (q0 := 0) rfl rfl) ⟨hPc_35, hDc_36.weaken (fun _ _ _ _ => trivial), hJ⟩) rfl rfl hl.1 rfl (lv_room (Nat.le_of_ble_eq_true rfl)) dX6_times_40 ⟨(Nat.zero_le _), (Nat.zero_le _)⟩) hS hFc_37 (fun r_38 H locs hw_r_38 hz hkq hS => ?_)
                obtain ⟨we, wl, wj, us, ue, q, hst, hq9, hr9, hP1⟩ := hw_r_38
                obtain ⟨hP, hD⟩ := jjoin (wc := [(x, .inr (6, [a0, a1, .ref xj, .int (nI n), .ref xn, a5, .ref xw, a7, a8, a9, a10, a11])), (xj, .inl (cJ, 6, .inr (.inr (.inr (.inr jr))))), (xn, .inr (1, [.int y, .int ea, .int lo, .int jo, .int ta, .ref ns, .ref ne, .ref n7, .ref n8])), (ns, .inl (cI, 6, .inl sp)), (ne, .inl (cI, 6, .inl en)), (n7, .inl (cI, 6, .inl tY)), (n8, .inl (cI, 6, .inl tW)), (xw, .inr (1, [.int uy, .int uea, .int ulo, .int ujo, .int uta, .ref w5, .ref w6, .ref w7, .ref w8])), (w5, .inl (cI, 6, .inl usp)), (w6, .inl (cI, 6, .inl uen)), (w7, .inl (cI, 6, .inl utY)), (w8, .inl (cI, 6, .inl utW))]) (wr := []) (w1 := [(x, .inr (6, [a0, a1, .ref xj, .int (nI n), .ref xn, a5, .ref xw, a7, a8, a9, a10, a11])), (xj, .inl (cJ, 6, .inr (.inr (.inr (.inr jr))))), (xn, .inr (1, [.int y, .int ea, .int lo, .int jo, .int ta, .ref ns, .ref ne, .ref n7, .ref n8])), (ns, .inl (cI, 6, .inl sp)), (ne, .inl (cI, 6, .inl en)), (n7, .inl (cI, 6, .inl tY)), (n8, .inl (cI, 6, .inl tW)), (xw, .inr (1, [.int (y + nI ys), .int we, .int wl, .int wj, .int ta, .ref w5, .ref w6, .ref w7, .ref w8])), (w5, .inl (cI, 6, .inl us)), (w6, .inl (cI, 6, .inl ue)), (w7, .inl (cI, 6, .inl (jfl tY utY 6))), (w8, .inl (cI, 6, .inl (jfl tW utW 6)))]) (ws' := [(x, .inr (6, [a0, a1, .ref xj, .int (nI n), .ref xn, a5, .ref xw, a7, a8, a9, a10, a11])), (xj, .inl (cJ, 6, .inr (.inr (.inr (.inr jr))))), (xn, .inr (1, [.int y, .int ea, .int lo, .int jo, .int ta, .ref ns, .ref ne, .ref n7, .ref n8])), (ns, .inl (cI, 6, .inl sp)), (ne, .inl (cI, 6, .inl en)), (n7, .inl (cI, 6, .inl tY)), (n8, .inl (cI, 6, .inl tW)), (xw, .inr (1, [.int (y + nI ys), .int we, .int wl, .int wj, .int ta, .ref w5, .ref w6, .ref w7, .ref w8])), (w5, .inl (cI, 6, .inl us)), (w6, .inl (cI, 6, .inl ue)), (w7, .inl (cI, 6, .inl (jfl tY utY 6))), (w8, .inl (cI, 6, .inl (jfl tW utW 6)))]) hP hD hFc_37 [0, 1, 2, 3, 4, 5, 6, 7, 8, 9, 10, 11] [] [0, 1, 2, 3, 4, 5, 6, 7, 8, 9, 10, 11] rfl rfl (by decide) (by decide) (by decide) (by decide) hkq hP1 rfl rfl rfl
                subst hr9
                refine lv_istore (lv' := [(4, .int (nI q)), (0, .ref x), (1, .int (nI ys)), (2, .int (nI q0)), (3, .int 2)]) hx hb dX6_times_43 hl (by decide) rfl (fun ls hl => ?_)
                refine lv_iload_n hx hb dX6_times_45 rfl (lv_at hl 4 rfl) ?_
                refine lv_lookup (off := 46) (tgt := 92) hx hb dX6_times_46 (by decide) (by decide) (by decide) ?_
                refine lv_iload hx hb dX6_times_92 (lv_at hl 0 rfl) ?_
                exact W.iret (v := nI q) hx hb hr (fun t ht hW => ⟨⟨nI q, nI q, rfl, rfl, by dsimp only; rw [ht]; exact ⟨we, wl, wj, us, ue, q, hst, rfl, hP⟩⟩, hS.F ht⟩) hS.2.2 dX6_times_94
              · skip
                exact absurd c_34 (by decide)
            · skip
              exact absurd c_31 (by decide)

set_option maxHeartbeats 4000000 in
set_option maxRecDepth 100000 in
theorem c_mtimes_out1 (l : Launch) (D : va_G) (cI cJ : ClassId) (z : Nat) (y0 : Int32) (s0 : Int32) (w0 : Int32) (h9 : y0 < 1 ∨ 60 < y0) : jRi l yX7_times wsX7_times ({ frames := 1, cells := 0, slots := 0, locals := 25 }) [.ref z, .int y0, .int s0, .int w0] D cI cJ (fun H => True) (fun r => r = -102) := by
  intro sz
  refine Met.ofW (cc := cX7_times) (maxL := 9) (ret := (some .int)) (by decide) rfl ?_
  intro p e s m args below meth c s₁ B hml hv
  obtain ⟨rfl, hsz, hT, _⟩ := hv
  have hK := hT.1
  have hx := B.exec
  have hb := B.bytes
  have hr := B.returns
  have hts := atoms_spec (ws := wsX7_times) B.pre
  have hown : s.vm.findClass RX7 = some m.cls := findClass_of_methodNamed B.named
  have hlocks := B.notSynchronized
  subst hsz
  generalize hAe : va_A [] s.heap.size = A
  have hA : ∀ q : Nat, s.heap.size ≤ q → A q := fun q h => by rw [← hAe]; exact Or.inr h
  have hS : va_S A s.heap s.heap [] := va_S.rf
  have hl := lv_entry ([.ref z, .int y0, .int s0, .int w0] : List Value) (n := 9) (Nat.le_of_ble_eq_true rfl)
  rw [lg_entry_eq]
  generalize (lg_sl ([.ref z, .int y0, .int s0, .int w0]) ++ List.replicate (9 - (lg_sl ([.ref z, .int y0, .int s0, .int w0])).length) Slot.unset).toArray = ls at hl ⊢
  have hl : lv_has ls 9 [(0, .ref z), (1, .int y0), (2, .int s0), (3, .int w0)] := hl
  refine lv_iload_n hx hb dX7_times_0 rfl (lv_at hl 1 rfl) ?_
  refine lv_i2l (v := y0.toInt64) hx hb dX7_times_1 rfl ?_
  refine lv_lconst (v := 1) hx hb dX7_times_2 (by decide) ?_
  refine lv_ldc2 (v := 60) hx hb hown (hts (Cond.constantLong RX7 161 (60)) (List.mem_of_getElem? (i := 1) rfl)) dX7_times_3 ?_
  refine jcalli (va_runS (As := [.long y0.toInt64, .long 1, .long 60]) (rest := []) ⟨hx, hb, hml, hown, hts⟩ (c_in_n l D cI cJ y0.toInt64 1 60 (h9.elim (fun h => Or.inl (jw_lt (b := 1) h)) (fun h => Or.inr (jw_lt (a := 60) h))) s.heap.size) (va_cwS 3 hts gX7_times_X7_in rfl rfl rfl (by decide +kernel) ⟨Nat.le_of_ble_eq_true rfl, Nat.le_of_ble_eq_true rfl⟩) (jpreS hT trivial) rfl rfl hl.1 rfl (lv_room (Nat.le_of_ble_eq_true rfl)) dX7_times_6 ⟨(Nat.zero_le _), (Nat.zero_le _)⟩) hS hA (fun r_1 H locs hw_r_1 hkq hS => ?_)
  try dsimp only at hw_r_1
  subst hw_r_1
  refine lv_if_eq (tgt := 28) hx hb dX7_times_9 (by decide) (fun c_2 => ?_) (fun c_2 => ?_)
  · skip
    refine lv_bipush (v := (-102)) hx hb dX7_times_28 (by decide) ?_
    exact W.iret (v := (-102)) hx hb hr (fun t ht hW => ⟨⟨(-102), (), rfl, rfl, trivial⟩, hS.F ht⟩) hS.2.2 dX7_times_30
  · skip
    exact absurd c_2 (by decide)

set_option maxHeartbeats 4000000 in
set_option maxRecDepth 100000 in
theorem c_mtimes_out2 (l : Launch) (D : va_G) (cI cJ : ClassId) (z : Nat) (y0 : Int32) (s0 : Int32) (w0 : Int32) (h1 : 1 ≤ y0) (h2 : y0 ≤ 60) (h9 : s0 < 0) : jRi l yX7_times wsX7_times ({ frames := 1, cells := 0, slots := 0, locals := 25 }) [.ref z, .int y0, .int s0, .int w0] D cI cJ (fun H => True) (fun r => r = -102) := by
  intro sz
  refine Met.ofW (cc := cX7_times) (maxL := 9) (ret := (some .int)) (by decide) rfl ?_
  intro p e s m args below meth c s₁ B hml hv
  obtain ⟨rfl, hsz, hT, _⟩ := hv
  have hK := hT.1
  have hx := B.exec
  have hb := B.bytes
  have hr := B.returns
  have hts := atoms_spec (ws := wsX7_times) B.pre
  have hown : s.vm.findClass RX7 = some m.cls := findClass_of_methodNamed B.named
  have hlocks := B.notSynchronized
  subst hsz
  generalize hAe : va_A [] s.heap.size = A
  have hA : ∀ q : Nat, s.heap.size ≤ q → A q := fun q h => by rw [← hAe]; exact Or.inr h
  have hS : va_S A s.heap s.heap [] := va_S.rf
  have hl := lv_entry ([.ref z, .int y0, .int s0, .int w0] : List Value) (n := 9) (Nat.le_of_ble_eq_true rfl)
  rw [lg_entry_eq]
  generalize (lg_sl ([.ref z, .int y0, .int s0, .int w0]) ++ List.replicate (9 - (lg_sl ([.ref z, .int y0, .int s0, .int w0])).length) Slot.unset).toArray = ls at hl ⊢
  have hl : lv_has ls 9 [(0, .ref z), (1, .int y0), (2, .int s0), (3, .int w0)] := hl
  refine lv_iload_n hx hb dX7_times_0 rfl (lv_at hl 1 rfl) ?_
  refine lv_i2l (v := y0.toInt64) hx hb dX7_times_1 rfl ?_
  refine lv_lconst (v := 1) hx hb dX7_times_2 (by decide) ?_
  refine lv_ldc2 (v := 60) hx hb hown (hts (Cond.constantLong RX7 161 (60)) (List.mem_of_getElem? (i := 1) rfl)) dX7_times_3 ?_
  refine jcalli (va_runS (As := [.long y0.toInt64, .long 1, .long 60]) (rest := []) ⟨hx, hb, hml, hown, hts⟩ (c_in_y l D cI cJ y0.toInt64 1 60 (jw_le (a := 1) h1) (jw_le (b := 60) h2) s.heap.size) (va_cwS 3 hts gX7_times_X7_in rfl rfl rfl (by decide +kernel) ⟨Nat.le_of_ble_eq_true rfl, Nat.le_of_ble_eq_true rfl⟩) (jpreS hT trivial) rfl rfl hl.1 rfl (lv_room (Nat.le_of_ble_eq_true rfl)) dX7_times_6 ⟨(Nat.zero_le _), (Nat.zero_le _)⟩) hS hA (fun r_1 H locs hw_r_1 hkq hS => ?_)
  try dsimp only at hw_r_1
  subst hw_r_1
  refine lv_if_eq (tgt := 28) hx hb dX7_times_9 (by decide) (fun c_2 => ?_) (fun c_2 => ?_)
  · skip
    exact absurd c_2 (by decide)
  · skip
    refine lv_iload_n hx hb dX7_times_12 rfl (lv_at hl 2 rfl) ?_
    refine lv_if_lt (tgt := 28) hx hb dX7_times_13 (by decide) (fun c_3 => ?_) (fun c_3 => ?_)
    · skip
      refine lv_bipush (v := (-102)) hx hb dX7_times_28 (by decide) ?_
      exact W.iret (v := (-102)) hx hb hr (fun t ht hW => ⟨⟨(-102), (), rfl, rfl, trivial⟩, hS.F ht⟩) hS.2.2 dX7_times_30
    · skip
      exact absurd h9 c_3

set_option maxHeartbeats 4000000 in
set_option maxRecDepth 100000 in
theorem c_mtimes_out3 (l : Launch) (D : va_G) (cI cJ : ClassId) (z : Nat) (y0 : Int32) (s0 : Int32) (w0 : Int32) (h1 : 1 ≤ y0) (h2 : y0 ≤ 60) (h3 : ¬ s0 < 0) (h9 : w0 < 0 ∨ 2 < w0) : jRi l yX7_times wsX7_times ({ frames := 1, cells := 0, slots := 0, locals := 25 }) [.ref z, .int y0, .int s0, .int w0] D cI cJ (fun H => True) (fun r => r = -102) := by
  intro sz
  refine Met.ofW (cc := cX7_times) (maxL := 9) (ret := (some .int)) (by decide) rfl ?_
  intro p e s m args below meth c s₁ B hml hv
  obtain ⟨rfl, hsz, hT, _⟩ := hv
  have hK := hT.1
  have hx := B.exec
  have hb := B.bytes
  have hr := B.returns
  have hts := atoms_spec (ws := wsX7_times) B.pre
  have hown : s.vm.findClass RX7 = some m.cls := findClass_of_methodNamed B.named
  have hlocks := B.notSynchronized
  subst hsz
  generalize hAe : va_A [] s.heap.size = A
  have hA : ∀ q : Nat, s.heap.size ≤ q → A q := fun q h => by rw [← hAe]; exact Or.inr h
  have hS : va_S A s.heap s.heap [] := va_S.rf
  have hl := lv_entry ([.ref z, .int y0, .int s0, .int w0] : List Value) (n := 9) (Nat.le_of_ble_eq_true rfl)
  rw [lg_entry_eq]
  generalize (lg_sl ([.ref z, .int y0, .int s0, .int w0]) ++ List.replicate (9 - (lg_sl ([.ref z, .int y0, .int s0, .int w0])).length) Slot.unset).toArray = ls at hl ⊢
  have hl : lv_has ls 9 [(0, .ref z), (1, .int y0), (2, .int s0), (3, .int w0)] := hl
  refine lv_iload_n hx hb dX7_times_0 rfl (lv_at hl 1 rfl) ?_
  refine lv_i2l (v := y0.toInt64) hx hb dX7_times_1 rfl ?_
  refine lv_lconst (v := 1) hx hb dX7_times_2 (by decide) ?_
  refine lv_ldc2 (v := 60) hx hb hown (hts (Cond.constantLong RX7 161 (60)) (List.mem_of_getElem? (i := 1) rfl)) dX7_times_3 ?_
  refine jcalli (va_runS (As := [.long y0.toInt64, .long 1, .long 60]) (rest := []) ⟨hx, hb, hml, hown, hts⟩ (c_in_y l D cI cJ y0.toInt64 1 60 (jw_le (a := 1) h1) (jw_le (b := 60) h2) s.heap.size) (va_cwS 3 hts gX7_times_X7_in rfl rfl rfl (by decide +kernel) ⟨Nat.le_of_ble_eq_true rfl, Nat.le_of_ble_eq_true rfl⟩) (jpreS hT trivial) rfl rfl hl.1 rfl (lv_room (Nat.le_of_ble_eq_true rfl)) dX7_times_6 ⟨(Nat.zero_le _), (Nat.zero_le _)⟩) hS hA (fun r_1 H locs hw_r_1 hkq hS => ?_)
  try dsimp only at hw_r_1
  subst hw_r_1
  refine lv_if_eq (tgt := 28) hx hb dX7_times_9 (by decide) (fun c_2 => ?_) (fun c_2 => ?_)
  · skip
    exact absurd c_2 (by decide)
  · skip
    refine lv_iload_n hx hb dX7_times_12 rfl (lv_at hl 2 rfl) ?_
    refine lv_if_lt (tgt := 28) hx hb dX7_times_13 (by decide) (fun c_3 => ?_) (fun c_3 => ?_)
    · skip
      exact absurd c_3 h3
    · skip
      refine lv_iload_n hx hb dX7_times_16 rfl (lv_at hl 3 rfl) ?_
      refine lv_i2l (v := w0.toInt64) hx hb dX7_times_17 rfl ?_
      refine lv_lconst (v := 0) hx hb dX7_times_18 (by decide) ?_
      refine lv_ldc2 (v := 2) hx hb hown (hts (Cond.constantLong RX7 163 (2)) (List.mem_of_getElem? (i := 2) rfl)) dX7_times_19 ?_
      refine jcalli (va_runS (As := [.long w0.toInt64, .long 0, .long 2]) (rest := []) ⟨hx, hb, hml, hown, hts⟩ (c_in_n l D cI cJ w0.toInt64 0 2 (h9.elim (fun h => Or.inl (jw_lt (b := 0) h)) (fun h => Or.inr (jw_lt (a := 2) h))) H.size) (va_cwS 3 hts gX7_times_X7_in rfl rfl rfl (by decide +kernel) ⟨Nat.le_of_ble_eq_true rfl, Nat.le_of_ble_eq_true rfl⟩) (jpreS hT trivial) rfl rfl hl.1 rfl (lv_room (Nat.le_of_ble_eq_true rfl)) dX7_times_22 ⟨(Nat.zero_le _), (Nat.zero_le _)⟩) hS hA (fun r_4 H locs hw_r_4 hkq hS => ?_)
      try dsimp only at hw_r_4
      subst hw_r_4
      refine lv_if_ne (tgt := 31) hx hb dX7_times_25 (by decide) (fun c_5 => ?_) (fun c_5 => ?_)
      · skip
        exact absurd c_5 (by decide)
      · skip
        refine lv_bipush (v := (-102)) hx hb dX7_times_28 (by decide) ?_
        exact W.iret (v := (-102)) hx hb hr (fun t ht hW => ⟨⟨(-102), (), rfl, rfl, trivial⟩, hS.F ht⟩) hS.2.2 dX7_times_30

set_option maxHeartbeats 4000000 in
set_option maxRecDepth 100000 in
theorem c_mtimes_n (l : Launch) (D : va_G) (cI cJ : ClassId) (z : Nat) (n : Nat) (a0 : Value) (a1 : Value) (a3 : Value) (a4 : Value) (a5 : Value) (a6 : Value) (a7 : Value) (a8 : Value) (a9 : Value) (a10 : Value) (a11 : Value) (a12 : Value) (a13 : Value) (a14 : Value) (a15 : Value) (a16 : Value) (a17 : Value) (a18 : Value) (a19 : Value) (a20 : Value) (a21 : Value) (a22 : Value) (a23 : Value) (a24 : Value) (ys : Nat) (q0 : Nat) (cq : Nat) (hy1 : 1 ≤ ys) (hys : ys ≤ 60) (hq0 : q0 < 2147483648) (hc : cq < 3) (hn0 : n = 0) : jRi l yX7_times wsX7_times ({ frames := 1, cells := 0, slots := 0, locals := 25 }) [.ref z, .int (nI ys), .int (nI q0), .int (nI cq)] D cI cJ (fun H => va_P D vwCl [(z, .inr (7, [a0, a1, .int (nI n), a3, a4, a5, a6, a7, a8, a9, a10, a11, a12, a13, a14, a15, a16, a17, a18, a19, a20, a21, a22, a23, a24]))] H) (fun r => r = -103) := by
  intro sz
  refine Met.ofW (cc := cX7_times) (maxL := 9) (ret := (some .int)) (by decide) rfl ?_
  intro p e s m args below meth c s₁ B hml hv
  obtain ⟨rfl, hsz, hT, hPr⟩ := hv
  have hK := hT.1
  have hx := B.exec
  have hb := B.bytes
  have hr := B.returns
  have hts := atoms_spec (ws := wsX7_times) B.pre
  have hown : s.vm.findClass RX7 = some m.cls := findClass_of_methodNamed B.named
  have hlocks := B.notSynchronized
  subst hsz
  generalize hAe : va_A [] s.heap.size = A
  have hA : ∀ q : Nat, s.heap.size ≤ q → A q := fun q h => by rw [← hAe]; exact Or.inr h
  have hS : va_S A s.heap s.heap [] := va_S.rf
  have hl := lv_entry ([.ref z, .int (nI ys), .int (nI q0), .int (nI cq)] : List Value) (n := 9) (Nat.le_of_ble_eq_true rfl)
  rw [lg_entry_eq]
  generalize (lg_sl ([.ref z, .int (nI ys), .int (nI q0), .int (nI cq)]) ++ List.replicate (9 - (lg_sl ([.ref z, .int (nI ys), .int (nI q0), .int (nI cq)])).length) Slot.unset).toArray = ls at hl ⊢
  have hl : lv_has ls 9 [(0, .ref z), (1, .int (nI ys)), (2, .int (nI q0)), (3, .int (nI cq))] := hl
  refine lv_iload_n hx hb dX7_times_0 rfl (lv_at hl 1 rfl) ?_
  refine lv_i2l (v := (nI ys).toInt64) hx hb dX7_times_1 rfl ?_
  refine lv_lconst (v := 1) hx hb dX7_times_2 (by decide) ?_
  refine lv_ldc2 (v := 60) hx hb hown (hts (Cond.constantLong RX7 161 (60)) (List.mem_of_getElem? (i := 1) rfl)) dX7_times_3 ?_
  refine jcalli (va_runS (As := [.long ((nI ys).toInt64), .long 1, .long 60]) (rest := []) ⟨hx, hb, hml, hown, hts⟩ (c_in_y l D cI cJ ((nI ys).toInt64) 1 60 (jw_le (a := 1) ((nI_leI (a := 1) (b := ys) (by omega) (by omega)).mpr hy1)) (jw_le (b := 60) ((nI_leI (a := ys) (b := 60) (by omega) (by omega)).mpr hys)) s.heap.size) (va_cwS 3 hts gX7_times_X7_in rfl rfl rfl (by decide +kernel) ⟨Nat.le_of_ble_eq_true rfl, Nat.le_of_ble_eq_true rfl⟩) (jpreS hT trivial) rfl rfl hl.1 rfl (lv_room (Nat.le_of_ble_eq_true rfl)) dX7_times_6 ⟨(Nat.zero_le _), (Nat.zero_le _)⟩) hS hA (fun r_1 H locs hw_r_1 hkq hS => ?_)
  try dsimp only at hw_r_1
  have hPr := jkeep hPr hkq
  subst hw_r_1
  refine lv_if_eq (tgt := 28) hx hb dX7_times_9 (by decide) (fun c_2 => ?_) (fun c_2 => ?_)
  · skip
    exact absurd c_2 (by decide)
  · skip
    refine lv_iload_n hx hb dX7_times_12 rfl (lv_at hl 2 rfl) ?_
    refine lv_if_lt (tgt := 28) hx hb dX7_times_13 (by decide) (fun c_3 => ?_) (fun c_3 => ?_)
    · skip
      replace c_3 : q0 < 0 := (nI_ltI (a := q0) (b := 0) (by omega) (by omega)).mp c_3
      exact absurd c_3 (by omega)
    · skip
      replace c_3 : ¬ q0 < 0 := fun h => c_3 ((nI_ltI (a := q0) (b := 0) (by omega) (by omega)).mpr h)
      refine lv_iload_n hx hb dX7_times_16 rfl (lv_at hl 3 rfl) ?_
      refine lv_i2l (v := (nI cq).toInt64) hx hb dX7_times_17 rfl ?_
      refine lv_lconst (v := 0) hx hb dX7_times_18 (by decide) ?_
      refine lv_ldc2 (v := 2) hx hb hown (hts (Cond.constantLong RX7 163 (2)) (List.mem_of_getElem? (i := 2) rfl)) dX7_times_19 ?_
      refine jcalli (va_runS (As := [.long ((nI cq).toInt64), .long 0, .long 2]) (rest := []) ⟨hx, hb, hml, hown, hts⟩ (c_in_y l D cI cJ ((nI cq).toInt64) 0 2 (jw_le (a := 0) ((nI_leI (a := 0) (b := cq) (by omega) (by omega)).mpr (by omega))) (jw_le (b := 2) ((nI_leI (a := cq) (b := 2) (by omega) (by omega)).mpr (by omega))) H.size) (va_cwS 3 hts gX7_times_X7_in rfl rfl rfl (by decide +kernel) ⟨Nat.le_of_ble_eq_true rfl, Nat.le_of_ble_eq_true rfl⟩) (jpreS hT trivial) rfl rfl hl.1 rfl (lv_room (Nat.le_of_ble_eq_true rfl)) dX7_times_22 ⟨(Nat.zero_le _), (Nat.zero_le _)⟩) hS hA (fun r_4 H locs hw_r_4 hkq hS => ?_)
      try dsimp only at hw_r_4
      have hPr := jkeep hPr hkq
      subst hw_r_4
      refine lv_if_ne (tgt := 31) hx hb dX7_times_25 (by decide) (fun c_5 => ?_) (fun c_5 => ?_)
      · skip
        refine lv_aload_n hx hb dX7_times_31 rfl (lv_at hl 0 rfl) ?_
        have hPc_6 := hPr.sub (ws' := [(z, .inr (7, [a0, a1, .int (nI n), a3, a4, a5, a6, a7, a8, a9, a10, a11, a12, a13, a14, a15, a16, a17, a18, a19, a20, a21, a22, a23, a24]))]) [0] rfl
        refine jcalli (va_runV (As := []) (rest := []) ⟨hx, hb, hml, hown, hts⟩ (c_lacks_y l D cI cJ z n a0 a1 a3 a4 a5 a6 a7 a8 a9 a10 a11 a12 a13 a14 a15 a16 a17 a18 a19 a20 a21 a22 a23 a24 hn0 H.size) (cwV 0 hts gX7_times_X7_lacks rfl rfl rfl (by decide +kernel) ⟨Nat.le_of_ble_eq_true rfl, Nat.le_of_ble_eq_true rfl⟩) (jpreV hT (va_recv hK hPr (ci := 7) (q0 := 0) rfl rfl) hPc_6) rfl rfl hl.1 rfl (lv_room (Nat.le_of_ble_eq_true rfl)) dX7_times_32 ⟨(Nat.zero_le _), (Nat.zero_le _)⟩) hS hA (fun r_7 H locs hw_r_7 hkq hS => ?_)
        try dsimp only at hw_r_7
        have hPr := jkeep hPr hkq
        subst hw_r_7
        refine lv_if_eq (tgt := 41) hx hb dX7_times_35 (by decide) (fun c_8 => ?_) (fun c_8 => ?_)
        · skip
          exact absurd c_8 (by decide)
        · skip
          refine lv_bipush (v := (-103)) hx hb dX7_times_38 (by decide) ?_
          exact W.iret (v := (-103)) hx hb hr (fun t ht hW => ⟨⟨(-103), (), rfl, rfl, trivial⟩, hS.F ht⟩) hS.2.2 dX7_times_40
      · skip
        exact absurd c_5 (by decide)

set_option maxHeartbeats 20000000 in
set_option maxRecDepth 100000 in
theorem c_mtimes_ok (l : Launch) (D : va_G) (cI cJ : ClassId) (z : Nat) (zr : Nat) (zv : Nat) (n : Nat) (a0 : Value) (a1 : Value) (a5 : Value) (a6 : Value) (a7 : Value) (a9 : Value) (a10 : Value) (a11 : Value) (a12 : Value) (a13 : Value) (a16 : Value) (a17 : Value) (a18 : Value) (a19 : Value) (a20 : Value) (a21 : Value) (a22 : Value) (a23 : Value) (a24 : Value) (y : Int32) (jo : Int32) (sd : Int32) (Rw : Nat → Int32) (Sv : Nat → Int32) (ys : Nat) (q0 : Nat) (cq : Nat) (hn0 : 0 < n) (hn6 : n ≤ 6) (hy1 : 1 ≤ ys) (hys : ys ≤ 60) (hq0 : q0 < 2147483648) (hc : cq < 3) : jWi l yX7_times wsX7_times ({ frames := 3, cells := 0, slots := 0, locals := 70 }) 0 0 [.ref z, .int (nI ys), .int (nI q0), .int (nI cq)] D cI cJ [(z, .inr (7, [a0, a1, .int (nI n), .int y, .int jo, a5, a6, a7, .ref zr, a9, a10, a11, a12, a13, .int sd, .ref zv, a16, a17, a18, a19, a20, a21, a22, a23, a24])), (zr, .inl (cI, 30, .inl Rw)), (zv, .inl (cI, 30, .inl Sv))] (fun H => True) (fun r H => ∃ (Rv : Nat → Int32) (sm : Int32) (q : Nat), mts n y (Rw, jo, q0) ys = (Rv, sm, q) ∧ r = jtm (msum Rv n) (sm + 2000) (nI q) cq ∧ va_P D vwCl [(z, .inr (7, [a0, a1, .int (nI n), .int y, .int jo, a5, a6, a7, .ref zr, a9, a10, a11, a12, a13, .int (nI q), .ref zv, a16, a17, a18, a19, a20, a21, a22, a23, a24])), (zr, .inl (cI, 30, .inl Rw)), (zv, .inl (cI, 30, .inl (jfl Rw Sv 30)))] H) := by
  intro sz
  refine Met.ofW (cc := cX7_times) (maxL := 9) (ret := (some .int)) (by decide) rfl ?_
  intro p e s m args below meth c s₁ B hml hv
  obtain ⟨rfl, hsz, hT, hP, hD0, _⟩ := hv
  have hK := hT.1
  have hx := B.exec
  have hb := B.bytes
  have hr := B.returns
  have hts := atoms_spec (ws := wsX7_times) B.pre
  have hown : s.vm.findClass RX7 = some m.cls := findClass_of_methodNamed B.named
  have hlocks := B.notSynchronized
  subst hsz
  have hD := hD0.self (sz := s.heap.size)
  generalize hAe : va_A [(z, .inr (7, [a0, a1, .int (nI n), .int y, .int jo, a5, a6, a7, .ref zr, a9, a10, a11, a12, a13, .int sd, .ref zv, a16, a17, a18, a19, a20, a21, a22, a23, a24])), (zr, .inl (cI, 30, .inl Rw)), (zv, .inl (cI, 30, .inl Sv))] s.heap.size = A at hD ⊢
  have hA : ∀ q : Nat, s.heap.size ≤ q → A q := fun q h => by rw [← hAe]; exact Or.inr h
  have hS : va_S A s.heap s.heap [] := va_S.rf
  have hl := lv_entry ([.ref z, .int (nI ys), .int (nI q0), .int (nI cq)] : List Value) (n := 9) (Nat.le_of_ble_eq_true rfl)
  rw [lg_entry_eq]
  generalize (lg_sl ([.ref z, .int (nI ys), .int (nI q0), .int (nI cq)]) ++ List.replicate (9 - (lg_sl ([.ref z, .int (nI ys), .int (nI q0), .int (nI cq)])).length) Slot.unset).toArray = ls at hl ⊢
  have hl : lv_has ls 9 [(0, .ref z), (1, .int (nI ys)), (2, .int (nI q0)), (3, .int (nI cq))] := hl
  refine lv_iload_n hx hb dX7_times_0 rfl (lv_at hl 1 rfl) ?_
  refine lv_i2l (v := (nI ys).toInt64) hx hb dX7_times_1 rfl ?_
  refine lv_lconst (v := 1) hx hb dX7_times_2 (by decide) ?_
  refine lv_ldc2 (v := 60) hx hb hown (hts (Cond.constantLong RX7 161 (60)) (List.mem_of_getElem? (i := 1) rfl)) dX7_times_3 ?_
  refine jcalli (va_runS (As := [.long ((nI ys).toInt64), .long 1, .long 60]) (rest := []) ⟨hx, hb, hml, hown, hts⟩ (c_in_y l D cI cJ ((nI ys).toInt64) 1 60 (jw_le (a := 1) ((nI_leI (a := 1) (b := ys) (by omega) (by omega)).mpr hy1)) (jw_le (b := 60) ((nI_leI (a := ys) (b := 60) (by omega) (by omega)).mpr hys)) s.heap.size) (va_cwS 3 hts gX7_times_X7_in rfl rfl rfl (by decide +kernel) ⟨Nat.le_of_ble_eq_true rfl, Nat.le_of_ble_eq_true rfl⟩) (jpreS hT trivial) rfl rfl hl.1 rfl (lv_room (Nat.le_of_ble_eq_true rfl)) dX7_times_6 ⟨(Nat.zero_le _), (Nat.zero_le _)⟩) hS hA (fun r_1 H locs hw_r_1 hkq hS => ?_)
  try dsimp only at hw_r_1
  have hP := jkeep hP hkq
  subst hw_r_1
  refine lv_if_eq (tgt := 28) hx hb dX7_times_9 (by decide) (fun c_2 => ?_) (fun c_2 => ?_)
  · skip
    exact absurd c_2 (by decide)
  · skip
    refine lv_iload_n hx hb dX7_times_12 rfl (lv_at hl 2 rfl) ?_
    refine lv_if_lt (tgt := 28) hx hb dX7_times_13 (by decide) (fun c_3 => ?_) (fun c_3 => ?_)
    · skip
      replace c_3 : q0 < 0 := (nI_ltI (a := q0) (b := 0) (by omega) (by omega)).mp c_3
      exact absurd c_3 (by omega)
    · skip
      replace c_3 : ¬ q0 < 0 := fun h => c_3 ((nI_ltI (a := q0) (b := 0) (by omega) (by omega)).mpr h)
      refine lv_iload_n hx hb dX7_times_16 rfl (lv_at hl 3 rfl) ?_
      refine lv_i2l (v := (nI cq).toInt64) hx hb dX7_times_17 rfl ?_
      refine lv_lconst (v := 0) hx hb dX7_times_18 (by decide) ?_
      refine lv_ldc2 (v := 2) hx hb hown (hts (Cond.constantLong RX7 163 (2)) (List.mem_of_getElem? (i := 2) rfl)) dX7_times_19 ?_
      refine jcalli (va_runS (As := [.long ((nI cq).toInt64), .long 0, .long 2]) (rest := []) ⟨hx, hb, hml, hown, hts⟩ (c_in_y l D cI cJ ((nI cq).toInt64) 0 2 (jw_le (a := 0) ((nI_leI (a := 0) (b := cq) (by omega) (by omega)).mpr (by omega))) (jw_le (b := 2) ((nI_leI (a := cq) (b := 2) (by omega) (by omega)).mpr (by omega))) H.size) (va_cwS 3 hts gX7_times_X7_in rfl rfl rfl (by decide +kernel) ⟨Nat.le_of_ble_eq_true rfl, Nat.le_of_ble_eq_true rfl⟩) (jpreS hT trivial) rfl rfl hl.1 rfl (lv_room (Nat.le_of_ble_eq_true rfl)) dX7_times_22 ⟨(Nat.zero_le _), (Nat.zero_le _)⟩) hS hA (fun r_4 H locs hw_r_4 hkq hS => ?_)
      try dsimp only at hw_r_4
      have hP := jkeep hP hkq
      subst hw_r_4
      refine lv_if_ne (tgt := 31) hx hb dX7_times_25 (by decide) (fun c_5 => ?_) (fun c_5 => ?_)
      · skip
        refine lv_aload_n hx hb dX7_times_31 rfl (lv_at hl 0 rfl) ?_
        have hPc_6 := hP.sub (ws' := [(z, .inr (7, [a0, a1, .int (nI n), .int y, .int jo, a5, a6, a7, .ref zr, a9, a10, a11, a12, a13, .int sd, .ref zv, a16, a17, a18, a19, a20, a21, a22, a23, a24]))]) [0] rfl
        refine jcalli (va_runV (As := []) (rest := []) ⟨hx, hb, hml, hown, hts⟩ (c_lacks_n l D cI cJ z n a0 a1 (.int y) (.int jo) a5 a6 a7 (.ref zr) a9 a10 a11 a12 a13 (.int sd) (.ref zv) a16 a17 a18 a19 a20 a21 a22 a23 a24 hn0 hn6 H.size) (cwV 0 hts gX7_times_X7_lacks rfl rfl rfl (by decide +kernel) ⟨Nat.le_of_ble_eq_true rfl, Nat.le_of_ble_eq_true rfl⟩) (jpreV hT (va_recv hK hP (ci := 7) (q0 := 0) rfl rfl) hPc_6) rfl rfl hl.1 rfl (lv_room (Nat.le_of_ble_eq_true rfl)) dX7_times_32 ⟨(Nat.zero_le _), (Nat.zero_le _)⟩) hS hA (fun r_7 H locs hw_r_7 hkq hS => ?_)
        try dsimp only at hw_r_7
        have hP := jkeep hP hkq
        subst hw_r_7
        refine lv_if_eq (tgt := 41) hx hb dX7_times_35 (by decide) (fun c_8 => ?_) (fun c_8 => ?_)
        · skip
          refine lv_aload_n hx hb dX7_times_41 rfl (lv_at hl 0 rfl) ?_
          refine va_get (D := D) (ci := 7) (v := .ref zr) (C := RX7) (T := TX7) (N := 25) hx hb hts (fun w h => List.mem_cons_of_mem _ (List.mem_append_right _ h)) hown hK hP 0 rfl rfl 8 (by decide) (hts (Cond.fieldLink RX7 13 "JamDaysModel" "rows" "[I") (List.mem_of_getElem? (i := 3) rfl)) (fun _ h9 => h9) rfl dX7_times_42 ?_
          refine lv_aload_n hx hb dX7_times_45 rfl (lv_at hl 0 rfl) ?_
          refine va_get (D := D) (ci := 7) (v := .ref zv) (C := RX7) (T := TX7) (N := 25) hx hb hts (fun w h => List.mem_cons_of_mem _ (List.mem_append_right _ h)) hown hK hP 0 rfl rfl 15 (by decide) (hts (Cond.fieldLink RX7 25 "JamDaysModel" "savedRows" "[I") (List.mem_of_getElem? (i := 4) rfl)) (fun _ h9 => h9) rfl dX7_times_46 ?_
          have hPc_9 := hP.sub (ws' := [(zr, .inl (cI, 30, .inl Rw)), (zv, .inl (cI, 30, .inl Sv))]) [1, 2] rfl
          have hDc_10 := hD.sub (ws' := [(zr, .inl (cI, 30, .inl Rw)), (zv, .inl (cI, 30, .inl Sv))]) [1, 2] (by decide) rfl
          have hFc_11 := va_free (wc := [(zr, .inl (cI, 30, .inl Rw)), (zv, .inl (cI, 30, .inl Sv))]) hD hS hA [1, 2] rfl
          refine jcallWv (post := fun H => va_P D vwCl [(zr, .inl (cI, 30, .inl Rw)), (zv, .inl (cI, 30, .inl (jfl Rw Sv 30)))] H) (va_runS (As := [.ref zr, .ref zv]) (rest := []) ⟨hx, hb, hml, hown, hts⟩ (c_copy l D cI cJ zr zv 30 Rw Sv (by decide) H.size) (va_cwS 2 hts gX7_times_X7_copy rfl rfl rfl (by decide +kernel) ⟨Nat.le_of_ble_eq_true rfl, Nat.le_of_ble_eq_true rfl⟩) (jpreS hT ⟨hPc_9, hDc_10.weaken (fun _ _ _ _ => trivial), trivial⟩) rfl rfl hl.1 rfl (lv_room (Nat.le_of_ble_eq_true rfl)) dX7_times_49 ⟨(Nat.zero_le _), (Nat.zero_le _)⟩) hS hFc_11 (fun H locs hw_r_12 hz hkq hS => ?_)
          have hP1 := hw_r_12
          obtain ⟨hP, hD⟩ := jjoin (wc := [(zr, .inl (cI, 30, .inl Rw)), (zv, .inl (cI, 30, .inl Sv))]) (wr := [(z, .inr (7, [a0, a1, .int (nI n), .int y, .int jo, a5, a6, a7, .ref zr, a9, a10, a11, a12, a13, .int sd, .ref zv, a16, a17, a18, a19, a20, a21, a22, a23, a24]))]) (w1 := [(zr, .inl (cI, 30, .inl Rw)), (zv, .inl (cI, 30, .inl (jfl Rw Sv 30)))]) (ws' := [(z, .inr (7, [a0, a1, .int (nI n), .int y, .int jo, a5, a6, a7, .ref zr, a9, a10, a11, a12, a13, .int sd, .ref zv, a16, a17, a18, a19, a20, a21, a22, a23, a24])), (zr, .inl (cI, 30, .inl Rw)), (zv, .inl (cI, 30, .inl (jfl Rw Sv 30)))]) hP hD hFc_11 [1, 2] [0] [0, 1, 2] rfl rfl (by decide) (by decide) (by decide) (by decide) hkq hP1 rfl rfl rfl
          refine lv_aload_n hx hb dX7_times_52 rfl (lv_at hl 0 rfl) ?_
          refine va_get (D := D) (ci := 7) (v := .int y) (C := RX7) (T := TX7) (N := 25) hx hb hts (fun w h => List.mem_cons_of_mem _ (List.mem_append_right _ h)) hown hK hP 0 rfl rfl 3 (by decide) (hts (Cond.fieldLink RX7 66 "JamDaysModel" "yearNow" "I") (List.mem_of_getElem? (i := 5) rfl)) (fun _ h9 => h9) rfl dX7_times_53 ?_
          refine lv_istore (lv' := [(4, .int y), (0, .ref z), (1, .int (nI ys)), (2, .int (nI q0)), (3, .int (nI cq))]) hx hb dX7_times_56 hl (by decide) rfl (fun ls hl => ?_)
          refine lv_aload_n hx hb dX7_times_58 rfl (lv_at hl 1 rfl) ?_
          refine lv_iload_n hx hb dX7_times_59 rfl (lv_at hl 3 rfl) ?_
          refine va_put (D := D) (ci := 7) (v := .int (nI q0)) (ty := .int) (C := RX7) (T := TX7) (N := 25) hx hb hts (fun w h => List.mem_cons_of_mem _ (List.mem_append_right _ h)) tyX7 tyX7_ok nmX7 hown hK hP hD hS 0 rfl rfl 14 (by decide) (hts (Cond.fieldLink RX7 153 "JamDaysModel" "seedNow" "I") (List.mem_of_getElem? (i := 6) rfl)) (fun _ h9 => h9) rfl (by decide +kernel) rfl rfl (Nat.le_of_ble_eq_true rfl) dX7_times_60 (fun H locs hP hD hS => ?_)
          have hP : va_P D vwCl [(z, .inr (7, [a0, a1, .int (nI n), .int y, .int jo, a5, a6, a7, .ref zr, a9, a10, a11, a12, a13, .int (nI q0), .ref zv, a16, a17, a18, a19, a20, a21, a22, a23, a24])), (zr, .inl (cI, 30, .inl Rw)), (zv, .inl (cI, 30, .inl (jfl Rw Sv 30)))] H := hP
          have hD : va_D A [(z, .inr (7, [a0, a1, .int (nI n), .int y, .int jo, a5, a6, a7, .ref zr, a9, a10, a11, a12, a13, .int (nI q0), .ref zv, a16, a17, a18, a19, a20, a21, a22, a23, a24])), (zr, .inl (cI, 30, .inl Rw)), (zv, .inl (cI, 30, .inl (jfl Rw Sv 30)))] := hD
          refine lv_aload_n hx hb dX7_times_63 rfl (lv_at hl 1 rfl) ?_
          refine va_get (D := D) (ci := 7) (v := .int jo) (C := RX7) (T := TX7) (N := 25) hx hb hts (fun w h => List.mem_cons_of_mem _ (List.mem_append_right _ h)) hown hK hP 0 rfl rfl 4 (by decide) (hts (Cond.fieldLink RX7 69 "JamDaysModel" "joy" "I") (List.mem_of_getElem? (i := 7) rfl)) (fun _ h9 => h9) rfl dX7_times_64 ?_
          refine lv_istore (lv' := [(5, .int jo), (4, .int y), (0, .ref z), (1, .int (nI ys)), (2, .int (nI q0)), (3, .int (nI cq))]) hx hb dX7_times_67 hl (by decide) rfl (fun ls hl => ?_)
          refine lv_iconst (v := 0) hx hb dX7_times_69 (by decide) ?_
          refine lv_istore (lv' := [(6, .int 0), (5, .int jo), (4, .int y), (0, .ref z), (1, .int (nI ys)), (2, .int (nI q0)), (3, .int (nI cq))]) hx hb dX7_times_70 hl (by decide) rfl (fun ls hl => ?_)
          have hP : va_P D vwCl [(z, .inr (7, [a0, a1, .int (nI n), .int (y + nI 0), .int jo, a5, a6, a7, .ref zr, a9, a10, a11, a12, a13, .int (nI q0), .ref zv, a16, a17, a18, a19, a20, a21, a22, a23, a24])), (zr, .inl (cI, 30, .inl Rw)), (zv, .inl (cI, 30, .inl (jfl Rw Sv 30)))] H := by rw [jy0]; exact hP
          have hD : va_D A [(z, .inr (7, [a0, a1, .int (nI n), .int (y + nI 0), .int jo, a5, a6, a7, .ref zr, a9, a10, a11, a12, a13, .int (nI q0), .ref zv, a16, a17, a18, a19, a20, a21, a22, a23, a24])), (zr, .inl (cI, 30, .inl Rw)), (zv, .inl (cI, 30, .inl (jfl Rw Sv 30)))] := jD_of hD rfl
          refine jloop (α := Nat × Nat × (Nat → Int32) × Int32) (fun (x9 : Nat × Nat × (Nat → Int32) × Int32) (H : Heap) (locs : List Loc) (ls : Array Slot) => match x9 with | (k, q, Rv, sm) => (va_P D vwCl [(z, .inr (7, [a0, a1, .int (nI n), .int (y + nI k), .int jo, a5, a6, a7, .ref zr, a9, a10, a11, a12, a13, .int (nI q), .ref zv, a16, a17, a18, a19, a20, a21, a22, a23, a24])), (zr, .inl (cI, 30, .inl Rv)), (zv, .inl (cI, 30, .inl (jfl Rw Sv 30)))] H) ∧ (va_D A [(z, .inr (7, [a0, a1, .int (nI n), .int (y + nI k), .int jo, a5, a6, a7, .ref zr, a9, a10, a11, a12, a13, .int (nI q), .ref zv, a16, a17, a18, a19, a20, a21, a22, a23, a24])), (zr, .inl (cI, 30, .inl Rv)), (zv, .inl (cI, 30, .inl (jfl Rw Sv 30)))]) ∧ (va_S A s.heap H locs) ∧ (lv_has ls 9 [(0, .ref z), (1, .int (nI ys)), (3, .int (nI cq)), (4, .int y), (5, .int sm), (6, .int (nI k))]) ∧ (k ≤ ys) ∧ (q < 2147483648) ∧ (mts n y (Rw, jo, q0) k = (Rv, sm, q))) (fun (x9 : Nat × Nat × (Nat → Int32) × Int32) => match x9 with | (k, q, Rv, sm) => ys - k) (fun x9 H locs ls hx9 ih_72 => ?_) (0, q0, Rw, jo) _ _ _ ⟨hP, hD, hS, lv_sub hl [3, 4, 6, 2, 1, 0] rfl, (by omega), hq0, rfl⟩
          obtain ⟨k, q, Rv, sm⟩ := x9
          obtain ⟨hP, hD, hS, hl, hk9, hq9, hst⟩ := hx9
          refine lv_iload hx hb dX7_times_72 (lv_at hl 5 rfl) ?_
          refine lv_iload_n hx hb dX7_times_74 rfl (lv_at hl 1 rfl) ?_
          refine lv_icmp_ge (tgt := 206) hx hb dX7_times_75 (by decide) (fun c_13 => ?_) (fun c_13 => ?_)
          · skip
            replace c_13 : ys ≤ k := (nI_leI (a := ys) (b := k) (by omega) (by omega)).mp c_13
            obtain rfl : ys = k := by omega
            refine lv_aload_n hx hb dX7_times_206 rfl (lv_at hl 0 rfl) ?_
            have hPc_14 := hP.sub (ws' := [(z, .inr (7, [a0, a1, .int (nI n), .int (y + nI ys), .int jo, a5, a6, a7, .ref zr, a9, a10, a11, a12, a13, .int (nI q), .ref zv, a16, a17, a18, a19, a20, a21, a22, a23, a24])), (zr, .inl (cI, 30, .inl Rv))]) [0, 1] rfl
            refine jcalli (va_runV (As := []) (rest := []) ⟨hx, hb, hml, hown, hts⟩ (c_spoonsAll l D cI cJ z zr n a0 a1 (.int (y + nI ys)) (.int jo) a5 a6 a7 a9 a10 a11 a12 a13 (.int (nI q)) (.ref zv) a16 a17 a18 a19 a20 a21 a22 a23 a24 Rv hn6 H.size) (cwV 0 hts gX7_times_X7_spoonsAll rfl rfl rfl (by decide +kernel) ⟨Nat.le_of_ble_eq_true rfl, Nat.le_of_ble_eq_true rfl⟩) (jpreV hT (va_recv hK hP (ci := 7) (q0 := 0) rfl rfl) hPc_14) rfl rfl hl.1 rfl (lv_room (Nat.le_of_ble_eq_true rfl)) dX7_times_207 ⟨(Nat.zero_le _), (Nat.zero_le _)⟩) hS hA (fun r_15 H locs hw_r_15 hkq hS => ?_)
            try dsimp only at hw_r_15
            have hP := jkeep hP hkq
            subst hw_r_15
            refine lv_istore (lv' := [(6, .int (msum Rv n)), (0, .ref z), (1, .int (nI ys)), (3, .int (nI cq)), (4, .int y), (5, .int sm)]) hx hb dX7_times_210 hl (by decide) rfl (fun ls hl => ?_)
            refine lv_aload_n hx hb dX7_times_212 rfl (lv_at hl 1 rfl) ?_
            refine va_get (D := D) (ci := 7) (v := .ref zv) (C := RX7) (T := TX7) (N := 25) hx hb hts (fun w h => List.mem_cons_of_mem _ (List.mem_append_right _ h)) hown hK hP 0 rfl rfl 15 (by decide) (hts (Cond.fieldLink RX7 25 "JamDaysModel" "savedRows" "[I") (List.mem_of_getElem? (i := 4) rfl)) (fun _ h9 => h9) rfl dX7_times_213 ?_
            refine lv_aload_n hx hb dX7_times_216 rfl (lv_at hl 1 rfl) ?_
            refine va_get (D := D) (ci := 7) (v := .ref zr) (C := RX7) (T := TX7) (N := 25) hx hb hts (fun w h => List.mem_cons_of_mem _ (List.mem_append_right _ h)) hown hK hP 0 rfl rfl 8 (by decide) (hts (Cond.fieldLink RX7 13 "JamDaysModel" "rows" "[I") (List.mem_of_getElem? (i := 3) rfl)) (fun _ h9 => h9) rfl dX7_times_217 ?_
            have hPc_16 := hP.sub (ws' := [(zv, .inl (cI, 30, .inl (jfl Rw Sv 30))), (zr, .inl (cI, 30, .inl Rv))]) [2, 1] rfl
            have hDc_17 := hD.sub (ws' := [(zv, .inl (cI, 30, .inl (jfl Rw Sv 30))), (zr, .inl (cI, 30, .inl Rv))]) [2, 1] (by decide) rfl
            have hFc_18 := va_free (wc := [(zv, .inl (cI, 30, .inl (jfl Rw Sv 30))), (zr, .inl (cI, 30, .inl Rv))]) hD hS hA [2, 1] rfl
            refine jcallWv (post := fun H => va_P D vwCl [(zv, .inl (cI, 30, .inl (jfl Rw Sv 30))), (zr, .inl (cI, 30, .inl (jfl (jfl Rw Sv 30) Rv 30)))] H) (va_runS (As := [.ref zv, .ref zr]) (rest := []) ⟨hx, hb, hml, hown, hts⟩ (c_copy l D cI cJ zv zr 30 (jfl Rw Sv 30) Rv (by decide) H.size) (va_cwS 2 hts gX7_times_X7_copy rfl rfl rfl (by decide +kernel) ⟨Nat.le_of_ble_eq_true rfl, Nat.le_of_ble_eq_true rfl⟩) (jpreS hT ⟨hPc_16, hDc_17.weaken (fun _ _ _ _ => trivial), trivial⟩) rfl rfl hl.1 rfl (lv_room (Nat.le_of_ble_eq_true rfl)) dX7_times_220 ⟨(Nat.zero_le _), (Nat.zero_le _)⟩) hS hFc_18 (fun H locs hw_r_19 hz hkq hS => ?_)
            have hP1 := hw_r_19
            obtain ⟨hP, hD⟩ := jjoin (wc := [(zv, .inl (cI, 30, .inl (jfl Rw Sv 30))), (zr, .inl (cI, 30, .inl Rv))]) (wr := [(z, .inr (7, [a0, a1, .int (nI n), .int (y + nI ys), .int jo, a5, a6, a7, .ref zr, a9, a10, a11, a12, a13, .int (nI q), .ref zv, a16, a17, a18, a19, a20, a21, a22, a23, a24]))]) (w1 := [(zv, .inl (cI, 30, .inl (jfl Rw Sv 30))), (zr, .inl (cI, 30, .inl (jfl (jfl Rw Sv 30) Rv 30)))]) (ws' := [(z, .inr (7, [a0, a1, .int (nI n), .int (y + nI ys), .int jo, a5, a6, a7, .ref zr, a9, a10, a11, a12, a13, .int (nI q), .ref zv, a16, a17, a18, a19, a20, a21, a22, a23, a24])), (zr, .inl (cI, 30, .inl (jfl (jfl Rw Sv 30) Rv 30))), (zv, .inl (cI, 30, .inl (jfl Rw Sv 30)))]) hP hD hFc_18 [2, 1] [0] [0, 2, 1] rfl rfl (by decide) (by decide) (by decide) (by decide) hkq hP1 rfl rfl rfl
            have hP : va_P D vwCl [(z, .inr (7, [a0, a1, .int (nI n), .int (y + nI ys), .int jo, a5, a6, a7, .ref zr, a9, a10, a11, a12, a13, .int (nI q), .ref zv, a16, a17, a18, a19, a20, a21, a22, a23, a24])), (zr, .inl (cI, 30, .inl Rw)), (zv, .inl (cI, 30, .inl (jfl Rw Sv 30)))] H := jP_arr hP 1 rfl (fun i hi => by simp [jfl, hi])
            have hD : va_D A [(z, .inr (7, [a0, a1, .int (nI n), .int (y + nI ys), .int jo, a5, a6, a7, .ref zr, a9, a10, a11, a12, a13, .int (nI q), .ref zv, a16, a17, a18, a19, a20, a21, a22, a23, a24])), (zr, .inl (cI, 30, .inl Rw)), (zv, .inl (cI, 30, .inl (jfl Rw Sv 30)))] := jD_of hD rfl
            refine lv_aload_n hx hb dX7_times_223 rfl (lv_at hl 1 rfl) ?_
            refine lv_iload hx hb dX7_times_224 (lv_at hl 4 rfl) ?_
            refine va_put (D := D) (ci := 7) (v := .int y) (ty := .int) (C := RX7) (T := TX7) (N := 25) hx hb hts (fun w h => List.mem_cons_of_mem _ (List.mem_append_right _ h)) tyX7 tyX7_ok nmX7 hown hK hP hD hS 0 rfl rfl 3 (by decide) (hts (Cond.fieldLink RX7 66 "JamDaysModel" "yearNow" "I") (List.mem_of_getElem? (i := 5) rfl)) (fun _ h9 => h9) rfl (by decide +kernel) rfl rfl (Nat.le_of_ble_eq_true rfl) dX7_times_226 (fun H locs hP hD hS => ?_)
            have hP : va_P D vwCl [(z, .inr (7, [a0, a1, .int (nI n), .int y, .int jo, a5, a6, a7, .ref zr, a9, a10, a11, a12, a13, .int (nI q), .ref zv, a16, a17, a18, a19, a20, a21, a22, a23, a24])), (zr, .inl (cI, 30, .inl Rw)), (zv, .inl (cI, 30, .inl (jfl Rw Sv 30)))] H := hP
            have hD : va_D A [(z, .inr (7, [a0, a1, .int (nI n), .int y, .int jo, a5, a6, a7, .ref zr, a9, a10, a11, a12, a13, .int (nI q), .ref zv, a16, a17, a18, a19, a20, a21, a22, a23, a24])), (zr, .inl (cI, 30, .inl Rw)), (zv, .inl (cI, 30, .inl (jfl Rw Sv 30)))] := hD
            refine lv_iload_n hx hb dX7_times_229 rfl (lv_at hl 3 rfl) ?_
            refine lv_if_ne (tgt := 238) hx hb dX7_times_230 (by decide) (fun c_20 => ?_) (fun c_20 => ?_)
            · skip
              replace c_20 : ¬ cq = 0 := fun h => c_20 ((nI_eq (a := cq) (b := 0) (by omega) (by omega)).mpr h)
              refine lv_iload_n hx hb dX7_times_238 rfl (lv_at hl 3 rfl) ?_
              refine lv_iconst (v := 1) hx hb dX7_times_239 (by decide) ?_
              refine lv_icmp_ne (tgt := 252) hx hb dX7_times_240 (by decide) (fun c_21 => ?_) (fun c_21 => ?_)
              · skip
                replace c_21 : ¬ cq = 1 := fun h => c_21 ((nI_eq (a := cq) (b := 1) (by omega) (by omega)).mpr h)
                refine lv_aload_n hx hb dX7_times_252 rfl (lv_at hl 1 rfl) ?_
                refine va_get (D := D) (ci := 7) (v := .int (nI q)) (C := RX7) (T := TX7) (N := 25) hx hb hts (fun w h => List.mem_cons_of_mem _ (List.mem_append_right _ h)) hown hK hP 0 rfl rfl 14 (by decide) (hts (Cond.fieldLink RX7 153 "JamDaysModel" "seedNow" "I") (List.mem_of_getElem? (i := 6) rfl)) (fun _ h9 => h9) rfl dX7_times_253 ?_
                exact W.iret (v := nI q) hx hb hr (fun t ht hW => ⟨⟨nI q, nI q, rfl, rfl, by dsimp only; rw [ht]; exact ⟨Rv, sm, q, hst, (by simp [jtm, c_20, c_21]), hP⟩⟩, hS.F ht⟩) hS.2.2 dX7_times_256
              · skip
                replace c_21 : cq = 1 := (nI_eq (a := cq) (b := 1) (by omega) (by omega)).mp c_21
                refine lv_iload hx hb dX7_times_243 (lv_at hl 5 rfl) ?_
                refine lv_sipush (v := 2000) hx hb dX7_times_245 (by decide) ?_
                refine lv_iadd hx hb dX7_times_248 ?_
                refine lv_goto (tgt := 256) hx hb dX7_times_249 (by decide) ?_
                exact W.iret (v := sm + 2000) hx hb hr (fun t ht hW => ⟨⟨sm + 2000, sm + 2000, rfl, rfl, by dsimp only; rw [ht]; exact ⟨Rv, sm, q, hst, (by simp [jtm, c_20, c_21]), hP⟩⟩, hS.F ht⟩) hS.2.2 dX7_times_256
            · skip
              replace c_20 : cq = 0 := (nI_eq (a := cq) (b := 0) (by omega) (by omega)).mp c_20
              refine lv_iload hx hb dX7_times_233 (lv_at hl 0 rfl) ?_
              refine lv_goto (tgt := 256) hx hb dX7_times_235 (by decide) ?_
              exact W.iret (v := msum Rv n) hx hb hr (fun t ht hW => ⟨⟨msum Rv n, msum Rv n, rfl, rfl, by dsimp only; rw [ht]; exact ⟨Rv, sm, q, hst, (by simp [jtm, c_20]), hP⟩⟩, hS.F ht⟩) hS.2.2 dX7_times_256
          · skip
            replace c_13 : ¬ ys ≤ k := fun h => c_13 ((nI_leI (a := ys) (b := k) (by omega) (by omega)).mpr h)
            obtain ⟨q1, hq1⟩ : ∃ z9 : Nat, z9 = jsd q := ⟨_, rfl⟩
            obtain ⟨t1, ht1⟩ : ∃ z9 : Nat, z9 = q1 / 65536 % n := ⟨_, rfl⟩
            obtain ⟨q2, hq2⟩ : ∃ z9 : Nat, z9 = jsd q1 := ⟨_, rfl⟩
            obtain ⟨t2, ht2⟩ : ∃ z9 : Nat, z9 = q2 / 65536 % n := ⟨_, rfl⟩
            have hq1l : q1 < 2147483648 := by rw [hq1]; exact jsd_lt _
            have hq2l : q2 < 2147483648 := by rw [hq2]; exact jsd_lt _
            have ht9 : t1 < n := by rw [ht1]; exact Nat.mod_lt _ hn0
            have he9 : t2 < n := by rw [ht2]; exact Nat.mod_lt _ hn0
            refine lv_aload_n hx hb dX7_times_78 rfl (lv_at hl 0 rfl) ?_
            refine lv_aload_n hx hb dX7_times_79 rfl (lv_at hl 0 rfl) ?_
            refine va_get (D := D) (ci := 7) (v := .int (nI n)) (C := RX7) (T := TX7) (N := 25) hx hb hts (fun w h => List.mem_cons_of_mem _ (List.mem_append_right _ h)) hown hK hP 0 rfl rfl 2 (by decide) (hts (Cond.fieldLink RX7 63 "JamDaysModel" "jars" "I") (List.mem_of_getElem? (i := 8) rfl)) (fun _ h9 => h9) rfl dX7_times_80 ?_
            have hPc_22 := hP.sub (ws' := [(z, .inr (7, [a0, a1, .int (nI n), .int (y + nI k), .int jo, a5, a6, a7, .ref zr, a9, a10, a11, a12, a13, .int (nI q), .ref zv, a16, a17, a18, a19, a20, a21, a22, a23, a24]))]) [0] rfl
            have hDc_23 := hD.sub (ws' := [(z, .inr (7, [a0, a1, .int (nI n), .int (y + nI k), .int jo, a5, a6, a7, .ref zr, a9, a10, a11, a12, a13, .int (nI q), .ref zv, a16, a17, a18, a19, a20, a21, a22, a23, a24]))]) [0] (by decide) rfl
            have hFc_24 := va_free (wc := [(z, .inr (7, [a0, a1, .int (nI n), .int (y + nI k), .int jo, a5, a6, a7, .ref zr, a9, a10, a11, a12, a13, .int (nI q), .ref zv, a16, a17, a18, a19, a20, a21, a22, a23, a24]))]) hD hS hA [0] rfl
            refine jcallWi (post := fun r H => r = nI t1 ∧ va_P D vwCl [(z, .inr (7, [a0, a1, (.int (nI n)), (.int (y + nI k)), (.int jo), a5, a6, a7, (.ref zr), a9, a10, a11, a12, a13, .int (nI q1), (.ref zv), a16, a17, a18, a19, a20, a21, a22, a23, a24]))] H) (va_runV (As := [.int (nI n)]) (rest := []) ⟨hx, hb, hml, hown, hts⟩ (c_mdraw2 l D cI cJ z q n q1 t1 a0 a1 (.int (nI n)) (.int (y + nI k)) (.int jo) a5 a6 a7 (.ref zr) a9 a10 a11 a12 a13 (.ref zv) a16 a17 a18 a19 a20 a21 a22 a23 a24 hq9 hn0 hn6 hq1 ht1 H.size) (cwV 1 hts gX7_times_X7_draw rfl rfl rfl (by decide +kernel) ⟨Nat.le_of_ble_eq_true rfl, Nat.le_of_ble_eq_true rfl⟩) (jpreV hT (va_recv hK hP (ci := 7) (q0 := 0) rfl rfl) ⟨hPc_22, hDc_23.weaken (fun _ _ _ _ => trivial), trivial⟩) rfl rfl hl.1 rfl (lv_room (Nat.le_of_ble_eq_true rfl)) dX7_times_83 ⟨(Nat.zero_le _), (Nat.zero_le _)⟩) hS hFc_24 (fun r_25 H locs hw_r_25 hz hkq hS => ?_)
            obtain ⟨hr9, hP1⟩ := hw_r_25
            obtain ⟨hP, hD⟩ := jjoin (wc := [(z, .inr (7, [a0, a1, .int (nI n), .int (y + nI k), .int jo, a5, a6, a7, .ref zr, a9, a10, a11, a12, a13, .int (nI q), .ref zv, a16, a17, a18, a19, a20, a21, a22, a23, a24]))]) (wr := [(zr, .inl (cI, 30, .inl Rv)), (zv, .inl (cI, 30, .inl (jfl Rw Sv 30)))]) (w1 := [(z, .inr (7, [a0, a1, .int (nI n), .int (y + nI k), .int jo, a5, a6, a7, .ref zr, a9, a10, a11, a12, a13, .int (nI q1), .ref zv, a16, a17, a18, a19, a20, a21, a22, a23, a24]))]) (ws' := [(z, .inr (7, [a0, a1, .int (nI n), .int (y + nI k), .int jo, a5, a6, a7, .ref zr, a9, a10, a11, a12, a13, .int (nI q1), .ref zv, a16, a17, a18, a19, a20, a21, a22, a23, a24])), (zr, .inl (cI, 30, .inl Rv)), (zv, .inl (cI, 30, .inl (jfl Rw Sv 30)))]) hP hD hFc_24 [0] [1, 2] [2, 0, 1] rfl rfl (by decide) (by decide) (by decide) (by decide) hkq hP1 rfl rfl rfl
            subst hr9
            refine lv_istore (lv' := [(7, .int (nI t1)), (0, .ref z), (1, .int (nI ys)), (3, .int (nI cq)), (4, .int y), (5, .int sm), (6, .int (nI k))]) hx hb dX7_times_86 hl (by decide) rfl (fun ls hl => ?_)
            refine lv_aload_n hx hb dX7_times_88 rfl (lv_at hl 1 rfl) ?_
            refine va_get (D := D) (ci := 7) (v := .ref zr) (C := RX7) (T := TX7) (N := 25) hx hb hts (fun w h => List.mem_cons_of_mem _ (List.mem_append_right _ h)) hown hK hP 0 rfl rfl 8 (by decide) (hts (Cond.fieldLink RX7 13 "JamDaysModel" "rows" "[I") (List.mem_of_getElem? (i := 3) rfl)) (fun _ h9 => h9) rfl dX7_times_89 ?_
            refine lv_iconst (v := 5) hx hb dX7_times_92 (by decide) ?_
            refine lv_iload hx hb dX7_times_93 (lv_at hl 0 rfl) ?_
            refine lv_imul hx hb dX7_times_95 ?_
            refine jv_as (y := nI (5 * t1)) (pk_mul 5 t1) ?_
            refine lv_iconst (v := 3) hx hb dX7_times_96 (by decide) ?_
            refine lv_iadd hx hb dX7_times_97 ?_
            refine jv_as (y := nI ((5 * t1) + 3)) (nI_add (5 * t1) 3) ?_
            refine lv_dup2_11 hx hb dX7_times_98 rfl rfl ?_
            refine jv_ald (k := (5 * t1) + 3) hx hb hK hP 1 0 rfl rfl (by omega) (by decide) dX7_times_99 ?_
            refine lv_aload_n hx hb dX7_times_100 rfl (lv_at hl 1 rfl) ?_
            refine va_get (D := D) (ci := 7) (v := .ref zr) (C := RX7) (T := TX7) (N := 25) hx hb hts (fun w h => List.mem_cons_of_mem _ (List.mem_append_right _ h)) hown hK hP 0 rfl rfl 8 (by decide) (hts (Cond.fieldLink RX7 13 "JamDaysModel" "rows" "[I") (List.mem_of_getElem? (i := 3) rfl)) (fun _ h9 => h9) rfl dX7_times_101 ?_
            refine lv_iconst (v := 5) hx hb dX7_times_104 (by decide) ?_
            refine lv_iload hx hb dX7_times_105 (lv_at hl 0 rfl) ?_
            refine lv_imul hx hb dX7_times_107 ?_
            refine jv_as (y := nI (5 * t1)) (pk_mul 5 t1) ?_
            refine lv_iconst (v := 3) hx hb dX7_times_108 (by decide) ?_
            refine lv_iadd hx hb dX7_times_109 ?_
            refine jv_as (y := nI ((5 * t1) + 3)) (nI_add (5 * t1) 3) ?_
            refine jv_ald (k := (5 * t1) + 3) hx hb hK hP 1 0 rfl rfl (by omega) (by decide) dX7_times_110 ?_
            refine jlabel (α := Int32) (fun (b9 : Int32) (H : Heap) (locs : List Loc) (ls : Array Slot) => (va_P D vwCl [(z, .inr (7, [a0, a1, .int (nI n), .int (y + nI k), .int jo, a5, a6, a7, .ref zr, a9, a10, a11, a12, a13, .int (nI q1), .ref zv, a16, a17, a18, a19, a20, a21, a22, a23, a24])), (zr, .inl (cI, 30, .inl Rv)), (zv, .inl (cI, 30, .inl (jfl Rw Sv 30)))] H) ∧ (va_D A [(z, .inr (7, [a0, a1, .int (nI n), .int (y + nI k), .int jo, a5, a6, a7, .ref zr, a9, a10, a11, a12, a13, .int (nI q1), .ref zv, a16, a17, a18, a19, a20, a21, a22, a23, a24])), (zr, .inl (cI, 30, .inl Rv)), (zv, .inl (cI, 30, .inl (jfl Rw Sv 30)))]) ∧ (va_S A s.heap H locs) ∧ (lv_has ls 9 [(0, .ref z), (1, .int (nI ys)), (3, .int (nI cq)), (4, .int y), (5, .int sm), (6, .int (nI k))]) ∧ (b9 = (if 0 < Rv (5 * (t1) + 3) then 1 else 0))) (fun (b9 : Int32) => [.int b9, .int (Rv (5 * (t1) + 3)), .int (nI (5 * (t1) + 3)), .ref zr]) 119 (fun b9 H locs ls hx9 => ?_) (fun hj_119 => ?_)
            · skip
              obtain ⟨hP, hD, hS, hl, hb9⟩ := hx9
              try dsimp only
              refine lv_isub hx hb dX7_times_119 ?_
              refine jv_ast (k := 5 * (t1) + 3) (x := (Rv (5 * (t1) + 3)) - b9) hx hb hK hP hD hS 1 0 rfl rfl (by omega) (by decide) dX7_times_120 (fun H locs hP hD hS => ?_)
              have hP : va_P D vwCl [(z, .inr (7, [a0, a1, .int (nI n), .int (y + nI k), .int jo, a5, a6, a7, .ref zr, a9, a10, a11, a12, a13, .int (nI q1), .ref zv, a16, a17, a18, a19, a20, a21, a22, a23, a24])), (zr, .inl (cI, 30, .inl (upd Rv (5 * (t1) + 3) ((Rv (5 * (t1) + 3)) - b9)))), (zv, .inl (cI, 30, .inl (jfl Rw Sv 30)))] H := hP
              have hD : va_D A [(z, .inr (7, [a0, a1, .int (nI n), .int (y + nI k), .int jo, a5, a6, a7, .ref zr, a9, a10, a11, a12, a13, .int (nI q1), .ref zv, a16, a17, a18, a19, a20, a21, a22, a23, a24])), (zr, .inl (cI, 30, .inl (upd Rv (5 * (t1) + 3) ((Rv (5 * (t1) + 3)) - b9)))), (zv, .inl (cI, 30, .inl (jfl Rw Sv 30)))] := hD
              refine lv_aload_n hx hb dX7_times_121 rfl (lv_at hl 0 rfl) ?_
              refine lv_aload_n hx hb dX7_times_122 rfl (lv_at hl 0 rfl) ?_
              refine va_get (D := D) (ci := 7) (v := .int (nI n)) (C := RX7) (T := TX7) (N := 25) hx hb hts (fun w h => List.mem_cons_of_mem _ (List.mem_append_right _ h)) hown hK hP 0 rfl rfl 2 (by decide) (hts (Cond.fieldLink RX7 63 "JamDaysModel" "jars" "I") (List.mem_of_getElem? (i := 8) rfl)) (fun _ h9 => h9) rfl dX7_times_123 ?_
              have hPc_26 := hP.sub (ws' := [(z, .inr (7, [a0, a1, .int (nI n), .int (y + nI k), .int jo, a5, a6, a7, .ref zr, a9, a10, a11, a12, a13, .int (nI q1), .ref zv, a16, a17, a18, a19, a20, a21, a22, a23, a24]))]) [0] rfl
              have hDc_27 := hD.sub (ws' := [(z, .inr (7, [a0, a1, .int (nI n), .int (y + nI k), .int jo, a5, a6, a7, .ref zr, a9, a10, a11, a12, a13, .int (nI q1), .ref zv, a16, a17, a18, a19, a20, a21, a22, a23, a24]))]) [0] (by decide) rfl
              have hFc_28 := va_free (wc := [(z, .inr (7, [a0, a1, .int (nI n), .int (y + nI k), .int jo, a5, a6, a7, .ref zr, a9, a10, a11, a12, a13, .int (nI q1), .ref zv, a16, a17, a18, a19, a20, a21, a22, a23, a24]))]) hD hS hA [0] rfl
              refine jcallWi (post := fun r H => r = nI t2 ∧ va_P D vwCl [(z, .inr (7, [a0, a1, (.int (nI n)), (.int (y + nI k)), (.int jo), a5, a6, a7, (.ref zr), a9, a10, a11, a12, a13, .int (nI q2), (.ref zv), a16, a17, a18, a19, a20, a21, a22, a23, a24]))] H) (va_runV (As := [.int (nI n)]) (rest := []) ⟨hx, hb, hml, hown, hts⟩ (c_mdraw2 l D cI cJ z q1 n q2 t2 a0 a1 (.int (nI n)) (.int (y + nI k)) (.int jo) a5 a6 a7 (.ref zr) a9 a10 a11 a12 a13 (.ref zv) a16 a17 a18 a19 a20 a21 a22 a23 a24 hq1l hn0 hn6 hq2 ht2 H.size) (cwV 1 hts gX7_times_X7_draw rfl rfl rfl (by decide +kernel) ⟨Nat.le_of_ble_eq_true rfl, Nat.le_of_ble_eq_true rfl⟩) (jpreV hT (va_recv hK hP (ci := 7) (q0 := 0) rfl rfl) ⟨hPc_26, hDc_27.weaken (fun _ _ _ _ => trivial), trivial⟩) rfl rfl hl.1 rfl (lv_room (Nat.le_of_ble_eq_true rfl)) dX7_times_126 ⟨(Nat.zero_le _), (Nat.zero_le _)⟩) hS hFc_28 (fun r_29 H locs hw_r_29 hz hkq hS => ?_)
              obtain ⟨hr9, hP1⟩ := hw_r_29
              obtain ⟨hP, hD⟩ := jjoin (wc := [(z, .inr (7, [a0, a1, .int (nI n), .int (y + nI k), .int jo, a5, a6, a7, .ref zr, a9, a10, a11, a12, a13, .int (nI q1), .ref zv, a16, a17, a18, a19, a20, a21, a22, a23, a24]))]) (wr := [(zr, .inl (cI, 30, .inl (upd Rv (5 * (t1) + 3) ((Rv (5 * (t1) + 3)) - b9)))), (zv, .inl (cI, 30, .inl (jfl Rw Sv 30)))]) (w1 := [(z, .inr (7, [a0, a1, .int (nI n), .int (y + nI k), .int jo, a5, a6, a7, .ref zr, a9, a10, a11, a12, a13, .int (nI q2), .ref zv, a16, a17, a18, a19, a20, a21, a22, a23, a24]))]) (ws' := [(z, .inr (7, [a0, a1, .int (nI n), .int (y + nI k), .int jo, a5, a6, a7, .ref zr, a9, a10, a11, a12, a13, .int (nI q2), .ref zv, a16, a17, a18, a19, a20, a21, a22, a23, a24])), (zr, .inl (cI, 30, .inl (upd Rv (5 * (t1) + 3) ((Rv (5 * (t1) + 3)) - b9)))), (zv, .inl (cI, 30, .inl (jfl Rw Sv 30)))]) hP hD hFc_28 [0] [1, 2] [2, 0, 1] rfl rfl (by decide) (by decide) (by decide) (by decide) hkq hP1 rfl rfl rfl
              subst hr9
              refine lv_istore (lv' := [(8, .int (nI t2)), (0, .ref z), (1, .int (nI ys)), (3, .int (nI cq)), (4, .int y), (5, .int sm), (6, .int (nI k))]) hx hb dX7_times_129 hl (by decide) rfl (fun ls hl => ?_)
              refine lv_aload_n hx hb dX7_times_131 rfl (lv_at hl 1 rfl) ?_
              refine va_get (D := D) (ci := 7) (v := .ref zr) (C := RX7) (T := TX7) (N := 25) hx hb hts (fun w h => List.mem_cons_of_mem _ (List.mem_append_right _ h)) hown hK hP 0 rfl rfl 8 (by decide) (hts (Cond.fieldLink RX7 13 "JamDaysModel" "rows" "[I") (List.mem_of_getElem? (i := 3) rfl)) (fun _ h9 => h9) rfl dX7_times_132 ?_
              refine lv_iconst (v := 5) hx hb dX7_times_135 (by decide) ?_
              refine lv_iload hx hb dX7_times_136 (lv_at hl 0 rfl) ?_
              refine lv_imul hx hb dX7_times_138 ?_
              refine jv_as (y := nI (5 * t2)) (pk_mul 5 t2) ?_
              refine lv_iconst (v := 3) hx hb dX7_times_139 (by decide) ?_
              refine lv_iadd hx hb dX7_times_140 ?_
              refine jv_as (y := nI ((5 * t2) + 3)) (nI_add (5 * t2) 3) ?_
              refine jv_ald (k := (5 * t2) + 3) hx hb hK hP 1 0 rfl rfl (by omega) (by decide) dX7_times_141 ?_
              refine lv_if_le (tgt := 186) hx hb dX7_times_142 (by decide) (fun c_30 => ?_) (fun c_30 => ?_)
              · skip
                refine lv_aload_n hx hb dX7_times_186 rfl (lv_at hl 1 rfl) ?_
                refine lv_dup hx hb dX7_times_187 rfl ?_
                refine va_get (D := D) (ci := 7) (v := .int (y + nI k)) (C := RX7) (T := TX7) (N := 25) hx hb hts (fun w h => List.mem_cons_of_mem _ (List.mem_append_right _ h)) hown hK hP 0 rfl rfl 3 (by decide) (hts (Cond.fieldLink RX7 66 "JamDaysModel" "yearNow" "I") (List.mem_of_getElem? (i := 5) rfl)) (fun _ h9 => h9) rfl dX7_times_188 ?_
                refine lv_iconst (v := 1) hx hb dX7_times_191 (by decide) ?_
                refine lv_iadd hx hb dX7_times_192 ?_
                refine va_put (D := D) (ci := 7) (v := .int ((y + nI k) + 1)) (ty := .int) (C := RX7) (T := TX7) (N := 25) hx hb hts (fun w h => List.mem_cons_of_mem _ (List.mem_append_right _ h)) tyX7 tyX7_ok nmX7 hown hK hP hD hS 0 rfl rfl 3 (by decide) (hts (Cond.fieldLink RX7 66 "JamDaysModel" "yearNow" "I") (List.mem_of_getElem? (i := 5) rfl)) (fun _ h9 => h9) rfl (by decide +kernel) rfl rfl (Nat.le_of_ble_eq_true rfl) dX7_times_193 (fun H locs hP hD hS => ?_)
                have hP : va_P D vwCl [(z, .inr (7, [a0, a1, .int (nI n), .int ((y + nI k) + 1), .int jo, a5, a6, a7, .ref zr, a9, a10, a11, a12, a13, .int (nI q2), .ref zv, a16, a17, a18, a19, a20, a21, a22, a23, a24])), (zr, .inl (cI, 30, .inl (upd Rv (5 * (t1) + 3) ((Rv (5 * (t1) + 3)) - b9)))), (zv, .inl (cI, 30, .inl (jfl Rw Sv 30)))] H := hP
                have hD : va_D A [(z, .inr (7, [a0, a1, .int (nI n), .int ((y + nI k) + 1), .int jo, a5, a6, a7, .ref zr, a9, a10, a11, a12, a13, .int (nI q2), .ref zv, a16, a17, a18, a19, a20, a21, a22, a23, a24])), (zr, .inl (cI, 30, .inl (upd Rv (5 * (t1) + 3) ((Rv (5 * (t1) + 3)) - b9)))), (zv, .inl (cI, 30, .inl (jfl Rw Sv 30)))] := hD
                refine lv_aload_n hx hb dX7_times_196 rfl (lv_at hl 1 rfl) ?_
                have hPc_31 := hP.sub (ws' := [(z, .inr (7, [a0, a1, .int (nI n), .int ((y + nI k) + 1), .int jo, a5, a6, a7, .ref zr, a9, a10, a11, a12, a13, .int (nI q2), .ref zv, a16, a17, a18, a19, a20, a21, a22, a23, a24])), (zr, .inl (cI, 30, .inl (upd Rv (5 * (t1) + 3) ((Rv (5 * (t1) + 3)) - b9))))]) [0, 1] rfl
                have hDc_32 := hD.sub (ws' := [(z, .inr (7, [a0, a1, .int (nI n), .int ((y + nI k) + 1), .int jo, a5, a6, a7, .ref zr, a9, a10, a11, a12, a13, .int (nI q2), .ref zv, a16, a17, a18, a19, a20, a21, a22, a23, a24])), (zr, .inl (cI, 30, .inl (upd Rv (5 * (t1) + 3) ((Rv (5 * (t1) + 3)) - b9))))]) [0, 1] (by decide) rfl
                have hFc_33 := va_free (wc := [(z, .inr (7, [a0, a1, .int (nI n), .int ((y + nI k) + 1), .int jo, a5, a6, a7, .ref zr, a9, a10, a11, a12, a13, .int (nI q2), .ref zv, a16, a17, a18, a19, a20, a21, a22, a23, a24])), (zr, .inl (cI, 30, .inl (upd Rv (5 * (t1) + 3) ((Rv (5 * (t1) + 3)) - b9))))]) hD hS hA [0, 1] rfl
                refine jcallWv (post := fun H => va_P D vwCl [(z, .inr (7, [a0, a1, .int (nI n), (.int ((y + nI k) + 1)), (.int jo), a5, a6, a7, .ref zr, a9, a10, a11, a12, a13, (.int (nI q2)), (.ref zv), a16, a17, a18, a19, a20, a21, a22, a23, a24])), (zr, .inl (cI, 30, .inl (mne (upd Rv (5 * (t1) + 3) ((Rv (5 * (t1) + 3)) - b9)) n)))] H) (va_runV (As := []) (rest := []) ⟨hx, hb, hml, hown, hts⟩ (c_noneEaten l D cI cJ z zr n a0 a1 (.int ((y + nI k) + 1)) (.int jo) a5 a6 a7 a9 a10 a11 a12 a13 (.int (nI q2)) (.ref zv) a16 a17 a18 a19 a20 a21 a22 a23 a24 (upd Rv (5 * (t1) + 3) ((Rv (5 * (t1) + 3)) - b9)) hn6 H.size) (cwV 0 hts gX7_times_X7_noneEaten rfl rfl rfl (by decide +kernel) ⟨Nat.le_of_ble_eq_true rfl, Nat.le_of_ble_eq_true rfl⟩) (jpreV hT (va_recv hK hP (ci := 7) (q0 := 0) rfl rfl) ⟨hPc_31, hDc_32.weaken (fun _ _ _ _ => trivial), trivial⟩) rfl rfl hl.1 rfl (lv_room (Nat.le_of_ble_eq_true rfl)) dX7_times_197 ⟨(Nat.zero_le _), (Nat.zero_le _)⟩) hS hFc_33 (fun H locs hw_r_34 hz hkq hS => ?_)
                have hP1 := hw_r_34
                obtain ⟨hP, hD⟩ := jjoin (wc := [(z, .inr (7, [a0, a1, .int (nI n), .int ((y + nI k) + 1), .int jo, a5, a6, a7, .ref zr, a9, a10, a11, a12, a13, .int (nI q2), .ref zv, a16, a17, a18, a19, a20, a21, a22, a23, a24])), (zr, .inl (cI, 30, .inl (upd Rv (5 * (t1) + 3) ((Rv (5 * (t1) + 3)) - b9))))]) (wr := [(zv, .inl (cI, 30, .inl (jfl Rw Sv 30)))]) (w1 := [(z, .inr (7, [a0, a1, .int (nI n), .int ((y + nI k) + 1), .int jo, a5, a6, a7, .ref zr, a9, a10, a11, a12, a13, .int (nI q2), .ref zv, a16, a17, a18, a19, a20, a21, a22, a23, a24])), (zr, .inl (cI, 30, .inl (mne (upd Rv (5 * (t1) + 3) ((Rv (5 * (t1) + 3)) - b9)) n)))]) (ws' := [(z, .inr (7, [a0, a1, .int (nI n), .int ((y + nI k) + 1), .int jo, a5, a6, a7, .ref zr, a9, a10, a11, a12, a13, .int (nI q2), .ref zv, a16, a17, a18, a19, a20, a21, a22, a23, a24])), (zr, .inl (cI, 30, .inl (mne (upd Rv (5 * (t1) + 3) ((Rv (5 * (t1) + 3)) - b9)) n))), (zv, .inl (cI, 30, .inl (jfl Rw Sv 30)))]) hP hD hFc_33 [0, 1] [2] [1, 2, 0] rfl rfl (by decide) (by decide) (by decide) (by decide) hkq hP1 rfl rfl rfl
                refine lv_iinc (v := nI (k + 1)) (lv' := [(6, .int (nI (k + 1))), (8, .int (nI t2)), (0, .ref z), (1, .int (nI ys)), (3, .int (nI cq)), (4, .int y), (5, .int sm)]) hx hb dX7_times_200 hl (k := 6) rfl ((rfl : nI k + Int32.ofInt 1 = nI k + nI 1).trans (nI_add k 1)) (by decide) rfl (fun ls hl => ?_)
                refine lv_goto (tgt := 72) hx hb dX7_times_203 (by decide) ?_
                have hP : va_P D vwCl [(z, .inr (7, [a0, a1, .int (nI n), .int (y + nI (k + 1)), .int jo, a5, a6, a7, .ref zr, a9, a10, a11, a12, a13, .int (nI q2), .ref zv, a16, a17, a18, a19, a20, a21, a22, a23, a24])), (zr, .inl (cI, 30, .inl (mne (upd Rv (5 * (t1) + 3) ((Rv (5 * (t1) + 3)) - b9)) n))), (zv, .inl (cI, 30, .inl (jfl Rw Sv 30)))] H := by rw [jy1]; exact hP
                have hD : va_D A [(z, .inr (7, [a0, a1, .int (nI n), .int (y + nI (k + 1)), .int jo, a5, a6, a7, .ref zr, a9, a10, a11, a12, a13, .int (nI q2), .ref zv, a16, a17, a18, a19, a20, a21, a22, a23, a24])), (zr, .inl (cI, 30, .inl (mne (upd Rv (5 * (t1) + 3) ((Rv (5 * (t1) + 3)) - b9)) n))), (zv, .inl (cI, 30, .inl (jfl Rw Sv 30)))] := jD_of hD rfl
                exact ih_72 (k + 1, q2, mne (upd Rv (5 * (t1) + 3) ((Rv (5 * (t1) + 3)) - b9)) n, sm) _ _ _ ⟨hP, hD, hS, lv_sub hl [2, 3, 4, 5, 6, 0] rfl, (by omega), hq2l, (by show mst _ _ (mts n y (Rw, jo, q0) k) = _; rw [hst]; subst ht1 ht2 hq2 hq1; unfold mst; rw [if_neg (by rw [← hb9]; exact fun h => jlt_le h c_30), ← hb9])⟩ (by dsimp only; omega)
              · skip
                refine lv_iload hx hb dX7_times_145 (lv_at hl 5 rfl) ?_
                refine lv_aload_n hx hb dX7_times_147 rfl (lv_at hl 1 rfl) ?_
                refine lv_iload hx hb dX7_times_148 (lv_at hl 0 rfl) ?_
                have hPc_35 := hP.sub (ws' := [(z, .inr (7, [a0, a1, .int (nI n), .int (y + nI k), .int jo, a5, a6, a7, .ref zr, a9, a10, a11, a12, a13, .int (nI q2), .ref zv, a16, a17, a18, a19, a20, a21, a22, a23, a24])), (zr, .inl (cI, 30, .inl (upd Rv (5 * (t1) + 3) ((Rv (5 * (t1) + 3)) - b9))))]) [0, 1] rfl
                refine jcalli (va_runV (As := [.int (nI t2)]) (rest := [.int sm]) ⟨hx, hb, hml, hown, hts⟩ (c_nextNow l D cI cJ z zr a0 a1 (.int (nI n)) (.int jo) a5 a6 a7 a9 a10 a11 a12 a13 (.int (nI q2)) (.ref zv) a16 a17 a18 a19 a20 a21 a22 a23 a24 (upd Rv (5 * (t1) + 3) ((Rv (5 * (t1) + 3)) - b9)) (y + nI k) t2 (by omega) H.size) (cwV 1 hts gX7_times_X7_nextNow rfl rfl rfl (by decide +kernel) ⟨Nat.le_of_ble_eq_true rfl, Nat.le_of_ble_eq_true rfl⟩) (jpreV hT (va_recv hK hP (ci := 7) (q0 := 0) rfl rfl) hPc_35) rfl rfl hl.1 rfl (lv_room (Nat.le_of_ble_eq_true rfl)) dX7_times_150 ⟨(Nat.zero_le _), (Nat.zero_le _)⟩) hS hA (fun r_36 H locs hw_r_36 hkq hS => ?_)
                try dsimp only at hw_r_36
                have hP := jkeep hP hkq
                subst hw_r_36
                refine lv_iadd hx hb dX7_times_153 ?_
                refine lv_istore (lv' := [(5, .int (sm + (mfi (upd Rv (5 * (t1) + 3) ((Rv (5 * (t1) + 3)) - b9)) t2 (y + nI k) - (upd Rv (5 * (t1) + 3) ((Rv (5 * (t1) + 3)) - b9)) (5 * t2 + 4)))), (8, .int (nI t2)), (0, .ref z), (1, .int (nI ys)), (3, .int (nI cq)), (4, .int y), (6, .int (nI k))]) hx hb dX7_times_154 hl (by decide) rfl (fun ls hl => ?_)
                refine lv_aload_n hx hb dX7_times_156 rfl (lv_at hl 2 rfl) ?_
                refine va_get (D := D) (ci := 7) (v := .ref zr) (C := RX7) (T := TX7) (N := 25) hx hb hts (fun w h => List.mem_cons_of_mem _ (List.mem_append_right _ h)) hown hK hP 0 rfl rfl 8 (by decide) (hts (Cond.fieldLink RX7 13 "JamDaysModel" "rows" "[I") (List.mem_of_getElem? (i := 3) rfl)) (fun _ h9 => h9) rfl dX7_times_157 ?_
                refine lv_iconst (v := 5) hx hb dX7_times_160 (by decide) ?_
                refine lv_iload hx hb dX7_times_161 (lv_at hl 1 rfl) ?_
                refine lv_imul hx hb dX7_times_163 ?_
                refine jv_as (y := nI (5 * t2)) (pk_mul 5 t2) ?_
                refine lv_iconst (v := 3) hx hb dX7_times_164 (by decide) ?_
                refine lv_iadd hx hb dX7_times_165 ?_
                refine jv_as (y := nI ((5 * t2) + 3)) (nI_add (5 * t2) 3) ?_
                refine lv_dup2_11 hx hb dX7_times_166 rfl rfl ?_
                refine jv_ald (k := (5 * t2) + 3) hx hb hK hP 1 0 rfl rfl (by omega) (by decide) dX7_times_167 ?_
                refine lv_iconst (v := 1) hx hb dX7_times_168 (by decide) ?_
                refine lv_isub hx hb dX7_times_169 ?_
                refine jv_ast (k := (5 * t2) + 3) (x := ((upd Rv (5 * (t1) + 3) ((Rv (5 * (t1) + 3)) - b9)) ((5 * t2) + 3)) - 1) hx hb hK hP hD hS 1 0 rfl rfl (by omega) (by decide) dX7_times_170 (fun H locs hP hD hS => ?_)
                have hP : va_P D vwCl [(z, .inr (7, [a0, a1, .int (nI n), .int (y + nI k), .int jo, a5, a6, a7, .ref zr, a9, a10, a11, a12, a13, .int (nI q2), .ref zv, a16, a17, a18, a19, a20, a21, a22, a23, a24])), (zr, .inl (cI, 30, .inl (upd (upd Rv (5 * (t1) + 3) ((Rv (5 * (t1) + 3)) - b9)) ((5 * t2) + 3) (((upd Rv (5 * (t1) + 3) ((Rv (5 * (t1) + 3)) - b9)) ((5 * t2) + 3)) - 1)))), (zv, .inl (cI, 30, .inl (jfl Rw Sv 30)))] H := hP
                have hD : va_D A [(z, .inr (7, [a0, a1, .int (nI n), .int (y + nI k), .int jo, a5, a6, a7, .ref zr, a9, a10, a11, a12, a13, .int (nI q2), .ref zv, a16, a17, a18, a19, a20, a21, a22, a23, a24])), (zr, .inl (cI, 30, .inl (upd (upd Rv (5 * (t1) + 3) ((Rv (5 * (t1) + 3)) - b9)) ((5 * t2) + 3) (((upd Rv (5 * (t1) + 3) ((Rv (5 * (t1) + 3)) - b9)) ((5 * t2) + 3)) - 1)))), (zv, .inl (cI, 30, .inl (jfl Rw Sv 30)))] := hD
                refine lv_aload_n hx hb dX7_times_171 rfl (lv_at hl 2 rfl) ?_
                refine va_get (D := D) (ci := 7) (v := .ref zr) (C := RX7) (T := TX7) (N := 25) hx hb hts (fun w h => List.mem_cons_of_mem _ (List.mem_append_right _ h)) hown hK hP 0 rfl rfl 8 (by decide) (hts (Cond.fieldLink RX7 13 "JamDaysModel" "rows" "[I") (List.mem_of_getElem? (i := 3) rfl)) (fun _ h9 => h9) rfl dX7_times_172 ?_
                refine lv_iconst (v := 5) hx hb dX7_times_175 (by decide) ?_
                refine lv_iload hx hb dX7_times_176 (lv_at hl 1 rfl) ?_
                refine lv_imul hx hb dX7_times_178 ?_
                refine jv_as (y := nI (5 * t2)) (pk_mul 5 t2) ?_
                refine lv_iconst (v := 4) hx hb dX7_times_179 (by decide) ?_
                refine lv_iadd hx hb dX7_times_180 ?_
                refine jv_as (y := nI ((5 * t2) + 4)) (nI_add (5 * t2) 4) ?_
                refine lv_dup2_11 hx hb dX7_times_181 rfl rfl ?_
                refine jv_ald (k := (5 * t2) + 4) hx hb hK hP 1 0 rfl rfl (by omega) (by decide) dX7_times_182 ?_
                refine jv_as (y := upd Rv (5 * (t1) + 3) (Rv (5 * (t1) + 3) - b9) (5 * (t2) + 4)) (pk_un (by omega)) ?_
                refine lv_iconst (v := 1) hx hb dX7_times_183 (by decide) ?_
                refine lv_iadd hx hb dX7_times_184 ?_
                refine jv_ast (k := (5 * t2) + 4) (x := (upd Rv (5 * (t1) + 3) (Rv (5 * (t1) + 3) - b9) (5 * (t2) + 4)) + 1) hx hb hK hP hD hS 1 0 rfl rfl (by omega) (by decide) dX7_times_185 (fun H locs hP hD hS => ?_)
                have hP : va_P D vwCl [(z, .inr (7, [a0, a1, .int (nI n), .int (y + nI k), .int jo, a5, a6, a7, .ref zr, a9, a10, a11, a12, a13, .int (nI q2), .ref zv, a16, a17, a18, a19, a20, a21, a22, a23, a24])), (zr, .inl (cI, 30, .inl (upd (upd (upd Rv (5 * (t1) + 3) ((Rv (5 * (t1) + 3)) - b9)) ((5 * t2) + 3) (((upd Rv (5 * (t1) + 3) ((Rv (5 * (t1) + 3)) - b9)) ((5 * t2) + 3)) - 1)) ((5 * t2) + 4) ((upd Rv (5 * (t1) + 3) (Rv (5 * (t1) + 3) - b9) (5 * (t2) + 4)) + 1)))), (zv, .inl (cI, 30, .inl (jfl Rw Sv 30)))] H := hP
                have hD : va_D A [(z, .inr (7, [a0, a1, .int (nI n), .int (y + nI k), .int jo, a5, a6, a7, .ref zr, a9, a10, a11, a12, a13, .int (nI q2), .ref zv, a16, a17, a18, a19, a20, a21, a22, a23, a24])), (zr, .inl (cI, 30, .inl (upd (upd (upd Rv (5 * (t1) + 3) ((Rv (5 * (t1) + 3)) - b9)) ((5 * t2) + 3) (((upd Rv (5 * (t1) + 3) ((Rv (5 * (t1) + 3)) - b9)) ((5 * t2) + 3)) - 1)) ((5 * t2) + 4) ((upd Rv (5 * (t1) + 3) (Rv (5 * (t1) + 3) - b9) (5 * (t2) + 4)) + 1)))), (zv, .inl (cI, 30, .inl (jfl Rw Sv 30)))] := hD
                refine lv_aload_n hx hb dX7_times_186 rfl (lv_at hl 2 rfl) ?_
                refine lv_dup hx hb dX7_times_187 rfl ?_
                refine va_get (D := D) (ci := 7) (v := .int (y + nI k)) (C := RX7) (T := TX7) (N := 25) hx hb hts (fun w h => List.mem_cons_of_mem _ (List.mem_append_right _ h)) hown hK hP 0 rfl rfl 3 (by decide) (hts (Cond.fieldLink RX7 66 "JamDaysModel" "yearNow" "I") (List.mem_of_getElem? (i := 5) rfl)) (fun _ h9 => h9) rfl dX7_times_188 ?_
                refine lv_iconst (v := 1) hx hb dX7_times_191 (by decide) ?_
                refine lv_iadd hx hb dX7_times_192 ?_
                refine va_put (D := D) (ci := 7) (v := .int ((y + nI k) + 1)) (ty := .int) (C := RX7) (T := TX7) (N := 25) hx hb hts (fun w h => List.mem_cons_of_mem _ (List.mem_append_right _ h)) tyX7 tyX7_ok nmX7 hown hK hP hD hS 0 rfl rfl 3 (by decide) (hts (Cond.fieldLink RX7 66 "JamDaysModel" "yearNow" "I") (List.mem_of_getElem? (i := 5) rfl)) (fun _ h9 => h9) rfl (by decide +kernel) rfl rfl (Nat.le_of_ble_eq_true rfl) dX7_times_193 (fun H locs hP hD hS => ?_)
                have hP : va_P D vwCl [(z, .inr (7, [a0, a1, .int (nI n), .int ((y + nI k) + 1), .int jo, a5, a6, a7, .ref zr, a9, a10, a11, a12, a13, .int (nI q2), .ref zv, a16, a17, a18, a19, a20, a21, a22, a23, a24])), (zr, .inl (cI, 30, .inl (upd (upd (upd Rv (5 * (t1) + 3) ((Rv (5 * (t1) + 3)) - b9)) ((5 * t2) + 3) (((upd Rv (5 * (t1) + 3) ((Rv (5 * (t1) + 3)) - b9)) ((5 * t2) + 3)) - 1)) ((5 * t2) + 4) ((upd Rv (5 * (t1) + 3) (Rv (5 * (t1) + 3) - b9) (5 * (t2) + 4)) + 1)))), (zv, .inl (cI, 30, .inl (jfl Rw Sv 30)))] H := hP
                have hD : va_D A [(z, .inr (7, [a0, a1, .int (nI n), .int ((y + nI k) + 1), .int jo, a5, a6, a7, .ref zr, a9, a10, a11, a12, a13, .int (nI q2), .ref zv, a16, a17, a18, a19, a20, a21, a22, a23, a24])), (zr, .inl (cI, 30, .inl (upd (upd (upd Rv (5 * (t1) + 3) ((Rv (5 * (t1) + 3)) - b9)) ((5 * t2) + 3) (((upd Rv (5 * (t1) + 3) ((Rv (5 * (t1) + 3)) - b9)) ((5 * t2) + 3)) - 1)) ((5 * t2) + 4) ((upd Rv (5 * (t1) + 3) (Rv (5 * (t1) + 3) - b9) (5 * (t2) + 4)) + 1)))), (zv, .inl (cI, 30, .inl (jfl Rw Sv 30)))] := hD
                refine lv_aload_n hx hb dX7_times_196 rfl (lv_at hl 2 rfl) ?_
                have hPc_37 := hP.sub (ws' := [(z, .inr (7, [a0, a1, .int (nI n), .int ((y + nI k) + 1), .int jo, a5, a6, a7, .ref zr, a9, a10, a11, a12, a13, .int (nI q2), .ref zv, a16, a17, a18, a19, a20, a21, a22, a23, a24])), (zr, .inl (cI, 30, .inl (upd (upd (upd Rv (5 * (t1) + 3) ((Rv (5 * (t1) + 3)) - b9)) ((5 * t2) + 3) (((upd Rv (5 * (t1) + 3) ((Rv (5 * (t1) + 3)) - b9)) ((5 * t2) + 3)) - 1)) ((5 * t2) + 4) ((upd Rv (5 * (t1) + 3) (Rv (5 * (t1) + 3) - b9) (5 * (t2) + 4)) + 1))))]) [0, 1] rfl
                have hDc_38 := hD.sub (ws' := [(z, .inr (7, [a0, a1, .int (nI n), .int ((y + nI k) + 1), .int jo, a5, a6, a7, .ref zr, a9, a10, a11, a12, a13, .int (nI q2), .ref zv, a16, a17, a18, a19, a20, a21, a22, a23, a24])), (zr, .inl (cI, 30, .inl (upd (upd (upd Rv (5 * (t1) + 3) ((Rv (5 * (t1) + 3)) - b9)) ((5 * t2) + 3) (((upd Rv (5 * (t1) + 3) ((Rv (5 * (t1) + 3)) - b9)) ((5 * t2) + 3)) - 1)) ((5 * t2) + 4) ((upd Rv (5 * (t1) + 3) (Rv (5 * (t1) + 3) - b9) (5 * (t2) + 4)) + 1))))]) [0, 1] (by decide) rfl
                have hFc_39 := va_free (wc := [(z, .inr (7, [a0, a1, .int (nI n), .int ((y + nI k) + 1), .int jo, a5, a6, a7, .ref zr, a9, a10, a11, a12, a13, .int (nI q2), .ref zv, a16, a17, a18, a19, a20, a21, a22, a23, a24])), (zr, .inl (cI, 30, .inl (upd (upd (upd Rv (5 * (t1) + 3) ((Rv (5 * (t1) + 3)) - b9)) ((5 * t2) + 3) (((upd Rv (5 * (t1) + 3) ((Rv (5 * (t1) + 3)) - b9)) ((5 * t2) + 3)) - 1)) ((5 * t2) + 4) ((upd Rv (5 * (t1) + 3) (Rv (5 * (t1) + 3) - b9) (5 * (t2) + 4)) + 1))))]) hD hS hA [0, 1] rfl
                refine jcallWv (post := fun H => va_P D vwCl [(z, .inr (7, [a0, a1, .int (nI n), (.int ((y + nI k) + 1)), (.int jo), a5, a6, a7, .ref zr, a9, a10, a11, a12, a13, (.int (nI q2)), (.ref zv), a16, a17, a18, a19, a20, a21, a22, a23, a24])), (zr, .inl (cI, 30, .inl (mne (upd (upd (upd Rv (5 * (t1) + 3) ((Rv (5 * (t1) + 3)) - b9)) ((5 * t2) + 3) (((upd Rv (5 * (t1) + 3) ((Rv (5 * (t1) + 3)) - b9)) ((5 * t2) + 3)) - 1)) ((5 * t2) + 4) ((upd Rv (5 * (t1) + 3) (Rv (5 * (t1) + 3) - b9) (5 * (t2) + 4)) + 1)) n)))] H) (va_runV (As := []) (rest := []) ⟨hx, hb, hml, hown, hts⟩ (c_noneEaten l D cI cJ z zr n a0 a1 (.int ((y + nI k) + 1)) (.int jo) a5 a6 a7 a9 a10 a11 a12 a13 (.int (nI q2)) (.ref zv) a16 a17 a18 a19 a20 a21 a22 a23 a24 (upd (upd (upd Rv (5 * (t1) + 3) ((Rv (5 * (t1) + 3)) - b9)) ((5 * t2) + 3) (((upd Rv (5 * (t1) + 3) ((Rv (5 * (t1) + 3)) - b9)) ((5 * t2) + 3)) - 1)) ((5 * t2) + 4) ((upd Rv (5 * (t1) + 3) (Rv (5 * (t1) + 3) - b9) (5 * (t2) + 4)) + 1)) hn6 H.size) (cwV 0 hts gX7_times_X7_noneEaten rfl rfl rfl (by decide +kernel) ⟨Nat.le_of_ble_eq_true rfl, Nat.le_of_ble_eq_true rfl⟩) (jpreV hT (va_recv hK hP (ci := 7) (q0 := 0) rfl rfl) ⟨hPc_37, hDc_38.weaken (fun _ _ _ _ => trivial), trivial⟩) rfl rfl hl.1 rfl (lv_room (Nat.le_of_ble_eq_true rfl)) dX7_times_197 ⟨(Nat.zero_le _), (Nat.zero_le _)⟩) hS hFc_39 (fun H locs hw_r_40 hz hkq hS => ?_)
                have hP1 := hw_r_40
                obtain ⟨hP, hD⟩ := jjoin (wc := [(z, .inr (7, [a0, a1, .int (nI n), .int ((y + nI k) + 1), .int jo, a5, a6, a7, .ref zr, a9, a10, a11, a12, a13, .int (nI q2), .ref zv, a16, a17, a18, a19, a20, a21, a22, a23, a24])), (zr, .inl (cI, 30, .inl (upd (upd (upd Rv (5 * (t1) + 3) ((Rv (5 * (t1) + 3)) - b9)) ((5 * t2) + 3) (((upd Rv (5 * (t1) + 3) ((Rv (5 * (t1) + 3)) - b9)) ((5 * t2) + 3)) - 1)) ((5 * t2) + 4) ((upd Rv (5 * (t1) + 3) (Rv (5 * (t1) + 3) - b9) (5 * (t2) + 4)) + 1))))]) (wr := [(zv, .inl (cI, 30, .inl (jfl Rw Sv 30)))]) (w1 := [(z, .inr (7, [a0, a1, .int (nI n), .int ((y + nI k) + 1), .int jo, a5, a6, a7, .ref zr, a9, a10, a11, a12, a13, .int (nI q2), .ref zv, a16, a17, a18, a19, a20, a21, a22, a23, a24])), (zr, .inl (cI, 30, .inl (mne (upd (upd (upd Rv (5 * (t1) + 3) ((Rv (5 * (t1) + 3)) - b9)) ((5 * t2) + 3) (((upd Rv (5 * (t1) + 3) ((Rv (5 * (t1) + 3)) - b9)) ((5 * t2) + 3)) - 1)) ((5 * t2) + 4) ((upd Rv (5 * (t1) + 3) (Rv (5 * (t1) + 3) - b9) (5 * (t2) + 4)) + 1)) n)))]) (ws' := [(z, .inr (7, [a0, a1, .int (nI n), .int ((y + nI k) + 1), .int jo, a5, a6, a7, .ref zr, a9, a10, a11, a12, a13, .int (nI q2), .ref zv, a16, a17, a18, a19, a20, a21, a22, a23, a24])), (zr, .inl (cI, 30, .inl (mne (upd (upd (upd Rv (5 * (t1) + 3) ((Rv (5 * (t1) + 3)) - b9)) ((5 * t2) + 3) (((upd Rv (5 * (t1) + 3) ((Rv (5 * (t1) + 3)) - b9)) ((5 * t2) + 3)) - 1)) ((5 * t2) + 4) ((upd Rv (5 * (t1) + 3) (Rv (5 * (t1) + 3) - b9) (5 * (t2) + 4)) + 1)) n))), (zv, .inl (cI, 30, .inl (jfl Rw Sv 30)))]) hP hD hFc_39 [0, 1] [2] [1, 2, 0] rfl rfl (by decide) (by decide) (by decide) (by decide) hkq hP1 rfl rfl rfl
                refine lv_iinc (v := nI (k + 1)) (lv' := [(6, .int (nI (k + 1))), (5, .int (sm + (mfi (upd Rv (5 * (t1) + 3) ((Rv (5 * (t1) + 3)) - b9)) t2 (y + nI k) - (upd Rv (5 * (t1) + 3) ((Rv (5 * (t1) + 3)) - b9)) (5 * t2 + 4)))), (8, .int (nI t2)), (0, .ref z), (1, .int (nI ys)), (3, .int (nI cq)), (4, .int y)]) hx hb dX7_times_200 hl (k := 6) rfl ((rfl : nI k + Int32.ofInt 1 = nI k + nI 1).trans (nI_add k 1)) (by decide) rfl (fun ls hl => ?_)
                refine lv_goto (tgt := 72) hx hb dX7_times_203 (by decide) ?_
                have hP : va_P D vwCl [(z, .inr (7, [a0, a1, .int (nI n), .int (y + nI (k + 1)), .int jo, a5, a6, a7, .ref zr, a9, a10, a11, a12, a13, .int (nI q2), .ref zv, a16, a17, a18, a19, a20, a21, a22, a23, a24])), (zr, .inl (cI, 30, .inl (mne (upd (upd (upd Rv (5 * (t1) + 3) ((Rv (5 * (t1) + 3)) - b9)) ((5 * t2) + 3) (((upd Rv (5 * (t1) + 3) ((Rv (5 * (t1) + 3)) - b9)) ((5 * t2) + 3)) - 1)) ((5 * t2) + 4) ((upd Rv (5 * (t1) + 3) (Rv (5 * (t1) + 3) - b9) (5 * (t2) + 4)) + 1)) n))), (zv, .inl (cI, 30, .inl (jfl Rw Sv 30)))] H := by rw [jy1]; exact hP
                have hD : va_D A [(z, .inr (7, [a0, a1, .int (nI n), .int (y + nI (k + 1)), .int jo, a5, a6, a7, .ref zr, a9, a10, a11, a12, a13, .int (nI q2), .ref zv, a16, a17, a18, a19, a20, a21, a22, a23, a24])), (zr, .inl (cI, 30, .inl (mne (upd (upd (upd Rv (5 * (t1) + 3) ((Rv (5 * (t1) + 3)) - b9)) ((5 * t2) + 3) (((upd Rv (5 * (t1) + 3) ((Rv (5 * (t1) + 3)) - b9)) ((5 * t2) + 3)) - 1)) ((5 * t2) + 4) ((upd Rv (5 * (t1) + 3) (Rv (5 * (t1) + 3) - b9) (5 * (t2) + 4)) + 1)) n))), (zv, .inl (cI, 30, .inl (jfl Rw Sv 30)))] := jD_of hD rfl
                exact ih_72 (k + 1, q2, mne (upd (upd (upd Rv (5 * (t1) + 3) ((Rv (5 * (t1) + 3)) - b9)) ((5 * t2) + 3) (((upd Rv (5 * (t1) + 3) ((Rv (5 * (t1) + 3)) - b9)) ((5 * t2) + 3)) - 1)) ((5 * t2) + 4) ((upd Rv (5 * (t1) + 3) (Rv (5 * (t1) + 3) - b9) (5 * (t2) + 4)) + 1)) n, sm + (mfi (upd Rv (5 * (t1) + 3) ((Rv (5 * (t1) + 3)) - b9)) t2 (y + nI k) - (upd Rv (5 * (t1) + 3) ((Rv (5 * (t1) + 3)) - b9)) (5 * t2 + 4))) _ _ _ ⟨hP, hD, hS, lv_sub hl [3, 4, 5, 6, 1, 0] rfl, (by omega), hq2l, (by show mst _ _ (mts n y (Rw, jo, q0) k) = _; rw [hst]; subst ht1 ht2 hq2 hq1; unfold mst; rw [if_pos (by rw [← hb9]; exact jnle c_30), ← hb9])⟩ (by dsimp only; omega)
            · skip
              refine lv_if_le (tgt := 118) hx hb dX7_times_111 (by decide) (fun c_41 => ?_) (fun c_41 => ?_)
              · skip
                refine lv_iconst (v := 0) hx hb dX7_times_118 (by decide) ?_
                exact hj_119 0 _ _ _ ⟨hP, hD, hS, lv_sub hl [1, 2, 3, 4, 5, 6] rfl, (by rw [if_neg (fun h => jlt_le h c_41)])⟩
              · skip
                refine lv_iconst (v := 1) hx hb dX7_times_114 (by decide) ?_
                refine lv_goto (tgt := 119) hx hb dX7_times_115 (by decide) ?_
                exact hj_119 1 _ _ _ ⟨hP, hD, hS, lv_sub hl [1, 2, 3, 4, 5, 6] rfl, (by rw [if_pos (jnle c_41)])⟩
        · skip
          exact absurd c_8 (by decide)
      · skip
        exact absurd c_5 (by decide)

