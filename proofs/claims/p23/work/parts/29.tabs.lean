/-! ===== the law: the script's cells, the tables ===== -/
set_option maxHeartbeats 4000000 in
set_option maxRecDepth 100000 in
theorem cl_cell (l : Launch) (D : va_G) (cI cJ : ClassId) (b L k : Nat) (xs : Nat → Int32) (hL : L ≤ 260) (hk : k < 1000) : ∀ sz : Nat, Met l yL_cell wsL_cell ({ frames := 0, cells := 0, slots := 0, locals := 0 }) (va_Pc [.ref b, .int (nI k)] (fun U => U.heap.size = sz ∧ jT D cI cJ U ∧ va_X b L xs U U.heap ∧ b < U.heap.size)) (va_Qi (fun r (_ : Unit) => True) (fun _ _ => True) (va_A [] sz)) 0 0 (va_A [] sz) := by
  intro sz
  refine Met.ofW (cc := cL_cell) (maxL := 2) (ret := (some .int)) (by decide) rfl ?_
  intro p e s m args below meth c s₁ B hml hv
  obtain ⟨rfl, hsz, hT, ⟨hX, hbl⟩⟩ := hv
  have hK := hT.1
  have hx := B.exec
  have hb := B.bytes
  have hr := B.returns
  have hts := atoms_spec (ws := wsL_cell) B.pre
  have hown : s.vm.findClass RL = some m.cls := findClass_of_methodNamed B.named
  have hlocks := B.notSynchronized
  subst hsz
  generalize hAe : va_A [] s.heap.size = A
  have hA : ∀ q : Nat, s.heap.size ≤ q → A q := fun q h => by rw [← hAe]; exact Or.inr h
  have hS : va_S A s.heap s.heap [] := va_S.rf
  have hl := lv_entry ([.ref b, .int (nI k)] : List Value) (n := 2) (Nat.le_of_ble_eq_true rfl)
  rw [lg_entry_eq]
  generalize (lg_sl ([.ref b, .int (nI k)]) ++ List.replicate (2 - (lg_sl ([.ref b, .int (nI k)])).length) Slot.unset).toArray = ls at hl ⊢
  have hl : lv_has ls 2 [(0, .ref b), (1, .int (nI k))] := hl
  have hbA : ¬ A b := fun h => by rw [← hAe] at h; exact Nat.not_le.mpr hbl (jA0.mp h)
  refine lv_iload_n hx hb dL_cell_0 rfl (lv_at hl 1 rfl) ?_
  refine lv_aload_n hx hb dL_cell_1 rfl (lv_at hl 0 rfl) ?_
  refine va_slen hx hb hX hbl hbA hS dL_cell_2 ?_
  refine jv_as (y := nI L) rfl ?_
  refine lv_icmp_ge (tgt := 12) hx hb dL_cell_3 (by decide) (fun c_1 => ?_) (fun c_1 => ?_)
  · skip
    replace c_1 : L ≤ k := (nI_leI (a := L) (b := k) (by omega) (by omega)).mp c_1
    refine lv_ldc (v := 747796405) hx hb hown (hts (Cond.constant RL 7 (747796405)) (List.mem_of_getElem? (i := 1) rfl)) dL_cell_12 ?_
    refine lv_iload_n hx hb dL_cell_14 rfl (lv_at hl 1 rfl) ?_
    refine lv_iconst (v := 1) hx hb dL_cell_15 (by decide) ?_
    refine lv_iadd hx hb dL_cell_16 ?_
    refine jv_as (y := nI (k + 1)) (nI_add k 1) ?_
    refine lv_imul hx hb dL_cell_17 ?_
    exact W.iret (v := 747796405 * (nI (k + 1))) hx hb hr (fun t ht hW => ⟨⟨747796405 * (nI (k + 1)), (), rfl, trivial, trivial⟩, hS.F ht⟩) hS.2.2 dL_cell_18
  · skip
    replace c_1 : ¬ L ≤ k := fun h => c_1 ((nI_leI (a := L) (b := k) (by omega) (by omega)).mpr h)
    refine lv_aload_n hx hb dL_cell_6 rfl (lv_at hl 0 rfl) ?_
    refine lv_iload_n hx hb dL_cell_7 rfl (lv_at hl 1 rfl) ?_
    refine va_sld hx hb hX hbl hbA hS (vp_in_nI (show k < L by omega) (by omega)) dL_cell_8 ?_
    refine lv_goto (tgt := 18) hx hb dL_cell_9 (by decide) ?_
    exact W.iret (v := xs (nI k).toNatClampNeg) hx hb hr (fun t ht hW => ⟨⟨xs (nI k).toNatClampNeg, (), rfl, trivial, trivial⟩, hS.F ht⟩) hS.2.2 dL_cell_18
theorem jpreX {s : State} {H : Heap} {D : va_G} {cI cJ : ClassId} {As : List Value} {b L : Nat} {xs : Nat → Int32} (hT : jT D cI cJ s) (hX : va_X b L xs s H) (hbl : b < H.size) : PreS s H (va_Pc As (fun U => U.heap.size = H.size ∧ jT D cI cJ U ∧ va_X b L xs U U.heap ∧ b < U.heap.size)) As :=
  ⟨fun a U g mk q => ⟨q.1, q.2.1, q.2.2.1.calling, va_X.moved (u := U) (U := U.calling g mk a) (Vm.Alike.refl U.vm) q.2.2.2.1, q.2.2.2.2⟩, fun U hU hW => ⟨rfl, by rw [hU], hT.warm hW, by rw [hU]; exact hX.moved hW.alike, by rw [hU]; exact hbl⟩⟩
theorem jlt_all {D : va_G} {cl : List vw_C} {ws : va_W} {H : Heap} {ad : List Nat} (hP : va_P D cl ws H) (h : ws.map (·.1) = ad) : ∀ a : Nat, a ∈ ad → a < H.size := by
  intro a ha
  rw [← h] at ha
  obtain ⟨q, hq, e⟩ := List.mem_map.mp ha
  obtain ⟨k, hk⟩ := List.getElem?_of_mem hq
  rw [← e]
  exact (hP k q hk).lt
theorem las_t : ∀ k : Nat, k < 5 → ∀ c : Nat, c < 5 → (jik (kcl k) c = true ↔ (c = 0 ∨ c = k ∨ (c = 2 ∧ k = 4))) := by decide +kernel
theorem las_y {k c j : Nat} (hk : k < 5) (hc : c < 5) (h : c = 0 ∨ c = k ∨ (c = 2 ∧ k = 4)) : jas (kcl k) c j = nI j := if_pos ((las_t k hk c hc).mpr h)
theorem las_n {k c j : Nat} (hk : k < 5) (hc : c < 5) (h : ¬ (c = 0 ∨ c = k ∨ (c = 2 ∧ k = 4))) : jas (kcl k) c j = -1 := if_neg (fun e => h ((las_t k hk c hc).mp e))
set_option maxRecDepth 20000 in
theorem jg_lw_ext : GoodIn lw_tbl jext := goodIn_p jext [142, 145] (by decide +kernel) (by decide +kernel)
set_option maxRecDepth 20000 in
theorem jg_lw_larder : GoodIn lw_tbl (wsV RL 74 RX6 yX6_larder wsX6_larderE) := goodIn_app (goodIn_of _ (by decide +kernel)) (jgc (jtr ggL_law_X6_larder wsL_law_in) List.mem_cons_self jg_lw_ext)
theorem jpreM {s : State} {H : Heap} {D : va_G} {cI cJ : ClassId} {G : Heap → Prop} {As : List Value} (hT : jT D cI cJ s) (hN : va_Nw jNest s) (hG : G H) : PreS s H (va_Pc As (jPm D cI cJ G H.size)) As :=
  ⟨fun a U g mk q => ⟨q.1, q.2.1, ⟨q.2.2.1.1.calling, va_Nw.same (u := U) (U := U.calling g mk a) rfl rfl q.2.2.1.2⟩, q.2.2.2⟩, fun U hU hW => ⟨rfl, by rw [hU], ⟨hT.warm hW, va_Nw.warmM hW hN⟩, by rw [hU]; exact hG⟩⟩
set_option maxRecDepth 20000 in
theorem jyes_in : ∀ q ∈ jYes, Cond.castable q.1 q.2 ∈ lw_tbl := by decide +kernel
set_option maxRecDepth 20000 in
theorem jnest_in : jNest ∈ lw_tbl := by decide +kernel
set_option maxRecDepth 20000 in
theorem jao_in : Cond.arrayOver (.object "JamDays$Jar") ∈ lw_tbl := by decide +kernel
set_option maxRecDepth 20000 in
theorem jac_in : Cond.arrayClass .int ∈ lw_tbl := by decide +kernel
set_option maxRecDepth 20000 in
theorem jno_in : ∀ q ∈ jNo, Cond.not (.castable q.1 q.2) ∈ flatC (Jvm.Cond.and given_1 narrow_1) := by decide +kernel
set_option maxRecDepth 20000 in
theorem jinst_in : ∀ q ∈ [(RX0, 3), (RX1, 9), (RX2, 3), (RX3, 3), (RX4, 3), (RX5, 3), (RX6, 12)], Cond.instantiable q.1 q.2 ∈ lw_tbl := by decide +kernel
/-- the tables' classes, arrays, casts -/
theorem law_tabs {s : State} {b : Nat} (hts : ∀ w ∈ lw_tbl, w.before #[Value.ref b] s = true) (hgv : (Jvm.Cond.and given_1 narrow_1).before #[Value.ref b] s = true) : ∃ (D : va_G) (cI cJ : ClassId), jT D cI cJ s := by
  have hk : ∀ k : Nat, ∃ (c : ClassId) (iS : Nat → Nat), ∀ q : vw_C, vwCl[k]? = some q → u_Kn s q.1 q.2.1 q.2.2 c iS := by
    intro k
    match k with
    | 0 =>
      obtain ⟨c, iS, h⟩ := u_known (C := RX0) (T := TX0) (N := 3) (n := 3) hts inX0 (hts _ (jinst_in (RX0, 3) (by decide)))
      exact ⟨c, iS, fun q hq => by cases hq; exact h⟩
    | 1 =>
      obtain ⟨c, iS, h⟩ := u_known (C := RX1) (T := TX1) (N := 9) (n := 9) hts inX1 (hts _ (jinst_in (RX1, 9) (by decide)))
      exact ⟨c, iS, fun q hq => by cases hq; exact h⟩
    | 2 =>
      obtain ⟨c, iS, h⟩ := u_known (C := RX2) (T := TX2) (N := 3) (n := 3) hts inX2 (hts _ (jinst_in (RX2, 3) (by decide)))
      exact ⟨c, iS, fun q hq => by cases hq; exact h⟩
    | 3 =>
      obtain ⟨c, iS, h⟩ := u_known (C := RX3) (T := TX3) (N := 3) (n := 3) hts inX3 (hts _ (jinst_in (RX3, 3) (by decide)))
      exact ⟨c, iS, fun q hq => by cases hq; exact h⟩
    | 4 =>
      obtain ⟨c, iS, h⟩ := u_known (C := RX4) (T := TX4) (N := 3) (n := 3) hts inX4 (hts _ (jinst_in (RX4, 3) (by decide)))
      exact ⟨c, iS, fun q hq => by cases hq; exact h⟩
    | 5 =>
      obtain ⟨c, iS, h⟩ := u_known (C := RX5) (T := TX5) (N := 3) (n := 3) hts inX5 (hts _ (jinst_in (RX5, 3) (by decide)))
      exact ⟨c, iS, fun q hq => by cases hq; exact h⟩
    | 6 =>
      obtain ⟨c, iS, h⟩ := u_known (C := RX6) (T := TX6) (N := 12) (n := 12) hts inX6 (hts _ (jinst_in (RX6, 12) (by decide)))
      exact ⟨c, iS, fun q hq => by cases hq; exact h⟩
    | k + 7 => exact ⟨0, fun _ => 0, fun q hq => by simp [vwCl] at hq⟩
  obtain ⟨cA, kA, compA, a1, a2, a3⟩ := Cond.arrayClass_spec (hts _ jac_in)
  obtain ⟨compJ, cJ, kJ, b1, -, b3, b4, b5⟩ := Cond.arrayOver_spec (hts _ jao_in)
  refine ⟨(fun k => Classical.choose (hk k), fun k => Classical.choose (Classical.choose_spec (hk k))), cA, cJ, ⟨fun k q hq => Classical.choose_spec (Classical.choose_spec (hk k)) q hq, fun k q hq => ?_⟩, va_AO.of (hts _ jao_in), fun q hq => va_Nw.of rfl (hts _ (jyes_in q hq)), fun q hq => va_Nc.of (flat_of_before _ hgv _ (jno_in q hq))⟩
  match k, hq with
  | 0, hq =>
    cases hq
    exact ⟨fun n z => ⟨fun k h => (by cases h), kA, a2, compA, a3⟩, a1⟩
  | 1, hq =>
    cases hq
    exact ⟨fun n z => ⟨fun k h => (by cases h), kJ, b3, compJ, b4⟩, kJ, compJ, b3, b4, b1, b5⟩
  | k + 2, hq => simp at hq
