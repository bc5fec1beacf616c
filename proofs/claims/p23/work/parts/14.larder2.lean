theorem jPpre {D : va_G} {cl : List vw_C} {wp L : va_W} {H : Heap} (hP : va_P D cl (wp ++ L) H) : va_P D cl wp H := fun k q h => hP k q (by rw [List.getElem?_append_left (List.getElem?_eq_some_iff.mp h).1]; exact h)
theorem jg_la_rj : GoodIn wsX6_larderE (wsV RX6 67 RX6 yX6_readJar wsX6_readJarE) := goodIn_app (goodIn_of _ (by decide +kernel)) (jgc (jgu ggX6_larder_X6_readJar) List.mem_cons_self jg_la_ext)
set_option maxHeartbeats 4000000 in
set_option maxRecDepth 100000 in
theorem c_larder_ok (l : Launch) (D : va_G) (cI cJ : ClassId) (x : Nat) (xp : Nat) (xj : Nat) (xn : Nat) (ns : Nat) (ne : Nat) (n7 : Nat) (n8 : Nat) (pn : Nat) (n2 : Nat) (a5 : Value) (a6 : Value) (a9 : Value) (a10 : Value) (a11 : Value) (a3 : Value) (a7 : Value) (lr : Int32) (pg : Nat → Int32) (jr0 : Nat → Option Nat) (y : Int32) (ea : Int32) (lo : Int32) (jo : Int32) (ta : Int32) (sp : Nat → Int32) (en : Nat → Int32) (tY : Nat → Int32) (tW : Nat → Int32) (hp25 : pn ≤ 25) (h1 : pn % 4 = 3) (h2 : 7 ≤ pn) (h3 : jfo (fun i => jft i (pg i)) pn = pn) (hn2 : n2 = (pn + 1) / 4) : jWz l yX6_larder wsX6_larderE ({ frames := 5, cells := 6, slots := 18, locals := 108 }) 6 18 [.ref x] D cI cJ [(x, .inr (6, [.ref xp, .int (nI pn), .ref xj, a3, .ref xn, a5, a6, a7, .int lr, a9, a10, a11])), (xp, .inl (cI, 25, .inl pg)), (xj, .inl (cJ, 6, .inr (.inr (.inr (.inr jr0))))), (xn, .inr (1, [.int y, .int ea, .int lo, .int jo, .int ta, .ref ns, .ref ne, .ref n7, .ref n8])), (ns, .inl (cI, 6, .inl sp)), (ne, .inl (cI, 6, .inl en)), (n7, .inl (cI, 6, .inl tY)), (n8, .inl (cI, 6, .inl tW))] (fun H => True) (fun sz r H => r = nI n2 ∧ ∃ jr : Nat → Option Nat, jJ D n2 jr (fun i => jkk (pg (i * 4))) (fun i => pg (i * 4 + 1) - 48) (fun i => pg (i * 4 + 2) - 48) (fun i => jmm (jkk (pg (i * 4))) (pg (i * 4 + 2) - 48)) H ∧ (∀ i a : Nat, i < n2 → jr i = some a → sz ≤ a) ∧ va_P D vwCl [(x, .inr (6, [.ref xp, .int 0, .ref xj, .int (nI n2), .ref xn, a5, a6, .int 0, .int (lr + 1), a9, a10, a11])), (xp, .inl (cI, 25, .inl pg)), (xj, .inl (cJ, 6, .inr (.inr (.inr (.inr jr))))), (xn, .inr (1, [.int 0, .int 0, .int 0, .int 0, .int 0, .ref ns, .ref ne, .ref n7, .ref n8])), (ns, .inl (cI, 6, .inl (jfl (fun i => if i < n2 then 12 else 0) sp 6))), (ne, .inl (cI, 6, .inl (jfl (fun _ => 0) en 6))), (n7, .inl (cI, 6, .inl tY)), (n8, .inl (cI, 6, .inl tW))] H) := by
  intro sz
  refine Met.ofW (cc := cX6_larder) (maxL := 2) (ret := (some .int)) (by decide) rfl ?_
  intro p e s m args below meth c s₁ B hml hv
  obtain ⟨rfl, hsz, hT, hP, hD0, _⟩ := hv
  have hK := hT.1
  have hx := B.exec
  have hb := B.bytes
  have hr := B.returns
  have hts := atoms_spec (ws := wsX6_larderE) B.pre
  have hown : s.vm.findClass RX6 = some m.cls := findClass_of_methodNamed B.named
  have hlocks := B.notSynchronized
  subst hsz
  have hD := hD0.self (sz := s.heap.size)
  generalize hAe : va_A [(x, .inr (6, [.ref xp, .int (nI pn), .ref xj, a3, .ref xn, a5, a6, a7, .int lr, a9, a10, a11])), (xp, .inl (cI, 25, .inl pg)), (xj, .inl (cJ, 6, .inr (.inr (.inr (.inr jr0))))), (xn, .inr (1, [.int y, .int ea, .int lo, .int jo, .int ta, .ref ns, .ref ne, .ref n7, .ref n8])), (ns, .inl (cI, 6, .inl sp)), (ne, .inl (cI, 6, .inl en)), (n7, .inl (cI, 6, .inl tY)), (n8, .inl (cI, 6, .inl tW))] s.heap.size = A at hD ⊢
  have hA : ∀ q : Nat, s.heap.size ≤ q → A q := fun q h => by rw [← hAe]; exact Or.inr h
  have hS : va_S A s.heap s.heap [] := va_S.rf
  have hl := lv_entry ([.ref x] : List Value) (n := 2) (Nat.le_of_ble_eq_true rfl)
  rw [lg_entry_eq]
  generalize (lg_sl ([.ref x]) ++ List.replicate (2 - (lg_sl ([.ref x])).length) Slot.unset).toArray = ls at hl ⊢
  have hl : lv_has ls 2 [(0, .ref x)] := hl
  refine lv_aload_n hx hb dX6_larder_0 rfl (lv_at hl 0 rfl) ?_
  have hPc_1 := hP.sub (ws' := [(x, .inr (6, [.ref xp, .int (nI pn), .ref xj, a3, .ref xn, a5, a6, a7, .int lr, a9, a10, a11])), (xp, .inl (cI, 25, .inl pg))]) [0, 1] rfl
  refine jcalli (va_runV (As := []) (rest := []) ⟨hx, hb, hml, hown, hts⟩ (c_pageIsLarder_y l D cI cJ x xp pn (.ref xj) a3 (.ref xn) a5 a6 a7 (.int lr) a9 a10 a11 pg hp25 h1 h2 h3 s.heap.size) (cwV 0 hts (jgu gX6_larder_X6_pageIsLarder) rfl rfl rfl (by decide +kernel) ⟨Nat.le_of_ble_eq_true rfl, Nat.le_of_ble_eq_true rfl⟩) (jpreV hT (va_recv hK hP (ci := 6) (q0 := 0) rfl rfl) hPc_1) rfl rfl hl.1 rfl (lv_room (Nat.le_of_ble_eq_true rfl)) dX6_larder_1 ⟨(Nat.zero_le _), (Nat.zero_le _)⟩) hS hA (fun r_2 H locs hw_r_2 hkq hS => ?_)
  try dsimp only at hw_r_2
  have hP := jkeep hP hkq
  subst hw_r_2
  refine lv_if_ne (tgt := 10) hx hb dX6_larder_4 (by decide) (fun c_3 => ?_) (fun c_3 => ?_)
  · skip
    refine lv_aload_n hx hb dX6_larder_10 rfl (lv_at hl 0 rfl) ?_
    refine lv_aload_n hx hb dX6_larder_11 rfl (lv_at hl 0 rfl) ?_
    refine va_get (D := D) (ci := 6) (v := .int (nI pn)) (C := RX6) (T := TX6) (N := 12) hx hb hts (fun w h => List.mem_cons_of_mem _ (List.mem_append_right _ (List.mem_cons_of_mem _ (List.mem_append_left _ (List.mem_append_left _ (List.mem_append_left _ (List.mem_append_left _ (List.mem_append_left _ (List.mem_append_left _ (List.mem_append_right _ h)))))))))) hown hK hP 0 rfl rfl 1 (by decide) (hts (Cond.fieldLink RX6 13 "JamDays" "pageSize" "I") (List.mem_of_getElem? (i := 11) rfl)) (fun _ h9 => h9) rfl dX6_larder_12 ?_
    refine lv_iconst (v := 1) hx hb dX6_larder_15 (by decide) ?_
    refine lv_iadd hx hb dX6_larder_16 ?_
    refine jv_as (y := nI (pn + 1)) (nI_add pn 1) ?_
    refine lv_iconst (v := 4) hx hb dX6_larder_17 (by decide) ?_
    refine lv_idiv hx hb dX6_larder_18 (by decide) ?_
    refine jv_as (y := nI n2) (by rw [hn2]; exact pk_div (a := pn + 1) (d := 4) (by omega) (by decide) (by decide)) ?_
    refine va_put (D := D) (ci := 6) (v := .int (nI n2)) (ty := .int) (C := RX6) (T := TX6) (N := 12) hx hb hts (fun w h => List.mem_cons_of_mem _ (List.mem_append_right _ (List.mem_cons_of_mem _ (List.mem_append_left _ (List.mem_append_left _ (List.mem_append_left _ (List.mem_append_left _ (List.mem_append_left _ (List.mem_append_left _ (List.mem_append_right _ h)))))))))) tyX6 tyX6_ok nmX6 hown hK hP hD hS 0 rfl rfl 3 (by decide) (hts (Cond.fieldLink RX6 23 "JamDays" "jarCount" "I") (List.mem_of_getElem? (i := 12) rfl)) (fun _ h9 => h9) rfl (by decide +kernel) rfl rfl (Nat.le_of_ble_eq_true rfl) dX6_larder_19 (fun H locs hP hD hS => ?_)
    have hP : va_P D vwCl [(x, .inr (6, [.ref xp, .int (nI pn), .ref xj, .int (nI n2), .ref xn, a5, a6, a7, .int lr, a9, a10, a11])), (xp, .inl (cI, 25, .inl pg)), (xj, .inl (cJ, 6, .inr (.inr (.inr (.inr jr0))))), (xn, .inr (1, [.int y, .int ea, .int lo, .int jo, .int ta, .ref ns, .ref ne, .ref n7, .ref n8])), (ns, .inl (cI, 6, .inl sp)), (ne, .inl (cI, 6, .inl en)), (n7, .inl (cI, 6, .inl tY)), (n8, .inl (cI, 6, .inl tW))] H := hP
    have hD : va_D A [(x, .inr (6, [.ref xp, .int (nI pn), .ref xj, .int (nI n2), .ref xn, a5, a6, a7, .int lr, a9, a10, a11])), (xp, .inl (cI, 25, .inl pg)), (xj, .inl (cJ, 6, .inr (.inr (.inr (.inr jr0))))), (xn, .inr (1, [.int y, .int ea, .int lo, .int jo, .int ta, .ref ns, .ref ne, .ref n7, .ref n8])), (ns, .inl (cI, 6, .inl sp)), (ne, .inl (cI, 6, .inl en)), (n7, .inl (cI, 6, .inl tY)), (n8, .inl (cI, 6, .inl tW))] := hD
    refine lv_iconst (v := 0) hx hb dX6_larder_22 (by decide) ?_
    refine lv_istore_n (lv' := [(1, .int 0), (0, .ref x)]) hx hb dX6_larder_23 rfl hl (by decide) rfl (fun ls hl => ?_)
    refine jloopA (α := Nat × (Nat → Option Nat) × va_W) (fun (x9 : Nat × (Nat → Option Nat) × va_W) => match x9 with | (i, jr, L) => i) (fun (x9 : Nat × (Nat → Option Nat) × va_W) => match x9 with | (i, jr, L) => 3 * i) (fun (x9 : Nat × (Nat → Option Nat) × va_W) (H : Heap) (locs : List Loc) (ls : Array Slot) => match x9 with | (i, jr, L) => (va_P D vwCl ([(x, .inr (6, [.ref xp, .int (nI pn), .ref xj, .int (nI n2), .ref xn, a5, a6, a7, .int lr, a9, a10, a11])), (xp, .inl (cI, 25, .inl pg)), (xj, .inl (cJ, 6, .inr (.inr (.inr (.inr jr))))), (xn, .inr (1, [.int y, .int ea, .int lo, .int jo, .int ta, .ref ns, .ref ne, .ref n7, .ref n8])), (ns, .inl (cI, 6, .inl sp)), (ne, .inl (cI, 6, .inl en)), (n7, .inl (cI, 6, .inl tY)), (n8, .inl (cI, 6, .inl tW))] ++ L) H) ∧ (va_D A ([(x, .inr (6, [.ref xp, .int (nI pn), .ref xj, .int (nI n2), .ref xn, a5, a6, a7, .int lr, a9, a10, a11])), (xp, .inl (cI, 25, .inl pg)), (xj, .inl (cJ, 6, .inr (.inr (.inr (.inr jr))))), (xn, .inr (1, [.int y, .int ea, .int lo, .int jo, .int ta, .ref ns, .ref ne, .ref n7, .ref n8])), (ns, .inl (cI, 6, .inl sp)), (ne, .inl (cI, 6, .inl en)), (n7, .inl (cI, 6, .inl tY)), (n8, .inl (cI, 6, .inl tW))] ++ L)) ∧ (va_S A s.heap H locs) ∧ (lv_has ls 2 [(0, .ref x), (1, .int (nI i))]) ∧ (i ≤ 6) ∧ (jHas jr pg L i n2) ∧ (∀ q ∈ L, s.heap.size ≤ q.1)) (fun (x9 : Nat × (Nat → Option Nat) × va_W) => match x9 with | (i, jr, L) => 6 - i) (fun x9 H locs ls hx9 ih_24 => ?_) (0, jr0, []) _ _ _ ⟨hP, hD, hS, lv_sub hl [1, 0] rfl, (by omega), (fun b h _ => absurd h (Nat.not_lt_zero _)), (fun q h => absurd h List.not_mem_nil)⟩
    obtain ⟨i, jr, L⟩ := x9
    obtain ⟨hP, hD, hS, hl, hi9, hHas, hLz⟩ := hx9
    dsimp only
    refine lv_iload_n hx hb dX6_larder_24 rfl (lv_at hl 1 rfl) ?_
    refine lv_bipush (v := 6) hx hb dX6_larder_25 (by decide) ?_
    refine lv_icmp_ge (tgt := 61) hx hb dX6_larder_27 (by decide) (fun c_4 => ?_) (fun c_4 => ?_)
    · skip
      replace c_4 : 6 ≤ i := (nI_leI (a := 6) (b := i) (by omega) (by omega)).mp c_4
      obtain rfl : i = 6 := by omega
      refine W.widen (k := 6) (n := 18) (by omega) (by omega) ?_
      refine lv_aload_n hx hb dX6_larder_61 rfl (lv_at hl 0 rfl) ?_
      refine va_get (D := D) (ci := 6) (v := .ref xn) (C := RX6) (T := TX6) (N := 12) hx hb hts (fun w h => List.mem_cons_of_mem _ (List.mem_append_right _ (List.mem_cons_of_mem _ (List.mem_append_left _ (List.mem_append_left _ (List.mem_append_left _ (List.mem_append_left _ (List.mem_append_left _ (List.mem_append_left _ (List.mem_append_right _ h)))))))))) hown hK hP 0 rfl rfl 4 (by decide) (hts (Cond.fieldLink RX6 29 "JamDays" "now" "LJamDays$Days;") (List.mem_of_getElem? (i := 14) rfl)) (fun _ h9 => h9) rfl dX6_larder_62 ?_
      refine lv_aload_n hx hb dX6_larder_65 rfl (lv_at hl 0 rfl) ?_
      refine va_get (D := D) (ci := 6) (v := .int (nI n2)) (C := RX6) (T := TX6) (N := 12) hx hb hts (fun w h => List.mem_cons_of_mem _ (List.mem_append_right _ (List.mem_cons_of_mem _ (List.mem_append_left _ (List.mem_append_left _ (List.mem_append_left _ (List.mem_append_left _ (List.mem_append_left _ (List.mem_append_left _ (List.mem_append_right _ h)))))))))) hown hK hP 0 rfl rfl 3 (by decide) (hts (Cond.fieldLink RX6 23 "JamDays" "jarCount" "I") (List.mem_of_getElem? (i := 12) rfl)) (fun _ h9 => h9) rfl dX6_larder_66 ?_
      have hPc_5 := hP.sub (ws' := [(xn, .inr (1, [.int y, .int ea, .int lo, .int jo, .int ta, .ref ns, .ref ne, .ref n7, .ref n8])), (ns, .inl (cI, 6, .inl sp)), (ne, .inl (cI, 6, .inl en)), (n7, .inl (cI, 6, .inl tY)), (n8, .inl (cI, 6, .inl tW))]) [3, 4, 5, 6, 7] rfl
      have hDc_6 := hD.sub (ws' := [(xn, .inr (1, [.int y, .int ea, .int lo, .int jo, .int ta, .ref ns, .ref ne, .ref n7, .ref n8])), (ns, .inl (cI, 6, .inl sp)), (ne, .inl (cI, 6, .inl en)), (n7, .inl (cI, 6, .inl tY)), (n8, .inl (cI, 6, .inl tW))]) [3, 4, 5, 6, 7] (by decide) rfl
      have hFc_7 := va_free (wc := [(xn, .inr (1, [.int y, .int ea, .int lo, .int jo, .int ta, .ref ns, .ref ne, .ref n7, .ref n8])), (ns, .inl (cI, 6, .inl sp)), (ne, .inl (cI, 6, .inl en)), (n7, .inl (cI, 6, .inl tY)), (n8, .inl (cI, 6, .inl tW))]) hD hS hA [3, 4, 5, 6, 7] rfl
      refine jcallWv (post := fun H => va_P D vwCl [(xn, .inr (1, [.int 0, .int 0, .int 0, .int 0, .int 0, .ref ns, .ref ne, .ref n7, .ref n8])), (ns, .inl (cI, 6, .inl (jfl (fun i => if i < n2 then 12 else 0) sp 6))), (ne, .inl (cI, 6, .inl (jfl (fun _ => 0) en 6))), (n7, .inl (cI, 6, .inl tY)), (n8, .inl (cI, 6, .inl tW))] H) (va_runV (As := [.int (nI n2)]) (rest := []) ⟨hx, hb, hml, hown, hts⟩ (c_startAnew l D cI cJ xn ns ne n7 n8 y ea lo jo ta sp en tY tW n2 (by omega) H.size) (cwV 1 hts (jgu gX6_larder_X1_startAnew) rfl rfl rfl (by decide +kernel) ⟨Nat.le_of_ble_eq_true rfl, Nat.le_of_ble_eq_true rfl⟩) (jpreV hT (va_recv hK hP (ci := 1) (q0 := 3) rfl rfl) ⟨hPc_5, hDc_6.weaken (fun _ _ _ _ => trivial), trivial⟩) rfl rfl hl.1 rfl (lv_room (Nat.le_of_ble_eq_true rfl)) dX6_larder_69 ⟨Nat.le_of_ble_eq_true rfl, Nat.le_of_ble_eq_true rfl⟩) hS hFc_7 (fun H locs hw_r_8 hz hkq hS => ?_)
      have hP1 := hw_r_8
      obtain ⟨hP, hD⟩ := jjoinT (L := L) (wc := [(xn, .inr (1, [.int y, .int ea, .int lo, .int jo, .int ta, .ref ns, .ref ne, .ref n7, .ref n8])), (ns, .inl (cI, 6, .inl sp)), (ne, .inl (cI, 6, .inl en)), (n7, .inl (cI, 6, .inl tY)), (n8, .inl (cI, 6, .inl tW))]) (wr := [(x, .inr (6, [.ref xp, .int (nI pn), .ref xj, .int (nI n2), .ref xn, a5, a6, a7, .int lr, a9, a10, a11])), (xp, .inl (cI, 25, .inl pg)), (xj, .inl (cJ, 6, .inr (.inr (.inr (.inr jr)))))]) (w1 := [(xn, .inr (1, [.int 0, .int 0, .int 0, .int 0, .int 0, .ref ns, .ref ne, .ref n7, .ref n8])), (ns, .inl (cI, 6, .inl (jfl (fun i => if i < n2 then 12 else 0) sp 6))), (ne, .inl (cI, 6, .inl (jfl (fun _ => 0) en 6))), (n7, .inl (cI, 6, .inl tY)), (n8, .inl (cI, 6, .inl tW))]) (ws' := [(x, .inr (6, [.ref xp, .int (nI pn), .ref xj, .int (nI n2), .ref xn, a5, a6, a7, .int lr, a9, a10, a11])), (xp, .inl (cI, 25, .inl pg)), (xj, .inl (cJ, 6, .inr (.inr (.inr (.inr jr))))), (xn, .inr (1, [.int 0, .int 0, .int 0, .int 0, .int 0, .ref ns, .ref ne, .ref n7, .ref n8])), (ns, .inl (cI, 6, .inl (jfl (fun i => if i < n2 then 12 else 0) sp 6))), (ne, .inl (cI, 6, .inl (jfl (fun _ => 0) en 6))), (n7, .inl (cI, 6, .inl tY)), (n8, .inl (cI, 6, .inl tW))]) hP hD hFc_7 [3, 4, 5, 6, 7] [0, 1, 2] [0, 1, 2, 3, 4, 5, 6, 7] rfl rfl (by decide) (by decide) (by decide) (by decide) hkq hP1 rfl rfl rfl rfl
      refine lv_aload_n hx hb dX6_larder_72 rfl (lv_at hl 0 rfl) ?_
      refine lv_iconst (v := 0) hx hb dX6_larder_73 (by decide) ?_
      refine va_put (D := D) (ci := 6) (v := .int 0) (ty := .boolean) (C := RX6) (T := TX6) (N := 12) hx hb hts (fun w h => List.mem_cons_of_mem _ (List.mem_append_right _ (List.mem_cons_of_mem _ (List.mem_append_left _ (List.mem_append_left _ (List.mem_append_left _ (List.mem_append_left _ (List.mem_append_left _ (List.mem_append_left _ (List.mem_append_right _ h)))))))))) tyX6 tyX6_ok nmX6 hown hK hP hD hS 0 rfl rfl 7 (by decide) (hts (Cond.fieldLink RX6 39 "JamDays" "hasImage" "Z") (List.mem_of_getElem? (i := 15) rfl)) (fun _ h9 => h9) rfl (by decide +kernel) (by decide) (by decide) (Nat.le_of_ble_eq_true rfl) dX6_larder_74 (fun H locs hP hD hS => ?_)
      have hP : va_P D vwCl ([(x, .inr (6, [.ref xp, .int (nI pn), .ref xj, .int (nI n2), .ref xn, a5, a6, .int 0, .int lr, a9, a10, a11])), (xp, .inl (cI, 25, .inl pg)), (xj, .inl (cJ, 6, .inr (.inr (.inr (.inr jr))))), (xn, .inr (1, [.int 0, .int 0, .int 0, .int 0, .int 0, .ref ns, .ref ne, .ref n7, .ref n8])), (ns, .inl (cI, 6, .inl (jfl (fun i => if i < n2 then 12 else 0) sp 6))), (ne, .inl (cI, 6, .inl (jfl (fun _ => 0) en 6))), (n7, .inl (cI, 6, .inl tY)), (n8, .inl (cI, 6, .inl tW))] ++ L) H := hP
      have hD : va_D A ([(x, .inr (6, [.ref xp, .int (nI pn), .ref xj, .int (nI n2), .ref xn, a5, a6, .int 0, .int lr, a9, a10, a11])), (xp, .inl (cI, 25, .inl pg)), (xj, .inl (cJ, 6, .inr (.inr (.inr (.inr jr))))), (xn, .inr (1, [.int 0, .int 0, .int 0, .int 0, .int 0, .ref ns, .ref ne, .ref n7, .ref n8])), (ns, .inl (cI, 6, .inl (jfl (fun i => if i < n2 then 12 else 0) sp 6))), (ne, .inl (cI, 6, .inl (jfl (fun _ => 0) en 6))), (n7, .inl (cI, 6, .inl tY)), (n8, .inl (cI, 6, .inl tW))] ++ L) := hD
      refine lv_aload_n hx hb dX6_larder_77 rfl (lv_at hl 0 rfl) ?_
      refine lv_dup hx hb dX6_larder_78 rfl ?_
      refine va_get (D := D) (ci := 6) (v := .int lr) (C := RX6) (T := TX6) (N := 12) hx hb hts (fun w h => List.mem_cons_of_mem _ (List.mem_append_right _ (List.mem_cons_of_mem _ (List.mem_append_left _ (List.mem_append_left _ (List.mem_append_left _ (List.mem_append_left _ (List.mem_append_left _ (List.mem_append_left _ (List.mem_append_right _ h)))))))))) hown hK hP 0 rfl rfl 8 (by decide) (hts (Cond.fieldLink RX6 43 "JamDays" "lardersRead" "I") (List.mem_of_getElem? (i := 16) rfl)) (fun _ h9 => h9) rfl dX6_larder_79 ?_
      refine lv_iconst (v := 1) hx hb dX6_larder_82 (by decide) ?_
      refine lv_iadd hx hb dX6_larder_83 ?_
      refine va_put (D := D) (ci := 6) (v := .int (lr + 1)) (ty := .int) (C := RX6) (T := TX6) (N := 12) hx hb hts (fun w h => List.mem_cons_of_mem _ (List.mem_append_right _ (List.mem_cons_of_mem _ (List.mem_append_left _ (List.mem_append_left _ (List.mem_append_left _ (List.mem_append_left _ (List.mem_append_left _ (List.mem_append_left _ (List.mem_append_right _ h)))))))))) tyX6 tyX6_ok nmX6 hown hK hP hD hS 0 rfl rfl 8 (by decide) (hts (Cond.fieldLink RX6 43 "JamDays" "lardersRead" "I") (List.mem_of_getElem? (i := 16) rfl)) (fun _ h9 => h9) rfl (by decide +kernel) rfl rfl (Nat.le_of_ble_eq_true rfl) dX6_larder_84 (fun H locs hP hD hS => ?_)
      have hP : va_P D vwCl ([(x, .inr (6, [.ref xp, .int (nI pn), .ref xj, .int (nI n2), .ref xn, a5, a6, .int 0, .int (lr + 1), a9, a10, a11])), (xp, .inl (cI, 25, .inl pg)), (xj, .inl (cJ, 6, .inr (.inr (.inr (.inr jr))))), (xn, .inr (1, [.int 0, .int 0, .int 0, .int 0, .int 0, .ref ns, .ref ne, .ref n7, .ref n8])), (ns, .inl (cI, 6, .inl (jfl (fun i => if i < n2 then 12 else 0) sp 6))), (ne, .inl (cI, 6, .inl (jfl (fun _ => 0) en 6))), (n7, .inl (cI, 6, .inl tY)), (n8, .inl (cI, 6, .inl tW))] ++ L) H := hP
      have hD : va_D A ([(x, .inr (6, [.ref xp, .int (nI pn), .ref xj, .int (nI n2), .ref xn, a5, a6, .int 0, .int (lr + 1), a9, a10, a11])), (xp, .inl (cI, 25, .inl pg)), (xj, .inl (cJ, 6, .inr (.inr (.inr (.inr jr))))), (xn, .inr (1, [.int 0, .int 0, .int 0, .int 0, .int 0, .ref ns, .ref ne, .ref n7, .ref n8])), (ns, .inl (cI, 6, .inl (jfl (fun i => if i < n2 then 12 else 0) sp 6))), (ne, .inl (cI, 6, .inl (jfl (fun _ => 0) en 6))), (n7, .inl (cI, 6, .inl tY)), (n8, .inl (cI, 6, .inl tW))] ++ L) := hD
      refine lv_aload_n hx hb dX6_larder_87 rfl (lv_at hl 0 rfl) ?_
      refine lv_iconst (v := 0) hx hb dX6_larder_88 (by decide) ?_
      refine va_put (D := D) (ci := 6) (v := .int 0) (ty := .int) (C := RX6) (T := TX6) (N := 12) hx hb hts (fun w h => List.mem_cons_of_mem _ (List.mem_append_right _ (List.mem_cons_of_mem _ (List.mem_append_left _ (List.mem_append_left _ (List.mem_append_left _ (List.mem_append_left _ (List.mem_append_left _ (List.mem_append_left _ (List.mem_append_right _ h)))))))))) tyX6 tyX6_ok nmX6 hown hK hP hD hS 0 rfl rfl 1 (by decide) (hts (Cond.fieldLink RX6 13 "JamDays" "pageSize" "I") (List.mem_of_getElem? (i := 11) rfl)) (fun _ h9 => h9) rfl (by decide +kernel) rfl rfl (Nat.le_of_ble_eq_true rfl) dX6_larder_89 (fun H locs hP hD hS => ?_)
      have hP : va_P D vwCl ([(x, .inr (6, [.ref xp, .int 0, .ref xj, .int (nI n2), .ref xn, a5, a6, .int 0, .int (lr + 1), a9, a10, a11])), (xp, .inl (cI, 25, .inl pg)), (xj, .inl (cJ, 6, .inr (.inr (.inr (.inr jr))))), (xn, .inr (1, [.int 0, .int 0, .int 0, .int 0, .int 0, .ref ns, .ref ne, .ref n7, .ref n8])), (ns, .inl (cI, 6, .inl (jfl (fun i => if i < n2 then 12 else 0) sp 6))), (ne, .inl (cI, 6, .inl (jfl (fun _ => 0) en 6))), (n7, .inl (cI, 6, .inl tY)), (n8, .inl (cI, 6, .inl tW))] ++ L) H := hP
      have hD : va_D A ([(x, .inr (6, [.ref xp, .int 0, .ref xj, .int (nI n2), .ref xn, a5, a6, .int 0, .int (lr + 1), a9, a10, a11])), (xp, .inl (cI, 25, .inl pg)), (xj, .inl (cJ, 6, .inr (.inr (.inr (.inr jr))))), (xn, .inr (1, [.int 0, .int 0, .int 0, .int 0, .int 0, .ref ns, .ref ne, .ref n7, .ref n8])), (ns, .inl (cI, 6, .inl (jfl (fun i => if i < n2 then 12 else 0) sp 6))), (ne, .inl (cI, 6, .inl (jfl (fun _ => 0) en 6))), (n7, .inl (cI, 6, .inl tY)), (n8, .inl (cI, 6, .inl tW))] ++ L) := hD
      refine lv_aload_n hx hb dX6_larder_92 rfl (lv_at hl 0 rfl) ?_
      refine va_get (D := D) (ci := 6) (v := .int (nI n2)) (C := RX6) (T := TX6) (N := 12) hx hb hts (fun w h => List.mem_cons_of_mem _ (List.mem_append_right _ (List.mem_cons_of_mem _ (List.mem_append_left _ (List.mem_append_left _ (List.mem_append_left _ (List.mem_append_left _ (List.mem_append_left _ (List.mem_append_left _ (List.mem_append_right _ h)))))))))) hown hK hP 0 rfl rfl 3 (by decide) (hts (Cond.fieldLink RX6 23 "JamDays" "jarCount" "I") (List.mem_of_getElem? (i := 12) rfl)) (fun _ h9 => h9) rfl dX6_larder_93 ?_
      refine W.widen (k := 6) (n := 18) (by omega) (by omega) ?_
      exact W.iret (v := nI n2) hx hb hr (fun t ht hW => ⟨⟨nI n2, nI n2, rfl, rfl, by dsimp only; rw [ht]; exact ⟨rfl, jr, jHas_J hHas (by omega) hP, jHas_sz hHas (by omega) hLz, jPpre hP⟩⟩, hS.F ht⟩) hS.2.2 dX6_larder_96
    · skip
      replace c_4 : ¬ 6 ≤ i := fun h => c_4 ((nI_leI (a := 6) (b := i) (by omega) (by omega)).mpr h)
      refine lv_aload_n hx hb dX6_larder_30 rfl (lv_at hl 0 rfl) ?_
      refine va_get (D := D) (ci := 6) (v := .ref xj) (C := RX6) (T := TX6) (N := 12) hx hb hts (fun w h => List.mem_cons_of_mem _ (List.mem_append_right _ (List.mem_cons_of_mem _ (List.mem_append_left _ (List.mem_append_left _ (List.mem_append_left _ (List.mem_append_left _ (List.mem_append_left _ (List.mem_append_left _ (List.mem_append_right _ h)))))))))) hown hK hP 0 rfl rfl 2 (by decide) (hts (Cond.fieldLink RX6 19 "JamDays" "jars" "[LJamDays$Jar;") (List.mem_of_getElem? (i := 13) rfl)) (fun _ h9 => h9) rfl dX6_larder_31 ?_
      refine lv_iload_n hx hb dX6_larder_34 rfl (lv_at hl 1 rfl) ?_
      refine lv_iload_n hx hb dX6_larder_35 rfl (lv_at hl 1 rfl) ?_
      refine lv_aload_n hx hb dX6_larder_36 rfl (lv_at hl 0 rfl) ?_
      refine va_get (D := D) (ci := 6) (v := .int (nI n2)) (C := RX6) (T := TX6) (N := 12) hx hb hts (fun w h => List.mem_cons_of_mem _ (List.mem_append_right _ (List.mem_cons_of_mem _ (List.mem_append_left _ (List.mem_append_left _ (List.mem_append_left _ (List.mem_append_left _ (List.mem_append_left _ (List.mem_append_left _ (List.mem_append_right _ h)))))))))) hown hK hP 0 rfl rfl 3 (by decide) (hts (Cond.fieldLink RX6 23 "JamDays" "jarCount" "I") (List.mem_of_getElem? (i := 12) rfl)) (fun _ h9 => h9) rfl dX6_larder_37 ?_
      refine lv_icmp_ge (tgt := 53) hx hb dX6_larder_40 (by decide) (fun c_9 => ?_) (fun c_9 => ?_)
      · skip
        replace c_9 : n2 ≤ i := (nI_leI (a := n2) (b := i) (by omega) (by omega)).mp c_9
        refine lv_null hx hb dX6_larder_53 ?_
        refine jv_astqN (k := i) hx hb hK hP hD hS 2 1 rfl rfl (by omega) (by decide) dX6_larder_54 (fun H locs hP hD hS => ?_)
        have hP : va_P D vwCl ([(x, .inr (6, [.ref xp, .int (nI pn), .ref xj, .int (nI n2), .ref xn, a5, a6, a7, .int lr, a9, a10, a11])), (xp, .inl (cI, 25, .inl pg)), (xj, .inl (cJ, 6, .inr (.inr (.inr (.inr (va_up jr i none)))))), (xn, .inr (1, [.int y, .int ea, .int lo, .int jo, .int ta, .ref ns, .ref ne, .ref n7, .ref n8])), (ns, .inl (cI, 6, .inl sp)), (ne, .inl (cI, 6, .inl en)), (n7, .inl (cI, 6, .inl tY)), (n8, .inl (cI, 6, .inl tW))] ++ L) H := hP
        have hD : va_D A ([(x, .inr (6, [.ref xp, .int (nI pn), .ref xj, .int (nI n2), .ref xn, a5, a6, a7, .int lr, a9, a10, a11])), (xp, .inl (cI, 25, .inl pg)), (xj, .inl (cJ, 6, .inr (.inr (.inr (.inr (va_up jr i none)))))), (xn, .inr (1, [.int y, .int ea, .int lo, .int jo, .int ta, .ref ns, .ref ne, .ref n7, .ref n8])), (ns, .inl (cI, 6, .inl sp)), (ne, .inl (cI, 6, .inl en)), (n7, .inl (cI, 6, .inl tY)), (n8, .inl (cI, 6, .inl tW))] ++ L) := hD
        refine W.widen (k := i + 1) (n := 3 * i + 3) (by omega) (by omega) ?_
        refine lv_iinc (v := nI (i + 1)) (lv' := [(1, .int (nI (i + 1))), (0, .ref x)]) hx hb dX6_larder_55 hl (k := 1) rfl ((rfl : nI i + Int32.ofInt 1 = nI i + nI 1).trans (nI_add i 1)) (by decide) rfl (fun ls hl => ?_)
        refine lv_goto (tgt := 24) hx hb dX6_larder_58 (by decide) ?_
        exact ih_24 (i + 1, va_up jr i none, L) _ _ _ ⟨hP, hD, hS, lv_sub hl [1, 0] rfl, (by omega), (jHas_null hHas (by omega)), hLz⟩ (by dsimp only; omega)
      · skip
        replace c_9 : ¬ n2 ≤ i := fun h => c_9 ((nI_leI (a := n2) (b := i) (by omega) (by omega)).mpr h)
        refine lv_aload_n hx hb dX6_larder_43 rfl (lv_at hl 0 rfl) ?_
        refine lv_iload_n hx hb dX6_larder_44 rfl (lv_at hl 1 rfl) ?_
        refine lv_iconst (v := 4) hx hb dX6_larder_45 (by decide) ?_
        refine lv_imul hx hb dX6_larder_46 ?_
        refine jv_as (y := nI (i * 4)) (pk_mul i 4) ?_
        have hPc_11 := hP.sub (ws' := [(x, .inr (6, [.ref xp, .int (nI pn), .ref xj, .int (nI n2), .ref xn, a5, a6, a7, .int lr, a9, a10, a11])), (xp, .inl (cI, 25, .inl pg))]) [0, 1] rfl
        have hPc_12 := hP.sub (ws' := []) [] rfl
        have hDc_13 := hD.sub (ws' := []) [] (by decide) rfl
        have hFc_14 := va_free (wc := []) hD hS hA [] rfl
        have hD9 := hD
        have hP9 := hP
        have hsz9 := hS.1
        refine jcallWr (post := fun sz a H => sz ≤ a ∧ va_P D vwCl [(a, .inr (jkk (pg (i * 4)), [.int (pg ((i * 4) + 1) - 48), .int (pg ((i * 4) + 2) - 48), .int (jmm (jkk (pg (i * 4))) (pg ((i * 4) + 2) - 48))]))] H) (va_runV (As := [.int (nI (i * 4))]) (rest := [.int (nI i), .ref xj]) ⟨hx, hb, hml, hown, hts⟩ (c_readJar l D cI cJ x xp (i * 4) (.int (nI pn)) (.ref xj) (.int (nI n2)) (.ref xn) a5 a6 a7 (.int lr) a9 a10 a11 pg (by omega) H.size) (cwV 1 hts jg_la_rj rfl rfl rfl (by decide +kernel) ⟨Nat.le_of_ble_eq_true rfl, Nat.le_of_ble_eq_true rfl⟩) (jpreV hT (va_recv hK hP (ci := 6) (q0 := 0) rfl rfl) ⟨hPc_12, hDc_13.weaken (fun _ _ _ _ => trivial), hPc_11⟩) rfl rfl hl.1 rfl (lv_room (Nat.le_of_ble_eq_true rfl)) dX6_larder_47 ⟨(show i + 1 ≤ 6 by omega), (show 3 * i + 3 ≤ 18 by omega)⟩) hS hFc_14 (fun r_10 H locs hw_r_10 hz hkq hS => ?_)
        obtain ⟨hfr, hPn⟩ := hw_r_10
        have hP1 : va_P D vwCl [] H := fun k q h => by simp at h
        obtain ⟨hP, hD⟩ := jjoinT (L := L) (wc := []) (wr := [(x, .inr (6, [.ref xp, .int (nI pn), .ref xj, .int (nI n2), .ref xn, a5, a6, a7, .int lr, a9, a10, a11])), (xp, .inl (cI, 25, .inl pg)), (xj, .inl (cJ, 6, .inr (.inr (.inr (.inr jr))))), (xn, .inr (1, [.int y, .int ea, .int lo, .int jo, .int ta, .ref ns, .ref ne, .ref n7, .ref n8])), (ns, .inl (cI, 6, .inl sp)), (ne, .inl (cI, 6, .inl en)), (n7, .inl (cI, 6, .inl tY)), (n8, .inl (cI, 6, .inl tW))]) (w1 := []) (ws' := [(x, .inr (6, [.ref xp, .int (nI pn), .ref xj, .int (nI n2), .ref xn, a5, a6, a7, .int lr, a9, a10, a11])), (xp, .inl (cI, 25, .inl pg)), (xj, .inl (cJ, 6, .inr (.inr (.inr (.inr jr))))), (xn, .inr (1, [.int y, .int ea, .int lo, .int jo, .int ta, .ref ns, .ref ne, .ref n7, .ref n8])), (ns, .inl (cI, 6, .inl sp)), (ne, .inl (cI, 6, .inl en)), (n7, .inl (cI, 6, .inl tY)), (n8, .inl (cI, 6, .inl tW))]) hP hD hFc_14 [] [0, 1, 2, 3, 4, 5, 6, 7] [0, 1, 2, 3, 4, 5, 6, 7] rfl rfl (by decide) (by decide) (by decide) (by decide) hkq hP1 rfl rfl rfl rfl
        have hD : va_D A ([(x, .inr (6, [.ref xp, .int (nI pn), .ref xj, .int (nI n2), .ref xn, a5, a6, a7, .int lr, a9, a10, a11])), (xp, .inl (cI, 25, .inl pg)), (xj, .inl (cJ, 6, .inr (.inr (.inr (.inr jr))))), (xn, .inr (1, [.int y, .int ea, .int lo, .int jo, .int ta, .ref ns, .ref ne, .ref n7, .ref n8])), (ns, .inl (cI, 6, .inl sp)), (ne, .inl (cI, 6, .inl en)), (n7, .inl (cI, 6, .inl tY)), (n8, .inl (cI, 6, .inl tW))] ++ (L ++ [(r_10, jcl pg i)])) := jDpush hD9 hP9 hfr (hA _ (Nat.le_trans hsz9 hfr))
        have hP : va_P D vwCl ([(x, .inr (6, [.ref xp, .int (nI pn), .ref xj, .int (nI n2), .ref xn, a5, a6, a7, .int lr, a9, a10, a11])), (xp, .inl (cI, 25, .inl pg)), (xj, .inl (cJ, 6, .inr (.inr (.inr (.inr jr))))), (xn, .inr (1, [.int y, .int ea, .int lo, .int jo, .int ta, .ref ns, .ref ne, .ref n7, .ref n8])), (ns, .inl (cI, 6, .inl sp)), (ne, .inl (cI, 6, .inl en)), (n7, .inl (cI, 6, .inl tY)), (n8, .inl (cI, 6, .inl tW))] ++ (L ++ [(r_10, jcl pg i)])) H := hP.app hPn
        refine lv_goto (tgt := 54) hx hb dX6_larder_50 (by decide) ?_
        refine jv_astqM (k := i) hx hb hK hP hD hS 2 1 rfl rfl (jany hT hPn (jkk5 _)) (by omega) (by decide) dX6_larder_54 (fun H locs hP hD hS => ?_)
        have hP : va_P D vwCl ([(x, .inr (6, [.ref xp, .int (nI pn), .ref xj, .int (nI n2), .ref xn, a5, a6, a7, .int lr, a9, a10, a11])), (xp, .inl (cI, 25, .inl pg)), (xj, .inl (cJ, 6, .inr (.inr (.inr (.inr (va_up jr i (some r_10))))))), (xn, .inr (1, [.int y, .int ea, .int lo, .int jo, .int ta, .ref ns, .ref ne, .ref n7, .ref n8])), (ns, .inl (cI, 6, .inl sp)), (ne, .inl (cI, 6, .inl en)), (n7, .inl (cI, 6, .inl tY)), (n8, .inl (cI, 6, .inl tW))] ++ (L ++ [(r_10, jcl pg i)])) H := hP
        have hD : va_D A ([(x, .inr (6, [.ref xp, .int (nI pn), .ref xj, .int (nI n2), .ref xn, a5, a6, a7, .int lr, a9, a10, a11])), (xp, .inl (cI, 25, .inl pg)), (xj, .inl (cJ, 6, .inr (.inr (.inr (.inr (va_up jr i (some r_10))))))), (xn, .inr (1, [.int y, .int ea, .int lo, .int jo, .int ta, .ref ns, .ref ne, .ref n7, .ref n8])), (ns, .inl (cI, 6, .inl sp)), (ne, .inl (cI, 6, .inl en)), (n7, .inl (cI, 6, .inl tY)), (n8, .inl (cI, 6, .inl tW))] ++ (L ++ [(r_10, jcl pg i)])) := hD
        refine lv_iinc (v := nI (i + 1)) (lv' := [(1, .int (nI (i + 1))), (0, .ref x)]) hx hb dX6_larder_55 hl (k := 1) rfl ((rfl : nI i + Int32.ofInt 1 = nI i + nI 1).trans (nI_add i 1)) (by decide) rfl (fun ls hl => ?_)
        refine lv_goto (tgt := 24) hx hb dX6_larder_58 (by decide) ?_
        exact ih_24 (i + 1, va_up jr i (some r_10), (L ++ [(r_10, jcl pg i)])) _ _ _ ⟨hP, hD, hS, lv_sub hl [1, 0] rfl, (by omega), (jHas_new hHas), (fun q hq => (List.mem_append.mp hq).elim (hLz q) (fun h => by rw [List.mem_singleton.mp h]; exact Nat.le_trans hsz9 hfr))⟩ (by dsimp only; omega)
  · skip
    exact absurd c_3 (by decide)

/-- the rows, the first k jars as the page has them -/
def mla (pg Rw : Nat → Int32) (k : Nat) : Nat → Int32 := fun i => if i / 5 < k then (if i % 5 = 0 then mkd (pg (4 * (i / 5))) else if i % 5 = 1 then pg (4 * (i / 5) + 1) - 48 else if i % 5 = 2 then pg (4 * (i / 5) + 2) - 48 else if i % 5 = 3 then 12 else 0) else Rw i
theorem mla_0 {pg Rw : Nat → Int32} : mla pg Rw 0 = Rw := by funext i; simp [mla]
theorem mla_s {pg Rw : Nat → Int32} {k : Nat} : mla pg Rw (k + 1) = upd (upd (upd (upd (upd (mla pg Rw k) (5 * k) (mkd (pg (4 * k)))) (5 * k + 1) (pg (4 * k + 1) - 48)) (5 * k + 2) (pg (4 * k + 2) - 48)) (5 * k + 3) 12) (5 * k + 4) 0 := by
  funext i
  by_cases h : i / 5 = k
  · have e : i = 5 * k ∨ i = 5 * k + 1 ∨ i = 5 * k + 2 ∨ i = 5 * k + 3 ∨ i = 5 * k + 4 := by omega
    rcases e with rfl | rfl | rfl | rfl | rfl
    · have h6 : (5 * k) % 5 = 0 := by omega
      simp [mla, upd, h, h6]
    · have h6 : (5 * k + 1) % 5 = 1 := by omega
      simp [mla, upd, h, h6]
    · have h6 : (5 * k + 2) % 5 = 2 := by omega
      simp [mla, upd, h, h6]
    · have h6 : (5 * k + 3) % 5 = 3 := by omega
      simp [mla, upd, h, h6]
    · have h6 : (5 * k + 4) % 5 = 4 := by omega
      simp [mla, upd, h, h6]
  · have h1 : i / 5 < k + 1 ↔ i / 5 < k := by omega
    have a0 : ¬ i = 5 * k := by omega
    have a1 : ¬ i = 5 * k + 1 := by omega
    have a2 : ¬ i = 5 * k + 2 := by omega
    have a3 : ¬ i = 5 * k + 3 := by omega
    have a4 : ¬ i = 5 * k + 4 := by omega
    simp [mla, upd, h1, a0, a1, a2, a3, a4]
