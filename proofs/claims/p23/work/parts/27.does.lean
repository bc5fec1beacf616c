set_option maxHeartbeats 8000000 in
set_option maxRecDepth 100000 in
theorem cl_does (l : Launch) (D : va_G) (cI cJ : ClassId) (x : Nat) (xj : Nat) (xn : Nat) (ns : Nat) (ne : Nat) (n7 : Nat) (n8 : Nat) (bb : Nat) (dd : Nat) (n : Nat) (yr : Nat) (a0 : Value) (a1 : Value) (a5 : Value) (a6 : Value) (a7 : Value) (a8 : Value) (a9 : Value) (a10 : Value) (a11 : Value) (jr : Nat → Option Nat) (jk : Nat → Nat) (jg : Nat → Int32) (js : Nat → Int32) (jm : Nat → Int32) (fw : Nat → Int32 → Int32) (ea : Int32) (lo : Int32) (jo : Int32) (ta : Int32) (sp : Nat → Int32) (en : Nat → Int32) (tY : Nat → Int32) (tW : Nat → Int32) (Bv : Nat → Int32) (x0 : Int32) (hB : jB n jk jg js jm Bv) (hn6 : n ≤ 6) (hfw : ∀ i : Nat, i < n → ∀ z : Int32, cfw (jk i) (jg i) (jm i) z = fw i z) (hap : ∀ i a : Nat, i < n → jr i = some a → a ∉ [x, xj, xn, ns, ne, n7, n8, bb, dd]) (hn0 : 0 < n) (hy9 : yr < 99) (hNn : lNn sp) : jWi l yL_does wsL_does ({ frames := 5, cells := 0, slots := 0, locals := 110 }) 0 0 [.ref x, .ref bb, .ref dd, .int x0] D cI cJ [(x, .inr (6, [a0, a1, .ref xj, .int (nI n), .ref xn, a5, a6, a7, a8, a9, a10, a11])), (xj, .inl (cJ, 6, .inr (.inr (.inr (.inr jr))))), (xn, .inr (1, [.int (nI yr), .int ea, .int lo, .int jo, .int ta, .ref ns, .ref ne, .ref n7, .ref n8])), (ns, .inl (cI, 6, .inl sp)), (ne, .inl (cI, 6, .inl en)), (n7, .inl (cI, 6, .inl tY)), (n8, .inl (cI, 6, .inl tW)), (bb, .inl (cI, 19, .inl Bv)), (dd, .inl (cI, 16, .inl (jdd sp en (nI yr) jo ea lo)))] (fun H => jJ D n jr jk jg js jm H) (fun r H => r = 1 ∧ ∃ (sp1 en1 : Nat → Int32) (yr1 : Nat) (jo1 ea1 lo1 : Int32), lNn sp1 ∧ yr1 ≤ yr + 1 ∧ va_P D vwCl [(x, .inr (6, [a0, a1, .ref xj, .int (nI n), .ref xn, a5, a6, a7, a8, a9, a10, a11])), (xj, .inl (cJ, 6, .inr (.inr (.inr (.inr jr))))), (xn, .inr (1, [.int (nI yr1), .int ea1, .int lo1, .int jo1, .int ta, .ref ns, .ref ne, .ref n7, .ref n8])), (ns, .inl (cI, 6, .inl sp1)), (ne, .inl (cI, 6, .inl en1)), (n7, .inl (cI, 6, .inl tY)), (n8, .inl (cI, 6, .inl tW)), (bb, .inl (cI, 19, .inl Bv)), (dd, .inl (cI, 16, .inl (jdd sp1 en1 (nI yr1) jo1 ea1 lo1)))] H) := by
  intro sz
  refine Met.ofW (cc := cL_does) (maxL := 7) (ret := (some .boolean)) (by decide) rfl ?_
  intro p e s m args below meth c s₁ B hml hv
  obtain ⟨rfl, hsz, hT, hP, hD0, hJ⟩ := hv
  have hK := hT.1
  have hx := B.exec
  have hb := B.bytes
  have hr := B.returns
  have hts := atoms_spec (ws := wsL_does) B.pre
  have hown : s.vm.findClass RL = some m.cls := findClass_of_methodNamed B.named
  have hlocks := B.notSynchronized
  subst hsz
  have hD := hD0.self (sz := s.heap.size)
  generalize hAe : va_A [(x, .inr (6, [a0, a1, .ref xj, .int (nI n), .ref xn, a5, a6, a7, a8, a9, a10, a11])), (xj, .inl (cJ, 6, .inr (.inr (.inr (.inr jr))))), (xn, .inr (1, [.int (nI yr), .int ea, .int lo, .int jo, .int ta, .ref ns, .ref ne, .ref n7, .ref n8])), (ns, .inl (cI, 6, .inl sp)), (ne, .inl (cI, 6, .inl en)), (n7, .inl (cI, 6, .inl tY)), (n8, .inl (cI, 6, .inl tW)), (bb, .inl (cI, 19, .inl Bv)), (dd, .inl (cI, 16, .inl (jdd sp en (nI yr) jo ea lo)))] s.heap.size = A at hD ⊢
  have hA : ∀ q : Nat, s.heap.size ≤ q → A q := fun q h => by rw [← hAe]; exact Or.inr h
  have hS : va_S A s.heap s.heap [] := va_S.rf
  have hl := lv_entry ([.ref x, .ref bb, .ref dd, .int x0] : List Value) (n := 7) (Nat.le_of_ble_eq_true rfl)
  rw [lg_entry_eq]
  generalize (lg_sl ([.ref x, .ref bb, .ref dd, .int x0]) ++ List.replicate (7 - (lg_sl ([.ref x, .ref bb, .ref dd, .int x0])).length) Slot.unset).toArray = ls at hl ⊢
  have hl : lv_has ls 7 [(0, .ref x), (1, .ref bb), (2, .ref dd), (3, .int x0)] := hl
  have hJ_0 := hJ
  have hJ_A : ∀ i a : Nat, i < n → jr i = some a → ¬ A a := fun i a hi ha => by rw [← hAe]; exact jap (hJ.lt hi ha) (hap i a hi ha)
  refine lv_iload_n hx hb dL_does_0 rfl (lv_at hl 3 rfl) ?_
  refine lv_bipush (v := 10) hx hb dL_does_1 (by decide) ?_
  refine jcalli (va_runS (As := [.int x0, .int 10]) (rest := []) ⟨hx, hb, hml, hown, hts⟩ (cl_at l D cI cJ x0 10 (by decide) (by decide) s.heap.size) (va_cwS 2 hts gL_does_L_at rfl rfl rfl (by decide +kernel) ⟨Nat.le_of_ble_eq_true rfl, Nat.le_of_ble_eq_true rfl⟩) (jpreS hT trivial) rfl rfl hl.1 rfl (lv_room (Nat.le_of_ble_eq_true rfl)) dL_does_3 ⟨(Nat.zero_le _), (Nat.zero_le _)⟩) hS hA (fun r_1 H locs hw_r_1 hkq hS => ?_)
  try dsimp only at hw_r_1
  have hP := jkeep hP hkq
  have hJ := hJ.kept hkq
  obtain ⟨sq, hsq, rfl⟩ := hw_r_1
  refine lv_istore (lv' := [(4, .int (nI sq)), (0, .ref x), (1, .ref bb), (2, .ref dd), (3, .int x0)]) hx hb dL_does_6 hl (by decide) rfl (fun ls hl => ?_)
  refine lv_iload_n hx hb dL_does_8 rfl (lv_at hl 4 rfl) ?_
  refine lv_iconst (v := 4) hx hb dL_does_9 (by decide) ?_
  refine lv_ishr hx hb dL_does_10 ?_
  refine lv_aload_n hx hb dL_does_11 rfl (lv_at hl 2 rfl) ?_
  refine lv_iconst (v := 0) hx hb dL_does_12 (by decide) ?_
  refine jv_ald (k := 0) hx hb hK hP 7 0 rfl rfl (by omega) (by decide) dL_does_13 ?_
  refine jv_as (y := nI n) hB.1 ?_
  refine jcalli (va_runS (As := [.int (x0 >>> (4 &&& 31)), .int (nI n)]) (rest := []) ⟨hx, hb, hml, hown, hts⟩ (cl_at l D cI cJ (x0 >>> (4 &&& 31)) n (by omega) (by omega) H.size) (va_cwS 2 hts gL_does_L_at rfl rfl rfl (by decide +kernel) ⟨Nat.le_of_ble_eq_true rfl, Nat.le_of_ble_eq_true rfl⟩) (jpreS hT trivial) rfl rfl hl.1 rfl (lv_room (Nat.le_of_ble_eq_true rfl)) dL_does_14 ⟨(Nat.zero_le _), (Nat.zero_le _)⟩) hS hA (fun r_2 H locs hw_r_2 hkq hS => ?_)
  try dsimp only at hw_r_2
  have hP := jkeep hP hkq
  have hJ := hJ.kept hkq
  obtain ⟨j, hj, rfl⟩ := hw_r_2
  refine lv_istore (lv' := [(5, .int (nI j)), (4, .int (nI sq)), (0, .ref x), (1, .ref bb), (2, .ref dd), (3, .int x0)]) hx hb dL_does_17 hl (by decide) rfl (fun ls hl => ?_)
  refine lv_iload hx hb dL_does_19 (lv_at hl 1 rfl) ?_
  refine lv_bipush (v := 6) hx hb dL_does_21 (by decide) ?_
  refine lv_icmp_ge (tgt := 79) hx hb dL_does_23 (by decide) (fun c_3 => ?_) (fun c_3 => ?_)
  · skip
    replace c_3 : 6 ≤ sq := (nI_leI (a := 6) (b := sq) (by omega) (by omega)).mp c_3
    refine lv_iload hx hb dL_does_79 (lv_at hl 1 rfl) ?_
    refine lv_bipush (v := 7) hx hb dL_does_81 (by decide) ?_
    refine lv_icmp_ge (tgt := 145) hx hb dL_does_83 (by decide) (fun c_4 => ?_) (fun c_4 => ?_)
    · skip
      replace c_4 : 7 ≤ sq := (nI_leI (a := 7) (b := sq) (by omega) (by omega)).mp c_4
      refine lv_aload_n hx hb dL_does_145 rfl (lv_at hl 4 rfl) ?_
      have hPc_5 := hP.sub (ws' := [(dd, .inl (cI, 16, .inl (jdd sp en (nI yr) jo ea lo)))]) [8] rfl
      have hDc_6 := hD.sub (ws' := [(dd, .inl (cI, 16, .inl (jdd sp en (nI yr) jo ea lo)))]) [8] (by decide) rfl
      have hFc_7 := va_free (wc := [(dd, .inl (cI, 16, .inl (jdd sp en (nI yr) jo ea lo)))]) hD hS hA [8] rfl
      refine jcallWv (post := fun H => va_P D vwCl [(dd, .inl (cI, 16, .inl (jdd sp (jfl (fun _ => 0) en 6) ((nI yr) + 1) jo ea lo)))] H) (va_runS (As := [.ref dd]) (rest := []) ⟨hx, hb, hml, hown, hts⟩ (cl_goOn l D cI cJ dd sp en (nI yr) jo ea lo H.size) (va_cwS 1 hts gL_does_L_goOn rfl rfl rfl (by decide +kernel) ⟨Nat.le_of_ble_eq_true rfl, Nat.le_of_ble_eq_true rfl⟩) (jpreS hT ⟨hPc_5, hDc_6.weaken (fun _ _ _ _ => trivial), trivial⟩) rfl rfl hl.1 rfl (lv_room (Nat.le_of_ble_eq_true rfl)) dL_does_146 ⟨(Nat.zero_le _), (Nat.zero_le _)⟩) hS hFc_7 (fun H locs hw_r_8 hz hkq hS => ?_)
      have hP1 := hw_r_8
      obtain ⟨hP, hD⟩ := jjoin (wc := [(dd, .inl (cI, 16, .inl (jdd sp en (nI yr) jo ea lo)))]) (wr := [(x, .inr (6, [a0, a1, .ref xj, .int (nI n), .ref xn, a5, a6, a7, a8, a9, a10, a11])), (xj, .inl (cJ, 6, .inr (.inr (.inr (.inr jr))))), (xn, .inr (1, [.int (nI yr), .int ea, .int lo, .int jo, .int ta, .ref ns, .ref ne, .ref n7, .ref n8])), (ns, .inl (cI, 6, .inl sp)), (ne, .inl (cI, 6, .inl en)), (n7, .inl (cI, 6, .inl tY)), (n8, .inl (cI, 6, .inl tW)), (bb, .inl (cI, 19, .inl Bv))]) (w1 := [(dd, .inl (cI, 16, .inl (jdd sp (jfl (fun _ => 0) en 6) ((nI yr) + 1) jo ea lo)))]) (ws' := [(x, .inr (6, [a0, a1, .ref xj, .int (nI n), .ref xn, a5, a6, a7, a8, a9, a10, a11])), (xj, .inl (cJ, 6, .inr (.inr (.inr (.inr jr))))), (xn, .inr (1, [.int (nI yr), .int ea, .int lo, .int jo, .int ta, .ref ns, .ref ne, .ref n7, .ref n8])), (ns, .inl (cI, 6, .inl sp)), (ne, .inl (cI, 6, .inl en)), (n7, .inl (cI, 6, .inl tY)), (n8, .inl (cI, 6, .inl tW)), (bb, .inl (cI, 19, .inl Bv)), (dd, .inl (cI, 16, .inl (jdd sp (jfl (fun _ => 0) en 6) ((nI yr) + 1) jo ea lo)))]) hP hD hFc_7 [8] [0, 1, 2, 3, 4, 5, 6, 7] [0, 1, 2, 3, 4, 5, 6, 7, 8] rfl rfl (by decide) (by decide) (by decide) (by decide) hkq hP1 rfl rfl rfl
      have hJ := hJ_0.keptA hJ_A (fun q h1 h2 => hS.2.1 q h1 h2)
      refine lv_aload_n hx hb dL_does_149 rfl (lv_at hl 2 rfl) ?_
      have hPc_9 := hP.sub (ws' := [(x, .inr (6, [a0, a1, .ref xj, .int (nI n), .ref xn, a5, a6, a7, a8, a9, a10, a11])), (xn, .inr (1, [.int (nI yr), .int ea, .int lo, .int jo, .int ta, .ref ns, .ref ne, .ref n7, .ref n8])), (ns, .inl (cI, 6, .inl sp)), (ne, .inl (cI, 6, .inl en)), (n7, .inl (cI, 6, .inl tY)), (n8, .inl (cI, 6, .inl tW))]) [0, 2, 3, 4, 5, 6] rfl
      have hDc_10 := hD.sub (ws' := [(x, .inr (6, [a0, a1, .ref xj, .int (nI n), .ref xn, a5, a6, a7, a8, a9, a10, a11])), (xn, .inr (1, [.int (nI yr), .int ea, .int lo, .int jo, .int ta, .ref ns, .ref ne, .ref n7, .ref n8])), (ns, .inl (cI, 6, .inl sp)), (ne, .inl (cI, 6, .inl en)), (n7, .inl (cI, 6, .inl tY)), (n8, .inl (cI, 6, .inl tW))]) [0, 2, 3, 4, 5, 6] (by decide) rfl
      have hFc_11 := va_free (wc := [(x, .inr (6, [a0, a1, .ref xj, .int (nI n), .ref xn, a5, a6, a7, a8, a9, a10, a11])), (xn, .inr (1, [.int (nI yr), .int ea, .int lo, .int jo, .int ta, .ref ns, .ref ne, .ref n7, .ref n8])), (ns, .inl (cI, 6, .inl sp)), (ne, .inl (cI, 6, .inl en)), (n7, .inl (cI, 6, .inl tY)), (n8, .inl (cI, 6, .inl tW))]) hD hS hA [0, 2, 3, 4, 5, 6] rfl
      refine jcallWi (post := fun r H => r = (nI yr) + 1 ∧ va_P D vwCl [(x, .inr (6, [a0, a1, (.ref xj), .int (nI n), .ref xn, a5, a6, a7, a8, a9, a10, a11])), (xn, .inr (1, [.int ((nI yr) + 1), .int ea, .int lo, .int jo, .int ta, .ref ns, .ref ne, .ref n7, .ref n8])), (ns, .inl (cI, 6, .inl sp)), (ne, .inl (cI, 6, .inl (jfl (fun _ => 0) en 6))), (n7, .inl (cI, 6, .inl tY)), (n8, .inl (cI, 6, .inl tW))] H) (va_runV (As := []) (rest := []) ⟨hx, hb, hml, hown, hts⟩ (c_year_ok l D cI cJ x xn ns ne n7 n8 n a0 a1 (.ref xj) a5 a6 a7 a8 a9 a10 a11 (nI yr) ea lo jo ta sp en tY tW hn0 hn6 ((nI_ltI (a := yr) (b := 99) (by omega) (by omega)).mpr hy9) H.size) (cwV 0 hts gL_does_X6_year rfl rfl rfl (by decide +kernel) ⟨Nat.le_of_ble_eq_true rfl, Nat.le_of_ble_eq_true rfl⟩) (jpreV hT (va_recv hK hP (ci := 6) (q0 := 0) rfl rfl) ⟨hPc_9, hDc_10.weaken (fun _ _ _ _ => trivial), trivial⟩) rfl rfl hl.1 rfl (lv_room (Nat.le_of_ble_eq_true rfl)) dL_does_150 ⟨(Nat.zero_le _), (Nat.zero_le _)⟩) hS hFc_11 (fun r_12 H locs hw_r_12 hz hkq hS => ?_)
      obtain ⟨hr9, hP1⟩ := hw_r_12
      obtain ⟨hP, hD⟩ := jjoin (wc := [(x, .inr (6, [a0, a1, .ref xj, .int (nI n), .ref xn, a5, a6, a7, a8, a9, a10, a11])), (xn, .inr (1, [.int (nI yr), .int ea, .int lo, .int jo, .int ta, .ref ns, .ref ne, .ref n7, .ref n8])), (ns, .inl (cI, 6, .inl sp)), (ne, .inl (cI, 6, .inl en)), (n7, .inl (cI, 6, .inl tY)), (n8, .inl (cI, 6, .inl tW))]) (wr := [(xj, .inl (cJ, 6, .inr (.inr (.inr (.inr jr))))), (bb, .inl (cI, 19, .inl Bv)), (dd, .inl (cI, 16, .inl (jdd sp (jfl (fun _ => 0) en 6) ((nI yr) + 1) jo ea lo)))]) (w1 := [(x, .inr (6, [a0, a1, .ref xj, .int (nI n), .ref xn, a5, a6, a7, a8, a9, a10, a11])), (xn, .inr (1, [.int ((nI yr) + 1), .int ea, .int lo, .int jo, .int ta, .ref ns, .ref ne, .ref n7, .ref n8])), (ns, .inl (cI, 6, .inl sp)), (ne, .inl (cI, 6, .inl (jfl (fun _ => 0) en 6))), (n7, .inl (cI, 6, .inl tY)), (n8, .inl (cI, 6, .inl tW))]) (ws' := [(x, .inr (6, [a0, a1, .ref xj, .int (nI n), .ref xn, a5, a6, a7, a8, a9, a10, a11])), (xj, .inl (cJ, 6, .inr (.inr (.inr (.inr jr))))), (xn, .inr (1, [.int ((nI yr) + 1), .int ea, .int lo, .int jo, .int ta, .ref ns, .ref ne, .ref n7, .ref n8])), (ns, .inl (cI, 6, .inl sp)), (ne, .inl (cI, 6, .inl (jfl (fun _ => 0) en 6))), (n7, .inl (cI, 6, .inl tY)), (n8, .inl (cI, 6, .inl tW)), (bb, .inl (cI, 19, .inl Bv)), (dd, .inl (cI, 16, .inl (jdd sp (jfl (fun _ => 0) en 6) ((nI yr) + 1) jo ea lo)))]) hP hD hFc_11 [0, 2, 3, 4, 5, 6] [1, 7, 8] [3, 0, 4, 5, 6, 7, 8, 1, 2] rfl rfl (by decide) (by decide) (by decide) (by decide) hkq hP1 rfl rfl rfl
      have hJ := hJ_0.keptA hJ_A (fun q h1 h2 => hS.2.1 q h1 h2)
      subst hr9
      refine lv_aload_n hx hb dL_does_153 rfl (lv_at hl 4 rfl) ?_
      refine lv_bipush (v := 12) hx hb dL_does_154 (by decide) ?_
      refine jv_ald (k := 12) hx hb hK hP 8 0 rfl rfl (by omega) (by decide) dL_does_156 ?_
      refine jv_as (y := nI yr + 1) rfl ?_
      refine lv_icmp_ne (tgt := 164) hx hb dL_does_157 (by decide) (fun c_13 => ?_) (fun c_13 => ?_)
      · skip
        exact absurd rfl c_13
      · skip
        refine lv_iconst (v := 1) hx hb dL_does_160 (by decide) ?_
        refine lv_goto (tgt := 165) hx hb dL_does_161 (by decide) ?_
        exact W.zret (v := 1) hx hb hr (by decide) (fun t ht hW => ⟨⟨1, 1, rfl, rfl, by dsimp only; rw [ht]; exact ⟨rfl, sp, jfl (fun _ => 0) en 6, yr + 1, jo, ea, lo, hNn, (by omega), (by rw [← nI_1 yr]; exact hP)⟩⟩, hS.F ht⟩) hS.2.2 dL_does_165
    · skip
      replace c_4 : ¬ 7 ≤ sq := fun h => c_4 ((nI_leI (a := 7) (b := sq) (by omega) (by omega)).mpr h)
      refine lv_aload_n hx hb dL_does_86 rfl (lv_at hl 4 rfl) ?_
      refine lv_iload hx hb dL_does_87 (lv_at hl 0 rfl) ?_
      refine jv_ald (k := j) hx hb hK hP 8 0 rfl rfl (by omega) (by decide) dL_does_89 ?_
      refine jv_as (y := sp j) (jdd_s (by omega)) ?_
      refine lv_if_ne (tgt := 110) hx hb dL_does_90 (by decide) (fun c_14 => ?_) (fun c_14 => ?_)
      · skip
        have h0 : 0 < sp j := lzp (hNn j (by omega)) c_14
        refine lv_aload_n hx hb dL_does_110 rfl (lv_at hl 4 rfl) ?_
        refine lv_iload hx hb dL_does_111 (lv_at hl 0 rfl) ?_
        refine lv_dup2_11 hx hb dL_does_113 rfl rfl ?_
        refine jv_ald (k := j) hx hb hK hP 8 0 rfl rfl (by omega) (by decide) dL_does_114 ?_
        refine jv_as (y := sp j) (jdd_s (by omega)) ?_
        refine lv_iconst (v := 1) hx hb dL_does_115 (by decide) ?_
        refine lv_isub hx hb dL_does_116 ?_
        refine jv_ast (k := j) (x := (sp j) - 1) hx hb hK hP hD hS 8 0 rfl rfl (by omega) (by decide) dL_does_117 (fun H locs hP hD hS => ?_)
        have hP : va_P D vwCl [(x, .inr (6, [a0, a1, .ref xj, .int (nI n), .ref xn, a5, a6, a7, a8, a9, a10, a11])), (xj, .inl (cJ, 6, .inr (.inr (.inr (.inr jr))))), (xn, .inr (1, [.int (nI yr), .int ea, .int lo, .int jo, .int ta, .ref ns, .ref ne, .ref n7, .ref n8])), (ns, .inl (cI, 6, .inl sp)), (ne, .inl (cI, 6, .inl en)), (n7, .inl (cI, 6, .inl tY)), (n8, .inl (cI, 6, .inl tW)), (bb, .inl (cI, 19, .inl Bv)), (dd, .inl (cI, 16, .inl (upd (jdd sp en (nI yr) jo ea lo) j ((sp j) - 1))))] H := hP
        have hD : va_D A [(x, .inr (6, [a0, a1, .ref xj, .int (nI n), .ref xn, a5, a6, a7, a8, a9, a10, a11])), (xj, .inl (cJ, 6, .inr (.inr (.inr (.inr jr))))), (xn, .inr (1, [.int (nI yr), .int ea, .int lo, .int jo, .int ta, .ref ns, .ref ne, .ref n7, .ref n8])), (ns, .inl (cI, 6, .inl sp)), (ne, .inl (cI, 6, .inl en)), (n7, .inl (cI, 6, .inl tY)), (n8, .inl (cI, 6, .inl tW)), (bb, .inl (cI, 19, .inl Bv)), (dd, .inl (cI, 16, .inl (upd (jdd sp en (nI yr) jo ea lo) j ((sp j) - 1))))] := hD
        have hJ := hJ_0.keptA hJ_A (fun q h1 h2 => hS.2.1 q h1 h2)
        have hP : va_P D vwCl [(x, .inr (6, [a0, a1, .ref xj, .int (nI n), .ref xn, a5, a6, a7, a8, a9, a10, a11])), (xj, .inl (cJ, 6, .inr (.inr (.inr (.inr jr))))), (xn, .inr (1, [.int (nI yr), .int ea, .int lo, .int jo, .int ta, .ref ns, .ref ne, .ref n7, .ref n8])), (ns, .inl (cI, 6, .inl sp)), (ne, .inl (cI, 6, .inl en)), (n7, .inl (cI, 6, .inl tY)), (n8, .inl (cI, 6, .inl tW)), (bb, .inl (cI, 19, .inl Bv)), (dd, .inl (cI, 16, .inl (jdd (upd sp j ((sp j) - 1)) en (nI yr) jo ea lo)))] H := by rw [jdd_us (by omega)]; exact hP
        have hD : va_D A [(x, .inr (6, [a0, a1, .ref xj, .int (nI n), .ref xn, a5, a6, a7, a8, a9, a10, a11])), (xj, .inl (cJ, 6, .inr (.inr (.inr (.inr jr))))), (xn, .inr (1, [.int (nI yr), .int ea, .int lo, .int jo, .int ta, .ref ns, .ref ne, .ref n7, .ref n8])), (ns, .inl (cI, 6, .inl sp)), (ne, .inl (cI, 6, .inl en)), (n7, .inl (cI, 6, .inl tY)), (n8, .inl (cI, 6, .inl tW)), (bb, .inl (cI, 19, .inl Bv)), (dd, .inl (cI, 16, .inl (jdd (upd sp j ((sp j) - 1)) en (nI yr) jo ea lo)))] := jD_of hD rfl
        refine lv_aload_n hx hb dL_does_118 rfl (lv_at hl 4 rfl) ?_
        refine lv_bipush (v := 15) hx hb dL_does_119 (by decide) ?_
        refine lv_dup2_11 hx hb dL_does_121 rfl rfl ?_
        refine jv_ald (k := 15) hx hb hK hP 8 0 rfl rfl (by omega) (by decide) dL_does_122 ?_
        refine jv_as (y := lo) rfl ?_
        refine lv_iconst (v := 1) hx hb dL_does_123 (by decide) ?_
        refine lv_iadd hx hb dL_does_124 ?_
        refine jv_ast (k := 15) (x := lo + 1) hx hb hK hP hD hS 8 0 rfl rfl (by omega) (by decide) dL_does_125 (fun H locs hP hD hS => ?_)
        have hP : va_P D vwCl [(x, .inr (6, [a0, a1, .ref xj, .int (nI n), .ref xn, a5, a6, a7, a8, a9, a10, a11])), (xj, .inl (cJ, 6, .inr (.inr (.inr (.inr jr))))), (xn, .inr (1, [.int (nI yr), .int ea, .int lo, .int jo, .int ta, .ref ns, .ref ne, .ref n7, .ref n8])), (ns, .inl (cI, 6, .inl sp)), (ne, .inl (cI, 6, .inl en)), (n7, .inl (cI, 6, .inl tY)), (n8, .inl (cI, 6, .inl tW)), (bb, .inl (cI, 19, .inl Bv)), (dd, .inl (cI, 16, .inl (upd (jdd (upd sp j ((sp j) - 1)) en (nI yr) jo ea lo) 15 (lo + 1))))] H := hP
        have hD : va_D A [(x, .inr (6, [a0, a1, .ref xj, .int (nI n), .ref xn, a5, a6, a7, a8, a9, a10, a11])), (xj, .inl (cJ, 6, .inr (.inr (.inr (.inr jr))))), (xn, .inr (1, [.int (nI yr), .int ea, .int lo, .int jo, .int ta, .ref ns, .ref ne, .ref n7, .ref n8])), (ns, .inl (cI, 6, .inl sp)), (ne, .inl (cI, 6, .inl en)), (n7, .inl (cI, 6, .inl tY)), (n8, .inl (cI, 6, .inl tW)), (bb, .inl (cI, 19, .inl Bv)), (dd, .inl (cI, 16, .inl (upd (jdd (upd sp j ((sp j) - 1)) en (nI yr) jo ea lo) 15 (lo + 1))))] := hD
        have hJ := hJ_0.keptA hJ_A (fun q h1 h2 => hS.2.1 q h1 h2)
        have hP : va_P D vwCl [(x, .inr (6, [a0, a1, .ref xj, .int (nI n), .ref xn, a5, a6, a7, a8, a9, a10, a11])), (xj, .inl (cJ, 6, .inr (.inr (.inr (.inr jr))))), (xn, .inr (1, [.int (nI yr), .int ea, .int lo, .int jo, .int ta, .ref ns, .ref ne, .ref n7, .ref n8])), (ns, .inl (cI, 6, .inl sp)), (ne, .inl (cI, 6, .inl en)), (n7, .inl (cI, 6, .inl tY)), (n8, .inl (cI, 6, .inl tW)), (bb, .inl (cI, 19, .inl Bv)), (dd, .inl (cI, 16, .inl (jdd (upd sp j ((sp j) - 1)) en (nI yr) jo ea (lo + 1))))] H := jP_arr hP 8 rfl (fun i hi => jdd_ul hi)
        have hD : va_D A [(x, .inr (6, [a0, a1, .ref xj, .int (nI n), .ref xn, a5, a6, a7, a8, a9, a10, a11])), (xj, .inl (cJ, 6, .inr (.inr (.inr (.inr jr))))), (xn, .inr (1, [.int (nI yr), .int ea, .int lo, .int jo, .int ta, .ref ns, .ref ne, .ref n7, .ref n8])), (ns, .inl (cI, 6, .inl sp)), (ne, .inl (cI, 6, .inl en)), (n7, .inl (cI, 6, .inl tY)), (n8, .inl (cI, 6, .inl tW)), (bb, .inl (cI, 19, .inl Bv)), (dd, .inl (cI, 16, .inl (jdd (upd sp j ((sp j) - 1)) en (nI yr) jo ea (lo + 1))))] := jD_of hD rfl
        refine lv_aload_n hx hb dL_does_126 rfl (lv_at hl 2 rfl) ?_
        refine lv_iload hx hb dL_does_127 (lv_at hl 0 rfl) ?_
        have hPc_15 := hP.sub (ws' := [(x, .inr (6, [a0, a1, .ref xj, .int (nI n), .ref xn, a5, a6, a7, a8, a9, a10, a11])), (xj, .inl (cJ, 6, .inr (.inr (.inr (.inr jr))))), (xn, .inr (1, [.int (nI yr), .int ea, .int lo, .int jo, .int ta, .ref ns, .ref ne, .ref n7, .ref n8])), (ns, .inl (cI, 6, .inl sp)), (ne, .inl (cI, 6, .inl en)), (n7, .inl (cI, 6, .inl tY)), (n8, .inl (cI, 6, .inl tW))]) [0, 1, 2, 3, 4, 5, 6] rfl
        have hDc_16 := hD.sub (ws' := [(x, .inr (6, [a0, a1, .ref xj, .int (nI n), .ref xn, a5, a6, a7, a8, a9, a10, a11])), (xj, .inl (cJ, 6, .inr (.inr (.inr (.inr jr))))), (xn, .inr (1, [.int (nI yr), .int ea, .int lo, .int jo, .int ta, .ref ns, .ref ne, .ref n7, .ref n8])), (ns, .inl (cI, 6, .inl sp)), (ne, .inl (cI, 6, .inl en)), (n7, .inl (cI, 6, .inl tY)), (n8, .inl (cI, 6, .inl tW))]) [0, 1, 2, 3, 4, 5, 6] (by decide) rfl
        have hFc_17 := va_free (wc := [(x, .inr (6, [a0, a1, .ref xj, .int (nI n), .ref xn, a5, a6, a7, a8, a9, a10, a11])), (xj, .inl (cJ, 6, .inr (.inr (.inr (.inr jr))))), (xn, .inr (1, [.int (nI yr), .int ea, .int lo, .int jo, .int ta, .ref ns, .ref ne, .ref n7, .ref n8])), (ns, .inl (cI, 6, .inl sp)), (ne, .inl (cI, 6, .inl en)), (n7, .inl (cI, 6, .inl tY)), (n8, .inl (cI, 6, .inl tW))]) hD hS hA [0, 1, 2, 3, 4, 5, 6] rfl
        refine jcallWi (post := fun r H => r = sp j - 1 ∧ va_P D vwCl [(x, .inr (6, [a0, a1, .ref xj, .int (nI n), .ref xn, a5, a6, a7, a8, a9, a10, a11])), (xj, .inl (cJ, 6, .inr (.inr (.inr (.inr jr))))), (xn, .inr (1, [.int (nI yr), .int ea, .int (lo + 1), .int jo, .int ta, .ref ns, .ref ne, .ref n7, .ref n8])), (ns, .inl (cI, 6, .inl (upd sp j (sp j - 1)))), (ne, .inl (cI, 6, .inl en)), (n7, .inl (cI, 6, .inl tY)), (n8, .inl (cI, 6, .inl tW))] H) (va_runV (As := [.int (nI j)]) (rest := []) ⟨hx, hb, hml, hown, hts⟩ (c_wasps_ok l D cI cJ x xj xn ns ne n7 n8 n a0 a1 a5 a6 a7 a8 a9 a10 a11 jr jk jg js jm (nI yr) ea lo jo ta sp en tY tW j hj hn6 h0 H.size) (cwV 1 hts gL_does_X6_wasps rfl rfl rfl (by decide +kernel) ⟨Nat.le_of_ble_eq_true rfl, Nat.le_of_ble_eq_true rfl⟩) (jpreV hT (va_recv hK hP (ci := 6) (q0 := 0) rfl rfl) ⟨hPc_15, hDc_16.weaken (fun _ _ _ _ => trivial), hJ⟩) rfl rfl hl.1 rfl (lv_room (Nat.le_of_ble_eq_true rfl)) dL_does_129 ⟨(Nat.zero_le _), (Nat.zero_le _)⟩) hS hFc_17 (fun r_18 H locs hw_r_18 hz hkq hS => ?_)
        obtain ⟨hr9, hP1⟩ := hw_r_18
        obtain ⟨hP, hD⟩ := jjoin (wc := [(x, .inr (6, [a0, a1, .ref xj, .int (nI n), .ref xn, a5, a6, a7, a8, a9, a10, a11])), (xj, .inl (cJ, 6, .inr (.inr (.inr (.inr jr))))), (xn, .inr (1, [.int (nI yr), .int ea, .int lo, .int jo, .int ta, .ref ns, .ref ne, .ref n7, .ref n8])), (ns, .inl (cI, 6, .inl sp)), (ne, .inl (cI, 6, .inl en)), (n7, .inl (cI, 6, .inl tY)), (n8, .inl (cI, 6, .inl tW))]) (wr := [(bb, .inl (cI, 19, .inl Bv)), (dd, .inl (cI, 16, .inl (jdd (upd sp j ((sp j) - 1)) en (nI yr) jo ea (lo + 1))))]) (w1 := [(x, .inr (6, [a0, a1, .ref xj, .int (nI n), .ref xn, a5, a6, a7, a8, a9, a10, a11])), (xj, .inl (cJ, 6, .inr (.inr (.inr (.inr jr))))), (xn, .inr (1, [.int (nI yr), .int ea, .int (lo + 1), .int jo, .int ta, .ref ns, .ref ne, .ref n7, .ref n8])), (ns, .inl (cI, 6, .inl (upd sp j (sp j - 1)))), (ne, .inl (cI, 6, .inl en)), (n7, .inl (cI, 6, .inl tY)), (n8, .inl (cI, 6, .inl tW))]) (ws' := [(x, .inr (6, [a0, a1, .ref xj, .int (nI n), .ref xn, a5, a6, a7, a8, a9, a10, a11])), (xj, .inl (cJ, 6, .inr (.inr (.inr (.inr jr))))), (xn, .inr (1, [.int (nI yr), .int ea, .int (lo + 1), .int jo, .int ta, .ref ns, .ref ne, .ref n7, .ref n8])), (ns, .inl (cI, 6, .inl (upd sp j (sp j - 1)))), (ne, .inl (cI, 6, .inl en)), (n7, .inl (cI, 6, .inl tY)), (n8, .inl (cI, 6, .inl tW)), (bb, .inl (cI, 19, .inl Bv)), (dd, .inl (cI, 16, .inl (jdd (upd sp j ((sp j) - 1)) en (nI yr) jo ea (lo + 1))))]) hP hD hFc_17 [0, 1, 2, 3, 4, 5, 6] [7, 8] [2, 3, 4, 5, 6, 7, 8, 0, 1] rfl rfl (by decide) (by decide) (by decide) (by decide) hkq hP1 rfl rfl rfl
        have hJ := hJ_0.keptA hJ_A (fun q h1 h2 => hS.2.1 q h1 h2)
        subst hr9
        refine lv_aload_n hx hb dL_does_132 rfl (lv_at hl 4 rfl) ?_
        refine lv_iload hx hb dL_does_133 (lv_at hl 0 rfl) ?_
        refine jv_ald (k := j) hx hb hK hP 8 0 rfl rfl (by omega) (by decide) dL_does_135 ?_
        refine jv_as (y := sp j - 1) ((jdd_s (by omega)).trans pk_us) ?_
        refine lv_icmp_ne (tgt := 143) hx hb dL_does_136 (by decide) (fun c_19 => ?_) (fun c_19 => ?_)
        · skip
          exact absurd rfl c_19
        · skip
          refine lv_iconst (v := 1) hx hb dL_does_139 (by decide) ?_
          refine lv_goto (tgt := 144) hx hb dL_does_140 (by decide) ?_
          exact W.zret (v := 1) hx hb hr (by decide) (fun t ht hW => ⟨⟨1, 1, rfl, rfl, by dsimp only; rw [ht]; exact ⟨rfl, upd sp j ((sp j) - 1), en, yr, jo, ea, lo + 1, (hNn.up h0), (by omega), hP⟩⟩, hS.F ht⟩) hS.2.2 dL_does_144
      · skip
        have h0 : ¬ 0 < sp j := lzn c_14
        refine lv_aload_n hx hb dL_does_93 rfl (lv_at hl 2 rfl) ?_
        refine lv_iload hx hb dL_does_94 (lv_at hl 0 rfl) ?_
        have hPc_20 := hP.sub (ws' := [(x, .inr (6, [a0, a1, .ref xj, .int (nI n), .ref xn, a5, a6, a7, a8, a9, a10, a11])), (xj, .inl (cJ, 6, .inr (.inr (.inr (.inr jr))))), (xn, .inr (1, [.int (nI yr), .int ea, .int lo, .int jo, .int ta, .ref ns, .ref ne, .ref n7, .ref n8])), (ns, .inl (cI, 6, .inl sp)), (ne, .inl (cI, 6, .inl en)), (n7, .inl (cI, 6, .inl tY)), (n8, .inl (cI, 6, .inl tW))]) [0, 1, 2, 3, 4, 5, 6] rfl
        have hDc_21 := hD.sub (ws' := [(x, .inr (6, [a0, a1, .ref xj, .int (nI n), .ref xn, a5, a6, a7, a8, a9, a10, a11])), (xj, .inl (cJ, 6, .inr (.inr (.inr (.inr jr))))), (xn, .inr (1, [.int (nI yr), .int ea, .int lo, .int jo, .int ta, .ref ns, .ref ne, .ref n7, .ref n8])), (ns, .inl (cI, 6, .inl sp)), (ne, .inl (cI, 6, .inl en)), (n7, .inl (cI, 6, .inl tY)), (n8, .inl (cI, 6, .inl tW))]) [0, 1, 2, 3, 4, 5, 6] (by decide) rfl
        have hFc_22 := va_free (wc := [(x, .inr (6, [a0, a1, .ref xj, .int (nI n), .ref xn, a5, a6, a7, a8, a9, a10, a11])), (xj, .inl (cJ, 6, .inr (.inr (.inr (.inr jr))))), (xn, .inr (1, [.int (nI yr), .int ea, .int lo, .int jo, .int ta, .ref ns, .ref ne, .ref n7, .ref n8])), (ns, .inl (cI, 6, .inl sp)), (ne, .inl (cI, 6, .inl en)), (n7, .inl (cI, 6, .inl tY)), (n8, .inl (cI, 6, .inl tW))]) hD hS hA [0, 1, 2, 3, 4, 5, 6] rfl
        refine jcallWi (post := fun r H => r = -103 ∧ va_P D vwCl [(x, .inr (6, [a0, a1, .ref xj, .int (nI n), .ref xn, a5, a6, a7, a8, a9, a10, a11])), (xj, .inl (cJ, 6, .inr (.inr (.inr (.inr jr))))), (xn, .inr (1, [.int (nI yr), .int ea, .int lo, .int jo, .int ta, .ref ns, .ref ne, .ref n7, .ref n8])), (ns, .inl (cI, 6, .inl sp)), (ne, .inl (cI, 6, .inl en)), (n7, .inl (cI, 6, .inl tY)), (n8, .inl (cI, 6, .inl tW))] H) (va_runV (As := [.int (nI j)]) (rest := []) ⟨hx, hb, hml, hown, hts⟩ (c_wasps_none l D cI cJ x xj xn ns ne n7 n8 n a0 a1 a5 a6 a7 a8 a9 a10 a11 jr jk jg js jm (nI yr) ea lo jo ta sp en tY tW j hj hn6 h0 H.size) (cwV 1 hts gL_does_X6_wasps rfl rfl rfl (by decide +kernel) ⟨Nat.le_of_ble_eq_true rfl, Nat.le_of_ble_eq_true rfl⟩) (jpreV hT (va_recv hK hP (ci := 6) (q0 := 0) rfl rfl) ⟨hPc_20, hDc_21.weaken (fun _ _ _ _ => trivial), hJ⟩) rfl rfl hl.1 rfl (lv_room (Nat.le_of_ble_eq_true rfl)) dL_does_96 ⟨(Nat.zero_le _), (Nat.zero_le _)⟩) hS hFc_22 (fun r_23 H locs hw_r_23 hz hkq hS => ?_)
        obtain ⟨hr9, hP1⟩ := hw_r_23
        obtain ⟨hP, hD⟩ := jjoin (wc := [(x, .inr (6, [a0, a1, .ref xj, .int (nI n), .ref xn, a5, a6, a7, a8, a9, a10, a11])), (xj, .inl (cJ, 6, .inr (.inr (.inr (.inr jr))))), (xn, .inr (1, [.int (nI yr), .int ea, .int lo, .int jo, .int ta, .ref ns, .ref ne, .ref n7, .ref n8])), (ns, .inl (cI, 6, .inl sp)), (ne, .inl (cI, 6, .inl en)), (n7, .inl (cI, 6, .inl tY)), (n8, .inl (cI, 6, .inl tW))]) (wr := [(bb, .inl (cI, 19, .inl Bv)), (dd, .inl (cI, 16, .inl (jdd sp en (nI yr) jo ea lo)))]) (w1 := [(x, .inr (6, [a0, a1, .ref xj, .int (nI n), .ref xn, a5, a6, a7, a8, a9, a10, a11])), (xj, .inl (cJ, 6, .inr (.inr (.inr (.inr jr))))), (xn, .inr (1, [.int (nI yr), .int ea, .int lo, .int jo, .int ta, .ref ns, .ref ne, .ref n7, .ref n8])), (ns, .inl (cI, 6, .inl sp)), (ne, .inl (cI, 6, .inl en)), (n7, .inl (cI, 6, .inl tY)), (n8, .inl (cI, 6, .inl tW))]) (ws' := [(x, .inr (6, [a0, a1, .ref xj, .int (nI n), .ref xn, a5, a6, a7, a8, a9, a10, a11])), (xj, .inl (cJ, 6, .inr (.inr (.inr (.inr jr))))), (xn, .inr (1, [.int (nI yr), .int ea, .int lo, .int jo, .int ta, .ref ns, .ref ne, .ref n7, .ref n8])), (ns, .inl (cI, 6, .inl sp)), (ne, .inl (cI, 6, .inl en)), (n7, .inl (cI, 6, .inl tY)), (n8, .inl (cI, 6, .inl tW)), (bb, .inl (cI, 19, .inl Bv)), (dd, .inl (cI, 16, .inl (jdd sp en (nI yr) jo ea lo)))]) hP hD hFc_22 [0, 1, 2, 3, 4, 5, 6] [7, 8] [2, 3, 4, 5, 6, 7, 8, 0, 1] rfl rfl (by decide) (by decide) (by decide) (by decide) hkq hP1 rfl rfl rfl
        have hJ := hJ_0.keptA hJ_A (fun q h1 h2 => hS.2.1 q h1 h2)
        subst hr9
        refine lv_bipush (v := (-103)) hx hb dL_does_99 (by decide) ?_
        refine lv_icmp_ne (tgt := 108) hx hb dL_does_101 (by decide) (fun c_24 => ?_) (fun c_24 => ?_)
        · skip
          exact absurd c_24 (by decide)
        · skip
          refine lv_iconst (v := 1) hx hb dL_does_104 (by decide) ?_
          refine lv_goto (tgt := 109) hx hb dL_does_105 (by decide) ?_
          exact W.zret (v := 1) hx hb hr (by decide) (fun t ht hW => ⟨⟨1, 1, rfl, rfl, by dsimp only; rw [ht]; exact ⟨rfl, sp, en, yr, jo, ea, lo, hNn, (by omega), hP⟩⟩, hS.F ht⟩) hS.2.2 dL_does_109
  · skip
    replace c_3 : ¬ 6 ≤ sq := fun h => c_3 ((nI_leI (a := 6) (b := sq) (by omega) (by omega)).mpr h)
    refine lv_aload_n hx hb dL_does_26 rfl (lv_at hl 4 rfl) ?_
    refine lv_iload hx hb dL_does_27 (lv_at hl 0 rfl) ?_
    refine jv_ald (k := j) hx hb hK hP 8 0 rfl rfl (by omega) (by decide) dL_does_29 ?_
    refine jv_as (y := sp j) (jdd_s (by omega)) ?_
    refine lv_if_ne (tgt := 50) hx hb dL_does_30 (by decide) (fun c_25 => ?_) (fun c_25 => ?_)
    · skip
      have h0 : 0 < sp j := lzp (hNn j (by omega)) c_25
      refine lv_aload_n hx hb dL_does_50 rfl (lv_at hl 3 rfl) ?_
      refine lv_aload_n hx hb dL_does_51 rfl (lv_at hl 4 rfl) ?_
      refine lv_iload hx hb dL_does_52 (lv_at hl 0 rfl) ?_
      have hPc_26 := hP.sub (ws' := [(bb, .inl (cI, 19, .inl Bv)), (dd, .inl (cI, 16, .inl (jdd sp en (nI yr) jo ea lo)))]) [7, 8] rfl
      have hDc_27 := hD.sub (ws' := [(bb, .inl (cI, 19, .inl Bv)), (dd, .inl (cI, 16, .inl (jdd sp en (nI yr) jo ea lo)))]) [7, 8] (by decide) rfl
      have hFc_28 := va_free (wc := [(bb, .inl (cI, 19, .inl Bv)), (dd, .inl (cI, 16, .inl (jdd sp en (nI yr) jo ea lo)))]) hD hS hA [7, 8] rfl
      refine jcallWi (post := fun r H => r = fw j (nI yr) - en j ∧ va_P D vwCl [(bb, .inl (cI, 19, .inl Bv)), (dd, .inl (cI, 16, .inl (jdd (upd sp j (sp j - 1)) (upd en j (en j + 1)) (nI yr) (jo + (fw j (nI yr) - en j)) (ea + 1) lo)))] H) (va_runS (As := [.ref bb, .ref dd, .int (nI j)]) (rest := []) ⟨hx, hb, hml, hown, hts⟩ (cl_eat l D cI cJ bb dd n jk jg js jm fw Bv sp en (nI yr) jo ea lo j hB hj hn6 hfw H.size) (va_cwS 3 hts gL_does_L_eat rfl rfl rfl (by decide +kernel) ⟨Nat.le_of_ble_eq_true rfl, Nat.le_of_ble_eq_true rfl⟩) (jpreS hT ⟨hPc_26, hDc_27.weaken (fun _ _ _ _ => trivial), trivial⟩) rfl rfl hl.1 rfl (lv_room (Nat.le_of_ble_eq_true rfl)) dL_does_54 ⟨(Nat.zero_le _), (Nat.zero_le _)⟩) hS hFc_28 (fun r_29 H locs hw_r_29 hz hkq hS => ?_)
      obtain ⟨hr9, hP1⟩ := hw_r_29
      obtain ⟨hP, hD⟩ := jjoin (wc := [(bb, .inl (cI, 19, .inl Bv)), (dd, .inl (cI, 16, .inl (jdd sp en (nI yr) jo ea lo)))]) (wr := [(x, .inr (6, [a0, a1, .ref xj, .int (nI n), .ref xn, a5, a6, a7, a8, a9, a10, a11])), (xj, .inl (cJ, 6, .inr (.inr (.inr (.inr jr))))), (xn, .inr (1, [.int (nI yr), .int ea, .int lo, .int jo, .int ta, .ref ns, .ref ne, .ref n7, .ref n8])), (ns, .inl (cI, 6, .inl sp)), (ne, .inl (cI, 6, .inl en)), (n7, .inl (cI, 6, .inl tY)), (n8, .inl (cI, 6, .inl tW))]) (w1 := [(bb, .inl (cI, 19, .inl Bv)), (dd, .inl (cI, 16, .inl (jdd (upd sp j (sp j - 1)) (upd en j (en j + 1)) (nI yr) (jo + (fw j (nI yr) - en j)) (ea + 1) lo)))]) (ws' := [(x, .inr (6, [a0, a1, .ref xj, .int (nI n), .ref xn, a5, a6, a7, a8, a9, a10, a11])), (xj, .inl (cJ, 6, .inr (.inr (.inr (.inr jr))))), (xn, .inr (1, [.int (nI yr), .int ea, .int lo, .int jo, .int ta, .ref ns, .ref ne, .ref n7, .ref n8])), (ns, .inl (cI, 6, .inl sp)), (ne, .inl (cI, 6, .inl en)), (n7, .inl (cI, 6, .inl tY)), (n8, .inl (cI, 6, .inl tW)), (bb, .inl (cI, 19, .inl Bv)), (dd, .inl (cI, 16, .inl (jdd (upd sp j (sp j - 1)) (upd en j (en j + 1)) (nI yr) (jo + (fw j (nI yr) - en j)) (ea + 1) lo)))]) hP hD hFc_28 [7, 8] [0, 1, 2, 3, 4, 5, 6] [0, 1, 2, 3, 4, 5, 6, 7, 8] rfl rfl (by decide) (by decide) (by decide) (by decide) hkq hP1 rfl rfl rfl
      have hJ := hJ_0.keptA hJ_A (fun q h1 h2 => hS.2.1 q h1 h2)
      subst hr9
      refine lv_istore (lv' := [(6, .int (fw j (nI yr) - en j)), (5, .int (nI j)), (4, .int (nI sq)), (0, .ref x), (1, .ref bb), (2, .ref dd), (3, .int x0)]) hx hb dL_does_57 hl (by decide) rfl (fun ls hl => ?_)
      refine lv_aload_n hx hb dL_does_59 rfl (lv_at hl 3 rfl) ?_
      refine lv_iload hx hb dL_does_60 (lv_at hl 1 rfl) ?_
      have hPc_30 := hP.sub (ws' := [(x, .inr (6, [a0, a1, .ref xj, .int (nI n), .ref xn, a5, a6, a7, a8, a9, a10, a11])), (xj, .inl (cJ, 6, .inr (.inr (.inr (.inr jr))))), (xn, .inr (1, [.int (nI yr), .int ea, .int lo, .int jo, .int ta, .ref ns, .ref ne, .ref n7, .ref n8])), (ns, .inl (cI, 6, .inl sp)), (ne, .inl (cI, 6, .inl en)), (n7, .inl (cI, 6, .inl tY)), (n8, .inl (cI, 6, .inl tW))]) [0, 1, 2, 3, 4, 5, 6] rfl
      have hDc_31 := hD.sub (ws' := [(x, .inr (6, [a0, a1, .ref xj, .int (nI n), .ref xn, a5, a6, a7, a8, a9, a10, a11])), (xj, .inl (cJ, 6, .inr (.inr (.inr (.inr jr))))), (xn, .inr (1, [.int (nI yr), .int ea, .int lo, .int jo, .int ta, .ref ns, .ref ne, .ref n7, .ref n8])), (ns, .inl (cI, 6, .inl sp)), (ne, .inl (cI, 6, .inl en)), (n7, .inl (cI, 6, .inl tY)), (n8, .inl (cI, 6, .inl tW))]) [0, 1, 2, 3, 4, 5, 6] (by decide) rfl
      have hFc_32 := va_free (wc := [(x, .inr (6, [a0, a1, .ref xj, .int (nI n), .ref xn, a5, a6, a7, a8, a9, a10, a11])), (xj, .inl (cJ, 6, .inr (.inr (.inr (.inr jr))))), (xn, .inr (1, [.int (nI yr), .int ea, .int lo, .int jo, .int ta, .ref ns, .ref ne, .ref n7, .ref n8])), (ns, .inl (cI, 6, .inl sp)), (ne, .inl (cI, 6, .inl en)), (n7, .inl (cI, 6, .inl tY)), (n8, .inl (cI, 6, .inl tW))]) hD hS hA [0, 1, 2, 3, 4, 5, 6] rfl
      refine jcallWi (post := fun r H => r = fw j (nI yr) - en j + 100 ∧ va_P D vwCl [(x, .inr (6, [a0, a1, .ref xj, .int (nI n), .ref xn, a5, a6, a7, a8, a9, a10, a11])), (xj, .inl (cJ, 6, .inr (.inr (.inr (.inr jr))))), (xn, .inr (1, [.int (nI yr), .int (ea + 1), .int lo, .int (jo + (fw j (nI yr) - en j)), .int ta, .ref ns, .ref ne, .ref n7, .ref n8])), (ns, .inl (cI, 6, .inl (upd sp j (sp j - 1)))), (ne, .inl (cI, 6, .inl (upd en j (en j + 1)))), (n7, .inl (cI, 6, .inl tY)), (n8, .inl (cI, 6, .inl tW))] H) (va_runV (As := [.int (nI j)]) (rest := []) ⟨hx, hb, hml, hown, hts⟩ (c_eat_ok l D cI cJ x xj xn ns ne n7 n8 n a0 a1 a5 a6 a7 a8 a9 a10 a11 jr jk jg js jm fw (nI yr) ea lo jo ta sp en tY tW j hj hn6 hfw h0 H.size) (cwV 1 hts gL_does_X6_eat rfl rfl rfl (by decide +kernel) ⟨Nat.le_of_ble_eq_true rfl, Nat.le_of_ble_eq_true rfl⟩) (jpreV hT (va_recv hK hP (ci := 6) (q0 := 0) rfl rfl) ⟨hPc_30, hDc_31.weaken (fun _ _ _ _ => trivial), hJ⟩) rfl rfl hl.1 rfl (lv_room (Nat.le_of_ble_eq_true rfl)) dL_does_62 ⟨(Nat.zero_le _), (Nat.zero_le _)⟩) hS hFc_32 (fun r_33 H locs hw_r_33 hz hkq hS => ?_)
      obtain ⟨hr9, hP1⟩ := hw_r_33
      obtain ⟨hP, hD⟩ := jjoin (wc := [(x, .inr (6, [a0, a1, .ref xj, .int (nI n), .ref xn, a5, a6, a7, a8, a9, a10, a11])), (xj, .inl (cJ, 6, .inr (.inr (.inr (.inr jr))))), (xn, .inr (1, [.int (nI yr), .int ea, .int lo, .int jo, .int ta, .ref ns, .ref ne, .ref n7, .ref n8])), (ns, .inl (cI, 6, .inl sp)), (ne, .inl (cI, 6, .inl en)), (n7, .inl (cI, 6, .inl tY)), (n8, .inl (cI, 6, .inl tW))]) (wr := [(bb, .inl (cI, 19, .inl Bv)), (dd, .inl (cI, 16, .inl (jdd (upd sp j (sp j - 1)) (upd en j (en j + 1)) (nI yr) (jo + (fw j (nI yr) - en j)) (ea + 1) lo)))]) (w1 := [(x, .inr (6, [a0, a1, .ref xj, .int (nI n), .ref xn, a5, a6, a7, a8, a9, a10, a11])), (xj, .inl (cJ, 6, .inr (.inr (.inr (.inr jr))))), (xn, .inr (1, [.int (nI yr), .int (ea + 1), .int lo, .int (jo + (fw j (nI yr) - en j)), .int ta, .ref ns, .ref ne, .ref n7, .ref n8])), (ns, .inl (cI, 6, .inl (upd sp j (sp j - 1)))), (ne, .inl (cI, 6, .inl (upd en j (en j + 1)))), (n7, .inl (cI, 6, .inl tY)), (n8, .inl (cI, 6, .inl tW))]) (ws' := [(x, .inr (6, [a0, a1, .ref xj, .int (nI n), .ref xn, a5, a6, a7, a8, a9, a10, a11])), (xj, .inl (cJ, 6, .inr (.inr (.inr (.inr jr))))), (xn, .inr (1, [.int (nI yr), .int (ea + 1), .int lo, .int (jo + (fw j (nI yr) - en j)), .int ta, .ref ns, .ref ne, .ref n7, .ref n8])), (ns, .inl (cI, 6, .inl (upd sp j (sp j - 1)))), (ne, .inl (cI, 6, .inl (upd en j (en j + 1)))), (n7, .inl (cI, 6, .inl tY)), (n8, .inl (cI, 6, .inl tW)), (bb, .inl (cI, 19, .inl Bv)), (dd, .inl (cI, 16, .inl (jdd (upd sp j (sp j - 1)) (upd en j (en j + 1)) (nI yr) (jo + (fw j (nI yr) - en j)) (ea + 1) lo)))]) hP hD hFc_32 [0, 1, 2, 3, 4, 5, 6] [7, 8] [2, 3, 4, 5, 6, 7, 8, 0, 1] rfl rfl (by decide) (by decide) (by decide) (by decide) hkq hP1 rfl rfl rfl
      have hJ := hJ_0.keptA hJ_A (fun q h1 h2 => hS.2.1 q h1 h2)
      subst hr9
      refine lv_bipush (v := 100) hx hb dL_does_65 (by decide) ?_
      refine lv_iload hx hb dL_does_67 (lv_at hl 0 rfl) ?_
      refine lv_iadd hx hb dL_does_69 ?_
      refine lv_icmp_ne (tgt := 77) hx hb dL_does_70 (by decide) (fun c_34 => ?_) (fun c_34 => ?_)
      · skip
        exact absurd (Int32.add_comm _ _) c_34
      · skip
        refine lv_iconst (v := 1) hx hb dL_does_73 (by decide) ?_
        refine lv_goto (tgt := 78) hx hb dL_does_74 (by decide) ?_
        exact W.zret (v := 1) hx hb hr (by decide) (fun t ht hW => ⟨⟨1, 1, rfl, rfl, by dsimp only; rw [ht]; exact ⟨rfl, upd sp j (sp j - 1), upd en j (en j + 1), yr, jo + (fw j (nI yr) - en j), ea + 1, lo, (hNn.up h0), (by omega), hP⟩⟩, hS.F ht⟩) hS.2.2 dL_does_78
    · skip
      have h0 : ¬ 0 < sp j := lzn c_25
      refine lv_aload_n hx hb dL_does_33 rfl (lv_at hl 2 rfl) ?_
      refine lv_iload hx hb dL_does_34 (lv_at hl 0 rfl) ?_
      have hPc_35 := hP.sub (ws' := [(x, .inr (6, [a0, a1, .ref xj, .int (nI n), .ref xn, a5, a6, a7, a8, a9, a10, a11])), (xj, .inl (cJ, 6, .inr (.inr (.inr (.inr jr))))), (xn, .inr (1, [.int (nI yr), .int ea, .int lo, .int jo, .int ta, .ref ns, .ref ne, .ref n7, .ref n8])), (ns, .inl (cI, 6, .inl sp)), (ne, .inl (cI, 6, .inl en)), (n7, .inl (cI, 6, .inl tY)), (n8, .inl (cI, 6, .inl tW))]) [0, 1, 2, 3, 4, 5, 6] rfl
      have hDc_36 := hD.sub (ws' := [(x, .inr (6, [a0, a1, .ref xj, .int (nI n), .ref xn, a5, a6, a7, a8, a9, a10, a11])), (xj, .inl (cJ, 6, .inr (.inr (.inr (.inr jr))))), (xn, .inr (1, [.int (nI yr), .int ea, .int lo, .int jo, .int ta, .ref ns, .ref ne, .ref n7, .ref n8])), (ns, .inl (cI, 6, .inl sp)), (ne, .inl (cI, 6, .inl en)), (n7, .inl (cI, 6, .inl tY)), (n8, .inl (cI, 6, .inl tW))]) [0, 1, 2, 3, 4, 5, 6] (by decide) rfl
      have hFc_37 := va_free (wc := [(x, .inr (6, [a0, a1, .ref xj, .int (nI n), .ref xn, a5, a6, a7, a8, a9, a10, a11])), (xj, .inl (cJ, 6, .inr (.inr (.inr (.inr jr))))), (xn, .inr (1, [.int (nI yr), .int ea, .int lo, .int jo, .int ta, .ref ns, .ref ne, .ref n7, .ref n8])), (ns, .inl (cI, 6, .inl sp)), (ne, .inl (cI, 6, .inl en)), (n7, .inl (cI, 6, .inl tY)), (n8, .inl (cI, 6, .inl tW))]) hD hS hA [0, 1, 2, 3, 4, 5, 6] rfl
      refine jcallWi (post := fun r H => r = -103 ∧ va_P D vwCl [(x, .inr (6, [a0, a1, .ref xj, .int (nI n), .ref xn, a5, a6, a7, a8, a9, a10, a11])), (xj, .inl (cJ, 6, .inr (.inr (.inr (.inr jr))))), (xn, .inr (1, [.int (nI yr), .int ea, .int lo, .int jo, .int ta, .ref ns, .ref ne, .ref n7, .ref n8])), (ns, .inl (cI, 6, .inl sp)), (ne, .inl (cI, 6, .inl en)), (n7, .inl (cI, 6, .inl tY)), (n8, .inl (cI, 6, .inl tW))] H) (va_runV (As := [.int (nI j)]) (rest := []) ⟨hx, hb, hml, hown, hts⟩ (c_eat_none l D cI cJ x xj xn ns ne n7 n8 n a0 a1 a5 a6 a7 a8 a9 a10 a11 jr jk jg js jm fw (nI yr) ea lo jo ta sp en tY tW j hj hn6 hfw h0 H.size) (cwV 1 hts gL_does_X6_eat rfl rfl rfl (by decide +kernel) ⟨Nat.le_of_ble_eq_true rfl, Nat.le_of_ble_eq_true rfl⟩) (jpreV hT (va_recv hK hP (ci := 6) (q0 := 0) rfl rfl) ⟨hPc_35, hDc_36.weaken (fun _ _ _ _ => trivial), hJ⟩) rfl rfl hl.1 rfl (lv_room (Nat.le_of_ble_eq_true rfl)) dL_does_36 ⟨(Nat.zero_le _), (Nat.zero_le _)⟩) hS hFc_37 (fun r_38 H locs hw_r_38 hz hkq hS => ?_)
      obtain ⟨hr9, hP1⟩ := hw_r_38
      obtain ⟨hP, hD⟩ := jjoin (wc := [(x, .inr (6, [a0, a1, .ref xj, .int (nI n), .ref xn, a5, a6, a7, a8, a9, a10, a11])), (xj, .inl (cJ, 6, .inr (.inr (.inr (.inr jr))))), (xn, .inr (1, [.int (nI yr), .int ea, .int lo, .int jo, .int ta, .ref ns, .ref ne, .ref n7, .ref n8])), (ns, .inl (cI, 6, .inl sp)), (ne, .inl (cI, 6, .inl en)), (n7, .inl (cI, 6, .inl tY)), (n8, .inl (cI, 6, .inl tW))]) (wr := [(bb, .inl (cI, 19, .inl Bv)), (dd, .inl (cI, 16, .inl (jdd sp en (nI yr) jo ea lo)))]) (w1 := [(x, .inr (6, [a0, a1, .ref xj, .int (nI n), .ref xn, a5, a6, a7, a8, a9, a10, a11])), (xj, .inl (cJ, 6, .inr (.inr (.inr (.inr jr))))), (xn, .inr (1, [.int (nI yr), .int ea, .int lo, .int jo, .int ta, .ref ns, .ref ne, .ref n7, .ref n8])), (ns, .inl (cI, 6, .inl sp)), (ne, .inl (cI, 6, .inl en)), (n7, .inl (cI, 6, .inl tY)), (n8, .inl (cI, 6, .inl tW))]) (ws' := [(x, .inr (6, [a0, a1, .ref xj, .int (nI n), .ref xn, a5, a6, a7, a8, a9, a10, a11])), (xj, .inl (cJ, 6, .inr (.inr (.inr (.inr jr))))), (xn, .inr (1, [.int (nI yr), .int ea, .int lo, .int jo, .int ta, .ref ns, .ref ne, .ref n7, .ref n8])), (ns, .inl (cI, 6, .inl sp)), (ne, .inl (cI, 6, .inl en)), (n7, .inl (cI, 6, .inl tY)), (n8, .inl (cI, 6, .inl tW)), (bb, .inl (cI, 19, .inl Bv)), (dd, .inl (cI, 16, .inl (jdd sp en (nI yr) jo ea lo)))]) hP hD hFc_37 [0, 1, 2, 3, 4, 5, 6] [7, 8] [2, 3, 4, 5, 6, 7, 8, 0, 1] rfl rfl (by decide) (by decide) (by decide) (by decide) hkq hP1 rfl rfl rfl
      have hJ := hJ_0.keptA hJ_A (fun q h1 h2 => hS.2.1 q h1 h2)
      subst hr9
      refine lv_bipush (v := (-103)) hx hb dL_does_39 (by decide) ?_
      refine lv_icmp_ne (tgt := 48) hx hb dL_does_41 (by decide) (fun c_39 => ?_) (fun c_39 => ?_)
      · skip
        exact absurd c_39 (by decide)
      · skip
        refine lv_iconst (v := 1) hx hb dL_does_44 (by decide) ?_
        refine lv_goto (tgt := 49) hx hb dL_does_45 (by decide) ?_
        exact W.zret (v := 1) hx hb hr (by decide) (fun t ht hW => ⟨⟨1, 1, rfl, rfl, by dsimp only; rw [ht]; exact ⟨rfl, sp, en, yr, jo, ea, lo, hNn, (by omega), hP⟩⟩, hS.F ht⟩) hS.2.2 dL_does_49

