set_option maxHeartbeats 4000000 in
set_option maxRecDepth 100000 in
theorem cl_stands (l : Launch) (D : va_G) (cI cJ : ClassId) (x : Nat) (xj : Nat) (xn : Nat) (ns : Nat) (ne : Nat) (bb : Nat) (dd : Nat) (n : Nat) (pn : Nat) (tn : Nat) (a0 : Value) (a5 : Value) (a6 : Value) (a7 : Value) (a10 : Value) (a11 : Value) (b7 : Value) (b8 : Value) (lr : Int32) (bd : Int32) (jr : Nat → Option Nat) (jk : Nat → Nat) (jg : Nat → Int32) (js : Nat → Int32) (jm : Nat → Int32) (fw : Nat → Int32 → Int32) (Bv : Nat → Int32) (sp : Nat → Int32) (en : Nat → Int32) (y : Int32) (jo : Int32) (ea : Int32) (lo : Int32) (hB : jB n jk jg js jm Bv) (hn6 : n ≤ 6) (hfw : ∀ i : Nat, i < n → ∀ z : Int32, cfw (jk i) (jg i) (jm i) z = fw i z) : jRi l yL_stands wsL_stands ({ frames := 5, cells := 0, slots := 0, locals := 113 }) [.ref x, .ref bb, .ref dd] D cI cJ (fun H => va_P D vwCl [(x, .inr (6, [a0, .int (nI pn), .ref xj, .int (nI n), .ref xn, a5, a6, a7, .int lr, .int bd, a10, a11])), (xj, .inl (cJ, 6, .inr (.inr (.inr (.inr jr))))), (xn, .inr (1, [.int y, .int ea, .int lo, .int jo, .int (nI tn), .ref ns, .ref ne, b7, b8])), (ns, .inl (cI, 6, .inl sp)), (ne, .inl (cI, 6, .inl en)), (bb, .inl (cI, 19, .inl Bv)), (dd, .inl (cI, 16, .inl (jdd sp en y jo ea lo)))] H ∧ jJ D n jr jk jg js jm H) (fun r => r = 1) := by
  intro sz
  refine Met.ofW (cc := cL_stands) (maxL := 7) (ret := (some .boolean)) (by decide) rfl ?_
  intro p e s m args below meth c s₁ B hml hv
  obtain ⟨rfl, hsz, hT, ⟨hPr, hJ⟩⟩ := hv
  have hK := hT.1
  have hx := B.exec
  have hb := B.bytes
  have hr := B.returns
  have hts := atoms_spec (ws := wsL_stands) B.pre
  have hown : s.vm.findClass RL = some m.cls := findClass_of_methodNamed B.named
  have hlocks := B.notSynchronized
  subst hsz
  generalize hAe : va_A [] s.heap.size = A
  have hA : ∀ q : Nat, s.heap.size ≤ q → A q := fun q h => by rw [← hAe]; exact Or.inr h
  have hS : va_S A s.heap s.heap [] := va_S.rf
  have hl := lv_entry ([.ref x, .ref bb, .ref dd] : List Value) (n := 7) (Nat.le_of_ble_eq_true rfl)
  rw [lg_entry_eq]
  generalize (lg_sl ([.ref x, .ref bb, .ref dd]) ++ List.replicate (7 - (lg_sl ([.ref x, .ref bb, .ref dd])).length) Slot.unset).toArray = ls at hl ⊢
  have hl : lv_has ls 7 [(0, .ref x), (1, .ref bb), (2, .ref dd)] := hl
  refine lv_iconst (v := 0) hx hb dL_stands_0 (by decide) ?_
  refine lv_istore_n (lv' := [(3, .int 0), (0, .ref x), (1, .ref bb), (2, .ref dd)]) hx hb dL_stands_1 rfl hl (by decide) rfl (fun ls hl => ?_)
  refine lv_iconst (v := 0) hx hb dL_stands_2 (by decide) ?_
  refine lv_istore (lv' := [(4, .int 0), (3, .int 0), (0, .ref x), (1, .ref bb), (2, .ref dd)]) hx hb dL_stands_3 hl (by decide) rfl (fun ls hl => ?_)
  refine jloop (α := Nat × Int32) (fun (x9 : Nat × Int32) (H : Heap) (locs : List Loc) (ls : Array Slot) => match x9 with | (k, acc) => (va_P D vwCl [(x, .inr (6, [a0, .int (nI pn), .ref xj, .int (nI n), .ref xn, a5, a6, a7, .int lr, .int bd, a10, a11])), (xj, .inl (cJ, 6, .inr (.inr (.inr (.inr jr))))), (xn, .inr (1, [.int y, .int ea, .int lo, .int jo, .int (nI tn), .ref ns, .ref ne, b7, b8])), (ns, .inl (cI, 6, .inl sp)), (ne, .inl (cI, 6, .inl en)), (bb, .inl (cI, 19, .inl Bv)), (dd, .inl (cI, 16, .inl (jdd sp en y jo ea lo)))] H) ∧ (jJ D n jr jk jg js jm H) ∧ (va_S A s.heap H locs) ∧ (lv_has ls 7 [(0, .ref x), (1, .ref bb), (2, .ref dd), (3, .int acc), (4, .int (nI k))]) ∧ (k ≤ n) ∧ (acc = jemp sp k)) (fun (x9 : Nat × Int32) => match x9 with | (k, acc) => n - k) (fun x9 H locs ls hx9 ih_5 => ?_) (0, 0) _ _ _ ⟨hPr, hJ, hS, lv_sub hl [2, 3, 4, 1, 0] rfl, (by omega), rfl⟩
  obtain ⟨k, acc⟩ := x9
  obtain ⟨hPr, hJ, hS, hl, hk9, hac⟩ := hx9
  refine lv_iload hx hb dL_stands_5 (lv_at hl 4 rfl) ?_
  refine lv_aload_n hx hb dL_stands_7 rfl (lv_at hl 1 rfl) ?_
  refine lv_iconst (v := 0) hx hb dL_stands_8 (by decide) ?_
  refine jv_ald (k := 0) hx hb hK hPr 5 0 rfl rfl (by omega) (by decide) dL_stands_9 ?_
  refine jv_as (y := nI n) hB.1 ?_
  refine lv_icmp_ge (tgt := 234) hx hb dL_stands_10 (by decide) (fun c_1 => ?_) (fun c_1 => ?_)
  · skip
    replace c_1 : n ≤ k := (nI_leI (a := n) (b := k) (by omega) (by omega)).mp c_1
    refine lv_aload_n hx hb dL_stands_234 rfl (lv_at hl 0 rfl) ?_
    refine lv_iconst (v := 0) hx hb dL_stands_235 (by decide) ?_
    have hPc_2 := hPr.sub (ws' := [(x, .inr (6, [a0, .int (nI pn), .ref xj, .int (nI n), .ref xn, a5, a6, a7, .int lr, .int bd, a10, a11])), (xn, .inr (1, [.int y, .int ea, .int lo, .int jo, .int (nI tn), .ref ns, .ref ne, b7, b8])), (ns, .inl (cI, 6, .inl sp))]) [0, 2, 3] rfl
    refine jcalli (va_runV (As := [.int 0]) (rest := []) ⟨hx, hb, hml, hown, hts⟩ (c_count_ok l D cI cJ x xn ns n pn tn a0 (.ref xj) a5 a6 a7 a10 a11 (.ref ne) b7 b8 lr bd y ea lo jo sp 0 hn6 (by decide) H.size) (cwV 1 hts gL_stands_X6_count rfl rfl rfl (by decide +kernel) ⟨Nat.le_of_ble_eq_true rfl, Nat.le_of_ble_eq_true rfl⟩) (jpreV hT (va_recv hK hPr (ci := 6) (q0 := 0) rfl rfl) hPc_2) rfl rfl hl.1 rfl (lv_room (Nat.le_of_ble_eq_true rfl)) dL_stands_236 ⟨(Nat.zero_le _), (Nat.zero_le _)⟩) hS hA (fun rc0 H locs hw_rc0 hkq hS => ?_)
    try dsimp only at hw_rc0
    have hPr := jkeep hPr hkq
    have hJ := hJ.kept hkq
    refine lv_aload_n hx hb dL_stands_239 rfl (lv_at hl 1 rfl) ?_
    refine lv_iconst (v := 0) hx hb dL_stands_240 (by decide) ?_
    refine jv_ald (k := 0) hx hb hK hPr 5 0 rfl rfl (by omega) (by decide) dL_stands_241 ?_
    refine jv_as (y := nI n) hB.1 ?_
    refine lv_icmp_ne (tgt := 323) hx hb dL_stands_242 (by decide) (fun c_3 => ?_) (fun c_3 => ?_)
    · skip
      exact absurd hw_rc0 c_3
    · skip
      refine lv_aload_n hx hb dL_stands_245 rfl (lv_at hl 0 rfl) ?_
      refine lv_iconst (v := 1) hx hb dL_stands_246 (by decide) ?_
      have hPc_4 := hPr.sub (ws' := [(x, .inr (6, [a0, .int (nI pn), .ref xj, .int (nI n), .ref xn, a5, a6, a7, .int lr, .int bd, a10, a11])), (xn, .inr (1, [.int y, .int ea, .int lo, .int jo, .int (nI tn), .ref ns, .ref ne, b7, b8])), (ns, .inl (cI, 6, .inl sp))]) [0, 2, 3] rfl
      refine jcalli (va_runV (As := [.int 1]) (rest := []) ⟨hx, hb, hml, hown, hts⟩ (c_count_ok l D cI cJ x xn ns n pn tn a0 (.ref xj) a5 a6 a7 a10 a11 (.ref ne) b7 b8 lr bd y ea lo jo sp 1 hn6 (by decide) H.size) (cwV 1 hts gL_stands_X6_count rfl rfl rfl (by decide +kernel) ⟨Nat.le_of_ble_eq_true rfl, Nat.le_of_ble_eq_true rfl⟩) (jpreV hT (va_recv hK hPr (ci := 6) (q0 := 0) rfl rfl) hPc_4) rfl rfl hl.1 rfl (lv_room (Nat.le_of_ble_eq_true rfl)) dL_stands_247 ⟨(Nat.zero_le _), (Nat.zero_le _)⟩) hS hA (fun rc1 H locs hw_rc1 hkq hS => ?_)
      try dsimp only at hw_rc1
      have hPr := jkeep hPr hkq
      have hJ := hJ.kept hkq
      refine lv_aload_n hx hb dL_stands_250 rfl (lv_at hl 2 rfl) ?_
      refine lv_bipush (v := 12) hx hb dL_stands_251 (by decide) ?_
      refine jv_ald (k := 12) hx hb hK hPr 6 0 rfl rfl (by omega) (by decide) dL_stands_253 ?_
      refine jv_as (y := y) rfl ?_
      refine lv_icmp_ne (tgt := 323) hx hb dL_stands_254 (by decide) (fun c_5 => ?_) (fun c_5 => ?_)
      · skip
        exact absurd hw_rc1 c_5
      · skip
        refine lv_aload_n hx hb dL_stands_257 rfl (lv_at hl 0 rfl) ?_
        refine lv_iconst (v := 2) hx hb dL_stands_258 (by decide) ?_
        have hPc_6 := hPr.sub (ws' := [(x, .inr (6, [a0, .int (nI pn), .ref xj, .int (nI n), .ref xn, a5, a6, a7, .int lr, .int bd, a10, a11])), (xn, .inr (1, [.int y, .int ea, .int lo, .int jo, .int (nI tn), .ref ns, .ref ne, b7, b8])), (ns, .inl (cI, 6, .inl sp))]) [0, 2, 3] rfl
        refine jcalli (va_runV (As := [.int 2]) (rest := []) ⟨hx, hb, hml, hown, hts⟩ (c_count_ok l D cI cJ x xn ns n pn tn a0 (.ref xj) a5 a6 a7 a10 a11 (.ref ne) b7 b8 lr bd y ea lo jo sp 2 hn6 (by decide) H.size) (cwV 1 hts gL_stands_X6_count rfl rfl rfl (by decide +kernel) ⟨Nat.le_of_ble_eq_true rfl, Nat.le_of_ble_eq_true rfl⟩) (jpreV hT (va_recv hK hPr (ci := 6) (q0 := 0) rfl rfl) hPc_6) rfl rfl hl.1 rfl (lv_room (Nat.le_of_ble_eq_true rfl)) dL_stands_259 ⟨(Nat.zero_le _), (Nat.zero_le _)⟩) hS hA (fun rc2 H locs hw_rc2 hkq hS => ?_)
        try dsimp only at hw_rc2
        have hPr := jkeep hPr hkq
        have hJ := hJ.kept hkq
        refine lv_aload_n hx hb dL_stands_262 rfl (lv_at hl 2 rfl) ?_
        have hPc_7 := hPr.sub (ws' := [(dd, .inl (cI, 16, .inl (jdd sp en y jo ea lo)))]) [6] rfl
        refine jcalli (va_runS (As := [.ref dd]) (rest := [.int rc2]) ⟨hx, hb, hml, hown, hts⟩ (cl_left l D cI cJ dd sp en y jo ea lo H.size) (va_cwS 1 hts gL_stands_L_left rfl rfl rfl (by decide +kernel) ⟨Nat.le_of_ble_eq_true rfl, Nat.le_of_ble_eq_true rfl⟩) (jpreS hT hPc_7) rfl rfl hl.1 rfl (lv_room (Nat.le_of_ble_eq_true rfl)) dL_stands_263 ⟨(Nat.zero_le _), (Nat.zero_le _)⟩) hS hA (fun r_8 H locs hw_r_8 hkq hS => ?_)
        try dsimp only at hw_r_8
        have hPr := jkeep hPr hkq
        have hJ := hJ.kept hkq
        subst hw_r_8
        refine lv_icmp_ne (tgt := 323) hx hb dL_stands_266 (by decide) (fun c_9 => ?_) (fun c_9 => ?_)
        · skip
          exact absurd hw_rc2 c_9
        · skip
          refine lv_aload_n hx hb dL_stands_269 rfl (lv_at hl 0 rfl) ?_
          refine lv_iconst (v := 3) hx hb dL_stands_270 (by decide) ?_
          have hPc_10 := hPr.sub (ws' := [(x, .inr (6, [a0, .int (nI pn), .ref xj, .int (nI n), .ref xn, a5, a6, a7, .int lr, .int bd, a10, a11])), (xn, .inr (1, [.int y, .int ea, .int lo, .int jo, .int (nI tn), .ref ns, .ref ne, b7, b8])), (ns, .inl (cI, 6, .inl sp))]) [0, 2, 3] rfl
          refine jcalli (va_runV (As := [.int 3]) (rest := []) ⟨hx, hb, hml, hown, hts⟩ (c_count_ok l D cI cJ x xn ns n pn tn a0 (.ref xj) a5 a6 a7 a10 a11 (.ref ne) b7 b8 lr bd y ea lo jo sp 3 hn6 (by decide) H.size) (cwV 1 hts gL_stands_X6_count rfl rfl rfl (by decide +kernel) ⟨Nat.le_of_ble_eq_true rfl, Nat.le_of_ble_eq_true rfl⟩) (jpreV hT (va_recv hK hPr (ci := 6) (q0 := 0) rfl rfl) hPc_10) rfl rfl hl.1 rfl (lv_room (Nat.le_of_ble_eq_true rfl)) dL_stands_271 ⟨(Nat.zero_le _), (Nat.zero_le _)⟩) hS hA (fun rc3 H locs hw_rc3 hkq hS => ?_)
          try dsimp only at hw_rc3
          have hPr := jkeep hPr hkq
          have hJ := hJ.kept hkq
          refine lv_sipush (v := 2000) hx hb dL_stands_274 (by decide) ?_
          refine lv_aload_n hx hb dL_stands_277 rfl (lv_at hl 2 rfl) ?_
          refine lv_bipush (v := 13) hx hb dL_stands_278 (by decide) ?_
          refine jv_ald (k := 13) hx hb hK hPr 6 0 rfl rfl (by omega) (by decide) dL_stands_280 ?_
          refine jv_as (y := jo) rfl ?_
          refine lv_iadd hx hb dL_stands_281 ?_
          refine lv_icmp_ne (tgt := 323) hx hb dL_stands_282 (by decide) (fun c_11 => ?_) (fun c_11 => ?_)
          · skip
            exact absurd (hw_rc3.trans (show jo + 2000 = 2000 + jo from Int32.add_comm _ _)) c_11
          · skip
            refine lv_aload_n hx hb dL_stands_285 rfl (lv_at hl 0 rfl) ?_
            refine lv_iconst (v := 4) hx hb dL_stands_286 (by decide) ?_
            have hPc_12 := hPr.sub (ws' := [(x, .inr (6, [a0, .int (nI pn), .ref xj, .int (nI n), .ref xn, a5, a6, a7, .int lr, .int bd, a10, a11])), (xn, .inr (1, [.int y, .int ea, .int lo, .int jo, .int (nI tn), .ref ns, .ref ne, b7, b8])), (ns, .inl (cI, 6, .inl sp))]) [0, 2, 3] rfl
            refine jcalli (va_runV (As := [.int 4]) (rest := []) ⟨hx, hb, hml, hown, hts⟩ (c_count_ok l D cI cJ x xn ns n pn tn a0 (.ref xj) a5 a6 a7 a10 a11 (.ref ne) b7 b8 lr bd y ea lo jo sp 4 hn6 (by decide) H.size) (cwV 1 hts gL_stands_X6_count rfl rfl rfl (by decide +kernel) ⟨Nat.le_of_ble_eq_true rfl, Nat.le_of_ble_eq_true rfl⟩) (jpreV hT (va_recv hK hPr (ci := 6) (q0 := 0) rfl rfl) hPc_12) rfl rfl hl.1 rfl (lv_room (Nat.le_of_ble_eq_true rfl)) dL_stands_287 ⟨(Nat.zero_le _), (Nat.zero_le _)⟩) hS hA (fun rc4 H locs hw_rc4 hkq hS => ?_)
            try dsimp only at hw_rc4
            have hPr := jkeep hPr hkq
            have hJ := hJ.kept hkq
            refine lv_iload_n hx hb dL_stands_290 rfl (lv_at hl 3 rfl) ?_
            refine lv_icmp_ne (tgt := 323) hx hb dL_stands_291 (by decide) (fun c_13 => ?_) (fun c_13 => ?_)
            · skip
              exact absurd (hw_rc4.trans (by rw [hac, show k = n by omega]; rfl)) c_13
            · skip
              refine lv_aload_n hx hb dL_stands_294 rfl (lv_at hl 0 rfl) ?_
              refine lv_iconst (v := 5) hx hb dL_stands_295 (by decide) ?_
              have hPc_14 := hPr.sub (ws' := [(x, .inr (6, [a0, .int (nI pn), .ref xj, .int (nI n), .ref xn, a5, a6, a7, .int lr, .int bd, a10, a11])), (xn, .inr (1, [.int y, .int ea, .int lo, .int jo, .int (nI tn), .ref ns, .ref ne, b7, b8])), (ns, .inl (cI, 6, .inl sp))]) [0, 2, 3] rfl
              refine jcalli (va_runV (As := [.int 5]) (rest := []) ⟨hx, hb, hml, hown, hts⟩ (c_count_ok l D cI cJ x xn ns n pn tn a0 (.ref xj) a5 a6 a7 a10 a11 (.ref ne) b7 b8 lr bd y ea lo jo sp 5 hn6 (by decide) H.size) (cwV 1 hts gL_stands_X6_count rfl rfl rfl (by decide +kernel) ⟨Nat.le_of_ble_eq_true rfl, Nat.le_of_ble_eq_true rfl⟩) (jpreV hT (va_recv hK hPr (ci := 6) (q0 := 0) rfl rfl) hPc_14) rfl rfl hl.1 rfl (lv_room (Nat.le_of_ble_eq_true rfl)) dL_stands_296 ⟨(Nat.zero_le _), (Nat.zero_le _)⟩) hS hA (fun rc5 H locs hw_rc5 hkq hS => ?_)
              try dsimp only at hw_rc5
              have hPr := jkeep hPr hkq
              have hJ := hJ.kept hkq
              refine lv_aload_n hx hb dL_stands_299 rfl (lv_at hl 2 rfl) ?_
              refine lv_bipush (v := 14) hx hb dL_stands_300 (by decide) ?_
              refine jv_ald (k := 14) hx hb hK hPr 6 0 rfl rfl (by omega) (by decide) dL_stands_302 ?_
              refine jv_as (y := ea) rfl ?_
              refine lv_icmp_ne (tgt := 323) hx hb dL_stands_303 (by decide) (fun c_15 => ?_) (fun c_15 => ?_)
              · skip
                exact absurd hw_rc5 c_15
              · skip
                refine lv_aload_n hx hb dL_stands_306 rfl (lv_at hl 0 rfl) ?_
                refine lv_bipush (v := 6) hx hb dL_stands_307 (by decide) ?_
                have hPc_16 := hPr.sub (ws' := [(x, .inr (6, [a0, .int (nI pn), .ref xj, .int (nI n), .ref xn, a5, a6, a7, .int lr, .int bd, a10, a11])), (xn, .inr (1, [.int y, .int ea, .int lo, .int jo, .int (nI tn), .ref ns, .ref ne, b7, b8])), (ns, .inl (cI, 6, .inl sp))]) [0, 2, 3] rfl
                refine jcalli (va_runV (As := [.int 6]) (rest := []) ⟨hx, hb, hml, hown, hts⟩ (c_count_ok l D cI cJ x xn ns n pn tn a0 (.ref xj) a5 a6 a7 a10 a11 (.ref ne) b7 b8 lr bd y ea lo jo sp 6 hn6 (by decide) H.size) (cwV 1 hts gL_stands_X6_count rfl rfl rfl (by decide +kernel) ⟨Nat.le_of_ble_eq_true rfl, Nat.le_of_ble_eq_true rfl⟩) (jpreV hT (va_recv hK hPr (ci := 6) (q0 := 0) rfl rfl) hPc_16) rfl rfl hl.1 rfl (lv_room (Nat.le_of_ble_eq_true rfl)) dL_stands_309 ⟨(Nat.zero_le _), (Nat.zero_le _)⟩) hS hA (fun rc6 H locs hw_rc6 hkq hS => ?_)
                try dsimp only at hw_rc6
                have hPr := jkeep hPr hkq
                have hJ := hJ.kept hkq
                refine lv_aload_n hx hb dL_stands_312 rfl (lv_at hl 2 rfl) ?_
                refine lv_bipush (v := 15) hx hb dL_stands_313 (by decide) ?_
                refine jv_ald (k := 15) hx hb hK hPr 6 0 rfl rfl (by omega) (by decide) dL_stands_315 ?_
                refine jv_as (y := lo) rfl ?_
                refine lv_icmp_ne (tgt := 323) hx hb dL_stands_316 (by decide) (fun c_17 => ?_) (fun c_17 => ?_)
                · skip
                  exact absurd hw_rc6 c_17
                · skip
                  refine lv_iconst (v := 1) hx hb dL_stands_319 (by decide) ?_
                  refine lv_goto (tgt := 324) hx hb dL_stands_320 (by decide) ?_
                  exact W.zret (v := 1) hx hb hr (by decide) (fun t ht hW => ⟨⟨1, (), rfl, rfl, trivial⟩, hS.F ht⟩) hS.2.2 dL_stands_324
  · skip
    replace c_1 : ¬ n ≤ k := fun h => c_1 ((nI_leI (a := n) (b := k) (by omega) (by omega)).mpr h)
    refine lv_bipush (v := 9) hx hb dL_stands_13 (by decide) ?_
    refine lv_istore (lv' := [(5, .int 9), (0, .ref x), (1, .ref bb), (2, .ref dd), (3, .int acc), (4, .int (nI k))]) hx hb dL_stands_15 hl (by decide) rfl (fun ls hl => ?_)
    refine lv_bipush (v := 8) hx hb dL_stands_17 (by decide) ?_
    refine lv_istore (lv' := [(6, .int 8), (5, .int 9), (0, .ref x), (1, .ref bb), (2, .ref dd), (3, .int acc), (4, .int (nI k))]) hx hb dL_stands_19 hl (by decide) rfl (fun ls hl => ?_)
    refine jloop (α := Nat × Nat) (fun (x9 : Nat × Nat) (H : Heap) (locs : List Loc) (ls : Array Slot) => match x9 with | (kk, w) => (va_P D vwCl [(x, .inr (6, [a0, .int (nI pn), .ref xj, .int (nI n), .ref xn, a5, a6, a7, .int lr, .int bd, a10, a11])), (xj, .inl (cJ, 6, .inr (.inr (.inr (.inr jr))))), (xn, .inr (1, [.int y, .int ea, .int lo, .int jo, .int (nI tn), .ref ns, .ref ne, b7, b8])), (ns, .inl (cI, 6, .inl sp)), (ne, .inl (cI, 6, .inl en)), (bb, .inl (cI, 19, .inl Bv)), (dd, .inl (cI, 16, .inl (jdd sp en y jo ea lo)))] H) ∧ (jJ D n jr jk jg js jm H) ∧ (va_S A s.heap H locs) ∧ (lv_has ls 7 [(0, .ref x), (1, .ref bb), (2, .ref dd), (3, .int acc), (4, .int (nI k)), (5, .int (nI w)), (6, .int (nI kk + (-1)))]) ∧ (kk ≤ 9) ∧ (lWn (fun i => fw k (y + nI i)) kk w)) (fun (x9 : Nat × Nat) => match x9 with | (kk, w) => kk) (fun x9 H locs ls hx9 ih_21 => ?_) (9, 9) _ _ _ ⟨hPr, hJ, hS, lv_sub hl [2, 3, 4, 5, 6, 1, 0] rfl, (by omega), (lWn_0 _)⟩
    obtain ⟨kk, w⟩ := x9
    obtain ⟨hPr, hJ, hS, hl, hkk, hw⟩ := hx9
    rcases kk with _ | kk
    · skip
      have hl : lv_has ls 7 [(0, .ref x), (1, .ref bb), (2, .ref dd), (3, .int acc), (4, .int (nI k)), (5, .int (nI w)), (6, .int (-1))] := hl
      refine lv_iload hx hb dL_stands_21 (lv_at hl 6 rfl) ?_
      refine lv_if_lt (tgt := 65) hx hb dL_stands_23 (by decide) (fun c_18 => ?_) (fun c_18 => ?_)
      · skip
        obtain ⟨kq, gq, sq, hk5, hg9, hs9, z1, z7, z13, ek, eg, es, em⟩ := hB.2 k (by omega)
        have hkn : Bv (1 + k) = ckn (jk k) := by rw [z1, ek, lkn kq hk5]
        refine lv_aload_n hx hb dL_stands_65 rfl (lv_at hl 0 rfl) ?_
        refine lv_iload hx hb dL_stands_66 (lv_at hl 4 rfl) ?_
        refine lv_iconst (v := 0) hx hb dL_stands_68 (by decide) ?_
        have hPc_19 := hPr.sub (ws' := [(x, .inr (6, [a0, .int (nI pn), .ref xj, .int (nI n), .ref xn, a5, a6, a7, .int lr, .int bd, a10, a11])), (xj, .inl (cJ, 6, .inr (.inr (.inr (.inr jr))))), (xn, .inr (1, [.int y, .int ea, .int lo, .int jo, .int (nI tn), .ref ns, .ref ne, b7, b8])), (ns, .inl (cI, 6, .inl sp)), (ne, .inl (cI, 6, .inl en))]) [0, 1, 2, 3, 4] rfl
        refine jcalli (va_runV (As := [.int (nI k), .int 0]) (rest := []) ⟨hx, hb, hml, hown, hts⟩ (c_jar_ok l D cI cJ x xj xn ns ne n a0 (.int (nI pn)) a5 a6 a7 (.int lr) (.int bd) a10 a11 (.int ea) (.int lo) (.int jo) (.int (nI tn)) b7 b8 jr jk jg js jm fw sp en y k 0 (by omega) hn6 hfw (by decide) H.size) (cwV 2 hts gL_stands_X6_jar rfl rfl rfl (by decide +kernel) ⟨Nat.le_of_ble_eq_true rfl, Nat.le_of_ble_eq_true rfl⟩) (jpreV hT (va_recv hK hPr (ci := 6) (q0 := 0) rfl rfl) ⟨hPc_19, hJ⟩) rfl rfl hl.1 rfl (lv_room (Nat.le_of_ble_eq_true rfl)) dL_stands_69 ⟨(Nat.zero_le _), (Nat.zero_le _)⟩) hS hA (fun r_20 H locs hw_r_20 hkq hS => ?_)
        try dsimp only at hw_r_20
        have hPr := jkeep hPr hkq
        have hJ := hJ.kept hkq
        subst hw_r_20
        refine lv_aload_n hx hb dL_stands_72 rfl (lv_at hl 1 rfl) ?_
        refine lv_iconst (v := 1) hx hb dL_stands_73 (by decide) ?_
        refine lv_iload hx hb dL_stands_74 (lv_at hl 4 rfl) ?_
        refine lv_iadd hx hb dL_stands_76 ?_
        refine jv_as (y := nI (1 + k)) (nI_add 1 k) ?_
        refine jv_ald (k := 1 + k) hx hb hK hPr 5 0 rfl rfl (by omega) (by decide) dL_stands_77 ?_
        refine jv_as (y := ckn (jk k)) hkn ?_
        refine lv_icmp_ne (tgt := 211) hx hb dL_stands_78 (by decide) (fun c_21 => ?_) (fun c_21 => ?_)
        · skip
          exact absurd rfl c_21
        · skip
          refine lv_aload_n hx hb dL_stands_81 rfl (lv_at hl 0 rfl) ?_
          refine lv_iload hx hb dL_stands_82 (lv_at hl 4 rfl) ?_
          refine lv_iconst (v := 1) hx hb dL_stands_84 (by decide) ?_
          have hPc_22 := hPr.sub (ws' := [(x, .inr (6, [a0, .int (nI pn), .ref xj, .int (nI n), .ref xn, a5, a6, a7, .int lr, .int bd, a10, a11])), (xj, .inl (cJ, 6, .inr (.inr (.inr (.inr jr))))), (xn, .inr (1, [.int y, .int ea, .int lo, .int jo, .int (nI tn), .ref ns, .ref ne, b7, b8])), (ns, .inl (cI, 6, .inl sp)), (ne, .inl (cI, 6, .inl en))]) [0, 1, 2, 3, 4] rfl
          refine jcalli (va_runV (As := [.int (nI k), .int 1]) (rest := []) ⟨hx, hb, hml, hown, hts⟩ (c_jar_ok l D cI cJ x xj xn ns ne n a0 (.int (nI pn)) a5 a6 a7 (.int lr) (.int bd) a10 a11 (.int ea) (.int lo) (.int jo) (.int (nI tn)) b7 b8 jr jk jg js jm fw sp en y k 1 (by omega) hn6 hfw (by decide) H.size) (cwV 2 hts gL_stands_X6_jar rfl rfl rfl (by decide +kernel) ⟨Nat.le_of_ble_eq_true rfl, Nat.le_of_ble_eq_true rfl⟩) (jpreV hT (va_recv hK hPr (ci := 6) (q0 := 0) rfl rfl) ⟨hPc_22, hJ⟩) rfl rfl hl.1 rfl (lv_room (Nat.le_of_ble_eq_true rfl)) dL_stands_85 ⟨(Nat.zero_le _), (Nat.zero_le _)⟩) hS hA (fun r_23 H locs hw_r_23 hkq hS => ?_)
          try dsimp only at hw_r_23
          have hPr := jkeep hPr hkq
          have hJ := hJ.kept hkq
          subst hw_r_23
          refine lv_aload_n hx hb dL_stands_88 rfl (lv_at hl 1 rfl) ?_
          refine lv_bipush (v := 7) hx hb dL_stands_89 (by decide) ?_
          refine lv_iload hx hb dL_stands_91 (lv_at hl 4 rfl) ?_
          refine lv_iadd hx hb dL_stands_93 ?_
          refine jv_as (y := nI (7 + k)) (nI_add 7 k) ?_
          refine jv_ald (k := 7 + k) hx hb hK hPr 5 0 rfl rfl (by omega) (by decide) dL_stands_94 ?_
          refine jv_as (y := jg k) (z7.trans eg.symm) ?_
          refine lv_icmp_ne (tgt := 211) hx hb dL_stands_95 (by decide) (fun c_24 => ?_) (fun c_24 => ?_)
          · skip
            exact absurd rfl c_24
          · skip
            refine lv_aload_n hx hb dL_stands_98 rfl (lv_at hl 0 rfl) ?_
            refine lv_iload hx hb dL_stands_99 (lv_at hl 4 rfl) ?_
            refine lv_iconst (v := 2) hx hb dL_stands_101 (by decide) ?_
            have hPc_25 := hPr.sub (ws' := [(x, .inr (6, [a0, .int (nI pn), .ref xj, .int (nI n), .ref xn, a5, a6, a7, .int lr, .int bd, a10, a11])), (xj, .inl (cJ, 6, .inr (.inr (.inr (.inr jr))))), (xn, .inr (1, [.int y, .int ea, .int lo, .int jo, .int (nI tn), .ref ns, .ref ne, b7, b8])), (ns, .inl (cI, 6, .inl sp)), (ne, .inl (cI, 6, .inl en))]) [0, 1, 2, 3, 4] rfl
            refine jcalli (va_runV (As := [.int (nI k), .int 2]) (rest := []) ⟨hx, hb, hml, hown, hts⟩ (c_jar_ok l D cI cJ x xj xn ns ne n a0 (.int (nI pn)) a5 a6 a7 (.int lr) (.int bd) a10 a11 (.int ea) (.int lo) (.int jo) (.int (nI tn)) b7 b8 jr jk jg js jm fw sp en y k 2 (by omega) hn6 hfw (by decide) H.size) (cwV 2 hts gL_stands_X6_jar rfl rfl rfl (by decide +kernel) ⟨Nat.le_of_ble_eq_true rfl, Nat.le_of_ble_eq_true rfl⟩) (jpreV hT (va_recv hK hPr (ci := 6) (q0 := 0) rfl rfl) ⟨hPc_25, hJ⟩) rfl rfl hl.1 rfl (lv_room (Nat.le_of_ble_eq_true rfl)) dL_stands_102 ⟨(Nat.zero_le _), (Nat.zero_le _)⟩) hS hA (fun r_26 H locs hw_r_26 hkq hS => ?_)
            try dsimp only at hw_r_26
            have hPr := jkeep hPr hkq
            have hJ := hJ.kept hkq
            subst hw_r_26
            refine lv_aload_n hx hb dL_stands_105 rfl (lv_at hl 1 rfl) ?_
            refine lv_bipush (v := 13) hx hb dL_stands_106 (by decide) ?_
            refine lv_iload hx hb dL_stands_108 (lv_at hl 4 rfl) ?_
            refine lv_iadd hx hb dL_stands_110 ?_
            refine jv_as (y := nI (13 + k)) (nI_add 13 k) ?_
            refine jv_ald (k := 13 + k) hx hb hK hPr 5 0 rfl rfl (by omega) (by decide) dL_stands_111 ?_
            refine jv_as (y := js k) (z13.trans es.symm) ?_
            refine lv_icmp_ne (tgt := 211) hx hb dL_stands_112 (by decide) (fun c_27 => ?_) (fun c_27 => ?_)
            · skip
              exact absurd rfl c_27
            · skip
              refine lv_aload_n hx hb dL_stands_115 rfl (lv_at hl 0 rfl) ?_
              refine lv_iload hx hb dL_stands_116 (lv_at hl 4 rfl) ?_
              refine lv_iconst (v := 3) hx hb dL_stands_118 (by decide) ?_
              have hPc_28 := hPr.sub (ws' := [(x, .inr (6, [a0, .int (nI pn), .ref xj, .int (nI n), .ref xn, a5, a6, a7, .int lr, .int bd, a10, a11])), (xj, .inl (cJ, 6, .inr (.inr (.inr (.inr jr))))), (xn, .inr (1, [.int y, .int ea, .int lo, .int jo, .int (nI tn), .ref ns, .ref ne, b7, b8])), (ns, .inl (cI, 6, .inl sp)), (ne, .inl (cI, 6, .inl en))]) [0, 1, 2, 3, 4] rfl
              refine jcalli (va_runV (As := [.int (nI k), .int 3]) (rest := []) ⟨hx, hb, hml, hown, hts⟩ (c_jar_ok l D cI cJ x xj xn ns ne n a0 (.int (nI pn)) a5 a6 a7 (.int lr) (.int bd) a10 a11 (.int ea) (.int lo) (.int jo) (.int (nI tn)) b7 b8 jr jk jg js jm fw sp en y k 3 (by omega) hn6 hfw (by decide) H.size) (cwV 2 hts gL_stands_X6_jar rfl rfl rfl (by decide +kernel) ⟨Nat.le_of_ble_eq_true rfl, Nat.le_of_ble_eq_true rfl⟩) (jpreV hT (va_recv hK hPr (ci := 6) (q0 := 0) rfl rfl) ⟨hPc_28, hJ⟩) rfl rfl hl.1 rfl (lv_room (Nat.le_of_ble_eq_true rfl)) dL_stands_119 ⟨(Nat.zero_le _), (Nat.zero_le _)⟩) hS hA (fun r_29 H locs hw_r_29 hkq hS => ?_)
              try dsimp only at hw_r_29
              have hPr := jkeep hPr hkq
              have hJ := hJ.kept hkq
              subst hw_r_29
              refine lv_aload_n hx hb dL_stands_122 rfl (lv_at hl 2 rfl) ?_
              refine lv_iload hx hb dL_stands_123 (lv_at hl 4 rfl) ?_
              refine jv_ald (k := k) hx hb hK hPr 6 0 rfl rfl (by omega) (by decide) dL_stands_125 ?_
              refine jv_as (y := sp k) (jdd_s (by omega)) ?_
              refine lv_icmp_ne (tgt := 211) hx hb dL_stands_126 (by decide) (fun c_30 => ?_) (fun c_30 => ?_)
              · skip
                exact absurd rfl c_30
              · skip
                refine lv_aload_n hx hb dL_stands_129 rfl (lv_at hl 0 rfl) ?_
                refine lv_iload hx hb dL_stands_130 (lv_at hl 4 rfl) ?_
                refine lv_iconst (v := 4) hx hb dL_stands_132 (by decide) ?_
                have hPc_31 := hPr.sub (ws' := [(x, .inr (6, [a0, .int (nI pn), .ref xj, .int (nI n), .ref xn, a5, a6, a7, .int lr, .int bd, a10, a11])), (xj, .inl (cJ, 6, .inr (.inr (.inr (.inr jr))))), (xn, .inr (1, [.int y, .int ea, .int lo, .int jo, .int (nI tn), .ref ns, .ref ne, b7, b8])), (ns, .inl (cI, 6, .inl sp)), (ne, .inl (cI, 6, .inl en))]) [0, 1, 2, 3, 4] rfl
                refine jcalli (va_runV (As := [.int (nI k), .int 4]) (rest := []) ⟨hx, hb, hml, hown, hts⟩ (c_jar_ok l D cI cJ x xj xn ns ne n a0 (.int (nI pn)) a5 a6 a7 (.int lr) (.int bd) a10 a11 (.int ea) (.int lo) (.int jo) (.int (nI tn)) b7 b8 jr jk jg js jm fw sp en y k 4 (by omega) hn6 hfw (by decide) H.size) (cwV 2 hts gL_stands_X6_jar rfl rfl rfl (by decide +kernel) ⟨Nat.le_of_ble_eq_true rfl, Nat.le_of_ble_eq_true rfl⟩) (jpreV hT (va_recv hK hPr (ci := 6) (q0 := 0) rfl rfl) ⟨hPc_31, hJ⟩) rfl rfl hl.1 rfl (lv_room (Nat.le_of_ble_eq_true rfl)) dL_stands_133 ⟨(Nat.zero_le _), (Nat.zero_le _)⟩) hS hA (fun r_32 H locs hw_r_32 hkq hS => ?_)
                try dsimp only at hw_r_32
                have hPr := jkeep hPr hkq
                have hJ := hJ.kept hkq
                subst hw_r_32
                refine lv_aload_n hx hb dL_stands_136 rfl (lv_at hl 1 rfl) ?_
                refine lv_iload hx hb dL_stands_137 (lv_at hl 4 rfl) ?_
                refine lv_aload_n hx hb dL_stands_139 rfl (lv_at hl 2 rfl) ?_
                refine lv_bipush (v := 12) hx hb dL_stands_140 (by decide) ?_
                refine jv_ald (k := 12) hx hb hK hPr 6 0 rfl rfl (by omega) (by decide) dL_stands_142 ?_
                refine jv_as (y := y) rfl ?_
                have hPc_33 := hPr.sub (ws' := [(bb, .inl (cI, 19, .inl Bv))]) [5] rfl
                refine jcalli (va_runS (As := [.ref bb, .int (nI k), .int y]) (rest := [.int (jtl (ckn (jk k)) (jg k) (js k) (sp k) (jmo (jm k) y) (fw k y - en k + 100) (en k) (nI (jyb (fun i => fw k (y + nI i)) 10)) 4)]) ⟨hx, hb, hml, hown, hts⟩ (cl_mould l D cI cJ bb n jk jg js jm Bv k y hB (by omega) hn6 H.size) (va_cwS 3 hts gL_stands_L_mould rfl rfl rfl (by decide +kernel) ⟨Nat.le_of_ble_eq_true rfl, Nat.le_of_ble_eq_true rfl⟩) (jpreS hT hPc_33) rfl rfl hl.1 rfl (lv_room (Nat.le_of_ble_eq_true rfl)) dL_stands_143 ⟨(Nat.zero_le _), (Nat.zero_le _)⟩) hS hA (fun r_34 H locs hw_r_34 hkq hS => ?_)
                try dsimp only at hw_r_34
                have hPr := jkeep hPr hkq
                have hJ := hJ.kept hkq
                subst hw_r_34
                refine lv_icmp_ne (tgt := 211) hx hb dL_stands_146 (by decide) (fun c_35 => ?_) (fun c_35 => ?_)
                · skip
                  exact absurd rfl c_35
                · skip
                  refine lv_aload_n hx hb dL_stands_149 rfl (lv_at hl 0 rfl) ?_
                  refine lv_iload hx hb dL_stands_150 (lv_at hl 4 rfl) ?_
                  refine lv_iconst (v := 5) hx hb dL_stands_152 (by decide) ?_
                  have hPc_36 := hPr.sub (ws' := [(x, .inr (6, [a0, .int (nI pn), .ref xj, .int (nI n), .ref xn, a5, a6, a7, .int lr, .int bd, a10, a11])), (xj, .inl (cJ, 6, .inr (.inr (.inr (.inr jr))))), (xn, .inr (1, [.int y, .int ea, .int lo, .int jo, .int (nI tn), .ref ns, .ref ne, b7, b8])), (ns, .inl (cI, 6, .inl sp)), (ne, .inl (cI, 6, .inl en))]) [0, 1, 2, 3, 4] rfl
                  refine jcalli (va_runV (As := [.int (nI k), .int 5]) (rest := []) ⟨hx, hb, hml, hown, hts⟩ (c_jar_ok l D cI cJ x xj xn ns ne n a0 (.int (nI pn)) a5 a6 a7 (.int lr) (.int bd) a10 a11 (.int ea) (.int lo) (.int jo) (.int (nI tn)) b7 b8 jr jk jg js jm fw sp en y k 5 (by omega) hn6 hfw (by decide) H.size) (cwV 2 hts gL_stands_X6_jar rfl rfl rfl (by decide +kernel) ⟨Nat.le_of_ble_eq_true rfl, Nat.le_of_ble_eq_true rfl⟩) (jpreV hT (va_recv hK hPr (ci := 6) (q0 := 0) rfl rfl) ⟨hPc_36, hJ⟩) rfl rfl hl.1 rfl (lv_room (Nat.le_of_ble_eq_true rfl)) dL_stands_153 ⟨(Nat.zero_le _), (Nat.zero_le _)⟩) hS hA (fun r_37 H locs hw_r_37 hkq hS => ?_)
                  try dsimp only at hw_r_37
                  have hPr := jkeep hPr hkq
                  have hJ := hJ.kept hkq
                  subst hw_r_37
                  refine lv_bipush (v := 100) hx hb dL_stands_156 (by decide) ?_
                  refine lv_aload_n hx hb dL_stands_158 rfl (lv_at hl 1 rfl) ?_
                  refine lv_iload hx hb dL_stands_159 (lv_at hl 4 rfl) ?_
                  refine lv_aload_n hx hb dL_stands_161 rfl (lv_at hl 2 rfl) ?_
                  refine lv_bipush (v := 12) hx hb dL_stands_162 (by decide) ?_
                  refine jv_ald (k := 12) hx hb hK hPr 6 0 rfl rfl (by omega) (by decide) dL_stands_164 ?_
                  refine jv_as (y := y) rfl ?_
                  have hPc_38 := hPr.sub (ws' := [(bb, .inl (cI, 19, .inl Bv))]) [5] rfl
                  refine jcalli (va_runS (As := [.ref bb, .int (nI k), .int y]) (rest := [.int 100, .int (jtl (ckn (jk k)) (jg k) (js k) (sp k) (jmo (jm k) y) (fw k y - en k + 100) (en k) (nI (jyb (fun i => fw k (y + nI i)) 10)) 5)]) ⟨hx, hb, hml, hown, hts⟩ (cl_worth l D cI cJ bb n jk jg js jm Bv k fw y hB (by omega) hn6 hfw H.size) (va_cwS 3 hts gL_stands_L_worth rfl rfl rfl (by decide +kernel) ⟨Nat.le_of_ble_eq_true rfl, Nat.le_of_ble_eq_true rfl⟩) (jpreS hT hPc_38) rfl rfl hl.1 rfl (lv_room (Nat.le_of_ble_eq_true rfl)) dL_stands_165 ⟨(Nat.zero_le _), (Nat.zero_le _)⟩) hS hA (fun r_39 H locs hw_r_39 hkq hS => ?_)
                  try dsimp only at hw_r_39
                  have hPr := jkeep hPr hkq
                  have hJ := hJ.kept hkq
                  subst hw_r_39
                  refine lv_iadd hx hb dL_stands_168 ?_
                  refine lv_aload_n hx hb dL_stands_169 rfl (lv_at hl 2 rfl) ?_
                  refine lv_bipush (v := 6) hx hb dL_stands_170 (by decide) ?_
                  refine lv_iload hx hb dL_stands_172 (lv_at hl 4 rfl) ?_
                  refine lv_iadd hx hb dL_stands_174 ?_
                  refine jv_as (y := nI (6 + k)) (nI_add 6 k) ?_
                  refine jv_ald (k := 6 + k) hx hb hK hPr 6 0 rfl rfl (by omega) (by decide) dL_stands_175 ?_
                  refine jv_as (y := en k) (jdd_e (by omega)) ?_
                  refine lv_isub hx hb dL_stands_176 ?_
                  refine lv_icmp_ne (tgt := 211) hx hb dL_stands_177 (by decide) (fun c_40 => ?_) (fun c_40 => ?_)
                  · skip
                    exact absurd (lnx _ _) c_40
                  · skip
                    refine lv_aload_n hx hb dL_stands_180 rfl (lv_at hl 0 rfl) ?_
                    refine lv_iload hx hb dL_stands_181 (lv_at hl 4 rfl) ?_
                    refine lv_bipush (v := 6) hx hb dL_stands_183 (by decide) ?_
                    have hPc_41 := hPr.sub (ws' := [(x, .inr (6, [a0, .int (nI pn), .ref xj, .int (nI n), .ref xn, a5, a6, a7, .int lr, .int bd, a10, a11])), (xj, .inl (cJ, 6, .inr (.inr (.inr (.inr jr))))), (xn, .inr (1, [.int y, .int ea, .int lo, .int jo, .int (nI tn), .ref ns, .ref ne, b7, b8])), (ns, .inl (cI, 6, .inl sp)), (ne, .inl (cI, 6, .inl en))]) [0, 1, 2, 3, 4] rfl
                    refine jcalli (va_runV (As := [.int (nI k), .int 6]) (rest := []) ⟨hx, hb, hml, hown, hts⟩ (c_jar_ok l D cI cJ x xj xn ns ne n a0 (.int (nI pn)) a5 a6 a7 (.int lr) (.int bd) a10 a11 (.int ea) (.int lo) (.int jo) (.int (nI tn)) b7 b8 jr jk jg js jm fw sp en y k 6 (by omega) hn6 hfw (by decide) H.size) (cwV 2 hts gL_stands_X6_jar rfl rfl rfl (by decide +kernel) ⟨Nat.le_of_ble_eq_true rfl, Nat.le_of_ble_eq_true rfl⟩) (jpreV hT (va_recv hK hPr (ci := 6) (q0 := 0) rfl rfl) ⟨hPc_41, hJ⟩) rfl rfl hl.1 rfl (lv_room (Nat.le_of_ble_eq_true rfl)) dL_stands_185 ⟨(Nat.zero_le _), (Nat.zero_le _)⟩) hS hA (fun r_42 H locs hw_r_42 hkq hS => ?_)
                    try dsimp only at hw_r_42
                    have hPr := jkeep hPr hkq
                    have hJ := hJ.kept hkq
                    subst hw_r_42
                    refine lv_aload_n hx hb dL_stands_188 rfl (lv_at hl 2 rfl) ?_
                    refine lv_bipush (v := 6) hx hb dL_stands_189 (by decide) ?_
                    refine lv_iload hx hb dL_stands_191 (lv_at hl 4 rfl) ?_
                    refine lv_iadd hx hb dL_stands_193 ?_
                    refine jv_as (y := nI (6 + k)) (nI_add 6 k) ?_
                    refine jv_ald (k := 6 + k) hx hb hK hPr 6 0 rfl rfl (by omega) (by decide) dL_stands_194 ?_
                    refine jv_as (y := en k) (jdd_e (by omega)) ?_
                    refine lv_icmp_ne (tgt := 211) hx hb dL_stands_195 (by decide) (fun c_43 => ?_) (fun c_43 => ?_)
                    · skip
                      exact absurd rfl c_43
                    · skip
                      refine lv_aload_n hx hb dL_stands_198 rfl (lv_at hl 0 rfl) ?_
                      refine lv_iload hx hb dL_stands_199 (lv_at hl 4 rfl) ?_
                      refine lv_bipush (v := 7) hx hb dL_stands_201 (by decide) ?_
                      have hPc_44 := hPr.sub (ws' := [(x, .inr (6, [a0, .int (nI pn), .ref xj, .int (nI n), .ref xn, a5, a6, a7, .int lr, .int bd, a10, a11])), (xj, .inl (cJ, 6, .inr (.inr (.inr (.inr jr))))), (xn, .inr (1, [.int y, .int ea, .int lo, .int jo, .int (nI tn), .ref ns, .ref ne, b7, b8])), (ns, .inl (cI, 6, .inl sp)), (ne, .inl (cI, 6, .inl en))]) [0, 1, 2, 3, 4] rfl
                      refine jcalli (va_runV (As := [.int (nI k), .int 7]) (rest := []) ⟨hx, hb, hml, hown, hts⟩ (c_jar_ok l D cI cJ x xj xn ns ne n a0 (.int (nI pn)) a5 a6 a7 (.int lr) (.int bd) a10 a11 (.int ea) (.int lo) (.int jo) (.int (nI tn)) b7 b8 jr jk jg js jm fw sp en y k 7 (by omega) hn6 hfw (by decide) H.size) (cwV 2 hts gL_stands_X6_jar rfl rfl rfl (by decide +kernel) ⟨Nat.le_of_ble_eq_true rfl, Nat.le_of_ble_eq_true rfl⟩) (jpreV hT (va_recv hK hPr (ci := 6) (q0 := 0) rfl rfl) ⟨hPc_44, hJ⟩) rfl rfl hl.1 rfl (lv_room (Nat.le_of_ble_eq_true rfl)) dL_stands_203 ⟨(Nat.zero_le _), (Nat.zero_le _)⟩) hS hA (fun r_45 H locs hw_r_45 hkq hS => ?_)
                      try dsimp only at hw_r_45
                      have hPr := jkeep hPr hkq
                      have hJ := hJ.kept hkq
                      subst hw_r_45
                      refine lv_iload hx hb dL_stands_206 (lv_at hl 5 rfl) ?_
                      refine lv_icmp_eq (tgt := 213) hx hb dL_stands_208 (by decide) (fun c_46 => ?_) (fun c_46 => ?_)
                      · skip
                        refine lv_iload_n hx hb dL_stands_213 rfl (lv_at hl 3 rfl) ?_
                        refine lv_aload_n hx hb dL_stands_214 rfl (lv_at hl 2 rfl) ?_
                        refine lv_iload hx hb dL_stands_215 (lv_at hl 4 rfl) ?_
                        refine jv_ald (k := k) hx hb hK hPr 6 0 rfl rfl (by omega) (by decide) dL_stands_217 ?_
                        refine jv_as (y := sp k) (jdd_s (by omega)) ?_
                        refine lv_if_ne (tgt := 225) hx hb dL_stands_218 (by decide) (fun c_47 => ?_) (fun c_47 => ?_)
                        · skip
                          refine lv_iconst (v := 0) hx hb dL_stands_225 (by decide) ?_
                          refine lv_iadd hx hb dL_stands_226 ?_
                          refine lv_istore_n (lv' := [(3, .int (acc + 0)), (0, .ref x), (1, .ref bb), (2, .ref dd), (4, .int (nI k)), (5, .int (nI w)), (6, .int (-1))]) hx hb dL_stands_227 rfl hl (by decide) rfl (fun ls hl => ?_)
                          refine lv_iinc (v := nI (k + 1)) (lv' := [(4, .int (nI (k + 1))), (3, .int (acc + 0)), (0, .ref x), (1, .ref bb), (2, .ref dd), (5, .int (nI w)), (6, .int (-1))]) hx hb dL_stands_228 hl (k := 4) rfl ((rfl : nI k + Int32.ofInt 1 = nI k + nI 1).trans (nI_add k 1)) (by decide) rfl (fun ls hl => ?_)
                          refine lv_goto (tgt := 5) hx hb dL_stands_231 (by decide) ?_
                          exact ih_5 (k + 1, acc + 0) _ _ _ ⟨hPr, hJ, hS, lv_sub hl [2, 3, 4, 1, 0] rfl, (by omega), (by rw [jemp, if_neg c_47, Int32.add_zero, hac])⟩ (by dsimp only; omega)
                        · skip
                          refine lv_iconst (v := 1) hx hb dL_stands_221 (by decide) ?_
                          refine lv_goto (tgt := 226) hx hb dL_stands_222 (by decide) ?_
                          refine lv_iadd hx hb dL_stands_226 ?_
                          refine lv_istore_n (lv' := [(3, .int (acc + 1)), (0, .ref x), (1, .ref bb), (2, .ref dd), (4, .int (nI k)), (5, .int (nI w)), (6, .int (-1))]) hx hb dL_stands_227 rfl hl (by decide) rfl (fun ls hl => ?_)
                          refine lv_iinc (v := nI (k + 1)) (lv' := [(4, .int (nI (k + 1))), (3, .int (acc + 1)), (0, .ref x), (1, .ref bb), (2, .ref dd), (5, .int (nI w)), (6, .int (-1))]) hx hb dL_stands_228 hl (k := 4) rfl ((rfl : nI k + Int32.ofInt 1 = nI k + nI 1).trans (nI_add k 1)) (by decide) rfl (fun ls hl => ?_)
                          refine lv_goto (tgt := 5) hx hb dL_stands_231 (by decide) ?_
                          exact ih_5 (k + 1, acc + 1) _ _ _ ⟨hPr, hJ, hS, lv_sub hl [2, 3, 4, 1, 0] rfl, (by omega), (by rw [jemp, if_pos c_47, hac])⟩ (by dsimp only; omega)
                      · skip
                        exact absurd (congrArg nI (lWn_e hw)) c_46
      · skip
        exact absurd c_18 (by decide)
    · skip
      rw [pk_m1] at hl
      have hl : lv_has ls 7 [(0, .ref x), (1, .ref bb), (2, .ref dd), (3, .int acc), (4, .int (nI k)), (5, .int (nI w)), (6, .int (nI kk))] := hl
      refine lv_iload hx hb dL_stands_21 (lv_at hl 6 rfl) ?_
      refine lv_if_lt (tgt := 65) hx hb dL_stands_23 (by decide) (fun c_48 => ?_) (fun c_48 => ?_)
      · skip
        replace c_48 : kk < 0 := (nI_ltI (a := kk) (b := 0) (by omega) (by omega)).mp c_48
        exact absurd c_48 (by omega)
      · skip
        replace c_48 : ¬ kk < 0 := fun h => c_48 ((nI_ltI (a := kk) (b := 0) (by omega) (by omega)).mpr h)
        refine lv_aload_n hx hb dL_stands_26 rfl (lv_at hl 1 rfl) ?_
        refine lv_iload hx hb dL_stands_27 (lv_at hl 4 rfl) ?_
        refine lv_aload_n hx hb dL_stands_29 rfl (lv_at hl 2 rfl) ?_
        refine lv_bipush (v := 12) hx hb dL_stands_30 (by decide) ?_
        refine jv_ald (k := 12) hx hb hK hPr 6 0 rfl rfl (by omega) (by decide) dL_stands_32 ?_
        refine jv_as (y := y) rfl ?_
        refine lv_iload hx hb dL_stands_33 (lv_at hl 6 rfl) ?_
        refine lv_iadd hx hb dL_stands_35 ?_
        have hPc_49 := hPr.sub (ws' := [(bb, .inl (cI, 19, .inl Bv))]) [5] rfl
        refine jcalli (va_runS (As := [.ref bb, .int (nI k), .int (y + (nI kk))]) (rest := []) ⟨hx, hb, hml, hown, hts⟩ (cl_worth l D cI cJ bb n jk jg js jm Bv k fw (y + (nI kk)) hB (by omega) hn6 hfw H.size) (va_cwS 3 hts gL_stands_L_worth rfl rfl rfl (by decide +kernel) ⟨Nat.le_of_ble_eq_true rfl, Nat.le_of_ble_eq_true rfl⟩) (jpreS hT hPc_49) rfl rfl hl.1 rfl (lv_room (Nat.le_of_ble_eq_true rfl)) dL_stands_36 ⟨(Nat.zero_le _), (Nat.zero_le _)⟩) hS hA (fun r_50 H locs hw_r_50 hkq hS => ?_)
        try dsimp only at hw_r_50
        have hPr := jkeep hPr hkq
        have hJ := hJ.kept hkq
        subst hw_r_50
        refine lv_aload_n hx hb dL_stands_39 rfl (lv_at hl 1 rfl) ?_
        refine lv_iload hx hb dL_stands_40 (lv_at hl 4 rfl) ?_
        refine lv_aload_n hx hb dL_stands_42 rfl (lv_at hl 2 rfl) ?_
        refine lv_bipush (v := 12) hx hb dL_stands_43 (by decide) ?_
        refine jv_ald (k := 12) hx hb hK hPr 6 0 rfl rfl (by omega) (by decide) dL_stands_45 ?_
        refine jv_as (y := y) rfl ?_
        refine lv_iload hx hb dL_stands_46 (lv_at hl 5 rfl) ?_
        refine lv_iadd hx hb dL_stands_48 ?_
        have hPc_51 := hPr.sub (ws' := [(bb, .inl (cI, 19, .inl Bv))]) [5] rfl
        refine jcalli (va_runS (As := [.ref bb, .int (nI k), .int (y + (nI w))]) (rest := [.int (fw k (y + (nI kk)))]) ⟨hx, hb, hml, hown, hts⟩ (cl_worth l D cI cJ bb n jk jg js jm Bv k fw (y + (nI w)) hB (by omega) hn6 hfw H.size) (va_cwS 3 hts gL_stands_L_worth rfl rfl rfl (by decide +kernel) ⟨Nat.le_of_ble_eq_true rfl, Nat.le_of_ble_eq_true rfl⟩) (jpreS hT hPc_51) rfl rfl hl.1 rfl (lv_room (Nat.le_of_ble_eq_true rfl)) dL_stands_49 ⟨(Nat.zero_le _), (Nat.zero_le _)⟩) hS hA (fun r_52 H locs hw_r_52 hkq hS => ?_)
        try dsimp only at hw_r_52
        have hPr := jkeep hPr hkq
        have hJ := hJ.kept hkq
        subst hw_r_52
        refine lv_icmp_lt (tgt := 59) hx hb dL_stands_52 (by decide) (fun c_53 => ?_) (fun c_53 => ?_)
        · skip
          refine lv_iinc (v := (nI kk) + (-1)) (lv' := [(6, .int ((nI kk) + (-1))), (0, .ref x), (1, .ref bb), (2, .ref dd), (3, .int acc), (4, .int (nI k)), (5, .int (nI w))]) hx hb dL_stands_59 hl (k := 6) rfl rfl (by decide) rfl (fun ls hl => ?_)
          refine lv_goto (tgt := 21) hx hb dL_stands_62 (by decide) ?_
          exact ih_21 (kk, w) _ _ _ ⟨hPr, hJ, hS, lv_sub hl [1, 2, 3, 4, 5, 6, 0] rfl, (by omega), (lWn_n hw c_53)⟩ (by dsimp only; omega)
        · skip
          refine lv_iload hx hb dL_stands_55 (lv_at hl 6 rfl) ?_
          refine lv_istore (lv' := [(5, .int (nI kk)), (0, .ref x), (1, .ref bb), (2, .ref dd), (3, .int acc), (4, .int (nI k)), (6, .int (nI kk))]) hx hb dL_stands_57 hl (by decide) rfl (fun ls hl => ?_)
          refine lv_iinc (v := (nI kk) + (-1)) (lv' := [(6, .int ((nI kk) + (-1))), (5, .int (nI kk)), (0, .ref x), (1, .ref bb), (2, .ref dd), (3, .int acc), (4, .int (nI k))]) hx hb dL_stands_59 hl (k := 6) rfl rfl (by decide) rfl (fun ls hl => ?_)
          refine lv_goto (tgt := 21) hx hb dL_stands_62 (by decide) ?_
          exact ih_21 (kk, kk) _ _ _ ⟨hPr, hJ, hS, lv_sub hl [2, 3, 4, 5, 6, 1, 0] rfl, (by omega), (lWn_y hw c_53)⟩ (by dsimp only; omega)

