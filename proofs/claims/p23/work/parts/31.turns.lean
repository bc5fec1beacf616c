set_option maxHeartbeats 20000000 in
set_option maxRecDepth 100000 in
theorem law_turns {p : Program} {e : Env} {s : State} {m : MethodId} {below : List Frame} {meth : Method} {c : Code} {b L : Nat} {xs : Nat → Int32} {D : va_G} {cI cJ : ClassId} {A : Nat → Prop} {Q : State → Prop} {H : Heap} {locs : List Loc} {ls : Array Slot} {x : Nat} {xj : Nat} {xn : Nat} {ns : Nat} {ne : Nat} {n7 : Nat} {n8 : Nat} {xw : Nat} {w5 : Nat} {w6 : Nat} {w7 : Nat} {w8 : Nat} {bb : Nat} {dd : Nat} {n : Nat} {pn : Nat} {tn : Nat} {yr : Nat} {a0 : Value} {a5 : Value} {a7 : Value} {a10 : Value} {a11 : Value} {lr : Int32} {bd : Int32} {jr : Nat → Option Nat} {jk : Nat → Nat} {jg : Nat → Int32} {js : Nat → Int32} {jm : Nat → Int32} {fw : Nat → Int32 → Int32} {ea : Int32} {lo : Int32} {jo : Int32} {sp : Nat → Int32} {en : Nat → Int32} {tY : Nat → Int32} {tW : Nat → Int32} {Bv : Nat → Int32} {uy : Int32} {uea : Int32} {ulo : Int32} {ujo : Int32} {uta : Int32} {usp : Nat → Int32} {uen : Nat → Int32} {utY : Nat → Int32} {utW : Nat → Int32} (l : Launch) (hC : jCx p s m c b L xs D cI cJ A)  (hS : va_S A s.heap H locs) (hl : lv_has ls 11 [(0, .ref b), (1, .ref x), (2, .ref bb), (3, .ref dd)]) (hP : va_P D vwCl [(x, .inr (6, [a0, .int (nI pn), .ref xj, .int (nI n), .ref xn, a5, .ref xw, a7, .int lr, .int bd, a10, a11])), (xj, .inl (cJ, 6, .inr (.inr (.inr (.inr jr))))), (xn, .inr (1, [.int (nI yr), .int ea, .int lo, .int jo, .int (nI tn), .ref ns, .ref ne, .ref n7, .ref n8])), (ns, .inl (cI, 6, .inl sp)), (ne, .inl (cI, 6, .inl en)), (n7, .inl (cI, 6, .inl tY)), (n8, .inl (cI, 6, .inl tW)), (xw, .inr (1, [.int uy, .int uea, .int ulo, .int ujo, .int uta, .ref w5, .ref w6, .ref w7, .ref w8])), (w5, .inl (cI, 6, .inl usp)), (w6, .inl (cI, 6, .inl uen)), (w7, .inl (cI, 6, .inl utY)), (w8, .inl (cI, 6, .inl utW)), (bb, .inl (cI, 19, .inl Bv)), (dd, .inl (cI, 16, .inl (jdd sp en (nI yr) jo ea lo)))] H) (hD : va_D A [(x, .inr (6, [a0, .int (nI pn), .ref xj, .int (nI n), .ref xn, a5, .ref xw, a7, .int lr, .int bd, a10, a11])), (xj, .inl (cJ, 6, .inr (.inr (.inr (.inr jr))))), (xn, .inr (1, [.int (nI yr), .int ea, .int lo, .int jo, .int (nI tn), .ref ns, .ref ne, .ref n7, .ref n8])), (ns, .inl (cI, 6, .inl sp)), (ne, .inl (cI, 6, .inl en)), (n7, .inl (cI, 6, .inl tY)), (n8, .inl (cI, 6, .inl tW)), (xw, .inr (1, [.int uy, .int uea, .int ulo, .int ujo, .int uta, .ref w5, .ref w6, .ref w7, .ref w8])), (w5, .inl (cI, 6, .inl usp)), (w6, .inl (cI, 6, .inl uen)), (w7, .inl (cI, 6, .inl utY)), (w8, .inl (cI, 6, .inl utW)), (bb, .inl (cI, 19, .inl Bv)), (dd, .inl (cI, 16, .inl (jdd sp en (nI yr) jo ea lo)))]) (hJ : jJ D n jr jk jg js jm H) (hap : ∀ i a : Nat, i < n → jr i = some a → a ∉ [x, xj, xn, ns, ne, n7, n8, xw, w5, w6, w7, w8, bb, dd]) (hB : jB n jk jg js jm Bv) (hn0 : 0 < n) (hn6 : n ≤ 6) (hfw : ∀ i : Nat, i < n → ∀ z : Int32, cfw (jk i) (jg i) (jm i) z = fw i z) (hNn : lNn sp) (hyt : yr ≤ 0)
    (kk : ∀ (H' : Heap) (locs' : List Loc) (ls' : Array Slot) (k9 n9 : Nat), va_S A s.heap H' locs' → k9 ≤ 600000 → n9 ≤ 7302250 → W p l e room_1 s m #[Value.ref b] below meth c H' locs' k9 n9 Q (F0 m 525 ls' [.int 1])) : W p l e room_1 s m #[Value.ref b] below meth c H locs 40 400 Q (F0 m 176 ls []) := by
  have hC0 := hC
  obtain ⟨hx, hb, hml, hown, htT, hX, hbl, hT, hA, hbA, hL⟩ := hC
  have hK := hT.1
  have hts : ∀ w ∈ wsL_law, w.before #[Value.ref b] s = true := fun w h => htT w (wsL_law_in w h)
  refine lv_iconst (v := 0) hx hb dL_law_176 (by decide) ?_
  refine lv_istore (lv' := [(6, .int 0), (0, .ref b), (1, .ref x), (2, .ref bb), (3, .ref dd)]) hx hb dL_law_177 hl (by decide) rfl (fun ls hl => ?_)
  refine jloopA (α := Nat × (Nat → Int32) × (Nat → Int32) × Nat × Int32 × Int32 × Int32 × Int32 × Int32 × Int32 × Int32 × Int32 × (Nat → Int32) × (Nat → Int32) × (Nat → Int32) × (Nat → Int32)) (fun (x9 : Nat × (Nat → Int32) × (Nat → Int32) × Nat × Int32 × Int32 × Int32 × Int32 × Int32 × Int32 × Int32 × Int32 × (Nat → Int32) × (Nat → Int32) × (Nat → Int32) × (Nat → Int32)) => match x9 with | (turn, sp, en, yr, jo, ea, lo, uy, uea, ulo, ujo, uta, usp, uen, utY, utW) => 40 + turn) (fun (x9 : Nat × (Nat → Int32) × (Nat → Int32) × Nat × Int32 × Int32 × Int32 × Int32 × Int32 × Int32 × Int32 × Int32 × (Nat → Int32) × (Nat → Int32) × (Nat → Int32) × (Nat → Int32)) => match x9 with | (turn, sp, en, yr, jo, ea, lo, uy, uea, ulo, ujo, uta, usp, uen, utY, utW) => 400 + 16 * turn) (fun (x9 : Nat × (Nat → Int32) × (Nat → Int32) × Nat × Int32 × Int32 × Int32 × Int32 × Int32 × Int32 × Int32 × Int32 × (Nat → Int32) × (Nat → Int32) × (Nat → Int32) × (Nat → Int32)) (H : Heap) (locs : List Loc) (ls : Array Slot) => match x9 with | (turn, sp, en, yr, jo, ea, lo, uy, uea, ulo, ujo, uta, usp, uen, utY, utW) => (va_P D vwCl [(x, .inr (6, [a0, .int (nI pn), .ref xj, .int (nI n), .ref xn, a5, .ref xw, a7, .int lr, .int bd, a10, a11])), (xj, .inl (cJ, 6, .inr (.inr (.inr (.inr jr))))), (xn, .inr (1, [.int (nI yr), .int ea, .int lo, .int jo, .int (nI tn), .ref ns, .ref ne, .ref n7, .ref n8])), (ns, .inl (cI, 6, .inl sp)), (ne, .inl (cI, 6, .inl en)), (n7, .inl (cI, 6, .inl tY)), (n8, .inl (cI, 6, .inl tW)), (xw, .inr (1, [.int uy, .int uea, .int ulo, .int ujo, .int uta, .ref w5, .ref w6, .ref w7, .ref w8])), (w5, .inl (cI, 6, .inl usp)), (w6, .inl (cI, 6, .inl uen)), (w7, .inl (cI, 6, .inl utY)), (w8, .inl (cI, 6, .inl utW)), (bb, .inl (cI, 19, .inl Bv)), (dd, .inl (cI, 16, .inl (jdd sp en (nI yr) jo ea lo)))] H) ∧ (va_D A [(x, .inr (6, [a0, .int (nI pn), .ref xj, .int (nI n), .ref xn, a5, .ref xw, a7, .int lr, .int bd, a10, a11])), (xj, .inl (cJ, 6, .inr (.inr (.inr (.inr jr))))), (xn, .inr (1, [.int (nI yr), .int ea, .int lo, .int jo, .int (nI tn), .ref ns, .ref ne, .ref n7, .ref n8])), (ns, .inl (cI, 6, .inl sp)), (ne, .inl (cI, 6, .inl en)), (n7, .inl (cI, 6, .inl tY)), (n8, .inl (cI, 6, .inl tW)), (xw, .inr (1, [.int uy, .int uea, .int ulo, .int ujo, .int uta, .ref w5, .ref w6, .ref w7, .ref w8])), (w5, .inl (cI, 6, .inl usp)), (w6, .inl (cI, 6, .inl uen)), (w7, .inl (cI, 6, .inl utY)), (w8, .inl (cI, 6, .inl utW)), (bb, .inl (cI, 19, .inl Bv)), (dd, .inl (cI, 16, .inl (jdd sp en (nI yr) jo ea lo)))]) ∧ (jJ D n jr jk jg js jm H) ∧ (va_S A s.heap H locs) ∧ (lv_has ls 11 [(0, .ref b), (1, .ref x), (2, .ref bb), (3, .ref dd), (6, .int (nI turn))]) ∧ (turn ≤ 32) ∧ (lNn sp) ∧ (yr ≤ turn)) (fun (x9 : Nat × (Nat → Int32) × (Nat → Int32) × Nat × Int32 × Int32 × Int32 × Int32 × Int32 × Int32 × Int32 × Int32 × (Nat → Int32) × (Nat → Int32) × (Nat → Int32) × (Nat → Int32)) => match x9 with | (turn, sp, en, yr, jo, ea, lo, uy, uea, ulo, ujo, uta, usp, uen, utY, utW) => 32 - turn) (fun x9 H locs ls hx9 ih_179 => ?_) (0, sp, en, yr, jo, ea, lo, uy, uea, ulo, ujo, uta, usp, uen, utY, utW) _ _ _ ⟨hP, hD, hJ, hS, lv_sub hl [1, 2, 3, 4, 0] rfl, (by omega), hNn, (by omega)⟩
  obtain ⟨turn, sp, en, yr, jo, ea, lo, uy, uea, ulo, ujo, uta, usp, uen, utY, utW⟩ := x9
  obtain ⟨hP, hD, hJ, hS, hl, htu, hNn, hyt⟩ := hx9
  dsimp only
  refine lv_iload hx hb dL_law_179 (lv_at hl 4 rfl) ?_
  refine lv_bipush (v := 32) hx hb dL_law_181 (by decide) ?_
  refine lv_icmp_ge (tgt := 327) hx hb dL_law_183 (by decide) (fun c_1 => ?_) (fun c_1 => ?_)
  · skip
    replace c_1 : 32 ≤ turn := (nI_leI (a := 32) (b := turn) (by omega) (by omega)).mp c_1
    exact law_end l hC0 (by omega) (by omega) hS (lv_sub hl [0, 1, 2, 3] rfl) hP hD hJ hap hB hn0 hn6 hfw kk
  · skip
    replace c_1 : ¬ 32 ≤ turn := fun h => c_1 ((nI_leI (a := 32) (b := turn) (by omega) (by omega)).mpr h)
    refine lv_aload_n hx hb dL_law_186 rfl (lv_at hl 0 rfl) ?_
    refine lv_iconst (v := 3) hx hb dL_law_187 (by decide) ?_
    refine lv_iload hx hb dL_law_188 (lv_at hl 4 rfl) ?_
    refine lv_iadd hx hb dL_law_190 ?_
    refine jv_as (y := nI (3 + turn)) (nI_add 3 turn) ?_
    refine jcalli (va_runS (As := [.ref b, .int (nI (3 + turn))]) (rest := []) ⟨hx, hb, hml, hown, hts⟩ (cl_cell l D cI cJ b L (3 + turn) xs hL (by omega) H.size) (va_cwS 2 hts gL_law_L_cell rfl rfl rfl (by decide +kernel) ⟨Nat.le_of_ble_eq_true rfl, Nat.le_of_ble_eq_true rfl⟩) (jpreX hT (hX.kept (hS.2.1 b hbl hbA)) (Nat.lt_of_lt_of_le hbl hS.1)) rfl rfl hl.1 rfl (lv_room (Nat.le_of_ble_eq_true rfl)) dL_law_191 ⟨(show _ ≤ 600000 by omega), (show _ ≤ 7302250 by omega)⟩) hS hA (fun r_2 H locs hw_r_2 hkq hS => ?_)
    try dsimp only at hw_r_2
    have hP := jkeep hP hkq
    have hJ := hJ.kept hkq
    refine lv_istore (lv' := [(7, .int r_2), (0, .ref b), (1, .ref x), (2, .ref bb), (3, .ref dd), (6, .int (nI turn))]) hx hb dL_law_194 hl (by decide) rfl (fun ls hl => ?_)
    refine lv_iload hx hb dL_law_196 (lv_at hl 0 rfl) ?_
    refine lv_bipush (v := 8) hx hb dL_law_198 (by decide) ?_
    refine jcalli (va_runS (As := [.int r_2, .int 8]) (rest := []) ⟨hx, hb, hml, hown, hts⟩ (cl_at l D cI cJ r_2 8 (by decide) (by decide) H.size) (va_cwS 2 hts gL_law_L_at rfl rfl rfl (by decide +kernel) ⟨Nat.le_of_ble_eq_true rfl, Nat.le_of_ble_eq_true rfl⟩) (jpreS hT trivial) rfl rfl hl.1 rfl (lv_room (Nat.le_of_ble_eq_true rfl)) dL_law_200 ⟨(show _ ≤ 600000 by omega), (show _ ≤ 7302250 by omega)⟩) hS hA (fun r_3 H locs hw_r_3 hkq hS => ?_)
    try dsimp only at hw_r_3
    have hP := jkeep hP hkq
    have hJ := hJ.kept hkq
    obtain ⟨sq, hsq, rfl⟩ := hw_r_3
    refine lv_istore (lv' := [(8, .int (nI sq)), (7, .int r_2), (0, .ref b), (1, .ref x), (2, .ref bb), (3, .ref dd), (6, .int (nI turn))]) hx hb dL_law_203 hl (by decide) rfl (fun ls hl => ?_)
    refine lv_iload hx hb dL_law_205 (lv_at hl 0 rfl) ?_
    refine lv_bipush (v := 7) hx hb dL_law_207 (by decide) ?_
    refine lv_icmp_ge (tgt := 228) hx hb dL_law_209 (by decide) (fun c_4 => ?_) (fun c_4 => ?_)
    · skip
      replace c_4 : 7 ≤ sq := (nI_leI (a := 7) (b := sq) (by omega) (by omega)).mp c_4
      refine lv_aload_n hx hb dL_law_228 rfl (lv_at hl 3 rfl) ?_
      refine lv_aload_n hx hb dL_law_229 rfl (lv_at hl 4 rfl) ?_
      refine lv_aload_n hx hb dL_law_230 rfl (lv_at hl 5 rfl) ?_
      refine lv_iconst (v := 1) hx hb dL_law_231 (by decide) ?_
      refine lv_iload hx hb dL_law_232 (lv_at hl 1 rfl) ?_
      refine lv_iconst (v := 3) hx hb dL_law_234 (by decide) ?_
      refine lv_ishr hx hb dL_law_235 ?_
      refine lv_bipush (v := 60) hx hb dL_law_236 (by decide) ?_
      refine jcalli (va_runS (As := [.int (r_2 >>> (3 &&& 31)), .int 60]) (rest := [.int 1, .ref dd, .ref bb, .ref x]) ⟨hx, hb, hml, hown, hts⟩ (cl_at l D cI cJ (r_2 >>> (3 &&& 31)) 60 (by decide) (by decide) H.size) (va_cwS 2 hts gL_law_L_at rfl rfl rfl (by decide +kernel) ⟨Nat.le_of_ble_eq_true rfl, Nat.le_of_ble_eq_true rfl⟩) (jpreS hT trivial) rfl rfl hl.1 rfl (lv_room (Nat.le_of_ble_eq_true rfl)) dL_law_238 ⟨(show _ ≤ 600000 by omega), (show _ ≤ 7302250 by omega)⟩) hS hA (fun r_5 H locs hw_r_5 hkq hS => ?_)
      try dsimp only at hw_r_5
      have hP := jkeep hP hkq
      have hJ := hJ.kept hkq
      obtain ⟨ty, hty, rfl⟩ := hw_r_5
      refine lv_iadd hx hb dL_law_241 ?_
      refine jv_as (y := nI (1 + ty)) (nI_add 1 ty) ?_
      refine lv_aload_n hx hb dL_law_242 rfl (lv_at hl 2 rfl) ?_
      refine lv_bipush (v := 35) hx hb dL_law_243 (by decide) ?_
      refine lv_iload hx hb dL_law_245 (lv_at hl 6 rfl) ?_
      refine lv_iconst (v := 4) hx hb dL_law_247 (by decide) ?_
      refine lv_irem hx hb dL_law_248 (by decide) ?_
      refine jv_as (y := nI (turn % 4)) (by rw [show (4 : Int32) = nI 4 from rfl]; exact pk_rem (by omega) (by omega) (by omega)) ?_
      refine lv_iadd hx hb dL_law_249 ?_
      refine jv_as (y := nI (35 + (turn % 4))) (nI_add 35 (turn % 4)) ?_
      refine jcalli (va_runS (As := [.ref b, .int (nI (35 + (turn % 4)))]) (rest := [.int (nI (1 + ty)), .ref dd, .ref bb, .ref x]) ⟨hx, hb, hml, hown, hts⟩ (cl_cell l D cI cJ b L (35 + (turn % 4)) xs hL (by omega) H.size) (va_cwS 2 hts gL_law_L_cell rfl rfl rfl (by decide +kernel) ⟨Nat.le_of_ble_eq_true rfl, Nat.le_of_ble_eq_true rfl⟩) (jpreX hT (hX.kept (hS.2.1 b hbl hbA)) (Nat.lt_of_lt_of_le hbl hS.1)) rfl rfl hl.1 rfl (lv_room (Nat.le_of_ble_eq_true rfl)) dL_law_250 ⟨(show _ ≤ 600000 by omega), (show _ ≤ 7302250 by omega)⟩) hS hA (fun r_6 H locs hw_r_6 hkq hS => ?_)
      try dsimp only at hw_r_6
      have hP := jkeep hP hkq
      have hJ := hJ.kept hkq
      refine lv_ldc (v := 2147483647) hx hb hown (hts (Cond.constant RL 88 (2147483647)) (List.mem_of_getElem? (i := 4) rfl)) dL_law_253 ?_
      refine lv_iand hx hb dL_law_255 ?_
      obtain ⟨sd, hsd, esd⟩ := pk_andE r_6 (m := 2147483647) 31 (by decide +kernel)
      refine jv_as (y := nI sd) esd ?_
      have hPc_7 := hP.sub (ws' := [(x, .inr (6, [a0, .int (nI pn), .ref xj, .int (nI n), .ref xn, a5, .ref xw, a7, .int lr, .int bd, a10, a11])), (xj, .inl (cJ, 6, .inr (.inr (.inr (.inr jr))))), (xn, .inr (1, [.int (nI yr), .int ea, .int lo, .int jo, .int (nI tn), .ref ns, .ref ne, .ref n7, .ref n8])), (ns, .inl (cI, 6, .inl sp)), (ne, .inl (cI, 6, .inl en)), (n7, .inl (cI, 6, .inl tY)), (n8, .inl (cI, 6, .inl tW)), (xw, .inr (1, [.int uy, .int uea, .int ulo, .int ujo, .int uta, .ref w5, .ref w6, .ref w7, .ref w8])), (w5, .inl (cI, 6, .inl usp)), (w6, .inl (cI, 6, .inl uen)), (w7, .inl (cI, 6, .inl utY)), (w8, .inl (cI, 6, .inl utW)), (bb, .inl (cI, 19, .inl Bv)), (dd, .inl (cI, 16, .inl (jdd sp en (nI yr) jo ea lo)))]) [0, 1, 2, 3, 4, 5, 6, 7, 8, 9, 10, 11, 12, 13] rfl
      have hDc_8 := hD.sub (ws' := [(x, .inr (6, [a0, .int (nI pn), .ref xj, .int (nI n), .ref xn, a5, .ref xw, a7, .int lr, .int bd, a10, a11])), (xj, .inl (cJ, 6, .inr (.inr (.inr (.inr jr))))), (xn, .inr (1, [.int (nI yr), .int ea, .int lo, .int jo, .int (nI tn), .ref ns, .ref ne, .ref n7, .ref n8])), (ns, .inl (cI, 6, .inl sp)), (ne, .inl (cI, 6, .inl en)), (n7, .inl (cI, 6, .inl tY)), (n8, .inl (cI, 6, .inl tW)), (xw, .inr (1, [.int uy, .int uea, .int ulo, .int ujo, .int uta, .ref w5, .ref w6, .ref w7, .ref w8])), (w5, .inl (cI, 6, .inl usp)), (w6, .inl (cI, 6, .inl uen)), (w7, .inl (cI, 6, .inl utY)), (w8, .inl (cI, 6, .inl utW)), (bb, .inl (cI, 19, .inl Bv)), (dd, .inl (cI, 16, .inl (jdd sp en (nI yr) jo ea lo)))]) [0, 1, 2, 3, 4, 5, 6, 7, 8, 9, 10, 11, 12, 13] (by decide) rfl
      have hFc_9 := va_free (wc := [(x, .inr (6, [a0, .int (nI pn), .ref xj, .int (nI n), .ref xn, a5, .ref xw, a7, .int lr, .int bd, a10, a11])), (xj, .inl (cJ, 6, .inr (.inr (.inr (.inr jr))))), (xn, .inr (1, [.int (nI yr), .int ea, .int lo, .int jo, .int (nI tn), .ref ns, .ref ne, .ref n7, .ref n8])), (ns, .inl (cI, 6, .inl sp)), (ne, .inl (cI, 6, .inl en)), (n7, .inl (cI, 6, .inl tY)), (n8, .inl (cI, 6, .inl tW)), (xw, .inr (1, [.int uy, .int uea, .int ulo, .int ujo, .int uta, .ref w5, .ref w6, .ref w7, .ref w8])), (w5, .inl (cI, 6, .inl usp)), (w6, .inl (cI, 6, .inl uen)), (w7, .inl (cI, 6, .inl utY)), (w8, .inl (cI, 6, .inl utW)), (bb, .inl (cI, 19, .inl Bv)), (dd, .inl (cI, 16, .inl (jdd sp en (nI yr) jo ea lo)))]) hD hS hA [0, 1, 2, 3, 4, 5, 6, 7, 8, 9, 10, 11, 12, 13] rfl
      refine jcallWi (post := fun r H => r = 1 ∧ ∃ (uy1 uea1 ulo1 ujo1 uta1 : Int32) (usp1 uen1 utY1 utW1 : Nat → Int32), va_P D vwCl [(x, .inr (6, [a0, (.int (nI pn)), .ref xj, .int (nI n), .ref xn, a5, .ref xw, a7, (.int lr), (.int bd), a10, a11])), (xj, .inl (cJ, 6, .inr (.inr (.inr (.inr jr))))), (xn, .inr (1, [.int (nI yr), .int ea, .int lo, .int jo, .int (nI tn), .ref ns, .ref ne, .ref n7, .ref n8])), (ns, .inl (cI, 6, .inl sp)), (ne, .inl (cI, 6, .inl en)), (n7, .inl (cI, 6, .inl tY)), (n8, .inl (cI, 6, .inl tW)), (xw, .inr (1, [.int uy1, .int uea1, .int ulo1, .int ujo1, .int uta1, .ref w5, .ref w6, .ref w7, .ref w8])), (w5, .inl (cI, 6, .inl usp1)), (w6, .inl (cI, 6, .inl uen1)), (w7, .inl (cI, 6, .inl utY1)), (w8, .inl (cI, 6, .inl utW1)), (bb, .inl (cI, 19, .inl Bv)), (dd, .inl (cI, 16, .inl (jdd sp en (nI yr) jo ea lo)))] H) (va_runS (As := [.ref x, .ref bb, .ref dd, .int (nI (1 + ty)), .int (nI sd)]) (rest := []) ⟨hx, hb, hml, hown, hts⟩ (cl_times l D cI cJ x xj xn ns ne n7 n8 xw w5 w6 w7 w8 n a0 (.int (nI pn)) a5 a7 (.int lr) (.int bd) a10 a11 jr jk jg js jm fw (nI yr) ea lo jo (nI tn) sp en tY tW uy uea ulo ujo uta usp uen utY utW bb dd Bv (1 + ty) sd hB hn6 hfw hap hn0 (by omega) (by omega) (by omega) H.size) (va_cwS 5 hts gL_law_L_times rfl rfl rfl (by decide +kernel) ⟨Nat.le_of_ble_eq_true rfl, Nat.le_of_ble_eq_true rfl⟩) (jpreS hT ⟨hPc_7, hDc_8.weaken (fun _ _ _ _ => trivial), hJ⟩) rfl rfl hl.1 rfl (lv_room (Nat.le_of_ble_eq_true rfl)) dL_law_256 ⟨(show _ ≤ 600000 by omega), (show _ ≤ 7302250 by omega)⟩) hS hFc_9 (fun r_10 H locs hw_r_10 hz hkq hS => ?_)
      obtain ⟨hr9, y1a, y1b, y1c, y1d, y1e, f1a, f1b, f1c, f1d, hP1⟩ := hw_r_10
      obtain ⟨hP, hD⟩ := jjoin (wc := [(x, .inr (6, [a0, .int (nI pn), .ref xj, .int (nI n), .ref xn, a5, .ref xw, a7, .int lr, .int bd, a10, a11])), (xj, .inl (cJ, 6, .inr (.inr (.inr (.inr jr))))), (xn, .inr (1, [.int (nI yr), .int ea, .int lo, .int jo, .int (nI tn), .ref ns, .ref ne, .ref n7, .ref n8])), (ns, .inl (cI, 6, .inl sp)), (ne, .inl (cI, 6, .inl en)), (n7, .inl (cI, 6, .inl tY)), (n8, .inl (cI, 6, .inl tW)), (xw, .inr (1, [.int uy, .int uea, .int ulo, .int ujo, .int uta, .ref w5, .ref w6, .ref w7, .ref w8])), (w5, .inl (cI, 6, .inl usp)), (w6, .inl (cI, 6, .inl uen)), (w7, .inl (cI, 6, .inl utY)), (w8, .inl (cI, 6, .inl utW)), (bb, .inl (cI, 19, .inl Bv)), (dd, .inl (cI, 16, .inl (jdd sp en (nI yr) jo ea lo)))]) (wr := []) (w1 := [(x, .inr (6, [a0, .int (nI pn), .ref xj, .int (nI n), .ref xn, a5, .ref xw, a7, .int lr, .int bd, a10, a11])), (xj, .inl (cJ, 6, .inr (.inr (.inr (.inr jr))))), (xn, .inr (1, [.int (nI yr), .int ea, .int lo, .int jo, .int (nI tn), .ref ns, .ref ne, .ref n7, .ref n8])), (ns, .inl (cI, 6, .inl sp)), (ne, .inl (cI, 6, .inl en)), (n7, .inl (cI, 6, .inl tY)), (n8, .inl (cI, 6, .inl tW)), (xw, .inr (1, [.int y1a, .int y1b, .int y1c, .int y1d, .int y1e, .ref w5, .ref w6, .ref w7, .ref w8])), (w5, .inl (cI, 6, .inl f1a)), (w6, .inl (cI, 6, .inl f1b)), (w7, .inl (cI, 6, .inl f1c)), (w8, .inl (cI, 6, .inl f1d)), (bb, .inl (cI, 19, .inl Bv)), (dd, .inl (cI, 16, .inl (jdd sp en (nI yr) jo ea lo)))]) (ws' := [(x, .inr (6, [a0, .int (nI pn), .ref xj, .int (nI n), .ref xn, a5, .ref xw, a7, .int lr, .int bd, a10, a11])), (xj, .inl (cJ, 6, .inr (.inr (.inr (.inr jr))))), (xn, .inr (1, [.int (nI yr), .int ea, .int lo, .int jo, .int (nI tn), .ref ns, .ref ne, .ref n7, .ref n8])), (ns, .inl (cI, 6, .inl sp)), (ne, .inl (cI, 6, .inl en)), (n7, .inl (cI, 6, .inl tY)), (n8, .inl (cI, 6, .inl tW)), (xw, .inr (1, [.int y1a, .int y1b, .int y1c, .int y1d, .int y1e, .ref w5, .ref w6, .ref w7, .ref w8])), (w5, .inl (cI, 6, .inl f1a)), (w6, .inl (cI, 6, .inl f1b)), (w7, .inl (cI, 6, .inl f1c)), (w8, .inl (cI, 6, .inl f1d)), (bb, .inl (cI, 19, .inl Bv)), (dd, .inl (cI, 16, .inl (jdd sp en (nI yr) jo ea lo)))]) hP hD hFc_9 [0, 1, 2, 3, 4, 5, 6, 7, 8, 9, 10, 11, 12, 13] [] [0, 1, 2, 3, 4, 5, 6, 7, 8, 9, 10, 11, 12, 13] rfl rfl (by decide) (by decide) (by decide) (by decide) hkq hP1 rfl rfl rfl
      have hJ := jJ.keptA (A := va_A [(x, .inr (6, [a0, .int (nI pn), .ref xj, .int (nI n), .ref xn, a5, .ref xw, a7, .int lr, .int bd, a10, a11])), (xj, .inl (cJ, 6, .inr (.inr (.inr (.inr jr))))), (xn, .inr (1, [.int (nI yr), .int ea, .int lo, .int jo, .int (nI tn), .ref ns, .ref ne, .ref n7, .ref n8])), (ns, .inl (cI, 6, .inl sp)), (ne, .inl (cI, 6, .inl en)), (n7, .inl (cI, 6, .inl tY)), (n8, .inl (cI, 6, .inl tW)), (xw, .inr (1, [.int uy, .int uea, .int ulo, .int ujo, .int uta, .ref w5, .ref w6, .ref w7, .ref w8])), (w5, .inl (cI, 6, .inl usp)), (w6, .inl (cI, 6, .inl uen)), (w7, .inl (cI, 6, .inl utY)), (w8, .inl (cI, 6, .inl utW)), (bb, .inl (cI, 19, .inl Bv)), (dd, .inl (cI, 16, .inl (jdd sp en (nI yr) jo ea lo)))] _) hJ (fun i a h1 h2 => jap (hJ.lt h1 h2) (fun h => hap i a h1 h2 (jmem [0, 1, 2, 3, 4, 5, 6, 7, 8, 9, 10, 11, 12, 13] rfl h))) hkq
      subst hr9
      refine lv_if_ne (tgt := 264) hx hb dL_law_259 (by decide) (fun c_11 => ?_) (fun c_11 => ?_)
      · skip
        refine lv_iload hx hb dL_law_264 (lv_at hl 1 rfl) ?_
        refine lv_iconst (v := 5) hx hb dL_law_266 (by decide) ?_
        refine lv_ishr hx hb dL_law_267 ?_
        refine lv_aload_n hx hb dL_law_268 rfl (lv_at hl 4 rfl) ?_
        refine lv_iconst (v := 0) hx hb dL_law_269 (by decide) ?_
        refine jv_ald (k := 0) hx hb hK hP 12 0 rfl rfl (by omega) (by decide) dL_law_270 ?_
        refine jv_as (y := nI n) hB.1 ?_
        refine jcalli (va_runS (As := [.int (r_2 >>> (5 &&& 31)), .int (nI n)]) (rest := []) ⟨hx, hb, hml, hown, hts⟩ (cl_at l D cI cJ (r_2 >>> (5 &&& 31)) n (by omega) (by omega) H.size) (va_cwS 2 hts gL_law_L_at rfl rfl rfl (by decide +kernel) ⟨Nat.le_of_ble_eq_true rfl, Nat.le_of_ble_eq_true rfl⟩) (jpreS hT trivial) rfl rfl hl.1 rfl (lv_room (Nat.le_of_ble_eq_true rfl)) dL_law_271 ⟨(show _ ≤ 600000 by omega), (show _ ≤ 7302250 by omega)⟩) hS hA (fun r_12 H locs hw_r_12 hkq hS => ?_)
        try dsimp only at hw_r_12
        have hP := jkeep hP hkq
        have hJ := hJ.kept hkq
        obtain ⟨j9, hj9, rfl⟩ := hw_r_12
        refine lv_istore (lv' := [(9, .int (nI j9)), (8, .int (nI sq)), (7, .int r_2), (0, .ref b), (1, .ref x), (2, .ref bb), (3, .ref dd), (6, .int (nI turn))]) hx hb dL_law_274 hl (by decide) rfl (fun ls hl => ?_)
        refine lv_iload hx hb dL_law_276 (lv_at hl 2 rfl) ?_
        refine lv_bipush (v := 9) hx hb dL_law_278 (by decide) ?_
        refine lv_ishr hx hb dL_law_280 ?_
        refine lv_bipush (v := 100) hx hb dL_law_281 (by decide) ?_
        refine jcalli (va_runS (As := [.int (r_2 >>> (9 &&& 31)), .int 100]) (rest := []) ⟨hx, hb, hml, hown, hts⟩ (cl_at l D cI cJ (r_2 >>> (9 &&& 31)) 100 (by decide) (by decide) H.size) (va_cwS 2 hts gL_law_L_at rfl rfl rfl (by decide +kernel) ⟨Nat.le_of_ble_eq_true rfl, Nat.le_of_ble_eq_true rfl⟩) (jpreS hT trivial) rfl rfl hl.1 rfl (lv_room (Nat.le_of_ble_eq_true rfl)) dL_law_283 ⟨(show _ ≤ 600000 by omega), (show _ ≤ 7302250 by omega)⟩) hS hA (fun r_13 H locs hw_r_13 hkq hS => ?_)
        try dsimp only at hw_r_13
        have hP := jkeep hP hkq
        have hJ := hJ.kept hkq
        obtain ⟨yw, hyw, rfl⟩ := hw_r_13
        refine lv_istore (lv' := [(10, .int (nI yw)), (9, .int (nI j9)), (8, .int (nI sq)), (7, .int r_2), (0, .ref b), (1, .ref x), (2, .ref bb), (3, .ref dd), (6, .int (nI turn))]) hx hb dL_law_286 hl (by decide) rfl (fun ls hl => ?_)
        refine lv_aload_n hx hb dL_law_288 rfl (lv_at hl 5 rfl) ?_
        refine lv_aload_n hx hb dL_law_289 rfl (lv_at hl 6 rfl) ?_
        refine lv_aload_n hx hb dL_law_290 rfl (lv_at hl 7 rfl) ?_
        have hPc_14 := hP.sub (ws' := [(x, .inr (6, [a0, .int (nI pn), .ref xj, .int (nI n), .ref xn, a5, .ref xw, a7, .int lr, .int bd, a10, a11])), (xj, .inl (cJ, 6, .inr (.inr (.inr (.inr jr))))), (xn, .inr (1, [.int (nI yr), .int ea, .int lo, .int jo, .int (nI tn), .ref ns, .ref ne, .ref n7, .ref n8])), (ns, .inl (cI, 6, .inl sp)), (ne, .inl (cI, 6, .inl en)), (bb, .inl (cI, 19, .inl Bv)), (dd, .inl (cI, 16, .inl (jdd sp en (nI yr) jo ea lo)))]) [0, 1, 2, 3, 4, 12, 13] rfl
        refine jcalli (va_runS (As := [.ref x, .ref bb, .ref dd]) (rest := []) ⟨hx, hb, hml, hown, hts⟩ (cl_stands l D cI cJ x xj xn ns ne bb dd n pn tn a0 a5 (.ref xw) a7 a10 a11 (.ref n7) (.ref n8) lr bd jr jk jg js jm fw Bv sp en (nI yr) jo ea lo hB hn6 hfw H.size) (va_cwS 3 hts gL_law_L_stands rfl rfl rfl (by decide +kernel) ⟨Nat.le_of_ble_eq_true rfl, Nat.le_of_ble_eq_true rfl⟩) (jpreS hT ⟨hPc_14, hJ⟩) rfl rfl hl.1 rfl (lv_room (Nat.le_of_ble_eq_true rfl)) dL_law_291 ⟨(show _ ≤ 600000 by omega), (show _ ≤ 7302250 by omega)⟩) hS hA (fun r_15 H locs hw_r_15 hkq hS => ?_)
        try dsimp only at hw_r_15
        have hP := jkeep hP hkq
        have hJ := hJ.kept hkq
        subst hw_r_15
        refine lv_if_eq (tgt := 319) hx hb dL_law_294 (by decide) (fun c_16 => ?_) (fun c_16 => ?_)
        · skip
          exact absurd c_16 (by decide)
        · skip
          refine lv_aload_n hx hb dL_law_297 rfl (lv_at hl 5 rfl) ?_
          refine lv_iload hx hb dL_law_298 (lv_at hl 1 rfl) ?_
          refine lv_iload hx hb dL_law_300 (lv_at hl 0 rfl) ?_
          have hPc_17 := hP.sub (ws' := [(x, .inr (6, [a0, .int (nI pn), .ref xj, .int (nI n), .ref xn, a5, .ref xw, a7, .int lr, .int bd, a10, a11])), (xj, .inl (cJ, 6, .inr (.inr (.inr (.inr jr)))))]) [0, 1] rfl
          refine jcalli (va_runV (As := [.int (nI j9), .int (nI yw)]) (rest := []) ⟨hx, hb, hml, hown, hts⟩ (c_worth_ok l D cI cJ x xj n a0 (.int (nI pn)) (.ref xn) a5 (.ref xw) a7 (.int lr) (.int bd) a10 a11 jr jk jg js jm fw j9 (nI yw) (by omega) hn6 hfw (fun h => absurd ((nI_ltI (b := 0) (by omega) (by omega)).mp h) (Nat.not_lt_zero _)) ((nI_leI (b := 99) (by omega) (by omega)).mpr (by omega)) H.size) (cwV 2 hts gL_law_X6_worth rfl rfl rfl (by decide +kernel) ⟨Nat.le_of_ble_eq_true rfl, Nat.le_of_ble_eq_true rfl⟩) (jpreV hT (va_recv hK hP (ci := 6) (q0 := 0) rfl rfl) ⟨hPc_17, hJ⟩) rfl rfl hl.1 rfl (lv_room (Nat.le_of_ble_eq_true rfl)) dL_law_302 ⟨(show _ ≤ 600000 by omega), (show _ ≤ 7302250 by omega)⟩) hS hA (fun r_18 H locs hw_r_18 hkq hS => ?_)
          try dsimp only at hw_r_18
          have hP := jkeep hP hkq
          have hJ := hJ.kept hkq
          subst hw_r_18
          refine lv_bipush (v := 100) hx hb dL_law_305 (by decide) ?_
          refine lv_aload_n hx hb dL_law_307 rfl (lv_at hl 6 rfl) ?_
          refine lv_iload hx hb dL_law_308 (lv_at hl 1 rfl) ?_
          refine lv_iload hx hb dL_law_310 (lv_at hl 0 rfl) ?_
          have hPc_19 := hP.sub (ws' := [(bb, .inl (cI, 19, .inl Bv))]) [12] rfl
          refine jcalli (va_runS (As := [.ref bb, .int (nI j9), .int (nI yw)]) (rest := [.int 100, .int (fw j9 (nI yw) + 100)]) ⟨hx, hb, hml, hown, hts⟩ (cl_worth l D cI cJ bb n jk jg js jm Bv j9 fw (nI yw) hB (by omega) hn6 hfw H.size) (va_cwS 3 hts gL_law_L_worth rfl rfl rfl (by decide +kernel) ⟨Nat.le_of_ble_eq_true rfl, Nat.le_of_ble_eq_true rfl⟩) (jpreS hT hPc_19) rfl rfl hl.1 rfl (lv_room (Nat.le_of_ble_eq_true rfl)) dL_law_312 ⟨(show _ ≤ 600000 by omega), (show _ ≤ 7302250 by omega)⟩) hS hA (fun r_20 H locs hw_r_20 hkq hS => ?_)
          try dsimp only at hw_r_20
          have hP := jkeep hP hkq
          have hJ := hJ.kept hkq
          subst hw_r_20
          refine lv_iadd hx hb dL_law_315 ?_
          refine lv_icmp_eq (tgt := 321) hx hb dL_law_316 (by decide) (fun c_21 => ?_) (fun c_21 => ?_)
          · skip
            refine W.widen (k := 40 + (turn + 1)) (n := 400 + 16 * (turn + 1)) (by omega) (by omega) ?_
            refine lv_iinc (v := nI (turn + 1)) (lv' := [(6, .int (nI (turn + 1))), (10, .int (nI yw)), (9, .int (nI j9)), (8, .int (nI sq)), (7, .int r_2), (0, .ref b), (1, .ref x), (2, .ref bb), (3, .ref dd)]) hx hb dL_law_321 hl (k := 8) rfl ((rfl : nI turn + Int32.ofInt 1 = nI turn + nI 1).trans (nI_add turn 1)) (by decide) rfl (fun ls hl => ?_)
            refine lv_goto (tgt := 179) hx hb dL_law_324 (by decide) ?_
            exact ih_179 (turn + 1, sp, en, yr, jo, ea, lo, y1a, y1b, y1c, y1d, y1e, f1a, f1b, f1c, f1d) _ _ _ ⟨hP, hD, hJ, hS, lv_sub hl [5, 6, 7, 8, 0] rfl, (by omega), hNn, (by omega)⟩ (by dsimp only; omega)
          · skip
            exact absurd (Int32.add_comm _ _) c_21
      · skip
        exact absurd c_11 (by decide)
    · skip
      replace c_4 : ¬ 7 ≤ sq := fun h => c_4 ((nI_leI (a := 7) (b := sq) (by omega) (by omega)).mpr h)
      refine lv_aload_n hx hb dL_law_212 rfl (lv_at hl 3 rfl) ?_
      refine lv_aload_n hx hb dL_law_213 rfl (lv_at hl 4 rfl) ?_
      refine lv_aload_n hx hb dL_law_214 rfl (lv_at hl 5 rfl) ?_
      refine lv_iload hx hb dL_law_215 (lv_at hl 1 rfl) ?_
      refine lv_iconst (v := 3) hx hb dL_law_217 (by decide) ?_
      refine lv_ishr hx hb dL_law_218 ?_
      have hPc_22 := hP.sub (ws' := [(x, .inr (6, [a0, .int (nI pn), .ref xj, .int (nI n), .ref xn, a5, .ref xw, a7, .int lr, .int bd, a10, a11])), (xj, .inl (cJ, 6, .inr (.inr (.inr (.inr jr))))), (xn, .inr (1, [.int (nI yr), .int ea, .int lo, .int jo, .int (nI tn), .ref ns, .ref ne, .ref n7, .ref n8])), (ns, .inl (cI, 6, .inl sp)), (ne, .inl (cI, 6, .inl en)), (n7, .inl (cI, 6, .inl tY)), (n8, .inl (cI, 6, .inl tW)), (bb, .inl (cI, 19, .inl Bv)), (dd, .inl (cI, 16, .inl (jdd sp en (nI yr) jo ea lo)))]) [0, 1, 2, 3, 4, 5, 6, 12, 13] rfl
      have hDc_23 := hD.sub (ws' := [(x, .inr (6, [a0, .int (nI pn), .ref xj, .int (nI n), .ref xn, a5, .ref xw, a7, .int lr, .int bd, a10, a11])), (xj, .inl (cJ, 6, .inr (.inr (.inr (.inr jr))))), (xn, .inr (1, [.int (nI yr), .int ea, .int lo, .int jo, .int (nI tn), .ref ns, .ref ne, .ref n7, .ref n8])), (ns, .inl (cI, 6, .inl sp)), (ne, .inl (cI, 6, .inl en)), (n7, .inl (cI, 6, .inl tY)), (n8, .inl (cI, 6, .inl tW)), (bb, .inl (cI, 19, .inl Bv)), (dd, .inl (cI, 16, .inl (jdd sp en (nI yr) jo ea lo)))]) [0, 1, 2, 3, 4, 5, 6, 12, 13] (by decide) rfl
      have hFc_24 := va_free (wc := [(x, .inr (6, [a0, .int (nI pn), .ref xj, .int (nI n), .ref xn, a5, .ref xw, a7, .int lr, .int bd, a10, a11])), (xj, .inl (cJ, 6, .inr (.inr (.inr (.inr jr))))), (xn, .inr (1, [.int (nI yr), .int ea, .int lo, .int jo, .int (nI tn), .ref ns, .ref ne, .ref n7, .ref n8])), (ns, .inl (cI, 6, .inl sp)), (ne, .inl (cI, 6, .inl en)), (n7, .inl (cI, 6, .inl tY)), (n8, .inl (cI, 6, .inl tW)), (bb, .inl (cI, 19, .inl Bv)), (dd, .inl (cI, 16, .inl (jdd sp en (nI yr) jo ea lo)))]) hD hS hA [0, 1, 2, 3, 4, 5, 6, 12, 13] rfl
      refine jcallWi (post := fun r H => r = 1 ∧ ∃ (sp1 en1 : Nat → Int32) (yr1 : Nat) (jo1 ea1 lo1 : Int32), lNn sp1 ∧ yr1 ≤ yr + 1 ∧ va_P D vwCl [(x, .inr (6, [a0, (.int (nI pn)), .ref xj, .int (nI n), .ref xn, a5, (.ref xw), a7, (.int lr), (.int bd), a10, a11])), (xj, .inl (cJ, 6, .inr (.inr (.inr (.inr jr))))), (xn, .inr (1, [.int (nI yr1), .int ea1, .int lo1, .int jo1, .int (nI tn), .ref ns, .ref ne, .ref n7, .ref n8])), (ns, .inl (cI, 6, .inl sp1)), (ne, .inl (cI, 6, .inl en1)), (n7, .inl (cI, 6, .inl tY)), (n8, .inl (cI, 6, .inl tW)), (bb, .inl (cI, 19, .inl Bv)), (dd, .inl (cI, 16, .inl (jdd sp1 en1 (nI yr1) jo1 ea1 lo1)))] H) (va_runS (As := [.ref x, .ref bb, .ref dd, .int (r_2 >>> (3 &&& 31))]) (rest := []) ⟨hx, hb, hml, hown, hts⟩ (cl_does l D cI cJ x xj xn ns ne n7 n8 bb dd n yr a0 (.int (nI pn)) a5 (.ref xw) a7 (.int lr) (.int bd) a10 a11 jr jk jg js jm fw ea lo jo (nI tn) sp en tY tW Bv (r_2 >>> (3 &&& 31)) hB hn6 hfw (fun i a h1 h2 h3 => hap i a h1 h2 (jmem [0, 1, 2, 3, 4, 5, 6, 12, 13] rfl h3)) hn0 (by omega) hNn H.size) (va_cwS 4 hts gL_law_L_does rfl rfl rfl (by decide +kernel) ⟨Nat.le_of_ble_eq_true rfl, Nat.le_of_ble_eq_true rfl⟩) (jpreS hT ⟨hPc_22, hDc_23.weaken (fun _ _ _ _ => trivial), hJ⟩) rfl rfl hl.1 rfl (lv_room (Nat.le_of_ble_eq_true rfl)) dL_law_219 ⟨(show _ ≤ 600000 by omega), (show _ ≤ 7302250 by omega)⟩) hS hFc_24 (fun r_25 H locs hw_r_25 hz hkq hS => ?_)
      obtain ⟨hr9, sp1, en1, yr1, jo1, ea1, lo1, hNn1, hyr1, hP1⟩ := hw_r_25
      obtain ⟨hP, hD⟩ := jjoin (wc := [(x, .inr (6, [a0, .int (nI pn), .ref xj, .int (nI n), .ref xn, a5, .ref xw, a7, .int lr, .int bd, a10, a11])), (xj, .inl (cJ, 6, .inr (.inr (.inr (.inr jr))))), (xn, .inr (1, [.int (nI yr), .int ea, .int lo, .int jo, .int (nI tn), .ref ns, .ref ne, .ref n7, .ref n8])), (ns, .inl (cI, 6, .inl sp)), (ne, .inl (cI, 6, .inl en)), (n7, .inl (cI, 6, .inl tY)), (n8, .inl (cI, 6, .inl tW)), (bb, .inl (cI, 19, .inl Bv)), (dd, .inl (cI, 16, .inl (jdd sp en (nI yr) jo ea lo)))]) (wr := [(xw, .inr (1, [.int uy, .int uea, .int ulo, .int ujo, .int uta, .ref w5, .ref w6, .ref w7, .ref w8])), (w5, .inl (cI, 6, .inl usp)), (w6, .inl (cI, 6, .inl uen)), (w7, .inl (cI, 6, .inl utY)), (w8, .inl (cI, 6, .inl utW))]) (w1 := [(x, .inr (6, [a0, .int (nI pn), .ref xj, .int (nI n), .ref xn, a5, .ref xw, a7, .int lr, .int bd, a10, a11])), (xj, .inl (cJ, 6, .inr (.inr (.inr (.inr jr))))), (xn, .inr (1, [.int (nI yr1), .int ea1, .int lo1, .int jo1, .int (nI tn), .ref ns, .ref ne, .ref n7, .ref n8])), (ns, .inl (cI, 6, .inl sp1)), (ne, .inl (cI, 6, .inl en1)), (n7, .inl (cI, 6, .inl tY)), (n8, .inl (cI, 6, .inl tW)), (bb, .inl (cI, 19, .inl Bv)), (dd, .inl (cI, 16, .inl (jdd sp1 en1 (nI yr1) jo1 ea1 lo1)))]) (ws' := [(x, .inr (6, [a0, .int (nI pn), .ref xj, .int (nI n), .ref xn, a5, .ref xw, a7, .int lr, .int bd, a10, a11])), (xj, .inl (cJ, 6, .inr (.inr (.inr (.inr jr))))), (xn, .inr (1, [.int (nI yr1), .int ea1, .int lo1, .int jo1, .int (nI tn), .ref ns, .ref ne, .ref n7, .ref n8])), (ns, .inl (cI, 6, .inl sp1)), (ne, .inl (cI, 6, .inl en1)), (n7, .inl (cI, 6, .inl tY)), (n8, .inl (cI, 6, .inl tW)), (xw, .inr (1, [.int uy, .int uea, .int ulo, .int ujo, .int uta, .ref w5, .ref w6, .ref w7, .ref w8])), (w5, .inl (cI, 6, .inl usp)), (w6, .inl (cI, 6, .inl uen)), (w7, .inl (cI, 6, .inl utY)), (w8, .inl (cI, 6, .inl utW)), (bb, .inl (cI, 19, .inl Bv)), (dd, .inl (cI, 16, .inl (jdd sp1 en1 (nI yr1) jo1 ea1 lo1)))]) hP hD hFc_24 [0, 1, 2, 3, 4, 5, 6, 12, 13] [7, 8, 9, 10, 11] [5, 6, 7, 8, 9, 10, 11, 0, 1, 2, 3, 4, 12, 13] rfl rfl (by decide) (by decide) (by decide) (by decide) hkq hP1 rfl rfl rfl
      have hJ := jJ.keptA (A := va_A [(x, .inr (6, [a0, .int (nI pn), .ref xj, .int (nI n), .ref xn, a5, .ref xw, a7, .int lr, .int bd, a10, a11])), (xj, .inl (cJ, 6, .inr (.inr (.inr (.inr jr))))), (xn, .inr (1, [.int (nI yr), .int ea, .int lo, .int jo, .int (nI tn), .ref ns, .ref ne, .ref n7, .ref n8])), (ns, .inl (cI, 6, .inl sp)), (ne, .inl (cI, 6, .inl en)), (n7, .inl (cI, 6, .inl tY)), (n8, .inl (cI, 6, .inl tW)), (bb, .inl (cI, 19, .inl Bv)), (dd, .inl (cI, 16, .inl (jdd sp en (nI yr) jo ea lo)))] _) hJ (fun i a h1 h2 => jap (hJ.lt h1 h2) (fun h => hap i a h1 h2 (jmem [0, 1, 2, 3, 4, 5, 6, 12, 13] rfl h))) hkq
      subst hr9
      refine lv_if_ne (tgt := 264) hx hb dL_law_222 (by decide) (fun c_26 => ?_) (fun c_26 => ?_)
      · skip
        refine lv_iload hx hb dL_law_264 (lv_at hl 1 rfl) ?_
        refine lv_iconst (v := 5) hx hb dL_law_266 (by decide) ?_
        refine lv_ishr hx hb dL_law_267 ?_
        refine lv_aload_n hx hb dL_law_268 rfl (lv_at hl 4 rfl) ?_
        refine lv_iconst (v := 0) hx hb dL_law_269 (by decide) ?_
        refine jv_ald (k := 0) hx hb hK hP 12 0 rfl rfl (by omega) (by decide) dL_law_270 ?_
        refine jv_as (y := nI n) hB.1 ?_
        refine jcalli (va_runS (As := [.int (r_2 >>> (5 &&& 31)), .int (nI n)]) (rest := []) ⟨hx, hb, hml, hown, hts⟩ (cl_at l D cI cJ (r_2 >>> (5 &&& 31)) n (by omega) (by omega) H.size) (va_cwS 2 hts gL_law_L_at rfl rfl rfl (by decide +kernel) ⟨Nat.le_of_ble_eq_true rfl, Nat.le_of_ble_eq_true rfl⟩) (jpreS hT trivial) rfl rfl hl.1 rfl (lv_room (Nat.le_of_ble_eq_true rfl)) dL_law_271 ⟨(show _ ≤ 600000 by omega), (show _ ≤ 7302250 by omega)⟩) hS hA (fun r_27 H locs hw_r_27 hkq hS => ?_)
        try dsimp only at hw_r_27
        have hP := jkeep hP hkq
        have hJ := hJ.kept hkq
        obtain ⟨j9, hj9, rfl⟩ := hw_r_27
        refine lv_istore (lv' := [(9, .int (nI j9)), (8, .int (nI sq)), (7, .int r_2), (0, .ref b), (1, .ref x), (2, .ref bb), (3, .ref dd), (6, .int (nI turn))]) hx hb dL_law_274 hl (by decide) rfl (fun ls hl => ?_)
        refine lv_iload hx hb dL_law_276 (lv_at hl 2 rfl) ?_
        refine lv_bipush (v := 9) hx hb dL_law_278 (by decide) ?_
        refine lv_ishr hx hb dL_law_280 ?_
        refine lv_bipush (v := 100) hx hb dL_law_281 (by decide) ?_
        refine jcalli (va_runS (As := [.int (r_2 >>> (9 &&& 31)), .int 100]) (rest := []) ⟨hx, hb, hml, hown, hts⟩ (cl_at l D cI cJ (r_2 >>> (9 &&& 31)) 100 (by decide) (by decide) H.size) (va_cwS 2 hts gL_law_L_at rfl rfl rfl (by decide +kernel) ⟨Nat.le_of_ble_eq_true rfl, Nat.le_of_ble_eq_true rfl⟩) (jpreS hT trivial) rfl rfl hl.1 rfl (lv_room (Nat.le_of_ble_eq_true rfl)) dL_law_283 ⟨(show _ ≤ 600000 by omega), (show _ ≤ 7302250 by omega)⟩) hS hA (fun r_28 H locs hw_r_28 hkq hS => ?_)
        try dsimp only at hw_r_28
        have hP := jkeep hP hkq
        have hJ := hJ.kept hkq
        obtain ⟨yw, hyw, rfl⟩ := hw_r_28
        refine lv_istore (lv' := [(10, .int (nI yw)), (9, .int (nI j9)), (8, .int (nI sq)), (7, .int r_2), (0, .ref b), (1, .ref x), (2, .ref bb), (3, .ref dd), (6, .int (nI turn))]) hx hb dL_law_286 hl (by decide) rfl (fun ls hl => ?_)
        refine lv_aload_n hx hb dL_law_288 rfl (lv_at hl 5 rfl) ?_
        refine lv_aload_n hx hb dL_law_289 rfl (lv_at hl 6 rfl) ?_
        refine lv_aload_n hx hb dL_law_290 rfl (lv_at hl 7 rfl) ?_
        have hPc_29 := hP.sub (ws' := [(x, .inr (6, [a0, .int (nI pn), .ref xj, .int (nI n), .ref xn, a5, .ref xw, a7, .int lr, .int bd, a10, a11])), (xj, .inl (cJ, 6, .inr (.inr (.inr (.inr jr))))), (xn, .inr (1, [.int (nI yr1), .int ea1, .int lo1, .int jo1, .int (nI tn), .ref ns, .ref ne, .ref n7, .ref n8])), (ns, .inl (cI, 6, .inl sp1)), (ne, .inl (cI, 6, .inl en1)), (bb, .inl (cI, 19, .inl Bv)), (dd, .inl (cI, 16, .inl (jdd sp1 en1 (nI yr1) jo1 ea1 lo1)))]) [0, 1, 2, 3, 4, 12, 13] rfl
        refine jcalli (va_runS (As := [.ref x, .ref bb, .ref dd]) (rest := []) ⟨hx, hb, hml, hown, hts⟩ (cl_stands l D cI cJ x xj xn ns ne bb dd n pn tn a0 a5 (.ref xw) a7 a10 a11 (.ref n7) (.ref n8) lr bd jr jk jg js jm fw Bv sp1 en1 (nI yr1) jo1 ea1 lo1 hB hn6 hfw H.size) (va_cwS 3 hts gL_law_L_stands rfl rfl rfl (by decide +kernel) ⟨Nat.le_of_ble_eq_true rfl, Nat.le_of_ble_eq_true rfl⟩) (jpreS hT ⟨hPc_29, hJ⟩) rfl rfl hl.1 rfl (lv_room (Nat.le_of_ble_eq_true rfl)) dL_law_291 ⟨(show _ ≤ 600000 by omega), (show _ ≤ 7302250 by omega)⟩) hS hA (fun r_30 H locs hw_r_30 hkq hS => ?_)
        try dsimp only at hw_r_30
        have hP := jkeep hP hkq
        have hJ := hJ.kept hkq
        subst hw_r_30
        refine lv_if_eq (tgt := 319) hx hb dL_law_294 (by decide) (fun c_31 => ?_) (fun c_31 => ?_)
        · skip
          exact absurd c_31 (by decide)
        · skip
          refine lv_aload_n hx hb dL_law_297 rfl (lv_at hl 5 rfl) ?_
          refine lv_iload hx hb dL_law_298 (lv_at hl 1 rfl) ?_
          refine lv_iload hx hb dL_law_300 (lv_at hl 0 rfl) ?_
          have hPc_32 := hP.sub (ws' := [(x, .inr (6, [a0, .int (nI pn), .ref xj, .int (nI n), .ref xn, a5, .ref xw, a7, .int lr, .int bd, a10, a11])), (xj, .inl (cJ, 6, .inr (.inr (.inr (.inr jr)))))]) [0, 1] rfl
          refine jcalli (va_runV (As := [.int (nI j9), .int (nI yw)]) (rest := []) ⟨hx, hb, hml, hown, hts⟩ (c_worth_ok l D cI cJ x xj n a0 (.int (nI pn)) (.ref xn) a5 (.ref xw) a7 (.int lr) (.int bd) a10 a11 jr jk jg js jm fw j9 (nI yw) (by omega) hn6 hfw (fun h => absurd ((nI_ltI (b := 0) (by omega) (by omega)).mp h) (Nat.not_lt_zero _)) ((nI_leI (b := 99) (by omega) (by omega)).mpr (by omega)) H.size) (cwV 2 hts gL_law_X6_worth rfl rfl rfl (by decide +kernel) ⟨Nat.le_of_ble_eq_true rfl, Nat.le_of_ble_eq_true rfl⟩) (jpreV hT (va_recv hK hP (ci := 6) (q0 := 0) rfl rfl) ⟨hPc_32, hJ⟩) rfl rfl hl.1 rfl (lv_room (Nat.le_of_ble_eq_true rfl)) dL_law_302 ⟨(show _ ≤ 600000 by omega), (show _ ≤ 7302250 by omega)⟩) hS hA (fun r_33 H locs hw_r_33 hkq hS => ?_)
          try dsimp only at hw_r_33
          have hP := jkeep hP hkq
          have hJ := hJ.kept hkq
          subst hw_r_33
          refine lv_bipush (v := 100) hx hb dL_law_305 (by decide) ?_
          refine lv_aload_n hx hb dL_law_307 rfl (lv_at hl 6 rfl) ?_
          refine lv_iload hx hb dL_law_308 (lv_at hl 1 rfl) ?_
          refine lv_iload hx hb dL_law_310 (lv_at hl 0 rfl) ?_
          have hPc_34 := hP.sub (ws' := [(bb, .inl (cI, 19, .inl Bv))]) [12] rfl
          refine jcalli (va_runS (As := [.ref bb, .int (nI j9), .int (nI yw)]) (rest := [.int 100, .int (fw j9 (nI yw) + 100)]) ⟨hx, hb, hml, hown, hts⟩ (cl_worth l D cI cJ bb n jk jg js jm Bv j9 fw (nI yw) hB (by omega) hn6 hfw H.size) (va_cwS 3 hts gL_law_L_worth rfl rfl rfl (by decide +kernel) ⟨Nat.le_of_ble_eq_true rfl, Nat.le_of_ble_eq_true rfl⟩) (jpreS hT hPc_34) rfl rfl hl.1 rfl (lv_room (Nat.le_of_ble_eq_true rfl)) dL_law_312 ⟨(show _ ≤ 600000 by omega), (show _ ≤ 7302250 by omega)⟩) hS hA (fun r_35 H locs hw_r_35 hkq hS => ?_)
          try dsimp only at hw_r_35
          have hP := jkeep hP hkq
          have hJ := hJ.kept hkq
          subst hw_r_35
          refine lv_iadd hx hb dL_law_315 ?_
          refine lv_icmp_eq (tgt := 321) hx hb dL_law_316 (by decide) (fun c_36 => ?_) (fun c_36 => ?_)
          · skip
            refine W.widen (k := 40 + (turn + 1)) (n := 400 + 16 * (turn + 1)) (by omega) (by omega) ?_
            refine lv_iinc (v := nI (turn + 1)) (lv' := [(6, .int (nI (turn + 1))), (10, .int (nI yw)), (9, .int (nI j9)), (8, .int (nI sq)), (7, .int r_2), (0, .ref b), (1, .ref x), (2, .ref bb), (3, .ref dd)]) hx hb dL_law_321 hl (k := 8) rfl ((rfl : nI turn + Int32.ofInt 1 = nI turn + nI 1).trans (nI_add turn 1)) (by decide) rfl (fun ls hl => ?_)
            refine lv_goto (tgt := 179) hx hb dL_law_324 (by decide) ?_
            exact ih_179 (turn + 1, sp1, en1, yr1, jo1, ea1, lo1, uy, uea, ulo, ujo, uta, usp, uen, utY, utW) _ _ _ ⟨hP, hD, hJ, hS, lv_sub hl [5, 6, 7, 8, 0] rfl, (by omega), hNn1, (by omega)⟩ (by dsimp only; omega)
          · skip
            exact absurd (Int32.add_comm _ _) c_36
      · skip
        exact absurd c_26 (by decide)
