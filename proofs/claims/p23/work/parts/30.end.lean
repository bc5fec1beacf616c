abbrev jCx (p : Program) (s : State) (m : MethodId) (c : Code) (b L : Nat) (xs : Nat → Int32) (D : va_G) (cI cJ : ClassId) (A : Nat → Prop) : Prop := p.tables.exec = Jvm.exec ∧ c.code = code ∧ c.maxLocals = 11 ∧ s.vm.findClass RL = some m.cls ∧ (∀ w ∈ lw_tbl, w.before #[Value.ref b] s = true) ∧ va_X b L xs s s.heap ∧ b < s.heap.size ∧ jT D cI cJ s ∧ (∀ q : Nat, s.heap.size ≤ q → A q) ∧ ¬ A b ∧ L ≤ 260
set_option maxHeartbeats 20000000 in
set_option maxRecDepth 100000 in
theorem law_end {p : Program} {e : Env} {s : State} {m : MethodId} {below : List Frame} {meth : Method} {c : Code} {b L : Nat} {xs : Nat → Int32} {D : va_G} {cI cJ : ClassId} {A : Nat → Prop} {Q : State → Prop} {cells slots : Nat} {H : Heap} {locs : List Loc} {ls : Array Slot} {x : Nat} {xj : Nat} {xn : Nat} {ns : Nat} {ne : Nat} {n7 : Nat} {n8 : Nat} {xw : Nat} {w5 : Nat} {w6 : Nat} {w7 : Nat} {w8 : Nat} {bb : Nat} {dd : Nat} {n : Nat} {pn : Nat} {tn : Nat} {yr : Nat} {a0 : Value} {a5 : Value} {a7 : Value} {a10 : Value} {a11 : Value} {lr : Int32} {bd : Int32} {jr : Nat → Option Nat} {jk : Nat → Nat} {jg : Nat → Int32} {js : Nat → Int32} {jm : Nat → Int32} {fw : Nat → Int32 → Int32} {ea : Int32} {lo : Int32} {jo : Int32} {sp : Nat → Int32} {en : Nat → Int32} {tY : Nat → Int32} {tW : Nat → Int32} {Bv : Nat → Int32} {uy : Int32} {uea : Int32} {ulo : Int32} {ujo : Int32} {uta : Int32} {usp : Nat → Int32} {uen : Nat → Int32} {utY : Nat → Int32} {utW : Nat → Int32} (l : Launch) (hC : jCx p s m c b L xs D cI cJ A) (hcl : cells + 2 ≤ 600000) (hsl : slots + 32 ≤ 7302250) (hS : va_S A s.heap H locs) (hl : lv_has ls 11 [(0, .ref b), (1, .ref x), (2, .ref bb), (3, .ref dd)]) (hP : va_P D vwCl [(x, .inr (6, [a0, .int (nI pn), .ref xj, .int (nI n), .ref xn, a5, .ref xw, a7, .int lr, .int bd, a10, a11])), (xj, .inl (cJ, 6, .inr (.inr (.inr (.inr jr))))), (xn, .inr (1, [.int (nI yr), .int ea, .int lo, .int jo, .int (nI tn), .ref ns, .ref ne, .ref n7, .ref n8])), (ns, .inl (cI, 6, .inl sp)), (ne, .inl (cI, 6, .inl en)), (n7, .inl (cI, 6, .inl tY)), (n8, .inl (cI, 6, .inl tW)), (xw, .inr (1, [.int uy, .int uea, .int ulo, .int ujo, .int uta, .ref w5, .ref w6, .ref w7, .ref w8])), (w5, .inl (cI, 6, .inl usp)), (w6, .inl (cI, 6, .inl uen)), (w7, .inl (cI, 6, .inl utY)), (w8, .inl (cI, 6, .inl utW)), (bb, .inl (cI, 19, .inl Bv)), (dd, .inl (cI, 16, .inl (jdd sp en (nI yr) jo ea lo)))] H) (hD : va_D A [(x, .inr (6, [a0, .int (nI pn), .ref xj, .int (nI n), .ref xn, a5, .ref xw, a7, .int lr, .int bd, a10, a11])), (xj, .inl (cJ, 6, .inr (.inr (.inr (.inr jr))))), (xn, .inr (1, [.int (nI yr), .int ea, .int lo, .int jo, .int (nI tn), .ref ns, .ref ne, .ref n7, .ref n8])), (ns, .inl (cI, 6, .inl sp)), (ne, .inl (cI, 6, .inl en)), (n7, .inl (cI, 6, .inl tY)), (n8, .inl (cI, 6, .inl tW)), (xw, .inr (1, [.int uy, .int uea, .int ulo, .int ujo, .int uta, .ref w5, .ref w6, .ref w7, .ref w8])), (w5, .inl (cI, 6, .inl usp)), (w6, .inl (cI, 6, .inl uen)), (w7, .inl (cI, 6, .inl utY)), (w8, .inl (cI, 6, .inl utW)), (bb, .inl (cI, 19, .inl Bv)), (dd, .inl (cI, 16, .inl (jdd sp en (nI yr) jo ea lo)))]) (hJ : jJ D n jr jk jg js jm H) (hap : ∀ i a : Nat, i < n → jr i = some a → a ∉ [x, xj, xn, ns, ne, n7, n8, xw, w5, w6, w7, w8, bb, dd]) (hB : jB n jk jg js jm Bv) (hn0 : 0 < n) (hn6 : n ≤ 6) (hfw : ∀ i : Nat, i < n → ∀ z : Int32, cfw (jk i) (jg i) (jm i) z = fw i z) 
    (kk : ∀ (H' : Heap) (locs' : List Loc) (ls' : Array Slot) (k9 n9 : Nat), va_S A s.heap H' locs' → k9 ≤ 600000 → n9 ≤ 7302250 → W p l e room_1 s m #[Value.ref b] below meth c H' locs' k9 n9 Q (F0 m 525 ls' [.int 1])) : W p l e room_1 s m #[Value.ref b] below meth c H locs cells slots Q (F0 m 327 ls []) := by
  have hC0 := hC
  obtain ⟨hx, hb, hml, hown, htT, hX, hbl, hT, hA, hbA, hL⟩ := hC
  have hK := hT.1
  have hts : ∀ w ∈ wsL_law, w.before #[Value.ref b] s = true := fun w h => htT w (wsL_law_in w h)
  refine lv_aload_n hx hb dL_law_327 rfl (lv_at hl 2 rfl) ?_
  refine lv_iconst (v := 0) hx hb dL_law_328 (by decide) ?_
  refine jv_ald (k := 0) hx hb hK hP 12 0 rfl rfl (by omega) (by decide) dL_law_329 ?_
  refine jv_as (y := nI n) hB.1 ?_
  refine lv_istore (lv' := [(6, .int (nI n)), (0, .ref b), (1, .ref x), (2, .ref bb), (3, .ref dd)]) hx hb dL_law_330 hl (by decide) rfl (fun ls hl => ?_)
  refine lv_aload_n hx hb dL_law_332 rfl (lv_at hl 2 rfl) ?_
  refine lv_aload_n hx hb dL_law_333 rfl (lv_at hl 3 rfl) ?_
  refine lv_aload_n hx hb dL_law_334 rfl (lv_at hl 4 rfl) ?_
  refine lv_bipush (v := 60) hx hb dL_law_335 (by decide) ?_
  refine lv_iconst (v := 0) hx hb dL_law_337 (by decide) ?_
  have hPc_1 := hP.sub (ws' := [(x, .inr (6, [a0, .int (nI pn), .ref xj, .int (nI n), .ref xn, a5, .ref xw, a7, .int lr, .int bd, a10, a11])), (xj, .inl (cJ, 6, .inr (.inr (.inr (.inr jr))))), (xn, .inr (1, [.int (nI yr), .int ea, .int lo, .int jo, .int (nI tn), .ref ns, .ref ne, .ref n7, .ref n8])), (ns, .inl (cI, 6, .inl sp)), (ne, .inl (cI, 6, .inl en)), (n7, .inl (cI, 6, .inl tY)), (n8, .inl (cI, 6, .inl tW)), (xw, .inr (1, [.int uy, .int uea, .int ulo, .int ujo, .int uta, .ref w5, .ref w6, .ref w7, .ref w8])), (w5, .inl (cI, 6, .inl usp)), (w6, .inl (cI, 6, .inl uen)), (w7, .inl (cI, 6, .inl utY)), (w8, .inl (cI, 6, .inl utW)), (bb, .inl (cI, 19, .inl Bv)), (dd, .inl (cI, 16, .inl (jdd sp en (nI yr) jo ea lo)))]) [0, 1, 2, 3, 4, 5, 6, 7, 8, 9, 10, 11, 12, 13] rfl
  have hDc_2 := hD.sub (ws' := [(x, .inr (6, [a0, .int (nI pn), .ref xj, .int (nI n), .ref xn, a5, .ref xw, a7, .int lr, .int bd, a10, a11])), (xj, .inl (cJ, 6, .inr (.inr (.inr (.inr jr))))), (xn, .inr (1, [.int (nI yr), .int ea, .int lo, .int jo, .int (nI tn), .ref ns, .ref ne, .ref n7, .ref n8])), (ns, .inl (cI, 6, .inl sp)), (ne, .inl (cI, 6, .inl en)), (n7, .inl (cI, 6, .inl tY)), (n8, .inl (cI, 6, .inl tW)), (xw, .inr (1, [.int uy, .int uea, .int ulo, .int ujo, .int uta, .ref w5, .ref w6, .ref w7, .ref w8])), (w5, .inl (cI, 6, .inl usp)), (w6, .inl (cI, 6, .inl uen)), (w7, .inl (cI, 6, .inl utY)), (w8, .inl (cI, 6, .inl utW)), (bb, .inl (cI, 19, .inl Bv)), (dd, .inl (cI, 16, .inl (jdd sp en (nI yr) jo ea lo)))]) [0, 1, 2, 3, 4, 5, 6, 7, 8, 9, 10, 11, 12, 13] (by decide) rfl
  have hFc_3 := va_free (wc := [(x, .inr (6, [a0, .int (nI pn), .ref xj, .int (nI n), .ref xn, a5, .ref xw, a7, .int lr, .int bd, a10, a11])), (xj, .inl (cJ, 6, .inr (.inr (.inr (.inr jr))))), (xn, .inr (1, [.int (nI yr), .int ea, .int lo, .int jo, .int (nI tn), .ref ns, .ref ne, .ref n7, .ref n8])), (ns, .inl (cI, 6, .inl sp)), (ne, .inl (cI, 6, .inl en)), (n7, .inl (cI, 6, .inl tY)), (n8, .inl (cI, 6, .inl tW)), (xw, .inr (1, [.int uy, .int uea, .int ulo, .int ujo, .int uta, .ref w5, .ref w6, .ref w7, .ref w8])), (w5, .inl (cI, 6, .inl usp)), (w6, .inl (cI, 6, .inl uen)), (w7, .inl (cI, 6, .inl utY)), (w8, .inl (cI, 6, .inl utW)), (bb, .inl (cI, 19, .inl Bv)), (dd, .inl (cI, 16, .inl (jdd sp en (nI yr) jo ea lo)))]) hD hS hA [0, 1, 2, 3, 4, 5, 6, 7, 8, 9, 10, 11, 12, 13] rfl
  refine jcallWi (post := fun r H => r = 1 ∧ ∃ (uy1 uea1 ulo1 ujo1 uta1 : Int32) (usp1 uen1 utY1 utW1 : Nat → Int32), va_P D vwCl [(x, .inr (6, [a0, (.int (nI pn)), .ref xj, .int (nI n), .ref xn, a5, .ref xw, a7, (.int lr), (.int bd), a10, a11])), (xj, .inl (cJ, 6, .inr (.inr (.inr (.inr jr))))), (xn, .inr (1, [.int (nI yr), .int ea, .int lo, .int jo, .int (nI tn), .ref ns, .ref ne, .ref n7, .ref n8])), (ns, .inl (cI, 6, .inl sp)), (ne, .inl (cI, 6, .inl en)), (n7, .inl (cI, 6, .inl tY)), (n8, .inl (cI, 6, .inl tW)), (xw, .inr (1, [.int uy1, .int uea1, .int ulo1, .int ujo1, .int uta1, .ref w5, .ref w6, .ref w7, .ref w8])), (w5, .inl (cI, 6, .inl usp1)), (w6, .inl (cI, 6, .inl uen1)), (w7, .inl (cI, 6, .inl utY1)), (w8, .inl (cI, 6, .inl utW1)), (bb, .inl (cI, 19, .inl Bv)), (dd, .inl (cI, 16, .inl (jdd sp en (nI yr) jo ea lo)))] H) (va_runS (As := [.ref x, .ref bb, .ref dd, .int 60, .int 0]) (rest := []) ⟨hx, hb, hml, hown, hts⟩ (cl_times l D cI cJ x xj xn ns ne n7 n8 xw w5 w6 w7 w8 n a0 (.int (nI pn)) a5 a7 (.int lr) (.int bd) a10 a11 jr jk jg js jm fw (nI yr) ea lo jo (nI tn) sp en tY tW uy uea ulo ujo uta usp uen utY utW bb dd Bv 60 0 hB hn6 hfw hap hn0 (by decide) (by decide) (by decide) H.size) (va_cwS 5 hts gL_law_L_times rfl rfl rfl (by decide +kernel) ⟨Nat.le_of_ble_eq_true rfl, Nat.le_of_ble_eq_true rfl⟩) (jpreS hT ⟨hPc_1, hDc_2.weaken (fun _ _ _ _ => trivial), hJ⟩) rfl rfl hl.1 rfl (lv_room (Nat.le_of_ble_eq_true rfl)) dL_law_338 ⟨(show _ ≤ 600000 by omega), (show _ ≤ 7302250 by omega)⟩) hS hFc_3 (fun r_4 H locs hw_r_4 hz hkq hS => ?_)
  obtain ⟨hr9, y1a, y1b, y1c, y1d, y1e, f1a, f1b, f1c, f1d, hP1⟩ := hw_r_4
  obtain ⟨hP, hD⟩ := jjoin (wc := [(x, .inr (6, [a0, .int (nI pn), .ref xj, .int (nI n), .ref xn, a5, .ref xw, a7, .int lr, .int bd, a10, a11])), (xj, .inl (cJ, 6, .inr (.inr (.inr (.inr jr))))), (xn, .inr (1, [.int (nI yr), .int ea, .int lo, .int jo, .int (nI tn), .ref ns, .ref ne, .ref n7, .ref n8])), (ns, .inl (cI, 6, .inl sp)), (ne, .inl (cI, 6, .inl en)), (n7, .inl (cI, 6, .inl tY)), (n8, .inl (cI, 6, .inl tW)), (xw, .inr (1, [.int uy, .int uea, .int ulo, .int ujo, .int uta, .ref w5, .ref w6, .ref w7, .ref w8])), (w5, .inl (cI, 6, .inl usp)), (w6, .inl (cI, 6, .inl uen)), (w7, .inl (cI, 6, .inl utY)), (w8, .inl (cI, 6, .inl utW)), (bb, .inl (cI, 19, .inl Bv)), (dd, .inl (cI, 16, .inl (jdd sp en (nI yr) jo ea lo)))]) (wr := []) (w1 := [(x, .inr (6, [a0, .int (nI pn), .ref xj, .int (nI n), .ref xn, a5, .ref xw, a7, .int lr, .int bd, a10, a11])), (xj, .inl (cJ, 6, .inr (.inr (.inr (.inr jr))))), (xn, .inr (1, [.int (nI yr), .int ea, .int lo, .int jo, .int (nI tn), .ref ns, .ref ne, .ref n7, .ref n8])), (ns, .inl (cI, 6, .inl sp)), (ne, .inl (cI, 6, .inl en)), (n7, .inl (cI, 6, .inl tY)), (n8, .inl (cI, 6, .inl tW)), (xw, .inr (1, [.int y1a, .int y1b, .int y1c, .int y1d, .int y1e, .ref w5, .ref w6, .ref w7, .ref w8])), (w5, .inl (cI, 6, .inl f1a)), (w6, .inl (cI, 6, .inl f1b)), (w7, .inl (cI, 6, .inl f1c)), (w8, .inl (cI, 6, .inl f1d)), (bb, .inl (cI, 19, .inl Bv)), (dd, .inl (cI, 16, .inl (jdd sp en (nI yr) jo ea lo)))]) (ws' := [(x, .inr (6, [a0, .int (nI pn), .ref xj, .int (nI n), .ref xn, a5, .ref xw, a7, .int lr, .int bd, a10, a11])), (xj, .inl (cJ, 6, .inr (.inr (.inr (.inr jr))))), (xn, .inr (1, [.int (nI yr), .int ea, .int lo, .int jo, .int (nI tn), .ref ns, .ref ne, .ref n7, .ref n8])), (ns, .inl (cI, 6, .inl sp)), (ne, .inl (cI, 6, .inl en)), (n7, .inl (cI, 6, .inl tY)), (n8, .inl (cI, 6, .inl tW)), (xw, .inr (1, [.int y1a, .int y1b, .int y1c, .int y1d, .int y1e, .ref w5, .ref w6, .ref w7, .ref w8])), (w5, .inl (cI, 6, .inl f1a)), (w6, .inl (cI, 6, .inl f1b)), (w7, .inl (cI, 6, .inl f1c)), (w8, .inl (cI, 6, .inl f1d)), (bb, .inl (cI, 19, .inl Bv)), (dd, .inl (cI, 16, .inl (jdd sp en (nI yr) jo ea lo)))]) hP hD hFc_3 [0, 1, 2, 3, 4, 5, 6, 7, 8, 9, 10, 11, 12, 13] [] [0, 1, 2, 3, 4, 5, 6, 7, 8, 9, 10, 11, 12, 13] rfl rfl (by decide) (by decide) (by decide) (by decide) hkq hP1 rfl rfl rfl
  have hJ := jJ.keptA (A := va_A [(x, .inr (6, [a0, .int (nI pn), .ref xj, .int (nI n), .ref xn, a5, .ref xw, a7, .int lr, .int bd, a10, a11])), (xj, .inl (cJ, 6, .inr (.inr (.inr (.inr jr))))), (xn, .inr (1, [.int (nI yr), .int ea, .int lo, .int jo, .int (nI tn), .ref ns, .ref ne, .ref n7, .ref n8])), (ns, .inl (cI, 6, .inl sp)), (ne, .inl (cI, 6, .inl en)), (n7, .inl (cI, 6, .inl tY)), (n8, .inl (cI, 6, .inl tW)), (xw, .inr (1, [.int uy, .int uea, .int ulo, .int ujo, .int uta, .ref w5, .ref w6, .ref w7, .ref w8])), (w5, .inl (cI, 6, .inl usp)), (w6, .inl (cI, 6, .inl uen)), (w7, .inl (cI, 6, .inl utY)), (w8, .inl (cI, 6, .inl utW)), (bb, .inl (cI, 19, .inl Bv)), (dd, .inl (cI, 16, .inl (jdd sp en (nI yr) jo ea lo)))] _) hJ (fun i a h1 h2 => jap (hJ.lt h1 h2) (fun h => hap i a h1 h2 (jmem [0, 1, 2, 3, 4, 5, 6, 7, 8, 9, 10, 11, 12, 13] rfl h))) hkq
  subst hr9
  refine lv_if_eq (tgt := 524) hx hb dL_law_341 (by decide) (fun c_5 => ?_) (fun c_5 => ?_)
  · skip
    exact absurd c_5 (by decide)
  · skip
    refine lv_aload_n hx hb dL_law_344 rfl (lv_at hl 2 rfl) ?_
    refine lv_aload_n hx hb dL_law_345 rfl (lv_at hl 3 rfl) ?_
    refine lv_aload_n hx hb dL_law_346 rfl (lv_at hl 4 rfl) ?_
    refine lv_iconst (v := 1) hx hb dL_law_347 (by decide) ?_
    refine lv_ldc (v := 2147483647) hx hb hown (hts (Cond.constant RL 88 (2147483647)) (List.mem_of_getElem? (i := 4) rfl)) dL_law_348 ?_
    have hPc_6 := hP.sub (ws' := [(x, .inr (6, [a0, .int (nI pn), .ref xj, .int (nI n), .ref xn, a5, .ref xw, a7, .int lr, .int bd, a10, a11])), (xj, .inl (cJ, 6, .inr (.inr (.inr (.inr jr))))), (xn, .inr (1, [.int (nI yr), .int ea, .int lo, .int jo, .int (nI tn), .ref ns, .ref ne, .ref n7, .ref n8])), (ns, .inl (cI, 6, .inl sp)), (ne, .inl (cI, 6, .inl en)), (n7, .inl (cI, 6, .inl tY)), (n8, .inl (cI, 6, .inl tW)), (xw, .inr (1, [.int y1a, .int y1b, .int y1c, .int y1d, .int y1e, .ref w5, .ref w6, .ref w7, .ref w8])), (w5, .inl (cI, 6, .inl f1a)), (w6, .inl (cI, 6, .inl f1b)), (w7, .inl (cI, 6, .inl f1c)), (w8, .inl (cI, 6, .inl f1d)), (bb, .inl (cI, 19, .inl Bv)), (dd, .inl (cI, 16, .inl (jdd sp en (nI yr) jo ea lo)))]) [0, 1, 2, 3, 4, 5, 6, 7, 8, 9, 10, 11, 12, 13] rfl
    have hDc_7 := hD.sub (ws' := [(x, .inr (6, [a0, .int (nI pn), .ref xj, .int (nI n), .ref xn, a5, .ref xw, a7, .int lr, .int bd, a10, a11])), (xj, .inl (cJ, 6, .inr (.inr (.inr (.inr jr))))), (xn, .inr (1, [.int (nI yr), .int ea, .int lo, .int jo, .int (nI tn), .ref ns, .ref ne, .ref n7, .ref n8])), (ns, .inl (cI, 6, .inl sp)), (ne, .inl (cI, 6, .inl en)), (n7, .inl (cI, 6, .inl tY)), (n8, .inl (cI, 6, .inl tW)), (xw, .inr (1, [.int y1a, .int y1b, .int y1c, .int y1d, .int y1e, .ref w5, .ref w6, .ref w7, .ref w8])), (w5, .inl (cI, 6, .inl f1a)), (w6, .inl (cI, 6, .inl f1b)), (w7, .inl (cI, 6, .inl f1c)), (w8, .inl (cI, 6, .inl f1d)), (bb, .inl (cI, 19, .inl Bv)), (dd, .inl (cI, 16, .inl (jdd sp en (nI yr) jo ea lo)))]) [0, 1, 2, 3, 4, 5, 6, 7, 8, 9, 10, 11, 12, 13] (by decide) rfl
    have hFc_8 := va_free (wc := [(x, .inr (6, [a0, .int (nI pn), .ref xj, .int (nI n), .ref xn, a5, .ref xw, a7, .int lr, .int bd, a10, a11])), (xj, .inl (cJ, 6, .inr (.inr (.inr (.inr jr))))), (xn, .inr (1, [.int (nI yr), .int ea, .int lo, .int jo, .int (nI tn), .ref ns, .ref ne, .ref n7, .ref n8])), (ns, .inl (cI, 6, .inl sp)), (ne, .inl (cI, 6, .inl en)), (n7, .inl (cI, 6, .inl tY)), (n8, .inl (cI, 6, .inl tW)), (xw, .inr (1, [.int y1a, .int y1b, .int y1c, .int y1d, .int y1e, .ref w5, .ref w6, .ref w7, .ref w8])), (w5, .inl (cI, 6, .inl f1a)), (w6, .inl (cI, 6, .inl f1b)), (w7, .inl (cI, 6, .inl f1c)), (w8, .inl (cI, 6, .inl f1d)), (bb, .inl (cI, 19, .inl Bv)), (dd, .inl (cI, 16, .inl (jdd sp en (nI yr) jo ea lo)))]) hD hS hA [0, 1, 2, 3, 4, 5, 6, 7, 8, 9, 10, 11, 12, 13] rfl
    refine jcallWi (post := fun r H => r = 1 ∧ ∃ (uy1 uea1 ulo1 ujo1 uta1 : Int32) (usp1 uen1 utY1 utW1 : Nat → Int32), va_P D vwCl [(x, .inr (6, [a0, (.int (nI pn)), .ref xj, .int (nI n), .ref xn, a5, .ref xw, a7, (.int lr), (.int bd), a10, a11])), (xj, .inl (cJ, 6, .inr (.inr (.inr (.inr jr))))), (xn, .inr (1, [.int (nI yr), .int ea, .int lo, .int jo, .int (nI tn), .ref ns, .ref ne, .ref n7, .ref n8])), (ns, .inl (cI, 6, .inl sp)), (ne, .inl (cI, 6, .inl en)), (n7, .inl (cI, 6, .inl tY)), (n8, .inl (cI, 6, .inl tW)), (xw, .inr (1, [.int uy1, .int uea1, .int ulo1, .int ujo1, .int uta1, .ref w5, .ref w6, .ref w7, .ref w8])), (w5, .inl (cI, 6, .inl usp1)), (w6, .inl (cI, 6, .inl uen1)), (w7, .inl (cI, 6, .inl utY1)), (w8, .inl (cI, 6, .inl utW1)), (bb, .inl (cI, 19, .inl Bv)), (dd, .inl (cI, 16, .inl (jdd sp en (nI yr) jo ea lo)))] H) (va_runS (As := [.ref x, .ref bb, .ref dd, .int 1, .int 2147483647]) (rest := []) ⟨hx, hb, hml, hown, hts⟩ (cl_times l D cI cJ x xj xn ns ne n7 n8 xw w5 w6 w7 w8 n a0 (.int (nI pn)) a5 a7 (.int lr) (.int bd) a10 a11 jr jk jg js jm fw (nI yr) ea lo jo (nI tn) sp en tY tW y1a y1b y1c y1d y1e f1a f1b f1c f1d bb dd Bv 1 2147483647 hB hn6 hfw hap hn0 (by decide) (by decide) (by decide) H.size) (va_cwS 5 hts gL_law_L_times rfl rfl rfl (by decide +kernel) ⟨Nat.le_of_ble_eq_true rfl, Nat.le_of_ble_eq_true rfl⟩) (jpreS hT ⟨hPc_6, hDc_7.weaken (fun _ _ _ _ => trivial), hJ⟩) rfl rfl hl.1 rfl (lv_room (Nat.le_of_ble_eq_true rfl)) dL_law_350 ⟨(show _ ≤ 600000 by omega), (show _ ≤ 7302250 by omega)⟩) hS hFc_8 (fun r_9 H locs hw_r_9 hz hkq hS => ?_)
    obtain ⟨hr9, y2a, y2b, y2c, y2d, y2e, f2a, f2b, f2c, f2d, hP1⟩ := hw_r_9
    obtain ⟨hP, hD⟩ := jjoin (wc := [(x, .inr (6, [a0, .int (nI pn), .ref xj, .int (nI n), .ref xn, a5, .ref xw, a7, .int lr, .int bd, a10, a11])), (xj, .inl (cJ, 6, .inr (.inr (.inr (.inr jr))))), (xn, .inr (1, [.int (nI yr), .int ea, .int lo, .int jo, .int (nI tn), .ref ns, .ref ne, .ref n7, .ref n8])), (ns, .inl (cI, 6, .inl sp)), (ne, .inl (cI, 6, .inl en)), (n7, .inl (cI, 6, .inl tY)), (n8, .inl (cI, 6, .inl tW)), (xw, .inr (1, [.int y1a, .int y1b, .int y1c, .int y1d, .int y1e, .ref w5, .ref w6, .ref w7, .ref w8])), (w5, .inl (cI, 6, .inl f1a)), (w6, .inl (cI, 6, .inl f1b)), (w7, .inl (cI, 6, .inl f1c)), (w8, .inl (cI, 6, .inl f1d)), (bb, .inl (cI, 19, .inl Bv)), (dd, .inl (cI, 16, .inl (jdd sp en (nI yr) jo ea lo)))]) (wr := []) (w1 := [(x, .inr (6, [a0, .int (nI pn), .ref xj, .int (nI n), .ref xn, a5, .ref xw, a7, .int lr, .int bd, a10, a11])), (xj, .inl (cJ, 6, .inr (.inr (.inr (.inr jr))))), (xn, .inr (1, [.int (nI yr), .int ea, .int lo, .int jo, .int (nI tn), .ref ns, .ref ne, .ref n7, .ref n8])), (ns, .inl (cI, 6, .inl sp)), (ne, .inl (cI, 6, .inl en)), (n7, .inl (cI, 6, .inl tY)), (n8, .inl (cI, 6, .inl tW)), (xw, .inr (1, [.int y2a, .int y2b, .int y2c, .int y2d, .int y2e, .ref w5, .ref w6, .ref w7, .ref w8])), (w5, .inl (cI, 6, .inl f2a)), (w6, .inl (cI, 6, .inl f2b)), (w7, .inl (cI, 6, .inl f2c)), (w8, .inl (cI, 6, .inl f2d)), (bb, .inl (cI, 19, .inl Bv)), (dd, .inl (cI, 16, .inl (jdd sp en (nI yr) jo ea lo)))]) (ws' := [(x, .inr (6, [a0, .int (nI pn), .ref xj, .int (nI n), .ref xn, a5, .ref xw, a7, .int lr, .int bd, a10, a11])), (xj, .inl (cJ, 6, .inr (.inr (.inr (.inr jr))))), (xn, .inr (1, [.int (nI yr), .int ea, .int lo, .int jo, .int (nI tn), .ref ns, .ref ne, .ref n7, .ref n8])), (ns, .inl (cI, 6, .inl sp)), (ne, .inl (cI, 6, .inl en)), (n7, .inl (cI, 6, .inl tY)), (n8, .inl (cI, 6, .inl tW)), (xw, .inr (1, [.int y2a, .int y2b, .int y2c, .int y2d, .int y2e, .ref w5, .ref w6, .ref w7, .ref w8])), (w5, .inl (cI, 6, .inl f2a)), (w6, .inl (cI, 6, .inl f2b)), (w7, .inl (cI, 6, .inl f2c)), (w8, .inl (cI, 6, .inl f2d)), (bb, .inl (cI, 19, .inl Bv)), (dd, .inl (cI, 16, .inl (jdd sp en (nI yr) jo ea lo)))]) hP hD hFc_8 [0, 1, 2, 3, 4, 5, 6, 7, 8, 9, 10, 11, 12, 13] [] [0, 1, 2, 3, 4, 5, 6, 7, 8, 9, 10, 11, 12, 13] rfl rfl (by decide) (by decide) (by decide) (by decide) hkq hP1 rfl rfl rfl
    have hJ := jJ.keptA (A := va_A [(x, .inr (6, [a0, .int (nI pn), .ref xj, .int (nI n), .ref xn, a5, .ref xw, a7, .int lr, .int bd, a10, a11])), (xj, .inl (cJ, 6, .inr (.inr (.inr (.inr jr))))), (xn, .inr (1, [.int (nI yr), .int ea, .int lo, .int jo, .int (nI tn), .ref ns, .ref ne, .ref n7, .ref n8])), (ns, .inl (cI, 6, .inl sp)), (ne, .inl (cI, 6, .inl en)), (n7, .inl (cI, 6, .inl tY)), (n8, .inl (cI, 6, .inl tW)), (xw, .inr (1, [.int y1a, .int y1b, .int y1c, .int y1d, .int y1e, .ref w5, .ref w6, .ref w7, .ref w8])), (w5, .inl (cI, 6, .inl f1a)), (w6, .inl (cI, 6, .inl f1b)), (w7, .inl (cI, 6, .inl f1c)), (w8, .inl (cI, 6, .inl f1d)), (bb, .inl (cI, 19, .inl Bv)), (dd, .inl (cI, 16, .inl (jdd sp en (nI yr) jo ea lo)))] _) hJ (fun i a h1 h2 => jap (hJ.lt h1 h2) (fun h => hap i a h1 h2 (jmem [0, 1, 2, 3, 4, 5, 6, 7, 8, 9, 10, 11, 12, 13] rfl h))) hkq
    subst hr9
    refine lv_if_eq (tgt := 524) hx hb dL_law_353 (by decide) (fun c_10 => ?_) (fun c_10 => ?_)
    · skip
      exact absurd c_10 (by decide)
    · skip
      refine lv_aload_n hx hb dL_law_356 rfl (lv_at hl 2 rfl) ?_
      refine lv_iload hx hb dL_law_357 (lv_at hl 0 rfl) ?_
      refine lv_iconst (v := 0) hx hb dL_law_359 (by decide) ?_
      have hPc_11 := hP.sub (ws' := [(x, .inr (6, [a0, .int (nI pn), .ref xj, .int (nI n), .ref xn, a5, .ref xw, a7, .int lr, .int bd, a10, a11])), (xj, .inl (cJ, 6, .inr (.inr (.inr (.inr jr)))))]) [0, 1] rfl
      refine jcalli (va_runV (As := [.int (nI n), .int 0]) (rest := []) ⟨hx, hb, hml, hown, hts⟩ (c_jar_no l D cI cJ x xj n a0 (.int (nI pn)) (.ref xn) a5 (.ref xw) a7 (.int lr) (.int bd) a10 a11 jr (nI n) 0 (Or.inr (lrf _)) H.size) (cwV 2 hts gL_law_X6_jar rfl rfl rfl (by decide +kernel) ⟨Nat.le_of_ble_eq_true rfl, Nat.le_of_ble_eq_true rfl⟩) (jpreV hT (va_recv hK hP (ci := 6) (q0 := 0) rfl rfl) hPc_11) rfl rfl hl.1 rfl (lv_room (Nat.le_of_ble_eq_true rfl)) dL_law_360 ⟨(show _ ≤ 600000 by omega), (show _ ≤ 7302250 by omega)⟩) hS hA (fun r_12 H locs hw_r_12 hkq hS => ?_)
      try dsimp only at hw_r_12
      have hP := jkeep hP hkq
      have hJ := hJ.kept hkq
      subst hw_r_12
      refine lv_bipush (v := (-101)) hx hb dL_law_363 (by decide) ?_
      refine lv_icmp_ne (tgt := 524) hx hb dL_law_365 (by decide) (fun c_13 => ?_) (fun c_13 => ?_)
      · skip
        exact absurd c_13 (by decide)
      · skip
        refine lv_aload_n hx hb dL_law_368 rfl (lv_at hl 2 rfl) ?_
        refine lv_iconst (v := (-1)) hx hb dL_law_369 (by decide) ?_
        refine lv_iconst (v := 0) hx hb dL_law_370 (by decide) ?_
        have hPc_14 := hP.sub (ws' := [(x, .inr (6, [a0, .int (nI pn), .ref xj, .int (nI n), .ref xn, a5, .ref xw, a7, .int lr, .int bd, a10, a11])), (xj, .inl (cJ, 6, .inr (.inr (.inr (.inr jr)))))]) [0, 1] rfl
        refine jcalli (va_runV (As := [.int (-1), .int 0]) (rest := []) ⟨hx, hb, hml, hown, hts⟩ (c_jar_no l D cI cJ x xj n a0 (.int (nI pn)) (.ref xn) a5 (.ref xw) a7 (.int lr) (.int bd) a10 a11 jr (-1) 0 (Or.inl (by decide)) H.size) (cwV 2 hts gL_law_X6_jar rfl rfl rfl (by decide +kernel) ⟨Nat.le_of_ble_eq_true rfl, Nat.le_of_ble_eq_true rfl⟩) (jpreV hT (va_recv hK hP (ci := 6) (q0 := 0) rfl rfl) hPc_14) rfl rfl hl.1 rfl (lv_room (Nat.le_of_ble_eq_true rfl)) dL_law_371 ⟨(show _ ≤ 600000 by omega), (show _ ≤ 7302250 by omega)⟩) hS hA (fun r_15 H locs hw_r_15 hkq hS => ?_)
        try dsimp only at hw_r_15
        have hP := jkeep hP hkq
        have hJ := hJ.kept hkq
        subst hw_r_15
        refine lv_bipush (v := (-101)) hx hb dL_law_374 (by decide) ?_
        refine lv_icmp_ne (tgt := 524) hx hb dL_law_376 (by decide) (fun c_16 => ?_) (fun c_16 => ?_)
        · skip
          exact absurd c_16 (by decide)
        · skip
          refine lv_aload_n hx hb dL_law_379 rfl (lv_at hl 2 rfl) ?_
          refine lv_iconst (v := 0) hx hb dL_law_380 (by decide) ?_
          refine lv_bipush (v := 8) hx hb dL_law_381 (by decide) ?_
          have hPc_17 := hP.sub (ws' := [(x, .inr (6, [a0, .int (nI pn), .ref xj, .int (nI n), .ref xn, a5, .ref xw, a7, .int lr, .int bd, a10, a11])), (xj, .inl (cJ, 6, .inr (.inr (.inr (.inr jr)))))]) [0, 1] rfl
          refine jcalli (va_runV (As := [.int 0, .int 8]) (rest := []) ⟨hx, hb, hml, hown, hts⟩ (c_jar_out l D cI cJ x xj n a0 (.int (nI pn)) (.ref xn) a5 (.ref xw) a7 (.int lr) (.int bd) a10 a11 jr jk jg js jm 0 8 hn0 hn6 (by decide) H.size) (cwV 2 hts gL_law_X6_jar rfl rfl rfl (by decide +kernel) ⟨Nat.le_of_ble_eq_true rfl, Nat.le_of_ble_eq_true rfl⟩) (jpreV hT (va_recv hK hP (ci := 6) (q0 := 0) rfl rfl) ⟨hPc_17, hJ⟩) rfl rfl hl.1 rfl (lv_room (Nat.le_of_ble_eq_true rfl)) dL_law_383 ⟨(show _ ≤ 600000 by omega), (show _ ≤ 7302250 by omega)⟩) hS hA (fun r_18 H locs hw_r_18 hkq hS => ?_)
          try dsimp only at hw_r_18
          have hP := jkeep hP hkq
          have hJ := hJ.kept hkq
          subst hw_r_18
          refine lv_bipush (v := (-102)) hx hb dL_law_386 (by decide) ?_
          refine lv_icmp_ne (tgt := 524) hx hb dL_law_388 (by decide) (fun c_19 => ?_) (fun c_19 => ?_)
          · skip
            exact absurd c_19 (by decide)
          · skip
            refine lv_aload_n hx hb dL_law_391 rfl (lv_at hl 2 rfl) ?_
            refine lv_iload hx hb dL_law_392 (lv_at hl 0 rfl) ?_
            refine lv_iconst (v := 0) hx hb dL_law_394 (by decide) ?_
            have hPc_20 := hP.sub (ws' := [(x, .inr (6, [a0, .int (nI pn), .ref xj, .int (nI n), .ref xn, a5, .ref xw, a7, .int lr, .int bd, a10, a11])), (xj, .inl (cJ, 6, .inr (.inr (.inr (.inr jr)))))]) [0, 1] rfl
            refine jcalli (va_runV (As := [.int (nI n), .int 0]) (rest := []) ⟨hx, hb, hml, hown, hts⟩ (c_as_no l D cI cJ x xj n a0 (.int (nI pn)) (.ref xn) a5 (.ref xw) a7 (.int lr) (.int bd) a10 a11 jr (nI n) 0 (Or.inr (lrf _)) H.size) (cwV 2 hts gL_law_X6_as rfl rfl rfl (by decide +kernel) ⟨Nat.le_of_ble_eq_true rfl, Nat.le_of_ble_eq_true rfl⟩) (jpreV hT (va_recv hK hP (ci := 6) (q0 := 0) rfl rfl) hPc_20) rfl rfl hl.1 rfl (lv_room (Nat.le_of_ble_eq_true rfl)) dL_law_395 ⟨(show _ ≤ 600000 by omega), (show _ ≤ 7302250 by omega)⟩) hS hA (fun r_21 H locs hw_r_21 hkq hS => ?_)
            try dsimp only at hw_r_21
            have hP := jkeep hP hkq
            have hJ := hJ.kept hkq
            subst hw_r_21
            refine lv_bipush (v := (-101)) hx hb dL_law_398 (by decide) ?_
            refine lv_icmp_ne (tgt := 524) hx hb dL_law_400 (by decide) (fun c_22 => ?_) (fun c_22 => ?_)
            · skip
              exact absurd c_22 (by decide)
            · skip
              refine lv_aload_n hx hb dL_law_403 rfl (lv_at hl 2 rfl) ?_
              refine lv_iconst (v := 0) hx hb dL_law_404 (by decide) ?_
              refine lv_iconst (v := 5) hx hb dL_law_405 (by decide) ?_
              have hPc_23 := hP.sub (ws' := [(x, .inr (6, [a0, .int (nI pn), .ref xj, .int (nI n), .ref xn, a5, .ref xw, a7, .int lr, .int bd, a10, a11])), (xj, .inl (cJ, 6, .inr (.inr (.inr (.inr jr)))))]) [0, 1] rfl
              refine jcalli (va_runV (As := [.int 0, .int 5]) (rest := []) ⟨hx, hb, hml, hown, hts⟩ (c_as_out l D cI cJ x xj n a0 (.int (nI pn)) (.ref xn) a5 (.ref xw) a7 (.int lr) (.int bd) a10 a11 jr jk jg js jm 0 5 hn0 hn6 (by decide) H.size) (cwV 2 hts gL_law_X6_as rfl rfl rfl (by decide +kernel) ⟨Nat.le_of_ble_eq_true rfl, Nat.le_of_ble_eq_true rfl⟩) (jpreV hT (va_recv hK hP (ci := 6) (q0 := 0) rfl rfl) ⟨hPc_23, hJ⟩) rfl rfl hl.1 rfl (lv_room (Nat.le_of_ble_eq_true rfl)) dL_law_406 ⟨(show _ ≤ 600000 by omega), (show _ ≤ 7302250 by omega)⟩) hS hA (fun r_24 H locs hw_r_24 hkq hS => ?_)
              try dsimp only at hw_r_24
              have hP := jkeep hP hkq
              have hJ := hJ.kept hkq
              subst hw_r_24
              refine lv_bipush (v := (-102)) hx hb dL_law_409 (by decide) ?_
              refine lv_icmp_ne (tgt := 524) hx hb dL_law_411 (by decide) (fun c_25 => ?_) (fun c_25 => ?_)
              · skip
                exact absurd c_25 (by decide)
              · skip
                refine lv_aload_n hx hb dL_law_414 rfl (lv_at hl 2 rfl) ?_
                refine lv_iload hx hb dL_law_415 (lv_at hl 0 rfl) ?_
                refine lv_iconst (v := 0) hx hb dL_law_417 (by decide) ?_
                have hPc_26 := hP.sub (ws' := [(x, .inr (6, [a0, .int (nI pn), .ref xj, .int (nI n), .ref xn, a5, .ref xw, a7, .int lr, .int bd, a10, a11])), (xj, .inl (cJ, 6, .inr (.inr (.inr (.inr jr)))))]) [0, 1] rfl
                refine jcalli (va_runV (As := [.int (nI n), .int 0]) (rest := []) ⟨hx, hb, hml, hown, hts⟩ (c_worth_no l D cI cJ x xj n a0 (.int (nI pn)) (.ref xn) a5 (.ref xw) a7 (.int lr) (.int bd) a10 a11 jr (nI n) 0 (Or.inr (lrf _)) H.size) (cwV 2 hts gL_law_X6_worth rfl rfl rfl (by decide +kernel) ⟨Nat.le_of_ble_eq_true rfl, Nat.le_of_ble_eq_true rfl⟩) (jpreV hT (va_recv hK hP (ci := 6) (q0 := 0) rfl rfl) hPc_26) rfl rfl hl.1 rfl (lv_room (Nat.le_of_ble_eq_true rfl)) dL_law_418 ⟨(show _ ≤ 600000 by omega), (show _ ≤ 7302250 by omega)⟩) hS hA (fun r_27 H locs hw_r_27 hkq hS => ?_)
                try dsimp only at hw_r_27
                have hP := jkeep hP hkq
                have hJ := hJ.kept hkq
                subst hw_r_27
                refine lv_bipush (v := (-101)) hx hb dL_law_421 (by decide) ?_
                refine lv_icmp_ne (tgt := 524) hx hb dL_law_423 (by decide) (fun c_28 => ?_) (fun c_28 => ?_)
                · skip
                  exact absurd c_28 (by decide)
                · skip
                  refine lv_aload_n hx hb dL_law_426 rfl (lv_at hl 2 rfl) ?_
                  refine lv_iconst (v := 0) hx hb dL_law_427 (by decide) ?_
                  refine lv_bipush (v := 100) hx hb dL_law_428 (by decide) ?_
                  have hPc_29 := hP.sub (ws' := [(x, .inr (6, [a0, .int (nI pn), .ref xj, .int (nI n), .ref xn, a5, .ref xw, a7, .int lr, .int bd, a10, a11])), (xj, .inl (cJ, 6, .inr (.inr (.inr (.inr jr)))))]) [0, 1] rfl
                  refine jcalli (va_runV (As := [.int 0, .int 100]) (rest := []) ⟨hx, hb, hml, hown, hts⟩ (c_worth_out l D cI cJ x xj n a0 (.int (nI pn)) (.ref xn) a5 (.ref xw) a7 (.int lr) (.int bd) a10 a11 jr jk jg js jm 0 100 hn0 hn6 (by decide) H.size) (cwV 2 hts gL_law_X6_worth rfl rfl rfl (by decide +kernel) ⟨Nat.le_of_ble_eq_true rfl, Nat.le_of_ble_eq_true rfl⟩) (jpreV hT (va_recv hK hP (ci := 6) (q0 := 0) rfl rfl) ⟨hPc_29, hJ⟩) rfl rfl hl.1 rfl (lv_room (Nat.le_of_ble_eq_true rfl)) dL_law_430 ⟨(show _ ≤ 600000 by omega), (show _ ≤ 7302250 by omega)⟩) hS hA (fun r_30 H locs hw_r_30 hkq hS => ?_)
                  try dsimp only at hw_r_30
                  have hP := jkeep hP hkq
                  have hJ := hJ.kept hkq
                  subst hw_r_30
                  refine lv_bipush (v := (-102)) hx hb dL_law_433 (by decide) ?_
                  refine lv_icmp_ne (tgt := 524) hx hb dL_law_435 (by decide) (fun c_31 => ?_) (fun c_31 => ?_)
                  · skip
                    exact absurd c_31 (by decide)
                  · skip
                    refine lv_aload_n hx hb dL_law_438 rfl (lv_at hl 2 rfl) ?_
                    refine lv_iconst (v := 0) hx hb dL_law_439 (by decide) ?_
                    refine lv_iconst (v := (-1)) hx hb dL_law_440 (by decide) ?_
                    have hPc_32 := hP.sub (ws' := [(x, .inr (6, [a0, .int (nI pn), .ref xj, .int (nI n), .ref xn, a5, .ref xw, a7, .int lr, .int bd, a10, a11])), (xj, .inl (cJ, 6, .inr (.inr (.inr (.inr jr)))))]) [0, 1] rfl
                    refine jcalli (va_runV (As := [.int 0, .int (-1)]) (rest := []) ⟨hx, hb, hml, hown, hts⟩ (c_worth_out l D cI cJ x xj n a0 (.int (nI pn)) (.ref xn) a5 (.ref xw) a7 (.int lr) (.int bd) a10 a11 jr jk jg js jm 0 (-1) hn0 hn6 (by decide) H.size) (cwV 2 hts gL_law_X6_worth rfl rfl rfl (by decide +kernel) ⟨Nat.le_of_ble_eq_true rfl, Nat.le_of_ble_eq_true rfl⟩) (jpreV hT (va_recv hK hP (ci := 6) (q0 := 0) rfl rfl) ⟨hPc_32, hJ⟩) rfl rfl hl.1 rfl (lv_room (Nat.le_of_ble_eq_true rfl)) dL_law_441 ⟨(show _ ≤ 600000 by omega), (show _ ≤ 7302250 by omega)⟩) hS hA (fun r_33 H locs hw_r_33 hkq hS => ?_)
                    try dsimp only at hw_r_33
                    have hP := jkeep hP hkq
                    have hJ := hJ.kept hkq
                    subst hw_r_33
                    refine lv_bipush (v := (-102)) hx hb dL_law_444 (by decide) ?_
                    refine lv_icmp_ne (tgt := 524) hx hb dL_law_446 (by decide) (fun c_34 => ?_) (fun c_34 => ?_)
                    · skip
                      exact absurd c_34 (by decide)
                    · skip
                      refine lv_aload_n hx hb dL_law_449 rfl (lv_at hl 2 rfl) ?_
                      refine lv_iload hx hb dL_law_450 (lv_at hl 0 rfl) ?_
                      have hPc_35 := hP.sub (ws' := [(x, .inr (6, [a0, .int (nI pn), .ref xj, .int (nI n), .ref xn, a5, .ref xw, a7, .int lr, .int bd, a10, a11])), (xj, .inl (cJ, 6, .inr (.inr (.inr (.inr jr)))))]) [0, 1] rfl
                      refine jcalli (va_runV (As := [.int (nI n)]) (rest := []) ⟨hx, hb, hml, hown, hts⟩ (c_eat_no l D cI cJ x xj n a0 (.int (nI pn)) (.ref xn) a5 (.ref xw) a7 (.int lr) (.int bd) a10 a11 jr (nI n) (Or.inr (lrf _)) H.size) (cwV 1 hts gL_law_X6_eat rfl rfl rfl (by decide +kernel) ⟨Nat.le_of_ble_eq_true rfl, Nat.le_of_ble_eq_true rfl⟩) (jpreV hT (va_recv hK hP (ci := 6) (q0 := 0) rfl rfl) hPc_35) rfl rfl hl.1 rfl (lv_room (Nat.le_of_ble_eq_true rfl)) dL_law_452 ⟨(show _ ≤ 600000 by omega), (show _ ≤ 7302250 by omega)⟩) hS hA (fun r_36 H locs hw_r_36 hkq hS => ?_)
                      try dsimp only at hw_r_36
                      have hP := jkeep hP hkq
                      have hJ := hJ.kept hkq
                      subst hw_r_36
                      refine lv_bipush (v := (-101)) hx hb dL_law_455 (by decide) ?_
                      refine lv_icmp_ne (tgt := 524) hx hb dL_law_457 (by decide) (fun c_37 => ?_) (fun c_37 => ?_)
                      · skip
                        exact absurd c_37 (by decide)
                      · skip
                        refine lv_aload_n hx hb dL_law_460 rfl (lv_at hl 2 rfl) ?_
                        refine lv_iload hx hb dL_law_461 (lv_at hl 0 rfl) ?_
                        have hPc_38 := hP.sub (ws' := [(x, .inr (6, [a0, .int (nI pn), .ref xj, .int (nI n), .ref xn, a5, .ref xw, a7, .int lr, .int bd, a10, a11])), (xj, .inl (cJ, 6, .inr (.inr (.inr (.inr jr)))))]) [0, 1] rfl
                        refine jcalli (va_runV (As := [.int (nI n)]) (rest := []) ⟨hx, hb, hml, hown, hts⟩ (c_wasps_no l D cI cJ x xj n a0 (.int (nI pn)) (.ref xn) a5 (.ref xw) a7 (.int lr) (.int bd) a10 a11 jr (nI n) (Or.inr (lrf _)) H.size) (cwV 1 hts gL_law_X6_wasps rfl rfl rfl (by decide +kernel) ⟨Nat.le_of_ble_eq_true rfl, Nat.le_of_ble_eq_true rfl⟩) (jpreV hT (va_recv hK hP (ci := 6) (q0 := 0) rfl rfl) hPc_38) rfl rfl hl.1 rfl (lv_room (Nat.le_of_ble_eq_true rfl)) dL_law_463 ⟨(show _ ≤ 600000 by omega), (show _ ≤ 7302250 by omega)⟩) hS hA (fun r_39 H locs hw_r_39 hkq hS => ?_)
                        try dsimp only at hw_r_39
                        have hP := jkeep hP hkq
                        have hJ := hJ.kept hkq
                        subst hw_r_39
                        refine lv_bipush (v := (-101)) hx hb dL_law_466 (by decide) ?_
                        refine lv_icmp_ne (tgt := 524) hx hb dL_law_468 (by decide) (fun c_40 => ?_) (fun c_40 => ?_)
                        · skip
                          exact absurd c_40 (by decide)
                        · skip
                          refine lv_aload_n hx hb dL_law_471 rfl (lv_at hl 2 rfl) ?_
                          refine lv_iconst (v := 0) hx hb dL_law_472 (by decide) ?_
                          refine lv_iconst (v := 0) hx hb dL_law_473 (by decide) ?_
                          refine lv_iconst (v := 0) hx hb dL_law_474 (by decide) ?_
                          refine jcalli (va_runV (As := [.int 0, .int 0, .int 0]) (rest := []) ⟨hx, hb, hml, hown, hts⟩ (c_times_out1 l D cI cJ x 0 0 0 (by decide) H.size) (cwV 3 hts gL_law_X6_times rfl rfl rfl (by decide +kernel) ⟨Nat.le_of_ble_eq_true rfl, Nat.le_of_ble_eq_true rfl⟩) (jpreV hT (va_recv hK hP (ci := 6) (q0 := 0) rfl rfl) trivial) rfl rfl hl.1 rfl (lv_room (Nat.le_of_ble_eq_true rfl)) dL_law_475 ⟨(show _ ≤ 600000 by omega), (show _ ≤ 7302250 by omega)⟩) hS hA (fun r_41 H locs hw_r_41 hkq hS => ?_)
                          try dsimp only at hw_r_41
                          have hP := jkeep hP hkq
                          have hJ := hJ.kept hkq
                          subst hw_r_41
                          refine lv_bipush (v := (-102)) hx hb dL_law_478 (by decide) ?_
                          refine lv_icmp_ne (tgt := 524) hx hb dL_law_480 (by decide) (fun c_42 => ?_) (fun c_42 => ?_)
                          · skip
                            exact absurd c_42 (by decide)
                          · skip
                            refine lv_aload_n hx hb dL_law_483 rfl (lv_at hl 2 rfl) ?_
                            refine lv_bipush (v := 61) hx hb dL_law_484 (by decide) ?_
                            refine lv_iconst (v := 0) hx hb dL_law_486 (by decide) ?_
                            refine lv_iconst (v := 0) hx hb dL_law_487 (by decide) ?_
                            refine jcalli (va_runV (As := [.int 61, .int 0, .int 0]) (rest := []) ⟨hx, hb, hml, hown, hts⟩ (c_times_out1 l D cI cJ x 61 0 0 (by decide) H.size) (cwV 3 hts gL_law_X6_times rfl rfl rfl (by decide +kernel) ⟨Nat.le_of_ble_eq_true rfl, Nat.le_of_ble_eq_true rfl⟩) (jpreV hT (va_recv hK hP (ci := 6) (q0 := 0) rfl rfl) trivial) rfl rfl hl.1 rfl (lv_room (Nat.le_of_ble_eq_true rfl)) dL_law_488 ⟨(show _ ≤ 600000 by omega), (show _ ≤ 7302250 by omega)⟩) hS hA (fun r_43 H locs hw_r_43 hkq hS => ?_)
                            try dsimp only at hw_r_43
                            have hP := jkeep hP hkq
                            have hJ := hJ.kept hkq
                            subst hw_r_43
                            refine lv_bipush (v := (-102)) hx hb dL_law_491 (by decide) ?_
                            refine lv_icmp_ne (tgt := 524) hx hb dL_law_493 (by decide) (fun c_44 => ?_) (fun c_44 => ?_)
                            · skip
                              exact absurd c_44 (by decide)
                            · skip
                              refine lv_aload_n hx hb dL_law_496 rfl (lv_at hl 2 rfl) ?_
                              refine lv_iconst (v := 1) hx hb dL_law_497 (by decide) ?_
                              refine lv_iconst (v := (-1)) hx hb dL_law_498 (by decide) ?_
                              refine lv_iconst (v := 0) hx hb dL_law_499 (by decide) ?_
                              refine jcalli (va_runV (As := [.int 1, .int (-1), .int 0]) (rest := []) ⟨hx, hb, hml, hown, hts⟩ (c_times_out2 l D cI cJ x 1 (-1) 0 (by decide) (by decide) (by decide) H.size) (cwV 3 hts gL_law_X6_times rfl rfl rfl (by decide +kernel) ⟨Nat.le_of_ble_eq_true rfl, Nat.le_of_ble_eq_true rfl⟩) (jpreV hT (va_recv hK hP (ci := 6) (q0 := 0) rfl rfl) trivial) rfl rfl hl.1 rfl (lv_room (Nat.le_of_ble_eq_true rfl)) dL_law_500 ⟨(show _ ≤ 600000 by omega), (show _ ≤ 7302250 by omega)⟩) hS hA (fun r_45 H locs hw_r_45 hkq hS => ?_)
                              try dsimp only at hw_r_45
                              have hP := jkeep hP hkq
                              have hJ := hJ.kept hkq
                              subst hw_r_45
                              refine lv_bipush (v := (-102)) hx hb dL_law_503 (by decide) ?_
                              refine lv_icmp_ne (tgt := 524) hx hb dL_law_505 (by decide) (fun c_46 => ?_) (fun c_46 => ?_)
                              · skip
                                exact absurd c_46 (by decide)
                              · skip
                                refine lv_aload_n hx hb dL_law_508 rfl (lv_at hl 2 rfl) ?_
                                refine lv_iconst (v := 1) hx hb dL_law_509 (by decide) ?_
                                refine lv_iconst (v := 0) hx hb dL_law_510 (by decide) ?_
                                refine lv_iconst (v := 3) hx hb dL_law_511 (by decide) ?_
                                refine jcalli (va_runV (As := [.int 1, .int 0, .int 3]) (rest := []) ⟨hx, hb, hml, hown, hts⟩ (c_times_out3 l D cI cJ x 1 0 3 (by decide) (by decide) (by decide) (by decide) H.size) (cwV 3 hts gL_law_X6_times rfl rfl rfl (by decide +kernel) ⟨Nat.le_of_ble_eq_true rfl, Nat.le_of_ble_eq_true rfl⟩) (jpreV hT (va_recv hK hP (ci := 6) (q0 := 0) rfl rfl) trivial) rfl rfl hl.1 rfl (lv_room (Nat.le_of_ble_eq_true rfl)) dL_law_512 ⟨(show _ ≤ 600000 by omega), (show _ ≤ 7302250 by omega)⟩) hS hA (fun r_47 H locs hw_r_47 hkq hS => ?_)
                                try dsimp only at hw_r_47
                                have hP := jkeep hP hkq
                                have hJ := hJ.kept hkq
                                subst hw_r_47
                                refine lv_bipush (v := (-102)) hx hb dL_law_515 (by decide) ?_
                                refine lv_icmp_ne (tgt := 524) hx hb dL_law_517 (by decide) (fun c_48 => ?_) (fun c_48 => ?_)
                                · skip
                                  exact absurd c_48 (by decide)
                                · skip
                                  refine lv_iconst (v := 1) hx hb dL_law_520 (by decide) ?_
                                  refine lv_goto (tgt := 525) hx hb dL_law_521 (by decide) ?_
                                  exact kk H locs ls _ _ hS (by omega) (by omega)
