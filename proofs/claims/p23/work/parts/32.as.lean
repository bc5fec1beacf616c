set_option maxHeartbeats 20000000 in
set_option maxRecDepth 100000 in
theorem law_as {p : Program} {e : Env} {s : State} {m : MethodId} {below : List Frame} {meth : Method} {c : Code} {b L : Nat} {xs : Nat → Int32} {D : va_G} {cI cJ : ClassId} {A : Nat → Prop} {Q : State → Prop} {H : Heap} {locs : List Loc} {ls : Array Slot} {x : Nat} {xj : Nat} {xn : Nat} {ns : Nat} {ne : Nat} {n7 : Nat} {n8 : Nat} {xw : Nat} {w5 : Nat} {w6 : Nat} {w7 : Nat} {w8 : Nat} {bb : Nat} {dd : Nat} {n : Nat} {pn : Nat} {tn : Nat} {yr : Nat} {a0 : Value} {a5 : Value} {a7 : Value} {a10 : Value} {a11 : Value} {lr : Int32} {bd : Int32} {jr : Nat → Option Nat} {jk : Nat → Nat} {jg : Nat → Int32} {js : Nat → Int32} {jm : Nat → Int32} {fw : Nat → Int32 → Int32} {ea : Int32} {lo : Int32} {jo : Int32} {sp : Nat → Int32} {en : Nat → Int32} {tY : Nat → Int32} {tW : Nat → Int32} {Bv : Nat → Int32} {uy : Int32} {uea : Int32} {ulo : Int32} {ujo : Int32} {uta : Int32} {usp : Nat → Int32} {uen : Nat → Int32} {utY : Nat → Int32} {utW : Nat → Int32} (l : Launch) (hC : jCx p s m c b L xs D cI cJ A)  (hS : va_S A s.heap H locs) (hl : lv_has ls 11 [(0, .ref b), (1, .ref x), (2, .ref bb), (3, .ref dd)]) (hP : va_P D vwCl [(x, .inr (6, [a0, .int (nI pn), .ref xj, .int (nI n), .ref xn, a5, .ref xw, a7, .int lr, .int bd, a10, a11])), (xj, .inl (cJ, 6, .inr (.inr (.inr (.inr jr))))), (xn, .inr (1, [.int (nI yr), .int ea, .int lo, .int jo, .int (nI tn), .ref ns, .ref ne, .ref n7, .ref n8])), (ns, .inl (cI, 6, .inl sp)), (ne, .inl (cI, 6, .inl en)), (n7, .inl (cI, 6, .inl tY)), (n8, .inl (cI, 6, .inl tW)), (xw, .inr (1, [.int uy, .int uea, .int ulo, .int ujo, .int uta, .ref w5, .ref w6, .ref w7, .ref w8])), (w5, .inl (cI, 6, .inl usp)), (w6, .inl (cI, 6, .inl uen)), (w7, .inl (cI, 6, .inl utY)), (w8, .inl (cI, 6, .inl utW)), (bb, .inl (cI, 19, .inl Bv)), (dd, .inl (cI, 16, .inl (jdd sp en (nI yr) jo ea lo)))] H) (hD : va_D A [(x, .inr (6, [a0, .int (nI pn), .ref xj, .int (nI n), .ref xn, a5, .ref xw, a7, .int lr, .int bd, a10, a11])), (xj, .inl (cJ, 6, .inr (.inr (.inr (.inr jr))))), (xn, .inr (1, [.int (nI yr), .int ea, .int lo, .int jo, .int (nI tn), .ref ns, .ref ne, .ref n7, .ref n8])), (ns, .inl (cI, 6, .inl sp)), (ne, .inl (cI, 6, .inl en)), (n7, .inl (cI, 6, .inl tY)), (n8, .inl (cI, 6, .inl tW)), (xw, .inr (1, [.int uy, .int uea, .int ulo, .int ujo, .int uta, .ref w5, .ref w6, .ref w7, .ref w8])), (w5, .inl (cI, 6, .inl usp)), (w6, .inl (cI, 6, .inl uen)), (w7, .inl (cI, 6, .inl utY)), (w8, .inl (cI, 6, .inl utW)), (bb, .inl (cI, 19, .inl Bv)), (dd, .inl (cI, 16, .inl (jdd sp en (nI yr) jo ea lo)))]) (hJ : jJ D n jr jk jg js jm H) (hap : ∀ i a : Nat, i < n → jr i = some a → a ∉ [x, xj, xn, ns, ne, n7, n8, xw, w5, w6, w7, w8, bb, dd]) (hB : jB n jk jg js jm Bv) (hn0 : 0 < n) (hn6 : n ≤ 6) (hfw : ∀ i : Nat, i < n → ∀ z : Int32, cfw (jk i) (jg i) (jm i) z = fw i z) (hNn : lNn sp) (hyt : yr ≤ 0)
    (kk : ∀ (H' : Heap) (locs' : List Loc) (ls' : Array Slot) (k9 n9 : Nat), va_S A s.heap H' locs' → k9 ≤ 600000 → n9 ≤ 7302250 → W p l e room_1 s m #[Value.ref b] below meth c H' locs' k9 n9 Q (F0 m 525 ls' [.int 1])) : W p l e room_1 s m #[Value.ref b] below meth c H locs 40 400 Q (F0 m 93 ls []) := by
  have hC0 := hC
  obtain ⟨hx, hb, hml, hown, htT, hX, hbl, hT, hA, hbA, hL⟩ := hC
  have hK := hT.1
  have hts : ∀ w ∈ wsL_law, w.before #[Value.ref b] s = true := fun w h => htT w (wsL_law_in w h)
  refine lv_iconst (v := 0) hx hb dL_law_93 (by decide) ?_
  refine lv_istore (lv' := [(6, .int 0), (0, .ref b), (1, .ref x), (2, .ref bb), (3, .ref dd)]) hx hb dL_law_94 hl (by decide) rfl (fun ls hl => ?_)
  refine jloop (α := Nat) (fun (j : Nat) (H : Heap) (locs : List Loc) (ls : Array Slot) => (va_P D vwCl [(x, .inr (6, [a0, .int (nI pn), .ref xj, .int (nI n), .ref xn, a5, .ref xw, a7, .int lr, .int bd, a10, a11])), (xj, .inl (cJ, 6, .inr (.inr (.inr (.inr jr))))), (xn, .inr (1, [.int (nI yr), .int ea, .int lo, .int jo, .int (nI tn), .ref ns, .ref ne, .ref n7, .ref n8])), (ns, .inl (cI, 6, .inl sp)), (ne, .inl (cI, 6, .inl en)), (n7, .inl (cI, 6, .inl tY)), (n8, .inl (cI, 6, .inl tW)), (xw, .inr (1, [.int uy, .int uea, .int ulo, .int ujo, .int uta, .ref w5, .ref w6, .ref w7, .ref w8])), (w5, .inl (cI, 6, .inl usp)), (w6, .inl (cI, 6, .inl uen)), (w7, .inl (cI, 6, .inl utY)), (w8, .inl (cI, 6, .inl utW)), (bb, .inl (cI, 19, .inl Bv)), (dd, .inl (cI, 16, .inl (jdd sp en (nI yr) jo ea lo)))] H) ∧ (va_D A [(x, .inr (6, [a0, .int (nI pn), .ref xj, .int (nI n), .ref xn, a5, .ref xw, a7, .int lr, .int bd, a10, a11])), (xj, .inl (cJ, 6, .inr (.inr (.inr (.inr jr))))), (xn, .inr (1, [.int (nI yr), .int ea, .int lo, .int jo, .int (nI tn), .ref ns, .ref ne, .ref n7, .ref n8])), (ns, .inl (cI, 6, .inl sp)), (ne, .inl (cI, 6, .inl en)), (n7, .inl (cI, 6, .inl tY)), (n8, .inl (cI, 6, .inl tW)), (xw, .inr (1, [.int uy, .int uea, .int ulo, .int ujo, .int uta, .ref w5, .ref w6, .ref w7, .ref w8])), (w5, .inl (cI, 6, .inl usp)), (w6, .inl (cI, 6, .inl uen)), (w7, .inl (cI, 6, .inl utY)), (w8, .inl (cI, 6, .inl utW)), (bb, .inl (cI, 19, .inl Bv)), (dd, .inl (cI, 16, .inl (jdd sp en (nI yr) jo ea lo)))]) ∧ (jJ D n jr jk jg js jm H) ∧ (va_S A s.heap H locs) ∧ (lv_has ls 11 [(0, .ref b), (1, .ref x), (2, .ref bb), (3, .ref dd), (6, .int (nI j))]) ∧ (j ≤ n)) (fun (j : Nat) => n - j) (fun j H locs ls hx9 ih_96 => ?_) 0 _ _ _ ⟨hP, hD, hJ, hS, lv_sub hl [1, 2, 3, 4, 0] rfl, (by omega)⟩
  obtain ⟨hP, hD, hJ, hS, hl, hj9⟩ := hx9
  refine lv_iload hx hb dL_law_96 (lv_at hl 4 rfl) ?_
  refine lv_aload_n hx hb dL_law_98 rfl (lv_at hl 2 rfl) ?_
  refine lv_iconst (v := 0) hx hb dL_law_99 (by decide) ?_
  refine jv_ald (k := 0) hx hb hK hP 12 0 rfl rfl (by omega) (by decide) dL_law_100 ?_
  refine jv_as (y := nI n) hB.1 ?_
  refine lv_icmp_ge (tgt := 176) hx hb dL_law_101 (by decide) (fun c_1 => ?_) (fun c_1 => ?_)
  · skip
    replace c_1 : n ≤ j := (nI_leI (a := n) (b := j) (by omega) (by omega)).mp c_1
    exact law_turns l hC0 hS (lv_sub hl [0, 1, 2, 3] rfl) hP hD hJ hap hB hn0 hn6 hfw hNn hyt kk
  · skip
    replace c_1 : ¬ n ≤ j := fun h => c_1 ((nI_leI (a := n) (b := j) (by omega) (by omega)).mpr h)
    refine lv_iconst (v := 0) hx hb dL_law_104 (by decide) ?_
    refine lv_istore (lv' := [(7, .int 0), (0, .ref b), (1, .ref x), (2, .ref bb), (3, .ref dd), (6, .int (nI j))]) hx hb dL_law_105 hl (by decide) rfl (fun ls hl => ?_)
    refine jloop (α := Nat) (fun (cq : Nat) (H : Heap) (locs : List Loc) (ls : Array Slot) => (va_P D vwCl [(x, .inr (6, [a0, .int (nI pn), .ref xj, .int (nI n), .ref xn, a5, .ref xw, a7, .int lr, .int bd, a10, a11])), (xj, .inl (cJ, 6, .inr (.inr (.inr (.inr jr))))), (xn, .inr (1, [.int (nI yr), .int ea, .int lo, .int jo, .int (nI tn), .ref ns, .ref ne, .ref n7, .ref n8])), (ns, .inl (cI, 6, .inl sp)), (ne, .inl (cI, 6, .inl en)), (n7, .inl (cI, 6, .inl tY)), (n8, .inl (cI, 6, .inl tW)), (xw, .inr (1, [.int uy, .int uea, .int ulo, .int ujo, .int uta, .ref w5, .ref w6, .ref w7, .ref w8])), (w5, .inl (cI, 6, .inl usp)), (w6, .inl (cI, 6, .inl uen)), (w7, .inl (cI, 6, .inl utY)), (w8, .inl (cI, 6, .inl utW)), (bb, .inl (cI, 19, .inl Bv)), (dd, .inl (cI, 16, .inl (jdd sp en (nI yr) jo ea lo)))] H) ∧ (va_D A [(x, .inr (6, [a0, .int (nI pn), .ref xj, .int (nI n), .ref xn, a5, .ref xw, a7, .int lr, .int bd, a10, a11])), (xj, .inl (cJ, 6, .inr (.inr (.inr (.inr jr))))), (xn, .inr (1, [.int (nI yr), .int ea, .int lo, .int jo, .int (nI tn), .ref ns, .ref ne, .ref n7, .ref n8])), (ns, .inl (cI, 6, .inl sp)), (ne, .inl (cI, 6, .inl en)), (n7, .inl (cI, 6, .inl tY)), (n8, .inl (cI, 6, .inl tW)), (xw, .inr (1, [.int uy, .int uea, .int ulo, .int ujo, .int uta, .ref w5, .ref w6, .ref w7, .ref w8])), (w5, .inl (cI, 6, .inl usp)), (w6, .inl (cI, 6, .inl uen)), (w7, .inl (cI, 6, .inl utY)), (w8, .inl (cI, 6, .inl utW)), (bb, .inl (cI, 19, .inl Bv)), (dd, .inl (cI, 16, .inl (jdd sp en (nI yr) jo ea lo)))]) ∧ (jJ D n jr jk jg js jm H) ∧ (va_S A s.heap H locs) ∧ (lv_has ls 11 [(0, .ref b), (1, .ref x), (2, .ref bb), (3, .ref dd), (6, .int (nI j)), (7, .int (nI cq))]) ∧ (cq ≤ 5)) (fun (cq : Nat) => 5 - cq) (fun cq H locs ls hx9 ih_107 => ?_) 0 _ _ _ ⟨hP, hD, hJ, hS, lv_sub hl [1, 2, 3, 4, 5, 0] rfl, (by omega)⟩
    obtain ⟨hP, hD, hJ, hS, hl, hc9⟩ := hx9
    refine lv_iload hx hb dL_law_107 (lv_at hl 5 rfl) ?_
    refine lv_iconst (v := 5) hx hb dL_law_109 (by decide) ?_
    refine lv_icmp_ge (tgt := 170) hx hb dL_law_110 (by decide) (fun c_2 => ?_) (fun c_2 => ?_)
    · skip
      replace c_2 : 5 ≤ cq := (nI_leI (a := 5) (b := cq) (by omega) (by omega)).mp c_2
      refine lv_iinc (v := nI (j + 1)) (lv' := [(6, .int (nI (j + 1))), (0, .ref b), (1, .ref x), (2, .ref bb), (3, .ref dd), (7, .int (nI cq))]) hx hb dL_law_170 hl (k := 4) rfl ((rfl : nI j + Int32.ofInt 1 = nI j + nI 1).trans (nI_add j 1)) (by decide) rfl (fun ls hl => ?_)
      refine lv_goto (tgt := 96) hx hb dL_law_173 (by decide) ?_
      exact ih_96 (j + 1) _ _ _ ⟨hP, hD, hJ, hS, lv_sub hl [1, 2, 3, 4, 0] rfl, (by omega)⟩ (by omega)
    · skip
      replace c_2 : ¬ 5 ≤ cq := fun h => c_2 ((nI_leI (a := 5) (b := cq) (by omega) (by omega)).mpr h)
      obtain ⟨kq, gq, sq, hk5, hg9, hs9, z1, z7, z13, ek, eg, es, em⟩ := hB.2 j (by omega)
      refine lv_aload_n hx hb dL_law_113 rfl (lv_at hl 1 rfl) ?_
      refine lv_iload hx hb dL_law_114 (lv_at hl 4 rfl) ?_
      refine lv_iload hx hb dL_law_116 (lv_at hl 5 rfl) ?_
      have hPc_3 := hP.sub (ws' := [(x, .inr (6, [a0, .int (nI pn), .ref xj, .int (nI n), .ref xn, a5, .ref xw, a7, .int lr, .int bd, a10, a11])), (xj, .inl (cJ, 6, .inr (.inr (.inr (.inr jr)))))]) [0, 1] rfl
      refine jcalli (va_runV (As := [.int (nI j), .int (nI cq)]) (rest := []) ⟨hx, hb, hml, hown, hts⟩ (c_as_ok l D cI cJ x xj n a0 (.int (nI pn)) (.ref xn) a5 (.ref xw) a7 (.int lr) (.int bd) a10 a11 jr jk jg js jm j cq (by omega) hn6 (by omega) H.size) (cwV 2 hts gL_law_X6_as rfl rfl rfl (by decide +kernel) ⟨Nat.le_of_ble_eq_true rfl, Nat.le_of_ble_eq_true rfl⟩) (jpreV hT (va_recv hK hP (ci := 6) (q0 := 0) rfl rfl) ⟨hPc_3, hJ⟩) rfl rfl hl.1 rfl (lv_room (Nat.le_of_ble_eq_true rfl)) dL_law_118 ⟨(show _ ≤ 600000 by omega), (show _ ≤ 7302250 by omega)⟩) hS hA (fun r_4 H locs hw_r_4 hkq hS => ?_)
      try dsimp only at hw_r_4
      have hP := jkeep hP hkq
      have hJ := hJ.kept hkq
      subst hw_r_4
      refine lv_iload hx hb dL_law_121 (lv_at hl 5 rfl) ?_
      refine lv_if_eq (tgt := 153) hx hb dL_law_123 (by decide) (fun c_5 => ?_) (fun c_5 => ?_)
      · skip
        replace c_5 : cq = 0 := (nI_eq (a := cq) (b := 0) (by omega) (by omega)).mp c_5
        refine lv_iload hx hb dL_law_153 (lv_at hl 4 rfl) ?_
        refine lv_goto (tgt := 159) hx hb dL_law_155 (by decide) ?_
        refine lv_icmp_eq (tgt := 164) hx hb dL_law_159 (by decide) (fun c_6 => ?_) (fun c_6 => ?_)
        · skip
          refine lv_iinc (v := nI (cq + 1)) (lv' := [(7, .int (nI (cq + 1))), (0, .ref b), (1, .ref x), (2, .ref bb), (3, .ref dd), (6, .int (nI j))]) hx hb dL_law_164 hl (k := 5) rfl ((rfl : nI cq + Int32.ofInt 1 = nI cq + nI 1).trans (nI_add cq 1)) (by decide) rfl (fun ls hl => ?_)
          refine lv_goto (tgt := 107) hx hb dL_law_167 (by decide) ?_
          exact ih_107 (cq + 1) _ _ _ ⟨hP, hD, hJ, hS, lv_sub hl [1, 2, 3, 4, 5, 0] rfl, (by omega)⟩ (by omega)
        · skip
          exact absurd (by rw [ek]; exact las_y hk5 (by omega) (by omega)) c_6
      · skip
        replace c_5 : ¬ cq = 0 := fun h => c_5 ((nI_eq (a := cq) (b := 0) (by omega) (by omega)).mpr h)
        refine lv_iload hx hb dL_law_126 (lv_at hl 5 rfl) ?_
        refine lv_aload_n hx hb dL_law_128 rfl (lv_at hl 2 rfl) ?_
        refine lv_iconst (v := 1) hx hb dL_law_129 (by decide) ?_
        refine lv_iload hx hb dL_law_130 (lv_at hl 4 rfl) ?_
        refine lv_iadd hx hb dL_law_132 ?_
        refine jv_as (y := nI (1 + j)) (nI_add 1 j) ?_
        refine jv_ald (k := 1 + j) hx hb hK hP 12 0 rfl rfl (by omega) (by decide) dL_law_133 ?_
        refine jv_as (y := nI kq) z1 ?_
        refine lv_icmp_eq (tgt := 153) hx hb dL_law_134 (by decide) (fun c_7 => ?_) (fun c_7 => ?_)
        · skip
          replace c_7 : cq = kq := (nI_eq (a := cq) (b := kq) (by omega) (by omega)).mp c_7
          refine lv_iload hx hb dL_law_153 (lv_at hl 4 rfl) ?_
          refine lv_goto (tgt := 159) hx hb dL_law_155 (by decide) ?_
          refine lv_icmp_eq (tgt := 164) hx hb dL_law_159 (by decide) (fun c_8 => ?_) (fun c_8 => ?_)
          · skip
            refine lv_iinc (v := nI (cq + 1)) (lv' := [(7, .int (nI (cq + 1))), (0, .ref b), (1, .ref x), (2, .ref bb), (3, .ref dd), (6, .int (nI j))]) hx hb dL_law_164 hl (k := 5) rfl ((rfl : nI cq + Int32.ofInt 1 = nI cq + nI 1).trans (nI_add cq 1)) (by decide) rfl (fun ls hl => ?_)
            refine lv_goto (tgt := 107) hx hb dL_law_167 (by decide) ?_
            exact ih_107 (cq + 1) _ _ _ ⟨hP, hD, hJ, hS, lv_sub hl [1, 2, 3, 4, 5, 0] rfl, (by omega)⟩ (by omega)
          · skip
            exact absurd (by rw [ek]; exact las_y hk5 (by omega) (by omega)) c_8
        · skip
          replace c_7 : ¬ cq = kq := fun h => c_7 ((nI_eq (a := cq) (b := kq) (by omega) (by omega)).mpr h)
          refine lv_iload hx hb dL_law_137 (lv_at hl 5 rfl) ?_
          refine lv_iconst (v := 2) hx hb dL_law_139 (by decide) ?_
          refine lv_icmp_ne (tgt := 158) hx hb dL_law_140 (by decide) (fun c_9 => ?_) (fun c_9 => ?_)
          · skip
            replace c_9 : ¬ cq = 2 := fun h => c_9 ((nI_eq (a := cq) (b := 2) (by omega) (by omega)).mpr h)
            refine lv_iconst (v := (-1)) hx hb dL_law_158 (by decide) ?_
            refine lv_icmp_eq (tgt := 164) hx hb dL_law_159 (by decide) (fun c_10 => ?_) (fun c_10 => ?_)
            · skip
              refine lv_iinc (v := nI (cq + 1)) (lv' := [(7, .int (nI (cq + 1))), (0, .ref b), (1, .ref x), (2, .ref bb), (3, .ref dd), (6, .int (nI j))]) hx hb dL_law_164 hl (k := 5) rfl ((rfl : nI cq + Int32.ofInt 1 = nI cq + nI 1).trans (nI_add cq 1)) (by decide) rfl (fun ls hl => ?_)
              refine lv_goto (tgt := 107) hx hb dL_law_167 (by decide) ?_
              exact ih_107 (cq + 1) _ _ _ ⟨hP, hD, hJ, hS, lv_sub hl [1, 2, 3, 4, 5, 0] rfl, (by omega)⟩ (by omega)
            · skip
              exact absurd (by rw [ek]; exact las_n hk5 (by omega) (by omega)) c_10
          · skip
            replace c_9 : cq = 2 := (nI_eq (a := cq) (b := 2) (by omega) (by omega)).mp c_9
            refine lv_aload_n hx hb dL_law_143 rfl (lv_at hl 2 rfl) ?_
            refine lv_iconst (v := 1) hx hb dL_law_144 (by decide) ?_
            refine lv_iload hx hb dL_law_145 (lv_at hl 4 rfl) ?_
            refine lv_iadd hx hb dL_law_147 ?_
            refine jv_as (y := nI (1 + j)) (nI_add 1 j) ?_
            refine jv_ald (k := 1 + j) hx hb hK hP 12 0 rfl rfl (by omega) (by decide) dL_law_148 ?_
            refine jv_as (y := nI kq) z1 ?_
            refine lv_iconst (v := 4) hx hb dL_law_149 (by decide) ?_
            refine lv_icmp_ne (tgt := 158) hx hb dL_law_150 (by decide) (fun c_11 => ?_) (fun c_11 => ?_)
            · skip
              replace c_11 : ¬ kq = 4 := fun h => c_11 ((nI_eq (a := kq) (b := 4) (by omega) (by omega)).mpr h)
              refine lv_iconst (v := (-1)) hx hb dL_law_158 (by decide) ?_
              refine lv_icmp_eq (tgt := 164) hx hb dL_law_159 (by decide) (fun c_12 => ?_) (fun c_12 => ?_)
              · skip
                refine lv_iinc (v := nI (cq + 1)) (lv' := [(7, .int (nI (cq + 1))), (0, .ref b), (1, .ref x), (2, .ref bb), (3, .ref dd), (6, .int (nI j))]) hx hb dL_law_164 hl (k := 5) rfl ((rfl : nI cq + Int32.ofInt 1 = nI cq + nI 1).trans (nI_add cq 1)) (by decide) rfl (fun ls hl => ?_)
                refine lv_goto (tgt := 107) hx hb dL_law_167 (by decide) ?_
                exact ih_107 (cq + 1) _ _ _ ⟨hP, hD, hJ, hS, lv_sub hl [1, 2, 3, 4, 5, 0] rfl, (by omega)⟩ (by omega)
              · skip
                exact absurd (by rw [ek]; exact las_n hk5 (by omega) (by omega)) c_12
            · skip
              replace c_11 : kq = 4 := (nI_eq (a := kq) (b := 4) (by omega) (by omega)).mp c_11
              refine lv_iload hx hb dL_law_153 (lv_at hl 4 rfl) ?_
              refine lv_goto (tgt := 159) hx hb dL_law_155 (by decide) ?_
              refine lv_icmp_eq (tgt := 164) hx hb dL_law_159 (by decide) (fun c_13 => ?_) (fun c_13 => ?_)
              · skip
                refine lv_iinc (v := nI (cq + 1)) (lv' := [(7, .int (nI (cq + 1))), (0, .ref b), (1, .ref x), (2, .ref bb), (3, .ref dd), (6, .int (nI j))]) hx hb dL_law_164 hl (k := 5) rfl ((rfl : nI cq + Int32.ofInt 1 = nI cq + nI 1).trans (nI_add cq 1)) (by decide) rfl (fun ls hl => ?_)
                refine lv_goto (tgt := 107) hx hb dL_law_167 (by decide) ?_
                exact ih_107 (cq + 1) _ _ _ ⟨hP, hD, hJ, hS, lv_sub hl [1, 2, 3, 4, 5, 0] rfl, (by omega)⟩ (by omega)
              · skip
                exact absurd (by rw [ek]; exact las_y hk5 (by omega) (by omega)) c_13
