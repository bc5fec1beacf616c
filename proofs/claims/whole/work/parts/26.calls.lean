abbrev jAll (D : va_G) (cI cJ : ClassId) (A : Nat → Prop) (x xp xj xn ns ne n7 n8 xk k5 k6 k7 k8 xu w5 w6 w7 w8 xm xw z zp zr zb zc zt zv zkr zkt c9 : Nat) (H : Heap) : Prop := ∀ X9 : Prop, (∀ (n pn tn bd lr yr : Nat) (pg : Nat → Int32) (jr : Nat → Option Nat) (jk : Nat → Nat) (jg js jm : Nat → Int32) (ea lo jo : Int32) (sp en tY tW : Nat → Int32) (hi ky kea klo kjo kta : Int32) (ksp ken ktY ktW : Nat → Int32) (uy uea ulo ujo uta : Int32) (usp uen utY utW : Nat → Int32) (M nw Rw T C Tt : Nat → Int32) (sd : Int32) (Sv : Nat → Int32) (kl mky mkj mke mkk mkt : Int32) (KR KT : Nat → Int32) (hh : Int64), va_P D vwCl [(x, .inr (6, [.ref xp, .int (nI pn), .ref xj, .int (nI n), .ref xn, .ref xk, .ref xu, .int hi, .int (nI lr), .int (nI bd), .ref xm, .ref xw])), (xp, .inl (cI, 25, .inl pg)), (xj, .inl (cJ, 6, .inr (.inr (.inr (.inr jr))))), (xn, .inr (1, [.int (nI yr), .int ea, .int lo, .int jo, .int (nI tn), .ref ns, .ref ne, .ref n7, .ref n8])), (ns, .inl (cI, 6, .inl sp)), (ne, .inl (cI, 6, .inl en)), (n7, .inl (cI, 6, .inl tY)), (n8, .inl (cI, 6, .inl tW)), (xk, .inr (1, [.int ky, .int kea, .int klo, .int kjo, .int kta, .ref k5, .ref k6, .ref k7, .ref k8])), (k5, .inl (cI, 6, .inl ksp)), (k6, .inl (cI, 6, .inl ken)), (k7, .inl (cI, 6, .inl ktY)), (k8, .inl (cI, 6, .inl ktW)), (xu, .inr (1, [.int uy, .int uea, .int ulo, .int ujo, .int uta, .ref w5, .ref w6, .ref w7, .ref w8])), (w5, .inl (cI, 6, .inl usp)), (w6, .inl (cI, 6, .inl uen)), (w7, .inl (cI, 6, .inl utY)), (w8, .inl (cI, 6, .inl utW)), (xm, .inl (cI, 91, .inl M)), (xw, .inl (cI, 6, .inl nw)), (z, .inr (7, [.ref zp, .int (nI pn), .int (nI n), .int (nI yr), .int jo, .int ea, .int lo, .int (nI lr), .ref zr, .int (nI bd), .ref zb, .ref zc, .int (nI tn), .ref zt, .int sd, .ref zv, .int kl, .int mky, .int mkj, .int mke, .int mkk, .int mkt, .ref zkr, .ref zkt, .long hh])), (zp, .inl (cI, 25, .inl pg)), (zr, .inl (cI, 30, .inl Rw)), (zb, .inl (cI, 91, .inl T)), (zc, .inl (cI, 6, .inl C)), (zt, .inl (cI, 12, .inl Tt)), (zv, .inl (cI, 30, .inl Sv)), (zkr, .inl (cI, 30, .inl KR)), (zkt, .inl (cI, 12, .inl KT))] H → va_D A [(x, .inr (6, [.ref xp, .int (nI pn), .ref xj, .int (nI n), .ref xn, .ref xk, .ref xu, .int hi, .int (nI lr), .int (nI bd), .ref xm, .ref xw])), (xp, .inl (cI, 25, .inl pg)), (xj, .inl (cJ, 6, .inr (.inr (.inr (.inr jr))))), (xn, .inr (1, [.int (nI yr), .int ea, .int lo, .int jo, .int (nI tn), .ref ns, .ref ne, .ref n7, .ref n8])), (ns, .inl (cI, 6, .inl sp)), (ne, .inl (cI, 6, .inl en)), (n7, .inl (cI, 6, .inl tY)), (n8, .inl (cI, 6, .inl tW)), (xk, .inr (1, [.int ky, .int kea, .int klo, .int kjo, .int kta, .ref k5, .ref k6, .ref k7, .ref k8])), (k5, .inl (cI, 6, .inl ksp)), (k6, .inl (cI, 6, .inl ken)), (k7, .inl (cI, 6, .inl ktY)), (k8, .inl (cI, 6, .inl ktW)), (xu, .inr (1, [.int uy, .int uea, .int ulo, .int ujo, .int uta, .ref w5, .ref w6, .ref w7, .ref w8])), (w5, .inl (cI, 6, .inl usp)), (w6, .inl (cI, 6, .inl uen)), (w7, .inl (cI, 6, .inl utY)), (w8, .inl (cI, 6, .inl utW)), (xm, .inl (cI, 91, .inl M)), (xw, .inl (cI, 6, .inl nw)), (z, .inr (7, [.ref zp, .int (nI pn), .int (nI n), .int (nI yr), .int jo, .int ea, .int lo, .int (nI lr), .ref zr, .int (nI bd), .ref zb, .ref zc, .int (nI tn), .ref zt, .int sd, .ref zv, .int kl, .int mky, .int mkj, .int mke, .int mkk, .int mkt, .ref zkr, .ref zkt, .long hh])), (zp, .inl (cI, 25, .inl pg)), (zr, .inl (cI, 30, .inl Rw)), (zb, .inl (cI, 91, .inl T)), (zc, .inl (cI, 6, .inl C)), (zt, .inl (cI, 12, .inl Tt)), (zv, .inl (cI, 30, .inl Sv)), (zkr, .inl (cI, 30, .inl KR)), (zkt, .inl (cI, 12, .inl KT))] → (jJ D n jr jk jg js jm H) → (∀ i a : Nat, i < n → jr i = some a → a ∉ [x, xp, xj, xn, ns, ne, n7, n8, xk, k5, k6, k7, k8, xu, w5, w6, w7, w8, xm, xw, z, zp, zr, zb, zc, zt, zv, zkr, zkt]) → (n ≤ 6) → (pn ≤ 25) → (tn ≤ 6) → (bd ≤ 40) → (yr ≤ 99) → (lr ≤ c9) → (jRw n jk jg js jm Rw) → (jSp n sp en Rw) → (jBd sp en) → (jTt tY tW Tt) → (jKp n lr hi kl ky kea klo kjo kta mky mkj mke mkk mkt ksp ken ktY ktW Rw KR KT) → X9) → X9
abbrev jCx (p : Program) (s : State) (m : MethodId) (c : Code) (b L : Nat) (xs : Nat → Int32) (D : va_G) (cI cJ : ClassId) (A : Nat → Prop) : Prop := p.tables.exec = Jvm.exec ∧ c.code = code ∧ c.maxLocals = 4 ∧ s.vm.findClass RL = some m.cls ∧ (∀ w ∈ lw_tbl, w.before #[Value.ref b] s = true) ∧ va_X b L xs s s.heap ∧ b < s.heap.size ∧ jT D cI cJ s ∧ (∀ q : Nat, s.heap.size ≤ q → A q) ∧ ¬ A b ∧ L ≤ 2048
theorem jkl_ne {kl : Int32} {lr : Nat} (h : kl = -1 ∨ ∃ k : Nat, k < lr ∧ kl = nI k) (hl : lr ≤ 1000) : ¬ kl = nI lr := by
  rintro rfl
  rcases h with h | ⟨k, h1, h2⟩
  · have h3 := nI_toInt (n := lr) (by omega)
    rw [h, show (-1 : Int32).toInt = -1 from by decide] at h3
    omega
  · exact absurd ((nI_eq (by omega) (by omega)).mp h2) (by omega)
theorem jkl_s {n lr : Nat} {hi kl ky kea klo kjo kta mky mkj mke mkk mkt : Int32} {ksp ken ktY ktW Rw KR KT : Nat → Int32} (h : jKp n lr hi kl ky kea klo kjo kta mky mkj mke mkk mkt ksp ken ktY ktW Rw KR KT) : kl = -1 ∨ ∃ k : Nat, k < lr + 1 ∧ kl = nI k := by
  rcases h with h | ⟨-, h⟩
  · exact Or.inr ⟨lr, by omega, h.2.1⟩
  · exact h.imp id (fun ⟨k, h1, h2⟩ => ⟨k, by omega, h2⟩)
theorem jres {n : Nat} {Rw KR : Nat → Int32} (hn : n ≤ 6) (h : jSm n Rw KR) : jSm n (jfl KR Rw 30) KR := ((jSm.rf (n := n) (R := KR)).fl hn).sy
theorem jlt15 {x : Int32} (h : (16 : Int32) ≤ x) : 15 < x := by
  rw [fa_le, show (16 : Int32).toInt = 16 from by decide] at h
  rw [fa_lt, show (15 : Int32).toInt = 15 from by decide]
  omega
theorem jw1016 {x : Int32} (h : ¬ (x < 10 ∨ 16 ≤ x)) : ∃ w : Nat, 10 ≤ w ∧ w < 16 ∧ x = nI w := by
  have h1 : ¬ x < 10 := fun q => h (Or.inl q)
  have h2 : ¬ (16 : Int32) ≤ x := fun q => h (Or.inr q)
  rw [fa_lt, show (10 : Int32).toInt = 10 from by decide] at h1
  rw [fa_le, show (16 : Int32).toInt = 16 from by decide] at h2
  obtain ⟨k, h3, h4⟩ := jnat (x := x) (m := 15) (by omega) (by omega)
  refine ⟨k, ?_, by omega, h4⟩
  rw [h4, nI_toInt (by omega)] at h1
  omega
theorem jlt_all {D : va_G} {cl : List vw_C} {ws : va_W} {H : Heap} {ad : List Nat} (hP : va_P D cl ws H) (h : ws.map (·.1) = ad) : ∀ a : Nat, a ∈ ad → a < H.size := by
  intro a ha
  rw [← h] at ha
  obtain ⟨q, hq, e⟩ := List.mem_map.mp ha
  obtain ⟨k, hk⟩ := List.getElem?_of_mem hq
  rw [← e]
  exact (hP k q hk).lt
section LAW
variable {p : Program} {e : Env} {s : State} {m : MethodId} {below : List Frame} {meth : Method} {c : Code} {b L : Nat} {xs : Nat → Int32} {D : va_G} {cI cJ : ClassId} {A : Nat → Prop} {Q : State → Prop} {x xp xj xn ns ne n7 n8 xk k5 k6 k7 k8 xu w5 w6 w7 w8 xm xw z zp zr zb zc zt zv zkr zkt c9 cells slots : Nat} {H : Heap} {locs : List Loc} {ls : Array Slot}
set_option maxHeartbeats 8000000 in
set_option maxRecDepth 100000 in
theorem law_letter (l : Launch) (hC : jCx p s m c b L xs D cI cJ A) (hc9 : 4 * c9 + 4 ≤ L) (hcl : cells + 6 ≤ 600000) (hsl : slots + 18 ≤ 7302250) (hS : va_S A s.heap H locs) (hl : lv_has ls 4 [(3, .int (nI (4 * c9))), (0, .ref b), (1, .ref x), (2, .ref z)]) (hI : jAll D cI cJ A x xp xj xn ns ne n7 n8 xk k5 k6 k7 k8 xu w5 w6 w7 w8 xm xw z zp zr zb zc zt zv zkr zkt c9 H)
    (kk : ∀ (H' : Heap) (locs' : List Loc), jAll D cI cJ A x xp xj xn ns ne n7 n8 xk k5 k6 k7 k8 xu w5 w6 w7 w8 xm xw z zp zr zb zc zt zv zkr zkt (c9 + 1) H' → va_S A s.heap H' locs' → W p l e room_1 s m #[Value.ref b] below meth c H' locs' (cells + 6) (slots + 18) Q (F0 m 559 ls [])) : W p l e room_1 s m #[Value.ref b] below meth c H locs cells slots Q (F0 m 128 ls []) := by
  obtain ⟨hx, hb, hml, hown, htT, hX, hbl, hT, hA, hbA, hL⟩ := hC
  have hK := hT.1
  have hts : ∀ w ∈ wsL_law, w.before #[Value.ref b] s = true := fun w h => htT w (wsL_law_in w h)
  refine hI _ (fun n pn tn bd lr yr pg jr jk jg js jm ea lo jo sp en tY tW hi ky kea klo kjo kta ksp ken ktY ktW uy uea ulo ujo uta usp uen utY utW M nw Rw T C Tt sd Sv kl mky mkj mke mkk mkt KR KT hh hP hD hJ hap hn6 hpn htn hbd hyr hlr hRw hSp hBd hTt hKp => ?_)
  obtain ⟨p1, e1⟩ : ∃ v : Int32, v = xs (4 * c9 + 1) := ⟨_, rfl⟩
  obtain ⟨p2, e2⟩ : ∃ v : Int32, v = xs (4 * c9 + 2) := ⟨_, rfl⟩
  obtain ⟨p3, e3⟩ : ∃ v : Int32, v = xs (4 * c9 + 3) := ⟨_, rfl⟩
  by_cases hq : p1 < 1 ∨ 126 < p1
  · skip
    refine lv_aload_n hx hb dL_law_128 rfl (lv_at hl 2 rfl) ?_
    refine lv_aload_n hx hb dL_law_129 rfl (lv_at hl 1 rfl) ?_
    refine lv_iload_n hx hb dL_law_130 rfl (lv_at hl 0 rfl) ?_
    refine lv_iconst (v := 1) hx hb dL_law_131 (by decide) ?_
    refine lv_iadd hx hb dL_law_132 ?_
    refine jv_as (y := nI ((4 * c9) + 1)) (nI_add (4 * c9) 1) ?_
    refine jv_sld hx hb hX hbl hbA hS (k := (4 * c9) + 1) (by omega) hL (v := p1) e1 dL_law_133 ?_
    refine jcalli (va_runV (As := [.int p1]) (rest := []) ⟨hx, hb, hml, hown, hts⟩ (c_letter_out l D cI cJ x p1 hq H.size) (cwV 1 hts gL_law_X6_letter rfl rfl rfl (by decide +kernel) ⟨Nat.le_of_ble_eq_true rfl, Nat.le_of_ble_eq_true rfl⟩) (jpreV hT (va_recv hK hP (ci := 6) (q0 := 0) rfl rfl) trivial) rfl rfl hl.1 rfl (lv_room (Nat.le_of_ble_eq_true rfl)) dL_law_134 ⟨(show cells + 0 ≤ 600000 by omega), (show slots + 0 ≤ 7302250 by omega)⟩) hS hA (fun r_1 H locs hw_r_1 hkq hS => ?_)
    try dsimp only at hw_r_1
    have hP := jkeep hP hkq
    have hJ := hJ.kept hkq
    subst hw_r_1
    refine lv_aload_n hx hb dL_law_137 rfl (lv_at hl 3 rfl) ?_
    refine lv_aload_n hx hb dL_law_138 rfl (lv_at hl 1 rfl) ?_
    refine lv_iload_n hx hb dL_law_139 rfl (lv_at hl 0 rfl) ?_
    refine lv_iconst (v := 1) hx hb dL_law_140 (by decide) ?_
    refine lv_iadd hx hb dL_law_141 ?_
    refine jv_as (y := nI ((4 * c9) + 1)) (nI_add (4 * c9) 1) ?_
    refine jv_sld hx hb hX hbl hbA hS (k := (4 * c9) + 1) (by omega) hL (v := p1) e1 dL_law_142 ?_
    refine jcalli (va_runV (As := [.int p1]) (rest := [.int (-102)]) ⟨hx, hb, hml, hown, hts⟩ (c_mletter_out l D cI cJ z p1 hq H.size) (cwV 1 hts gL_law_X7_letter rfl rfl rfl (by decide +kernel) ⟨Nat.le_of_ble_eq_true rfl, Nat.le_of_ble_eq_true rfl⟩) (jpreV hT (va_recv hK hP (ci := 7) (q0 := 20) rfl rfl) trivial) rfl rfl hl.1 rfl (lv_room (Nat.le_of_ble_eq_true rfl)) dL_law_143 ⟨(show cells + 0 ≤ 600000 by omega), (show slots + 0 ≤ 7302250 by omega)⟩) hS hA (fun r_2 H locs hw_r_2 hkq hS => ?_)
    try dsimp only at hw_r_2
    have hP := jkeep hP hkq
    have hJ := hJ.kept hkq
    subst hw_r_2
    refine lv_icmp_eq (tgt := 559) hx hb dL_law_146 (by decide) (fun c_3 => ?_) (fun c_3 => ?_)
    · skip
      refine W.widen (k := cells + 6) (n := slots + 18) (by omega) (by omega) ?_
      exact kk H locs (fun X9 k9 => k9 n pn tn bd lr yr pg jr jk jg js jm ea lo jo sp en tY tW hi ky kea klo kjo kta ksp ken ktY ktW uy uea ulo ujo uta usp uen utY utW M nw Rw T C Tt sd Sv kl mky mkj mke mkk mkt KR KT hh hP hD hJ hap hn6 hpn htn hbd hyr (by omega) hRw hSp hBd hTt hKp) hS
    · skip
      exact absurd c_3 (by decide)
  · skip
    have h1 : 1 ≤ p1 := jnlt (fun h => hq (Or.inl h))
    have h2 : p1 ≤ 126 := jnlt (fun h => hq (Or.inr h))
    by_cases hp : pn < 25
    · skip
      refine lv_aload_n hx hb dL_law_128 rfl (lv_at hl 2 rfl) ?_
      refine lv_aload_n hx hb dL_law_129 rfl (lv_at hl 1 rfl) ?_
      refine lv_iload_n hx hb dL_law_130 rfl (lv_at hl 0 rfl) ?_
      refine lv_iconst (v := 1) hx hb dL_law_131 (by decide) ?_
      refine lv_iadd hx hb dL_law_132 ?_
      refine jv_as (y := nI ((4 * c9) + 1)) (nI_add (4 * c9) 1) ?_
      refine jv_sld hx hb hX hbl hbA hS (k := (4 * c9) + 1) (by omega) hL (v := p1) e1 dL_law_133 ?_
      have hPc_4 := hP.sub (ws' := [(x, .inr (6, [.ref xp, .int (nI pn), .ref xj, .int (nI n), .ref xn, .ref xk, .ref xu, .int hi, .int (nI lr), .int (nI bd), .ref xm, .ref xw])), (xp, .inl (cI, 25, .inl pg))]) [0, 1] rfl
      have hDc_5 := hD.sub (ws' := [(x, .inr (6, [.ref xp, .int (nI pn), .ref xj, .int (nI n), .ref xn, .ref xk, .ref xu, .int hi, .int (nI lr), .int (nI bd), .ref xm, .ref xw])), (xp, .inl (cI, 25, .inl pg))]) [0, 1] (by decide) rfl
      have hFc_6 := va_free (wc := [(x, .inr (6, [.ref xp, .int (nI pn), .ref xj, .int (nI n), .ref xn, .ref xk, .ref xu, .int hi, .int (nI lr), .int (nI bd), .ref xm, .ref xw])), (xp, .inl (cI, 25, .inl pg))]) hD hS hA [0, 1] rfl
      refine jcallWi (post := fun r H => r = nI (pn + 1) ∧ va_P D vwCl [(x, .inr (6, [.ref xp, .int (nI (pn + 1)), (.ref xj), (.int (nI n)), (.ref xn), (.ref xk), (.ref xu), (.int hi), (.int (nI lr)), (.int (nI bd)), (.ref xm), (.ref xw)])), (xp, .inl (cI, 25, .inl (upd pg pn p1)))] H) (va_runV (As := [.int p1]) (rest := []) ⟨hx, hb, hml, hown, hts⟩ (c_letter_ok l D cI cJ x xp pn (.ref xj) (.int (nI n)) (.ref xn) (.ref xk) (.ref xu) (.int hi) (.int (nI lr)) (.int (nI bd)) (.ref xm) (.ref xw) pg p1 h1 h2 hp H.size) (cwV 1 hts gL_law_X6_letter rfl rfl rfl (by decide +kernel) ⟨Nat.le_of_ble_eq_true rfl, Nat.le_of_ble_eq_true rfl⟩) (jpreV hT (va_recv hK hP (ci := 6) (q0 := 0) rfl rfl) ⟨hPc_4, hDc_5.weaken (fun _ _ _ _ => trivial), trivial⟩) rfl rfl hl.1 rfl (lv_room (Nat.le_of_ble_eq_true rfl)) dL_law_134 ⟨(show cells + 0 ≤ 600000 by omega), (show slots + 0 ≤ 7302250 by omega)⟩) hS hFc_6 (fun r_7 H locs hw_r_7 hz hkq hS => ?_)
      obtain ⟨h1r, hP1⟩ := hw_r_7
      obtain ⟨hP, hD⟩ := jjoin (wc := [(x, .inr (6, [.ref xp, .int (nI pn), .ref xj, .int (nI n), .ref xn, .ref xk, .ref xu, .int hi, .int (nI lr), .int (nI bd), .ref xm, .ref xw])), (xp, .inl (cI, 25, .inl pg))]) (wr := [(xj, .inl (cJ, 6, .inr (.inr (.inr (.inr jr))))), (xn, .inr (1, [.int (nI yr), .int ea, .int lo, .int jo, .int (nI tn), .ref ns, .ref ne, .ref n7, .ref n8])), (ns, .inl (cI, 6, .inl sp)), (ne, .inl (cI, 6, .inl en)), (n7, .inl (cI, 6, .inl tY)), (n8, .inl (cI, 6, .inl tW)), (xk, .inr (1, [.int ky, .int kea, .int klo, .int kjo, .int kta, .ref k5, .ref k6, .ref k7, .ref k8])), (k5, .inl (cI, 6, .inl ksp)), (k6, .inl (cI, 6, .inl ken)), (k7, .inl (cI, 6, .inl ktY)), (k8, .inl (cI, 6, .inl ktW)), (xu, .inr (1, [.int uy, .int uea, .int ulo, .int ujo, .int uta, .ref w5, .ref w6, .ref w7, .ref w8])), (w5, .inl (cI, 6, .inl usp)), (w6, .inl (cI, 6, .inl uen)), (w7, .inl (cI, 6, .inl utY)), (w8, .inl (cI, 6, .inl utW)), (xm, .inl (cI, 91, .inl M)), (xw, .inl (cI, 6, .inl nw)), (z, .inr (7, [.ref zp, .int (nI pn), .int (nI n), .int (nI yr), .int jo, .int ea, .int lo, .int (nI lr), .ref zr, .int (nI bd), .ref zb, .ref zc, .int (nI tn), .ref zt, .int sd, .ref zv, .int kl, .int mky, .int mkj, .int mke, .int mkk, .int mkt, .ref zkr, .ref zkt, .long hh])), (zp, .inl (cI, 25, .inl pg)), (zr, .inl (cI, 30, .inl Rw)), (zb, .inl (cI, 91, .inl T)), (zc, .inl (cI, 6, .inl C)), (zt, .inl (cI, 12, .inl Tt)), (zv, .inl (cI, 30, .inl Sv)), (zkr, .inl (cI, 30, .inl KR)), (zkt, .inl (cI, 12, .inl KT))]) (w1 := [(x, .inr (6, [.ref xp, .int (nI (pn + 1)), .ref xj, .int (nI n), .ref xn, .ref xk, .ref xu, .int hi, .int (nI lr), .int (nI bd), .ref xm, .ref xw])), (xp, .inl (cI, 25, .inl (upd pg pn p1)))]) (ws' := [(x, .inr (6, [.ref xp, .int (nI (pn + 1)), .ref xj, .int (nI n), .ref xn, .ref xk, .ref xu, .int hi, .int (nI lr), .int (nI bd), .ref xm, .ref xw])), (xp, .inl (cI, 25, .inl (upd pg pn p1))), (xj, .inl (cJ, 6, .inr (.inr (.inr (.inr jr))))), (xn, .inr (1, [.int (nI yr), .int ea, .int lo, .int jo, .int (nI tn), .ref ns, .ref ne, .ref n7, .ref n8])), (ns, .inl (cI, 6, .inl sp)), (ne, .inl (cI, 6, .inl en)), (n7, .inl (cI, 6, .inl tY)), (n8, .inl (cI, 6, .inl tW)), (xk, .inr (1, [.int ky, .int kea, .int klo, .int kjo, .int kta, .ref k5, .ref k6, .ref k7, .ref k8])), (k5, .inl (cI, 6, .inl ksp)), (k6, .inl (cI, 6, .inl ken)), (k7, .inl (cI, 6, .inl ktY)), (k8, .inl (cI, 6, .inl ktW)), (xu, .inr (1, [.int uy, .int uea, .int ulo, .int ujo, .int uta, .ref w5, .ref w6, .ref w7, .ref w8])), (w5, .inl (cI, 6, .inl usp)), (w6, .inl (cI, 6, .inl uen)), (w7, .inl (cI, 6, .inl utY)), (w8, .inl (cI, 6, .inl utW)), (xm, .inl (cI, 91, .inl M)), (xw, .inl (cI, 6, .inl nw)), (z, .inr (7, [.ref zp, .int (nI pn), .int (nI n), .int (nI yr), .int jo, .int ea, .int lo, .int (nI lr), .ref zr, .int (nI bd), .ref zb, .ref zc, .int (nI tn), .ref zt, .int sd, .ref zv, .int kl, .int mky, .int mkj, .int mke, .int mkk, .int mkt, .ref zkr, .ref zkt, .long hh])), (zp, .inl (cI, 25, .inl pg)), (zr, .inl (cI, 30, .inl Rw)), (zb, .inl (cI, 91, .inl T)), (zc, .inl (cI, 6, .inl C)), (zt, .inl (cI, 12, .inl Tt)), (zv, .inl (cI, 30, .inl Sv)), (zkr, .inl (cI, 30, .inl KR)), (zkt, .inl (cI, 12, .inl KT))]) hP hD hFc_6 [0, 1] [2, 3, 4, 5, 6, 7, 8, 9, 10, 11, 12, 13, 14, 15, 16, 17, 18, 19, 20, 21, 22, 23, 24, 25, 26, 27, 28] [27, 28, 0, 1, 2, 3, 4, 5, 6, 7, 8, 9, 10, 11, 12, 13, 14, 15, 16, 17, 18, 19, 20, 21, 22, 23, 24, 25, 26] rfl rfl (by decide) (by decide) (by decide) (by decide) hkq hP1 rfl rfl rfl
      have hJ := jJ.keptA (A := va_A [(x, .inr (6, [.ref xp, .int (nI pn), .ref xj, .int (nI n), .ref xn, .ref xk, .ref xu, .int hi, .int (nI lr), .int (nI bd), .ref xm, .ref xw])), (xp, .inl (cI, 25, .inl pg))] _) hJ (fun i a h1 h2 => jap (hJ.lt h1 h2) (fun h => hap i a h1 h2 (jmem [0, 1] rfl h))) hkq
      refine lv_aload_n hx hb dL_law_137 rfl (lv_at hl 3 rfl) ?_
      refine lv_aload_n hx hb dL_law_138 rfl (lv_at hl 1 rfl) ?_
      refine lv_iload_n hx hb dL_law_139 rfl (lv_at hl 0 rfl) ?_
      refine lv_iconst (v := 1) hx hb dL_law_140 (by decide) ?_
      refine lv_iadd hx hb dL_law_141 ?_
      refine jv_as (y := nI ((4 * c9) + 1)) (nI_add (4 * c9) 1) ?_
      refine jv_sld hx hb hX hbl hbA hS (k := (4 * c9) + 1) (by omega) hL (v := p1) e1 dL_law_142 ?_
      have hPc_8 := hP.sub (ws' := [(z, .inr (7, [.ref zp, .int (nI pn), .int (nI n), .int (nI yr), .int jo, .int ea, .int lo, .int (nI lr), .ref zr, .int (nI bd), .ref zb, .ref zc, .int (nI tn), .ref zt, .int sd, .ref zv, .int kl, .int mky, .int mkj, .int mke, .int mkk, .int mkt, .ref zkr, .ref zkt, .long hh])), (zp, .inl (cI, 25, .inl pg))]) [20, 21] rfl
      have hDc_9 := hD.sub (ws' := [(z, .inr (7, [.ref zp, .int (nI pn), .int (nI n), .int (nI yr), .int jo, .int ea, .int lo, .int (nI lr), .ref zr, .int (nI bd), .ref zb, .ref zc, .int (nI tn), .ref zt, .int sd, .ref zv, .int kl, .int mky, .int mkj, .int mke, .int mkk, .int mkt, .ref zkr, .ref zkt, .long hh])), (zp, .inl (cI, 25, .inl pg))]) [20, 21] (by decide) rfl
      have hFc_10 := va_free (wc := [(z, .inr (7, [.ref zp, .int (nI pn), .int (nI n), .int (nI yr), .int jo, .int ea, .int lo, .int (nI lr), .ref zr, .int (nI bd), .ref zb, .ref zc, .int (nI tn), .ref zt, .int sd, .ref zv, .int kl, .int mky, .int mkj, .int mke, .int mkk, .int mkt, .ref zkr, .ref zkt, .long hh])), (zp, .inl (cI, 25, .inl pg))]) hD hS hA [20, 21] rfl
      refine jcallWi (post := fun r H => r = nI (pn + 1) ∧ va_P D vwCl [(z, .inr (7, [.ref zp, .int (nI (pn + 1)), (.int (nI n)), (.int (nI yr)), (.int jo), (.int ea), (.int lo), (.int (nI lr)), (.ref zr), (.int (nI bd)), (.ref zb), (.ref zc), (.int (nI tn)), (.ref zt), (.int sd), (.ref zv), (.int kl), (.int mky), (.int mkj), (.int mke), (.int mkk), (.int mkt), (.ref zkr), (.ref zkt), (.long hh)])), (zp, .inl (cI, 25, .inl (upd pg pn p1)))] H) (va_runV (As := [.int p1]) (rest := [.int r_7]) ⟨hx, hb, hml, hown, hts⟩ (c_mletter_ok l D cI cJ z zp pn (.int (nI n)) (.int (nI yr)) (.int jo) (.int ea) (.int lo) (.int (nI lr)) (.ref zr) (.int (nI bd)) (.ref zb) (.ref zc) (.int (nI tn)) (.ref zt) (.int sd) (.ref zv) (.int kl) (.int mky) (.int mkj) (.int mke) (.int mkk) (.int mkt) (.ref zkr) (.ref zkt) (.long hh) pg p1 h1 h2 hp H.size) (cwV 1 hts gL_law_X7_letter rfl rfl rfl (by decide +kernel) ⟨Nat.le_of_ble_eq_true rfl, Nat.le_of_ble_eq_true rfl⟩) (jpreV hT (va_recv hK hP (ci := 7) (q0 := 20) rfl rfl) ⟨hPc_8, hDc_9.weaken (fun _ _ _ _ => trivial), trivial⟩) rfl rfl hl.1 rfl (lv_room (Nat.le_of_ble_eq_true rfl)) dL_law_143 ⟨(show cells + 0 ≤ 600000 by omega), (show slots + 0 ≤ 7302250 by omega)⟩) hS hFc_10 (fun r_11 H locs hw_r_11 hz hkq hS => ?_)
      obtain ⟨h2r, hP1⟩ := hw_r_11
      obtain ⟨hP, hD⟩ := jjoin (wc := [(z, .inr (7, [.ref zp, .int (nI pn), .int (nI n), .int (nI yr), .int jo, .int ea, .int lo, .int (nI lr), .ref zr, .int (nI bd), .ref zb, .ref zc, .int (nI tn), .ref zt, .int sd, .ref zv, .int kl, .int mky, .int mkj, .int mke, .int mkk, .int mkt, .ref zkr, .ref zkt, .long hh])), (zp, .inl (cI, 25, .inl pg))]) (wr := [(x, .inr (6, [.ref xp, .int (nI (pn + 1)), .ref xj, .int (nI n), .ref xn, .ref xk, .ref xu, .int hi, .int (nI lr), .int (nI bd), .ref xm, .ref xw])), (xp, .inl (cI, 25, .inl (upd pg pn p1))), (xj, .inl (cJ, 6, .inr (.inr (.inr (.inr jr))))), (xn, .inr (1, [.int (nI yr), .int ea, .int lo, .int jo, .int (nI tn), .ref ns, .ref ne, .ref n7, .ref n8])), (ns, .inl (cI, 6, .inl sp)), (ne, .inl (cI, 6, .inl en)), (n7, .inl (cI, 6, .inl tY)), (n8, .inl (cI, 6, .inl tW)), (xk, .inr (1, [.int ky, .int kea, .int klo, .int kjo, .int kta, .ref k5, .ref k6, .ref k7, .ref k8])), (k5, .inl (cI, 6, .inl ksp)), (k6, .inl (cI, 6, .inl ken)), (k7, .inl (cI, 6, .inl ktY)), (k8, .inl (cI, 6, .inl ktW)), (xu, .inr (1, [.int uy, .int uea, .int ulo, .int ujo, .int uta, .ref w5, .ref w6, .ref w7, .ref w8])), (w5, .inl (cI, 6, .inl usp)), (w6, .inl (cI, 6, .inl uen)), (w7, .inl (cI, 6, .inl utY)), (w8, .inl (cI, 6, .inl utW)), (xm, .inl (cI, 91, .inl M)), (xw, .inl (cI, 6, .inl nw)), (zr, .inl (cI, 30, .inl Rw)), (zb, .inl (cI, 91, .inl T)), (zc, .inl (cI, 6, .inl C)), (zt, .inl (cI, 12, .inl Tt)), (zv, .inl (cI, 30, .inl Sv)), (zkr, .inl (cI, 30, .inl KR)), (zkt, .inl (cI, 12, .inl KT))]) (w1 := [(z, .inr (7, [.ref zp, .int (nI (pn + 1)), .int (nI n), .int (nI yr), .int jo, .int ea, .int lo, .int (nI lr), .ref zr, .int (nI bd), .ref zb, .ref zc, .int (nI tn), .ref zt, .int sd, .ref zv, .int kl, .int mky, .int mkj, .int mke, .int mkk, .int mkt, .ref zkr, .ref zkt, .long hh])), (zp, .inl (cI, 25, .inl (upd pg pn p1)))]) (ws' := [(x, .inr (6, [.ref xp, .int (nI (pn + 1)), .ref xj, .int (nI n), .ref xn, .ref xk, .ref xu, .int hi, .int (nI lr), .int (nI bd), .ref xm, .ref xw])), (xp, .inl (cI, 25, .inl (upd pg pn p1))), (xj, .inl (cJ, 6, .inr (.inr (.inr (.inr jr))))), (xn, .inr (1, [.int (nI yr), .int ea, .int lo, .int jo, .int (nI tn), .ref ns, .ref ne, .ref n7, .ref n8])), (ns, .inl (cI, 6, .inl sp)), (ne, .inl (cI, 6, .inl en)), (n7, .inl (cI, 6, .inl tY)), (n8, .inl (cI, 6, .inl tW)), (xk, .inr (1, [.int ky, .int kea, .int klo, .int kjo, .int kta, .ref k5, .ref k6, .ref k7, .ref k8])), (k5, .inl (cI, 6, .inl ksp)), (k6, .inl (cI, 6, .inl ken)), (k7, .inl (cI, 6, .inl ktY)), (k8, .inl (cI, 6, .inl ktW)), (xu, .inr (1, [.int uy, .int uea, .int ulo, .int ujo, .int uta, .ref w5, .ref w6, .ref w7, .ref w8])), (w5, .inl (cI, 6, .inl usp)), (w6, .inl (cI, 6, .inl uen)), (w7, .inl (cI, 6, .inl utY)), (w8, .inl (cI, 6, .inl utW)), (xm, .inl (cI, 91, .inl M)), (xw, .inl (cI, 6, .inl nw)), (z, .inr (7, [.ref zp, .int (nI (pn + 1)), .int (nI n), .int (nI yr), .int jo, .int ea, .int lo, .int (nI lr), .ref zr, .int (nI bd), .ref zb, .ref zc, .int (nI tn), .ref zt, .int sd, .ref zv, .int kl, .int mky, .int mkj, .int mke, .int mkk, .int mkt, .ref zkr, .ref zkt, .long hh])), (zp, .inl (cI, 25, .inl (upd pg pn p1))), (zr, .inl (cI, 30, .inl Rw)), (zb, .inl (cI, 91, .inl T)), (zc, .inl (cI, 6, .inl C)), (zt, .inl (cI, 12, .inl Tt)), (zv, .inl (cI, 30, .inl Sv)), (zkr, .inl (cI, 30, .inl KR)), (zkt, .inl (cI, 12, .inl KT))]) hP hD hFc_10 [20, 21] [0, 1, 2, 3, 4, 5, 6, 7, 8, 9, 10, 11, 12, 13, 14, 15, 16, 17, 18, 19, 22, 23, 24, 25, 26, 27, 28] [0, 1, 2, 3, 4, 5, 6, 7, 8, 9, 10, 11, 12, 13, 14, 15, 16, 17, 18, 19, 27, 28, 20, 21, 22, 23, 24, 25, 26] rfl rfl (by decide) (by decide) (by decide) (by decide) hkq hP1 rfl rfl rfl
      have hJ := jJ.keptA (A := va_A [(z, .inr (7, [.ref zp, .int (nI pn), .int (nI n), .int (nI yr), .int jo, .int ea, .int lo, .int (nI lr), .ref zr, .int (nI bd), .ref zb, .ref zc, .int (nI tn), .ref zt, .int sd, .ref zv, .int kl, .int mky, .int mkj, .int mke, .int mkk, .int mkt, .ref zkr, .ref zkt, .long hh])), (zp, .inl (cI, 25, .inl pg))] _) hJ (fun i a h1 h2 => jap (hJ.lt h1 h2) (fun h => hap i a h1 h2 (jmem [20, 21] rfl h))) hkq
      refine lv_icmp_eq (tgt := 559) hx hb dL_law_146 (by decide) (fun c_12 => ?_) (fun c_12 => ?_)
      · skip
        refine W.widen (k := cells + 6) (n := slots + 18) (by omega) (by omega) ?_
        exact kk H locs (fun X9 k9 => k9 n (pn + 1) tn bd lr yr (upd pg pn p1) jr jk jg js jm ea lo jo sp en tY tW hi ky kea klo kjo kta ksp ken ktY ktW uy uea ulo ujo uta usp uen utY utW M nw Rw T C Tt sd Sv kl mky mkj mke mkk mkt KR KT hh hP hD hJ hap hn6 (by omega) htn hbd hyr (by omega) hRw hSp hBd hTt hKp) hS
      · skip
        exact absurd (by rw [h1r, h2r]) c_12
    · skip
      refine lv_aload_n hx hb dL_law_128 rfl (lv_at hl 2 rfl) ?_
      refine lv_aload_n hx hb dL_law_129 rfl (lv_at hl 1 rfl) ?_
      refine lv_iload_n hx hb dL_law_130 rfl (lv_at hl 0 rfl) ?_
      refine lv_iconst (v := 1) hx hb dL_law_131 (by decide) ?_
      refine lv_iadd hx hb dL_law_132 ?_
      refine jv_as (y := nI ((4 * c9) + 1)) (nI_add (4 * c9) 1) ?_
      refine jv_sld hx hb hX hbl hbA hS (k := (4 * c9) + 1) (by omega) hL (v := p1) e1 dL_law_133 ?_
      have hPc_13 := hP.sub (ws' := [(x, .inr (6, [.ref xp, .int (nI pn), .ref xj, .int (nI n), .ref xn, .ref xk, .ref xu, .int hi, .int (nI lr), .int (nI bd), .ref xm, .ref xw])), (xp, .inl (cI, 25, .inl pg))]) [0, 1] rfl
      refine jcalli (va_runV (As := [.int p1]) (rest := []) ⟨hx, hb, hml, hown, hts⟩ (c_letter_full l D cI cJ x xp pn (.ref xj) (.int (nI n)) (.ref xn) (.ref xk) (.ref xu) (.int hi) (.int (nI lr)) (.int (nI bd)) (.ref xm) (.ref xw) pg p1 h1 h2 (by omega) H.size) (cwV 1 hts gL_law_X6_letter rfl rfl rfl (by decide +kernel) ⟨Nat.le_of_ble_eq_true rfl, Nat.le_of_ble_eq_true rfl⟩) (jpreV hT (va_recv hK hP (ci := 6) (q0 := 0) rfl rfl) hPc_13) rfl rfl hl.1 rfl (lv_room (Nat.le_of_ble_eq_true rfl)) dL_law_134 ⟨(show cells + 0 ≤ 600000 by omega), (show slots + 0 ≤ 7302250 by omega)⟩) hS hA (fun r_14 H locs hw_r_14 hkq hS => ?_)
      try dsimp only at hw_r_14
      have hP := jkeep hP hkq
      have hJ := hJ.kept hkq
      subst hw_r_14
      refine lv_aload_n hx hb dL_law_137 rfl (lv_at hl 3 rfl) ?_
      refine lv_aload_n hx hb dL_law_138 rfl (lv_at hl 1 rfl) ?_
      refine lv_iload_n hx hb dL_law_139 rfl (lv_at hl 0 rfl) ?_
      refine lv_iconst (v := 1) hx hb dL_law_140 (by decide) ?_
      refine lv_iadd hx hb dL_law_141 ?_
      refine jv_as (y := nI ((4 * c9) + 1)) (nI_add (4 * c9) 1) ?_
      refine jv_sld hx hb hX hbl hbA hS (k := (4 * c9) + 1) (by omega) hL (v := p1) e1 dL_law_142 ?_
      have hPc_15 := hP.sub (ws' := [(z, .inr (7, [.ref zp, .int (nI pn), .int (nI n), .int (nI yr), .int jo, .int ea, .int lo, .int (nI lr), .ref zr, .int (nI bd), .ref zb, .ref zc, .int (nI tn), .ref zt, .int sd, .ref zv, .int kl, .int mky, .int mkj, .int mke, .int mkk, .int mkt, .ref zkr, .ref zkt, .long hh])), (zp, .inl (cI, 25, .inl pg))]) [20, 21] rfl
      refine jcalli (va_runV (As := [.int p1]) (rest := [.int (-104)]) ⟨hx, hb, hml, hown, hts⟩ (c_mletter_full l D cI cJ z zp pn (.int (nI n)) (.int (nI yr)) (.int jo) (.int ea) (.int lo) (.int (nI lr)) (.ref zr) (.int (nI bd)) (.ref zb) (.ref zc) (.int (nI tn)) (.ref zt) (.int sd) (.ref zv) (.int kl) (.int mky) (.int mkj) (.int mke) (.int mkk) (.int mkt) (.ref zkr) (.ref zkt) (.long hh) pg p1 h1 h2 (by omega) H.size) (cwV 1 hts gL_law_X7_letter rfl rfl rfl (by decide +kernel) ⟨Nat.le_of_ble_eq_true rfl, Nat.le_of_ble_eq_true rfl⟩) (jpreV hT (va_recv hK hP (ci := 7) (q0 := 20) rfl rfl) hPc_15) rfl rfl hl.1 rfl (lv_room (Nat.le_of_ble_eq_true rfl)) dL_law_143 ⟨(show cells + 0 ≤ 600000 by omega), (show slots + 0 ≤ 7302250 by omega)⟩) hS hA (fun r_16 H locs hw_r_16 hkq hS => ?_)
      try dsimp only at hw_r_16
      have hP := jkeep hP hkq
      have hJ := hJ.kept hkq
      subst hw_r_16
      refine lv_icmp_eq (tgt := 559) hx hb dL_law_146 (by decide) (fun c_17 => ?_) (fun c_17 => ?_)
      · skip
        refine W.widen (k := cells + 6) (n := slots + 18) (by omega) (by omega) ?_
        exact kk H locs (fun X9 k9 => k9 n pn tn bd lr yr pg jr jk jg js jm ea lo jo sp en tY tW hi ky kea klo kjo kta ksp ken ktY ktW uy uea ulo ujo uta usp uen utY utW M nw Rw T C Tt sd Sv kl mky mkj mke mkk mkt KR KT hh hP hD hJ hap hn6 hpn htn hbd hyr (by omega) hRw hSp hBd hTt hKp) hS
      · skip
        exact absurd c_17 (by decide)

set_option maxHeartbeats 8000000 in
set_option maxRecDepth 100000 in
theorem law_blank (l : Launch) (hC : jCx p s m c b L xs D cI cJ A) (hc9 : 4 * c9 + 4 ≤ L) (hcl : cells + 6 ≤ 600000) (hsl : slots + 18 ≤ 7302250) (hS : va_S A s.heap H locs) (hl : lv_has ls 4 [(3, .int (nI (4 * c9))), (0, .ref b), (1, .ref x), (2, .ref z)]) (hI : jAll D cI cJ A x xp xj xn ns ne n7 n8 xk k5 k6 k7 k8 xu w5 w6 w7 w8 xm xw z zp zr zb zc zt zv zkr zkt c9 H)
    (kk : ∀ (H' : Heap) (locs' : List Loc), jAll D cI cJ A x xp xj xn ns ne n7 n8 xk k5 k6 k7 k8 xu w5 w6 w7 w8 xm xw z zp zr zb zc zt zv zkr zkt (c9 + 1) H' → va_S A s.heap H' locs' → W p l e room_1 s m #[Value.ref b] below meth c H' locs' (cells + 6) (slots + 18) Q (F0 m 559 ls [])) : W p l e room_1 s m #[Value.ref b] below meth c H locs cells slots Q (F0 m 151 ls []) := by
  obtain ⟨hx, hb, hml, hown, htT, hX, hbl, hT, hA, hbA, hL⟩ := hC
  have hK := hT.1
  have hts : ∀ w ∈ wsL_law, w.before #[Value.ref b] s = true := fun w h => htT w (wsL_law_in w h)
  refine hI _ (fun n pn tn bd lr yr pg jr jk jg js jm ea lo jo sp en tY tW hi ky kea klo kjo kta ksp ken ktY ktW uy uea ulo ujo uta usp uen utY utW M nw Rw T C Tt sd Sv kl mky mkj mke mkk mkt KR KT hh hP hD hJ hap hn6 hpn htn hbd hyr hlr hRw hSp hBd hTt hKp => ?_)
  obtain ⟨p1, e1⟩ : ∃ v : Int32, v = xs (4 * c9 + 1) := ⟨_, rfl⟩
  obtain ⟨p2, e2⟩ : ∃ v : Int32, v = xs (4 * c9 + 2) := ⟨_, rfl⟩
  obtain ⟨p3, e3⟩ : ∃ v : Int32, v = xs (4 * c9 + 3) := ⟨_, rfl⟩
  refine lv_aload_n hx hb dL_law_151 rfl (lv_at hl 2 rfl) ?_
  have hPc_1 := hP.sub (ws' := [(x, .inr (6, [.ref xp, .int (nI pn), .ref xj, .int (nI n), .ref xn, .ref xk, .ref xu, .int hi, .int (nI lr), .int (nI bd), .ref xm, .ref xw]))]) [0] rfl
  have hDc_2 := hD.sub (ws' := [(x, .inr (6, [.ref xp, .int (nI pn), .ref xj, .int (nI n), .ref xn, .ref xk, .ref xu, .int hi, .int (nI lr), .int (nI bd), .ref xm, .ref xw]))]) [0] (by decide) rfl
  have hFc_3 := va_free (wc := [(x, .inr (6, [.ref xp, .int (nI pn), .ref xj, .int (nI n), .ref xn, .ref xk, .ref xu, .int hi, .int (nI lr), .int (nI bd), .ref xm, .ref xw]))]) hD hS hA [0] rfl
  refine jcallWi (post := fun r H => r = nI pn ∧ va_P D vwCl [(x, .inr (6, [(.ref xp), .int 0, (.ref xj), (.int (nI n)), (.ref xn), (.ref xk), (.ref xu), (.int hi), (.int (nI lr)), (.int (nI bd)), (.ref xm), (.ref xw)]))] H) (va_runV (As := []) (rest := []) ⟨hx, hb, hml, hown, hts⟩ (c_blank l D cI cJ x pn (.ref xp) (.ref xj) (.int (nI n)) (.ref xn) (.ref xk) (.ref xu) (.int hi) (.int (nI lr)) (.int (nI bd)) (.ref xm) (.ref xw) H.size) (cwV 0 hts gL_law_X6_blank rfl rfl rfl (by decide +kernel) ⟨Nat.le_of_ble_eq_true rfl, Nat.le_of_ble_eq_true rfl⟩) (jpreV hT (va_recv hK hP (ci := 6) (q0 := 0) rfl rfl) ⟨hPc_1, hDc_2.weaken (fun _ _ _ _ => trivial), trivial⟩) rfl rfl hl.1 rfl (lv_room (Nat.le_of_ble_eq_true rfl)) dL_law_152 ⟨(show cells + 0 ≤ 600000 by omega), (show slots + 0 ≤ 7302250 by omega)⟩) hS hFc_3 (fun r_4 H locs hw_r_4 hz hkq hS => ?_)
  obtain ⟨h1r, hP1⟩ := hw_r_4
  obtain ⟨hP, hD⟩ := jjoin (wc := [(x, .inr (6, [.ref xp, .int (nI pn), .ref xj, .int (nI n), .ref xn, .ref xk, .ref xu, .int hi, .int (nI lr), .int (nI bd), .ref xm, .ref xw]))]) (wr := [(xp, .inl (cI, 25, .inl pg)), (xj, .inl (cJ, 6, .inr (.inr (.inr (.inr jr))))), (xn, .inr (1, [.int (nI yr), .int ea, .int lo, .int jo, .int (nI tn), .ref ns, .ref ne, .ref n7, .ref n8])), (ns, .inl (cI, 6, .inl sp)), (ne, .inl (cI, 6, .inl en)), (n7, .inl (cI, 6, .inl tY)), (n8, .inl (cI, 6, .inl tW)), (xk, .inr (1, [.int ky, .int kea, .int klo, .int kjo, .int kta, .ref k5, .ref k6, .ref k7, .ref k8])), (k5, .inl (cI, 6, .inl ksp)), (k6, .inl (cI, 6, .inl ken)), (k7, .inl (cI, 6, .inl ktY)), (k8, .inl (cI, 6, .inl ktW)), (xu, .inr (1, [.int uy, .int uea, .int ulo, .int ujo, .int uta, .ref w5, .ref w6, .ref w7, .ref w8])), (w5, .inl (cI, 6, .inl usp)), (w6, .inl (cI, 6, .inl uen)), (w7, .inl (cI, 6, .inl utY)), (w8, .inl (cI, 6, .inl utW)), (xm, .inl (cI, 91, .inl M)), (xw, .inl (cI, 6, .inl nw)), (z, .inr (7, [.ref zp, .int (nI pn), .int (nI n), .int (nI yr), .int jo, .int ea, .int lo, .int (nI lr), .ref zr, .int (nI bd), .ref zb, .ref zc, .int (nI tn), .ref zt, .int sd, .ref zv, .int kl, .int mky, .int mkj, .int mke, .int mkk, .int mkt, .ref zkr, .ref zkt, .long hh])), (zp, .inl (cI, 25, .inl pg)), (zr, .inl (cI, 30, .inl Rw)), (zb, .inl (cI, 91, .inl T)), (zc, .inl (cI, 6, .inl C)), (zt, .inl (cI, 12, .inl Tt)), (zv, .inl (cI, 30, .inl Sv)), (zkr, .inl (cI, 30, .inl KR)), (zkt, .inl (cI, 12, .inl KT))]) (w1 := [(x, .inr (6, [.ref xp, .int 0, .ref xj, .int (nI n), .ref xn, .ref xk, .ref xu, .int hi, .int (nI lr), .int (nI bd), .ref xm, .ref xw]))]) (ws' := [(x, .inr (6, [.ref xp, .int 0, .ref xj, .int (nI n), .ref xn, .ref xk, .ref xu, .int hi, .int (nI lr), .int (nI bd), .ref xm, .ref xw])), (xp, .inl (cI, 25, .inl pg)), (xj, .inl (cJ, 6, .inr (.inr (.inr (.inr jr))))), (xn, .inr (1, [.int (nI yr), .int ea, .int lo, .int jo, .int (nI tn), .ref ns, .ref ne, .ref n7, .ref n8])), (ns, .inl (cI, 6, .inl sp)), (ne, .inl (cI, 6, .inl en)), (n7, .inl (cI, 6, .inl tY)), (n8, .inl (cI, 6, .inl tW)), (xk, .inr (1, [.int ky, .int kea, .int klo, .int kjo, .int kta, .ref k5, .ref k6, .ref k7, .ref k8])), (k5, .inl (cI, 6, .inl ksp)), (k6, .inl (cI, 6, .inl ken)), (k7, .inl (cI, 6, .inl ktY)), (k8, .inl (cI, 6, .inl ktW)), (xu, .inr (1, [.int uy, .int uea, .int ulo, .int ujo, .int uta, .ref w5, .ref w6, .ref w7, .ref w8])), (w5, .inl (cI, 6, .inl usp)), (w6, .inl (cI, 6, .inl uen)), (w7, .inl (cI, 6, .inl utY)), (w8, .inl (cI, 6, .inl utW)), (xm, .inl (cI, 91, .inl M)), (xw, .inl (cI, 6, .inl nw)), (z, .inr (7, [.ref zp, .int (nI pn), .int (nI n), .int (nI yr), .int jo, .int ea, .int lo, .int (nI lr), .ref zr, .int (nI bd), .ref zb, .ref zc, .int (nI tn), .ref zt, .int sd, .ref zv, .int kl, .int mky, .int mkj, .int mke, .int mkk, .int mkt, .ref zkr, .ref zkt, .long hh])), (zp, .inl (cI, 25, .inl pg)), (zr, .inl (cI, 30, .inl Rw)), (zb, .inl (cI, 91, .inl T)), (zc, .inl (cI, 6, .inl C)), (zt, .inl (cI, 12, .inl Tt)), (zv, .inl (cI, 30, .inl Sv)), (zkr, .inl (cI, 30, .inl KR)), (zkt, .inl (cI, 12, .inl KT))]) hP hD hFc_3 [0] [1, 2, 3, 4, 5, 6, 7, 8, 9, 10, 11, 12, 13, 14, 15, 16, 17, 18, 19, 20, 21, 22, 23, 24, 25, 26, 27, 28] [28, 0, 1, 2, 3, 4, 5, 6, 7, 8, 9, 10, 11, 12, 13, 14, 15, 16, 17, 18, 19, 20, 21, 22, 23, 24, 25, 26, 27] rfl rfl (by decide) (by decide) (by decide) (by decide) hkq hP1 rfl rfl rfl
  have hJ := jJ.keptA (A := va_A [(x, .inr (6, [.ref xp, .int (nI pn), .ref xj, .int (nI n), .ref xn, .ref xk, .ref xu, .int hi, .int (nI lr), .int (nI bd), .ref xm, .ref xw]))] _) hJ (fun i a h1 h2 => jap (hJ.lt h1 h2) (fun h => hap i a h1 h2 (jmem [0] rfl h))) hkq
  refine lv_aload_n hx hb dL_law_155 rfl (lv_at hl 3 rfl) ?_
  have hPc_5 := hP.sub (ws' := [(z, .inr (7, [.ref zp, .int (nI pn), .int (nI n), .int (nI yr), .int jo, .int ea, .int lo, .int (nI lr), .ref zr, .int (nI bd), .ref zb, .ref zc, .int (nI tn), .ref zt, .int sd, .ref zv, .int kl, .int mky, .int mkj, .int mke, .int mkk, .int mkt, .ref zkr, .ref zkt, .long hh]))]) [20] rfl
  have hDc_6 := hD.sub (ws' := [(z, .inr (7, [.ref zp, .int (nI pn), .int (nI n), .int (nI yr), .int jo, .int ea, .int lo, .int (nI lr), .ref zr, .int (nI bd), .ref zb, .ref zc, .int (nI tn), .ref zt, .int sd, .ref zv, .int kl, .int mky, .int mkj, .int mke, .int mkk, .int mkt, .ref zkr, .ref zkt, .long hh]))]) [20] (by decide) rfl
  have hFc_7 := va_free (wc := [(z, .inr (7, [.ref zp, .int (nI pn), .int (nI n), .int (nI yr), .int jo, .int ea, .int lo, .int (nI lr), .ref zr, .int (nI bd), .ref zb, .ref zc, .int (nI tn), .ref zt, .int sd, .ref zv, .int kl, .int mky, .int mkj, .int mke, .int mkk, .int mkt, .ref zkr, .ref zkt, .long hh]))]) hD hS hA [20] rfl
  refine jcallWi (post := fun r H => r = nI pn ∧ va_P D vwCl [(z, .inr (7, [(.ref zp), .int 0, (.int (nI n)), (.int (nI yr)), (.int jo), (.int ea), (.int lo), (.int (nI lr)), (.ref zr), (.int (nI bd)), (.ref zb), (.ref zc), (.int (nI tn)), (.ref zt), (.int sd), (.ref zv), (.int kl), (.int mky), (.int mkj), (.int mke), (.int mkk), (.int mkt), (.ref zkr), (.ref zkt), (.long hh)]))] H) (va_runV (As := []) (rest := [.int r_4]) ⟨hx, hb, hml, hown, hts⟩ (c_mblank l D cI cJ z pn (.ref zp) (.int (nI n)) (.int (nI yr)) (.int jo) (.int ea) (.int lo) (.int (nI lr)) (.ref zr) (.int (nI bd)) (.ref zb) (.ref zc) (.int (nI tn)) (.ref zt) (.int sd) (.ref zv) (.int kl) (.int mky) (.int mkj) (.int mke) (.int mkk) (.int mkt) (.ref zkr) (.ref zkt) (.long hh) H.size) (cwV 0 hts gL_law_X7_blank rfl rfl rfl (by decide +kernel) ⟨Nat.le_of_ble_eq_true rfl, Nat.le_of_ble_eq_true rfl⟩) (jpreV hT (va_recv hK hP (ci := 7) (q0 := 20) rfl rfl) ⟨hPc_5, hDc_6.weaken (fun _ _ _ _ => trivial), trivial⟩) rfl rfl hl.1 rfl (lv_room (Nat.le_of_ble_eq_true rfl)) dL_law_156 ⟨(show cells + 0 ≤ 600000 by omega), (show slots + 0 ≤ 7302250 by omega)⟩) hS hFc_7 (fun r_8 H locs hw_r_8 hz hkq hS => ?_)
  obtain ⟨h2r, hP1⟩ := hw_r_8
  obtain ⟨hP, hD⟩ := jjoin (wc := [(z, .inr (7, [.ref zp, .int (nI pn), .int (nI n), .int (nI yr), .int jo, .int ea, .int lo, .int (nI lr), .ref zr, .int (nI bd), .ref zb, .ref zc, .int (nI tn), .ref zt, .int sd, .ref zv, .int kl, .int mky, .int mkj, .int mke, .int mkk, .int mkt, .ref zkr, .ref zkt, .long hh]))]) (wr := [(x, .inr (6, [.ref xp, .int 0, .ref xj, .int (nI n), .ref xn, .ref xk, .ref xu, .int hi, .int (nI lr), .int (nI bd), .ref xm, .ref xw])), (xp, .inl (cI, 25, .inl pg)), (xj, .inl (cJ, 6, .inr (.inr (.inr (.inr jr))))), (xn, .inr (1, [.int (nI yr), .int ea, .int lo, .int jo, .int (nI tn), .ref ns, .ref ne, .ref n7, .ref n8])), (ns, .inl (cI, 6, .inl sp)), (ne, .inl (cI, 6, .inl en)), (n7, .inl (cI, 6, .inl tY)), (n8, .inl (cI, 6, .inl tW)), (xk, .inr (1, [.int ky, .int kea, .int klo, .int kjo, .int kta, .ref k5, .ref k6, .ref k7, .ref k8])), (k5, .inl (cI, 6, .inl ksp)), (k6, .inl (cI, 6, .inl ken)), (k7, .inl (cI, 6, .inl ktY)), (k8, .inl (cI, 6, .inl ktW)), (xu, .inr (1, [.int uy, .int uea, .int ulo, .int ujo, .int uta, .ref w5, .ref w6, .ref w7, .ref w8])), (w5, .inl (cI, 6, .inl usp)), (w6, .inl (cI, 6, .inl uen)), (w7, .inl (cI, 6, .inl utY)), (w8, .inl (cI, 6, .inl utW)), (xm, .inl (cI, 91, .inl M)), (xw, .inl (cI, 6, .inl nw)), (zp, .inl (cI, 25, .inl pg)), (zr, .inl (cI, 30, .inl Rw)), (zb, .inl (cI, 91, .inl T)), (zc, .inl (cI, 6, .inl C)), (zt, .inl (cI, 12, .inl Tt)), (zv, .inl (cI, 30, .inl Sv)), (zkr, .inl (cI, 30, .inl KR)), (zkt, .inl (cI, 12, .inl KT))]) (w1 := [(z, .inr (7, [.ref zp, .int 0, .int (nI n), .int (nI yr), .int jo, .int ea, .int lo, .int (nI lr), .ref zr, .int (nI bd), .ref zb, .ref zc, .int (nI tn), .ref zt, .int sd, .ref zv, .int kl, .int mky, .int mkj, .int mke, .int mkk, .int mkt, .ref zkr, .ref zkt, .long hh]))]) (ws' := [(x, .inr (6, [.ref xp, .int 0, .ref xj, .int (nI n), .ref xn, .ref xk, .ref xu, .int hi, .int (nI lr), .int (nI bd), .ref xm, .ref xw])), (xp, .inl (cI, 25, .inl pg)), (xj, .inl (cJ, 6, .inr (.inr (.inr (.inr jr))))), (xn, .inr (1, [.int (nI yr), .int ea, .int lo, .int jo, .int (nI tn), .ref ns, .ref ne, .ref n7, .ref n8])), (ns, .inl (cI, 6, .inl sp)), (ne, .inl (cI, 6, .inl en)), (n7, .inl (cI, 6, .inl tY)), (n8, .inl (cI, 6, .inl tW)), (xk, .inr (1, [.int ky, .int kea, .int klo, .int kjo, .int kta, .ref k5, .ref k6, .ref k7, .ref k8])), (k5, .inl (cI, 6, .inl ksp)), (k6, .inl (cI, 6, .inl ken)), (k7, .inl (cI, 6, .inl ktY)), (k8, .inl (cI, 6, .inl ktW)), (xu, .inr (1, [.int uy, .int uea, .int ulo, .int ujo, .int uta, .ref w5, .ref w6, .ref w7, .ref w8])), (w5, .inl (cI, 6, .inl usp)), (w6, .inl (cI, 6, .inl uen)), (w7, .inl (cI, 6, .inl utY)), (w8, .inl (cI, 6, .inl utW)), (xm, .inl (cI, 91, .inl M)), (xw, .inl (cI, 6, .inl nw)), (z, .inr (7, [.ref zp, .int 0, .int (nI n), .int (nI yr), .int jo, .int ea, .int lo, .int (nI lr), .ref zr, .int (nI bd), .ref zb, .ref zc, .int (nI tn), .ref zt, .int sd, .ref zv, .int kl, .int mky, .int mkj, .int mke, .int mkk, .int mkt, .ref zkr, .ref zkt, .long hh])), (zp, .inl (cI, 25, .inl pg)), (zr, .inl (cI, 30, .inl Rw)), (zb, .inl (cI, 91, .inl T)), (zc, .inl (cI, 6, .inl C)), (zt, .inl (cI, 12, .inl Tt)), (zv, .inl (cI, 30, .inl Sv)), (zkr, .inl (cI, 30, .inl KR)), (zkt, .inl (cI, 12, .inl KT))]) hP hD hFc_7 [20] [0, 1, 2, 3, 4, 5, 6, 7, 8, 9, 10, 11, 12, 13, 14, 15, 16, 17, 18, 19, 21, 22, 23, 24, 25, 26, 27, 28] [0, 1, 2, 3, 4, 5, 6, 7, 8, 9, 10, 11, 12, 13, 14, 15, 16, 17, 18, 19, 28, 20, 21, 22, 23, 24, 25, 26, 27] rfl rfl (by decide) (by decide) (by decide) (by decide) hkq hP1 rfl rfl rfl
  have hJ := jJ.keptA (A := va_A [(z, .inr (7, [.ref zp, .int (nI pn), .int (nI n), .int (nI yr), .int jo, .int ea, .int lo, .int (nI lr), .ref zr, .int (nI bd), .ref zb, .ref zc, .int (nI tn), .ref zt, .int sd, .ref zv, .int kl, .int mky, .int mkj, .int mke, .int mkk, .int mkt, .ref zkr, .ref zkt, .long hh]))] _) hJ (fun i a h1 h2 => jap (hJ.lt h1 h2) (fun h => hap i a h1 h2 (jmem [20] rfl h))) hkq
  refine lv_icmp_eq (tgt := 559) hx hb dL_law_159 (by decide) (fun c_9 => ?_) (fun c_9 => ?_)
  · skip
    refine W.widen (k := cells + 6) (n := slots + 18) (by omega) (by omega) ?_
    exact kk H locs (fun X9 k9 => k9 n 0 tn bd lr yr pg jr jk jg js jm ea lo jo sp en tY tW hi ky kea klo kjo kta ksp ken ktY ktW uy uea ulo ujo uta usp uen utY utW M nw Rw T C Tt sd Sv kl mky mkj mke mkk mkt KR KT hh hP hD hJ hap hn6 (by omega) htn hbd hyr (by omega) hRw hSp hBd hTt hKp) hS
  · skip
    exact absurd (by rw [h1r, h2r]) c_9

set_option maxHeartbeats 8000000 in
set_option maxRecDepth 100000 in
theorem law_fault (l : Launch) (hC : jCx p s m c b L xs D cI cJ A) (hc9 : 4 * c9 + 4 ≤ L) (hcl : cells + 6 ≤ 600000) (hsl : slots + 18 ≤ 7302250) (hS : va_S A s.heap H locs) (hl : lv_has ls 4 [(3, .int (nI (4 * c9))), (0, .ref b), (1, .ref x), (2, .ref z)]) (hI : jAll D cI cJ A x xp xj xn ns ne n7 n8 xk k5 k6 k7 k8 xu w5 w6 w7 w8 xm xw z zp zr zb zc zt zv zkr zkt c9 H)
    (kk : ∀ (H' : Heap) (locs' : List Loc), jAll D cI cJ A x xp xj xn ns ne n7 n8 xk k5 k6 k7 k8 xu w5 w6 w7 w8 xm xw z zp zr zb zc zt zv zkr zkt (c9 + 1) H' → va_S A s.heap H' locs' → W p l e room_1 s m #[Value.ref b] below meth c H' locs' (cells + 6) (slots + 18) Q (F0 m 559 ls [])) : W p l e room_1 s m #[Value.ref b] below meth c H locs cells slots Q (F0 m 164 ls []) := by
  obtain ⟨hx, hb, hml, hown, htT, hX, hbl, hT, hA, hbA, hL⟩ := hC
  have hK := hT.1
  have hts : ∀ w ∈ wsL_law, w.before #[Value.ref b] s = true := fun w h => htT w (wsL_law_in w h)
  refine hI _ (fun n pn tn bd lr yr pg jr jk jg js jm ea lo jo sp en tY tW hi ky kea klo kjo kta ksp ken ktY ktW uy uea ulo ujo uta usp uen utY utW M nw Rw T C Tt sd Sv kl mky mkj mke mkk mkt KR KT hh hP hD hJ hap hn6 hpn htn hbd hyr hlr hRw hSp hBd hTt hKp => ?_)
  obtain ⟨p1, e1⟩ : ∃ v : Int32, v = xs (4 * c9 + 1) := ⟨_, rfl⟩
  obtain ⟨p2, e2⟩ : ∃ v : Int32, v = xs (4 * c9 + 2) := ⟨_, rfl⟩
  obtain ⟨p3, e3⟩ : ∃ v : Int32, v = xs (4 * c9 + 3) := ⟨_, rfl⟩
  refine lv_aload_n hx hb dL_law_164 rfl (lv_at hl 2 rfl) ?_
  have hPc_1 := hP.sub (ws' := [(x, .inr (6, [.ref xp, .int (nI pn), .ref xj, .int (nI n), .ref xn, .ref xk, .ref xu, .int hi, .int (nI lr), .int (nI bd), .ref xm, .ref xw])), (xp, .inl (cI, 25, .inl pg))]) [0, 1] rfl
  refine jcalli (va_runV (As := []) (rest := []) ⟨hx, hb, hml, hown, hts⟩ (c_fault l D cI cJ x xp pn (.ref xj) (.int (nI n)) (.ref xn) (.ref xk) (.ref xu) (.int hi) (.int (nI lr)) (.int (nI bd)) (.ref xm) (.ref xw) pg hpn H.size) (cwV 0 hts gL_law_X6_fault rfl rfl rfl (by decide +kernel) ⟨Nat.le_of_ble_eq_true rfl, Nat.le_of_ble_eq_true rfl⟩) (jpreV hT (va_recv hK hP (ci := 6) (q0 := 0) rfl rfl) hPc_1) rfl rfl hl.1 rfl (lv_room (Nat.le_of_ble_eq_true rfl)) dL_law_165 ⟨(show cells + 0 ≤ 600000 by omega), (show slots + 0 ≤ 7302250 by omega)⟩) hS hA (fun r_2 H locs hw_r_2 hkq hS => ?_)
  try dsimp only at hw_r_2
  have hP := jkeep hP hkq
  have hJ := hJ.kept hkq
  subst hw_r_2
  refine lv_aload_n hx hb dL_law_168 rfl (lv_at hl 3 rfl) ?_
  have hPc_3 := hP.sub (ws' := [(z, .inr (7, [.ref zp, .int (nI pn), .int (nI n), .int (nI yr), .int jo, .int ea, .int lo, .int (nI lr), .ref zr, .int (nI bd), .ref zb, .ref zc, .int (nI tn), .ref zt, .int sd, .ref zv, .int kl, .int mky, .int mkj, .int mke, .int mkk, .int mkt, .ref zkr, .ref zkt, .long hh])), (zp, .inl (cI, 25, .inl pg))]) [20, 21] rfl
  refine jcalli (va_runV (As := []) (rest := [.int (nI (jfo (fun i => jft i (pg i)) pn))]) ⟨hx, hb, hml, hown, hts⟩ (c_mfault l D cI cJ z zp pn (.int (nI n)) (.int (nI yr)) (.int jo) (.int ea) (.int lo) (.int (nI lr)) (.ref zr) (.int (nI bd)) (.ref zb) (.ref zc) (.int (nI tn)) (.ref zt) (.int sd) (.ref zv) (.int kl) (.int mky) (.int mkj) (.int mke) (.int mkk) (.int mkt) (.ref zkr) (.ref zkt) (.long hh) pg hpn H.size) (cwV 0 hts gL_law_X7_fault rfl rfl rfl (by decide +kernel) ⟨Nat.le_of_ble_eq_true rfl, Nat.le_of_ble_eq_true rfl⟩) (jpreV hT (va_recv hK hP (ci := 7) (q0 := 20) rfl rfl) hPc_3) rfl rfl hl.1 rfl (lv_room (Nat.le_of_ble_eq_true rfl)) dL_law_169 ⟨(show cells + 0 ≤ 600000 by omega), (show slots + 0 ≤ 7302250 by omega)⟩) hS hA (fun r_4 H locs hw_r_4 hkq hS => ?_)
  try dsimp only at hw_r_4
  have hP := jkeep hP hkq
  have hJ := hJ.kept hkq
  subst hw_r_4
  refine lv_icmp_eq (tgt := 559) hx hb dL_law_172 (by decide) (fun c_5 => ?_) (fun c_5 => ?_)
  · skip
    refine W.widen (k := cells + 6) (n := slots + 18) (by omega) (by omega) ?_
    exact kk H locs (fun X9 k9 => k9 n pn tn bd lr yr pg jr jk jg js jm ea lo jo sp en tY tW hi ky kea klo kjo kta ksp ken ktY ktW uy uea ulo ujo uta usp uen utY utW M nw Rw T C Tt sd Sv kl mky mkj mke mkk mkt KR KT hh hP hD hJ hap hn6 hpn htn hbd hyr (by omega) hRw hSp hBd hTt hKp) hS
  · skip
    exact absurd (congrArg nI (jfoR hpn)) c_5

set_option maxHeartbeats 8000000 in
set_option maxRecDepth 100000 in
theorem law_jar (l : Launch) (hC : jCx p s m c b L xs D cI cJ A) (hc9 : 4 * c9 + 4 ≤ L) (hcl : cells + 6 ≤ 600000) (hsl : slots + 18 ≤ 7302250) (hS : va_S A s.heap H locs) (hl : lv_has ls 4 [(3, .int (nI (4 * c9))), (0, .ref b), (1, .ref x), (2, .ref z)]) (hI : jAll D cI cJ A x xp xj xn ns ne n7 n8 xk k5 k6 k7 k8 xu w5 w6 w7 w8 xm xw z zp zr zb zc zt zv zkr zkt c9 H)
    (kk : ∀ (H' : Heap) (locs' : List Loc), jAll D cI cJ A x xp xj xn ns ne n7 n8 xk k5 k6 k7 k8 xu w5 w6 w7 w8 xm xw z zp zr zb zc zt zv zkr zkt (c9 + 1) H' → va_S A s.heap H' locs' → W p l e room_1 s m #[Value.ref b] below meth c H' locs' (cells + 6) (slots + 18) Q (F0 m 559 ls [])) : W p l e room_1 s m #[Value.ref b] below meth c H locs cells slots Q (F0 m 190 ls []) := by
  obtain ⟨hx, hb, hml, hown, htT, hX, hbl, hT, hA, hbA, hL⟩ := hC
  have hK := hT.1
  have hts : ∀ w ∈ wsL_law, w.before #[Value.ref b] s = true := fun w h => htT w (wsL_law_in w h)
  refine hI _ (fun n pn tn bd lr yr pg jr jk jg js jm ea lo jo sp en tY tW hi ky kea klo kjo kta ksp ken ktY ktW uy uea ulo ujo uta usp uen utY utW M nw Rw T C Tt sd Sv kl mky mkj mke mkk mkt KR KT hh hP hD hJ hap hn6 hpn htn hbd hyr hlr hRw hSp hBd hTt hKp => ?_)
  obtain ⟨p1, e1⟩ : ∃ v : Int32, v = xs (4 * c9 + 1) := ⟨_, rfl⟩
  obtain ⟨p2, e2⟩ : ∃ v : Int32, v = xs (4 * c9 + 2) := ⟨_, rfl⟩
  obtain ⟨p3, e3⟩ : ∃ v : Int32, v = xs (4 * c9 + 3) := ⟨_, rfl⟩
  rcases jix p1 (n := n) (by omega) with hq | ⟨j, hj, rfl⟩
  · skip
    refine lv_aload_n hx hb dL_law_190 rfl (lv_at hl 2 rfl) ?_
    refine lv_aload_n hx hb dL_law_191 rfl (lv_at hl 1 rfl) ?_
    refine lv_iload_n hx hb dL_law_192 rfl (lv_at hl 0 rfl) ?_
    refine lv_iconst (v := 1) hx hb dL_law_193 (by decide) ?_
    refine lv_iadd hx hb dL_law_194 ?_
    refine jv_as (y := nI ((4 * c9) + 1)) (nI_add (4 * c9) 1) ?_
    refine jv_sld hx hb hX hbl hbA hS (k := (4 * c9) + 1) (by omega) hL (v := p1) e1 dL_law_195 ?_
    refine lv_aload_n hx hb dL_law_196 rfl (lv_at hl 1 rfl) ?_
    refine lv_iload_n hx hb dL_law_197 rfl (lv_at hl 0 rfl) ?_
    refine lv_iconst (v := 2) hx hb dL_law_198 (by decide) ?_
    refine lv_iadd hx hb dL_law_199 ?_
    refine jv_as (y := nI ((4 * c9) + 2)) (nI_add (4 * c9) 2) ?_
    refine jv_sld hx hb hX hbl hbA hS (k := (4 * c9) + 2) (by omega) hL (v := p2) e2 dL_law_200 ?_
    have hPc_1 := hP.sub (ws' := [(x, .inr (6, [.ref xp, .int (nI pn), .ref xj, .int (nI n), .ref xn, .ref xk, .ref xu, .int hi, .int (nI lr), .int (nI bd), .ref xm, .ref xw])), (xj, .inl (cJ, 6, .inr (.inr (.inr (.inr jr)))))]) [0, 2] rfl
    refine jcalli (va_runV (As := [.int p1, .int p2]) (rest := []) ⟨hx, hb, hml, hown, hts⟩ (c_jar_no l D cI cJ x xj n (.ref xp) (.int (nI pn)) (.ref xn) (.ref xk) (.ref xu) (.int hi) (.int (nI lr)) (.int (nI bd)) (.ref xm) (.ref xw) jr p1 p2 hq H.size) (cwV 2 hts gL_law_X6_jar rfl rfl rfl (by decide +kernel) ⟨Nat.le_of_ble_eq_true rfl, Nat.le_of_ble_eq_true rfl⟩) (jpreV hT (va_recv hK hP (ci := 6) (q0 := 0) rfl rfl) hPc_1) rfl rfl hl.1 rfl (lv_room (Nat.le_of_ble_eq_true rfl)) dL_law_201 ⟨(show cells + 0 ≤ 600000 by omega), (show slots + 0 ≤ 7302250 by omega)⟩) hS hA (fun r_2 H locs hw_r_2 hkq hS => ?_)
    try dsimp only at hw_r_2
    have hP := jkeep hP hkq
    have hJ := hJ.kept hkq
    subst hw_r_2
    refine lv_aload_n hx hb dL_law_204 rfl (lv_at hl 3 rfl) ?_
    refine lv_aload_n hx hb dL_law_205 rfl (lv_at hl 1 rfl) ?_
    refine lv_iload_n hx hb dL_law_206 rfl (lv_at hl 0 rfl) ?_
    refine lv_iconst (v := 1) hx hb dL_law_207 (by decide) ?_
    refine lv_iadd hx hb dL_law_208 ?_
    refine jv_as (y := nI ((4 * c9) + 1)) (nI_add (4 * c9) 1) ?_
    refine jv_sld hx hb hX hbl hbA hS (k := (4 * c9) + 1) (by omega) hL (v := p1) e1 dL_law_209 ?_
    refine lv_aload_n hx hb dL_law_210 rfl (lv_at hl 1 rfl) ?_
    refine lv_iload_n hx hb dL_law_211 rfl (lv_at hl 0 rfl) ?_
    refine lv_iconst (v := 2) hx hb dL_law_212 (by decide) ?_
    refine lv_iadd hx hb dL_law_213 ?_
    refine jv_as (y := nI ((4 * c9) + 2)) (nI_add (4 * c9) 2) ?_
    refine jv_sld hx hb hX hbl hbA hS (k := (4 * c9) + 2) (by omega) hL (v := p2) e2 dL_law_214 ?_
    have hPc_3 := hP.sub (ws' := [(z, .inr (7, [.ref zp, .int (nI pn), .int (nI n), .int (nI yr), .int jo, .int ea, .int lo, .int (nI lr), .ref zr, .int (nI bd), .ref zb, .ref zc, .int (nI tn), .ref zt, .int sd, .ref zv, .int kl, .int mky, .int mkj, .int mke, .int mkk, .int mkt, .ref zkr, .ref zkt, .long hh]))]) [20] rfl
    refine jcalli (va_runV (As := [.int p1, .int p2]) (rest := [.int (-101)]) ⟨hx, hb, hml, hown, hts⟩ (c_mjar_no l D cI cJ z n (.ref zp) (.int (nI pn)) (.int (nI yr)) (.int jo) (.int ea) (.int lo) (.int (nI lr)) (.ref zr) (.int (nI bd)) (.ref zb) (.ref zc) (.int (nI tn)) (.ref zt) (.int sd) (.ref zv) (.int kl) (.int mky) (.int mkj) (.int mke) (.int mkk) (.int mkt) (.ref zkr) (.ref zkt) (.long hh) p1 p2 hq hn6 H.size) (cwV 2 hts gL_law_X7_jar rfl rfl rfl (by decide +kernel) ⟨Nat.le_of_ble_eq_true rfl, Nat.le_of_ble_eq_true rfl⟩) (jpreV hT (va_recv hK hP (ci := 7) (q0 := 20) rfl rfl) hPc_3) rfl rfl hl.1 rfl (lv_room (Nat.le_of_ble_eq_true rfl)) dL_law_215 ⟨(show cells + 0 ≤ 600000 by omega), (show slots + 0 ≤ 7302250 by omega)⟩) hS hA (fun r_4 H locs hw_r_4 hkq hS => ?_)
    try dsimp only at hw_r_4
    have hP := jkeep hP hkq
    have hJ := hJ.kept hkq
    subst hw_r_4
    refine lv_icmp_eq (tgt := 559) hx hb dL_law_218 (by decide) (fun c_5 => ?_) (fun c_5 => ?_)
    · skip
      refine W.widen (k := cells + 6) (n := slots + 18) (by omega) (by omega) ?_
      exact kk H locs (fun X9 k9 => k9 n pn tn bd lr yr pg jr jk jg js jm ea lo jo sp en tY tW hi ky kea klo kjo kta ksp ken ktY ktW uy uea ulo ujo uta usp uen utY utW M nw Rw T C Tt sd Sv kl mky mkj mke mkk mkt KR KT hh hP hD hJ hap hn6 hpn htn hbd hyr (by omega) hRw hSp hBd hTt hKp) hS
    · skip
      exact absurd c_5 (by decide)
  · skip
    rcases jixT p2 7 with hw | ⟨cq, hc, rfl⟩
    · skip
      refine lv_aload_n hx hb dL_law_190 rfl (lv_at hl 2 rfl) ?_
      refine lv_aload_n hx hb dL_law_191 rfl (lv_at hl 1 rfl) ?_
      refine lv_iload_n hx hb dL_law_192 rfl (lv_at hl 0 rfl) ?_
      refine lv_iconst (v := 1) hx hb dL_law_193 (by decide) ?_
      refine lv_iadd hx hb dL_law_194 ?_
      refine jv_as (y := nI ((4 * c9) + 1)) (nI_add (4 * c9) 1) ?_
      refine jv_sld hx hb hX hbl hbA hS (k := (4 * c9) + 1) (by omega) hL (v := nI j) e1 dL_law_195 ?_
      refine lv_aload_n hx hb dL_law_196 rfl (lv_at hl 1 rfl) ?_
      refine lv_iload_n hx hb dL_law_197 rfl (lv_at hl 0 rfl) ?_
      refine lv_iconst (v := 2) hx hb dL_law_198 (by decide) ?_
      refine lv_iadd hx hb dL_law_199 ?_
      refine jv_as (y := nI ((4 * c9) + 2)) (nI_add (4 * c9) 2) ?_
      refine jv_sld hx hb hX hbl hbA hS (k := (4 * c9) + 2) (by omega) hL (v := p2) e2 dL_law_200 ?_
      have hPc_6 := hP.sub (ws' := [(x, .inr (6, [.ref xp, .int (nI pn), .ref xj, .int (nI n), .ref xn, .ref xk, .ref xu, .int hi, .int (nI lr), .int (nI bd), .ref xm, .ref xw])), (xj, .inl (cJ, 6, .inr (.inr (.inr (.inr jr)))))]) [0, 2] rfl
      refine jcalli (va_runV (As := [.int (nI j), .int p2]) (rest := []) ⟨hx, hb, hml, hown, hts⟩ (c_jar_out l D cI cJ x xj n (.ref xp) (.int (nI pn)) (.ref xn) (.ref xk) (.ref xu) (.int hi) (.int (nI lr)) (.int (nI bd)) (.ref xm) (.ref xw) jr jk jg js jm j p2 hj hn6 (by omega) H.size) (cwV 2 hts gL_law_X6_jar rfl rfl rfl (by decide +kernel) ⟨Nat.le_of_ble_eq_true rfl, Nat.le_of_ble_eq_true rfl⟩) (jpreV hT (va_recv hK hP (ci := 6) (q0 := 0) rfl rfl) ⟨hPc_6, hJ⟩) rfl rfl hl.1 rfl (lv_room (Nat.le_of_ble_eq_true rfl)) dL_law_201 ⟨(show cells + 0 ≤ 600000 by omega), (show slots + 0 ≤ 7302250 by omega)⟩) hS hA (fun r_7 H locs hw_r_7 hkq hS => ?_)
      try dsimp only at hw_r_7
      have hP := jkeep hP hkq
      have hJ := hJ.kept hkq
      subst hw_r_7
      refine lv_aload_n hx hb dL_law_204 rfl (lv_at hl 3 rfl) ?_
      refine lv_aload_n hx hb dL_law_205 rfl (lv_at hl 1 rfl) ?_
      refine lv_iload_n hx hb dL_law_206 rfl (lv_at hl 0 rfl) ?_
      refine lv_iconst (v := 1) hx hb dL_law_207 (by decide) ?_
      refine lv_iadd hx hb dL_law_208 ?_
      refine jv_as (y := nI ((4 * c9) + 1)) (nI_add (4 * c9) 1) ?_
      refine jv_sld hx hb hX hbl hbA hS (k := (4 * c9) + 1) (by omega) hL (v := nI j) e1 dL_law_209 ?_
      refine lv_aload_n hx hb dL_law_210 rfl (lv_at hl 1 rfl) ?_
      refine lv_iload_n hx hb dL_law_211 rfl (lv_at hl 0 rfl) ?_
      refine lv_iconst (v := 2) hx hb dL_law_212 (by decide) ?_
      refine lv_iadd hx hb dL_law_213 ?_
      refine jv_as (y := nI ((4 * c9) + 2)) (nI_add (4 * c9) 2) ?_
      refine jv_sld hx hb hX hbl hbA hS (k := (4 * c9) + 2) (by omega) hL (v := p2) e2 dL_law_214 ?_
      have hPc_8 := hP.sub (ws' := [(z, .inr (7, [.ref zp, .int (nI pn), .int (nI n), .int (nI yr), .int jo, .int ea, .int lo, .int (nI lr), .ref zr, .int (nI bd), .ref zb, .ref zc, .int (nI tn), .ref zt, .int sd, .ref zv, .int kl, .int mky, .int mkj, .int mke, .int mkk, .int mkt, .ref zkr, .ref zkt, .long hh]))]) [20] rfl
      refine jcalli (va_runV (As := [.int (nI j), .int p2]) (rest := [.int (-102)]) ⟨hx, hb, hml, hown, hts⟩ (c_mjar_out l D cI cJ z n (.ref zp) (.int (nI pn)) (.int (nI yr)) (.int jo) (.int ea) (.int lo) (.int (nI lr)) (.ref zr) (.int (nI bd)) (.ref zb) (.ref zc) (.int (nI tn)) (.ref zt) (.int sd) (.ref zv) (.int kl) (.int mky) (.int mkj) (.int mke) (.int mkk) (.int mkt) (.ref zkr) (.ref zkt) (.long hh) j p2 hj hn6 (by omega) H.size) (cwV 2 hts gL_law_X7_jar rfl rfl rfl (by decide +kernel) ⟨Nat.le_of_ble_eq_true rfl, Nat.le_of_ble_eq_true rfl⟩) (jpreV hT (va_recv hK hP (ci := 7) (q0 := 20) rfl rfl) hPc_8) rfl rfl hl.1 rfl (lv_room (Nat.le_of_ble_eq_true rfl)) dL_law_215 ⟨(show cells + 0 ≤ 600000 by omega), (show slots + 0 ≤ 7302250 by omega)⟩) hS hA (fun r_9 H locs hw_r_9 hkq hS => ?_)
      try dsimp only at hw_r_9
      have hP := jkeep hP hkq
      have hJ := hJ.kept hkq
      subst hw_r_9
      refine lv_icmp_eq (tgt := 559) hx hb dL_law_218 (by decide) (fun c_10 => ?_) (fun c_10 => ?_)
      · skip
        refine W.widen (k := cells + 6) (n := slots + 18) (by omega) (by omega) ?_
        exact kk H locs (fun X9 k9 => k9 n pn tn bd lr yr pg jr jk jg js jm ea lo jo sp en tY tW hi ky kea klo kjo kta ksp ken ktY ktW uy uea ulo ujo uta usp uen utY utW M nw Rw T C Tt sd Sv kl mky mkj mke mkk mkt KR KT hh hP hD hJ hap hn6 hpn htn hbd hyr (by omega) hRw hSp hBd hTt hKp) hS
      · skip
        exact absurd c_10 (by decide)
    · skip
      refine lv_aload_n hx hb dL_law_190 rfl (lv_at hl 2 rfl) ?_
      refine lv_aload_n hx hb dL_law_191 rfl (lv_at hl 1 rfl) ?_
      refine lv_iload_n hx hb dL_law_192 rfl (lv_at hl 0 rfl) ?_
      refine lv_iconst (v := 1) hx hb dL_law_193 (by decide) ?_
      refine lv_iadd hx hb dL_law_194 ?_
      refine jv_as (y := nI ((4 * c9) + 1)) (nI_add (4 * c9) 1) ?_
      refine jv_sld hx hb hX hbl hbA hS (k := (4 * c9) + 1) (by omega) hL (v := nI j) e1 dL_law_195 ?_
      refine lv_aload_n hx hb dL_law_196 rfl (lv_at hl 1 rfl) ?_
      refine lv_iload_n hx hb dL_law_197 rfl (lv_at hl 0 rfl) ?_
      refine lv_iconst (v := 2) hx hb dL_law_198 (by decide) ?_
      refine lv_iadd hx hb dL_law_199 ?_
      refine jv_as (y := nI ((4 * c9) + 2)) (nI_add (4 * c9) 2) ?_
      refine jv_sld hx hb hX hbl hbA hS (k := (4 * c9) + 2) (by omega) hL (v := nI cq) e2 dL_law_200 ?_
      have hPc_11 := hP.sub (ws' := [(x, .inr (6, [.ref xp, .int (nI pn), .ref xj, .int (nI n), .ref xn, .ref xk, .ref xu, .int hi, .int (nI lr), .int (nI bd), .ref xm, .ref xw])), (xj, .inl (cJ, 6, .inr (.inr (.inr (.inr jr))))), (xn, .inr (1, [.int (nI yr), .int ea, .int lo, .int jo, .int (nI tn), .ref ns, .ref ne, .ref n7, .ref n8])), (ns, .inl (cI, 6, .inl sp)), (ne, .inl (cI, 6, .inl en))]) [0, 2, 3, 4, 5] rfl
      refine jcalli (va_runV (As := [.int (nI j), .int (nI cq)]) (rest := []) ⟨hx, hb, hml, hown, hts⟩ (c_jar_ok l D cI cJ x xj xn ns ne n (.ref xp) (.int (nI pn)) (.ref xk) (.ref xu) (.int hi) (.int (nI lr)) (.int (nI bd)) (.ref xm) (.ref xw) (.int ea) (.int lo) (.int jo) (.int (nI tn)) (.ref n7) (.ref n8) jr jk jg js jm (mfi Rw) sp en (nI yr) j cq hj hn6 (jfwR hRw) hc H.size) (cwV 2 hts gL_law_X6_jar rfl rfl rfl (by decide +kernel) ⟨Nat.le_of_ble_eq_true rfl, Nat.le_of_ble_eq_true rfl⟩) (jpreV hT (va_recv hK hP (ci := 6) (q0 := 0) rfl rfl) ⟨hPc_11, hJ⟩) rfl rfl hl.1 rfl (lv_room (Nat.le_of_ble_eq_true rfl)) dL_law_201 ⟨(show cells + 0 ≤ 600000 by omega), (show slots + 0 ≤ 7302250 by omega)⟩) hS hA (fun r_12 H locs hw_r_12 hkq hS => ?_)
      try dsimp only at hw_r_12
      have hP := jkeep hP hkq
      have hJ := hJ.kept hkq
      subst hw_r_12
      refine lv_aload_n hx hb dL_law_204 rfl (lv_at hl 3 rfl) ?_
      refine lv_aload_n hx hb dL_law_205 rfl (lv_at hl 1 rfl) ?_
      refine lv_iload_n hx hb dL_law_206 rfl (lv_at hl 0 rfl) ?_
      refine lv_iconst (v := 1) hx hb dL_law_207 (by decide) ?_
      refine lv_iadd hx hb dL_law_208 ?_
      refine jv_as (y := nI ((4 * c9) + 1)) (nI_add (4 * c9) 1) ?_
      refine jv_sld hx hb hX hbl hbA hS (k := (4 * c9) + 1) (by omega) hL (v := nI j) e1 dL_law_209 ?_
      refine lv_aload_n hx hb dL_law_210 rfl (lv_at hl 1 rfl) ?_
      refine lv_iload_n hx hb dL_law_211 rfl (lv_at hl 0 rfl) ?_
      refine lv_iconst (v := 2) hx hb dL_law_212 (by decide) ?_
      refine lv_iadd hx hb dL_law_213 ?_
      refine jv_as (y := nI ((4 * c9) + 2)) (nI_add (4 * c9) 2) ?_
      refine jv_sld hx hb hX hbl hbA hS (k := (4 * c9) + 2) (by omega) hL (v := nI cq) e2 dL_law_214 ?_
      have hPc_13 := hP.sub (ws' := [(z, .inr (7, [.ref zp, .int (nI pn), .int (nI n), .int (nI yr), .int jo, .int ea, .int lo, .int (nI lr), .ref zr, .int (nI bd), .ref zb, .ref zc, .int (nI tn), .ref zt, .int sd, .ref zv, .int kl, .int mky, .int mkj, .int mke, .int mkk, .int mkt, .ref zkr, .ref zkt, .long hh])), (zr, .inl (cI, 30, .inl Rw))]) [20, 22] rfl
      refine jcalli (va_runV (As := [.int (nI j), .int (nI cq)]) (rest := [.int (jtl (ckn (jk j)) (jg j) (js j) (sp j) (jmo (jm j) (nI yr)) ((mfi Rw) j (nI yr) - en j + 100) (en j) (nI (jyb (fun i => (mfi Rw) j ((nI yr) + nI i)) 10)) cq)]) ⟨hx, hb, hml, hown, hts⟩ (c_mjar_ok l D cI cJ z zr n (.ref zp) (.int (nI pn)) (.int jo) (.int ea) (.int lo) (.int (nI lr)) (.int (nI bd)) (.ref zb) (.ref zc) (.int (nI tn)) (.ref zt) (.int sd) (.ref zv) (.int kl) (.int mky) (.int mkj) (.int mke) (.int mkk) (.int mkt) (.ref zkr) (.ref zkt) (.long hh) Rw (nI yr) j cq hj hn6 hc H.size) (cwV 2 hts gL_law_X7_jar rfl rfl rfl (by decide +kernel) ⟨Nat.le_of_ble_eq_true rfl, Nat.le_of_ble_eq_true rfl⟩) (jpreV hT (va_recv hK hP (ci := 7) (q0 := 20) rfl rfl) hPc_13) rfl rfl hl.1 rfl (lv_room (Nat.le_of_ble_eq_true rfl)) dL_law_215 ⟨(show cells + 0 ≤ 600000 by omega), (show slots + 0 ≤ 7302250 by omega)⟩) hS hA (fun r_14 H locs hw_r_14 hkq hS => ?_)
      try dsimp only at hw_r_14
      have hP := jkeep hP hkq
      have hJ := hJ.kept hkq
      subst hw_r_14
      refine lv_icmp_eq (tgt := 559) hx hb dL_law_218 (by decide) (fun c_15 => ?_) (fun c_15 => ?_)
      · skip
        refine W.widen (k := cells + 6) (n := slots + 18) (by omega) (by omega) ?_
        exact kk H locs (fun X9 k9 => k9 n pn tn bd lr yr pg jr jk jg js jm ea lo jo sp en tY tW hi ky kea klo kjo kta ksp ken ktY ktW uy uea ulo ujo uta usp uen utY utW M nw Rw T C Tt sd Sv kl mky mkj mke mkk mkt KR KT hh hP hD hJ hap hn6 hpn htn hbd hyr (by omega) hRw hSp hBd hTt hKp) hS
      · skip
        exact absurd (jtlR hRw hSp hyr hj cq) c_15

set_option maxHeartbeats 8000000 in
set_option maxRecDepth 100000 in
theorem law_as (l : Launch) (hC : jCx p s m c b L xs D cI cJ A) (hc9 : 4 * c9 + 4 ≤ L) (hcl : cells + 6 ≤ 600000) (hsl : slots + 18 ≤ 7302250) (hS : va_S A s.heap H locs) (hl : lv_has ls 4 [(3, .int (nI (4 * c9))), (0, .ref b), (1, .ref x), (2, .ref z)]) (hI : jAll D cI cJ A x xp xj xn ns ne n7 n8 xk k5 k6 k7 k8 xu w5 w6 w7 w8 xm xw z zp zr zb zc zt zv zkr zkt c9 H)
    (kk : ∀ (H' : Heap) (locs' : List Loc), jAll D cI cJ A x xp xj xn ns ne n7 n8 xk k5 k6 k7 k8 xu w5 w6 w7 w8 xm xw z zp zr zb zc zt zv zkr zkt (c9 + 1) H' → va_S A s.heap H' locs' → W p l e room_1 s m #[Value.ref b] below meth c H' locs' (cells + 6) (slots + 18) Q (F0 m 559 ls [])) : W p l e room_1 s m #[Value.ref b] below meth c H locs cells slots Q (F0 m 223 ls []) := by
  obtain ⟨hx, hb, hml, hown, htT, hX, hbl, hT, hA, hbA, hL⟩ := hC
  have hK := hT.1
  have hts : ∀ w ∈ wsL_law, w.before #[Value.ref b] s = true := fun w h => htT w (wsL_law_in w h)
  refine hI _ (fun n pn tn bd lr yr pg jr jk jg js jm ea lo jo sp en tY tW hi ky kea klo kjo kta ksp ken ktY ktW uy uea ulo ujo uta usp uen utY utW M nw Rw T C Tt sd Sv kl mky mkj mke mkk mkt KR KT hh hP hD hJ hap hn6 hpn htn hbd hyr hlr hRw hSp hBd hTt hKp => ?_)
  obtain ⟨p1, e1⟩ : ∃ v : Int32, v = xs (4 * c9 + 1) := ⟨_, rfl⟩
  obtain ⟨p2, e2⟩ : ∃ v : Int32, v = xs (4 * c9 + 2) := ⟨_, rfl⟩
  obtain ⟨p3, e3⟩ : ∃ v : Int32, v = xs (4 * c9 + 3) := ⟨_, rfl⟩
  rcases jix p1 (n := n) (by omega) with hq | ⟨j, hj, rfl⟩
  · skip
    refine lv_aload_n hx hb dL_law_223 rfl (lv_at hl 2 rfl) ?_
    refine lv_aload_n hx hb dL_law_224 rfl (lv_at hl 1 rfl) ?_
    refine lv_iload_n hx hb dL_law_225 rfl (lv_at hl 0 rfl) ?_
    refine lv_iconst (v := 1) hx hb dL_law_226 (by decide) ?_
    refine lv_iadd hx hb dL_law_227 ?_
    refine jv_as (y := nI ((4 * c9) + 1)) (nI_add (4 * c9) 1) ?_
    refine jv_sld hx hb hX hbl hbA hS (k := (4 * c9) + 1) (by omega) hL (v := p1) e1 dL_law_228 ?_
    refine lv_aload_n hx hb dL_law_229 rfl (lv_at hl 1 rfl) ?_
    refine lv_iload_n hx hb dL_law_230 rfl (lv_at hl 0 rfl) ?_
    refine lv_iconst (v := 2) hx hb dL_law_231 (by decide) ?_
    refine lv_iadd hx hb dL_law_232 ?_
    refine jv_as (y := nI ((4 * c9) + 2)) (nI_add (4 * c9) 2) ?_
    refine jv_sld hx hb hX hbl hbA hS (k := (4 * c9) + 2) (by omega) hL (v := p2) e2 dL_law_233 ?_
    have hPc_1 := hP.sub (ws' := [(x, .inr (6, [.ref xp, .int (nI pn), .ref xj, .int (nI n), .ref xn, .ref xk, .ref xu, .int hi, .int (nI lr), .int (nI bd), .ref xm, .ref xw])), (xj, .inl (cJ, 6, .inr (.inr (.inr (.inr jr)))))]) [0, 2] rfl
    refine jcalli (va_runV (As := [.int p1, .int p2]) (rest := []) ⟨hx, hb, hml, hown, hts⟩ (c_as_no l D cI cJ x xj n (.ref xp) (.int (nI pn)) (.ref xn) (.ref xk) (.ref xu) (.int hi) (.int (nI lr)) (.int (nI bd)) (.ref xm) (.ref xw) jr p1 p2 hq H.size) (cwV 2 hts gL_law_X6_as rfl rfl rfl (by decide +kernel) ⟨Nat.le_of_ble_eq_true rfl, Nat.le_of_ble_eq_true rfl⟩) (jpreV hT (va_recv hK hP (ci := 6) (q0 := 0) rfl rfl) hPc_1) rfl rfl hl.1 rfl (lv_room (Nat.le_of_ble_eq_true rfl)) dL_law_234 ⟨(show cells + 0 ≤ 600000 by omega), (show slots + 0 ≤ 7302250 by omega)⟩) hS hA (fun r_2 H locs hw_r_2 hkq hS => ?_)
    try dsimp only at hw_r_2
    have hP := jkeep hP hkq
    have hJ := hJ.kept hkq
    subst hw_r_2
    refine lv_aload_n hx hb dL_law_237 rfl (lv_at hl 3 rfl) ?_
    refine lv_aload_n hx hb dL_law_238 rfl (lv_at hl 1 rfl) ?_
    refine lv_iload_n hx hb dL_law_239 rfl (lv_at hl 0 rfl) ?_
    refine lv_iconst (v := 1) hx hb dL_law_240 (by decide) ?_
    refine lv_iadd hx hb dL_law_241 ?_
    refine jv_as (y := nI ((4 * c9) + 1)) (nI_add (4 * c9) 1) ?_
    refine jv_sld hx hb hX hbl hbA hS (k := (4 * c9) + 1) (by omega) hL (v := p1) e1 dL_law_242 ?_
    refine lv_aload_n hx hb dL_law_243 rfl (lv_at hl 1 rfl) ?_
    refine lv_iload_n hx hb dL_law_244 rfl (lv_at hl 0 rfl) ?_
    refine lv_iconst (v := 2) hx hb dL_law_245 (by decide) ?_
    refine lv_iadd hx hb dL_law_246 ?_
    refine jv_as (y := nI ((4 * c9) + 2)) (nI_add (4 * c9) 2) ?_
    refine jv_sld hx hb hX hbl hbA hS (k := (4 * c9) + 2) (by omega) hL (v := p2) e2 dL_law_247 ?_
    have hPc_3 := hP.sub (ws' := [(z, .inr (7, [.ref zp, .int (nI pn), .int (nI n), .int (nI yr), .int jo, .int ea, .int lo, .int (nI lr), .ref zr, .int (nI bd), .ref zb, .ref zc, .int (nI tn), .ref zt, .int sd, .ref zv, .int kl, .int mky, .int mkj, .int mke, .int mkk, .int mkt, .ref zkr, .ref zkt, .long hh]))]) [20] rfl
    refine jcalli (va_runV (As := [.int p1, .int p2]) (rest := [.int (-101)]) ⟨hx, hb, hml, hown, hts⟩ (c_mas_no l D cI cJ z n (.ref zp) (.int (nI pn)) (.int (nI yr)) (.int jo) (.int ea) (.int lo) (.int (nI lr)) (.ref zr) (.int (nI bd)) (.ref zb) (.ref zc) (.int (nI tn)) (.ref zt) (.int sd) (.ref zv) (.int kl) (.int mky) (.int mkj) (.int mke) (.int mkk) (.int mkt) (.ref zkr) (.ref zkt) (.long hh) p1 p2 hq hn6 H.size) (cwV 2 hts gL_law_X7_as rfl rfl rfl (by decide +kernel) ⟨Nat.le_of_ble_eq_true rfl, Nat.le_of_ble_eq_true rfl⟩) (jpreV hT (va_recv hK hP (ci := 7) (q0 := 20) rfl rfl) hPc_3) rfl rfl hl.1 rfl (lv_room (Nat.le_of_ble_eq_true rfl)) dL_law_248 ⟨(show cells + 0 ≤ 600000 by omega), (show slots + 0 ≤ 7302250 by omega)⟩) hS hA (fun r_4 H locs hw_r_4 hkq hS => ?_)
    try dsimp only at hw_r_4
    have hP := jkeep hP hkq
    have hJ := hJ.kept hkq
    subst hw_r_4
    refine lv_icmp_eq (tgt := 559) hx hb dL_law_251 (by decide) (fun c_5 => ?_) (fun c_5 => ?_)
    · skip
      refine W.widen (k := cells + 6) (n := slots + 18) (by omega) (by omega) ?_
      exact kk H locs (fun X9 k9 => k9 n pn tn bd lr yr pg jr jk jg js jm ea lo jo sp en tY tW hi ky kea klo kjo kta ksp ken ktY ktW uy uea ulo ujo uta usp uen utY utW M nw Rw T C Tt sd Sv kl mky mkj mke mkk mkt KR KT hh hP hD hJ hap hn6 hpn htn hbd hyr (by omega) hRw hSp hBd hTt hKp) hS
    · skip
      exact absurd c_5 (by decide)
  · skip
    rcases jixM p2 4 (m := 4) (by decide) with hw | ⟨cq, hc, rfl⟩
    · skip
      refine lv_aload_n hx hb dL_law_223 rfl (lv_at hl 2 rfl) ?_
      refine lv_aload_n hx hb dL_law_224 rfl (lv_at hl 1 rfl) ?_
      refine lv_iload_n hx hb dL_law_225 rfl (lv_at hl 0 rfl) ?_
      refine lv_iconst (v := 1) hx hb dL_law_226 (by decide) ?_
      refine lv_iadd hx hb dL_law_227 ?_
      refine jv_as (y := nI ((4 * c9) + 1)) (nI_add (4 * c9) 1) ?_
      refine jv_sld hx hb hX hbl hbA hS (k := (4 * c9) + 1) (by omega) hL (v := nI j) e1 dL_law_228 ?_
      refine lv_aload_n hx hb dL_law_229 rfl (lv_at hl 1 rfl) ?_
      refine lv_iload_n hx hb dL_law_230 rfl (lv_at hl 0 rfl) ?_
      refine lv_iconst (v := 2) hx hb dL_law_231 (by decide) ?_
      refine lv_iadd hx hb dL_law_232 ?_
      refine jv_as (y := nI ((4 * c9) + 2)) (nI_add (4 * c9) 2) ?_
      refine jv_sld hx hb hX hbl hbA hS (k := (4 * c9) + 2) (by omega) hL (v := p2) e2 dL_law_233 ?_
      have hPc_6 := hP.sub (ws' := [(x, .inr (6, [.ref xp, .int (nI pn), .ref xj, .int (nI n), .ref xn, .ref xk, .ref xu, .int hi, .int (nI lr), .int (nI bd), .ref xm, .ref xw])), (xj, .inl (cJ, 6, .inr (.inr (.inr (.inr jr)))))]) [0, 2] rfl
      refine jcalli (va_runV (As := [.int (nI j), .int p2]) (rest := []) ⟨hx, hb, hml, hown, hts⟩ (c_as_out l D cI cJ x xj n (.ref xp) (.int (nI pn)) (.ref xn) (.ref xk) (.ref xu) (.int hi) (.int (nI lr)) (.int (nI bd)) (.ref xm) (.ref xw) jr jk jg js jm j p2 hj hn6 hw H.size) (cwV 2 hts gL_law_X6_as rfl rfl rfl (by decide +kernel) ⟨Nat.le_of_ble_eq_true rfl, Nat.le_of_ble_eq_true rfl⟩) (jpreV hT (va_recv hK hP (ci := 6) (q0 := 0) rfl rfl) ⟨hPc_6, hJ⟩) rfl rfl hl.1 rfl (lv_room (Nat.le_of_ble_eq_true rfl)) dL_law_234 ⟨(show cells + 0 ≤ 600000 by omega), (show slots + 0 ≤ 7302250 by omega)⟩) hS hA (fun r_7 H locs hw_r_7 hkq hS => ?_)
      try dsimp only at hw_r_7
      have hP := jkeep hP hkq
      have hJ := hJ.kept hkq
      subst hw_r_7
      refine lv_aload_n hx hb dL_law_237 rfl (lv_at hl 3 rfl) ?_
      refine lv_aload_n hx hb dL_law_238 rfl (lv_at hl 1 rfl) ?_
      refine lv_iload_n hx hb dL_law_239 rfl (lv_at hl 0 rfl) ?_
      refine lv_iconst (v := 1) hx hb dL_law_240 (by decide) ?_
      refine lv_iadd hx hb dL_law_241 ?_
      refine jv_as (y := nI ((4 * c9) + 1)) (nI_add (4 * c9) 1) ?_
      refine jv_sld hx hb hX hbl hbA hS (k := (4 * c9) + 1) (by omega) hL (v := nI j) e1 dL_law_242 ?_
      refine lv_aload_n hx hb dL_law_243 rfl (lv_at hl 1 rfl) ?_
      refine lv_iload_n hx hb dL_law_244 rfl (lv_at hl 0 rfl) ?_
      refine lv_iconst (v := 2) hx hb dL_law_245 (by decide) ?_
      refine lv_iadd hx hb dL_law_246 ?_
      refine jv_as (y := nI ((4 * c9) + 2)) (nI_add (4 * c9) 2) ?_
      refine jv_sld hx hb hX hbl hbA hS (k := (4 * c9) + 2) (by omega) hL (v := p2) e2 dL_law_247 ?_
      have hPc_8 := hP.sub (ws' := [(z, .inr (7, [.ref zp, .int (nI pn), .int (nI n), .int (nI yr), .int jo, .int ea, .int lo, .int (nI lr), .ref zr, .int (nI bd), .ref zb, .ref zc, .int (nI tn), .ref zt, .int sd, .ref zv, .int kl, .int mky, .int mkj, .int mke, .int mkk, .int mkt, .ref zkr, .ref zkt, .long hh]))]) [20] rfl
      refine jcalli (va_runV (As := [.int (nI j), .int p2]) (rest := [.int (-102)]) ⟨hx, hb, hml, hown, hts⟩ (c_mas_out l D cI cJ z n (.ref zp) (.int (nI pn)) (.int (nI yr)) (.int jo) (.int ea) (.int lo) (.int (nI lr)) (.ref zr) (.int (nI bd)) (.ref zb) (.ref zc) (.int (nI tn)) (.ref zt) (.int sd) (.ref zv) (.int kl) (.int mky) (.int mkj) (.int mke) (.int mkk) (.int mkt) (.ref zkr) (.ref zkt) (.long hh) j p2 hj hn6 hw H.size) (cwV 2 hts gL_law_X7_as rfl rfl rfl (by decide +kernel) ⟨Nat.le_of_ble_eq_true rfl, Nat.le_of_ble_eq_true rfl⟩) (jpreV hT (va_recv hK hP (ci := 7) (q0 := 20) rfl rfl) hPc_8) rfl rfl hl.1 rfl (lv_room (Nat.le_of_ble_eq_true rfl)) dL_law_248 ⟨(show cells + 0 ≤ 600000 by omega), (show slots + 0 ≤ 7302250 by omega)⟩) hS hA (fun r_9 H locs hw_r_9 hkq hS => ?_)
      try dsimp only at hw_r_9
      have hP := jkeep hP hkq
      have hJ := hJ.kept hkq
      subst hw_r_9
      refine lv_icmp_eq (tgt := 559) hx hb dL_law_251 (by decide) (fun c_10 => ?_) (fun c_10 => ?_)
      · skip
        refine W.widen (k := cells + 6) (n := slots + 18) (by omega) (by omega) ?_
        exact kk H locs (fun X9 k9 => k9 n pn tn bd lr yr pg jr jk jg js jm ea lo jo sp en tY tW hi ky kea klo kjo kta ksp ken ktY ktW uy uea ulo ujo uta usp uen utY utW M nw Rw T C Tt sd Sv kl mky mkj mke mkk mkt KR KT hh hP hD hJ hap hn6 hpn htn hbd hyr (by omega) hRw hSp hBd hTt hKp) hS
      · skip
        exact absurd c_10 (by decide)
    · skip
      refine lv_aload_n hx hb dL_law_223 rfl (lv_at hl 2 rfl) ?_
      refine lv_aload_n hx hb dL_law_224 rfl (lv_at hl 1 rfl) ?_
      refine lv_iload_n hx hb dL_law_225 rfl (lv_at hl 0 rfl) ?_
      refine lv_iconst (v := 1) hx hb dL_law_226 (by decide) ?_
      refine lv_iadd hx hb dL_law_227 ?_
      refine jv_as (y := nI ((4 * c9) + 1)) (nI_add (4 * c9) 1) ?_
      refine jv_sld hx hb hX hbl hbA hS (k := (4 * c9) + 1) (by omega) hL (v := nI j) e1 dL_law_228 ?_
      refine lv_aload_n hx hb dL_law_229 rfl (lv_at hl 1 rfl) ?_
      refine lv_iload_n hx hb dL_law_230 rfl (lv_at hl 0 rfl) ?_
      refine lv_iconst (v := 2) hx hb dL_law_231 (by decide) ?_
      refine lv_iadd hx hb dL_law_232 ?_
      refine jv_as (y := nI ((4 * c9) + 2)) (nI_add (4 * c9) 2) ?_
      refine jv_sld hx hb hX hbl hbA hS (k := (4 * c9) + 2) (by omega) hL (v := nI cq) e2 dL_law_233 ?_
      have hPc_11 := hP.sub (ws' := [(x, .inr (6, [.ref xp, .int (nI pn), .ref xj, .int (nI n), .ref xn, .ref xk, .ref xu, .int hi, .int (nI lr), .int (nI bd), .ref xm, .ref xw])), (xj, .inl (cJ, 6, .inr (.inr (.inr (.inr jr)))))]) [0, 2] rfl
      refine jcalli (va_runV (As := [.int (nI j), .int (nI cq)]) (rest := []) ⟨hx, hb, hml, hown, hts⟩ (c_as_ok l D cI cJ x xj n (.ref xp) (.int (nI pn)) (.ref xn) (.ref xk) (.ref xu) (.int hi) (.int (nI lr)) (.int (nI bd)) (.ref xm) (.ref xw) jr jk jg js jm j cq hj hn6 hc H.size) (cwV 2 hts gL_law_X6_as rfl rfl rfl (by decide +kernel) ⟨Nat.le_of_ble_eq_true rfl, Nat.le_of_ble_eq_true rfl⟩) (jpreV hT (va_recv hK hP (ci := 6) (q0 := 0) rfl rfl) ⟨hPc_11, hJ⟩) rfl rfl hl.1 rfl (lv_room (Nat.le_of_ble_eq_true rfl)) dL_law_234 ⟨(show cells + 0 ≤ 600000 by omega), (show slots + 0 ≤ 7302250 by omega)⟩) hS hA (fun r_12 H locs hw_r_12 hkq hS => ?_)
      try dsimp only at hw_r_12
      have hP := jkeep hP hkq
      have hJ := hJ.kept hkq
      subst hw_r_12
      refine lv_aload_n hx hb dL_law_237 rfl (lv_at hl 3 rfl) ?_
      refine lv_aload_n hx hb dL_law_238 rfl (lv_at hl 1 rfl) ?_
      refine lv_iload_n hx hb dL_law_239 rfl (lv_at hl 0 rfl) ?_
      refine lv_iconst (v := 1) hx hb dL_law_240 (by decide) ?_
      refine lv_iadd hx hb dL_law_241 ?_
      refine jv_as (y := nI ((4 * c9) + 1)) (nI_add (4 * c9) 1) ?_
      refine jv_sld hx hb hX hbl hbA hS (k := (4 * c9) + 1) (by omega) hL (v := nI j) e1 dL_law_242 ?_
      refine lv_aload_n hx hb dL_law_243 rfl (lv_at hl 1 rfl) ?_
      refine lv_iload_n hx hb dL_law_244 rfl (lv_at hl 0 rfl) ?_
      refine lv_iconst (v := 2) hx hb dL_law_245 (by decide) ?_
      refine lv_iadd hx hb dL_law_246 ?_
      refine jv_as (y := nI ((4 * c9) + 2)) (nI_add (4 * c9) 2) ?_
      refine jv_sld hx hb hX hbl hbA hS (k := (4 * c9) + 2) (by omega) hL (v := nI cq) e2 dL_law_247 ?_
      have hPc_13 := hP.sub (ws' := [(z, .inr (7, [.ref zp, .int (nI pn), .int (nI n), .int (nI yr), .int jo, .int ea, .int lo, .int (nI lr), .ref zr, .int (nI bd), .ref zb, .ref zc, .int (nI tn), .ref zt, .int sd, .ref zv, .int kl, .int mky, .int mkj, .int mke, .int mkk, .int mkt, .ref zkr, .ref zkt, .long hh])), (zr, .inl (cI, 30, .inl Rw))]) [20, 22] rfl
      refine jcalli (va_runV (As := [.int (nI j), .int (nI cq)]) (rest := [.int (jas (jk j) cq j)]) ⟨hx, hb, hml, hown, hts⟩ (c_mas_ok l D cI cJ z zr n (.ref zp) (.int (nI pn)) (.int (nI yr)) (.int jo) (.int ea) (.int lo) (.int (nI lr)) (.int (nI bd)) (.ref zb) (.ref zc) (.int (nI tn)) (.ref zt) (.int sd) (.ref zv) (.int kl) (.int mky) (.int mkj) (.int mke) (.int mkk) (.int mkt) (.ref zkr) (.ref zkt) (.long hh) Rw j cq hj hn6 hc H.size) (cwV 2 hts gL_law_X7_as rfl rfl rfl (by decide +kernel) ⟨Nat.le_of_ble_eq_true rfl, Nat.le_of_ble_eq_true rfl⟩) (jpreV hT (va_recv hK hP (ci := 7) (q0 := 20) rfl rfl) hPc_13) rfl rfl hl.1 rfl (lv_room (Nat.le_of_ble_eq_true rfl)) dL_law_248 ⟨(show cells + 0 ≤ 600000 by omega), (show slots + 0 ≤ 7302250 by omega)⟩) hS hA (fun r_14 H locs hw_r_14 hkq hS => ?_)
      try dsimp only at hw_r_14
      have hP := jkeep hP hkq
      have hJ := hJ.kept hkq
      subst hw_r_14
      refine lv_icmp_eq (tgt := 559) hx hb dL_law_251 (by decide) (fun c_15 => ?_) (fun c_15 => ?_)
      · skip
        refine W.widen (k := cells + 6) (n := slots + 18) (by omega) (by omega) ?_
        exact kk H locs (fun X9 k9 => k9 n pn tn bd lr yr pg jr jk jg js jm ea lo jo sp en tY tW hi ky kea klo kjo kta ksp ken ktY ktW uy uea ulo ujo uta usp uen utY utW M nw Rw T C Tt sd Sv kl mky mkj mke mkk mkt KR KT hh hP hD hJ hap hn6 hpn htn hbd hyr (by omega) hRw hSp hBd hTt hKp) hS
      · skip
        exact absurd (by rw [(hRw j hj).2.1]; exact jasR (hRw j hj).1 hc) c_15

set_option maxHeartbeats 8000000 in
set_option maxRecDepth 100000 in
theorem law_worth (l : Launch) (hC : jCx p s m c b L xs D cI cJ A) (hc9 : 4 * c9 + 4 ≤ L) (hcl : cells + 6 ≤ 600000) (hsl : slots + 18 ≤ 7302250) (hS : va_S A s.heap H locs) (hl : lv_has ls 4 [(3, .int (nI (4 * c9))), (0, .ref b), (1, .ref x), (2, .ref z)]) (hI : jAll D cI cJ A x xp xj xn ns ne n7 n8 xk k5 k6 k7 k8 xu w5 w6 w7 w8 xm xw z zp zr zb zc zt zv zkr zkt c9 H)
    (kk : ∀ (H' : Heap) (locs' : List Loc), jAll D cI cJ A x xp xj xn ns ne n7 n8 xk k5 k6 k7 k8 xu w5 w6 w7 w8 xm xw z zp zr zb zc zt zv zkr zkt (c9 + 1) H' → va_S A s.heap H' locs' → W p l e room_1 s m #[Value.ref b] below meth c H' locs' (cells + 6) (slots + 18) Q (F0 m 559 ls [])) : W p l e room_1 s m #[Value.ref b] below meth c H locs cells slots Q (F0 m 256 ls []) := by
  obtain ⟨hx, hb, hml, hown, htT, hX, hbl, hT, hA, hbA, hL⟩ := hC
  have hK := hT.1
  have hts : ∀ w ∈ wsL_law, w.before #[Value.ref b] s = true := fun w h => htT w (wsL_law_in w h)
  refine hI _ (fun n pn tn bd lr yr pg jr jk jg js jm ea lo jo sp en tY tW hi ky kea klo kjo kta ksp ken ktY ktW uy uea ulo ujo uta usp uen utY utW M nw Rw T C Tt sd Sv kl mky mkj mke mkk mkt KR KT hh hP hD hJ hap hn6 hpn htn hbd hyr hlr hRw hSp hBd hTt hKp => ?_)
  obtain ⟨p1, e1⟩ : ∃ v : Int32, v = xs (4 * c9 + 1) := ⟨_, rfl⟩
  obtain ⟨p2, e2⟩ : ∃ v : Int32, v = xs (4 * c9 + 2) := ⟨_, rfl⟩
  obtain ⟨p3, e3⟩ : ∃ v : Int32, v = xs (4 * c9 + 3) := ⟨_, rfl⟩
  rcases jix p1 (n := n) (by omega) with hq | ⟨j, hj, rfl⟩
  · skip
    refine lv_aload_n hx hb dL_law_256 rfl (lv_at hl 2 rfl) ?_
    refine lv_aload_n hx hb dL_law_257 rfl (lv_at hl 1 rfl) ?_
    refine lv_iload_n hx hb dL_law_258 rfl (lv_at hl 0 rfl) ?_
    refine lv_iconst (v := 1) hx hb dL_law_259 (by decide) ?_
    refine lv_iadd hx hb dL_law_260 ?_
    refine jv_as (y := nI ((4 * c9) + 1)) (nI_add (4 * c9) 1) ?_
    refine jv_sld hx hb hX hbl hbA hS (k := (4 * c9) + 1) (by omega) hL (v := p1) e1 dL_law_261 ?_
    refine lv_aload_n hx hb dL_law_262 rfl (lv_at hl 1 rfl) ?_
    refine lv_iload_n hx hb dL_law_263 rfl (lv_at hl 0 rfl) ?_
    refine lv_iconst (v := 2) hx hb dL_law_264 (by decide) ?_
    refine lv_iadd hx hb dL_law_265 ?_
    refine jv_as (y := nI ((4 * c9) + 2)) (nI_add (4 * c9) 2) ?_
    refine jv_sld hx hb hX hbl hbA hS (k := (4 * c9) + 2) (by omega) hL (v := p2) e2 dL_law_266 ?_
    have hPc_1 := hP.sub (ws' := [(x, .inr (6, [.ref xp, .int (nI pn), .ref xj, .int (nI n), .ref xn, .ref xk, .ref xu, .int hi, .int (nI lr), .int (nI bd), .ref xm, .ref xw])), (xj, .inl (cJ, 6, .inr (.inr (.inr (.inr jr)))))]) [0, 2] rfl
    refine jcalli (va_runV (As := [.int p1, .int p2]) (rest := []) ⟨hx, hb, hml, hown, hts⟩ (c_worth_no l D cI cJ x xj n (.ref xp) (.int (nI pn)) (.ref xn) (.ref xk) (.ref xu) (.int hi) (.int (nI lr)) (.int (nI bd)) (.ref xm) (.ref xw) jr p1 p2 hq H.size) (cwV 2 hts gL_law_X6_worth rfl rfl rfl (by decide +kernel) ⟨Nat.le_of_ble_eq_true rfl, Nat.le_of_ble_eq_true rfl⟩) (jpreV hT (va_recv hK hP (ci := 6) (q0 := 0) rfl rfl) hPc_1) rfl rfl hl.1 rfl (lv_room (Nat.le_of_ble_eq_true rfl)) dL_law_267 ⟨(show cells + 0 ≤ 600000 by omega), (show slots + 0 ≤ 7302250 by omega)⟩) hS hA (fun r_2 H locs hw_r_2 hkq hS => ?_)
    try dsimp only at hw_r_2
    have hP := jkeep hP hkq
    have hJ := hJ.kept hkq
    subst hw_r_2
    refine lv_aload_n hx hb dL_law_270 rfl (lv_at hl 3 rfl) ?_
    refine lv_aload_n hx hb dL_law_271 rfl (lv_at hl 1 rfl) ?_
    refine lv_iload_n hx hb dL_law_272 rfl (lv_at hl 0 rfl) ?_
    refine lv_iconst (v := 1) hx hb dL_law_273 (by decide) ?_
    refine lv_iadd hx hb dL_law_274 ?_
    refine jv_as (y := nI ((4 * c9) + 1)) (nI_add (4 * c9) 1) ?_
    refine jv_sld hx hb hX hbl hbA hS (k := (4 * c9) + 1) (by omega) hL (v := p1) e1 dL_law_275 ?_
    refine lv_aload_n hx hb dL_law_276 rfl (lv_at hl 1 rfl) ?_
    refine lv_iload_n hx hb dL_law_277 rfl (lv_at hl 0 rfl) ?_
    refine lv_iconst (v := 2) hx hb dL_law_278 (by decide) ?_
    refine lv_iadd hx hb dL_law_279 ?_
    refine jv_as (y := nI ((4 * c9) + 2)) (nI_add (4 * c9) 2) ?_
    refine jv_sld hx hb hX hbl hbA hS (k := (4 * c9) + 2) (by omega) hL (v := p2) e2 dL_law_280 ?_
    have hPc_3 := hP.sub (ws' := [(z, .inr (7, [.ref zp, .int (nI pn), .int (nI n), .int (nI yr), .int jo, .int ea, .int lo, .int (nI lr), .ref zr, .int (nI bd), .ref zb, .ref zc, .int (nI tn), .ref zt, .int sd, .ref zv, .int kl, .int mky, .int mkj, .int mke, .int mkk, .int mkt, .ref zkr, .ref zkt, .long hh]))]) [20] rfl
    refine jcalli (va_runV (As := [.int p1, .int p2]) (rest := [.int (-101)]) ⟨hx, hb, hml, hown, hts⟩ (c_mworth_no l D cI cJ z n (.ref zp) (.int (nI pn)) (.int (nI yr)) (.int jo) (.int ea) (.int lo) (.int (nI lr)) (.ref zr) (.int (nI bd)) (.ref zb) (.ref zc) (.int (nI tn)) (.ref zt) (.int sd) (.ref zv) (.int kl) (.int mky) (.int mkj) (.int mke) (.int mkk) (.int mkt) (.ref zkr) (.ref zkt) (.long hh) p1 p2 hq hn6 H.size) (cwV 2 hts gL_law_X7_worth rfl rfl rfl (by decide +kernel) ⟨Nat.le_of_ble_eq_true rfl, Nat.le_of_ble_eq_true rfl⟩) (jpreV hT (va_recv hK hP (ci := 7) (q0 := 20) rfl rfl) hPc_3) rfl rfl hl.1 rfl (lv_room (Nat.le_of_ble_eq_true rfl)) dL_law_281 ⟨(show cells + 0 ≤ 600000 by omega), (show slots + 0 ≤ 7302250 by omega)⟩) hS hA (fun r_4 H locs hw_r_4 hkq hS => ?_)
    try dsimp only at hw_r_4
    have hP := jkeep hP hkq
    have hJ := hJ.kept hkq
    subst hw_r_4
    refine lv_icmp_eq (tgt := 559) hx hb dL_law_284 (by decide) (fun c_5 => ?_) (fun c_5 => ?_)
    · skip
      refine W.widen (k := cells + 6) (n := slots + 18) (by omega) (by omega) ?_
      exact kk H locs (fun X9 k9 => k9 n pn tn bd lr yr pg jr jk jg js jm ea lo jo sp en tY tW hi ky kea klo kjo kta ksp ken ktY ktW uy uea ulo ujo uta usp uen utY utW M nw Rw T C Tt sd Sv kl mky mkj mke mkk mkt KR KT hh hP hD hJ hap hn6 hpn htn hbd hyr (by omega) hRw hSp hBd hTt hKp) hS
    · skip
      exact absurd c_5 (by decide)
  · skip
    by_cases hw : p2 < 0 ∨ 99 < p2
    · skip
      refine lv_aload_n hx hb dL_law_256 rfl (lv_at hl 2 rfl) ?_
      refine lv_aload_n hx hb dL_law_257 rfl (lv_at hl 1 rfl) ?_
      refine lv_iload_n hx hb dL_law_258 rfl (lv_at hl 0 rfl) ?_
      refine lv_iconst (v := 1) hx hb dL_law_259 (by decide) ?_
      refine lv_iadd hx hb dL_law_260 ?_
      refine jv_as (y := nI ((4 * c9) + 1)) (nI_add (4 * c9) 1) ?_
      refine jv_sld hx hb hX hbl hbA hS (k := (4 * c9) + 1) (by omega) hL (v := nI j) e1 dL_law_261 ?_
      refine lv_aload_n hx hb dL_law_262 rfl (lv_at hl 1 rfl) ?_
      refine lv_iload_n hx hb dL_law_263 rfl (lv_at hl 0 rfl) ?_
      refine lv_iconst (v := 2) hx hb dL_law_264 (by decide) ?_
      refine lv_iadd hx hb dL_law_265 ?_
      refine jv_as (y := nI ((4 * c9) + 2)) (nI_add (4 * c9) 2) ?_
      refine jv_sld hx hb hX hbl hbA hS (k := (4 * c9) + 2) (by omega) hL (v := p2) e2 dL_law_266 ?_
      have hPc_6 := hP.sub (ws' := [(x, .inr (6, [.ref xp, .int (nI pn), .ref xj, .int (nI n), .ref xn, .ref xk, .ref xu, .int hi, .int (nI lr), .int (nI bd), .ref xm, .ref xw])), (xj, .inl (cJ, 6, .inr (.inr (.inr (.inr jr)))))]) [0, 2] rfl
      refine jcalli (va_runV (As := [.int (nI j), .int p2]) (rest := []) ⟨hx, hb, hml, hown, hts⟩ (c_worth_out l D cI cJ x xj n (.ref xp) (.int (nI pn)) (.ref xn) (.ref xk) (.ref xu) (.int hi) (.int (nI lr)) (.int (nI bd)) (.ref xm) (.ref xw) jr jk jg js jm j p2 hj hn6 hw H.size) (cwV 2 hts gL_law_X6_worth rfl rfl rfl (by decide +kernel) ⟨Nat.le_of_ble_eq_true rfl, Nat.le_of_ble_eq_true rfl⟩) (jpreV hT (va_recv hK hP (ci := 6) (q0 := 0) rfl rfl) ⟨hPc_6, hJ⟩) rfl rfl hl.1 rfl (lv_room (Nat.le_of_ble_eq_true rfl)) dL_law_267 ⟨(show cells + 0 ≤ 600000 by omega), (show slots + 0 ≤ 7302250 by omega)⟩) hS hA (fun r_7 H locs hw_r_7 hkq hS => ?_)
      try dsimp only at hw_r_7
      have hP := jkeep hP hkq
      have hJ := hJ.kept hkq
      subst hw_r_7
      refine lv_aload_n hx hb dL_law_270 rfl (lv_at hl 3 rfl) ?_
      refine lv_aload_n hx hb dL_law_271 rfl (lv_at hl 1 rfl) ?_
      refine lv_iload_n hx hb dL_law_272 rfl (lv_at hl 0 rfl) ?_
      refine lv_iconst (v := 1) hx hb dL_law_273 (by decide) ?_
      refine lv_iadd hx hb dL_law_274 ?_
      refine jv_as (y := nI ((4 * c9) + 1)) (nI_add (4 * c9) 1) ?_
      refine jv_sld hx hb hX hbl hbA hS (k := (4 * c9) + 1) (by omega) hL (v := nI j) e1 dL_law_275 ?_
      refine lv_aload_n hx hb dL_law_276 rfl (lv_at hl 1 rfl) ?_
      refine lv_iload_n hx hb dL_law_277 rfl (lv_at hl 0 rfl) ?_
      refine lv_iconst (v := 2) hx hb dL_law_278 (by decide) ?_
      refine lv_iadd hx hb dL_law_279 ?_
      refine jv_as (y := nI ((4 * c9) + 2)) (nI_add (4 * c9) 2) ?_
      refine jv_sld hx hb hX hbl hbA hS (k := (4 * c9) + 2) (by omega) hL (v := p2) e2 dL_law_280 ?_
      have hPc_8 := hP.sub (ws' := [(z, .inr (7, [.ref zp, .int (nI pn), .int (nI n), .int (nI yr), .int jo, .int ea, .int lo, .int (nI lr), .ref zr, .int (nI bd), .ref zb, .ref zc, .int (nI tn), .ref zt, .int sd, .ref zv, .int kl, .int mky, .int mkj, .int mke, .int mkk, .int mkt, .ref zkr, .ref zkt, .long hh]))]) [20] rfl
      refine jcalli (va_runV (As := [.int (nI j), .int p2]) (rest := [.int (-102)]) ⟨hx, hb, hml, hown, hts⟩ (c_mworth_out l D cI cJ z n (.ref zp) (.int (nI pn)) (.int (nI yr)) (.int jo) (.int ea) (.int lo) (.int (nI lr)) (.ref zr) (.int (nI bd)) (.ref zb) (.ref zc) (.int (nI tn)) (.ref zt) (.int sd) (.ref zv) (.int kl) (.int mky) (.int mkj) (.int mke) (.int mkk) (.int mkt) (.ref zkr) (.ref zkt) (.long hh) j p2 hj hn6 hw H.size) (cwV 2 hts gL_law_X7_worth rfl rfl rfl (by decide +kernel) ⟨Nat.le_of_ble_eq_true rfl, Nat.le_of_ble_eq_true rfl⟩) (jpreV hT (va_recv hK hP (ci := 7) (q0 := 20) rfl rfl) hPc_8) rfl rfl hl.1 rfl (lv_room (Nat.le_of_ble_eq_true rfl)) dL_law_281 ⟨(show cells + 0 ≤ 600000 by omega), (show slots + 0 ≤ 7302250 by omega)⟩) hS hA (fun r_9 H locs hw_r_9 hkq hS => ?_)
      try dsimp only at hw_r_9
      have hP := jkeep hP hkq
      have hJ := hJ.kept hkq
      subst hw_r_9
      refine lv_icmp_eq (tgt := 559) hx hb dL_law_284 (by decide) (fun c_10 => ?_) (fun c_10 => ?_)
      · skip
        refine W.widen (k := cells + 6) (n := slots + 18) (by omega) (by omega) ?_
        exact kk H locs (fun X9 k9 => k9 n pn tn bd lr yr pg jr jk jg js jm ea lo jo sp en tY tW hi ky kea klo kjo kta ksp ken ktY ktW uy uea ulo ujo uta usp uen utY utW M nw Rw T C Tt sd Sv kl mky mkj mke mkk mkt KR KT hh hP hD hJ hap hn6 hpn htn hbd hyr (by omega) hRw hSp hBd hTt hKp) hS
      · skip
        exact absurd c_10 (by decide)
    · skip
      have h7 : ¬ p2 < 0 := fun h => hw (Or.inl h)
      have h8 : p2 ≤ 99 := jnlt (fun h => hw (Or.inr h))
      refine lv_aload_n hx hb dL_law_256 rfl (lv_at hl 2 rfl) ?_
      refine lv_aload_n hx hb dL_law_257 rfl (lv_at hl 1 rfl) ?_
      refine lv_iload_n hx hb dL_law_258 rfl (lv_at hl 0 rfl) ?_
      refine lv_iconst (v := 1) hx hb dL_law_259 (by decide) ?_
      refine lv_iadd hx hb dL_law_260 ?_
      refine jv_as (y := nI ((4 * c9) + 1)) (nI_add (4 * c9) 1) ?_
      refine jv_sld hx hb hX hbl hbA hS (k := (4 * c9) + 1) (by omega) hL (v := nI j) e1 dL_law_261 ?_
      refine lv_aload_n hx hb dL_law_262 rfl (lv_at hl 1 rfl) ?_
      refine lv_iload_n hx hb dL_law_263 rfl (lv_at hl 0 rfl) ?_
      refine lv_iconst (v := 2) hx hb dL_law_264 (by decide) ?_
      refine lv_iadd hx hb dL_law_265 ?_
      refine jv_as (y := nI ((4 * c9) + 2)) (nI_add (4 * c9) 2) ?_
      refine jv_sld hx hb hX hbl hbA hS (k := (4 * c9) + 2) (by omega) hL (v := p2) e2 dL_law_266 ?_
      have hPc_11 := hP.sub (ws' := [(x, .inr (6, [.ref xp, .int (nI pn), .ref xj, .int (nI n), .ref xn, .ref xk, .ref xu, .int hi, .int (nI lr), .int (nI bd), .ref xm, .ref xw])), (xj, .inl (cJ, 6, .inr (.inr (.inr (.inr jr)))))]) [0, 2] rfl
      refine jcalli (va_runV (As := [.int (nI j), .int p2]) (rest := []) ⟨hx, hb, hml, hown, hts⟩ (c_worth_ok l D cI cJ x xj n (.ref xp) (.int (nI pn)) (.ref xn) (.ref xk) (.ref xu) (.int hi) (.int (nI lr)) (.int (nI bd)) (.ref xm) (.ref xw) jr jk jg js jm (mfi Rw) j p2 hj hn6 (jfwR hRw) h7 h8 H.size) (cwV 2 hts gL_law_X6_worth rfl rfl rfl (by decide +kernel) ⟨Nat.le_of_ble_eq_true rfl, Nat.le_of_ble_eq_true rfl⟩) (jpreV hT (va_recv hK hP (ci := 6) (q0 := 0) rfl rfl) ⟨hPc_11, hJ⟩) rfl rfl hl.1 rfl (lv_room (Nat.le_of_ble_eq_true rfl)) dL_law_267 ⟨(show cells + 0 ≤ 600000 by omega), (show slots + 0 ≤ 7302250 by omega)⟩) hS hA (fun r_12 H locs hw_r_12 hkq hS => ?_)
      try dsimp only at hw_r_12
      have hP := jkeep hP hkq
      have hJ := hJ.kept hkq
      subst hw_r_12
      refine lv_aload_n hx hb dL_law_270 rfl (lv_at hl 3 rfl) ?_
      refine lv_aload_n hx hb dL_law_271 rfl (lv_at hl 1 rfl) ?_
      refine lv_iload_n hx hb dL_law_272 rfl (lv_at hl 0 rfl) ?_
      refine lv_iconst (v := 1) hx hb dL_law_273 (by decide) ?_
      refine lv_iadd hx hb dL_law_274 ?_
      refine jv_as (y := nI ((4 * c9) + 1)) (nI_add (4 * c9) 1) ?_
      refine jv_sld hx hb hX hbl hbA hS (k := (4 * c9) + 1) (by omega) hL (v := nI j) e1 dL_law_275 ?_
      refine lv_aload_n hx hb dL_law_276 rfl (lv_at hl 1 rfl) ?_
      refine lv_iload_n hx hb dL_law_277 rfl (lv_at hl 0 rfl) ?_
      refine lv_iconst (v := 2) hx hb dL_law_278 (by decide) ?_
      refine lv_iadd hx hb dL_law_279 ?_
      refine jv_as (y := nI ((4 * c9) + 2)) (nI_add (4 * c9) 2) ?_
      refine jv_sld hx hb hX hbl hbA hS (k := (4 * c9) + 2) (by omega) hL (v := p2) e2 dL_law_280 ?_
      have hPc_13 := hP.sub (ws' := [(z, .inr (7, [.ref zp, .int (nI pn), .int (nI n), .int (nI yr), .int jo, .int ea, .int lo, .int (nI lr), .ref zr, .int (nI bd), .ref zb, .ref zc, .int (nI tn), .ref zt, .int sd, .ref zv, .int kl, .int mky, .int mkj, .int mke, .int mkk, .int mkt, .ref zkr, .ref zkt, .long hh])), (zr, .inl (cI, 30, .inl Rw))]) [20, 22] rfl
      refine jcalli (va_runV (As := [.int (nI j), .int p2]) (rest := [.int ((mfi Rw) j p2 + 100)]) ⟨hx, hb, hml, hown, hts⟩ (c_mworth_ok l D cI cJ z zr n (.ref zp) (.int (nI pn)) (.int (nI yr)) (.int jo) (.int ea) (.int lo) (.int (nI lr)) (.int (nI bd)) (.ref zb) (.ref zc) (.int (nI tn)) (.ref zt) (.int sd) (.ref zv) (.int kl) (.int mky) (.int mkj) (.int mke) (.int mkk) (.int mkt) (.ref zkr) (.ref zkt) (.long hh) Rw j p2 hj hn6 h7 h8 H.size) (cwV 2 hts gL_law_X7_worth rfl rfl rfl (by decide +kernel) ⟨Nat.le_of_ble_eq_true rfl, Nat.le_of_ble_eq_true rfl⟩) (jpreV hT (va_recv hK hP (ci := 7) (q0 := 20) rfl rfl) hPc_13) rfl rfl hl.1 rfl (lv_room (Nat.le_of_ble_eq_true rfl)) dL_law_281 ⟨(show cells + 0 ≤ 600000 by omega), (show slots + 0 ≤ 7302250 by omega)⟩) hS hA (fun r_14 H locs hw_r_14 hkq hS => ?_)
      try dsimp only at hw_r_14
      have hP := jkeep hP hkq
      have hJ := hJ.kept hkq
      subst hw_r_14
      refine lv_icmp_eq (tgt := 559) hx hb dL_law_284 (by decide) (fun c_15 => ?_) (fun c_15 => ?_)
      · skip
        refine W.widen (k := cells + 6) (n := slots + 18) (by omega) (by omega) ?_
        exact kk H locs (fun X9 k9 => k9 n pn tn bd lr yr pg jr jk jg js jm ea lo jo sp en tY tW hi ky kea klo kjo kta ksp ken ktY ktW uy uea ulo ujo uta usp uen utY utW M nw Rw T C Tt sd Sv kl mky mkj mke mkk mkt KR KT hh hP hD hJ hap hn6 hpn htn hbd hyr (by omega) hRw hSp hBd hTt hKp) hS
      · skip
        exact absurd (rfl) c_15

set_option maxHeartbeats 8000000 in
set_option maxRecDepth 100000 in
theorem law_eat (l : Launch) (hC : jCx p s m c b L xs D cI cJ A) (hc9 : 4 * c9 + 4 ≤ L) (hcl : cells + 6 ≤ 600000) (hsl : slots + 18 ≤ 7302250) (hS : va_S A s.heap H locs) (hl : lv_has ls 4 [(3, .int (nI (4 * c9))), (0, .ref b), (1, .ref x), (2, .ref z)]) (hI : jAll D cI cJ A x xp xj xn ns ne n7 n8 xk k5 k6 k7 k8 xu w5 w6 w7 w8 xm xw z zp zr zb zc zt zv zkr zkt c9 H)
    (kk : ∀ (H' : Heap) (locs' : List Loc), jAll D cI cJ A x xp xj xn ns ne n7 n8 xk k5 k6 k7 k8 xu w5 w6 w7 w8 xm xw z zp zr zb zc zt zv zkr zkt (c9 + 1) H' → va_S A s.heap H' locs' → W p l e room_1 s m #[Value.ref b] below meth c H' locs' (cells + 6) (slots + 18) Q (F0 m 559 ls [])) : W p l e room_1 s m #[Value.ref b] below meth c H locs cells slots Q (F0 m 289 ls []) := by
  obtain ⟨hx, hb, hml, hown, htT, hX, hbl, hT, hA, hbA, hL⟩ := hC
  have hK := hT.1
  have hts : ∀ w ∈ wsL_law, w.before #[Value.ref b] s = true := fun w h => htT w (wsL_law_in w h)
  refine hI _ (fun n pn tn bd lr yr pg jr jk jg js jm ea lo jo sp en tY tW hi ky kea klo kjo kta ksp ken ktY ktW uy uea ulo ujo uta usp uen utY utW M nw Rw T C Tt sd Sv kl mky mkj mke mkk mkt KR KT hh hP hD hJ hap hn6 hpn htn hbd hyr hlr hRw hSp hBd hTt hKp => ?_)
  obtain ⟨p1, e1⟩ : ∃ v : Int32, v = xs (4 * c9 + 1) := ⟨_, rfl⟩
  obtain ⟨p2, e2⟩ : ∃ v : Int32, v = xs (4 * c9 + 2) := ⟨_, rfl⟩
  obtain ⟨p3, e3⟩ : ∃ v : Int32, v = xs (4 * c9 + 3) := ⟨_, rfl⟩
  rcases jix p1 (n := n) (by omega) with hq | ⟨j, hj, rfl⟩
  · skip
    refine lv_aload_n hx hb dL_law_289 rfl (lv_at hl 2 rfl) ?_
    refine lv_aload_n hx hb dL_law_290 rfl (lv_at hl 1 rfl) ?_
    refine lv_iload_n hx hb dL_law_291 rfl (lv_at hl 0 rfl) ?_
    refine lv_iconst (v := 1) hx hb dL_law_292 (by decide) ?_
    refine lv_iadd hx hb dL_law_293 ?_
    refine jv_as (y := nI ((4 * c9) + 1)) (nI_add (4 * c9) 1) ?_
    refine jv_sld hx hb hX hbl hbA hS (k := (4 * c9) + 1) (by omega) hL (v := p1) e1 dL_law_294 ?_
    have hPc_1 := hP.sub (ws' := [(x, .inr (6, [.ref xp, .int (nI pn), .ref xj, .int (nI n), .ref xn, .ref xk, .ref xu, .int hi, .int (nI lr), .int (nI bd), .ref xm, .ref xw])), (xj, .inl (cJ, 6, .inr (.inr (.inr (.inr jr)))))]) [0, 2] rfl
    refine jcalli (va_runV (As := [.int p1]) (rest := []) ⟨hx, hb, hml, hown, hts⟩ (c_eat_no l D cI cJ x xj n (.ref xp) (.int (nI pn)) (.ref xn) (.ref xk) (.ref xu) (.int hi) (.int (nI lr)) (.int (nI bd)) (.ref xm) (.ref xw) jr p1 hq H.size) (cwV 1 hts gL_law_X6_eat rfl rfl rfl (by decide +kernel) ⟨Nat.le_of_ble_eq_true rfl, Nat.le_of_ble_eq_true rfl⟩) (jpreV hT (va_recv hK hP (ci := 6) (q0 := 0) rfl rfl) hPc_1) rfl rfl hl.1 rfl (lv_room (Nat.le_of_ble_eq_true rfl)) dL_law_295 ⟨(show cells + 0 ≤ 600000 by omega), (show slots + 0 ≤ 7302250 by omega)⟩) hS hA (fun r_2 H locs hw_r_2 hkq hS => ?_)
    try dsimp only at hw_r_2
    have hP := jkeep hP hkq
    have hJ := hJ.kept hkq
    subst hw_r_2
    refine lv_aload_n hx hb dL_law_298 rfl (lv_at hl 3 rfl) ?_
    refine lv_aload_n hx hb dL_law_299 rfl (lv_at hl 1 rfl) ?_
    refine lv_iload_n hx hb dL_law_300 rfl (lv_at hl 0 rfl) ?_
    refine lv_iconst (v := 1) hx hb dL_law_301 (by decide) ?_
    refine lv_iadd hx hb dL_law_302 ?_
    refine jv_as (y := nI ((4 * c9) + 1)) (nI_add (4 * c9) 1) ?_
    refine jv_sld hx hb hX hbl hbA hS (k := (4 * c9) + 1) (by omega) hL (v := p1) e1 dL_law_303 ?_
    have hPc_3 := hP.sub (ws' := [(z, .inr (7, [.ref zp, .int (nI pn), .int (nI n), .int (nI yr), .int jo, .int ea, .int lo, .int (nI lr), .ref zr, .int (nI bd), .ref zb, .ref zc, .int (nI tn), .ref zt, .int sd, .ref zv, .int kl, .int mky, .int mkj, .int mke, .int mkk, .int mkt, .ref zkr, .ref zkt, .long hh]))]) [20] rfl
    refine jcalli (va_runV (As := [.int p1]) (rest := [.int (-101)]) ⟨hx, hb, hml, hown, hts⟩ (c_meat_no l D cI cJ z n (.ref zp) (.int (nI pn)) (.int (nI yr)) (.int jo) (.int ea) (.int lo) (.int (nI lr)) (.ref zr) (.int (nI bd)) (.ref zb) (.ref zc) (.int (nI tn)) (.ref zt) (.int sd) (.ref zv) (.int kl) (.int mky) (.int mkj) (.int mke) (.int mkk) (.int mkt) (.ref zkr) (.ref zkt) (.long hh) p1 hq hn6 H.size) (cwV 1 hts gL_law_X7_eat rfl rfl rfl (by decide +kernel) ⟨Nat.le_of_ble_eq_true rfl, Nat.le_of_ble_eq_true rfl⟩) (jpreV hT (va_recv hK hP (ci := 7) (q0 := 20) rfl rfl) hPc_3) rfl rfl hl.1 rfl (lv_room (Nat.le_of_ble_eq_true rfl)) dL_law_304 ⟨(show cells + 0 ≤ 600000 by omega), (show slots + 0 ≤ 7302250 by omega)⟩) hS hA (fun r_4 H locs hw_r_4 hkq hS => ?_)
    try dsimp only at hw_r_4
    have hP := jkeep hP hkq
    have hJ := hJ.kept hkq
    subst hw_r_4
    refine lv_icmp_eq (tgt := 559) hx hb dL_law_307 (by decide) (fun c_5 => ?_) (fun c_5 => ?_)
    · skip
      refine W.widen (k := cells + 6) (n := slots + 18) (by omega) (by omega) ?_
      exact kk H locs (fun X9 k9 => k9 n pn tn bd lr yr pg jr jk jg js jm ea lo jo sp en tY tW hi ky kea klo kjo kta ksp ken ktY ktW uy uea ulo ujo uta usp uen utY utW M nw Rw T C Tt sd Sv kl mky mkj mke mkk mkt KR KT hh hP hD hJ hap hn6 hpn htn hbd hyr (by omega) hRw hSp hBd hTt hKp) hS
    · skip
      exact absurd c_5 (by decide)
  · skip
    obtain ⟨e5, e6⟩ := hSp.1 j hj
    by_cases h0 : 0 < sp j
    · skip
      refine lv_aload_n hx hb dL_law_289 rfl (lv_at hl 2 rfl) ?_
      refine lv_aload_n hx hb dL_law_290 rfl (lv_at hl 1 rfl) ?_
      refine lv_iload_n hx hb dL_law_291 rfl (lv_at hl 0 rfl) ?_
      refine lv_iconst (v := 1) hx hb dL_law_292 (by decide) ?_
      refine lv_iadd hx hb dL_law_293 ?_
      refine jv_as (y := nI ((4 * c9) + 1)) (nI_add (4 * c9) 1) ?_
      refine jv_sld hx hb hX hbl hbA hS (k := (4 * c9) + 1) (by omega) hL (v := nI j) e1 dL_law_294 ?_
      have hPc_6 := hP.sub (ws' := [(x, .inr (6, [.ref xp, .int (nI pn), .ref xj, .int (nI n), .ref xn, .ref xk, .ref xu, .int hi, .int (nI lr), .int (nI bd), .ref xm, .ref xw])), (xj, .inl (cJ, 6, .inr (.inr (.inr (.inr jr))))), (xn, .inr (1, [.int (nI yr), .int ea, .int lo, .int jo, .int (nI tn), .ref ns, .ref ne, .ref n7, .ref n8])), (ns, .inl (cI, 6, .inl sp)), (ne, .inl (cI, 6, .inl en)), (n7, .inl (cI, 6, .inl tY)), (n8, .inl (cI, 6, .inl tW))]) [0, 2, 3, 4, 5, 6, 7] rfl
      have hDc_7 := hD.sub (ws' := [(x, .inr (6, [.ref xp, .int (nI pn), .ref xj, .int (nI n), .ref xn, .ref xk, .ref xu, .int hi, .int (nI lr), .int (nI bd), .ref xm, .ref xw])), (xj, .inl (cJ, 6, .inr (.inr (.inr (.inr jr))))), (xn, .inr (1, [.int (nI yr), .int ea, .int lo, .int jo, .int (nI tn), .ref ns, .ref ne, .ref n7, .ref n8])), (ns, .inl (cI, 6, .inl sp)), (ne, .inl (cI, 6, .inl en)), (n7, .inl (cI, 6, .inl tY)), (n8, .inl (cI, 6, .inl tW))]) [0, 2, 3, 4, 5, 6, 7] (by decide) rfl
      have hFc_8 := va_free (wc := [(x, .inr (6, [.ref xp, .int (nI pn), .ref xj, .int (nI n), .ref xn, .ref xk, .ref xu, .int hi, .int (nI lr), .int (nI bd), .ref xm, .ref xw])), (xj, .inl (cJ, 6, .inr (.inr (.inr (.inr jr))))), (xn, .inr (1, [.int (nI yr), .int ea, .int lo, .int jo, .int (nI tn), .ref ns, .ref ne, .ref n7, .ref n8])), (ns, .inl (cI, 6, .inl sp)), (ne, .inl (cI, 6, .inl en)), (n7, .inl (cI, 6, .inl tY)), (n8, .inl (cI, 6, .inl tW))]) hD hS hA [0, 2, 3, 4, 5, 6, 7] rfl
      refine jcallWi (post := fun r H => r = (mfi Rw) j (nI yr) - en j + 100 ∧ va_P D vwCl [(x, .inr (6, [(.ref xp), (.int (nI pn)), .ref xj, .int (nI n), .ref xn, (.ref xk), (.ref xu), (.int hi), (.int (nI lr)), (.int (nI bd)), (.ref xm), (.ref xw)])), (xj, .inl (cJ, 6, .inr (.inr (.inr (.inr jr))))), (xn, .inr (1, [.int (nI yr), .int (ea + 1), .int lo, .int (jo + ((mfi Rw) j (nI yr) - en j)), .int (nI tn), .ref ns, .ref ne, .ref n7, .ref n8])), (ns, .inl (cI, 6, .inl (upd sp j (sp j - 1)))), (ne, .inl (cI, 6, .inl (upd en j (en j + 1)))), (n7, .inl (cI, 6, .inl tY)), (n8, .inl (cI, 6, .inl tW))] H) (va_runV (As := [.int (nI j)]) (rest := []) ⟨hx, hb, hml, hown, hts⟩ (c_eat_ok l D cI cJ x xj xn ns ne n7 n8 n (.ref xp) (.int (nI pn)) (.ref xk) (.ref xu) (.int hi) (.int (nI lr)) (.int (nI bd)) (.ref xm) (.ref xw) jr jk jg js jm (mfi Rw) (nI yr) ea lo jo (nI tn) sp en tY tW j hj hn6 (jfwR hRw) h0 H.size) (cwV 1 hts gL_law_X6_eat rfl rfl rfl (by decide +kernel) ⟨Nat.le_of_ble_eq_true rfl, Nat.le_of_ble_eq_true rfl⟩) (jpreV hT (va_recv hK hP (ci := 6) (q0 := 0) rfl rfl) ⟨hPc_6, hDc_7.weaken (fun _ _ _ _ => trivial), hJ⟩) rfl rfl hl.1 rfl (lv_room (Nat.le_of_ble_eq_true rfl)) dL_law_295 ⟨(show cells + 0 ≤ 600000 by omega), (show slots + 0 ≤ 7302250 by omega)⟩) hS hFc_8 (fun r_9 H locs hw_r_9 hz hkq hS => ?_)
      obtain ⟨h1r, hP1⟩ := hw_r_9
      obtain ⟨hP, hD⟩ := jjoin (wc := [(x, .inr (6, [.ref xp, .int (nI pn), .ref xj, .int (nI n), .ref xn, .ref xk, .ref xu, .int hi, .int (nI lr), .int (nI bd), .ref xm, .ref xw])), (xj, .inl (cJ, 6, .inr (.inr (.inr (.inr jr))))), (xn, .inr (1, [.int (nI yr), .int ea, .int lo, .int jo, .int (nI tn), .ref ns, .ref ne, .ref n7, .ref n8])), (ns, .inl (cI, 6, .inl sp)), (ne, .inl (cI, 6, .inl en)), (n7, .inl (cI, 6, .inl tY)), (n8, .inl (cI, 6, .inl tW))]) (wr := [(xp, .inl (cI, 25, .inl pg)), (xk, .inr (1, [.int ky, .int kea, .int klo, .int kjo, .int kta, .ref k5, .ref k6, .ref k7, .ref k8])), (k5, .inl (cI, 6, .inl ksp)), (k6, .inl (cI, 6, .inl ken)), (k7, .inl (cI, 6, .inl ktY)), (k8, .inl (cI, 6, .inl ktW)), (xu, .inr (1, [.int uy, .int uea, .int ulo, .int ujo, .int uta, .ref w5, .ref w6, .ref w7, .ref w8])), (w5, .inl (cI, 6, .inl usp)), (w6, .inl (cI, 6, .inl uen)), (w7, .inl (cI, 6, .inl utY)), (w8, .inl (cI, 6, .inl utW)), (xm, .inl (cI, 91, .inl M)), (xw, .inl (cI, 6, .inl nw)), (z, .inr (7, [.ref zp, .int (nI pn), .int (nI n), .int (nI yr), .int jo, .int ea, .int lo, .int (nI lr), .ref zr, .int (nI bd), .ref zb, .ref zc, .int (nI tn), .ref zt, .int sd, .ref zv, .int kl, .int mky, .int mkj, .int mke, .int mkk, .int mkt, .ref zkr, .ref zkt, .long hh])), (zp, .inl (cI, 25, .inl pg)), (zr, .inl (cI, 30, .inl Rw)), (zb, .inl (cI, 91, .inl T)), (zc, .inl (cI, 6, .inl C)), (zt, .inl (cI, 12, .inl Tt)), (zv, .inl (cI, 30, .inl Sv)), (zkr, .inl (cI, 30, .inl KR)), (zkt, .inl (cI, 12, .inl KT))]) (w1 := [(x, .inr (6, [.ref xp, .int (nI pn), .ref xj, .int (nI n), .ref xn, .ref xk, .ref xu, .int hi, .int (nI lr), .int (nI bd), .ref xm, .ref xw])), (xj, .inl (cJ, 6, .inr (.inr (.inr (.inr jr))))), (xn, .inr (1, [.int (nI yr), .int (ea + 1), .int lo, .int (jo + ((mfi Rw) j (nI yr) - en j)), .int (nI tn), .ref ns, .ref ne, .ref n7, .ref n8])), (ns, .inl (cI, 6, .inl (upd sp j (sp j - 1)))), (ne, .inl (cI, 6, .inl (upd en j (en j + 1)))), (n7, .inl (cI, 6, .inl tY)), (n8, .inl (cI, 6, .inl tW))]) (ws' := [(x, .inr (6, [.ref xp, .int (nI pn), .ref xj, .int (nI n), .ref xn, .ref xk, .ref xu, .int hi, .int (nI lr), .int (nI bd), .ref xm, .ref xw])), (xp, .inl (cI, 25, .inl pg)), (xj, .inl (cJ, 6, .inr (.inr (.inr (.inr jr))))), (xn, .inr (1, [.int (nI yr), .int (ea + 1), .int lo, .int (jo + ((mfi Rw) j (nI yr) - en j)), .int (nI tn), .ref ns, .ref ne, .ref n7, .ref n8])), (ns, .inl (cI, 6, .inl (upd sp j (sp j - 1)))), (ne, .inl (cI, 6, .inl (upd en j (en j + 1)))), (n7, .inl (cI, 6, .inl tY)), (n8, .inl (cI, 6, .inl tW)), (xk, .inr (1, [.int ky, .int kea, .int klo, .int kjo, .int kta, .ref k5, .ref k6, .ref k7, .ref k8])), (k5, .inl (cI, 6, .inl ksp)), (k6, .inl (cI, 6, .inl ken)), (k7, .inl (cI, 6, .inl ktY)), (k8, .inl (cI, 6, .inl ktW)), (xu, .inr (1, [.int uy, .int uea, .int ulo, .int ujo, .int uta, .ref w5, .ref w6, .ref w7, .ref w8])), (w5, .inl (cI, 6, .inl usp)), (w6, .inl (cI, 6, .inl uen)), (w7, .inl (cI, 6, .inl utY)), (w8, .inl (cI, 6, .inl utW)), (xm, .inl (cI, 91, .inl M)), (xw, .inl (cI, 6, .inl nw)), (z, .inr (7, [.ref zp, .int (nI pn), .int (nI n), .int (nI yr), .int jo, .int ea, .int lo, .int (nI lr), .ref zr, .int (nI bd), .ref zb, .ref zc, .int (nI tn), .ref zt, .int sd, .ref zv, .int kl, .int mky, .int mkj, .int mke, .int mkk, .int mkt, .ref zkr, .ref zkt, .long hh])), (zp, .inl (cI, 25, .inl pg)), (zr, .inl (cI, 30, .inl Rw)), (zb, .inl (cI, 91, .inl T)), (zc, .inl (cI, 6, .inl C)), (zt, .inl (cI, 12, .inl Tt)), (zv, .inl (cI, 30, .inl Sv)), (zkr, .inl (cI, 30, .inl KR)), (zkt, .inl (cI, 12, .inl KT))]) hP hD hFc_8 [0, 2, 3, 4, 5, 6, 7] [1, 8, 9, 10, 11, 12, 13, 14, 15, 16, 17, 18, 19, 20, 21, 22, 23, 24, 25, 26, 27, 28] [22, 0, 23, 24, 25, 26, 27, 28, 1, 2, 3, 4, 5, 6, 7, 8, 9, 10, 11, 12, 13, 14, 15, 16, 17, 18, 19, 20, 21] rfl rfl (by decide) (by decide) (by decide) (by decide) hkq hP1 rfl rfl rfl
      have hJ := jJ.keptA (A := va_A [(x, .inr (6, [.ref xp, .int (nI pn), .ref xj, .int (nI n), .ref xn, .ref xk, .ref xu, .int hi, .int (nI lr), .int (nI bd), .ref xm, .ref xw])), (xj, .inl (cJ, 6, .inr (.inr (.inr (.inr jr))))), (xn, .inr (1, [.int (nI yr), .int ea, .int lo, .int jo, .int (nI tn), .ref ns, .ref ne, .ref n7, .ref n8])), (ns, .inl (cI, 6, .inl sp)), (ne, .inl (cI, 6, .inl en)), (n7, .inl (cI, 6, .inl tY)), (n8, .inl (cI, 6, .inl tW))] _) hJ (fun i a h1 h2 => jap (hJ.lt h1 h2) (fun h => hap i a h1 h2 (jmem [0, 2, 3, 4, 5, 6, 7] rfl h))) hkq
      refine lv_aload_n hx hb dL_law_298 rfl (lv_at hl 3 rfl) ?_
      refine lv_aload_n hx hb dL_law_299 rfl (lv_at hl 1 rfl) ?_
      refine lv_iload_n hx hb dL_law_300 rfl (lv_at hl 0 rfl) ?_
      refine lv_iconst (v := 1) hx hb dL_law_301 (by decide) ?_
      refine lv_iadd hx hb dL_law_302 ?_
      refine jv_as (y := nI ((4 * c9) + 1)) (nI_add (4 * c9) 1) ?_
      refine jv_sld hx hb hX hbl hbA hS (k := (4 * c9) + 1) (by omega) hL (v := nI j) e1 dL_law_303 ?_
      have hPc_10 := hP.sub (ws' := [(z, .inr (7, [.ref zp, .int (nI pn), .int (nI n), .int (nI yr), .int jo, .int ea, .int lo, .int (nI lr), .ref zr, .int (nI bd), .ref zb, .ref zc, .int (nI tn), .ref zt, .int sd, .ref zv, .int kl, .int mky, .int mkj, .int mke, .int mkk, .int mkt, .ref zkr, .ref zkt, .long hh])), (zr, .inl (cI, 30, .inl Rw))]) [20, 22] rfl
      have hDc_11 := hD.sub (ws' := [(z, .inr (7, [.ref zp, .int (nI pn), .int (nI n), .int (nI yr), .int jo, .int ea, .int lo, .int (nI lr), .ref zr, .int (nI bd), .ref zb, .ref zc, .int (nI tn), .ref zt, .int sd, .ref zv, .int kl, .int mky, .int mkj, .int mke, .int mkk, .int mkt, .ref zkr, .ref zkt, .long hh])), (zr, .inl (cI, 30, .inl Rw))]) [20, 22] (by decide) rfl
      have hFc_12 := va_free (wc := [(z, .inr (7, [.ref zp, .int (nI pn), .int (nI n), .int (nI yr), .int jo, .int ea, .int lo, .int (nI lr), .ref zr, .int (nI bd), .ref zb, .ref zc, .int (nI tn), .ref zt, .int sd, .ref zv, .int kl, .int mky, .int mkj, .int mke, .int mkk, .int mkt, .ref zkr, .ref zkt, .long hh])), (zr, .inl (cI, 30, .inl Rw))]) hD hS hA [20, 22] rfl
      refine jcallWi (post := fun r H => r = mfi Rw j (nI yr) - Rw (5 * j + 4) + 100 ∧ va_P D vwCl [(z, .inr (7, [(.ref zp), (.int (nI pn)), .int (nI n), .int (nI yr), .int (jo + (mfi Rw j (nI yr) - Rw (5 * j + 4))), .int (ea + 1), (.int lo), (.int (nI lr)), .ref zr, (.int (nI bd)), (.ref zb), (.ref zc), (.int (nI tn)), (.ref zt), (.int sd), (.ref zv), (.int kl), (.int mky), (.int mkj), (.int mke), (.int mkk), (.int mkt), (.ref zkr), (.ref zkt), (.long hh)])), (zr, .inl (cI, 30, .inl (upd (upd Rw (5 * j + 3) (Rw (5 * j + 3) - 1)) (5 * j + 4) (Rw (5 * j + 4) + 1))))] H) (va_runV (As := [.int (nI j)]) (rest := [.int r_9]) ⟨hx, hb, hml, hown, hts⟩ (c_meat_ok l D cI cJ z zr n (.ref zp) (.int (nI pn)) (.int lo) (.int (nI lr)) (.int (nI bd)) (.ref zb) (.ref zc) (.int (nI tn)) (.ref zt) (.int sd) (.ref zv) (.int kl) (.int mky) (.int mkj) (.int mke) (.int mkk) (.int mkt) (.ref zkr) (.ref zkt) (.long hh) Rw (nI yr) jo ea j hj hn6 (jpos_ne h0 e5) H.size) (cwV 1 hts gL_law_X7_eat rfl rfl rfl (by decide +kernel) ⟨Nat.le_of_ble_eq_true rfl, Nat.le_of_ble_eq_true rfl⟩) (jpreV hT (va_recv hK hP (ci := 7) (q0 := 20) rfl rfl) ⟨hPc_10, hDc_11.weaken (fun _ _ _ _ => trivial), trivial⟩) rfl rfl hl.1 rfl (lv_room (Nat.le_of_ble_eq_true rfl)) dL_law_304 ⟨(show cells + 0 ≤ 600000 by omega), (show slots + 0 ≤ 7302250 by omega)⟩) hS hFc_12 (fun r_13 H locs hw_r_13 hz hkq hS => ?_)
      obtain ⟨h2r, hP1⟩ := hw_r_13
      obtain ⟨hP, hD⟩ := jjoin (wc := [(z, .inr (7, [.ref zp, .int (nI pn), .int (nI n), .int (nI yr), .int jo, .int ea, .int lo, .int (nI lr), .ref zr, .int (nI bd), .ref zb, .ref zc, .int (nI tn), .ref zt, .int sd, .ref zv, .int kl, .int mky, .int mkj, .int mke, .int mkk, .int mkt, .ref zkr, .ref zkt, .long hh])), (zr, .inl (cI, 30, .inl Rw))]) (wr := [(x, .inr (6, [.ref xp, .int (nI pn), .ref xj, .int (nI n), .ref xn, .ref xk, .ref xu, .int hi, .int (nI lr), .int (nI bd), .ref xm, .ref xw])), (xp, .inl (cI, 25, .inl pg)), (xj, .inl (cJ, 6, .inr (.inr (.inr (.inr jr))))), (xn, .inr (1, [.int (nI yr), .int (ea + 1), .int lo, .int (jo + ((mfi Rw) j (nI yr) - en j)), .int (nI tn), .ref ns, .ref ne, .ref n7, .ref n8])), (ns, .inl (cI, 6, .inl (upd sp j (sp j - 1)))), (ne, .inl (cI, 6, .inl (upd en j (en j + 1)))), (n7, .inl (cI, 6, .inl tY)), (n8, .inl (cI, 6, .inl tW)), (xk, .inr (1, [.int ky, .int kea, .int klo, .int kjo, .int kta, .ref k5, .ref k6, .ref k7, .ref k8])), (k5, .inl (cI, 6, .inl ksp)), (k6, .inl (cI, 6, .inl ken)), (k7, .inl (cI, 6, .inl ktY)), (k8, .inl (cI, 6, .inl ktW)), (xu, .inr (1, [.int uy, .int uea, .int ulo, .int ujo, .int uta, .ref w5, .ref w6, .ref w7, .ref w8])), (w5, .inl (cI, 6, .inl usp)), (w6, .inl (cI, 6, .inl uen)), (w7, .inl (cI, 6, .inl utY)), (w8, .inl (cI, 6, .inl utW)), (xm, .inl (cI, 91, .inl M)), (xw, .inl (cI, 6, .inl nw)), (zp, .inl (cI, 25, .inl pg)), (zb, .inl (cI, 91, .inl T)), (zc, .inl (cI, 6, .inl C)), (zt, .inl (cI, 12, .inl Tt)), (zv, .inl (cI, 30, .inl Sv)), (zkr, .inl (cI, 30, .inl KR)), (zkt, .inl (cI, 12, .inl KT))]) (w1 := [(z, .inr (7, [.ref zp, .int (nI pn), .int (nI n), .int (nI yr), .int (jo + (mfi Rw j (nI yr) - Rw (5 * j + 4))), .int (ea + 1), .int lo, .int (nI lr), .ref zr, .int (nI bd), .ref zb, .ref zc, .int (nI tn), .ref zt, .int sd, .ref zv, .int kl, .int mky, .int mkj, .int mke, .int mkk, .int mkt, .ref zkr, .ref zkt, .long hh])), (zr, .inl (cI, 30, .inl (upd (upd Rw (5 * j + 3) (Rw (5 * j + 3) - 1)) (5 * j + 4) (Rw (5 * j + 4) + 1))))]) (ws' := [(x, .inr (6, [.ref xp, .int (nI pn), .ref xj, .int (nI n), .ref xn, .ref xk, .ref xu, .int hi, .int (nI lr), .int (nI bd), .ref xm, .ref xw])), (xp, .inl (cI, 25, .inl pg)), (xj, .inl (cJ, 6, .inr (.inr (.inr (.inr jr))))), (xn, .inr (1, [.int (nI yr), .int (ea + 1), .int lo, .int (jo + ((mfi Rw) j (nI yr) - en j)), .int (nI tn), .ref ns, .ref ne, .ref n7, .ref n8])), (ns, .inl (cI, 6, .inl (upd sp j (sp j - 1)))), (ne, .inl (cI, 6, .inl (upd en j (en j + 1)))), (n7, .inl (cI, 6, .inl tY)), (n8, .inl (cI, 6, .inl tW)), (xk, .inr (1, [.int ky, .int kea, .int klo, .int kjo, .int kta, .ref k5, .ref k6, .ref k7, .ref k8])), (k5, .inl (cI, 6, .inl ksp)), (k6, .inl (cI, 6, .inl ken)), (k7, .inl (cI, 6, .inl ktY)), (k8, .inl (cI, 6, .inl ktW)), (xu, .inr (1, [.int uy, .int uea, .int ulo, .int ujo, .int uta, .ref w5, .ref w6, .ref w7, .ref w8])), (w5, .inl (cI, 6, .inl usp)), (w6, .inl (cI, 6, .inl uen)), (w7, .inl (cI, 6, .inl utY)), (w8, .inl (cI, 6, .inl utW)), (xm, .inl (cI, 91, .inl M)), (xw, .inl (cI, 6, .inl nw)), (z, .inr (7, [.ref zp, .int (nI pn), .int (nI n), .int (nI yr), .int (jo + (mfi Rw j (nI yr) - Rw (5 * j + 4))), .int (ea + 1), .int lo, .int (nI lr), .ref zr, .int (nI bd), .ref zb, .ref zc, .int (nI tn), .ref zt, .int sd, .ref zv, .int kl, .int mky, .int mkj, .int mke, .int mkk, .int mkt, .ref zkr, .ref zkt, .long hh])), (zp, .inl (cI, 25, .inl pg)), (zr, .inl (cI, 30, .inl (upd (upd Rw (5 * j + 3) (Rw (5 * j + 3) - 1)) (5 * j + 4) (Rw (5 * j + 4) + 1)))), (zb, .inl (cI, 91, .inl T)), (zc, .inl (cI, 6, .inl C)), (zt, .inl (cI, 12, .inl Tt)), (zv, .inl (cI, 30, .inl Sv)), (zkr, .inl (cI, 30, .inl KR)), (zkt, .inl (cI, 12, .inl KT))]) hP hD hFc_12 [20, 22] [0, 1, 2, 3, 4, 5, 6, 7, 8, 9, 10, 11, 12, 13, 14, 15, 16, 17, 18, 19, 21, 23, 24, 25, 26, 27, 28] [0, 1, 2, 3, 4, 5, 6, 7, 8, 9, 10, 11, 12, 13, 14, 15, 16, 17, 18, 19, 27, 20, 28, 21, 22, 23, 24, 25, 26] rfl rfl (by decide) (by decide) (by decide) (by decide) hkq hP1 rfl rfl rfl
      have hJ := jJ.keptA (A := va_A [(z, .inr (7, [.ref zp, .int (nI pn), .int (nI n), .int (nI yr), .int jo, .int ea, .int lo, .int (nI lr), .ref zr, .int (nI bd), .ref zb, .ref zc, .int (nI tn), .ref zt, .int sd, .ref zv, .int kl, .int mky, .int mkj, .int mke, .int mkk, .int mkt, .ref zkr, .ref zkt, .long hh])), (zr, .inl (cI, 30, .inl Rw))] _) hJ (fun i a h1 h2 => jap (hJ.lt h1 h2) (fun h => hap i a h1 h2 (jmem [20, 22] rfl h))) hkq
      refine lv_icmp_eq (tgt := 559) hx hb dL_law_307 (by decide) (fun c_14 => ?_) (fun c_14 => ?_)
      · skip
        rw [e5, e6] at hP
        have hP : va_P D vwCl [(x, .inr (6, [.ref xp, .int (nI pn), .ref xj, .int (nI n), .ref xn, .ref xk, .ref xu, .int hi, .int (nI lr), .int (nI bd), .ref xm, .ref xw])), (xp, .inl (cI, 25, .inl pg)), (xj, .inl (cJ, 6, .inr (.inr (.inr (.inr jr))))), (xn, .inr (1, [.int (nI yr), .int (ea + 1), .int lo, .int (jo + ((mfi Rw) j (nI yr) - en j)), .int (nI tn), .ref ns, .ref ne, .ref n7, .ref n8])), (ns, .inl (cI, 6, .inl (upd sp j (sp j - 1)))), (ne, .inl (cI, 6, .inl (upd en j (en j + 1)))), (n7, .inl (cI, 6, .inl tY)), (n8, .inl (cI, 6, .inl tW)), (xk, .inr (1, [.int ky, .int kea, .int klo, .int kjo, .int kta, .ref k5, .ref k6, .ref k7, .ref k8])), (k5, .inl (cI, 6, .inl ksp)), (k6, .inl (cI, 6, .inl ken)), (k7, .inl (cI, 6, .inl ktY)), (k8, .inl (cI, 6, .inl ktW)), (xu, .inr (1, [.int uy, .int uea, .int ulo, .int ujo, .int uta, .ref w5, .ref w6, .ref w7, .ref w8])), (w5, .inl (cI, 6, .inl usp)), (w6, .inl (cI, 6, .inl uen)), (w7, .inl (cI, 6, .inl utY)), (w8, .inl (cI, 6, .inl utW)), (xm, .inl (cI, 91, .inl M)), (xw, .inl (cI, 6, .inl nw)), (z, .inr (7, [.ref zp, .int (nI pn), .int (nI n), .int (nI yr), .int (jo + (mfi Rw j (nI yr) - en j)), .int (ea + 1), .int lo, .int (nI lr), .ref zr, .int (nI bd), .ref zb, .ref zc, .int (nI tn), .ref zt, .int sd, .ref zv, .int kl, .int mky, .int mkj, .int mke, .int mkk, .int mkt, .ref zkr, .ref zkt, .long hh])), (zp, .inl (cI, 25, .inl pg)), (zr, .inl (cI, 30, .inl (upd (upd Rw (5 * j + 3) (sp j - 1)) (5 * j + 4) (en j + 1)))), (zb, .inl (cI, 91, .inl T)), (zc, .inl (cI, 6, .inl C)), (zt, .inl (cI, 12, .inl Tt)), (zv, .inl (cI, 30, .inl Sv)), (zkr, .inl (cI, 30, .inl KR)), (zkt, .inl (cI, 12, .inl KT))] H := hP
        have hD : va_D A [(x, .inr (6, [.ref xp, .int (nI pn), .ref xj, .int (nI n), .ref xn, .ref xk, .ref xu, .int hi, .int (nI lr), .int (nI bd), .ref xm, .ref xw])), (xp, .inl (cI, 25, .inl pg)), (xj, .inl (cJ, 6, .inr (.inr (.inr (.inr jr))))), (xn, .inr (1, [.int (nI yr), .int (ea + 1), .int lo, .int (jo + ((mfi Rw) j (nI yr) - en j)), .int (nI tn), .ref ns, .ref ne, .ref n7, .ref n8])), (ns, .inl (cI, 6, .inl (upd sp j (sp j - 1)))), (ne, .inl (cI, 6, .inl (upd en j (en j + 1)))), (n7, .inl (cI, 6, .inl tY)), (n8, .inl (cI, 6, .inl tW)), (xk, .inr (1, [.int ky, .int kea, .int klo, .int kjo, .int kta, .ref k5, .ref k6, .ref k7, .ref k8])), (k5, .inl (cI, 6, .inl ksp)), (k6, .inl (cI, 6, .inl ken)), (k7, .inl (cI, 6, .inl ktY)), (k8, .inl (cI, 6, .inl ktW)), (xu, .inr (1, [.int uy, .int uea, .int ulo, .int ujo, .int uta, .ref w5, .ref w6, .ref w7, .ref w8])), (w5, .inl (cI, 6, .inl usp)), (w6, .inl (cI, 6, .inl uen)), (w7, .inl (cI, 6, .inl utY)), (w8, .inl (cI, 6, .inl utW)), (xm, .inl (cI, 91, .inl M)), (xw, .inl (cI, 6, .inl nw)), (z, .inr (7, [.ref zp, .int (nI pn), .int (nI n), .int (nI yr), .int (jo + (mfi Rw j (nI yr) - en j)), .int (ea + 1), .int lo, .int (nI lr), .ref zr, .int (nI bd), .ref zb, .ref zc, .int (nI tn), .ref zt, .int sd, .ref zv, .int kl, .int mky, .int mkj, .int mke, .int mkk, .int mkt, .ref zkr, .ref zkt, .long hh])), (zp, .inl (cI, 25, .inl pg)), (zr, .inl (cI, 30, .inl (upd (upd Rw (5 * j + 3) (sp j - 1)) (5 * j + 4) (en j + 1)))), (zb, .inl (cI, 91, .inl T)), (zc, .inl (cI, 6, .inl C)), (zt, .inl (cI, 12, .inl Tt)), (zv, .inl (cI, 30, .inl Sv)), (zkr, .inl (cI, 30, .inl KR)), (zkt, .inl (cI, 12, .inl KT))] := jD_of hD rfl
        refine W.widen (k := cells + 6) (n := slots + 18) (by omega) (by omega) ?_
        exact kk H locs (fun X9 k9 => k9 n pn tn bd lr yr pg jr jk jg js jm (ea + 1) lo (jo + ((mfi Rw) j (nI yr) - en j)) (upd sp j (sp j - 1)) (upd en j (en j + 1)) tY tW hi ky kea klo kjo kta ksp ken ktY ktW uy uea ulo ujo uta usp uen utY utW M nw (upd (upd Rw (5 * j + 3) (sp j - 1)) (5 * j + 4) (en j + 1)) T C Tt sd Sv kl mky mkj mke mkk mkt KR KT hh hP hD hJ hap hn6 hpn htn hbd hyr (by omega) (hRw.sm (((jSm.rf (n := n) (R := Rw)).up (by omega)).up (by omega))) ((hSp.take hj).ate hj) (hBd.eat h0) hTt (hKp.sm (((jSm.rf (n := n) (R := Rw)).up (by omega)).up (by omega)))) hS
      · skip
        exact absurd (by rw [h1r, h2r, e6]) c_14
    · skip
      refine lv_aload_n hx hb dL_law_289 rfl (lv_at hl 2 rfl) ?_
      refine lv_aload_n hx hb dL_law_290 rfl (lv_at hl 1 rfl) ?_
      refine lv_iload_n hx hb dL_law_291 rfl (lv_at hl 0 rfl) ?_
      refine lv_iconst (v := 1) hx hb dL_law_292 (by decide) ?_
      refine lv_iadd hx hb dL_law_293 ?_
      refine jv_as (y := nI ((4 * c9) + 1)) (nI_add (4 * c9) 1) ?_
      refine jv_sld hx hb hX hbl hbA hS (k := (4 * c9) + 1) (by omega) hL (v := nI j) e1 dL_law_294 ?_
      have hPc_15 := hP.sub (ws' := [(x, .inr (6, [.ref xp, .int (nI pn), .ref xj, .int (nI n), .ref xn, .ref xk, .ref xu, .int hi, .int (nI lr), .int (nI bd), .ref xm, .ref xw])), (xj, .inl (cJ, 6, .inr (.inr (.inr (.inr jr))))), (xn, .inr (1, [.int (nI yr), .int ea, .int lo, .int jo, .int (nI tn), .ref ns, .ref ne, .ref n7, .ref n8])), (ns, .inl (cI, 6, .inl sp)), (ne, .inl (cI, 6, .inl en)), (n7, .inl (cI, 6, .inl tY)), (n8, .inl (cI, 6, .inl tW))]) [0, 2, 3, 4, 5, 6, 7] rfl
      have hDc_16 := hD.sub (ws' := [(x, .inr (6, [.ref xp, .int (nI pn), .ref xj, .int (nI n), .ref xn, .ref xk, .ref xu, .int hi, .int (nI lr), .int (nI bd), .ref xm, .ref xw])), (xj, .inl (cJ, 6, .inr (.inr (.inr (.inr jr))))), (xn, .inr (1, [.int (nI yr), .int ea, .int lo, .int jo, .int (nI tn), .ref ns, .ref ne, .ref n7, .ref n8])), (ns, .inl (cI, 6, .inl sp)), (ne, .inl (cI, 6, .inl en)), (n7, .inl (cI, 6, .inl tY)), (n8, .inl (cI, 6, .inl tW))]) [0, 2, 3, 4, 5, 6, 7] (by decide) rfl
      have hFc_17 := va_free (wc := [(x, .inr (6, [.ref xp, .int (nI pn), .ref xj, .int (nI n), .ref xn, .ref xk, .ref xu, .int hi, .int (nI lr), .int (nI bd), .ref xm, .ref xw])), (xj, .inl (cJ, 6, .inr (.inr (.inr (.inr jr))))), (xn, .inr (1, [.int (nI yr), .int ea, .int lo, .int jo, .int (nI tn), .ref ns, .ref ne, .ref n7, .ref n8])), (ns, .inl (cI, 6, .inl sp)), (ne, .inl (cI, 6, .inl en)), (n7, .inl (cI, 6, .inl tY)), (n8, .inl (cI, 6, .inl tW))]) hD hS hA [0, 2, 3, 4, 5, 6, 7] rfl
      refine jcallWi (post := fun r H => r = -103 ∧ va_P D vwCl [(x, .inr (6, [(.ref xp), (.int (nI pn)), .ref xj, .int (nI n), .ref xn, (.ref xk), (.ref xu), (.int hi), (.int (nI lr)), (.int (nI bd)), (.ref xm), (.ref xw)])), (xj, .inl (cJ, 6, .inr (.inr (.inr (.inr jr))))), (xn, .inr (1, [.int (nI yr), .int ea, .int lo, .int jo, .int (nI tn), .ref ns, .ref ne, .ref n7, .ref n8])), (ns, .inl (cI, 6, .inl sp)), (ne, .inl (cI, 6, .inl en)), (n7, .inl (cI, 6, .inl tY)), (n8, .inl (cI, 6, .inl tW))] H) (va_runV (As := [.int (nI j)]) (rest := []) ⟨hx, hb, hml, hown, hts⟩ (c_eat_none l D cI cJ x xj xn ns ne n7 n8 n (.ref xp) (.int (nI pn)) (.ref xk) (.ref xu) (.int hi) (.int (nI lr)) (.int (nI bd)) (.ref xm) (.ref xw) jr jk jg js jm (mfi Rw) (nI yr) ea lo jo (nI tn) sp en tY tW j hj hn6 (jfwR hRw) h0 H.size) (cwV 1 hts gL_law_X6_eat rfl rfl rfl (by decide +kernel) ⟨Nat.le_of_ble_eq_true rfl, Nat.le_of_ble_eq_true rfl⟩) (jpreV hT (va_recv hK hP (ci := 6) (q0 := 0) rfl rfl) ⟨hPc_15, hDc_16.weaken (fun _ _ _ _ => trivial), hJ⟩) rfl rfl hl.1 rfl (lv_room (Nat.le_of_ble_eq_true rfl)) dL_law_295 ⟨(show cells + 0 ≤ 600000 by omega), (show slots + 0 ≤ 7302250 by omega)⟩) hS hFc_17 (fun r_18 H locs hw_r_18 hz hkq hS => ?_)
      obtain ⟨h1r, hP1⟩ := hw_r_18
      obtain ⟨hP, hD⟩ := jjoin (wc := [(x, .inr (6, [.ref xp, .int (nI pn), .ref xj, .int (nI n), .ref xn, .ref xk, .ref xu, .int hi, .int (nI lr), .int (nI bd), .ref xm, .ref xw])), (xj, .inl (cJ, 6, .inr (.inr (.inr (.inr jr))))), (xn, .inr (1, [.int (nI yr), .int ea, .int lo, .int jo, .int (nI tn), .ref ns, .ref ne, .ref n7, .ref n8])), (ns, .inl (cI, 6, .inl sp)), (ne, .inl (cI, 6, .inl en)), (n7, .inl (cI, 6, .inl tY)), (n8, .inl (cI, 6, .inl tW))]) (wr := [(xp, .inl (cI, 25, .inl pg)), (xk, .inr (1, [.int ky, .int kea, .int klo, .int kjo, .int kta, .ref k5, .ref k6, .ref k7, .ref k8])), (k5, .inl (cI, 6, .inl ksp)), (k6, .inl (cI, 6, .inl ken)), (k7, .inl (cI, 6, .inl ktY)), (k8, .inl (cI, 6, .inl ktW)), (xu, .inr (1, [.int uy, .int uea, .int ulo, .int ujo, .int uta, .ref w5, .ref w6, .ref w7, .ref w8])), (w5, .inl (cI, 6, .inl usp)), (w6, .inl (cI, 6, .inl uen)), (w7, .inl (cI, 6, .inl utY)), (w8, .inl (cI, 6, .inl utW)), (xm, .inl (cI, 91, .inl M)), (xw, .inl (cI, 6, .inl nw)), (z, .inr (7, [.ref zp, .int (nI pn), .int (nI n), .int (nI yr), .int jo, .int ea, .int lo, .int (nI lr), .ref zr, .int (nI bd), .ref zb, .ref zc, .int (nI tn), .ref zt, .int sd, .ref zv, .int kl, .int mky, .int mkj, .int mke, .int mkk, .int mkt, .ref zkr, .ref zkt, .long hh])), (zp, .inl (cI, 25, .inl pg)), (zr, .inl (cI, 30, .inl Rw)), (zb, .inl (cI, 91, .inl T)), (zc, .inl (cI, 6, .inl C)), (zt, .inl (cI, 12, .inl Tt)), (zv, .inl (cI, 30, .inl Sv)), (zkr, .inl (cI, 30, .inl KR)), (zkt, .inl (cI, 12, .inl KT))]) (w1 := [(x, .inr (6, [.ref xp, .int (nI pn), .ref xj, .int (nI n), .ref xn, .ref xk, .ref xu, .int hi, .int (nI lr), .int (nI bd), .ref xm, .ref xw])), (xj, .inl (cJ, 6, .inr (.inr (.inr (.inr jr))))), (xn, .inr (1, [.int (nI yr), .int ea, .int lo, .int jo, .int (nI tn), .ref ns, .ref ne, .ref n7, .ref n8])), (ns, .inl (cI, 6, .inl sp)), (ne, .inl (cI, 6, .inl en)), (n7, .inl (cI, 6, .inl tY)), (n8, .inl (cI, 6, .inl tW))]) (ws' := [(x, .inr (6, [.ref xp, .int (nI pn), .ref xj, .int (nI n), .ref xn, .ref xk, .ref xu, .int hi, .int (nI lr), .int (nI bd), .ref xm, .ref xw])), (xp, .inl (cI, 25, .inl pg)), (xj, .inl (cJ, 6, .inr (.inr (.inr (.inr jr))))), (xn, .inr (1, [.int (nI yr), .int ea, .int lo, .int jo, .int (nI tn), .ref ns, .ref ne, .ref n7, .ref n8])), (ns, .inl (cI, 6, .inl sp)), (ne, .inl (cI, 6, .inl en)), (n7, .inl (cI, 6, .inl tY)), (n8, .inl (cI, 6, .inl tW)), (xk, .inr (1, [.int ky, .int kea, .int klo, .int kjo, .int kta, .ref k5, .ref k6, .ref k7, .ref k8])), (k5, .inl (cI, 6, .inl ksp)), (k6, .inl (cI, 6, .inl ken)), (k7, .inl (cI, 6, .inl ktY)), (k8, .inl (cI, 6, .inl ktW)), (xu, .inr (1, [.int uy, .int uea, .int ulo, .int ujo, .int uta, .ref w5, .ref w6, .ref w7, .ref w8])), (w5, .inl (cI, 6, .inl usp)), (w6, .inl (cI, 6, .inl uen)), (w7, .inl (cI, 6, .inl utY)), (w8, .inl (cI, 6, .inl utW)), (xm, .inl (cI, 91, .inl M)), (xw, .inl (cI, 6, .inl nw)), (z, .inr (7, [.ref zp, .int (nI pn), .int (nI n), .int (nI yr), .int jo, .int ea, .int lo, .int (nI lr), .ref zr, .int (nI bd), .ref zb, .ref zc, .int (nI tn), .ref zt, .int sd, .ref zv, .int kl, .int mky, .int mkj, .int mke, .int mkk, .int mkt, .ref zkr, .ref zkt, .long hh])), (zp, .inl (cI, 25, .inl pg)), (zr, .inl (cI, 30, .inl Rw)), (zb, .inl (cI, 91, .inl T)), (zc, .inl (cI, 6, .inl C)), (zt, .inl (cI, 12, .inl Tt)), (zv, .inl (cI, 30, .inl Sv)), (zkr, .inl (cI, 30, .inl KR)), (zkt, .inl (cI, 12, .inl KT))]) hP hD hFc_17 [0, 2, 3, 4, 5, 6, 7] [1, 8, 9, 10, 11, 12, 13, 14, 15, 16, 17, 18, 19, 20, 21, 22, 23, 24, 25, 26, 27, 28] [22, 0, 23, 24, 25, 26, 27, 28, 1, 2, 3, 4, 5, 6, 7, 8, 9, 10, 11, 12, 13, 14, 15, 16, 17, 18, 19, 20, 21] rfl rfl (by decide) (by decide) (by decide) (by decide) hkq hP1 rfl rfl rfl
      have hJ := jJ.keptA (A := va_A [(x, .inr (6, [.ref xp, .int (nI pn), .ref xj, .int (nI n), .ref xn, .ref xk, .ref xu, .int hi, .int (nI lr), .int (nI bd), .ref xm, .ref xw])), (xj, .inl (cJ, 6, .inr (.inr (.inr (.inr jr))))), (xn, .inr (1, [.int (nI yr), .int ea, .int lo, .int jo, .int (nI tn), .ref ns, .ref ne, .ref n7, .ref n8])), (ns, .inl (cI, 6, .inl sp)), (ne, .inl (cI, 6, .inl en)), (n7, .inl (cI, 6, .inl tY)), (n8, .inl (cI, 6, .inl tW))] _) hJ (fun i a h1 h2 => jap (hJ.lt h1 h2) (fun h => hap i a h1 h2 (jmem [0, 2, 3, 4, 5, 6, 7] rfl h))) hkq
      refine lv_aload_n hx hb dL_law_298 rfl (lv_at hl 3 rfl) ?_
      refine lv_aload_n hx hb dL_law_299 rfl (lv_at hl 1 rfl) ?_
      refine lv_iload_n hx hb dL_law_300 rfl (lv_at hl 0 rfl) ?_
      refine lv_iconst (v := 1) hx hb dL_law_301 (by decide) ?_
      refine lv_iadd hx hb dL_law_302 ?_
      refine jv_as (y := nI ((4 * c9) + 1)) (nI_add (4 * c9) 1) ?_
      refine jv_sld hx hb hX hbl hbA hS (k := (4 * c9) + 1) (by omega) hL (v := nI j) e1 dL_law_303 ?_
      have hPc_19 := hP.sub (ws' := [(z, .inr (7, [.ref zp, .int (nI pn), .int (nI n), .int (nI yr), .int jo, .int ea, .int lo, .int (nI lr), .ref zr, .int (nI bd), .ref zb, .ref zc, .int (nI tn), .ref zt, .int sd, .ref zv, .int kl, .int mky, .int mkj, .int mke, .int mkk, .int mkt, .ref zkr, .ref zkt, .long hh])), (zr, .inl (cI, 30, .inl Rw))]) [20, 22] rfl
      refine jcalli (va_runV (As := [.int (nI j)]) (rest := [.int r_18]) ⟨hx, hb, hml, hown, hts⟩ (c_meat_none l D cI cJ z zr n (.ref zp) (.int (nI pn)) (.int (nI yr)) (.int jo) (.int ea) (.int lo) (.int (nI lr)) (.int (nI bd)) (.ref zb) (.ref zc) (.int (nI tn)) (.ref zt) (.int sd) (.ref zv) (.int kl) (.int mky) (.int mkj) (.int mke) (.int mkk) (.int mkt) (.ref zkr) (.ref zkt) (.long hh) Rw j hj hn6 (jpos_z (hBd j (by omega)).1 h0 e5) H.size) (cwV 1 hts gL_law_X7_eat rfl rfl rfl (by decide +kernel) ⟨Nat.le_of_ble_eq_true rfl, Nat.le_of_ble_eq_true rfl⟩) (jpreV hT (va_recv hK hP (ci := 7) (q0 := 20) rfl rfl) hPc_19) rfl rfl hl.1 rfl (lv_room (Nat.le_of_ble_eq_true rfl)) dL_law_304 ⟨(show cells + 0 ≤ 600000 by omega), (show slots + 0 ≤ 7302250 by omega)⟩) hS hA (fun r_20 H locs hw_r_20 hkq hS => ?_)
      try dsimp only at hw_r_20
      have hP := jkeep hP hkq
      have hJ := hJ.kept hkq
      subst hw_r_20
      refine lv_icmp_eq (tgt := 559) hx hb dL_law_307 (by decide) (fun c_21 => ?_) (fun c_21 => ?_)
      · skip
        refine W.widen (k := cells + 6) (n := slots + 18) (by omega) (by omega) ?_
        exact kk H locs (fun X9 k9 => k9 n pn tn bd lr yr pg jr jk jg js jm ea lo jo sp en tY tW hi ky kea klo kjo kta ksp ken ktY ktW uy uea ulo ujo uta usp uen utY utW M nw Rw T C Tt sd Sv kl mky mkj mke mkk mkt KR KT hh hP hD hJ hap hn6 hpn htn hbd hyr (by omega) hRw hSp hBd hTt hKp) hS
      · skip
        exact absurd (by rw [h1r]) c_21

set_option maxHeartbeats 8000000 in
set_option maxRecDepth 100000 in
theorem law_wasps (l : Launch) (hC : jCx p s m c b L xs D cI cJ A) (hc9 : 4 * c9 + 4 ≤ L) (hcl : cells + 6 ≤ 600000) (hsl : slots + 18 ≤ 7302250) (hS : va_S A s.heap H locs) (hl : lv_has ls 4 [(3, .int (nI (4 * c9))), (0, .ref b), (1, .ref x), (2, .ref z)]) (hI : jAll D cI cJ A x xp xj xn ns ne n7 n8 xk k5 k6 k7 k8 xu w5 w6 w7 w8 xm xw z zp zr zb zc zt zv zkr zkt c9 H)
    (kk : ∀ (H' : Heap) (locs' : List Loc), jAll D cI cJ A x xp xj xn ns ne n7 n8 xk k5 k6 k7 k8 xu w5 w6 w7 w8 xm xw z zp zr zb zc zt zv zkr zkt (c9 + 1) H' → va_S A s.heap H' locs' → W p l e room_1 s m #[Value.ref b] below meth c H' locs' (cells + 6) (slots + 18) Q (F0 m 559 ls [])) : W p l e room_1 s m #[Value.ref b] below meth c H locs cells slots Q (F0 m 312 ls []) := by
  obtain ⟨hx, hb, hml, hown, htT, hX, hbl, hT, hA, hbA, hL⟩ := hC
  have hK := hT.1
  have hts : ∀ w ∈ wsL_law, w.before #[Value.ref b] s = true := fun w h => htT w (wsL_law_in w h)
  refine hI _ (fun n pn tn bd lr yr pg jr jk jg js jm ea lo jo sp en tY tW hi ky kea klo kjo kta ksp ken ktY ktW uy uea ulo ujo uta usp uen utY utW M nw Rw T C Tt sd Sv kl mky mkj mke mkk mkt KR KT hh hP hD hJ hap hn6 hpn htn hbd hyr hlr hRw hSp hBd hTt hKp => ?_)
  obtain ⟨p1, e1⟩ : ∃ v : Int32, v = xs (4 * c9 + 1) := ⟨_, rfl⟩
  obtain ⟨p2, e2⟩ : ∃ v : Int32, v = xs (4 * c9 + 2) := ⟨_, rfl⟩
  obtain ⟨p3, e3⟩ : ∃ v : Int32, v = xs (4 * c9 + 3) := ⟨_, rfl⟩
  rcases jix p1 (n := n) (by omega) with hq | ⟨j, hj, rfl⟩
  · skip
    refine lv_aload_n hx hb dL_law_312 rfl (lv_at hl 2 rfl) ?_
    refine lv_aload_n hx hb dL_law_313 rfl (lv_at hl 1 rfl) ?_
    refine lv_iload_n hx hb dL_law_314 rfl (lv_at hl 0 rfl) ?_
    refine lv_iconst (v := 1) hx hb dL_law_315 (by decide) ?_
    refine lv_iadd hx hb dL_law_316 ?_
    refine jv_as (y := nI ((4 * c9) + 1)) (nI_add (4 * c9) 1) ?_
    refine jv_sld hx hb hX hbl hbA hS (k := (4 * c9) + 1) (by omega) hL (v := p1) e1 dL_law_317 ?_
    have hPc_1 := hP.sub (ws' := [(x, .inr (6, [.ref xp, .int (nI pn), .ref xj, .int (nI n), .ref xn, .ref xk, .ref xu, .int hi, .int (nI lr), .int (nI bd), .ref xm, .ref xw])), (xj, .inl (cJ, 6, .inr (.inr (.inr (.inr jr)))))]) [0, 2] rfl
    refine jcalli (va_runV (As := [.int p1]) (rest := []) ⟨hx, hb, hml, hown, hts⟩ (c_wasps_no l D cI cJ x xj n (.ref xp) (.int (nI pn)) (.ref xn) (.ref xk) (.ref xu) (.int hi) (.int (nI lr)) (.int (nI bd)) (.ref xm) (.ref xw) jr p1 hq H.size) (cwV 1 hts gL_law_X6_wasps rfl rfl rfl (by decide +kernel) ⟨Nat.le_of_ble_eq_true rfl, Nat.le_of_ble_eq_true rfl⟩) (jpreV hT (va_recv hK hP (ci := 6) (q0 := 0) rfl rfl) hPc_1) rfl rfl hl.1 rfl (lv_room (Nat.le_of_ble_eq_true rfl)) dL_law_318 ⟨(show cells + 0 ≤ 600000 by omega), (show slots + 0 ≤ 7302250 by omega)⟩) hS hA (fun r_2 H locs hw_r_2 hkq hS => ?_)
    try dsimp only at hw_r_2
    have hP := jkeep hP hkq
    have hJ := hJ.kept hkq
    subst hw_r_2
    refine lv_aload_n hx hb dL_law_321 rfl (lv_at hl 3 rfl) ?_
    refine lv_aload_n hx hb dL_law_322 rfl (lv_at hl 1 rfl) ?_
    refine lv_iload_n hx hb dL_law_323 rfl (lv_at hl 0 rfl) ?_
    refine lv_iconst (v := 1) hx hb dL_law_324 (by decide) ?_
    refine lv_iadd hx hb dL_law_325 ?_
    refine jv_as (y := nI ((4 * c9) + 1)) (nI_add (4 * c9) 1) ?_
    refine jv_sld hx hb hX hbl hbA hS (k := (4 * c9) + 1) (by omega) hL (v := p1) e1 dL_law_326 ?_
    have hPc_3 := hP.sub (ws' := [(z, .inr (7, [.ref zp, .int (nI pn), .int (nI n), .int (nI yr), .int jo, .int ea, .int lo, .int (nI lr), .ref zr, .int (nI bd), .ref zb, .ref zc, .int (nI tn), .ref zt, .int sd, .ref zv, .int kl, .int mky, .int mkj, .int mke, .int mkk, .int mkt, .ref zkr, .ref zkt, .long hh]))]) [20] rfl
    refine jcalli (va_runV (As := [.int p1]) (rest := [.int (-101)]) ⟨hx, hb, hml, hown, hts⟩ (c_mwasps_no l D cI cJ z n (.ref zp) (.int (nI pn)) (.int (nI yr)) (.int jo) (.int ea) (.int lo) (.int (nI lr)) (.ref zr) (.int (nI bd)) (.ref zb) (.ref zc) (.int (nI tn)) (.ref zt) (.int sd) (.ref zv) (.int kl) (.int mky) (.int mkj) (.int mke) (.int mkk) (.int mkt) (.ref zkr) (.ref zkt) (.long hh) p1 hq hn6 H.size) (cwV 1 hts gL_law_X7_wasps rfl rfl rfl (by decide +kernel) ⟨Nat.le_of_ble_eq_true rfl, Nat.le_of_ble_eq_true rfl⟩) (jpreV hT (va_recv hK hP (ci := 7) (q0 := 20) rfl rfl) hPc_3) rfl rfl hl.1 rfl (lv_room (Nat.le_of_ble_eq_true rfl)) dL_law_327 ⟨(show cells + 0 ≤ 600000 by omega), (show slots + 0 ≤ 7302250 by omega)⟩) hS hA (fun r_4 H locs hw_r_4 hkq hS => ?_)
    try dsimp only at hw_r_4
    have hP := jkeep hP hkq
    have hJ := hJ.kept hkq
    subst hw_r_4
    refine lv_icmp_eq (tgt := 559) hx hb dL_law_330 (by decide) (fun c_5 => ?_) (fun c_5 => ?_)
    · skip
      refine W.widen (k := cells + 6) (n := slots + 18) (by omega) (by omega) ?_
      exact kk H locs (fun X9 k9 => k9 n pn tn bd lr yr pg jr jk jg js jm ea lo jo sp en tY tW hi ky kea klo kjo kta ksp ken ktY ktW uy uea ulo ujo uta usp uen utY utW M nw Rw T C Tt sd Sv kl mky mkj mke mkk mkt KR KT hh hP hD hJ hap hn6 hpn htn hbd hyr (by omega) hRw hSp hBd hTt hKp) hS
    · skip
      exact absurd c_5 (by decide)
  · skip
    obtain ⟨e5, e6⟩ := hSp.1 j hj
    by_cases h0 : 0 < sp j
    · skip
      refine lv_aload_n hx hb dL_law_312 rfl (lv_at hl 2 rfl) ?_
      refine lv_aload_n hx hb dL_law_313 rfl (lv_at hl 1 rfl) ?_
      refine lv_iload_n hx hb dL_law_314 rfl (lv_at hl 0 rfl) ?_
      refine lv_iconst (v := 1) hx hb dL_law_315 (by decide) ?_
      refine lv_iadd hx hb dL_law_316 ?_
      refine jv_as (y := nI ((4 * c9) + 1)) (nI_add (4 * c9) 1) ?_
      refine jv_sld hx hb hX hbl hbA hS (k := (4 * c9) + 1) (by omega) hL (v := nI j) e1 dL_law_317 ?_
      have hPc_6 := hP.sub (ws' := [(x, .inr (6, [.ref xp, .int (nI pn), .ref xj, .int (nI n), .ref xn, .ref xk, .ref xu, .int hi, .int (nI lr), .int (nI bd), .ref xm, .ref xw])), (xj, .inl (cJ, 6, .inr (.inr (.inr (.inr jr))))), (xn, .inr (1, [.int (nI yr), .int ea, .int lo, .int jo, .int (nI tn), .ref ns, .ref ne, .ref n7, .ref n8])), (ns, .inl (cI, 6, .inl sp)), (ne, .inl (cI, 6, .inl en)), (n7, .inl (cI, 6, .inl tY)), (n8, .inl (cI, 6, .inl tW))]) [0, 2, 3, 4, 5, 6, 7] rfl
      have hDc_7 := hD.sub (ws' := [(x, .inr (6, [.ref xp, .int (nI pn), .ref xj, .int (nI n), .ref xn, .ref xk, .ref xu, .int hi, .int (nI lr), .int (nI bd), .ref xm, .ref xw])), (xj, .inl (cJ, 6, .inr (.inr (.inr (.inr jr))))), (xn, .inr (1, [.int (nI yr), .int ea, .int lo, .int jo, .int (nI tn), .ref ns, .ref ne, .ref n7, .ref n8])), (ns, .inl (cI, 6, .inl sp)), (ne, .inl (cI, 6, .inl en)), (n7, .inl (cI, 6, .inl tY)), (n8, .inl (cI, 6, .inl tW))]) [0, 2, 3, 4, 5, 6, 7] (by decide) rfl
      have hFc_8 := va_free (wc := [(x, .inr (6, [.ref xp, .int (nI pn), .ref xj, .int (nI n), .ref xn, .ref xk, .ref xu, .int hi, .int (nI lr), .int (nI bd), .ref xm, .ref xw])), (xj, .inl (cJ, 6, .inr (.inr (.inr (.inr jr))))), (xn, .inr (1, [.int (nI yr), .int ea, .int lo, .int jo, .int (nI tn), .ref ns, .ref ne, .ref n7, .ref n8])), (ns, .inl (cI, 6, .inl sp)), (ne, .inl (cI, 6, .inl en)), (n7, .inl (cI, 6, .inl tY)), (n8, .inl (cI, 6, .inl tW))]) hD hS hA [0, 2, 3, 4, 5, 6, 7] rfl
      refine jcallWi (post := fun r H => r = sp j - 1 ∧ va_P D vwCl [(x, .inr (6, [(.ref xp), (.int (nI pn)), .ref xj, .int (nI n), .ref xn, (.ref xk), (.ref xu), (.int hi), (.int (nI lr)), (.int (nI bd)), (.ref xm), (.ref xw)])), (xj, .inl (cJ, 6, .inr (.inr (.inr (.inr jr))))), (xn, .inr (1, [.int (nI yr), .int ea, .int (lo + 1), .int jo, .int (nI tn), .ref ns, .ref ne, .ref n7, .ref n8])), (ns, .inl (cI, 6, .inl (upd sp j (sp j - 1)))), (ne, .inl (cI, 6, .inl en)), (n7, .inl (cI, 6, .inl tY)), (n8, .inl (cI, 6, .inl tW))] H) (va_runV (As := [.int (nI j)]) (rest := []) ⟨hx, hb, hml, hown, hts⟩ (c_wasps_ok l D cI cJ x xj xn ns ne n7 n8 n (.ref xp) (.int (nI pn)) (.ref xk) (.ref xu) (.int hi) (.int (nI lr)) (.int (nI bd)) (.ref xm) (.ref xw) jr jk jg js jm (nI yr) ea lo jo (nI tn) sp en tY tW j hj hn6 h0 H.size) (cwV 1 hts gL_law_X6_wasps rfl rfl rfl (by decide +kernel) ⟨Nat.le_of_ble_eq_true rfl, Nat.le_of_ble_eq_true rfl⟩) (jpreV hT (va_recv hK hP (ci := 6) (q0 := 0) rfl rfl) ⟨hPc_6, hDc_7.weaken (fun _ _ _ _ => trivial), hJ⟩) rfl rfl hl.1 rfl (lv_room (Nat.le_of_ble_eq_true rfl)) dL_law_318 ⟨(show cells + 0 ≤ 600000 by omega), (show slots + 0 ≤ 7302250 by omega)⟩) hS hFc_8 (fun r_9 H locs hw_r_9 hz hkq hS => ?_)
      obtain ⟨h1r, hP1⟩ := hw_r_9
      obtain ⟨hP, hD⟩ := jjoin (wc := [(x, .inr (6, [.ref xp, .int (nI pn), .ref xj, .int (nI n), .ref xn, .ref xk, .ref xu, .int hi, .int (nI lr), .int (nI bd), .ref xm, .ref xw])), (xj, .inl (cJ, 6, .inr (.inr (.inr (.inr jr))))), (xn, .inr (1, [.int (nI yr), .int ea, .int lo, .int jo, .int (nI tn), .ref ns, .ref ne, .ref n7, .ref n8])), (ns, .inl (cI, 6, .inl sp)), (ne, .inl (cI, 6, .inl en)), (n7, .inl (cI, 6, .inl tY)), (n8, .inl (cI, 6, .inl tW))]) (wr := [(xp, .inl (cI, 25, .inl pg)), (xk, .inr (1, [.int ky, .int kea, .int klo, .int kjo, .int kta, .ref k5, .ref k6, .ref k7, .ref k8])), (k5, .inl (cI, 6, .inl ksp)), (k6, .inl (cI, 6, .inl ken)), (k7, .inl (cI, 6, .inl ktY)), (k8, .inl (cI, 6, .inl ktW)), (xu, .inr (1, [.int uy, .int uea, .int ulo, .int ujo, .int uta, .ref w5, .ref w6, .ref w7, .ref w8])), (w5, .inl (cI, 6, .inl usp)), (w6, .inl (cI, 6, .inl uen)), (w7, .inl (cI, 6, .inl utY)), (w8, .inl (cI, 6, .inl utW)), (xm, .inl (cI, 91, .inl M)), (xw, .inl (cI, 6, .inl nw)), (z, .inr (7, [.ref zp, .int (nI pn), .int (nI n), .int (nI yr), .int jo, .int ea, .int lo, .int (nI lr), .ref zr, .int (nI bd), .ref zb, .ref zc, .int (nI tn), .ref zt, .int sd, .ref zv, .int kl, .int mky, .int mkj, .int mke, .int mkk, .int mkt, .ref zkr, .ref zkt, .long hh])), (zp, .inl (cI, 25, .inl pg)), (zr, .inl (cI, 30, .inl Rw)), (zb, .inl (cI, 91, .inl T)), (zc, .inl (cI, 6, .inl C)), (zt, .inl (cI, 12, .inl Tt)), (zv, .inl (cI, 30, .inl Sv)), (zkr, .inl (cI, 30, .inl KR)), (zkt, .inl (cI, 12, .inl KT))]) (w1 := [(x, .inr (6, [.ref xp, .int (nI pn), .ref xj, .int (nI n), .ref xn, .ref xk, .ref xu, .int hi, .int (nI lr), .int (nI bd), .ref xm, .ref xw])), (xj, .inl (cJ, 6, .inr (.inr (.inr (.inr jr))))), (xn, .inr (1, [.int (nI yr), .int ea, .int (lo + 1), .int jo, .int (nI tn), .ref ns, .ref ne, .ref n7, .ref n8])), (ns, .inl (cI, 6, .inl (upd sp j (sp j - 1)))), (ne, .inl (cI, 6, .inl en)), (n7, .inl (cI, 6, .inl tY)), (n8, .inl (cI, 6, .inl tW))]) (ws' := [(x, .inr (6, [.ref xp, .int (nI pn), .ref xj, .int (nI n), .ref xn, .ref xk, .ref xu, .int hi, .int (nI lr), .int (nI bd), .ref xm, .ref xw])), (xp, .inl (cI, 25, .inl pg)), (xj, .inl (cJ, 6, .inr (.inr (.inr (.inr jr))))), (xn, .inr (1, [.int (nI yr), .int ea, .int (lo + 1), .int jo, .int (nI tn), .ref ns, .ref ne, .ref n7, .ref n8])), (ns, .inl (cI, 6, .inl (upd sp j (sp j - 1)))), (ne, .inl (cI, 6, .inl en)), (n7, .inl (cI, 6, .inl tY)), (n8, .inl (cI, 6, .inl tW)), (xk, .inr (1, [.int ky, .int kea, .int klo, .int kjo, .int kta, .ref k5, .ref k6, .ref k7, .ref k8])), (k5, .inl (cI, 6, .inl ksp)), (k6, .inl (cI, 6, .inl ken)), (k7, .inl (cI, 6, .inl ktY)), (k8, .inl (cI, 6, .inl ktW)), (xu, .inr (1, [.int uy, .int uea, .int ulo, .int ujo, .int uta, .ref w5, .ref w6, .ref w7, .ref w8])), (w5, .inl (cI, 6, .inl usp)), (w6, .inl (cI, 6, .inl uen)), (w7, .inl (cI, 6, .inl utY)), (w8, .inl (cI, 6, .inl utW)), (xm, .inl (cI, 91, .inl M)), (xw, .inl (cI, 6, .inl nw)), (z, .inr (7, [.ref zp, .int (nI pn), .int (nI n), .int (nI yr), .int jo, .int ea, .int lo, .int (nI lr), .ref zr, .int (nI bd), .ref zb, .ref zc, .int (nI tn), .ref zt, .int sd, .ref zv, .int kl, .int mky, .int mkj, .int mke, .int mkk, .int mkt, .ref zkr, .ref zkt, .long hh])), (zp, .inl (cI, 25, .inl pg)), (zr, .inl (cI, 30, .inl Rw)), (zb, .inl (cI, 91, .inl T)), (zc, .inl (cI, 6, .inl C)), (zt, .inl (cI, 12, .inl Tt)), (zv, .inl (cI, 30, .inl Sv)), (zkr, .inl (cI, 30, .inl KR)), (zkt, .inl (cI, 12, .inl KT))]) hP hD hFc_8 [0, 2, 3, 4, 5, 6, 7] [1, 8, 9, 10, 11, 12, 13, 14, 15, 16, 17, 18, 19, 20, 21, 22, 23, 24, 25, 26, 27, 28] [22, 0, 23, 24, 25, 26, 27, 28, 1, 2, 3, 4, 5, 6, 7, 8, 9, 10, 11, 12, 13, 14, 15, 16, 17, 18, 19, 20, 21] rfl rfl (by decide) (by decide) (by decide) (by decide) hkq hP1 rfl rfl rfl
      have hJ := jJ.keptA (A := va_A [(x, .inr (6, [.ref xp, .int (nI pn), .ref xj, .int (nI n), .ref xn, .ref xk, .ref xu, .int hi, .int (nI lr), .int (nI bd), .ref xm, .ref xw])), (xj, .inl (cJ, 6, .inr (.inr (.inr (.inr jr))))), (xn, .inr (1, [.int (nI yr), .int ea, .int lo, .int jo, .int (nI tn), .ref ns, .ref ne, .ref n7, .ref n8])), (ns, .inl (cI, 6, .inl sp)), (ne, .inl (cI, 6, .inl en)), (n7, .inl (cI, 6, .inl tY)), (n8, .inl (cI, 6, .inl tW))] _) hJ (fun i a h1 h2 => jap (hJ.lt h1 h2) (fun h => hap i a h1 h2 (jmem [0, 2, 3, 4, 5, 6, 7] rfl h))) hkq
      refine lv_aload_n hx hb dL_law_321 rfl (lv_at hl 3 rfl) ?_
      refine lv_aload_n hx hb dL_law_322 rfl (lv_at hl 1 rfl) ?_
      refine lv_iload_n hx hb dL_law_323 rfl (lv_at hl 0 rfl) ?_
      refine lv_iconst (v := 1) hx hb dL_law_324 (by decide) ?_
      refine lv_iadd hx hb dL_law_325 ?_
      refine jv_as (y := nI ((4 * c9) + 1)) (nI_add (4 * c9) 1) ?_
      refine jv_sld hx hb hX hbl hbA hS (k := (4 * c9) + 1) (by omega) hL (v := nI j) e1 dL_law_326 ?_
      have hPc_10 := hP.sub (ws' := [(z, .inr (7, [.ref zp, .int (nI pn), .int (nI n), .int (nI yr), .int jo, .int ea, .int lo, .int (nI lr), .ref zr, .int (nI bd), .ref zb, .ref zc, .int (nI tn), .ref zt, .int sd, .ref zv, .int kl, .int mky, .int mkj, .int mke, .int mkk, .int mkt, .ref zkr, .ref zkt, .long hh])), (zr, .inl (cI, 30, .inl Rw))]) [20, 22] rfl
      have hDc_11 := hD.sub (ws' := [(z, .inr (7, [.ref zp, .int (nI pn), .int (nI n), .int (nI yr), .int jo, .int ea, .int lo, .int (nI lr), .ref zr, .int (nI bd), .ref zb, .ref zc, .int (nI tn), .ref zt, .int sd, .ref zv, .int kl, .int mky, .int mkj, .int mke, .int mkk, .int mkt, .ref zkr, .ref zkt, .long hh])), (zr, .inl (cI, 30, .inl Rw))]) [20, 22] (by decide) rfl
      have hFc_12 := va_free (wc := [(z, .inr (7, [.ref zp, .int (nI pn), .int (nI n), .int (nI yr), .int jo, .int ea, .int lo, .int (nI lr), .ref zr, .int (nI bd), .ref zb, .ref zc, .int (nI tn), .ref zt, .int sd, .ref zv, .int kl, .int mky, .int mkj, .int mke, .int mkk, .int mkt, .ref zkr, .ref zkt, .long hh])), (zr, .inl (cI, 30, .inl Rw))]) hD hS hA [20, 22] rfl
      refine jcallWi (post := fun r H => r = Rw (5 * j + 3) - 1 ∧ va_P D vwCl [(z, .inr (7, [(.ref zp), (.int (nI pn)), .int (nI n), (.int (nI yr)), (.int jo), (.int ea), .int (lo + 1), (.int (nI lr)), .ref zr, (.int (nI bd)), (.ref zb), (.ref zc), (.int (nI tn)), (.ref zt), (.int sd), (.ref zv), (.int kl), (.int mky), (.int mkj), (.int mke), (.int mkk), (.int mkt), (.ref zkr), (.ref zkt), (.long hh)])), (zr, .inl (cI, 30, .inl (upd Rw (5 * j + 3) (Rw (5 * j + 3) - 1))))] H) (va_runV (As := [.int (nI j)]) (rest := [.int r_9]) ⟨hx, hb, hml, hown, hts⟩ (c_mwasps_ok l D cI cJ z zr n (.ref zp) (.int (nI pn)) (.int (nI yr)) (.int jo) (.int ea) (.int (nI lr)) (.int (nI bd)) (.ref zb) (.ref zc) (.int (nI tn)) (.ref zt) (.int sd) (.ref zv) (.int kl) (.int mky) (.int mkj) (.int mke) (.int mkk) (.int mkt) (.ref zkr) (.ref zkt) (.long hh) Rw lo j hj hn6 (jpos_ne h0 e5) H.size) (cwV 1 hts gL_law_X7_wasps rfl rfl rfl (by decide +kernel) ⟨Nat.le_of_ble_eq_true rfl, Nat.le_of_ble_eq_true rfl⟩) (jpreV hT (va_recv hK hP (ci := 7) (q0 := 20) rfl rfl) ⟨hPc_10, hDc_11.weaken (fun _ _ _ _ => trivial), trivial⟩) rfl rfl hl.1 rfl (lv_room (Nat.le_of_ble_eq_true rfl)) dL_law_327 ⟨(show cells + 0 ≤ 600000 by omega), (show slots + 0 ≤ 7302250 by omega)⟩) hS hFc_12 (fun r_13 H locs hw_r_13 hz hkq hS => ?_)
      obtain ⟨h2r, hP1⟩ := hw_r_13
      obtain ⟨hP, hD⟩ := jjoin (wc := [(z, .inr (7, [.ref zp, .int (nI pn), .int (nI n), .int (nI yr), .int jo, .int ea, .int lo, .int (nI lr), .ref zr, .int (nI bd), .ref zb, .ref zc, .int (nI tn), .ref zt, .int sd, .ref zv, .int kl, .int mky, .int mkj, .int mke, .int mkk, .int mkt, .ref zkr, .ref zkt, .long hh])), (zr, .inl (cI, 30, .inl Rw))]) (wr := [(x, .inr (6, [.ref xp, .int (nI pn), .ref xj, .int (nI n), .ref xn, .ref xk, .ref xu, .int hi, .int (nI lr), .int (nI bd), .ref xm, .ref xw])), (xp, .inl (cI, 25, .inl pg)), (xj, .inl (cJ, 6, .inr (.inr (.inr (.inr jr))))), (xn, .inr (1, [.int (nI yr), .int ea, .int (lo + 1), .int jo, .int (nI tn), .ref ns, .ref ne, .ref n7, .ref n8])), (ns, .inl (cI, 6, .inl (upd sp j (sp j - 1)))), (ne, .inl (cI, 6, .inl en)), (n7, .inl (cI, 6, .inl tY)), (n8, .inl (cI, 6, .inl tW)), (xk, .inr (1, [.int ky, .int kea, .int klo, .int kjo, .int kta, .ref k5, .ref k6, .ref k7, .ref k8])), (k5, .inl (cI, 6, .inl ksp)), (k6, .inl (cI, 6, .inl ken)), (k7, .inl (cI, 6, .inl ktY)), (k8, .inl (cI, 6, .inl ktW)), (xu, .inr (1, [.int uy, .int uea, .int ulo, .int ujo, .int uta, .ref w5, .ref w6, .ref w7, .ref w8])), (w5, .inl (cI, 6, .inl usp)), (w6, .inl (cI, 6, .inl uen)), (w7, .inl (cI, 6, .inl utY)), (w8, .inl (cI, 6, .inl utW)), (xm, .inl (cI, 91, .inl M)), (xw, .inl (cI, 6, .inl nw)), (zp, .inl (cI, 25, .inl pg)), (zb, .inl (cI, 91, .inl T)), (zc, .inl (cI, 6, .inl C)), (zt, .inl (cI, 12, .inl Tt)), (zv, .inl (cI, 30, .inl Sv)), (zkr, .inl (cI, 30, .inl KR)), (zkt, .inl (cI, 12, .inl KT))]) (w1 := [(z, .inr (7, [.ref zp, .int (nI pn), .int (nI n), .int (nI yr), .int jo, .int ea, .int (lo + 1), .int (nI lr), .ref zr, .int (nI bd), .ref zb, .ref zc, .int (nI tn), .ref zt, .int sd, .ref zv, .int kl, .int mky, .int mkj, .int mke, .int mkk, .int mkt, .ref zkr, .ref zkt, .long hh])), (zr, .inl (cI, 30, .inl (upd Rw (5 * j + 3) (Rw (5 * j + 3) - 1))))]) (ws' := [(x, .inr (6, [.ref xp, .int (nI pn), .ref xj, .int (nI n), .ref xn, .ref xk, .ref xu, .int hi, .int (nI lr), .int (nI bd), .ref xm, .ref xw])), (xp, .inl (cI, 25, .inl pg)), (xj, .inl (cJ, 6, .inr (.inr (.inr (.inr jr))))), (xn, .inr (1, [.int (nI yr), .int ea, .int (lo + 1), .int jo, .int (nI tn), .ref ns, .ref ne, .ref n7, .ref n8])), (ns, .inl (cI, 6, .inl (upd sp j (sp j - 1)))), (ne, .inl (cI, 6, .inl en)), (n7, .inl (cI, 6, .inl tY)), (n8, .inl (cI, 6, .inl tW)), (xk, .inr (1, [.int ky, .int kea, .int klo, .int kjo, .int kta, .ref k5, .ref k6, .ref k7, .ref k8])), (k5, .inl (cI, 6, .inl ksp)), (k6, .inl (cI, 6, .inl ken)), (k7, .inl (cI, 6, .inl ktY)), (k8, .inl (cI, 6, .inl ktW)), (xu, .inr (1, [.int uy, .int uea, .int ulo, .int ujo, .int uta, .ref w5, .ref w6, .ref w7, .ref w8])), (w5, .inl (cI, 6, .inl usp)), (w6, .inl (cI, 6, .inl uen)), (w7, .inl (cI, 6, .inl utY)), (w8, .inl (cI, 6, .inl utW)), (xm, .inl (cI, 91, .inl M)), (xw, .inl (cI, 6, .inl nw)), (z, .inr (7, [.ref zp, .int (nI pn), .int (nI n), .int (nI yr), .int jo, .int ea, .int (lo + 1), .int (nI lr), .ref zr, .int (nI bd), .ref zb, .ref zc, .int (nI tn), .ref zt, .int sd, .ref zv, .int kl, .int mky, .int mkj, .int mke, .int mkk, .int mkt, .ref zkr, .ref zkt, .long hh])), (zp, .inl (cI, 25, .inl pg)), (zr, .inl (cI, 30, .inl (upd Rw (5 * j + 3) (Rw (5 * j + 3) - 1)))), (zb, .inl (cI, 91, .inl T)), (zc, .inl (cI, 6, .inl C)), (zt, .inl (cI, 12, .inl Tt)), (zv, .inl (cI, 30, .inl Sv)), (zkr, .inl (cI, 30, .inl KR)), (zkt, .inl (cI, 12, .inl KT))]) hP hD hFc_12 [20, 22] [0, 1, 2, 3, 4, 5, 6, 7, 8, 9, 10, 11, 12, 13, 14, 15, 16, 17, 18, 19, 21, 23, 24, 25, 26, 27, 28] [0, 1, 2, 3, 4, 5, 6, 7, 8, 9, 10, 11, 12, 13, 14, 15, 16, 17, 18, 19, 27, 20, 28, 21, 22, 23, 24, 25, 26] rfl rfl (by decide) (by decide) (by decide) (by decide) hkq hP1 rfl rfl rfl
      have hJ := jJ.keptA (A := va_A [(z, .inr (7, [.ref zp, .int (nI pn), .int (nI n), .int (nI yr), .int jo, .int ea, .int lo, .int (nI lr), .ref zr, .int (nI bd), .ref zb, .ref zc, .int (nI tn), .ref zt, .int sd, .ref zv, .int kl, .int mky, .int mkj, .int mke, .int mkk, .int mkt, .ref zkr, .ref zkt, .long hh])), (zr, .inl (cI, 30, .inl Rw))] _) hJ (fun i a h1 h2 => jap (hJ.lt h1 h2) (fun h => hap i a h1 h2 (jmem [20, 22] rfl h))) hkq
      refine lv_icmp_eq (tgt := 559) hx hb dL_law_330 (by decide) (fun c_14 => ?_) (fun c_14 => ?_)
      · skip
        rw [e5] at hP
        have hP : va_P D vwCl [(x, .inr (6, [.ref xp, .int (nI pn), .ref xj, .int (nI n), .ref xn, .ref xk, .ref xu, .int hi, .int (nI lr), .int (nI bd), .ref xm, .ref xw])), (xp, .inl (cI, 25, .inl pg)), (xj, .inl (cJ, 6, .inr (.inr (.inr (.inr jr))))), (xn, .inr (1, [.int (nI yr), .int ea, .int (lo + 1), .int jo, .int (nI tn), .ref ns, .ref ne, .ref n7, .ref n8])), (ns, .inl (cI, 6, .inl (upd sp j (sp j - 1)))), (ne, .inl (cI, 6, .inl en)), (n7, .inl (cI, 6, .inl tY)), (n8, .inl (cI, 6, .inl tW)), (xk, .inr (1, [.int ky, .int kea, .int klo, .int kjo, .int kta, .ref k5, .ref k6, .ref k7, .ref k8])), (k5, .inl (cI, 6, .inl ksp)), (k6, .inl (cI, 6, .inl ken)), (k7, .inl (cI, 6, .inl ktY)), (k8, .inl (cI, 6, .inl ktW)), (xu, .inr (1, [.int uy, .int uea, .int ulo, .int ujo, .int uta, .ref w5, .ref w6, .ref w7, .ref w8])), (w5, .inl (cI, 6, .inl usp)), (w6, .inl (cI, 6, .inl uen)), (w7, .inl (cI, 6, .inl utY)), (w8, .inl (cI, 6, .inl utW)), (xm, .inl (cI, 91, .inl M)), (xw, .inl (cI, 6, .inl nw)), (z, .inr (7, [.ref zp, .int (nI pn), .int (nI n), .int (nI yr), .int jo, .int ea, .int (lo + 1), .int (nI lr), .ref zr, .int (nI bd), .ref zb, .ref zc, .int (nI tn), .ref zt, .int sd, .ref zv, .int kl, .int mky, .int mkj, .int mke, .int mkk, .int mkt, .ref zkr, .ref zkt, .long hh])), (zp, .inl (cI, 25, .inl pg)), (zr, .inl (cI, 30, .inl (upd Rw (5 * j + 3) (sp j - 1)))), (zb, .inl (cI, 91, .inl T)), (zc, .inl (cI, 6, .inl C)), (zt, .inl (cI, 12, .inl Tt)), (zv, .inl (cI, 30, .inl Sv)), (zkr, .inl (cI, 30, .inl KR)), (zkt, .inl (cI, 12, .inl KT))] H := hP
        have hD : va_D A [(x, .inr (6, [.ref xp, .int (nI pn), .ref xj, .int (nI n), .ref xn, .ref xk, .ref xu, .int hi, .int (nI lr), .int (nI bd), .ref xm, .ref xw])), (xp, .inl (cI, 25, .inl pg)), (xj, .inl (cJ, 6, .inr (.inr (.inr (.inr jr))))), (xn, .inr (1, [.int (nI yr), .int ea, .int (lo + 1), .int jo, .int (nI tn), .ref ns, .ref ne, .ref n7, .ref n8])), (ns, .inl (cI, 6, .inl (upd sp j (sp j - 1)))), (ne, .inl (cI, 6, .inl en)), (n7, .inl (cI, 6, .inl tY)), (n8, .inl (cI, 6, .inl tW)), (xk, .inr (1, [.int ky, .int kea, .int klo, .int kjo, .int kta, .ref k5, .ref k6, .ref k7, .ref k8])), (k5, .inl (cI, 6, .inl ksp)), (k6, .inl (cI, 6, .inl ken)), (k7, .inl (cI, 6, .inl ktY)), (k8, .inl (cI, 6, .inl ktW)), (xu, .inr (1, [.int uy, .int uea, .int ulo, .int ujo, .int uta, .ref w5, .ref w6, .ref w7, .ref w8])), (w5, .inl (cI, 6, .inl usp)), (w6, .inl (cI, 6, .inl uen)), (w7, .inl (cI, 6, .inl utY)), (w8, .inl (cI, 6, .inl utW)), (xm, .inl (cI, 91, .inl M)), (xw, .inl (cI, 6, .inl nw)), (z, .inr (7, [.ref zp, .int (nI pn), .int (nI n), .int (nI yr), .int jo, .int ea, .int (lo + 1), .int (nI lr), .ref zr, .int (nI bd), .ref zb, .ref zc, .int (nI tn), .ref zt, .int sd, .ref zv, .int kl, .int mky, .int mkj, .int mke, .int mkk, .int mkt, .ref zkr, .ref zkt, .long hh])), (zp, .inl (cI, 25, .inl pg)), (zr, .inl (cI, 30, .inl (upd Rw (5 * j + 3) (sp j - 1)))), (zb, .inl (cI, 91, .inl T)), (zc, .inl (cI, 6, .inl C)), (zt, .inl (cI, 12, .inl Tt)), (zv, .inl (cI, 30, .inl Sv)), (zkr, .inl (cI, 30, .inl KR)), (zkt, .inl (cI, 12, .inl KT))] := jD_of hD rfl
        refine W.widen (k := cells + 6) (n := slots + 18) (by omega) (by omega) ?_
        exact kk H locs (fun X9 k9 => k9 n pn tn bd lr yr pg jr jk jg js jm ea (lo + 1) jo (upd sp j (sp j - 1)) en tY tW hi ky kea klo kjo kta ksp ken ktY ktW uy uea ulo ujo uta usp uen utY utW M nw (upd Rw (5 * j + 3) (sp j - 1)) T C Tt sd Sv kl mky mkj mke mkk mkt KR KT hh hP hD hJ hap hn6 hpn htn hbd hyr (by omega) (hRw.sm ((jSm.rf (n := n) (R := Rw)).up (by omega))) (hSp.take hj) (hBd.take h0) hTt (hKp.sm ((jSm.rf (n := n) (R := Rw)).up (by omega)))) hS
      · skip
        exact absurd (by rw [h1r, h2r, e5]) c_14
    · skip
      refine lv_aload_n hx hb dL_law_312 rfl (lv_at hl 2 rfl) ?_
      refine lv_aload_n hx hb dL_law_313 rfl (lv_at hl 1 rfl) ?_
      refine lv_iload_n hx hb dL_law_314 rfl (lv_at hl 0 rfl) ?_
      refine lv_iconst (v := 1) hx hb dL_law_315 (by decide) ?_
      refine lv_iadd hx hb dL_law_316 ?_
      refine jv_as (y := nI ((4 * c9) + 1)) (nI_add (4 * c9) 1) ?_
      refine jv_sld hx hb hX hbl hbA hS (k := (4 * c9) + 1) (by omega) hL (v := nI j) e1 dL_law_317 ?_
      have hPc_15 := hP.sub (ws' := [(x, .inr (6, [.ref xp, .int (nI pn), .ref xj, .int (nI n), .ref xn, .ref xk, .ref xu, .int hi, .int (nI lr), .int (nI bd), .ref xm, .ref xw])), (xj, .inl (cJ, 6, .inr (.inr (.inr (.inr jr))))), (xn, .inr (1, [.int (nI yr), .int ea, .int lo, .int jo, .int (nI tn), .ref ns, .ref ne, .ref n7, .ref n8])), (ns, .inl (cI, 6, .inl sp)), (ne, .inl (cI, 6, .inl en)), (n7, .inl (cI, 6, .inl tY)), (n8, .inl (cI, 6, .inl tW))]) [0, 2, 3, 4, 5, 6, 7] rfl
      have hDc_16 := hD.sub (ws' := [(x, .inr (6, [.ref xp, .int (nI pn), .ref xj, .int (nI n), .ref xn, .ref xk, .ref xu, .int hi, .int (nI lr), .int (nI bd), .ref xm, .ref xw])), (xj, .inl (cJ, 6, .inr (.inr (.inr (.inr jr))))), (xn, .inr (1, [.int (nI yr), .int ea, .int lo, .int jo, .int (nI tn), .ref ns, .ref ne, .ref n7, .ref n8])), (ns, .inl (cI, 6, .inl sp)), (ne, .inl (cI, 6, .inl en)), (n7, .inl (cI, 6, .inl tY)), (n8, .inl (cI, 6, .inl tW))]) [0, 2, 3, 4, 5, 6, 7] (by decide) rfl
      have hFc_17 := va_free (wc := [(x, .inr (6, [.ref xp, .int (nI pn), .ref xj, .int (nI n), .ref xn, .ref xk, .ref xu, .int hi, .int (nI lr), .int (nI bd), .ref xm, .ref xw])), (xj, .inl (cJ, 6, .inr (.inr (.inr (.inr jr))))), (xn, .inr (1, [.int (nI yr), .int ea, .int lo, .int jo, .int (nI tn), .ref ns, .ref ne, .ref n7, .ref n8])), (ns, .inl (cI, 6, .inl sp)), (ne, .inl (cI, 6, .inl en)), (n7, .inl (cI, 6, .inl tY)), (n8, .inl (cI, 6, .inl tW))]) hD hS hA [0, 2, 3, 4, 5, 6, 7] rfl
      refine jcallWi (post := fun r H => r = -103 ∧ va_P D vwCl [(x, .inr (6, [(.ref xp), (.int (nI pn)), .ref xj, .int (nI n), .ref xn, (.ref xk), (.ref xu), (.int hi), (.int (nI lr)), (.int (nI bd)), (.ref xm), (.ref xw)])), (xj, .inl (cJ, 6, .inr (.inr (.inr (.inr jr))))), (xn, .inr (1, [.int (nI yr), .int ea, .int lo, .int jo, .int (nI tn), .ref ns, .ref ne, .ref n7, .ref n8])), (ns, .inl (cI, 6, .inl sp)), (ne, .inl (cI, 6, .inl en)), (n7, .inl (cI, 6, .inl tY)), (n8, .inl (cI, 6, .inl tW))] H) (va_runV (As := [.int (nI j)]) (rest := []) ⟨hx, hb, hml, hown, hts⟩ (c_wasps_none l D cI cJ x xj xn ns ne n7 n8 n (.ref xp) (.int (nI pn)) (.ref xk) (.ref xu) (.int hi) (.int (nI lr)) (.int (nI bd)) (.ref xm) (.ref xw) jr jk jg js jm (nI yr) ea lo jo (nI tn) sp en tY tW j hj hn6 h0 H.size) (cwV 1 hts gL_law_X6_wasps rfl rfl rfl (by decide +kernel) ⟨Nat.le_of_ble_eq_true rfl, Nat.le_of_ble_eq_true rfl⟩) (jpreV hT (va_recv hK hP (ci := 6) (q0 := 0) rfl rfl) ⟨hPc_15, hDc_16.weaken (fun _ _ _ _ => trivial), hJ⟩) rfl rfl hl.1 rfl (lv_room (Nat.le_of_ble_eq_true rfl)) dL_law_318 ⟨(show cells + 0 ≤ 600000 by omega), (show slots + 0 ≤ 7302250 by omega)⟩) hS hFc_17 (fun r_18 H locs hw_r_18 hz hkq hS => ?_)
      obtain ⟨h1r, hP1⟩ := hw_r_18
      obtain ⟨hP, hD⟩ := jjoin (wc := [(x, .inr (6, [.ref xp, .int (nI pn), .ref xj, .int (nI n), .ref xn, .ref xk, .ref xu, .int hi, .int (nI lr), .int (nI bd), .ref xm, .ref xw])), (xj, .inl (cJ, 6, .inr (.inr (.inr (.inr jr))))), (xn, .inr (1, [.int (nI yr), .int ea, .int lo, .int jo, .int (nI tn), .ref ns, .ref ne, .ref n7, .ref n8])), (ns, .inl (cI, 6, .inl sp)), (ne, .inl (cI, 6, .inl en)), (n7, .inl (cI, 6, .inl tY)), (n8, .inl (cI, 6, .inl tW))]) (wr := [(xp, .inl (cI, 25, .inl pg)), (xk, .inr (1, [.int ky, .int kea, .int klo, .int kjo, .int kta, .ref k5, .ref k6, .ref k7, .ref k8])), (k5, .inl (cI, 6, .inl ksp)), (k6, .inl (cI, 6, .inl ken)), (k7, .inl (cI, 6, .inl ktY)), (k8, .inl (cI, 6, .inl ktW)), (xu, .inr (1, [.int uy, .int uea, .int ulo, .int ujo, .int uta, .ref w5, .ref w6, .ref w7, .ref w8])), (w5, .inl (cI, 6, .inl usp)), (w6, .inl (cI, 6, .inl uen)), (w7, .inl (cI, 6, .inl utY)), (w8, .inl (cI, 6, .inl utW)), (xm, .inl (cI, 91, .inl M)), (xw, .inl (cI, 6, .inl nw)), (z, .inr (7, [.ref zp, .int (nI pn), .int (nI n), .int (nI yr), .int jo, .int ea, .int lo, .int (nI lr), .ref zr, .int (nI bd), .ref zb, .ref zc, .int (nI tn), .ref zt, .int sd, .ref zv, .int kl, .int mky, .int mkj, .int mke, .int mkk, .int mkt, .ref zkr, .ref zkt, .long hh])), (zp, .inl (cI, 25, .inl pg)), (zr, .inl (cI, 30, .inl Rw)), (zb, .inl (cI, 91, .inl T)), (zc, .inl (cI, 6, .inl C)), (zt, .inl (cI, 12, .inl Tt)), (zv, .inl (cI, 30, .inl Sv)), (zkr, .inl (cI, 30, .inl KR)), (zkt, .inl (cI, 12, .inl KT))]) (w1 := [(x, .inr (6, [.ref xp, .int (nI pn), .ref xj, .int (nI n), .ref xn, .ref xk, .ref xu, .int hi, .int (nI lr), .int (nI bd), .ref xm, .ref xw])), (xj, .inl (cJ, 6, .inr (.inr (.inr (.inr jr))))), (xn, .inr (1, [.int (nI yr), .int ea, .int lo, .int jo, .int (nI tn), .ref ns, .ref ne, .ref n7, .ref n8])), (ns, .inl (cI, 6, .inl sp)), (ne, .inl (cI, 6, .inl en)), (n7, .inl (cI, 6, .inl tY)), (n8, .inl (cI, 6, .inl tW))]) (ws' := [(x, .inr (6, [.ref xp, .int (nI pn), .ref xj, .int (nI n), .ref xn, .ref xk, .ref xu, .int hi, .int (nI lr), .int (nI bd), .ref xm, .ref xw])), (xp, .inl (cI, 25, .inl pg)), (xj, .inl (cJ, 6, .inr (.inr (.inr (.inr jr))))), (xn, .inr (1, [.int (nI yr), .int ea, .int lo, .int jo, .int (nI tn), .ref ns, .ref ne, .ref n7, .ref n8])), (ns, .inl (cI, 6, .inl sp)), (ne, .inl (cI, 6, .inl en)), (n7, .inl (cI, 6, .inl tY)), (n8, .inl (cI, 6, .inl tW)), (xk, .inr (1, [.int ky, .int kea, .int klo, .int kjo, .int kta, .ref k5, .ref k6, .ref k7, .ref k8])), (k5, .inl (cI, 6, .inl ksp)), (k6, .inl (cI, 6, .inl ken)), (k7, .inl (cI, 6, .inl ktY)), (k8, .inl (cI, 6, .inl ktW)), (xu, .inr (1, [.int uy, .int uea, .int ulo, .int ujo, .int uta, .ref w5, .ref w6, .ref w7, .ref w8])), (w5, .inl (cI, 6, .inl usp)), (w6, .inl (cI, 6, .inl uen)), (w7, .inl (cI, 6, .inl utY)), (w8, .inl (cI, 6, .inl utW)), (xm, .inl (cI, 91, .inl M)), (xw, .inl (cI, 6, .inl nw)), (z, .inr (7, [.ref zp, .int (nI pn), .int (nI n), .int (nI yr), .int jo, .int ea, .int lo, .int (nI lr), .ref zr, .int (nI bd), .ref zb, .ref zc, .int (nI tn), .ref zt, .int sd, .ref zv, .int kl, .int mky, .int mkj, .int mke, .int mkk, .int mkt, .ref zkr, .ref zkt, .long hh])), (zp, .inl (cI, 25, .inl pg)), (zr, .inl (cI, 30, .inl Rw)), (zb, .inl (cI, 91, .inl T)), (zc, .inl (cI, 6, .inl C)), (zt, .inl (cI, 12, .inl Tt)), (zv, .inl (cI, 30, .inl Sv)), (zkr, .inl (cI, 30, .inl KR)), (zkt, .inl (cI, 12, .inl KT))]) hP hD hFc_17 [0, 2, 3, 4, 5, 6, 7] [1, 8, 9, 10, 11, 12, 13, 14, 15, 16, 17, 18, 19, 20, 21, 22, 23, 24, 25, 26, 27, 28] [22, 0, 23, 24, 25, 26, 27, 28, 1, 2, 3, 4, 5, 6, 7, 8, 9, 10, 11, 12, 13, 14, 15, 16, 17, 18, 19, 20, 21] rfl rfl (by decide) (by decide) (by decide) (by decide) hkq hP1 rfl rfl rfl
      have hJ := jJ.keptA (A := va_A [(x, .inr (6, [.ref xp, .int (nI pn), .ref xj, .int (nI n), .ref xn, .ref xk, .ref xu, .int hi, .int (nI lr), .int (nI bd), .ref xm, .ref xw])), (xj, .inl (cJ, 6, .inr (.inr (.inr (.inr jr))))), (xn, .inr (1, [.int (nI yr), .int ea, .int lo, .int jo, .int (nI tn), .ref ns, .ref ne, .ref n7, .ref n8])), (ns, .inl (cI, 6, .inl sp)), (ne, .inl (cI, 6, .inl en)), (n7, .inl (cI, 6, .inl tY)), (n8, .inl (cI, 6, .inl tW))] _) hJ (fun i a h1 h2 => jap (hJ.lt h1 h2) (fun h => hap i a h1 h2 (jmem [0, 2, 3, 4, 5, 6, 7] rfl h))) hkq
      refine lv_aload_n hx hb dL_law_321 rfl (lv_at hl 3 rfl) ?_
      refine lv_aload_n hx hb dL_law_322 rfl (lv_at hl 1 rfl) ?_
      refine lv_iload_n hx hb dL_law_323 rfl (lv_at hl 0 rfl) ?_
      refine lv_iconst (v := 1) hx hb dL_law_324 (by decide) ?_
      refine lv_iadd hx hb dL_law_325 ?_
      refine jv_as (y := nI ((4 * c9) + 1)) (nI_add (4 * c9) 1) ?_
      refine jv_sld hx hb hX hbl hbA hS (k := (4 * c9) + 1) (by omega) hL (v := nI j) e1 dL_law_326 ?_
      have hPc_19 := hP.sub (ws' := [(z, .inr (7, [.ref zp, .int (nI pn), .int (nI n), .int (nI yr), .int jo, .int ea, .int lo, .int (nI lr), .ref zr, .int (nI bd), .ref zb, .ref zc, .int (nI tn), .ref zt, .int sd, .ref zv, .int kl, .int mky, .int mkj, .int mke, .int mkk, .int mkt, .ref zkr, .ref zkt, .long hh])), (zr, .inl (cI, 30, .inl Rw))]) [20, 22] rfl
      refine jcalli (va_runV (As := [.int (nI j)]) (rest := [.int r_18]) ⟨hx, hb, hml, hown, hts⟩ (c_mwasps_none l D cI cJ z zr n (.ref zp) (.int (nI pn)) (.int (nI yr)) (.int jo) (.int ea) (.int lo) (.int (nI lr)) (.int (nI bd)) (.ref zb) (.ref zc) (.int (nI tn)) (.ref zt) (.int sd) (.ref zv) (.int kl) (.int mky) (.int mkj) (.int mke) (.int mkk) (.int mkt) (.ref zkr) (.ref zkt) (.long hh) Rw j hj hn6 (jpos_z (hBd j (by omega)).1 h0 e5) H.size) (cwV 1 hts gL_law_X7_wasps rfl rfl rfl (by decide +kernel) ⟨Nat.le_of_ble_eq_true rfl, Nat.le_of_ble_eq_true rfl⟩) (jpreV hT (va_recv hK hP (ci := 7) (q0 := 20) rfl rfl) hPc_19) rfl rfl hl.1 rfl (lv_room (Nat.le_of_ble_eq_true rfl)) dL_law_327 ⟨(show cells + 0 ≤ 600000 by omega), (show slots + 0 ≤ 7302250 by omega)⟩) hS hA (fun r_20 H locs hw_r_20 hkq hS => ?_)
      try dsimp only at hw_r_20
      have hP := jkeep hP hkq
      have hJ := hJ.kept hkq
      subst hw_r_20
      refine lv_icmp_eq (tgt := 559) hx hb dL_law_330 (by decide) (fun c_21 => ?_) (fun c_21 => ?_)
      · skip
        refine W.widen (k := cells + 6) (n := slots + 18) (by omega) (by omega) ?_
        exact kk H locs (fun X9 k9 => k9 n pn tn bd lr yr pg jr jk jg js jm ea lo jo sp en tY tW hi ky kea klo kjo kta ksp ken ktY ktW uy uea ulo ujo uta usp uen utY utW M nw Rw T C Tt sd Sv kl mky mkj mke mkk mkt KR KT hh hP hD hJ hap hn6 hpn htn hbd hyr (by omega) hRw hSp hBd hTt hKp) hS
      · skip
        exact absurd (by rw [h1r]) c_21

set_option maxHeartbeats 8000000 in
set_option maxRecDepth 100000 in
theorem law_year (l : Launch) (hC : jCx p s m c b L xs D cI cJ A) (hc9 : 4 * c9 + 4 ≤ L) (hcl : cells + 6 ≤ 600000) (hsl : slots + 18 ≤ 7302250) (hS : va_S A s.heap H locs) (hl : lv_has ls 4 [(3, .int (nI (4 * c9))), (0, .ref b), (1, .ref x), (2, .ref z)]) (hI : jAll D cI cJ A x xp xj xn ns ne n7 n8 xk k5 k6 k7 k8 xu w5 w6 w7 w8 xm xw z zp zr zb zc zt zv zkr zkt c9 H)
    (kk : ∀ (H' : Heap) (locs' : List Loc), jAll D cI cJ A x xp xj xn ns ne n7 n8 xk k5 k6 k7 k8 xu w5 w6 w7 w8 xm xw z zp zr zb zc zt zv zkr zkt (c9 + 1) H' → va_S A s.heap H' locs' → W p l e room_1 s m #[Value.ref b] below meth c H' locs' (cells + 6) (slots + 18) Q (F0 m 559 ls [])) : W p l e room_1 s m #[Value.ref b] below meth c H locs cells slots Q (F0 m 335 ls []) := by
  obtain ⟨hx, hb, hml, hown, htT, hX, hbl, hT, hA, hbA, hL⟩ := hC
  have hK := hT.1
  have hts : ∀ w ∈ wsL_law, w.before #[Value.ref b] s = true := fun w h => htT w (wsL_law_in w h)
  refine hI _ (fun n pn tn bd lr yr pg jr jk jg js jm ea lo jo sp en tY tW hi ky kea klo kjo kta ksp ken ktY ktW uy uea ulo ujo uta usp uen utY utW M nw Rw T C Tt sd Sv kl mky mkj mke mkk mkt KR KT hh hP hD hJ hap hn6 hpn htn hbd hyr hlr hRw hSp hBd hTt hKp => ?_)
  obtain ⟨p1, e1⟩ : ∃ v : Int32, v = xs (4 * c9 + 1) := ⟨_, rfl⟩
  obtain ⟨p2, e2⟩ : ∃ v : Int32, v = xs (4 * c9 + 2) := ⟨_, rfl⟩
  obtain ⟨p3, e3⟩ : ∃ v : Int32, v = xs (4 * c9 + 3) := ⟨_, rfl⟩
  rcases Nat.eq_zero_or_pos n with hn0 | hn0
  · skip
    refine lv_aload_n hx hb dL_law_335 rfl (lv_at hl 2 rfl) ?_
    have hPc_1 := hP.sub (ws' := [(x, .inr (6, [.ref xp, .int (nI pn), .ref xj, .int (nI n), .ref xn, .ref xk, .ref xu, .int hi, .int (nI lr), .int (nI bd), .ref xm, .ref xw]))]) [0] rfl
    refine jcalli (va_runV (As := []) (rest := []) ⟨hx, hb, hml, hown, hts⟩ (c_year_n l D cI cJ x n (.ref xp) (.int (nI pn)) (.ref xj) (.ref xn) (.ref xk) (.ref xu) (.int hi) (.int (nI lr)) (.int (nI bd)) (.ref xm) (.ref xw) hn0 H.size) (cwV 0 hts gL_law_X6_year rfl rfl rfl (by decide +kernel) ⟨Nat.le_of_ble_eq_true rfl, Nat.le_of_ble_eq_true rfl⟩) (jpreV hT (va_recv hK hP (ci := 6) (q0 := 0) rfl rfl) hPc_1) rfl rfl hl.1 rfl (lv_room (Nat.le_of_ble_eq_true rfl)) dL_law_336 ⟨(show cells + 0 ≤ 600000 by omega), (show slots + 0 ≤ 7302250 by omega)⟩) hS hA (fun r_2 H locs hw_r_2 hkq hS => ?_)
    try dsimp only at hw_r_2
    have hP := jkeep hP hkq
    have hJ := hJ.kept hkq
    subst hw_r_2
    refine lv_aload_n hx hb dL_law_339 rfl (lv_at hl 3 rfl) ?_
    have hPc_3 := hP.sub (ws' := [(z, .inr (7, [.ref zp, .int (nI pn), .int (nI n), .int (nI yr), .int jo, .int ea, .int lo, .int (nI lr), .ref zr, .int (nI bd), .ref zb, .ref zc, .int (nI tn), .ref zt, .int sd, .ref zv, .int kl, .int mky, .int mkj, .int mke, .int mkk, .int mkt, .ref zkr, .ref zkt, .long hh]))]) [20] rfl
    refine jcalli (va_runV (As := []) (rest := [.int (-103)]) ⟨hx, hb, hml, hown, hts⟩ (c_myear_n l D cI cJ z n (.ref zp) (.int (nI pn)) (.int (nI yr)) (.int jo) (.int ea) (.int lo) (.int (nI lr)) (.ref zr) (.int (nI bd)) (.ref zb) (.ref zc) (.int (nI tn)) (.ref zt) (.int sd) (.ref zv) (.int kl) (.int mky) (.int mkj) (.int mke) (.int mkk) (.int mkt) (.ref zkr) (.ref zkt) (.long hh) hn0 H.size) (cwV 0 hts gL_law_X7_year rfl rfl rfl (by decide +kernel) ⟨Nat.le_of_ble_eq_true rfl, Nat.le_of_ble_eq_true rfl⟩) (jpreV hT (va_recv hK hP (ci := 7) (q0 := 20) rfl rfl) hPc_3) rfl rfl hl.1 rfl (lv_room (Nat.le_of_ble_eq_true rfl)) dL_law_340 ⟨(show cells + 0 ≤ 600000 by omega), (show slots + 0 ≤ 7302250 by omega)⟩) hS hA (fun r_4 H locs hw_r_4 hkq hS => ?_)
    try dsimp only at hw_r_4
    have hP := jkeep hP hkq
    have hJ := hJ.kept hkq
    subst hw_r_4
    refine lv_icmp_eq (tgt := 559) hx hb dL_law_343 (by decide) (fun c_5 => ?_) (fun c_5 => ?_)
    · skip
      refine W.widen (k := cells + 6) (n := slots + 18) (by omega) (by omega) ?_
      exact kk H locs (fun X9 k9 => k9 n pn tn bd lr yr pg jr jk jg js jm ea lo jo sp en tY tW hi ky kea klo kjo kta ksp ken ktY ktW uy uea ulo ujo uta usp uen utY utW M nw Rw T C Tt sd Sv kl mky mkj mke mkk mkt KR KT hh hP hD hJ hap hn6 hpn htn hbd hyr (by omega) hRw hSp hBd hTt hKp) hS
    · skip
      exact absurd c_5 (by decide)
  · skip
    by_cases h9 : yr = 99
    · skip
      refine lv_aload_n hx hb dL_law_335 rfl (lv_at hl 2 rfl) ?_
      have hPc_6 := hP.sub (ws' := [(x, .inr (6, [.ref xp, .int (nI pn), .ref xj, .int (nI n), .ref xn, .ref xk, .ref xu, .int hi, .int (nI lr), .int (nI bd), .ref xm, .ref xw])), (xn, .inr (1, [.int (nI yr), .int ea, .int lo, .int jo, .int (nI tn), .ref ns, .ref ne, .ref n7, .ref n8]))]) [0, 3] rfl
      refine jcalli (va_runV (As := []) (rest := []) ⟨hx, hb, hml, hown, hts⟩ (c_year_full l D cI cJ x xn n (.ref xp) (.int (nI pn)) (.ref xj) (.ref xk) (.ref xu) (.int hi) (.int (nI lr)) (.int (nI bd)) (.ref xm) (.ref xw) (.int ea) (.int lo) (.int jo) (.int (nI tn)) (.ref ns) (.ref ne) (.ref n7) (.ref n8) (nI yr) hn0 hn6 ((nI_leI (a := 99) (by omega) (by omega)).mpr (by omega)) H.size) (cwV 0 hts gL_law_X6_year rfl rfl rfl (by decide +kernel) ⟨Nat.le_of_ble_eq_true rfl, Nat.le_of_ble_eq_true rfl⟩) (jpreV hT (va_recv hK hP (ci := 6) (q0 := 0) rfl rfl) hPc_6) rfl rfl hl.1 rfl (lv_room (Nat.le_of_ble_eq_true rfl)) dL_law_336 ⟨(show cells + 0 ≤ 600000 by omega), (show slots + 0 ≤ 7302250 by omega)⟩) hS hA (fun r_7 H locs hw_r_7 hkq hS => ?_)
      try dsimp only at hw_r_7
      have hP := jkeep hP hkq
      have hJ := hJ.kept hkq
      subst hw_r_7
      refine lv_aload_n hx hb dL_law_339 rfl (lv_at hl 3 rfl) ?_
      have hPc_8 := hP.sub (ws' := [(z, .inr (7, [.ref zp, .int (nI pn), .int (nI n), .int (nI yr), .int jo, .int ea, .int lo, .int (nI lr), .ref zr, .int (nI bd), .ref zb, .ref zc, .int (nI tn), .ref zt, .int sd, .ref zv, .int kl, .int mky, .int mkj, .int mke, .int mkk, .int mkt, .ref zkr, .ref zkt, .long hh]))]) [20] rfl
      refine jcalli (va_runV (As := []) (rest := [.int (-104)]) ⟨hx, hb, hml, hown, hts⟩ (c_myear_full l D cI cJ z n (.ref zp) (.int (nI pn)) (.int jo) (.int ea) (.int lo) (.int (nI lr)) (.ref zr) (.int (nI bd)) (.ref zb) (.ref zc) (.int (nI tn)) (.ref zt) (.int sd) (.ref zv) (.int kl) (.int mky) (.int mkj) (.int mke) (.int mkk) (.int mkt) (.ref zkr) (.ref zkt) (.long hh) (nI yr) hn0 hn6 ((nI_eq (b := 99) (by omega) (by omega)).mpr h9) H.size) (cwV 0 hts gL_law_X7_year rfl rfl rfl (by decide +kernel) ⟨Nat.le_of_ble_eq_true rfl, Nat.le_of_ble_eq_true rfl⟩) (jpreV hT (va_recv hK hP (ci := 7) (q0 := 20) rfl rfl) hPc_8) rfl rfl hl.1 rfl (lv_room (Nat.le_of_ble_eq_true rfl)) dL_law_340 ⟨(show cells + 0 ≤ 600000 by omega), (show slots + 0 ≤ 7302250 by omega)⟩) hS hA (fun r_9 H locs hw_r_9 hkq hS => ?_)
      try dsimp only at hw_r_9
      have hP := jkeep hP hkq
      have hJ := hJ.kept hkq
      subst hw_r_9
      refine lv_icmp_eq (tgt := 559) hx hb dL_law_343 (by decide) (fun c_10 => ?_) (fun c_10 => ?_)
      · skip
        refine W.widen (k := cells + 6) (n := slots + 18) (by omega) (by omega) ?_
        exact kk H locs (fun X9 k9 => k9 n pn tn bd lr yr pg jr jk jg js jm ea lo jo sp en tY tW hi ky kea klo kjo kta ksp ken ktY ktW uy uea ulo ujo uta usp uen utY utW M nw Rw T C Tt sd Sv kl mky mkj mke mkk mkt KR KT hh hP hD hJ hap hn6 hpn htn hbd hyr (by omega) hRw hSp hBd hTt hKp) hS
      · skip
        exact absurd c_10 (by decide)
    · skip
      refine lv_aload_n hx hb dL_law_335 rfl (lv_at hl 2 rfl) ?_
      have hPc_11 := hP.sub (ws' := [(x, .inr (6, [.ref xp, .int (nI pn), .ref xj, .int (nI n), .ref xn, .ref xk, .ref xu, .int hi, .int (nI lr), .int (nI bd), .ref xm, .ref xw])), (xn, .inr (1, [.int (nI yr), .int ea, .int lo, .int jo, .int (nI tn), .ref ns, .ref ne, .ref n7, .ref n8])), (ns, .inl (cI, 6, .inl sp)), (ne, .inl (cI, 6, .inl en)), (n7, .inl (cI, 6, .inl tY)), (n8, .inl (cI, 6, .inl tW))]) [0, 3, 4, 5, 6, 7] rfl
      have hDc_12 := hD.sub (ws' := [(x, .inr (6, [.ref xp, .int (nI pn), .ref xj, .int (nI n), .ref xn, .ref xk, .ref xu, .int hi, .int (nI lr), .int (nI bd), .ref xm, .ref xw])), (xn, .inr (1, [.int (nI yr), .int ea, .int lo, .int jo, .int (nI tn), .ref ns, .ref ne, .ref n7, .ref n8])), (ns, .inl (cI, 6, .inl sp)), (ne, .inl (cI, 6, .inl en)), (n7, .inl (cI, 6, .inl tY)), (n8, .inl (cI, 6, .inl tW))]) [0, 3, 4, 5, 6, 7] (by decide) rfl
      have hFc_13 := va_free (wc := [(x, .inr (6, [.ref xp, .int (nI pn), .ref xj, .int (nI n), .ref xn, .ref xk, .ref xu, .int hi, .int (nI lr), .int (nI bd), .ref xm, .ref xw])), (xn, .inr (1, [.int (nI yr), .int ea, .int lo, .int jo, .int (nI tn), .ref ns, .ref ne, .ref n7, .ref n8])), (ns, .inl (cI, 6, .inl sp)), (ne, .inl (cI, 6, .inl en)), (n7, .inl (cI, 6, .inl tY)), (n8, .inl (cI, 6, .inl tW))]) hD hS hA [0, 3, 4, 5, 6, 7] rfl
      refine jcallWi (post := fun r H => r = (nI yr) + 1 ∧ va_P D vwCl [(x, .inr (6, [(.ref xp), (.int (nI pn)), (.ref xj), .int (nI n), .ref xn, (.ref xk), (.ref xu), (.int hi), (.int (nI lr)), (.int (nI bd)), (.ref xm), (.ref xw)])), (xn, .inr (1, [.int ((nI yr) + 1), .int ea, .int lo, .int jo, .int (nI tn), .ref ns, .ref ne, .ref n7, .ref n8])), (ns, .inl (cI, 6, .inl sp)), (ne, .inl (cI, 6, .inl (jfl (fun _ => 0) en 6))), (n7, .inl (cI, 6, .inl tY)), (n8, .inl (cI, 6, .inl tW))] H) (va_runV (As := []) (rest := []) ⟨hx, hb, hml, hown, hts⟩ (c_year_ok l D cI cJ x xn ns ne n7 n8 n (.ref xp) (.int (nI pn)) (.ref xj) (.ref xk) (.ref xu) (.int hi) (.int (nI lr)) (.int (nI bd)) (.ref xm) (.ref xw) (nI yr) ea lo jo (nI tn) sp en tY tW hn0 hn6 ((nI_ltI (b := 99) (by omega) (by omega)).mpr (by omega)) H.size) (cwV 0 hts gL_law_X6_year rfl rfl rfl (by decide +kernel) ⟨Nat.le_of_ble_eq_true rfl, Nat.le_of_ble_eq_true rfl⟩) (jpreV hT (va_recv hK hP (ci := 6) (q0 := 0) rfl rfl) ⟨hPc_11, hDc_12.weaken (fun _ _ _ _ => trivial), trivial⟩) rfl rfl hl.1 rfl (lv_room (Nat.le_of_ble_eq_true rfl)) dL_law_336 ⟨(show cells + 0 ≤ 600000 by omega), (show slots + 0 ≤ 7302250 by omega)⟩) hS hFc_13 (fun r_14 H locs hw_r_14 hz hkq hS => ?_)
      obtain ⟨h1r, hP1⟩ := hw_r_14
      obtain ⟨hP, hD⟩ := jjoin (wc := [(x, .inr (6, [.ref xp, .int (nI pn), .ref xj, .int (nI n), .ref xn, .ref xk, .ref xu, .int hi, .int (nI lr), .int (nI bd), .ref xm, .ref xw])), (xn, .inr (1, [.int (nI yr), .int ea, .int lo, .int jo, .int (nI tn), .ref ns, .ref ne, .ref n7, .ref n8])), (ns, .inl (cI, 6, .inl sp)), (ne, .inl (cI, 6, .inl en)), (n7, .inl (cI, 6, .inl tY)), (n8, .inl (cI, 6, .inl tW))]) (wr := [(xp, .inl (cI, 25, .inl pg)), (xj, .inl (cJ, 6, .inr (.inr (.inr (.inr jr))))), (xk, .inr (1, [.int ky, .int kea, .int klo, .int kjo, .int kta, .ref k5, .ref k6, .ref k7, .ref k8])), (k5, .inl (cI, 6, .inl ksp)), (k6, .inl (cI, 6, .inl ken)), (k7, .inl (cI, 6, .inl ktY)), (k8, .inl (cI, 6, .inl ktW)), (xu, .inr (1, [.int uy, .int uea, .int ulo, .int ujo, .int uta, .ref w5, .ref w6, .ref w7, .ref w8])), (w5, .inl (cI, 6, .inl usp)), (w6, .inl (cI, 6, .inl uen)), (w7, .inl (cI, 6, .inl utY)), (w8, .inl (cI, 6, .inl utW)), (xm, .inl (cI, 91, .inl M)), (xw, .inl (cI, 6, .inl nw)), (z, .inr (7, [.ref zp, .int (nI pn), .int (nI n), .int (nI yr), .int jo, .int ea, .int lo, .int (nI lr), .ref zr, .int (nI bd), .ref zb, .ref zc, .int (nI tn), .ref zt, .int sd, .ref zv, .int kl, .int mky, .int mkj, .int mke, .int mkk, .int mkt, .ref zkr, .ref zkt, .long hh])), (zp, .inl (cI, 25, .inl pg)), (zr, .inl (cI, 30, .inl Rw)), (zb, .inl (cI, 91, .inl T)), (zc, .inl (cI, 6, .inl C)), (zt, .inl (cI, 12, .inl Tt)), (zv, .inl (cI, 30, .inl Sv)), (zkr, .inl (cI, 30, .inl KR)), (zkt, .inl (cI, 12, .inl KT))]) (w1 := [(x, .inr (6, [.ref xp, .int (nI pn), .ref xj, .int (nI n), .ref xn, .ref xk, .ref xu, .int hi, .int (nI lr), .int (nI bd), .ref xm, .ref xw])), (xn, .inr (1, [.int ((nI yr) + 1), .int ea, .int lo, .int jo, .int (nI tn), .ref ns, .ref ne, .ref n7, .ref n8])), (ns, .inl (cI, 6, .inl sp)), (ne, .inl (cI, 6, .inl (jfl (fun _ => 0) en 6))), (n7, .inl (cI, 6, .inl tY)), (n8, .inl (cI, 6, .inl tW))]) (ws' := [(x, .inr (6, [.ref xp, .int (nI pn), .ref xj, .int (nI n), .ref xn, .ref xk, .ref xu, .int hi, .int (nI lr), .int (nI bd), .ref xm, .ref xw])), (xp, .inl (cI, 25, .inl pg)), (xj, .inl (cJ, 6, .inr (.inr (.inr (.inr jr))))), (xn, .inr (1, [.int ((nI yr) + 1), .int ea, .int lo, .int jo, .int (nI tn), .ref ns, .ref ne, .ref n7, .ref n8])), (ns, .inl (cI, 6, .inl sp)), (ne, .inl (cI, 6, .inl (jfl (fun _ => 0) en 6))), (n7, .inl (cI, 6, .inl tY)), (n8, .inl (cI, 6, .inl tW)), (xk, .inr (1, [.int ky, .int kea, .int klo, .int kjo, .int kta, .ref k5, .ref k6, .ref k7, .ref k8])), (k5, .inl (cI, 6, .inl ksp)), (k6, .inl (cI, 6, .inl ken)), (k7, .inl (cI, 6, .inl ktY)), (k8, .inl (cI, 6, .inl ktW)), (xu, .inr (1, [.int uy, .int uea, .int ulo, .int ujo, .int uta, .ref w5, .ref w6, .ref w7, .ref w8])), (w5, .inl (cI, 6, .inl usp)), (w6, .inl (cI, 6, .inl uen)), (w7, .inl (cI, 6, .inl utY)), (w8, .inl (cI, 6, .inl utW)), (xm, .inl (cI, 91, .inl M)), (xw, .inl (cI, 6, .inl nw)), (z, .inr (7, [.ref zp, .int (nI pn), .int (nI n), .int (nI yr), .int jo, .int ea, .int lo, .int (nI lr), .ref zr, .int (nI bd), .ref zb, .ref zc, .int (nI tn), .ref zt, .int sd, .ref zv, .int kl, .int mky, .int mkj, .int mke, .int mkk, .int mkt, .ref zkr, .ref zkt, .long hh])), (zp, .inl (cI, 25, .inl pg)), (zr, .inl (cI, 30, .inl Rw)), (zb, .inl (cI, 91, .inl T)), (zc, .inl (cI, 6, .inl C)), (zt, .inl (cI, 12, .inl Tt)), (zv, .inl (cI, 30, .inl Sv)), (zkr, .inl (cI, 30, .inl KR)), (zkt, .inl (cI, 12, .inl KT))]) hP hD hFc_13 [0, 3, 4, 5, 6, 7] [1, 2, 8, 9, 10, 11, 12, 13, 14, 15, 16, 17, 18, 19, 20, 21, 22, 23, 24, 25, 26, 27, 28] [23, 0, 1, 24, 25, 26, 27, 28, 2, 3, 4, 5, 6, 7, 8, 9, 10, 11, 12, 13, 14, 15, 16, 17, 18, 19, 20, 21, 22] rfl rfl (by decide) (by decide) (by decide) (by decide) hkq hP1 rfl rfl rfl
      have hJ := jJ.keptA (A := va_A [(x, .inr (6, [.ref xp, .int (nI pn), .ref xj, .int (nI n), .ref xn, .ref xk, .ref xu, .int hi, .int (nI lr), .int (nI bd), .ref xm, .ref xw])), (xn, .inr (1, [.int (nI yr), .int ea, .int lo, .int jo, .int (nI tn), .ref ns, .ref ne, .ref n7, .ref n8])), (ns, .inl (cI, 6, .inl sp)), (ne, .inl (cI, 6, .inl en)), (n7, .inl (cI, 6, .inl tY)), (n8, .inl (cI, 6, .inl tW))] _) hJ (fun i a h1 h2 => jap (hJ.lt h1 h2) (fun h => hap i a h1 h2 (jmem [0, 3, 4, 5, 6, 7] rfl h))) hkq
      refine lv_aload_n hx hb dL_law_339 rfl (lv_at hl 3 rfl) ?_
      have hPc_15 := hP.sub (ws' := [(z, .inr (7, [.ref zp, .int (nI pn), .int (nI n), .int (nI yr), .int jo, .int ea, .int lo, .int (nI lr), .ref zr, .int (nI bd), .ref zb, .ref zc, .int (nI tn), .ref zt, .int sd, .ref zv, .int kl, .int mky, .int mkj, .int mke, .int mkk, .int mkt, .ref zkr, .ref zkt, .long hh])), (zr, .inl (cI, 30, .inl Rw))]) [20, 22] rfl
      have hDc_16 := hD.sub (ws' := [(z, .inr (7, [.ref zp, .int (nI pn), .int (nI n), .int (nI yr), .int jo, .int ea, .int lo, .int (nI lr), .ref zr, .int (nI bd), .ref zb, .ref zc, .int (nI tn), .ref zt, .int sd, .ref zv, .int kl, .int mky, .int mkj, .int mke, .int mkk, .int mkt, .ref zkr, .ref zkt, .long hh])), (zr, .inl (cI, 30, .inl Rw))]) [20, 22] (by decide) rfl
      have hFc_17 := va_free (wc := [(z, .inr (7, [.ref zp, .int (nI pn), .int (nI n), .int (nI yr), .int jo, .int ea, .int lo, .int (nI lr), .ref zr, .int (nI bd), .ref zb, .ref zc, .int (nI tn), .ref zt, .int sd, .ref zv, .int kl, .int mky, .int mkj, .int mke, .int mkk, .int mkt, .ref zkr, .ref zkt, .long hh])), (zr, .inl (cI, 30, .inl Rw))]) hD hS hA [20, 22] rfl
      refine jcallWi (post := fun r H => r = (nI yr) + 1 ∧ va_P D vwCl [(z, .inr (7, [(.ref zp), (.int (nI pn)), .int (nI n), .int ((nI yr) + 1), (.int jo), (.int ea), (.int lo), (.int (nI lr)), .ref zr, (.int (nI bd)), (.ref zb), (.ref zc), (.int (nI tn)), (.ref zt), (.int sd), (.ref zv), (.int kl), (.int mky), (.int mkj), (.int mke), (.int mkk), (.int mkt), (.ref zkr), (.ref zkt), (.long hh)])), (zr, .inl (cI, 30, .inl (mne Rw n)))] H) (va_runV (As := []) (rest := [.int r_14]) ⟨hx, hb, hml, hown, hts⟩ (c_myear_ok l D cI cJ z zr n (.ref zp) (.int (nI pn)) (.int jo) (.int ea) (.int lo) (.int (nI lr)) (.int (nI bd)) (.ref zb) (.ref zc) (.int (nI tn)) (.ref zt) (.int sd) (.ref zv) (.int kl) (.int mky) (.int mkj) (.int mke) (.int mkk) (.int mkt) (.ref zkr) (.ref zkt) (.long hh) Rw (nI yr) hn0 hn6 (fun h => h9 ((nI_eq (b := 99) (by omega) (by omega)).mp h)) H.size) (cwV 0 hts gL_law_X7_year rfl rfl rfl (by decide +kernel) ⟨Nat.le_of_ble_eq_true rfl, Nat.le_of_ble_eq_true rfl⟩) (jpreV hT (va_recv hK hP (ci := 7) (q0 := 20) rfl rfl) ⟨hPc_15, hDc_16.weaken (fun _ _ _ _ => trivial), trivial⟩) rfl rfl hl.1 rfl (lv_room (Nat.le_of_ble_eq_true rfl)) dL_law_340 ⟨(show cells + 0 ≤ 600000 by omega), (show slots + 0 ≤ 7302250 by omega)⟩) hS hFc_17 (fun r_18 H locs hw_r_18 hz hkq hS => ?_)
      obtain ⟨h2r, hP1⟩ := hw_r_18
      obtain ⟨hP, hD⟩ := jjoin (wc := [(z, .inr (7, [.ref zp, .int (nI pn), .int (nI n), .int (nI yr), .int jo, .int ea, .int lo, .int (nI lr), .ref zr, .int (nI bd), .ref zb, .ref zc, .int (nI tn), .ref zt, .int sd, .ref zv, .int kl, .int mky, .int mkj, .int mke, .int mkk, .int mkt, .ref zkr, .ref zkt, .long hh])), (zr, .inl (cI, 30, .inl Rw))]) (wr := [(x, .inr (6, [.ref xp, .int (nI pn), .ref xj, .int (nI n), .ref xn, .ref xk, .ref xu, .int hi, .int (nI lr), .int (nI bd), .ref xm, .ref xw])), (xp, .inl (cI, 25, .inl pg)), (xj, .inl (cJ, 6, .inr (.inr (.inr (.inr jr))))), (xn, .inr (1, [.int ((nI yr) + 1), .int ea, .int lo, .int jo, .int (nI tn), .ref ns, .ref ne, .ref n7, .ref n8])), (ns, .inl (cI, 6, .inl sp)), (ne, .inl (cI, 6, .inl (jfl (fun _ => 0) en 6))), (n7, .inl (cI, 6, .inl tY)), (n8, .inl (cI, 6, .inl tW)), (xk, .inr (1, [.int ky, .int kea, .int klo, .int kjo, .int kta, .ref k5, .ref k6, .ref k7, .ref k8])), (k5, .inl (cI, 6, .inl ksp)), (k6, .inl (cI, 6, .inl ken)), (k7, .inl (cI, 6, .inl ktY)), (k8, .inl (cI, 6, .inl ktW)), (xu, .inr (1, [.int uy, .int uea, .int ulo, .int ujo, .int uta, .ref w5, .ref w6, .ref w7, .ref w8])), (w5, .inl (cI, 6, .inl usp)), (w6, .inl (cI, 6, .inl uen)), (w7, .inl (cI, 6, .inl utY)), (w8, .inl (cI, 6, .inl utW)), (xm, .inl (cI, 91, .inl M)), (xw, .inl (cI, 6, .inl nw)), (zp, .inl (cI, 25, .inl pg)), (zb, .inl (cI, 91, .inl T)), (zc, .inl (cI, 6, .inl C)), (zt, .inl (cI, 12, .inl Tt)), (zv, .inl (cI, 30, .inl Sv)), (zkr, .inl (cI, 30, .inl KR)), (zkt, .inl (cI, 12, .inl KT))]) (w1 := [(z, .inr (7, [.ref zp, .int (nI pn), .int (nI n), .int ((nI yr) + 1), .int jo, .int ea, .int lo, .int (nI lr), .ref zr, .int (nI bd), .ref zb, .ref zc, .int (nI tn), .ref zt, .int sd, .ref zv, .int kl, .int mky, .int mkj, .int mke, .int mkk, .int mkt, .ref zkr, .ref zkt, .long hh])), (zr, .inl (cI, 30, .inl (mne Rw n)))]) (ws' := [(x, .inr (6, [.ref xp, .int (nI pn), .ref xj, .int (nI n), .ref xn, .ref xk, .ref xu, .int hi, .int (nI lr), .int (nI bd), .ref xm, .ref xw])), (xp, .inl (cI, 25, .inl pg)), (xj, .inl (cJ, 6, .inr (.inr (.inr (.inr jr))))), (xn, .inr (1, [.int ((nI yr) + 1), .int ea, .int lo, .int jo, .int (nI tn), .ref ns, .ref ne, .ref n7, .ref n8])), (ns, .inl (cI, 6, .inl sp)), (ne, .inl (cI, 6, .inl (jfl (fun _ => 0) en 6))), (n7, .inl (cI, 6, .inl tY)), (n8, .inl (cI, 6, .inl tW)), (xk, .inr (1, [.int ky, .int kea, .int klo, .int kjo, .int kta, .ref k5, .ref k6, .ref k7, .ref k8])), (k5, .inl (cI, 6, .inl ksp)), (k6, .inl (cI, 6, .inl ken)), (k7, .inl (cI, 6, .inl ktY)), (k8, .inl (cI, 6, .inl ktW)), (xu, .inr (1, [.int uy, .int uea, .int ulo, .int ujo, .int uta, .ref w5, .ref w6, .ref w7, .ref w8])), (w5, .inl (cI, 6, .inl usp)), (w6, .inl (cI, 6, .inl uen)), (w7, .inl (cI, 6, .inl utY)), (w8, .inl (cI, 6, .inl utW)), (xm, .inl (cI, 91, .inl M)), (xw, .inl (cI, 6, .inl nw)), (z, .inr (7, [.ref zp, .int (nI pn), .int (nI n), .int ((nI yr) + 1), .int jo, .int ea, .int lo, .int (nI lr), .ref zr, .int (nI bd), .ref zb, .ref zc, .int (nI tn), .ref zt, .int sd, .ref zv, .int kl, .int mky, .int mkj, .int mke, .int mkk, .int mkt, .ref zkr, .ref zkt, .long hh])), (zp, .inl (cI, 25, .inl pg)), (zr, .inl (cI, 30, .inl (mne Rw n))), (zb, .inl (cI, 91, .inl T)), (zc, .inl (cI, 6, .inl C)), (zt, .inl (cI, 12, .inl Tt)), (zv, .inl (cI, 30, .inl Sv)), (zkr, .inl (cI, 30, .inl KR)), (zkt, .inl (cI, 12, .inl KT))]) hP hD hFc_17 [20, 22] [0, 1, 2, 3, 4, 5, 6, 7, 8, 9, 10, 11, 12, 13, 14, 15, 16, 17, 18, 19, 21, 23, 24, 25, 26, 27, 28] [0, 1, 2, 3, 4, 5, 6, 7, 8, 9, 10, 11, 12, 13, 14, 15, 16, 17, 18, 19, 27, 20, 28, 21, 22, 23, 24, 25, 26] rfl rfl (by decide) (by decide) (by decide) (by decide) hkq hP1 rfl rfl rfl
      have hJ := jJ.keptA (A := va_A [(z, .inr (7, [.ref zp, .int (nI pn), .int (nI n), .int (nI yr), .int jo, .int ea, .int lo, .int (nI lr), .ref zr, .int (nI bd), .ref zb, .ref zc, .int (nI tn), .ref zt, .int sd, .ref zv, .int kl, .int mky, .int mkj, .int mke, .int mkk, .int mkt, .ref zkr, .ref zkt, .long hh])), (zr, .inl (cI, 30, .inl Rw))] _) hJ (fun i a h1 h2 => jap (hJ.lt h1 h2) (fun h => hap i a h1 h2 (jmem [20, 22] rfl h))) hkq
      refine lv_icmp_eq (tgt := 559) hx hb dL_law_343 (by decide) (fun c_19 => ?_) (fun c_19 => ?_)
      · skip
        rw [nI_1] at hP
        have hP : va_P D vwCl [(x, .inr (6, [.ref xp, .int (nI pn), .ref xj, .int (nI n), .ref xn, .ref xk, .ref xu, .int hi, .int (nI lr), .int (nI bd), .ref xm, .ref xw])), (xp, .inl (cI, 25, .inl pg)), (xj, .inl (cJ, 6, .inr (.inr (.inr (.inr jr))))), (xn, .inr (1, [.int (nI (yr + 1)), .int ea, .int lo, .int jo, .int (nI tn), .ref ns, .ref ne, .ref n7, .ref n8])), (ns, .inl (cI, 6, .inl sp)), (ne, .inl (cI, 6, .inl (jfl (fun _ => 0) en 6))), (n7, .inl (cI, 6, .inl tY)), (n8, .inl (cI, 6, .inl tW)), (xk, .inr (1, [.int ky, .int kea, .int klo, .int kjo, .int kta, .ref k5, .ref k6, .ref k7, .ref k8])), (k5, .inl (cI, 6, .inl ksp)), (k6, .inl (cI, 6, .inl ken)), (k7, .inl (cI, 6, .inl ktY)), (k8, .inl (cI, 6, .inl ktW)), (xu, .inr (1, [.int uy, .int uea, .int ulo, .int ujo, .int uta, .ref w5, .ref w6, .ref w7, .ref w8])), (w5, .inl (cI, 6, .inl usp)), (w6, .inl (cI, 6, .inl uen)), (w7, .inl (cI, 6, .inl utY)), (w8, .inl (cI, 6, .inl utW)), (xm, .inl (cI, 91, .inl M)), (xw, .inl (cI, 6, .inl nw)), (z, .inr (7, [.ref zp, .int (nI pn), .int (nI n), .int (nI (yr + 1)), .int jo, .int ea, .int lo, .int (nI lr), .ref zr, .int (nI bd), .ref zb, .ref zc, .int (nI tn), .ref zt, .int sd, .ref zv, .int kl, .int mky, .int mkj, .int mke, .int mkk, .int mkt, .ref zkr, .ref zkt, .long hh])), (zp, .inl (cI, 25, .inl pg)), (zr, .inl (cI, 30, .inl (mne Rw n))), (zb, .inl (cI, 91, .inl T)), (zc, .inl (cI, 6, .inl C)), (zt, .inl (cI, 12, .inl Tt)), (zv, .inl (cI, 30, .inl Sv)), (zkr, .inl (cI, 30, .inl KR)), (zkt, .inl (cI, 12, .inl KT))] H := hP
        have hD : va_D A [(x, .inr (6, [.ref xp, .int (nI pn), .ref xj, .int (nI n), .ref xn, .ref xk, .ref xu, .int hi, .int (nI lr), .int (nI bd), .ref xm, .ref xw])), (xp, .inl (cI, 25, .inl pg)), (xj, .inl (cJ, 6, .inr (.inr (.inr (.inr jr))))), (xn, .inr (1, [.int (nI (yr + 1)), .int ea, .int lo, .int jo, .int (nI tn), .ref ns, .ref ne, .ref n7, .ref n8])), (ns, .inl (cI, 6, .inl sp)), (ne, .inl (cI, 6, .inl (jfl (fun _ => 0) en 6))), (n7, .inl (cI, 6, .inl tY)), (n8, .inl (cI, 6, .inl tW)), (xk, .inr (1, [.int ky, .int kea, .int klo, .int kjo, .int kta, .ref k5, .ref k6, .ref k7, .ref k8])), (k5, .inl (cI, 6, .inl ksp)), (k6, .inl (cI, 6, .inl ken)), (k7, .inl (cI, 6, .inl ktY)), (k8, .inl (cI, 6, .inl ktW)), (xu, .inr (1, [.int uy, .int uea, .int ulo, .int ujo, .int uta, .ref w5, .ref w6, .ref w7, .ref w8])), (w5, .inl (cI, 6, .inl usp)), (w6, .inl (cI, 6, .inl uen)), (w7, .inl (cI, 6, .inl utY)), (w8, .inl (cI, 6, .inl utW)), (xm, .inl (cI, 91, .inl M)), (xw, .inl (cI, 6, .inl nw)), (z, .inr (7, [.ref zp, .int (nI pn), .int (nI n), .int (nI (yr + 1)), .int jo, .int ea, .int lo, .int (nI lr), .ref zr, .int (nI bd), .ref zb, .ref zc, .int (nI tn), .ref zt, .int sd, .ref zv, .int kl, .int mky, .int mkj, .int mke, .int mkk, .int mkt, .ref zkr, .ref zkt, .long hh])), (zp, .inl (cI, 25, .inl pg)), (zr, .inl (cI, 30, .inl (mne Rw n))), (zb, .inl (cI, 91, .inl T)), (zc, .inl (cI, 6, .inl C)), (zt, .inl (cI, 12, .inl Tt)), (zv, .inl (cI, 30, .inl Sv)), (zkr, .inl (cI, 30, .inl KR)), (zkt, .inl (cI, 12, .inl KT))] := jD_of hD rfl
        refine W.widen (k := cells + 6) (n := slots + 18) (by omega) (by omega) ?_
        exact kk H locs (fun X9 k9 => k9 n pn tn bd lr (yr + 1) pg jr jk jg js jm ea lo jo sp (jfl (fun _ => 0) en 6) tY tW hi ky kea klo kjo kta ksp ken ktY ktW uy uea ulo ujo uta usp uen utY utW M nw (mne Rw n) T C Tt sd Sv kl mky mkj mke mkk mkt KR KT hh hP hD hJ hap hn6 hpn htn hbd (by omega) (by omega) (hRw.sm (jSm.rf (n := n) (R := Rw)).ne) (hSp.ne hn6) hBd.ne hTt (hKp.sm (jSm.rf (n := n) (R := Rw)).ne)) hS
      · skip
        exact absurd (by rw [h1r, h2r]) c_19

set_option maxHeartbeats 8000000 in
set_option maxRecDepth 100000 in
theorem law_taste (l : Launch) (hC : jCx p s m c b L xs D cI cJ A) (hc9 : 4 * c9 + 4 ≤ L) (hcl : cells + 6 ≤ 600000) (hsl : slots + 18 ≤ 7302250) (hS : va_S A s.heap H locs) (hl : lv_has ls 4 [(3, .int (nI (4 * c9))), (0, .ref b), (1, .ref x), (2, .ref z)]) (hI : jAll D cI cJ A x xp xj xn ns ne n7 n8 xk k5 k6 k7 k8 xu w5 w6 w7 w8 xm xw z zp zr zb zc zt zv zkr zkt c9 H)
    (kk : ∀ (H' : Heap) (locs' : List Loc), jAll D cI cJ A x xp xj xn ns ne n7 n8 xk k5 k6 k7 k8 xu w5 w6 w7 w8 xm xw z zp zr zb zc zt zv zkr zkt (c9 + 1) H' → va_S A s.heap H' locs' → W p l e room_1 s m #[Value.ref b] below meth c H' locs' (cells + 6) (slots + 18) Q (F0 m 559 ls [])) : W p l e room_1 s m #[Value.ref b] below meth c H locs cells slots Q (F0 m 381 ls []) := by
  obtain ⟨hx, hb, hml, hown, htT, hX, hbl, hT, hA, hbA, hL⟩ := hC
  have hK := hT.1
  have hts : ∀ w ∈ wsL_law, w.before #[Value.ref b] s = true := fun w h => htT w (wsL_law_in w h)
  refine hI _ (fun n pn tn bd lr yr pg jr jk jg js jm ea lo jo sp en tY tW hi ky kea klo kjo kta ksp ken ktY ktW uy uea ulo ujo uta usp uen utY utW M nw Rw T C Tt sd Sv kl mky mkj mke mkk mkt KR KT hh hP hD hJ hap hn6 hpn htn hbd hyr hlr hRw hSp hBd hTt hKp => ?_)
  obtain ⟨p1, e1⟩ : ∃ v : Int32, v = xs (4 * c9 + 1) := ⟨_, rfl⟩
  obtain ⟨p2, e2⟩ : ∃ v : Int32, v = xs (4 * c9 + 2) := ⟨_, rfl⟩
  obtain ⟨p3, e3⟩ : ∃ v : Int32, v = xs (4 * c9 + 3) := ⟨_, rfl⟩
  by_cases hq : p1 < 0 ∨ 99 < p1
  · skip
    refine lv_aload_n hx hb dL_law_381 rfl (lv_at hl 2 rfl) ?_
    refine lv_aload_n hx hb dL_law_382 rfl (lv_at hl 1 rfl) ?_
    refine lv_iload_n hx hb dL_law_383 rfl (lv_at hl 0 rfl) ?_
    refine lv_iconst (v := 1) hx hb dL_law_384 (by decide) ?_
    refine lv_iadd hx hb dL_law_385 ?_
    refine jv_as (y := nI ((4 * c9) + 1)) (nI_add (4 * c9) 1) ?_
    refine jv_sld hx hb hX hbl hbA hS (k := (4 * c9) + 1) (by omega) hL (v := p1) e1 dL_law_386 ?_
    refine lv_aload_n hx hb dL_law_387 rfl (lv_at hl 1 rfl) ?_
    refine lv_iload_n hx hb dL_law_388 rfl (lv_at hl 0 rfl) ?_
    refine lv_iconst (v := 2) hx hb dL_law_389 (by decide) ?_
    refine lv_iadd hx hb dL_law_390 ?_
    refine jv_as (y := nI ((4 * c9) + 2)) (nI_add (4 * c9) 2) ?_
    refine jv_sld hx hb hX hbl hbA hS (k := (4 * c9) + 2) (by omega) hL (v := p2) e2 dL_law_391 ?_
    refine jcalli (va_runV (As := [.int p1, .int p2]) (rest := []) ⟨hx, hb, hml, hown, hts⟩ (c_taste_out1 l D cI cJ x p1 p2 hq H.size) (cwV 2 hts gL_law_X6_taste rfl rfl rfl (by decide +kernel) ⟨Nat.le_of_ble_eq_true rfl, Nat.le_of_ble_eq_true rfl⟩) (jpreV hT (va_recv hK hP (ci := 6) (q0 := 0) rfl rfl) trivial) rfl rfl hl.1 rfl (lv_room (Nat.le_of_ble_eq_true rfl)) dL_law_392 ⟨(show cells + 0 ≤ 600000 by omega), (show slots + 0 ≤ 7302250 by omega)⟩) hS hA (fun r_1 H locs hw_r_1 hkq hS => ?_)
    try dsimp only at hw_r_1
    have hP := jkeep hP hkq
    have hJ := hJ.kept hkq
    subst hw_r_1
    refine lv_aload_n hx hb dL_law_395 rfl (lv_at hl 3 rfl) ?_
    refine lv_aload_n hx hb dL_law_396 rfl (lv_at hl 1 rfl) ?_
    refine lv_iload_n hx hb dL_law_397 rfl (lv_at hl 0 rfl) ?_
    refine lv_iconst (v := 1) hx hb dL_law_398 (by decide) ?_
    refine lv_iadd hx hb dL_law_399 ?_
    refine jv_as (y := nI ((4 * c9) + 1)) (nI_add (4 * c9) 1) ?_
    refine jv_sld hx hb hX hbl hbA hS (k := (4 * c9) + 1) (by omega) hL (v := p1) e1 dL_law_400 ?_
    refine lv_aload_n hx hb dL_law_401 rfl (lv_at hl 1 rfl) ?_
    refine lv_iload_n hx hb dL_law_402 rfl (lv_at hl 0 rfl) ?_
    refine lv_iconst (v := 2) hx hb dL_law_403 (by decide) ?_
    refine lv_iadd hx hb dL_law_404 ?_
    refine jv_as (y := nI ((4 * c9) + 2)) (nI_add (4 * c9) 2) ?_
    refine jv_sld hx hb hX hbl hbA hS (k := (4 * c9) + 2) (by omega) hL (v := p2) e2 dL_law_405 ?_
    refine jcalli (va_runV (As := [.int p1, .int p2]) (rest := [.int (-102)]) ⟨hx, hb, hml, hown, hts⟩ (c_mtaste_out1 l D cI cJ z p1 p2 hq H.size) (cwV 2 hts gL_law_X7_taste rfl rfl rfl (by decide +kernel) ⟨Nat.le_of_ble_eq_true rfl, Nat.le_of_ble_eq_true rfl⟩) (jpreV hT (va_recv hK hP (ci := 7) (q0 := 20) rfl rfl) trivial) rfl rfl hl.1 rfl (lv_room (Nat.le_of_ble_eq_true rfl)) dL_law_406 ⟨(show cells + 0 ≤ 600000 by omega), (show slots + 0 ≤ 7302250 by omega)⟩) hS hA (fun r_2 H locs hw_r_2 hkq hS => ?_)
    try dsimp only at hw_r_2
    have hP := jkeep hP hkq
    have hJ := hJ.kept hkq
    subst hw_r_2
    refine lv_icmp_eq (tgt := 559) hx hb dL_law_409 (by decide) (fun c_3 => ?_) (fun c_3 => ?_)
    · skip
      refine W.widen (k := cells + 6) (n := slots + 18) (by omega) (by omega) ?_
      exact kk H locs (fun X9 k9 => k9 n pn tn bd lr yr pg jr jk jg js jm ea lo jo sp en tY tW hi ky kea klo kjo kta ksp ken ktY ktW uy uea ulo ujo uta usp uen utY utW M nw Rw T C Tt sd Sv kl mky mkj mke mkk mkt KR KT hh hP hD hJ hap hn6 hpn htn hbd hyr (by omega) hRw hSp hBd hTt hKp) hS
    · skip
      exact absurd c_3 (by decide)
  · skip
    have h1 : ¬ p1 < 0 := fun h => hq (Or.inl h)
    have h2 : p1 ≤ 99 := jnlt (fun h => hq (Or.inr h))
    by_cases hw : p2 < -20 ∨ 30 < p2
    · skip
      refine lv_aload_n hx hb dL_law_381 rfl (lv_at hl 2 rfl) ?_
      refine lv_aload_n hx hb dL_law_382 rfl (lv_at hl 1 rfl) ?_
      refine lv_iload_n hx hb dL_law_383 rfl (lv_at hl 0 rfl) ?_
      refine lv_iconst (v := 1) hx hb dL_law_384 (by decide) ?_
      refine lv_iadd hx hb dL_law_385 ?_
      refine jv_as (y := nI ((4 * c9) + 1)) (nI_add (4 * c9) 1) ?_
      refine jv_sld hx hb hX hbl hbA hS (k := (4 * c9) + 1) (by omega) hL (v := p1) e1 dL_law_386 ?_
      refine lv_aload_n hx hb dL_law_387 rfl (lv_at hl 1 rfl) ?_
      refine lv_iload_n hx hb dL_law_388 rfl (lv_at hl 0 rfl) ?_
      refine lv_iconst (v := 2) hx hb dL_law_389 (by decide) ?_
      refine lv_iadd hx hb dL_law_390 ?_
      refine jv_as (y := nI ((4 * c9) + 2)) (nI_add (4 * c9) 2) ?_
      refine jv_sld hx hb hX hbl hbA hS (k := (4 * c9) + 2) (by omega) hL (v := p2) e2 dL_law_391 ?_
      refine jcalli (va_runV (As := [.int p1, .int p2]) (rest := []) ⟨hx, hb, hml, hown, hts⟩ (c_taste_out2 l D cI cJ x p1 p2 h1 h2 hw H.size) (cwV 2 hts gL_law_X6_taste rfl rfl rfl (by decide +kernel) ⟨Nat.le_of_ble_eq_true rfl, Nat.le_of_ble_eq_true rfl⟩) (jpreV hT (va_recv hK hP (ci := 6) (q0 := 0) rfl rfl) trivial) rfl rfl hl.1 rfl (lv_room (Nat.le_of_ble_eq_true rfl)) dL_law_392 ⟨(show cells + 0 ≤ 600000 by omega), (show slots + 0 ≤ 7302250 by omega)⟩) hS hA (fun r_4 H locs hw_r_4 hkq hS => ?_)
      try dsimp only at hw_r_4
      have hP := jkeep hP hkq
      have hJ := hJ.kept hkq
      subst hw_r_4
      refine lv_aload_n hx hb dL_law_395 rfl (lv_at hl 3 rfl) ?_
      refine lv_aload_n hx hb dL_law_396 rfl (lv_at hl 1 rfl) ?_
      refine lv_iload_n hx hb dL_law_397 rfl (lv_at hl 0 rfl) ?_
      refine lv_iconst (v := 1) hx hb dL_law_398 (by decide) ?_
      refine lv_iadd hx hb dL_law_399 ?_
      refine jv_as (y := nI ((4 * c9) + 1)) (nI_add (4 * c9) 1) ?_
      refine jv_sld hx hb hX hbl hbA hS (k := (4 * c9) + 1) (by omega) hL (v := p1) e1 dL_law_400 ?_
      refine lv_aload_n hx hb dL_law_401 rfl (lv_at hl 1 rfl) ?_
      refine lv_iload_n hx hb dL_law_402 rfl (lv_at hl 0 rfl) ?_
      refine lv_iconst (v := 2) hx hb dL_law_403 (by decide) ?_
      refine lv_iadd hx hb dL_law_404 ?_
      refine jv_as (y := nI ((4 * c9) + 2)) (nI_add (4 * c9) 2) ?_
      refine jv_sld hx hb hX hbl hbA hS (k := (4 * c9) + 2) (by omega) hL (v := p2) e2 dL_law_405 ?_
      refine jcalli (va_runV (As := [.int p1, .int p2]) (rest := [.int (-102)]) ⟨hx, hb, hml, hown, hts⟩ (c_mtaste_out2 l D cI cJ z p1 p2 (jnlt h1) h2 hw H.size) (cwV 2 hts gL_law_X7_taste rfl rfl rfl (by decide +kernel) ⟨Nat.le_of_ble_eq_true rfl, Nat.le_of_ble_eq_true rfl⟩) (jpreV hT (va_recv hK hP (ci := 7) (q0 := 20) rfl rfl) trivial) rfl rfl hl.1 rfl (lv_room (Nat.le_of_ble_eq_true rfl)) dL_law_406 ⟨(show cells + 0 ≤ 600000 by omega), (show slots + 0 ≤ 7302250 by omega)⟩) hS hA (fun r_5 H locs hw_r_5 hkq hS => ?_)
      try dsimp only at hw_r_5
      have hP := jkeep hP hkq
      have hJ := hJ.kept hkq
      subst hw_r_5
      refine lv_icmp_eq (tgt := 559) hx hb dL_law_409 (by decide) (fun c_6 => ?_) (fun c_6 => ?_)
      · skip
        refine W.widen (k := cells + 6) (n := slots + 18) (by omega) (by omega) ?_
        exact kk H locs (fun X9 k9 => k9 n pn tn bd lr yr pg jr jk jg js jm ea lo jo sp en tY tW hi ky kea klo kjo kta ksp ken ktY ktW uy uea ulo ujo uta usp uen utY utW M nw Rw T C Tt sd Sv kl mky mkj mke mkk mkt KR KT hh hP hD hJ hap hn6 hpn htn hbd hyr (by omega) hRw hSp hBd hTt hKp) hS
      · skip
        exact absurd c_6 (by decide)
    · skip
      have h3 : -20 ≤ p2 := jnlt (fun h => hw (Or.inl h))
      have h4 : p2 ≤ 30 := jnlt (fun h => hw (Or.inr h))
      by_cases ht : tn < 6
      · skip
        refine lv_aload_n hx hb dL_law_381 rfl (lv_at hl 2 rfl) ?_
        refine lv_aload_n hx hb dL_law_382 rfl (lv_at hl 1 rfl) ?_
        refine lv_iload_n hx hb dL_law_383 rfl (lv_at hl 0 rfl) ?_
        refine lv_iconst (v := 1) hx hb dL_law_384 (by decide) ?_
        refine lv_iadd hx hb dL_law_385 ?_
        refine jv_as (y := nI ((4 * c9) + 1)) (nI_add (4 * c9) 1) ?_
        refine jv_sld hx hb hX hbl hbA hS (k := (4 * c9) + 1) (by omega) hL (v := p1) e1 dL_law_386 ?_
        refine lv_aload_n hx hb dL_law_387 rfl (lv_at hl 1 rfl) ?_
        refine lv_iload_n hx hb dL_law_388 rfl (lv_at hl 0 rfl) ?_
        refine lv_iconst (v := 2) hx hb dL_law_389 (by decide) ?_
        refine lv_iadd hx hb dL_law_390 ?_
        refine jv_as (y := nI ((4 * c9) + 2)) (nI_add (4 * c9) 2) ?_
        refine jv_sld hx hb hX hbl hbA hS (k := (4 * c9) + 2) (by omega) hL (v := p2) e2 dL_law_391 ?_
        have hPc_7 := hP.sub (ws' := [(x, .inr (6, [.ref xp, .int (nI pn), .ref xj, .int (nI n), .ref xn, .ref xk, .ref xu, .int hi, .int (nI lr), .int (nI bd), .ref xm, .ref xw])), (xn, .inr (1, [.int (nI yr), .int ea, .int lo, .int jo, .int (nI tn), .ref ns, .ref ne, .ref n7, .ref n8])), (ns, .inl (cI, 6, .inl sp)), (ne, .inl (cI, 6, .inl en)), (n7, .inl (cI, 6, .inl tY)), (n8, .inl (cI, 6, .inl tW))]) [0, 3, 4, 5, 6, 7] rfl
        have hDc_8 := hD.sub (ws' := [(x, .inr (6, [.ref xp, .int (nI pn), .ref xj, .int (nI n), .ref xn, .ref xk, .ref xu, .int hi, .int (nI lr), .int (nI bd), .ref xm, .ref xw])), (xn, .inr (1, [.int (nI yr), .int ea, .int lo, .int jo, .int (nI tn), .ref ns, .ref ne, .ref n7, .ref n8])), (ns, .inl (cI, 6, .inl sp)), (ne, .inl (cI, 6, .inl en)), (n7, .inl (cI, 6, .inl tY)), (n8, .inl (cI, 6, .inl tW))]) [0, 3, 4, 5, 6, 7] (by decide) rfl
        have hFc_9 := va_free (wc := [(x, .inr (6, [.ref xp, .int (nI pn), .ref xj, .int (nI n), .ref xn, .ref xk, .ref xu, .int hi, .int (nI lr), .int (nI bd), .ref xm, .ref xw])), (xn, .inr (1, [.int (nI yr), .int ea, .int lo, .int jo, .int (nI tn), .ref ns, .ref ne, .ref n7, .ref n8])), (ns, .inl (cI, 6, .inl sp)), (ne, .inl (cI, 6, .inl en)), (n7, .inl (cI, 6, .inl tY)), (n8, .inl (cI, 6, .inl tW))]) hD hS hA [0, 3, 4, 5, 6, 7] rfl
        refine jcallWi (post := fun r H => r = nI (tn + 1) ∧ va_P D vwCl [(x, .inr (6, [(.ref xp), (.int (nI pn)), (.ref xj), (.int (nI n)), .ref xn, (.ref xk), (.ref xu), (.int hi), (.int (nI lr)), (.int (nI bd)), (.ref xm), (.ref xw)])), (xn, .inr (1, [.int (nI yr), .int ea, .int lo, .int jo, .int (nI (tn + 1)), .ref ns, .ref ne, .ref n7, .ref n8])), (ns, .inl (cI, 6, .inl sp)), (ne, .inl (cI, 6, .inl en)), (n7, .inl (cI, 6, .inl (upd tY tn p1))), (n8, .inl (cI, 6, .inl (upd tW tn p2)))] H) (va_runV (As := [.int p1, .int p2]) (rest := []) ⟨hx, hb, hml, hown, hts⟩ (c_taste_ok l D cI cJ x xn ns ne n7 n8 tn (.ref xp) (.int (nI pn)) (.ref xj) (.int (nI n)) (.ref xk) (.ref xu) (.int hi) (.int (nI lr)) (.int (nI bd)) (.ref xm) (.ref xw) (nI yr) ea lo jo sp en tY tW p1 p2 h1 h2 h3 h4 ht H.size) (cwV 2 hts gL_law_X6_taste rfl rfl rfl (by decide +kernel) ⟨Nat.le_of_ble_eq_true rfl, Nat.le_of_ble_eq_true rfl⟩) (jpreV hT (va_recv hK hP (ci := 6) (q0 := 0) rfl rfl) ⟨hPc_7, hDc_8.weaken (fun _ _ _ _ => trivial), trivial⟩) rfl rfl hl.1 rfl (lv_room (Nat.le_of_ble_eq_true rfl)) dL_law_392 ⟨(show cells + 0 ≤ 600000 by omega), (show slots + 0 ≤ 7302250 by omega)⟩) hS hFc_9 (fun r_10 H locs hw_r_10 hz hkq hS => ?_)
        obtain ⟨h1r, hP1⟩ := hw_r_10
        obtain ⟨hP, hD⟩ := jjoin (wc := [(x, .inr (6, [.ref xp, .int (nI pn), .ref xj, .int (nI n), .ref xn, .ref xk, .ref xu, .int hi, .int (nI lr), .int (nI bd), .ref xm, .ref xw])), (xn, .inr (1, [.int (nI yr), .int ea, .int lo, .int jo, .int (nI tn), .ref ns, .ref ne, .ref n7, .ref n8])), (ns, .inl (cI, 6, .inl sp)), (ne, .inl (cI, 6, .inl en)), (n7, .inl (cI, 6, .inl tY)), (n8, .inl (cI, 6, .inl tW))]) (wr := [(xp, .inl (cI, 25, .inl pg)), (xj, .inl (cJ, 6, .inr (.inr (.inr (.inr jr))))), (xk, .inr (1, [.int ky, .int kea, .int klo, .int kjo, .int kta, .ref k5, .ref k6, .ref k7, .ref k8])), (k5, .inl (cI, 6, .inl ksp)), (k6, .inl (cI, 6, .inl ken)), (k7, .inl (cI, 6, .inl ktY)), (k8, .inl (cI, 6, .inl ktW)), (xu, .inr (1, [.int uy, .int uea, .int ulo, .int ujo, .int uta, .ref w5, .ref w6, .ref w7, .ref w8])), (w5, .inl (cI, 6, .inl usp)), (w6, .inl (cI, 6, .inl uen)), (w7, .inl (cI, 6, .inl utY)), (w8, .inl (cI, 6, .inl utW)), (xm, .inl (cI, 91, .inl M)), (xw, .inl (cI, 6, .inl nw)), (z, .inr (7, [.ref zp, .int (nI pn), .int (nI n), .int (nI yr), .int jo, .int ea, .int lo, .int (nI lr), .ref zr, .int (nI bd), .ref zb, .ref zc, .int (nI tn), .ref zt, .int sd, .ref zv, .int kl, .int mky, .int mkj, .int mke, .int mkk, .int mkt, .ref zkr, .ref zkt, .long hh])), (zp, .inl (cI, 25, .inl pg)), (zr, .inl (cI, 30, .inl Rw)), (zb, .inl (cI, 91, .inl T)), (zc, .inl (cI, 6, .inl C)), (zt, .inl (cI, 12, .inl Tt)), (zv, .inl (cI, 30, .inl Sv)), (zkr, .inl (cI, 30, .inl KR)), (zkt, .inl (cI, 12, .inl KT))]) (w1 := [(x, .inr (6, [.ref xp, .int (nI pn), .ref xj, .int (nI n), .ref xn, .ref xk, .ref xu, .int hi, .int (nI lr), .int (nI bd), .ref xm, .ref xw])), (xn, .inr (1, [.int (nI yr), .int ea, .int lo, .int jo, .int (nI (tn + 1)), .ref ns, .ref ne, .ref n7, .ref n8])), (ns, .inl (cI, 6, .inl sp)), (ne, .inl (cI, 6, .inl en)), (n7, .inl (cI, 6, .inl (upd tY tn p1))), (n8, .inl (cI, 6, .inl (upd tW tn p2)))]) (ws' := [(x, .inr (6, [.ref xp, .int (nI pn), .ref xj, .int (nI n), .ref xn, .ref xk, .ref xu, .int hi, .int (nI lr), .int (nI bd), .ref xm, .ref xw])), (xp, .inl (cI, 25, .inl pg)), (xj, .inl (cJ, 6, .inr (.inr (.inr (.inr jr))))), (xn, .inr (1, [.int (nI yr), .int ea, .int lo, .int jo, .int (nI (tn + 1)), .ref ns, .ref ne, .ref n7, .ref n8])), (ns, .inl (cI, 6, .inl sp)), (ne, .inl (cI, 6, .inl en)), (n7, .inl (cI, 6, .inl (upd tY tn p1))), (n8, .inl (cI, 6, .inl (upd tW tn p2))), (xk, .inr (1, [.int ky, .int kea, .int klo, .int kjo, .int kta, .ref k5, .ref k6, .ref k7, .ref k8])), (k5, .inl (cI, 6, .inl ksp)), (k6, .inl (cI, 6, .inl ken)), (k7, .inl (cI, 6, .inl ktY)), (k8, .inl (cI, 6, .inl ktW)), (xu, .inr (1, [.int uy, .int uea, .int ulo, .int ujo, .int uta, .ref w5, .ref w6, .ref w7, .ref w8])), (w5, .inl (cI, 6, .inl usp)), (w6, .inl (cI, 6, .inl uen)), (w7, .inl (cI, 6, .inl utY)), (w8, .inl (cI, 6, .inl utW)), (xm, .inl (cI, 91, .inl M)), (xw, .inl (cI, 6, .inl nw)), (z, .inr (7, [.ref zp, .int (nI pn), .int (nI n), .int (nI yr), .int jo, .int ea, .int lo, .int (nI lr), .ref zr, .int (nI bd), .ref zb, .ref zc, .int (nI tn), .ref zt, .int sd, .ref zv, .int kl, .int mky, .int mkj, .int mke, .int mkk, .int mkt, .ref zkr, .ref zkt, .long hh])), (zp, .inl (cI, 25, .inl pg)), (zr, .inl (cI, 30, .inl Rw)), (zb, .inl (cI, 91, .inl T)), (zc, .inl (cI, 6, .inl C)), (zt, .inl (cI, 12, .inl Tt)), (zv, .inl (cI, 30, .inl Sv)), (zkr, .inl (cI, 30, .inl KR)), (zkt, .inl (cI, 12, .inl KT))]) hP hD hFc_9 [0, 3, 4, 5, 6, 7] [1, 2, 8, 9, 10, 11, 12, 13, 14, 15, 16, 17, 18, 19, 20, 21, 22, 23, 24, 25, 26, 27, 28] [23, 0, 1, 24, 25, 26, 27, 28, 2, 3, 4, 5, 6, 7, 8, 9, 10, 11, 12, 13, 14, 15, 16, 17, 18, 19, 20, 21, 22] rfl rfl (by decide) (by decide) (by decide) (by decide) hkq hP1 rfl rfl rfl
        have hJ := jJ.keptA (A := va_A [(x, .inr (6, [.ref xp, .int (nI pn), .ref xj, .int (nI n), .ref xn, .ref xk, .ref xu, .int hi, .int (nI lr), .int (nI bd), .ref xm, .ref xw])), (xn, .inr (1, [.int (nI yr), .int ea, .int lo, .int jo, .int (nI tn), .ref ns, .ref ne, .ref n7, .ref n8])), (ns, .inl (cI, 6, .inl sp)), (ne, .inl (cI, 6, .inl en)), (n7, .inl (cI, 6, .inl tY)), (n8, .inl (cI, 6, .inl tW))] _) hJ (fun i a h1 h2 => jap (hJ.lt h1 h2) (fun h => hap i a h1 h2 (jmem [0, 3, 4, 5, 6, 7] rfl h))) hkq
        refine lv_aload_n hx hb dL_law_395 rfl (lv_at hl 3 rfl) ?_
        refine lv_aload_n hx hb dL_law_396 rfl (lv_at hl 1 rfl) ?_
        refine lv_iload_n hx hb dL_law_397 rfl (lv_at hl 0 rfl) ?_
        refine lv_iconst (v := 1) hx hb dL_law_398 (by decide) ?_
        refine lv_iadd hx hb dL_law_399 ?_
        refine jv_as (y := nI ((4 * c9) + 1)) (nI_add (4 * c9) 1) ?_
        refine jv_sld hx hb hX hbl hbA hS (k := (4 * c9) + 1) (by omega) hL (v := p1) e1 dL_law_400 ?_
        refine lv_aload_n hx hb dL_law_401 rfl (lv_at hl 1 rfl) ?_
        refine lv_iload_n hx hb dL_law_402 rfl (lv_at hl 0 rfl) ?_
        refine lv_iconst (v := 2) hx hb dL_law_403 (by decide) ?_
        refine lv_iadd hx hb dL_law_404 ?_
        refine jv_as (y := nI ((4 * c9) + 2)) (nI_add (4 * c9) 2) ?_
        refine jv_sld hx hb hX hbl hbA hS (k := (4 * c9) + 2) (by omega) hL (v := p2) e2 dL_law_405 ?_
        have hPc_11 := hP.sub (ws' := [(z, .inr (7, [.ref zp, .int (nI pn), .int (nI n), .int (nI yr), .int jo, .int ea, .int lo, .int (nI lr), .ref zr, .int (nI bd), .ref zb, .ref zc, .int (nI tn), .ref zt, .int sd, .ref zv, .int kl, .int mky, .int mkj, .int mke, .int mkk, .int mkt, .ref zkr, .ref zkt, .long hh])), (zt, .inl (cI, 12, .inl Tt))]) [20, 25] rfl
        have hDc_12 := hD.sub (ws' := [(z, .inr (7, [.ref zp, .int (nI pn), .int (nI n), .int (nI yr), .int jo, .int ea, .int lo, .int (nI lr), .ref zr, .int (nI bd), .ref zb, .ref zc, .int (nI tn), .ref zt, .int sd, .ref zv, .int kl, .int mky, .int mkj, .int mke, .int mkk, .int mkt, .ref zkr, .ref zkt, .long hh])), (zt, .inl (cI, 12, .inl Tt))]) [20, 25] (by decide) rfl
        have hFc_13 := va_free (wc := [(z, .inr (7, [.ref zp, .int (nI pn), .int (nI n), .int (nI yr), .int jo, .int ea, .int lo, .int (nI lr), .ref zr, .int (nI bd), .ref zb, .ref zc, .int (nI tn), .ref zt, .int sd, .ref zv, .int kl, .int mky, .int mkj, .int mke, .int mkk, .int mkt, .ref zkr, .ref zkt, .long hh])), (zt, .inl (cI, 12, .inl Tt))]) hD hS hA [20, 25] rfl
        refine jcallWi (post := fun r H => r = nI (tn + 1) ∧ va_P D vwCl [(z, .inr (7, [(.ref zp), (.int (nI pn)), (.int (nI n)), (.int (nI yr)), (.int jo), (.int ea), (.int lo), (.int (nI lr)), (.ref zr), (.int (nI bd)), (.ref zb), (.ref zc), .int (nI (tn + 1)), .ref zt, (.int sd), (.ref zv), (.int kl), (.int mky), (.int mkj), (.int mke), (.int mkk), (.int mkt), (.ref zkr), (.ref zkt), (.long hh)])), (zt, .inl (cI, 12, .inl (upd (upd Tt (2 * tn) p1) (2 * tn + 1) p2)))] H) (va_runV (As := [.int p1, .int p2]) (rest := [.int r_10]) ⟨hx, hb, hml, hown, hts⟩ (c_mtaste_ok l D cI cJ z zt tn (.ref zp) (.int (nI pn)) (.int (nI n)) (.int (nI yr)) (.int jo) (.int ea) (.int lo) (.int (nI lr)) (.ref zr) (.int (nI bd)) (.ref zb) (.ref zc) (.int sd) (.ref zv) (.int kl) (.int mky) (.int mkj) (.int mke) (.int mkk) (.int mkt) (.ref zkr) (.ref zkt) (.long hh) Tt p1 p2 (jnlt h1) h2 h3 h4 ht H.size) (cwV 2 hts gL_law_X7_taste rfl rfl rfl (by decide +kernel) ⟨Nat.le_of_ble_eq_true rfl, Nat.le_of_ble_eq_true rfl⟩) (jpreV hT (va_recv hK hP (ci := 7) (q0 := 20) rfl rfl) ⟨hPc_11, hDc_12.weaken (fun _ _ _ _ => trivial), trivial⟩) rfl rfl hl.1 rfl (lv_room (Nat.le_of_ble_eq_true rfl)) dL_law_406 ⟨(show cells + 0 ≤ 600000 by omega), (show slots + 0 ≤ 7302250 by omega)⟩) hS hFc_13 (fun r_14 H locs hw_r_14 hz hkq hS => ?_)
        obtain ⟨h2r, hP1⟩ := hw_r_14
        obtain ⟨hP, hD⟩ := jjoin (wc := [(z, .inr (7, [.ref zp, .int (nI pn), .int (nI n), .int (nI yr), .int jo, .int ea, .int lo, .int (nI lr), .ref zr, .int (nI bd), .ref zb, .ref zc, .int (nI tn), .ref zt, .int sd, .ref zv, .int kl, .int mky, .int mkj, .int mke, .int mkk, .int mkt, .ref zkr, .ref zkt, .long hh])), (zt, .inl (cI, 12, .inl Tt))]) (wr := [(x, .inr (6, [.ref xp, .int (nI pn), .ref xj, .int (nI n), .ref xn, .ref xk, .ref xu, .int hi, .int (nI lr), .int (nI bd), .ref xm, .ref xw])), (xp, .inl (cI, 25, .inl pg)), (xj, .inl (cJ, 6, .inr (.inr (.inr (.inr jr))))), (xn, .inr (1, [.int (nI yr), .int ea, .int lo, .int jo, .int (nI (tn + 1)), .ref ns, .ref ne, .ref n7, .ref n8])), (ns, .inl (cI, 6, .inl sp)), (ne, .inl (cI, 6, .inl en)), (n7, .inl (cI, 6, .inl (upd tY tn p1))), (n8, .inl (cI, 6, .inl (upd tW tn p2))), (xk, .inr (1, [.int ky, .int kea, .int klo, .int kjo, .int kta, .ref k5, .ref k6, .ref k7, .ref k8])), (k5, .inl (cI, 6, .inl ksp)), (k6, .inl (cI, 6, .inl ken)), (k7, .inl (cI, 6, .inl ktY)), (k8, .inl (cI, 6, .inl ktW)), (xu, .inr (1, [.int uy, .int uea, .int ulo, .int ujo, .int uta, .ref w5, .ref w6, .ref w7, .ref w8])), (w5, .inl (cI, 6, .inl usp)), (w6, .inl (cI, 6, .inl uen)), (w7, .inl (cI, 6, .inl utY)), (w8, .inl (cI, 6, .inl utW)), (xm, .inl (cI, 91, .inl M)), (xw, .inl (cI, 6, .inl nw)), (zp, .inl (cI, 25, .inl pg)), (zr, .inl (cI, 30, .inl Rw)), (zb, .inl (cI, 91, .inl T)), (zc, .inl (cI, 6, .inl C)), (zv, .inl (cI, 30, .inl Sv)), (zkr, .inl (cI, 30, .inl KR)), (zkt, .inl (cI, 12, .inl KT))]) (w1 := [(z, .inr (7, [.ref zp, .int (nI pn), .int (nI n), .int (nI yr), .int jo, .int ea, .int lo, .int (nI lr), .ref zr, .int (nI bd), .ref zb, .ref zc, .int (nI (tn + 1)), .ref zt, .int sd, .ref zv, .int kl, .int mky, .int mkj, .int mke, .int mkk, .int mkt, .ref zkr, .ref zkt, .long hh])), (zt, .inl (cI, 12, .inl (upd (upd Tt (2 * tn) p1) (2 * tn + 1) p2)))]) (ws' := [(x, .inr (6, [.ref xp, .int (nI pn), .ref xj, .int (nI n), .ref xn, .ref xk, .ref xu, .int hi, .int (nI lr), .int (nI bd), .ref xm, .ref xw])), (xp, .inl (cI, 25, .inl pg)), (xj, .inl (cJ, 6, .inr (.inr (.inr (.inr jr))))), (xn, .inr (1, [.int (nI yr), .int ea, .int lo, .int jo, .int (nI (tn + 1)), .ref ns, .ref ne, .ref n7, .ref n8])), (ns, .inl (cI, 6, .inl sp)), (ne, .inl (cI, 6, .inl en)), (n7, .inl (cI, 6, .inl (upd tY tn p1))), (n8, .inl (cI, 6, .inl (upd tW tn p2))), (xk, .inr (1, [.int ky, .int kea, .int klo, .int kjo, .int kta, .ref k5, .ref k6, .ref k7, .ref k8])), (k5, .inl (cI, 6, .inl ksp)), (k6, .inl (cI, 6, .inl ken)), (k7, .inl (cI, 6, .inl ktY)), (k8, .inl (cI, 6, .inl ktW)), (xu, .inr (1, [.int uy, .int uea, .int ulo, .int ujo, .int uta, .ref w5, .ref w6, .ref w7, .ref w8])), (w5, .inl (cI, 6, .inl usp)), (w6, .inl (cI, 6, .inl uen)), (w7, .inl (cI, 6, .inl utY)), (w8, .inl (cI, 6, .inl utW)), (xm, .inl (cI, 91, .inl M)), (xw, .inl (cI, 6, .inl nw)), (z, .inr (7, [.ref zp, .int (nI pn), .int (nI n), .int (nI yr), .int jo, .int ea, .int lo, .int (nI lr), .ref zr, .int (nI bd), .ref zb, .ref zc, .int (nI (tn + 1)), .ref zt, .int sd, .ref zv, .int kl, .int mky, .int mkj, .int mke, .int mkk, .int mkt, .ref zkr, .ref zkt, .long hh])), (zp, .inl (cI, 25, .inl pg)), (zr, .inl (cI, 30, .inl Rw)), (zb, .inl (cI, 91, .inl T)), (zc, .inl (cI, 6, .inl C)), (zt, .inl (cI, 12, .inl (upd (upd Tt (2 * tn) p1) (2 * tn + 1) p2))), (zv, .inl (cI, 30, .inl Sv)), (zkr, .inl (cI, 30, .inl KR)), (zkt, .inl (cI, 12, .inl KT))]) hP hD hFc_13 [20, 25] [0, 1, 2, 3, 4, 5, 6, 7, 8, 9, 10, 11, 12, 13, 14, 15, 16, 17, 18, 19, 21, 22, 23, 24, 26, 27, 28] [0, 1, 2, 3, 4, 5, 6, 7, 8, 9, 10, 11, 12, 13, 14, 15, 16, 17, 18, 19, 27, 20, 21, 22, 23, 28, 24, 25, 26] rfl rfl (by decide) (by decide) (by decide) (by decide) hkq hP1 rfl rfl rfl
        have hJ := jJ.keptA (A := va_A [(z, .inr (7, [.ref zp, .int (nI pn), .int (nI n), .int (nI yr), .int jo, .int ea, .int lo, .int (nI lr), .ref zr, .int (nI bd), .ref zb, .ref zc, .int (nI tn), .ref zt, .int sd, .ref zv, .int kl, .int mky, .int mkj, .int mke, .int mkk, .int mkt, .ref zkr, .ref zkt, .long hh])), (zt, .inl (cI, 12, .inl Tt))] _) hJ (fun i a h1 h2 => jap (hJ.lt h1 h2) (fun h => hap i a h1 h2 (jmem [20, 25] rfl h))) hkq
        refine lv_icmp_eq (tgt := 559) hx hb dL_law_409 (by decide) (fun c_15 => ?_) (fun c_15 => ?_)
        · skip
          refine W.widen (k := cells + 6) (n := slots + 18) (by omega) (by omega) ?_
          exact kk H locs (fun X9 k9 => k9 n pn (tn + 1) bd lr yr pg jr jk jg js jm ea lo jo sp en (upd tY tn p1) (upd tW tn p2) hi ky kea klo kjo kta ksp ken ktY ktW uy uea ulo ujo uta usp uen utY utW M nw Rw T C (upd (upd Tt (2 * tn) p1) (2 * tn + 1) p2) sd Sv kl mky mkj mke mkk mkt KR KT hh hP hD hJ hap hn6 hpn (by omega) hbd hyr (by omega) hRw hSp hBd hTt.up hKp) hS
        · skip
          exact absurd (by rw [h1r, h2r]) c_15
      · skip
        refine lv_aload_n hx hb dL_law_381 rfl (lv_at hl 2 rfl) ?_
        refine lv_aload_n hx hb dL_law_382 rfl (lv_at hl 1 rfl) ?_
        refine lv_iload_n hx hb dL_law_383 rfl (lv_at hl 0 rfl) ?_
        refine lv_iconst (v := 1) hx hb dL_law_384 (by decide) ?_
        refine lv_iadd hx hb dL_law_385 ?_
        refine jv_as (y := nI ((4 * c9) + 1)) (nI_add (4 * c9) 1) ?_
        refine jv_sld hx hb hX hbl hbA hS (k := (4 * c9) + 1) (by omega) hL (v := p1) e1 dL_law_386 ?_
        refine lv_aload_n hx hb dL_law_387 rfl (lv_at hl 1 rfl) ?_
        refine lv_iload_n hx hb dL_law_388 rfl (lv_at hl 0 rfl) ?_
        refine lv_iconst (v := 2) hx hb dL_law_389 (by decide) ?_
        refine lv_iadd hx hb dL_law_390 ?_
        refine jv_as (y := nI ((4 * c9) + 2)) (nI_add (4 * c9) 2) ?_
        refine jv_sld hx hb hX hbl hbA hS (k := (4 * c9) + 2) (by omega) hL (v := p2) e2 dL_law_391 ?_
        have hPc_16 := hP.sub (ws' := [(x, .inr (6, [.ref xp, .int (nI pn), .ref xj, .int (nI n), .ref xn, .ref xk, .ref xu, .int hi, .int (nI lr), .int (nI bd), .ref xm, .ref xw])), (xn, .inr (1, [.int (nI yr), .int ea, .int lo, .int jo, .int (nI tn), .ref ns, .ref ne, .ref n7, .ref n8])), (ns, .inl (cI, 6, .inl sp)), (ne, .inl (cI, 6, .inl en)), (n7, .inl (cI, 6, .inl tY)), (n8, .inl (cI, 6, .inl tW))]) [0, 3, 4, 5, 6, 7] rfl
        have hDc_17 := hD.sub (ws' := [(x, .inr (6, [.ref xp, .int (nI pn), .ref xj, .int (nI n), .ref xn, .ref xk, .ref xu, .int hi, .int (nI lr), .int (nI bd), .ref xm, .ref xw])), (xn, .inr (1, [.int (nI yr), .int ea, .int lo, .int jo, .int (nI tn), .ref ns, .ref ne, .ref n7, .ref n8])), (ns, .inl (cI, 6, .inl sp)), (ne, .inl (cI, 6, .inl en)), (n7, .inl (cI, 6, .inl tY)), (n8, .inl (cI, 6, .inl tW))]) [0, 3, 4, 5, 6, 7] (by decide) rfl
        have hFc_18 := va_free (wc := [(x, .inr (6, [.ref xp, .int (nI pn), .ref xj, .int (nI n), .ref xn, .ref xk, .ref xu, .int hi, .int (nI lr), .int (nI bd), .ref xm, .ref xw])), (xn, .inr (1, [.int (nI yr), .int ea, .int lo, .int jo, .int (nI tn), .ref ns, .ref ne, .ref n7, .ref n8])), (ns, .inl (cI, 6, .inl sp)), (ne, .inl (cI, 6, .inl en)), (n7, .inl (cI, 6, .inl tY)), (n8, .inl (cI, 6, .inl tW))]) hD hS hA [0, 3, 4, 5, 6, 7] rfl
        refine jcallWi (post := fun r H => r = -104 ∧ va_P D vwCl [(x, .inr (6, [(.ref xp), (.int (nI pn)), (.ref xj), (.int (nI n)), .ref xn, (.ref xk), (.ref xu), (.int hi), (.int (nI lr)), (.int (nI bd)), (.ref xm), (.ref xw)])), (xn, .inr (1, [.int (nI yr), .int ea, .int lo, .int jo, .int (nI tn), .ref ns, .ref ne, .ref n7, .ref n8])), (ns, .inl (cI, 6, .inl sp)), (ne, .inl (cI, 6, .inl en)), (n7, .inl (cI, 6, .inl tY)), (n8, .inl (cI, 6, .inl tW))] H) (va_runV (As := [.int p1, .int p2]) (rest := []) ⟨hx, hb, hml, hown, hts⟩ (c_taste_full l D cI cJ x xn ns ne n7 n8 tn (.ref xp) (.int (nI pn)) (.ref xj) (.int (nI n)) (.ref xk) (.ref xu) (.int hi) (.int (nI lr)) (.int (nI bd)) (.ref xm) (.ref xw) (nI yr) ea lo jo sp en tY tW p1 p2 h1 h2 h3 h4 (by omega) H.size) (cwV 2 hts gL_law_X6_taste rfl rfl rfl (by decide +kernel) ⟨Nat.le_of_ble_eq_true rfl, Nat.le_of_ble_eq_true rfl⟩) (jpreV hT (va_recv hK hP (ci := 6) (q0 := 0) rfl rfl) ⟨hPc_16, hDc_17.weaken (fun _ _ _ _ => trivial), trivial⟩) rfl rfl hl.1 rfl (lv_room (Nat.le_of_ble_eq_true rfl)) dL_law_392 ⟨(show cells + 0 ≤ 600000 by omega), (show slots + 0 ≤ 7302250 by omega)⟩) hS hFc_18 (fun r_19 H locs hw_r_19 hz hkq hS => ?_)
        obtain ⟨h1r, hP1⟩ := hw_r_19
        obtain ⟨hP, hD⟩ := jjoin (wc := [(x, .inr (6, [.ref xp, .int (nI pn), .ref xj, .int (nI n), .ref xn, .ref xk, .ref xu, .int hi, .int (nI lr), .int (nI bd), .ref xm, .ref xw])), (xn, .inr (1, [.int (nI yr), .int ea, .int lo, .int jo, .int (nI tn), .ref ns, .ref ne, .ref n7, .ref n8])), (ns, .inl (cI, 6, .inl sp)), (ne, .inl (cI, 6, .inl en)), (n7, .inl (cI, 6, .inl tY)), (n8, .inl (cI, 6, .inl tW))]) (wr := [(xp, .inl (cI, 25, .inl pg)), (xj, .inl (cJ, 6, .inr (.inr (.inr (.inr jr))))), (xk, .inr (1, [.int ky, .int kea, .int klo, .int kjo, .int kta, .ref k5, .ref k6, .ref k7, .ref k8])), (k5, .inl (cI, 6, .inl ksp)), (k6, .inl (cI, 6, .inl ken)), (k7, .inl (cI, 6, .inl ktY)), (k8, .inl (cI, 6, .inl ktW)), (xu, .inr (1, [.int uy, .int uea, .int ulo, .int ujo, .int uta, .ref w5, .ref w6, .ref w7, .ref w8])), (w5, .inl (cI, 6, .inl usp)), (w6, .inl (cI, 6, .inl uen)), (w7, .inl (cI, 6, .inl utY)), (w8, .inl (cI, 6, .inl utW)), (xm, .inl (cI, 91, .inl M)), (xw, .inl (cI, 6, .inl nw)), (z, .inr (7, [.ref zp, .int (nI pn), .int (nI n), .int (nI yr), .int jo, .int ea, .int lo, .int (nI lr), .ref zr, .int (nI bd), .ref zb, .ref zc, .int (nI tn), .ref zt, .int sd, .ref zv, .int kl, .int mky, .int mkj, .int mke, .int mkk, .int mkt, .ref zkr, .ref zkt, .long hh])), (zp, .inl (cI, 25, .inl pg)), (zr, .inl (cI, 30, .inl Rw)), (zb, .inl (cI, 91, .inl T)), (zc, .inl (cI, 6, .inl C)), (zt, .inl (cI, 12, .inl Tt)), (zv, .inl (cI, 30, .inl Sv)), (zkr, .inl (cI, 30, .inl KR)), (zkt, .inl (cI, 12, .inl KT))]) (w1 := [(x, .inr (6, [.ref xp, .int (nI pn), .ref xj, .int (nI n), .ref xn, .ref xk, .ref xu, .int hi, .int (nI lr), .int (nI bd), .ref xm, .ref xw])), (xn, .inr (1, [.int (nI yr), .int ea, .int lo, .int jo, .int (nI tn), .ref ns, .ref ne, .ref n7, .ref n8])), (ns, .inl (cI, 6, .inl sp)), (ne, .inl (cI, 6, .inl en)), (n7, .inl (cI, 6, .inl tY)), (n8, .inl (cI, 6, .inl tW))]) (ws' := [(x, .inr (6, [.ref xp, .int (nI pn), .ref xj, .int (nI n), .ref xn, .ref xk, .ref xu, .int hi, .int (nI lr), .int (nI bd), .ref xm, .ref xw])), (xp, .inl (cI, 25, .inl pg)), (xj, .inl (cJ, 6, .inr (.inr (.inr (.inr jr))))), (xn, .inr (1, [.int (nI yr), .int ea, .int lo, .int jo, .int (nI tn), .ref ns, .ref ne, .ref n7, .ref n8])), (ns, .inl (cI, 6, .inl sp)), (ne, .inl (cI, 6, .inl en)), (n7, .inl (cI, 6, .inl tY)), (n8, .inl (cI, 6, .inl tW)), (xk, .inr (1, [.int ky, .int kea, .int klo, .int kjo, .int kta, .ref k5, .ref k6, .ref k7, .ref k8])), (k5, .inl (cI, 6, .inl ksp)), (k6, .inl (cI, 6, .inl ken)), (k7, .inl (cI, 6, .inl ktY)), (k8, .inl (cI, 6, .inl ktW)), (xu, .inr (1, [.int uy, .int uea, .int ulo, .int ujo, .int uta, .ref w5, .ref w6, .ref w7, .ref w8])), (w5, .inl (cI, 6, .inl usp)), (w6, .inl (cI, 6, .inl uen)), (w7, .inl (cI, 6, .inl utY)), (w8, .inl (cI, 6, .inl utW)), (xm, .inl (cI, 91, .inl M)), (xw, .inl (cI, 6, .inl nw)), (z, .inr (7, [.ref zp, .int (nI pn), .int (nI n), .int (nI yr), .int jo, .int ea, .int lo, .int (nI lr), .ref zr, .int (nI bd), .ref zb, .ref zc, .int (nI tn), .ref zt, .int sd, .ref zv, .int kl, .int mky, .int mkj, .int mke, .int mkk, .int mkt, .ref zkr, .ref zkt, .long hh])), (zp, .inl (cI, 25, .inl pg)), (zr, .inl (cI, 30, .inl Rw)), (zb, .inl (cI, 91, .inl T)), (zc, .inl (cI, 6, .inl C)), (zt, .inl (cI, 12, .inl Tt)), (zv, .inl (cI, 30, .inl Sv)), (zkr, .inl (cI, 30, .inl KR)), (zkt, .inl (cI, 12, .inl KT))]) hP hD hFc_18 [0, 3, 4, 5, 6, 7] [1, 2, 8, 9, 10, 11, 12, 13, 14, 15, 16, 17, 18, 19, 20, 21, 22, 23, 24, 25, 26, 27, 28] [23, 0, 1, 24, 25, 26, 27, 28, 2, 3, 4, 5, 6, 7, 8, 9, 10, 11, 12, 13, 14, 15, 16, 17, 18, 19, 20, 21, 22] rfl rfl (by decide) (by decide) (by decide) (by decide) hkq hP1 rfl rfl rfl
        have hJ := jJ.keptA (A := va_A [(x, .inr (6, [.ref xp, .int (nI pn), .ref xj, .int (nI n), .ref xn, .ref xk, .ref xu, .int hi, .int (nI lr), .int (nI bd), .ref xm, .ref xw])), (xn, .inr (1, [.int (nI yr), .int ea, .int lo, .int jo, .int (nI tn), .ref ns, .ref ne, .ref n7, .ref n8])), (ns, .inl (cI, 6, .inl sp)), (ne, .inl (cI, 6, .inl en)), (n7, .inl (cI, 6, .inl tY)), (n8, .inl (cI, 6, .inl tW))] _) hJ (fun i a h1 h2 => jap (hJ.lt h1 h2) (fun h => hap i a h1 h2 (jmem [0, 3, 4, 5, 6, 7] rfl h))) hkq
        refine lv_aload_n hx hb dL_law_395 rfl (lv_at hl 3 rfl) ?_
        refine lv_aload_n hx hb dL_law_396 rfl (lv_at hl 1 rfl) ?_
        refine lv_iload_n hx hb dL_law_397 rfl (lv_at hl 0 rfl) ?_
        refine lv_iconst (v := 1) hx hb dL_law_398 (by decide) ?_
        refine lv_iadd hx hb dL_law_399 ?_
        refine jv_as (y := nI ((4 * c9) + 1)) (nI_add (4 * c9) 1) ?_
        refine jv_sld hx hb hX hbl hbA hS (k := (4 * c9) + 1) (by omega) hL (v := p1) e1 dL_law_400 ?_
        refine lv_aload_n hx hb dL_law_401 rfl (lv_at hl 1 rfl) ?_
        refine lv_iload_n hx hb dL_law_402 rfl (lv_at hl 0 rfl) ?_
        refine lv_iconst (v := 2) hx hb dL_law_403 (by decide) ?_
        refine lv_iadd hx hb dL_law_404 ?_
        refine jv_as (y := nI ((4 * c9) + 2)) (nI_add (4 * c9) 2) ?_
        refine jv_sld hx hb hX hbl hbA hS (k := (4 * c9) + 2) (by omega) hL (v := p2) e2 dL_law_405 ?_
        have hPc_20 := hP.sub (ws' := [(z, .inr (7, [.ref zp, .int (nI pn), .int (nI n), .int (nI yr), .int jo, .int ea, .int lo, .int (nI lr), .ref zr, .int (nI bd), .ref zb, .ref zc, .int (nI tn), .ref zt, .int sd, .ref zv, .int kl, .int mky, .int mkj, .int mke, .int mkk, .int mkt, .ref zkr, .ref zkt, .long hh])), (zt, .inl (cI, 12, .inl Tt))]) [20, 25] rfl
        refine jcalli (va_runV (As := [.int p1, .int p2]) (rest := [.int r_19]) ⟨hx, hb, hml, hown, hts⟩ (c_mtaste_full l D cI cJ z zt tn (.ref zp) (.int (nI pn)) (.int (nI n)) (.int (nI yr)) (.int jo) (.int ea) (.int lo) (.int (nI lr)) (.ref zr) (.int (nI bd)) (.ref zb) (.ref zc) (.int sd) (.ref zv) (.int kl) (.int mky) (.int mkj) (.int mke) (.int mkk) (.int mkt) (.ref zkr) (.ref zkt) (.long hh) Tt p1 p2 (jnlt h1) h2 h3 h4 (by omega) H.size) (cwV 2 hts gL_law_X7_taste rfl rfl rfl (by decide +kernel) ⟨Nat.le_of_ble_eq_true rfl, Nat.le_of_ble_eq_true rfl⟩) (jpreV hT (va_recv hK hP (ci := 7) (q0 := 20) rfl rfl) hPc_20) rfl rfl hl.1 rfl (lv_room (Nat.le_of_ble_eq_true rfl)) dL_law_406 ⟨(show cells + 0 ≤ 600000 by omega), (show slots + 0 ≤ 7302250 by omega)⟩) hS hA (fun r_21 H locs hw_r_21 hkq hS => ?_)
        try dsimp only at hw_r_21
        have hP := jkeep hP hkq
        have hJ := hJ.kept hkq
        subst hw_r_21
        refine lv_icmp_eq (tgt := 559) hx hb dL_law_409 (by decide) (fun c_22 => ?_) (fun c_22 => ?_)
        · skip
          refine W.widen (k := cells + 6) (n := slots + 18) (by omega) (by omega) ?_
          exact kk H locs (fun X9 k9 => k9 n pn tn bd lr yr pg jr jk jg js jm ea lo jo sp en tY tW hi ky kea klo kjo kta ksp ken ktY ktW uy uea ulo ujo uta usp uen utY utW M nw Rw T C Tt sd Sv kl mky mkj mke mkk mkt KR KT hh hP hD hJ hap hn6 hpn htn hbd hyr (by omega) hRw hSp hBd hTt hKp) hS
        · skip
          exact absurd (by rw [h1r]) c_22

set_option maxHeartbeats 8000000 in
set_option maxRecDepth 100000 in
theorem law_forget (l : Launch) (hC : jCx p s m c b L xs D cI cJ A) (hc9 : 4 * c9 + 4 ≤ L) (hcl : cells + 6 ≤ 600000) (hsl : slots + 18 ≤ 7302250) (hS : va_S A s.heap H locs) (hl : lv_has ls 4 [(3, .int (nI (4 * c9))), (0, .ref b), (1, .ref x), (2, .ref z)]) (hI : jAll D cI cJ A x xp xj xn ns ne n7 n8 xk k5 k6 k7 k8 xu w5 w6 w7 w8 xm xw z zp zr zb zc zt zv zkr zkt c9 H)
    (kk : ∀ (H' : Heap) (locs' : List Loc), jAll D cI cJ A x xp xj xn ns ne n7 n8 xk k5 k6 k7 k8 xu w5 w6 w7 w8 xm xw z zp zr zb zc zt zv zkr zkt (c9 + 1) H' → va_S A s.heap H' locs' → W p l e room_1 s m #[Value.ref b] below meth c H' locs' (cells + 6) (slots + 18) Q (F0 m 559 ls [])) : W p l e room_1 s m #[Value.ref b] below meth c H locs cells slots Q (F0 m 414 ls []) := by
  obtain ⟨hx, hb, hml, hown, htT, hX, hbl, hT, hA, hbA, hL⟩ := hC
  have hK := hT.1
  have hts : ∀ w ∈ wsL_law, w.before #[Value.ref b] s = true := fun w h => htT w (wsL_law_in w h)
  refine hI _ (fun n pn tn bd lr yr pg jr jk jg js jm ea lo jo sp en tY tW hi ky kea klo kjo kta ksp ken ktY ktW uy uea ulo ujo uta usp uen utY utW M nw Rw T C Tt sd Sv kl mky mkj mke mkk mkt KR KT hh hP hD hJ hap hn6 hpn htn hbd hyr hlr hRw hSp hBd hTt hKp => ?_)
  obtain ⟨p1, e1⟩ : ∃ v : Int32, v = xs (4 * c9 + 1) := ⟨_, rfl⟩
  obtain ⟨p2, e2⟩ : ∃ v : Int32, v = xs (4 * c9 + 2) := ⟨_, rfl⟩
  obtain ⟨p3, e3⟩ : ∃ v : Int32, v = xs (4 * c9 + 3) := ⟨_, rfl⟩
  refine lv_aload_n hx hb dL_law_414 rfl (lv_at hl 2 rfl) ?_
  have hPc_1 := hP.sub (ws' := [(x, .inr (6, [.ref xp, .int (nI pn), .ref xj, .int (nI n), .ref xn, .ref xk, .ref xu, .int hi, .int (nI lr), .int (nI bd), .ref xm, .ref xw])), (xn, .inr (1, [.int (nI yr), .int ea, .int lo, .int jo, .int (nI tn), .ref ns, .ref ne, .ref n7, .ref n8]))]) [0, 3] rfl
  have hDc_2 := hD.sub (ws' := [(x, .inr (6, [.ref xp, .int (nI pn), .ref xj, .int (nI n), .ref xn, .ref xk, .ref xu, .int hi, .int (nI lr), .int (nI bd), .ref xm, .ref xw])), (xn, .inr (1, [.int (nI yr), .int ea, .int lo, .int jo, .int (nI tn), .ref ns, .ref ne, .ref n7, .ref n8]))]) [0, 3] (by decide) rfl
  have hFc_3 := va_free (wc := [(x, .inr (6, [.ref xp, .int (nI pn), .ref xj, .int (nI n), .ref xn, .ref xk, .ref xu, .int hi, .int (nI lr), .int (nI bd), .ref xm, .ref xw])), (xn, .inr (1, [.int (nI yr), .int ea, .int lo, .int jo, .int (nI tn), .ref ns, .ref ne, .ref n7, .ref n8]))]) hD hS hA [0, 3] rfl
  refine jcallWi (post := fun r H => r = nI tn ∧ va_P D vwCl [(x, .inr (6, [(.ref xp), (.int (nI pn)), (.ref xj), (.int (nI n)), .ref xn, (.ref xk), (.ref xu), (.int hi), (.int (nI lr)), (.int (nI bd)), (.ref xm), (.ref xw)])), (xn, .inr (1, [(.int (nI yr)), (.int ea), (.int lo), (.int jo), .int 0, (.ref ns), (.ref ne), (.ref n7), (.ref n8)]))] H) (va_runV (As := []) (rest := []) ⟨hx, hb, hml, hown, hts⟩ (c_forget l D cI cJ x xn tn (.ref xp) (.int (nI pn)) (.ref xj) (.int (nI n)) (.ref xk) (.ref xu) (.int hi) (.int (nI lr)) (.int (nI bd)) (.ref xm) (.ref xw) (.int (nI yr)) (.int ea) (.int lo) (.int jo) (.ref ns) (.ref ne) (.ref n7) (.ref n8) H.size) (cwV 0 hts gL_law_X6_forget rfl rfl rfl (by decide +kernel) ⟨Nat.le_of_ble_eq_true rfl, Nat.le_of_ble_eq_true rfl⟩) (jpreV hT (va_recv hK hP (ci := 6) (q0 := 0) rfl rfl) ⟨hPc_1, hDc_2.weaken (fun _ _ _ _ => trivial), trivial⟩) rfl rfl hl.1 rfl (lv_room (Nat.le_of_ble_eq_true rfl)) dL_law_415 ⟨(show cells + 0 ≤ 600000 by omega), (show slots + 0 ≤ 7302250 by omega)⟩) hS hFc_3 (fun r_4 H locs hw_r_4 hz hkq hS => ?_)
  obtain ⟨h1r, hP1⟩ := hw_r_4
  obtain ⟨hP, hD⟩ := jjoin (wc := [(x, .inr (6, [.ref xp, .int (nI pn), .ref xj, .int (nI n), .ref xn, .ref xk, .ref xu, .int hi, .int (nI lr), .int (nI bd), .ref xm, .ref xw])), (xn, .inr (1, [.int (nI yr), .int ea, .int lo, .int jo, .int (nI tn), .ref ns, .ref ne, .ref n7, .ref n8]))]) (wr := [(xp, .inl (cI, 25, .inl pg)), (xj, .inl (cJ, 6, .inr (.inr (.inr (.inr jr))))), (ns, .inl (cI, 6, .inl sp)), (ne, .inl (cI, 6, .inl en)), (n7, .inl (cI, 6, .inl tY)), (n8, .inl (cI, 6, .inl tW)), (xk, .inr (1, [.int ky, .int kea, .int klo, .int kjo, .int kta, .ref k5, .ref k6, .ref k7, .ref k8])), (k5, .inl (cI, 6, .inl ksp)), (k6, .inl (cI, 6, .inl ken)), (k7, .inl (cI, 6, .inl ktY)), (k8, .inl (cI, 6, .inl ktW)), (xu, .inr (1, [.int uy, .int uea, .int ulo, .int ujo, .int uta, .ref w5, .ref w6, .ref w7, .ref w8])), (w5, .inl (cI, 6, .inl usp)), (w6, .inl (cI, 6, .inl uen)), (w7, .inl (cI, 6, .inl utY)), (w8, .inl (cI, 6, .inl utW)), (xm, .inl (cI, 91, .inl M)), (xw, .inl (cI, 6, .inl nw)), (z, .inr (7, [.ref zp, .int (nI pn), .int (nI n), .int (nI yr), .int jo, .int ea, .int lo, .int (nI lr), .ref zr, .int (nI bd), .ref zb, .ref zc, .int (nI tn), .ref zt, .int sd, .ref zv, .int kl, .int mky, .int mkj, .int mke, .int mkk, .int mkt, .ref zkr, .ref zkt, .long hh])), (zp, .inl (cI, 25, .inl pg)), (zr, .inl (cI, 30, .inl Rw)), (zb, .inl (cI, 91, .inl T)), (zc, .inl (cI, 6, .inl C)), (zt, .inl (cI, 12, .inl Tt)), (zv, .inl (cI, 30, .inl Sv)), (zkr, .inl (cI, 30, .inl KR)), (zkt, .inl (cI, 12, .inl KT))]) (w1 := [(x, .inr (6, [.ref xp, .int (nI pn), .ref xj, .int (nI n), .ref xn, .ref xk, .ref xu, .int hi, .int (nI lr), .int (nI bd), .ref xm, .ref xw])), (xn, .inr (1, [.int (nI yr), .int ea, .int lo, .int jo, .int 0, .ref ns, .ref ne, .ref n7, .ref n8]))]) (ws' := [(x, .inr (6, [.ref xp, .int (nI pn), .ref xj, .int (nI n), .ref xn, .ref xk, .ref xu, .int hi, .int (nI lr), .int (nI bd), .ref xm, .ref xw])), (xp, .inl (cI, 25, .inl pg)), (xj, .inl (cJ, 6, .inr (.inr (.inr (.inr jr))))), (xn, .inr (1, [.int (nI yr), .int ea, .int lo, .int jo, .int 0, .ref ns, .ref ne, .ref n7, .ref n8])), (ns, .inl (cI, 6, .inl sp)), (ne, .inl (cI, 6, .inl en)), (n7, .inl (cI, 6, .inl tY)), (n8, .inl (cI, 6, .inl tW)), (xk, .inr (1, [.int ky, .int kea, .int klo, .int kjo, .int kta, .ref k5, .ref k6, .ref k7, .ref k8])), (k5, .inl (cI, 6, .inl ksp)), (k6, .inl (cI, 6, .inl ken)), (k7, .inl (cI, 6, .inl ktY)), (k8, .inl (cI, 6, .inl ktW)), (xu, .inr (1, [.int uy, .int uea, .int ulo, .int ujo, .int uta, .ref w5, .ref w6, .ref w7, .ref w8])), (w5, .inl (cI, 6, .inl usp)), (w6, .inl (cI, 6, .inl uen)), (w7, .inl (cI, 6, .inl utY)), (w8, .inl (cI, 6, .inl utW)), (xm, .inl (cI, 91, .inl M)), (xw, .inl (cI, 6, .inl nw)), (z, .inr (7, [.ref zp, .int (nI pn), .int (nI n), .int (nI yr), .int jo, .int ea, .int lo, .int (nI lr), .ref zr, .int (nI bd), .ref zb, .ref zc, .int (nI tn), .ref zt, .int sd, .ref zv, .int kl, .int mky, .int mkj, .int mke, .int mkk, .int mkt, .ref zkr, .ref zkt, .long hh])), (zp, .inl (cI, 25, .inl pg)), (zr, .inl (cI, 30, .inl Rw)), (zb, .inl (cI, 91, .inl T)), (zc, .inl (cI, 6, .inl C)), (zt, .inl (cI, 12, .inl Tt)), (zv, .inl (cI, 30, .inl Sv)), (zkr, .inl (cI, 30, .inl KR)), (zkt, .inl (cI, 12, .inl KT))]) hP hD hFc_3 [0, 3] [1, 2, 4, 5, 6, 7, 8, 9, 10, 11, 12, 13, 14, 15, 16, 17, 18, 19, 20, 21, 22, 23, 24, 25, 26, 27, 28] [27, 0, 1, 28, 2, 3, 4, 5, 6, 7, 8, 9, 10, 11, 12, 13, 14, 15, 16, 17, 18, 19, 20, 21, 22, 23, 24, 25, 26] rfl rfl (by decide) (by decide) (by decide) (by decide) hkq hP1 rfl rfl rfl
  have hJ := jJ.keptA (A := va_A [(x, .inr (6, [.ref xp, .int (nI pn), .ref xj, .int (nI n), .ref xn, .ref xk, .ref xu, .int hi, .int (nI lr), .int (nI bd), .ref xm, .ref xw])), (xn, .inr (1, [.int (nI yr), .int ea, .int lo, .int jo, .int (nI tn), .ref ns, .ref ne, .ref n7, .ref n8]))] _) hJ (fun i a h1 h2 => jap (hJ.lt h1 h2) (fun h => hap i a h1 h2 (jmem [0, 3] rfl h))) hkq
  refine lv_aload_n hx hb dL_law_418 rfl (lv_at hl 3 rfl) ?_
  have hPc_5 := hP.sub (ws' := [(z, .inr (7, [.ref zp, .int (nI pn), .int (nI n), .int (nI yr), .int jo, .int ea, .int lo, .int (nI lr), .ref zr, .int (nI bd), .ref zb, .ref zc, .int (nI tn), .ref zt, .int sd, .ref zv, .int kl, .int mky, .int mkj, .int mke, .int mkk, .int mkt, .ref zkr, .ref zkt, .long hh]))]) [20] rfl
  have hDc_6 := hD.sub (ws' := [(z, .inr (7, [.ref zp, .int (nI pn), .int (nI n), .int (nI yr), .int jo, .int ea, .int lo, .int (nI lr), .ref zr, .int (nI bd), .ref zb, .ref zc, .int (nI tn), .ref zt, .int sd, .ref zv, .int kl, .int mky, .int mkj, .int mke, .int mkk, .int mkt, .ref zkr, .ref zkt, .long hh]))]) [20] (by decide) rfl
  have hFc_7 := va_free (wc := [(z, .inr (7, [.ref zp, .int (nI pn), .int (nI n), .int (nI yr), .int jo, .int ea, .int lo, .int (nI lr), .ref zr, .int (nI bd), .ref zb, .ref zc, .int (nI tn), .ref zt, .int sd, .ref zv, .int kl, .int mky, .int mkj, .int mke, .int mkk, .int mkt, .ref zkr, .ref zkt, .long hh]))]) hD hS hA [20] rfl
  refine jcallWi (post := fun r H => r = nI tn ∧ va_P D vwCl [(z, .inr (7, [(.ref zp), (.int (nI pn)), (.int (nI n)), (.int (nI yr)), (.int jo), (.int ea), (.int lo), (.int (nI lr)), (.ref zr), (.int (nI bd)), (.ref zb), (.ref zc), .int 0, (.ref zt), (.int sd), (.ref zv), (.int kl), (.int mky), (.int mkj), (.int mke), (.int mkk), (.int mkt), (.ref zkr), (.ref zkt), (.long hh)]))] H) (va_runV (As := []) (rest := [.int r_4]) ⟨hx, hb, hml, hown, hts⟩ (c_mforget l D cI cJ z tn (.ref zp) (.int (nI pn)) (.int (nI n)) (.int (nI yr)) (.int jo) (.int ea) (.int lo) (.int (nI lr)) (.ref zr) (.int (nI bd)) (.ref zb) (.ref zc) (.ref zt) (.int sd) (.ref zv) (.int kl) (.int mky) (.int mkj) (.int mke) (.int mkk) (.int mkt) (.ref zkr) (.ref zkt) (.long hh) H.size) (cwV 0 hts gL_law_X7_forget rfl rfl rfl (by decide +kernel) ⟨Nat.le_of_ble_eq_true rfl, Nat.le_of_ble_eq_true rfl⟩) (jpreV hT (va_recv hK hP (ci := 7) (q0 := 20) rfl rfl) ⟨hPc_5, hDc_6.weaken (fun _ _ _ _ => trivial), trivial⟩) rfl rfl hl.1 rfl (lv_room (Nat.le_of_ble_eq_true rfl)) dL_law_419 ⟨(show cells + 0 ≤ 600000 by omega), (show slots + 0 ≤ 7302250 by omega)⟩) hS hFc_7 (fun r_8 H locs hw_r_8 hz hkq hS => ?_)
  obtain ⟨h2r, hP1⟩ := hw_r_8
  obtain ⟨hP, hD⟩ := jjoin (wc := [(z, .inr (7, [.ref zp, .int (nI pn), .int (nI n), .int (nI yr), .int jo, .int ea, .int lo, .int (nI lr), .ref zr, .int (nI bd), .ref zb, .ref zc, .int (nI tn), .ref zt, .int sd, .ref zv, .int kl, .int mky, .int mkj, .int mke, .int mkk, .int mkt, .ref zkr, .ref zkt, .long hh]))]) (wr := [(x, .inr (6, [.ref xp, .int (nI pn), .ref xj, .int (nI n), .ref xn, .ref xk, .ref xu, .int hi, .int (nI lr), .int (nI bd), .ref xm, .ref xw])), (xp, .inl (cI, 25, .inl pg)), (xj, .inl (cJ, 6, .inr (.inr (.inr (.inr jr))))), (xn, .inr (1, [.int (nI yr), .int ea, .int lo, .int jo, .int 0, .ref ns, .ref ne, .ref n7, .ref n8])), (ns, .inl (cI, 6, .inl sp)), (ne, .inl (cI, 6, .inl en)), (n7, .inl (cI, 6, .inl tY)), (n8, .inl (cI, 6, .inl tW)), (xk, .inr (1, [.int ky, .int kea, .int klo, .int kjo, .int kta, .ref k5, .ref k6, .ref k7, .ref k8])), (k5, .inl (cI, 6, .inl ksp)), (k6, .inl (cI, 6, .inl ken)), (k7, .inl (cI, 6, .inl ktY)), (k8, .inl (cI, 6, .inl ktW)), (xu, .inr (1, [.int uy, .int uea, .int ulo, .int ujo, .int uta, .ref w5, .ref w6, .ref w7, .ref w8])), (w5, .inl (cI, 6, .inl usp)), (w6, .inl (cI, 6, .inl uen)), (w7, .inl (cI, 6, .inl utY)), (w8, .inl (cI, 6, .inl utW)), (xm, .inl (cI, 91, .inl M)), (xw, .inl (cI, 6, .inl nw)), (zp, .inl (cI, 25, .inl pg)), (zr, .inl (cI, 30, .inl Rw)), (zb, .inl (cI, 91, .inl T)), (zc, .inl (cI, 6, .inl C)), (zt, .inl (cI, 12, .inl Tt)), (zv, .inl (cI, 30, .inl Sv)), (zkr, .inl (cI, 30, .inl KR)), (zkt, .inl (cI, 12, .inl KT))]) (w1 := [(z, .inr (7, [.ref zp, .int (nI pn), .int (nI n), .int (nI yr), .int jo, .int ea, .int lo, .int (nI lr), .ref zr, .int (nI bd), .ref zb, .ref zc, .int 0, .ref zt, .int sd, .ref zv, .int kl, .int mky, .int mkj, .int mke, .int mkk, .int mkt, .ref zkr, .ref zkt, .long hh]))]) (ws' := [(x, .inr (6, [.ref xp, .int (nI pn), .ref xj, .int (nI n), .ref xn, .ref xk, .ref xu, .int hi, .int (nI lr), .int (nI bd), .ref xm, .ref xw])), (xp, .inl (cI, 25, .inl pg)), (xj, .inl (cJ, 6, .inr (.inr (.inr (.inr jr))))), (xn, .inr (1, [.int (nI yr), .int ea, .int lo, .int jo, .int 0, .ref ns, .ref ne, .ref n7, .ref n8])), (ns, .inl (cI, 6, .inl sp)), (ne, .inl (cI, 6, .inl en)), (n7, .inl (cI, 6, .inl tY)), (n8, .inl (cI, 6, .inl tW)), (xk, .inr (1, [.int ky, .int kea, .int klo, .int kjo, .int kta, .ref k5, .ref k6, .ref k7, .ref k8])), (k5, .inl (cI, 6, .inl ksp)), (k6, .inl (cI, 6, .inl ken)), (k7, .inl (cI, 6, .inl ktY)), (k8, .inl (cI, 6, .inl ktW)), (xu, .inr (1, [.int uy, .int uea, .int ulo, .int ujo, .int uta, .ref w5, .ref w6, .ref w7, .ref w8])), (w5, .inl (cI, 6, .inl usp)), (w6, .inl (cI, 6, .inl uen)), (w7, .inl (cI, 6, .inl utY)), (w8, .inl (cI, 6, .inl utW)), (xm, .inl (cI, 91, .inl M)), (xw, .inl (cI, 6, .inl nw)), (z, .inr (7, [.ref zp, .int (nI pn), .int (nI n), .int (nI yr), .int jo, .int ea, .int lo, .int (nI lr), .ref zr, .int (nI bd), .ref zb, .ref zc, .int 0, .ref zt, .int sd, .ref zv, .int kl, .int mky, .int mkj, .int mke, .int mkk, .int mkt, .ref zkr, .ref zkt, .long hh])), (zp, .inl (cI, 25, .inl pg)), (zr, .inl (cI, 30, .inl Rw)), (zb, .inl (cI, 91, .inl T)), (zc, .inl (cI, 6, .inl C)), (zt, .inl (cI, 12, .inl Tt)), (zv, .inl (cI, 30, .inl Sv)), (zkr, .inl (cI, 30, .inl KR)), (zkt, .inl (cI, 12, .inl KT))]) hP hD hFc_7 [20] [0, 1, 2, 3, 4, 5, 6, 7, 8, 9, 10, 11, 12, 13, 14, 15, 16, 17, 18, 19, 21, 22, 23, 24, 25, 26, 27, 28] [0, 1, 2, 3, 4, 5, 6, 7, 8, 9, 10, 11, 12, 13, 14, 15, 16, 17, 18, 19, 28, 20, 21, 22, 23, 24, 25, 26, 27] rfl rfl (by decide) (by decide) (by decide) (by decide) hkq hP1 rfl rfl rfl
  have hJ := jJ.keptA (A := va_A [(z, .inr (7, [.ref zp, .int (nI pn), .int (nI n), .int (nI yr), .int jo, .int ea, .int lo, .int (nI lr), .ref zr, .int (nI bd), .ref zb, .ref zc, .int (nI tn), .ref zt, .int sd, .ref zv, .int kl, .int mky, .int mkj, .int mke, .int mkk, .int mkt, .ref zkr, .ref zkt, .long hh]))] _) hJ (fun i a h1 h2 => jap (hJ.lt h1 h2) (fun h => hap i a h1 h2 (jmem [20] rfl h))) hkq
  refine lv_icmp_eq (tgt := 559) hx hb dL_law_422 (by decide) (fun c_9 => ?_) (fun c_9 => ?_)
  · skip
    refine W.widen (k := cells + 6) (n := slots + 18) (by omega) (by omega) ?_
    exact kk H locs (fun X9 k9 => k9 n pn 0 bd lr yr pg jr jk jg js jm ea lo jo sp en tY tW hi ky kea klo kjo kta ksp ken ktY ktW uy uea ulo ujo uta usp uen utY utW M nw Rw T C Tt sd Sv kl mky mkj mke mkk mkt KR KT hh hP hD hJ hap hn6 hpn (by omega) hbd hyr (by omega) hRw hSp hBd hTt hKp) hS
  · skip
    exact absurd (by rw [h1r, h2r]) c_9

set_option maxHeartbeats 8000000 in
set_option maxRecDepth 100000 in
theorem law_which (l : Launch) (hC : jCx p s m c b L xs D cI cJ A) (hc9 : 4 * c9 + 4 ≤ L) (hcl : cells + 6 ≤ 600000) (hsl : slots + 18 ≤ 7302250) (hS : va_S A s.heap H locs) (hl : lv_has ls 4 [(3, .int (nI (4 * c9))), (0, .ref b), (1, .ref x), (2, .ref z)]) (hI : jAll D cI cJ A x xp xj xn ns ne n7 n8 xk k5 k6 k7 k8 xu w5 w6 w7 w8 xm xw z zp zr zb zc zt zv zkr zkt c9 H)
    (kk : ∀ (H' : Heap) (locs' : List Loc), jAll D cI cJ A x xp xj xn ns ne n7 n8 xk k5 k6 k7 k8 xu w5 w6 w7 w8 xm xw z zp zr zb zc zt zv zkr zkt (c9 + 1) H' → va_S A s.heap H' locs' → W p l e room_1 s m #[Value.ref b] below meth c H' locs' (cells + 6) (slots + 18) Q (F0 m 559 ls [])) : W p l e room_1 s m #[Value.ref b] below meth c H locs cells slots Q (F0 m 427 ls []) := by
  obtain ⟨hx, hb, hml, hown, htT, hX, hbl, hT, hA, hbA, hL⟩ := hC
  have hK := hT.1
  have hts : ∀ w ∈ wsL_law, w.before #[Value.ref b] s = true := fun w h => htT w (wsL_law_in w h)
  refine hI _ (fun n pn tn bd lr yr pg jr jk jg js jm ea lo jo sp en tY tW hi ky kea klo kjo kta ksp ken ktY ktW uy uea ulo ujo uta usp uen utY utW M nw Rw T C Tt sd Sv kl mky mkj mke mkk mkt KR KT hh hP hD hJ hap hn6 hpn htn hbd hyr hlr hRw hSp hBd hTt hKp => ?_)
  obtain ⟨p1, e1⟩ : ∃ v : Int32, v = xs (4 * c9 + 1) := ⟨_, rfl⟩
  obtain ⟨p2, e2⟩ : ∃ v : Int32, v = xs (4 * c9 + 2) := ⟨_, rfl⟩
  obtain ⟨p3, e3⟩ : ∃ v : Int32, v = xs (4 * c9 + 3) := ⟨_, rfl⟩
  rcases Nat.eq_zero_or_pos n with hn0 | hn0
  · skip
    refine lv_aload_n hx hb dL_law_427 rfl (lv_at hl 2 rfl) ?_
    have hPc_1 := hP.sub (ws' := [(x, .inr (6, [.ref xp, .int (nI pn), .ref xj, .int (nI n), .ref xn, .ref xk, .ref xu, .int hi, .int (nI lr), .int (nI bd), .ref xm, .ref xw]))]) [0] rfl
    refine jcalli (va_runV (As := []) (rest := []) ⟨hx, hb, hml, hown, hts⟩ (c_which_n l D cI cJ x n (.ref xp) (.int (nI pn)) (.ref xj) (.ref xn) (.ref xk) (.ref xu) (.int hi) (.int (nI lr)) (.int (nI bd)) (.ref xm) (.ref xw) hn0 H.size) (cwV 0 hts gL_law_X6_which rfl rfl rfl (by decide +kernel) ⟨Nat.le_of_ble_eq_true rfl, Nat.le_of_ble_eq_true rfl⟩) (jpreV hT (va_recv hK hP (ci := 6) (q0 := 0) rfl rfl) hPc_1) rfl rfl hl.1 rfl (lv_room (Nat.le_of_ble_eq_true rfl)) dL_law_428 ⟨(show cells + 0 ≤ 600000 by omega), (show slots + 0 ≤ 7302250 by omega)⟩) hS hA (fun r_2 H locs hw_r_2 hkq hS => ?_)
    try dsimp only at hw_r_2
    have hP := jkeep hP hkq
    have hJ := hJ.kept hkq
    subst hw_r_2
    refine lv_aload_n hx hb dL_law_431 rfl (lv_at hl 3 rfl) ?_
    have hPc_3 := hP.sub (ws' := [(z, .inr (7, [.ref zp, .int (nI pn), .int (nI n), .int (nI yr), .int jo, .int ea, .int lo, .int (nI lr), .ref zr, .int (nI bd), .ref zb, .ref zc, .int (nI tn), .ref zt, .int sd, .ref zv, .int kl, .int mky, .int mkj, .int mke, .int mkk, .int mkt, .ref zkr, .ref zkt, .long hh]))]) [20] rfl
    refine jcalli (va_runV (As := []) (rest := [.int (-103)]) ⟨hx, hb, hml, hown, hts⟩ (c_mwhich_n l D cI cJ z n (.ref zp) (.int (nI pn)) (.int (nI yr)) (.int jo) (.int ea) (.int lo) (.int (nI lr)) (.ref zr) (.int (nI bd)) (.ref zb) (.ref zc) (.int (nI tn)) (.ref zt) (.int sd) (.ref zv) (.int kl) (.int mky) (.int mkj) (.int mke) (.int mkk) (.int mkt) (.ref zkr) (.ref zkt) (.long hh) hn0 H.size) (cwV 0 hts gL_law_X7_which rfl rfl rfl (by decide +kernel) ⟨Nat.le_of_ble_eq_true rfl, Nat.le_of_ble_eq_true rfl⟩) (jpreV hT (va_recv hK hP (ci := 7) (q0 := 20) rfl rfl) hPc_3) rfl rfl hl.1 rfl (lv_room (Nat.le_of_ble_eq_true rfl)) dL_law_432 ⟨(show cells + 0 ≤ 600000 by omega), (show slots + 0 ≤ 7302250 by omega)⟩) hS hA (fun r_4 H locs hw_r_4 hkq hS => ?_)
    try dsimp only at hw_r_4
    have hP := jkeep hP hkq
    have hJ := hJ.kept hkq
    subst hw_r_4
    refine lv_icmp_eq (tgt := 559) hx hb dL_law_435 (by decide) (fun c_5 => ?_) (fun c_5 => ?_)
    · skip
      refine W.widen (k := cells + 6) (n := slots + 18) (by omega) (by omega) ?_
      exact kk H locs (fun X9 k9 => k9 n pn tn bd lr yr pg jr jk jg js jm ea lo jo sp en tY tW hi ky kea klo kjo kta ksp ken ktY ktW uy uea ulo ujo uta usp uen utY utW M nw Rw T C Tt sd Sv kl mky mkj mke mkk mkt KR KT hh hP hD hJ hap hn6 hpn htn hbd hyr (by omega) hRw hSp hBd hTt hKp) hS
    · skip
      exact absurd c_5 (by decide)
  · skip
    refine lv_aload_n hx hb dL_law_427 rfl (lv_at hl 2 rfl) ?_
    have hPc_6 := hP.sub (ws' := [(x, .inr (6, [.ref xp, .int (nI pn), .ref xj, .int (nI n), .ref xn, .ref xk, .ref xu, .int hi, .int (nI lr), .int (nI bd), .ref xm, .ref xw])), (xj, .inl (cJ, 6, .inr (.inr (.inr (.inr jr))))), (xn, .inr (1, [.int (nI yr), .int ea, .int lo, .int jo, .int (nI tn), .ref ns, .ref ne, .ref n7, .ref n8])), (n7, .inl (cI, 6, .inl tY)), (n8, .inl (cI, 6, .inl tW))]) [0, 2, 3, 6, 7] rfl
    refine jcalli (va_runV (As := []) (rest := []) ⟨hx, hb, hml, hown, hts⟩ (c_which l D cI cJ x xj xn n7 n8 tn n (.ref xp) (.int (nI pn)) (.ref xk) (.ref xu) (.int hi) (.int (nI lr)) (.int (nI bd)) (.ref xm) (.ref xw) (.int (nI yr)) (.int ea) (.int lo) (.int jo) (.ref ns) (.ref ne) jr jk jg js jm (mfi Rw) tY tW hn0 hn6 htn (jfwR hRw) H.size) (cwV 0 hts gL_law_X6_which rfl rfl rfl (by decide +kernel) ⟨Nat.le_of_ble_eq_true rfl, Nat.le_of_ble_eq_true rfl⟩) (jpreV hT (va_recv hK hP (ci := 6) (q0 := 0) rfl rfl) ⟨hPc_6, hJ⟩) rfl rfl hl.1 rfl (lv_room (Nat.le_of_ble_eq_true rfl)) dL_law_428 ⟨(show cells + 0 ≤ 600000 by omega), (show slots + 0 ≤ 7302250 by omega)⟩) hS hA (fun r_7 H locs hw_r_7 hkq hS => ?_)
    try dsimp only at hw_r_7
    have hP := jkeep hP hkq
    have hJ := hJ.kept hkq
    subst hw_r_7
    refine lv_aload_n hx hb dL_law_431 rfl (lv_at hl 3 rfl) ?_
    have hPc_8 := hP.sub (ws' := [(z, .inr (7, [.ref zp, .int (nI pn), .int (nI n), .int (nI yr), .int jo, .int ea, .int lo, .int (nI lr), .ref zr, .int (nI bd), .ref zb, .ref zc, .int (nI tn), .ref zt, .int sd, .ref zv, .int kl, .int mky, .int mkj, .int mke, .int mkk, .int mkt, .ref zkr, .ref zkt, .long hh])), (zr, .inl (cI, 30, .inl Rw)), (zt, .inl (cI, 12, .inl Tt))]) [20, 22, 25] rfl
    refine jcalli (va_runV (As := []) (rest := [.int (jcan (fun i => jag (mfi Rw) i tY tW tn) n)]) ⟨hx, hb, hml, hown, hts⟩ (c_mwhich l D cI cJ z zr zt n tn (.ref zp) (.int (nI pn)) (.int (nI yr)) (.int jo) (.int ea) (.int lo) (.int (nI lr)) (.int (nI bd)) (.ref zb) (.ref zc) (.int sd) (.ref zv) (.int kl) (.int mky) (.int mkj) (.int mke) (.int mkk) (.int mkt) (.ref zkr) (.ref zkt) (.long hh) Rw Tt hn0 hn6 htn H.size) (cwV 0 hts gL_law_X7_which rfl rfl rfl (by decide +kernel) ⟨Nat.le_of_ble_eq_true rfl, Nat.le_of_ble_eq_true rfl⟩) (jpreV hT (va_recv hK hP (ci := 7) (q0 := 20) rfl rfl) hPc_8) rfl rfl hl.1 rfl (lv_room (Nat.le_of_ble_eq_true rfl)) dL_law_432 ⟨(show cells + 0 ≤ 600000 by omega), (show slots + 0 ≤ 7302250 by omega)⟩) hS hA (fun r_9 H locs hw_r_9 hkq hS => ?_)
    try dsimp only at hw_r_9
    have hP := jkeep hP hkq
    have hJ := hJ.kept hkq
    subst hw_r_9
    refine lv_icmp_eq (tgt := 559) hx hb dL_law_435 (by decide) (fun c_10 => ?_) (fun c_10 => ?_)
    · skip
      refine W.widen (k := cells + 6) (n := slots + 18) (by omega) (by omega) ?_
      exact kk H locs (fun X9 k9 => k9 n pn tn bd lr yr pg jr jk jg js jm ea lo jo sp en tY tW hi ky kea klo kjo kta ksp ken ktY ktW uy uea ulo ujo uta usp uen utY utW M nw Rw T C Tt sd Sv kl mky mkj mke mkk mkt KR KT hh hP hD hJ hap hn6 hpn htn hbd hyr (by omega) hRw hSp hBd hTt hKp) hS
    · skip
      exact absurd (by rw [jagR htn hTt]) c_10

set_option maxHeartbeats 8000000 in
set_option maxRecDepth 100000 in
theorem law_tasteNext (l : Launch) (hC : jCx p s m c b L xs D cI cJ A) (hc9 : 4 * c9 + 4 ≤ L) (hcl : cells + 6 ≤ 600000) (hsl : slots + 18 ≤ 7302250) (hS : va_S A s.heap H locs) (hl : lv_has ls 4 [(3, .int (nI (4 * c9))), (0, .ref b), (1, .ref x), (2, .ref z)]) (hI : jAll D cI cJ A x xp xj xn ns ne n7 n8 xk k5 k6 k7 k8 xu w5 w6 w7 w8 xm xw z zp zr zb zc zt zv zkr zkt c9 H)
    (kk : ∀ (H' : Heap) (locs' : List Loc), jAll D cI cJ A x xp xj xn ns ne n7 n8 xk k5 k6 k7 k8 xu w5 w6 w7 w8 xm xw z zp zr zb zc zt zv zkr zkt (c9 + 1) H' → va_S A s.heap H' locs' → W p l e room_1 s m #[Value.ref b] below meth c H' locs' (cells + 6) (slots + 18) Q (F0 m 559 ls [])) : W p l e room_1 s m #[Value.ref b] below meth c H locs cells slots Q (F0 m 440 ls []) := by
  obtain ⟨hx, hb, hml, hown, htT, hX, hbl, hT, hA, hbA, hL⟩ := hC
  have hK := hT.1
  have hts : ∀ w ∈ wsL_law, w.before #[Value.ref b] s = true := fun w h => htT w (wsL_law_in w h)
  refine hI _ (fun n pn tn bd lr yr pg jr jk jg js jm ea lo jo sp en tY tW hi ky kea klo kjo kta ksp ken ktY ktW uy uea ulo ujo uta usp uen utY utW M nw Rw T C Tt sd Sv kl mky mkj mke mkk mkt KR KT hh hP hD hJ hap hn6 hpn htn hbd hyr hlr hRw hSp hBd hTt hKp => ?_)
  obtain ⟨p1, e1⟩ : ∃ v : Int32, v = xs (4 * c9 + 1) := ⟨_, rfl⟩
  obtain ⟨p2, e2⟩ : ∃ v : Int32, v = xs (4 * c9 + 2) := ⟨_, rfl⟩
  obtain ⟨p3, e3⟩ : ∃ v : Int32, v = xs (4 * c9 + 3) := ⟨_, rfl⟩
  rcases Nat.eq_zero_or_pos n with hn0 | hn0
  · skip
    refine lv_aload_n hx hb dL_law_440 rfl (lv_at hl 2 rfl) ?_
    have hPc_1 := hP.sub (ws' := [(x, .inr (6, [.ref xp, .int (nI pn), .ref xj, .int (nI n), .ref xn, .ref xk, .ref xu, .int hi, .int (nI lr), .int (nI bd), .ref xm, .ref xw]))]) [0] rfl
    refine jcalli (va_runV (As := []) (rest := []) ⟨hx, hb, hml, hown, hts⟩ (c_tasteNext_n l D cI cJ x n (.ref xp) (.int (nI pn)) (.ref xj) (.ref xn) (.ref xk) (.ref xu) (.int hi) (.int (nI lr)) (.int (nI bd)) (.ref xm) (.ref xw) hn0 H.size) (cwV 0 hts gL_law_X6_tasteNext rfl rfl rfl (by decide +kernel) ⟨Nat.le_of_ble_eq_true rfl, Nat.le_of_ble_eq_true rfl⟩) (jpreV hT (va_recv hK hP (ci := 6) (q0 := 0) rfl rfl) hPc_1) rfl rfl hl.1 rfl (lv_room (Nat.le_of_ble_eq_true rfl)) dL_law_441 ⟨(show cells + 0 ≤ 600000 by omega), (show slots + 0 ≤ 7302250 by omega)⟩) hS hA (fun r_2 H locs hw_r_2 hkq hS => ?_)
    try dsimp only at hw_r_2
    have hP := jkeep hP hkq
    have hJ := hJ.kept hkq
    subst hw_r_2
    refine lv_aload_n hx hb dL_law_444 rfl (lv_at hl 3 rfl) ?_
    have hPc_3 := hP.sub (ws' := [(z, .inr (7, [.ref zp, .int (nI pn), .int (nI n), .int (nI yr), .int jo, .int ea, .int lo, .int (nI lr), .ref zr, .int (nI bd), .ref zb, .ref zc, .int (nI tn), .ref zt, .int sd, .ref zv, .int kl, .int mky, .int mkj, .int mke, .int mkk, .int mkt, .ref zkr, .ref zkt, .long hh]))]) [20] rfl
    refine jcalli (va_runV (As := []) (rest := [.int (-103)]) ⟨hx, hb, hml, hown, hts⟩ (c_mtasteNext_n l D cI cJ z n (.ref zp) (.int (nI pn)) (.int (nI yr)) (.int jo) (.int ea) (.int lo) (.int (nI lr)) (.ref zr) (.int (nI bd)) (.ref zb) (.ref zc) (.int (nI tn)) (.ref zt) (.int sd) (.ref zv) (.int kl) (.int mky) (.int mkj) (.int mke) (.int mkk) (.int mkt) (.ref zkr) (.ref zkt) (.long hh) hn0 H.size) (cwV 0 hts gL_law_X7_tasteNext rfl rfl rfl (by decide +kernel) ⟨Nat.le_of_ble_eq_true rfl, Nat.le_of_ble_eq_true rfl⟩) (jpreV hT (va_recv hK hP (ci := 7) (q0 := 20) rfl rfl) hPc_3) rfl rfl hl.1 rfl (lv_room (Nat.le_of_ble_eq_true rfl)) dL_law_445 ⟨(show cells + 0 ≤ 600000 by omega), (show slots + 0 ≤ 7302250 by omega)⟩) hS hA (fun r_4 H locs hw_r_4 hkq hS => ?_)
    try dsimp only at hw_r_4
    have hP := jkeep hP hkq
    have hJ := hJ.kept hkq
    subst hw_r_4
    refine lv_icmp_eq (tgt := 559) hx hb dL_law_448 (by decide) (fun c_5 => ?_) (fun c_5 => ?_)
    · skip
      refine W.widen (k := cells + 6) (n := slots + 18) (by omega) (by omega) ?_
      exact kk H locs (fun X9 k9 => k9 n pn tn bd lr yr pg jr jk jg js jm ea lo jo sp en tY tW hi ky kea klo kjo kta ksp ken ktY ktW uy uea ulo ujo uta usp uen utY utW M nw Rw T C Tt sd Sv kl mky mkj mke mkk mkt KR KT hh hP hD hJ hap hn6 hpn htn hbd hyr (by omega) hRw hSp hBd hTt hKp) hS
    · skip
      exact absurd c_5 (by decide)
  · skip
    refine lv_aload_n hx hb dL_law_440 rfl (lv_at hl 2 rfl) ?_
    have hPc_6 := hP.sub (ws' := [(x, .inr (6, [.ref xp, .int (nI pn), .ref xj, .int (nI n), .ref xn, .ref xk, .ref xu, .int hi, .int (nI lr), .int (nI bd), .ref xm, .ref xw])), (xj, .inl (cJ, 6, .inr (.inr (.inr (.inr jr))))), (xn, .inr (1, [.int (nI yr), .int ea, .int lo, .int jo, .int (nI tn), .ref ns, .ref ne, .ref n7, .ref n8])), (n7, .inl (cI, 6, .inl tY)), (n8, .inl (cI, 6, .inl tW))]) [0, 2, 3, 6, 7] rfl
    refine jcalli (va_runV (As := []) (rest := []) ⟨hx, hb, hml, hown, hts⟩ (c_tasteNext l D cI cJ x xj xn n7 n8 tn n (.ref xp) (.int (nI pn)) (.ref xk) (.ref xu) (.int hi) (.int (nI lr)) (.int (nI bd)) (.ref xm) (.ref xw) (.int ea) (.int lo) (.int jo) (.ref ns) (.ref ne) jr jk jg js jm (mfi Rw) tY tW (nI yr) hn0 hn6 htn (jfwR hRw) H.size) (cwV 0 hts gL_law_X6_tasteNext rfl rfl rfl (by decide +kernel) ⟨Nat.le_of_ble_eq_true rfl, Nat.le_of_ble_eq_true rfl⟩) (jpreV hT (va_recv hK hP (ci := 6) (q0 := 0) rfl rfl) ⟨hPc_6, hJ⟩) rfl rfl hl.1 rfl (lv_room (Nat.le_of_ble_eq_true rfl)) dL_law_441 ⟨(show cells + 0 ≤ 600000 by omega), (show slots + 0 ≤ 7302250 by omega)⟩) hS hA (fun r_7 H locs hw_r_7 hkq hS => ?_)
    try dsimp only at hw_r_7
    have hP := jkeep hP hkq
    have hJ := hJ.kept hkq
    subst hw_r_7
    refine lv_aload_n hx hb dL_law_444 rfl (lv_at hl 3 rfl) ?_
    have hPc_8 := hP.sub (ws' := [(z, .inr (7, [.ref zp, .int (nI pn), .int (nI n), .int (nI yr), .int jo, .int ea, .int lo, .int (nI lr), .ref zr, .int (nI bd), .ref zb, .ref zc, .int (nI tn), .ref zt, .int sd, .ref zv, .int kl, .int mky, .int mkj, .int mke, .int mkk, .int mkt, .ref zkr, .ref zkt, .long hh])), (zr, .inl (cI, 30, .inl Rw)), (zt, .inl (cI, 12, .inl Tt))]) [20, 22, 25] rfl
    refine jcalli (va_runV (As := []) (rest := [.int (if jcan (fun i => jag (mfi Rw) i tY tW tn) n = 0 then -1 else jtf (fun i => jlw (mfi Rw) (jcan (fun i => jag (mfi Rw) i tY tW tn) n) n ((nI yr) + nI i) n) 10)]) ⟨hx, hb, hml, hown, hts⟩ (c_mtasteNext l D cI cJ z zr zt n tn (.ref zp) (.int (nI pn)) (.int jo) (.int ea) (.int lo) (.int (nI lr)) (.int (nI bd)) (.ref zb) (.ref zc) (.int sd) (.ref zv) (.int kl) (.int mky) (.int mkj) (.int mke) (.int mkk) (.int mkt) (.ref zkr) (.ref zkt) (.long hh) Rw Tt (nI yr) hn0 hn6 htn H.size) (cwV 0 hts gL_law_X7_tasteNext rfl rfl rfl (by decide +kernel) ⟨Nat.le_of_ble_eq_true rfl, Nat.le_of_ble_eq_true rfl⟩) (jpreV hT (va_recv hK hP (ci := 7) (q0 := 20) rfl rfl) hPc_8) rfl rfl hl.1 rfl (lv_room (Nat.le_of_ble_eq_true rfl)) dL_law_445 ⟨(show cells + 0 ≤ 600000 by omega), (show slots + 0 ≤ 7302250 by omega)⟩) hS hA (fun r_9 H locs hw_r_9 hkq hS => ?_)
    try dsimp only at hw_r_9
    have hP := jkeep hP hkq
    have hJ := hJ.kept hkq
    subst hw_r_9
    refine lv_icmp_eq (tgt := 559) hx hb dL_law_448 (by decide) (fun c_10 => ?_) (fun c_10 => ?_)
    · skip
      refine W.widen (k := cells + 6) (n := slots + 18) (by omega) (by omega) ?_
      exact kk H locs (fun X9 k9 => k9 n pn tn bd lr yr pg jr jk jg js jm ea lo jo sp en tY tW hi ky kea klo kjo kta ksp ken ktY ktW uy uea ulo ujo uta usp uen utY utW M nw Rw T C Tt sd Sv kl mky mkj mke mkk mkt KR KT hh hP hD hJ hap hn6 hpn htn hbd hyr (by omega) hRw hSp hBd hTt hKp) hS
    · skip
      exact absurd (by rw [jagR htn hTt]) c_10

end LAW
