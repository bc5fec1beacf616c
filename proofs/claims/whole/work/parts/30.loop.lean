theorem jAll_up {D : va_G} {cI cJ : ClassId} {A : Nat → Prop} {x xp xj xn ns ne n7 n8 xk k5 k6 k7 k8 xu w5 w6 w7 w8 xm xw z zp zr zb zc zt zv zkr zkt c9 : Nat} {H : Heap} (h : jAll D cI cJ A x xp xj xn ns ne n7 n8 xk k5 k6 k7 k8 xu w5 w6 w7 w8 xm xw z zp zr zb zc zt zv zkr zkt c9 H) : jAll D cI cJ A x xp xj xn ns ne n7 n8 xk k5 k6 k7 k8 xu w5 w6 w7 w8 xm xw z zp zr zb zc zt zv zkr zkt (c9 + 1) H := fun X9 k9 => h X9 (fun n pn tn bd lr yr pg jr jk jg js jm ea lo jo sp en tY tW hi ky kea klo kjo kta ksp ken ktY ktW uy uea ulo ujo uta usp uen utY utW M nw Rw T C Tt sd Sv kl mky mkj mke mkk mkt KR KT hh hP hD hJ hap hn6 hpn htn hbd hyr hlr hRw hSp hBd hTt hKp => k9 n pn tn bd lr yr pg jr jk jg js jm ea lo jo sp en tY tW hi ky kea klo kjo kta ksp ken ktY ktW uy uea ulo ujo uta usp uen utY utW M nw Rw T C Tt sd Sv kl mky mkj mke mkk mkt KR KT hh hP hD hJ hap hn6 hpn htn hbd hyr (Nat.le_succ_of_le hlr) hRw hSp hBd hTt hKp)
section LAWL
variable {p : Program} {e : Env} {s : State} {m : MethodId} {below : List Frame} {meth : Method} {c : Code} {b L : Nat} {xs : Nat → Int32} {D : va_G} {cI cJ : ClassId} {A : Nat → Prop} {Q : State → Prop} {x xp xj xn ns ne n7 n8 xk k5 k6 k7 k8 xu w5 w6 w7 w8 xm xw z zp zr zb zc zt zv zkr zkt c9 cells slots : Nat} {H : Heap} {locs : List Loc} {ls : Array Slot}
set_option maxHeartbeats 8000000 in
set_option maxRecDepth 100000 in
theorem law_loop (l : Launch) (hC : jCx p s m c b L xs D cI cJ A) (hS : va_S A s.heap H locs) (hl : lv_has ls 4 [(3, .int (nI (4 * 0))), (0, .ref b), (1, .ref x), (2, .ref z)]) (hI : jAll D cI cJ A x xp xj xn ns ne n7 n8 xk k5 k6 k7 k8 xu w5 w6 w7 w8 xm xw z zp zr zb zc zt zv zkr zkt 0 H)
    (kx : ∀ (H' : Heap) (locs' : List Loc) (ls' : Array Slot) (k n : Nat), va_S A s.heap H' locs' → k ≤ 600000 → n ≤ 7302250 → W p l e room_1 s m #[Value.ref b] below meth c H' locs' k n Q (F0 m 565 ls' [])) : W p l e room_1 s m #[Value.ref b] below meth c H locs 29 500 Q (F0 m 18 ls []) := by
  have hC0 := hC
  obtain ⟨hx, hb, hml, hown, htT, hX, hbl, hT, hA, hbA, hL⟩ := hC
  refine jloopA (α := Nat) (fun c9 => 29 + 6 * c9) (fun c9 => 500 + 18 * c9) (fun c9 H locs ls => 4 * c9 ≤ L ∧ va_S A s.heap H locs ∧ lv_has ls 4 [(3, .int (nI (4 * c9))), (0, .ref b), (1, .ref x), (2, .ref z)] ∧ jAll D cI cJ A x xp xj xn ns ne n7 n8 xk k5 k6 k7 k8 xu w5 w6 w7 w8 xm xw z zp zr zb zc zt zv zkr zkt c9 H) (fun c9 => L - 4 * c9) (fun c9 H locs ls hx9 ih => ?_) 0 H locs ls ⟨Nat.zero_le _, hS, hl, hI⟩
  obtain ⟨h4, hS, hl, hI⟩ := hx9
  try dsimp only
  refine lv_iload_n hx hb dL_law_18 rfl (lv_at hl 0 rfl) ?_
  refine lv_aload_n hx hb dL_law_19 rfl (lv_at hl 1 rfl) ?_
  refine va_slen hx hb hX hbl hbA hS dL_law_20 ?_
  refine lv_iconst (v := 4) hx hb dL_law_21 (by decide) ?_
  refine lv_isub hx hb dL_law_22 ?_
  have hsub : (Int32.ofNat L - 4).toInt = (L : Int) - 4 := pk_sub_toInt (a := L) (b := 4) (by omega) (by omega)
  have hix : (nI (4 * c9)).toInt = ((4 * c9 : Nat) : Int) := nI_toInt (by omega)
  refine lv_icmp_gt (tgt := 565) hx hb dL_law_23 (by decide) (fun hc => ?_) (fun hc => ?_)
  · exact kx H locs ls _ _ hS (by omega) (by omega)
  · rw [fa_lt, hsub, hix] at hc
    have hc9 : 4 * c9 + 4 ≤ L := by omega
    have kk9 : ∀ (H' : Heap) (locs' : List Loc), jAll D cI cJ A x xp xj xn ns ne n7 n8 xk k5 k6 k7 k8 xu w5 w6 w7 w8 xm xw z zp zr zb zc zt zv zkr zkt (c9 + 1) H' → va_S A s.heap H' locs' → W p l e room_1 s m #[Value.ref b] below meth c H' locs' (29 + 6 * c9 + 6) (500 + 18 * c9 + 18) Q (F0 m 559 ls []) := by
      intro H' locs' hI' hS'
      refine lv_iinc (v := nI (4 * (c9 + 1))) (lv' := [(3, .int (nI (4 * (c9 + 1)))), (0, .ref b), (1, .ref x), (2, .ref z)]) hx hb dL_law_559 hl (k := 0) rfl ((nI_add (4 * c9) 4).trans (congrArg nI (by omega))) (by decide) rfl (fun ls hl => ?_)
      refine lv_goto (tgt := 18) hx hb dL_law_562 (by decide) ?_
      have h9 := ih (c9 + 1) H' locs' ls ⟨by omega, hS', hl, hI'⟩ (by first | omega | (dsimp only; omega))
      try dsimp only at h9
      rw [show 29 + 6 * (c9 + 1) = 29 + 6 * c9 + 6 by omega, show 500 + 18 * (c9 + 1) = 500 + 18 * c9 + 18 by omega] at h9
      exact h9
    have hcl : 29 + 6 * c9 + 6 ≤ 600000 := by omega
    have hsl : 500 + 18 * c9 + 18 ≤ 7302250 := by omega
    refine lv_aload_n hx hb dL_law_26 rfl (lv_at hl 1 rfl) ?_
    refine lv_iload_n hx hb dL_law_27 rfl (lv_at hl 0 rfl) ?_
    refine jv_sld hx hb hX hbl hbA hS (k := 4 * c9) (by omega) hL (v := xs (4 * c9)) rfl dL_law_28 ?_
    refine lv_bipush (v := 31) hx hb dL_law_29 (by decide) ?_
    refine lv_iand hx hb dL_law_31 ?_
    obtain ⟨t, ht, et⟩ := pk_andE (xs (4 * c9)) (m := 31) 5 (by decide)
    refine jv_as (y := nI t) et ?_
    by_cases c_1 : t = 0
    · skip
      refine lv_tableIn (off := 96) (tgt := 128) hx hb dL_law_32 (by rw [c_1]; decide) (by rw [c_1]; decide) (by rw [c_1]; decide) (by decide) ?_
      exact law_letter l hC0 hc9 hcl hsl hS hl hI kk9
    by_cases c_2 : t = 1
    · skip
      refine lv_tableIn (off := 119) (tgt := 151) hx hb dL_law_32 (by rw [c_2]; decide) (by rw [c_2]; decide) (by rw [c_2]; decide) (by decide) ?_
      exact law_blank l hC0 hc9 hcl hsl hS hl hI kk9
    by_cases c_3 : t = 2
    · skip
      refine lv_tableIn (off := 132) (tgt := 164) hx hb dL_law_32 (by rw [c_3]; decide) (by rw [c_3]; decide) (by rw [c_3]; decide) (by decide) ?_
      exact law_fault l hC0 hc9 hcl hsl hS hl hI kk9
    by_cases c_4 : t = 3
    · skip
      refine lv_tableIn (off := 145) (tgt := 177) hx hb dL_law_32 (by rw [c_4]; decide) (by rw [c_4]; decide) (by rw [c_4]; decide) (by decide) ?_
      exact law_larder l hC0 hc9 hcl hsl hS hl hI kk9
    by_cases c_5 : t = 4
    · skip
      refine lv_tableIn (off := 158) (tgt := 190) hx hb dL_law_32 (by rw [c_5]; decide) (by rw [c_5]; decide) (by rw [c_5]; decide) (by decide) ?_
      exact law_jar l hC0 hc9 hcl hsl hS hl hI kk9
    by_cases c_6 : t = 5
    · skip
      refine lv_tableIn (off := 191) (tgt := 223) hx hb dL_law_32 (by rw [c_6]; decide) (by rw [c_6]; decide) (by rw [c_6]; decide) (by decide) ?_
      exact law_as l hC0 hc9 hcl hsl hS hl hI kk9
    by_cases c_7 : t = 6
    · skip
      refine lv_tableIn (off := 224) (tgt := 256) hx hb dL_law_32 (by rw [c_7]; decide) (by rw [c_7]; decide) (by rw [c_7]; decide) (by decide) ?_
      exact law_worth l hC0 hc9 hcl hsl hS hl hI kk9
    by_cases c_8 : t = 7
    · skip
      refine lv_tableIn (off := 257) (tgt := 289) hx hb dL_law_32 (by rw [c_8]; decide) (by rw [c_8]; decide) (by rw [c_8]; decide) (by decide) ?_
      exact law_eat l hC0 hc9 hcl hsl hS hl hI kk9
    by_cases c_9 : t = 8
    · skip
      refine lv_tableIn (off := 280) (tgt := 312) hx hb dL_law_32 (by rw [c_9]; decide) (by rw [c_9]; decide) (by rw [c_9]; decide) (by decide) ?_
      exact law_wasps l hC0 hc9 hcl hsl hS hl hI kk9
    by_cases c_10 : t = 9
    · skip
      refine lv_tableIn (off := 303) (tgt := 335) hx hb dL_law_32 (by rw [c_10]; decide) (by rw [c_10]; decide) (by rw [c_10]; decide) (by decide) ?_
      exact law_year l hC0 hc9 hcl hsl hS hl hI kk9
    by_cases c_11 : t = 10
    · skip
      refine lv_tableIn (off := 316) (tgt := 348) hx hb dL_law_32 (by rw [c_11]; decide) (by rw [c_11]; decide) (by rw [c_11]; decide) (by decide) ?_
      exact law_best l hC0 hc9 hcl hsl hS hl hI kk9
    by_cases c_12 : t = 11
    · skip
      refine lv_tableIn (off := 349) (tgt := 381) hx hb dL_law_32 (by rw [c_12]; decide) (by rw [c_12]; decide) (by rw [c_12]; decide) (by decide) ?_
      exact law_taste l hC0 hc9 hcl hsl hS hl hI kk9
    by_cases c_13 : t = 12
    · skip
      refine lv_tableIn (off := 382) (tgt := 414) hx hb dL_law_32 (by rw [c_13]; decide) (by rw [c_13]; decide) (by rw [c_13]; decide) (by decide) ?_
      exact law_forget l hC0 hc9 hcl hsl hS hl hI kk9
    by_cases c_14 : t = 13
    · skip
      refine lv_tableIn (off := 395) (tgt := 427) hx hb dL_law_32 (by rw [c_14]; decide) (by rw [c_14]; decide) (by rw [c_14]; decide) (by decide) ?_
      exact law_which l hC0 hc9 hcl hsl hS hl hI kk9
    by_cases c_15 : t = 14
    · skip
      refine lv_tableIn (off := 408) (tgt := 440) hx hb dL_law_32 (by rw [c_15]; decide) (by rw [c_15]; decide) (by rw [c_15]; decide) (by decide) ?_
      exact law_tasteNext l hC0 hc9 hcl hsl hS hl hI kk9
    by_cases c_16 : t = 15
    · skip
      refine lv_tableIn (off := 421) (tgt := 453) hx hb dL_law_32 (by rw [c_16]; decide) (by rw [c_16]; decide) (by rw [c_16]; decide) (by decide) ?_
      exact law_times l hC0 hc9 hcl hsl hS hl hI kk9
    by_cases c_17 : t = 16
    · skip
      refine lv_tableIn (off := 464) (tgt := 496) hx hb dL_law_32 (by rw [c_17]; decide) (by rw [c_17]; decide) (by rw [c_17]; decide) (by decide) ?_
      exact law_image l hC0 hc9 hcl hsl hS hl hI kk9
    by_cases c_18 : t = 17
    · skip
      refine lv_tableIn (off := 477) (tgt := 509) hx hb dL_law_32 (by rw [c_18]; decide) (by rw [c_18]; decide) (by rw [c_18]; decide) (by decide) ?_
      exact law_restore l hC0 hc9 hcl hsl hS hl hI kk9
    by_cases c_19 : t = 18
    · skip
      refine lv_tableIn (off := 490) (tgt := 522) hx hb dL_law_32 (by rw [c_19]; decide) (by rw [c_19]; decide) (by rw [c_19]; decide) (by decide) ?_
      exact law_count l hC0 hc9 hcl hsl hS hl hI kk9
    by_cases c_20 : t = 19
    · skip
      refine lv_tableIn (off := 513) (tgt := 545) hx hb dL_law_32 (by rw [c_20]; decide) (by rw [c_20]; decide) (by rw [c_20]; decide) (by decide) ?_
      exact law_digest l hC0 hc9 hcl hsl hS hl hI kk9
    refine lv_tableOut (tgt := 559) hx hb dL_law_32 (by rw [nI_toInt (by omega)]; omega) (by decide) ?_
    refine W.widen (k := 29 + 6 * c9 + 6) (n := 500 + 18 * c9 + 18) (by omega) (by omega) ?_
    exact kk9 H locs (jAll_up hI) hS
end LAWL
theorem jpreM {s : State} {H : Heap} {D : va_G} {cI cJ : ClassId} {G : Heap → Prop} {As : List Value} (hT : jT D cI cJ s) (hN : va_Nw jNest s) (hG : G H) : PreS s H (va_Pc As (jPm D cI cJ G H.size)) As :=
  ⟨fun a U g mk q => ⟨q.1, q.2.1, ⟨q.2.2.1.1.calling, va_Nw.same (u := U) (U := U.calling g mk a) rfl rfl q.2.2.1.2⟩, q.2.2.2⟩, fun U hU hW => ⟨rfl, by rw [hU], ⟨hT.warm hW, va_Nw.warmM hW hN⟩, by rw [hU]; exact hG⟩⟩
set_option maxRecDepth 20000 in
theorem jyes_in : ∀ q ∈ jYes, Cond.castable q.1 q.2 ∈ lw_tbl := by decide +kernel
set_option maxRecDepth 20000 in
theorem jnest_in : jNest ∈ lw_tbl := by decide +kernel
set_option maxRecDepth 20000 in
theorem jao_in : Cond.arrayOver (.object "JamDays$Jar") ∈ lw_tbl := by decide +kernel
set_option maxRecDepth 20000 in
theorem jac_in : Cond.arrayClass .int ∈ lw_tbl := by decide +kernel
set_option maxRecDepth 20000 in
theorem jno_in : ∀ q ∈ jNo, Cond.not (.castable q.1 q.2) ∈ flatC (Jvm.Cond.and given_1 narrow_1) := by decide +kernel
set_option maxRecDepth 20000 in
theorem jinst_in : ∀ q ∈ [(RX0, 3), (RX1, 9), (RX2, 3), (RX3, 3), (RX4, 3), (RX5, 3), (RX6, 12), (RX7, 25)], Cond.instantiable q.1 q.2 ∈ lw_tbl := by decide +kernel
/-- the tables' classes, arrays, casts -/
theorem law_tabs {s : State} {b : Nat} (hts : ∀ w ∈ lw_tbl, w.before #[Value.ref b] s = true) (hgv : (Jvm.Cond.and given_1 narrow_1).before #[Value.ref b] s = true) : ∃ (D : va_G) (cI cJ : ClassId), jT D cI cJ s := by
  have hk : ∀ k : Nat, ∃ (c : ClassId) (iS : Nat → Nat), ∀ q : vw_C, vwCl[k]? = some q → u_Kn s q.1 q.2.1 q.2.2 c iS := by
    intro k
    match k with
    | 0 =>
      obtain ⟨c, iS, h⟩ := u_known (C := RX0) (T := TX0) (N := 3) (n := 3) hts inX0 (hts _ (jinst_in (RX0, 3) (by decide)))
      exact ⟨c, iS, fun q hq => by cases hq; exact h⟩
    | 1 =>
      obtain ⟨c, iS, h⟩ := u_known (C := RX1) (T := TX1) (N := 9) (n := 9) hts inX1 (hts _ (jinst_in (RX1, 9) (by decide)))
      exact ⟨c, iS, fun q hq => by cases hq; exact h⟩
    | 2 =>
      obtain ⟨c, iS, h⟩ := u_known (C := RX2) (T := TX2) (N := 3) (n := 3) hts inX2 (hts _ (jinst_in (RX2, 3) (by decide)))
      exact ⟨c, iS, fun q hq => by cases hq; exact h⟩
    | 3 =>
      obtain ⟨c, iS, h⟩ := u_known (C := RX3) (T := TX3) (N := 3) (n := 3) hts inX3 (hts _ (jinst_in (RX3, 3) (by decide)))
      exact ⟨c, iS, fun q hq => by cases hq; exact h⟩
    | 4 =>
      obtain ⟨c, iS, h⟩ := u_known (C := RX4) (T := TX4) (N := 3) (n := 3) hts inX4 (hts _ (jinst_in (RX4, 3) (by decide)))
      exact ⟨c, iS, fun q hq => by cases hq; exact h⟩
    | 5 =>
      obtain ⟨c, iS, h⟩ := u_known (C := RX5) (T := TX5) (N := 3) (n := 3) hts inX5 (hts _ (jinst_in (RX5, 3) (by decide)))
      exact ⟨c, iS, fun q hq => by cases hq; exact h⟩
    | 6 =>
      obtain ⟨c, iS, h⟩ := u_known (C := RX6) (T := TX6) (N := 12) (n := 12) hts inX6 (hts _ (jinst_in (RX6, 12) (by decide)))
      exact ⟨c, iS, fun q hq => by cases hq; exact h⟩
    | 7 =>
      obtain ⟨c, iS, h⟩ := u_known (C := RX7) (T := TX7) (N := 25) (n := 25) hts inX7 (hts _ (jinst_in (RX7, 25) (by decide)))
      exact ⟨c, iS, fun q hq => by cases hq; exact h⟩
    | k + 8 => exact ⟨0, fun _ => 0, fun q hq => by simp [vwCl] at hq⟩
  obtain ⟨cA, kA, compA, a1, a2, a3⟩ := Cond.arrayClass_spec (hts _ jac_in)
  obtain ⟨compJ, cJ, kJ, b1, -, b3, b4, b5⟩ := Cond.arrayOver_spec (hts _ jao_in)
  refine ⟨(fun k => Classical.choose (hk k), fun k => Classical.choose (Classical.choose_spec (hk k))), cA, cJ, ⟨fun k q hq => Classical.choose_spec (Classical.choose_spec (hk k)) q hq, fun k q hq => ?_⟩, va_AO.of (hts _ jao_in), fun q hq => va_Nw.of rfl (hts _ (jyes_in q hq)), fun q hq => va_Nc.of (flat_of_before _ hgv _ (jno_in q hq))⟩
  match k, hq with
  | 0, hq =>
    cases hq
    exact ⟨fun n z => ⟨fun k h => (by cases h), kA, a2, compA, a3⟩, a1⟩
  | 1, hq =>
    cases hq
    exact ⟨fun n z => ⟨fun k h => (by cases h), kJ, b3, compJ, b4⟩, kJ, compJ, b3, b4, b1, b5⟩
  | k + 2, hq => simp at hq
