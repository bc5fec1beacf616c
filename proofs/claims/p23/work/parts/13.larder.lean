def jWz (l : Launch) (y : MethodName) (ws : List Cond) (rm : Room) (mc ms : Nat) (av : List Value) (D : va_G) (cI cJ : ClassId) (w : va_W) (X : Heap → Prop) (post : Nat → Int32 → Heap → Prop) : Prop := ∀ sz : Nat, Met l y ws rm (va_Pc av (jPr D cI cJ (jPw D cI cJ w X) sz)) (va_Qi (fun r (u : Int32) => u = r) (fun u t => post sz u t.heap) (va_A w sz)) mc ms (va_A w sz)
section JLA
variable {p : Program} {l : Launch} {e : Env} {R : Room} {s : State} {m : MethodId} {args : Array Value} {below : List Frame} {meth : Method} {c : Code} {Q : State → Prop}
/-- a loop that makes cells -/
theorem jloopA {α : Type} {pc : Nat} {st : List Value} (cc ss : α → Nat) (P : α → Heap → List Loc → Array Slot → Prop) (μ : α → Nat)
    (step : ∀ (x : α) (H : Heap) (locs : List Loc) (ls : Array Slot), P x H locs ls → (∀ (x' : α) (H' : Heap) (locs' : List Loc) (ls' : Array Slot), P x' H' locs' ls' → μ x' < μ x → W p l e R s m args below meth c H' locs' (cc x') (ss x') Q (F0 m pc ls' st)) → W p l e R s m args below meth c H locs (cc x) (ss x) Q (F0 m pc ls st)) :
    ∀ (x : α) (H : Heap) (locs : List Loc) (ls : Array Slot), P x H locs ls → W p l e R s m args below meth c H locs (cc x) (ss x) Q (F0 m pc ls st) := by
  have h : ∀ (n : Nat) (x : α) (H : Heap) (locs : List Loc) (ls : Array Slot), μ x < n → P x H locs ls → W p l e R s m args below meth c H locs (cc x) (ss x) Q (F0 m pc ls st) := by
    intro n
    induction n with
    | zero => intro x H locs ls h; exact absurd h (Nat.not_lt_zero _)
    | succ n ih => intro x H locs ls hn hp; exact step x H locs ls hp (fun x' H' locs' ls' hp' hl => ih x' H' locs' ls' (by omega) hp')
  exact fun x H locs ls hp => h (μ x + 1) x H locs ls (Nat.lt_succ_self _) hp
variable {cc : ByteArray} {pc : Nat} {ls : Array Slot} {rest : List Value} {D : va_G} {cl : List vw_C} {A : Nat → Prop} {a : Nat} {tys : List (ClassId × FieldType)} {ws : va_W} {H0 H : Heap} {locs : List Loc} {cells slots : Nat}
theorem jv_astqM (hexec : p.tables.exec = Jvm.exec) (hb : c.code = cc) (hK : va_K D cl tys s) (hP : va_P D cl ws H) (hD : va_D A ws) (hS : va_S A H0 H locs) (q0 t0 : Nat) {E : String} {cA : ClassId} {n v k : Nat} {f : Nat → Option Nat} (ha : ws[q0]? = some (a, .inl (cA, n, .inr (.inr (.inr (.inr f)))))) (ht : tys[t0]? = some (cA, .object E)) (hr : va_Any E s H v) (hk : k < n) (hn : n < 2 ^ 31) (hdg : decode cc pc = .ok (.aastore, 1))
    (kk : ∀ (H1 : Heap) (locs1 : List Loc), va_P D cl (ws.set q0 (a, .inl (cA, n, .inr (.inr (.inr (.inr (va_up f k (some v)))))))) H1 → va_D A (ws.set q0 (a, .inl (cA, n, .inr (.inr (.inr (.inr (va_up f k (some v)))))))) → va_S A H0 H1 locs1 → W p l e R s m args below meth c H1 locs1 cells slots Q (F0 m (pc + 1) ls rest)) : W p l e R s m args below meth c H locs cells slots Q (F0 m pc ls (.ref v :: .int (nI k) :: .ref a :: rest)) :=
  va_astqM hexec hb hK hP hD hS q0 t0 ha ht hr (vp_in_nI hk hn) hdg (fun H1 locs1 h1 h2 h3 => by
    rw [nI_clamp (by omega)] at h1 h2
    exact kk H1 locs1 h1 h2 h3)
theorem jv_astqN (hexec : p.tables.exec = Jvm.exec) (hb : c.code = cc) (hK : va_K D cl tys s) (hP : va_P D cl ws H) (hD : va_D A ws) (hS : va_S A H0 H locs) (q0 t0 : Nat) {C : String} {cA : ClassId} {n k : Nat} {f : Nat → Option Nat} (ha : ws[q0]? = some (a, .inl (cA, n, .inr (.inr (.inr (.inr f)))))) (ht : tys[t0]? = some (cA, .object C)) (hk : k < n) (hn : n < 2 ^ 31) (hdg : decode cc pc = .ok (.aastore, 1))
    (kk : ∀ (H1 : Heap) (locs1 : List Loc), va_P D cl (ws.set q0 (a, .inl (cA, n, .inr (.inr (.inr (.inr (va_up f k none))))))) H1 → va_D A (ws.set q0 (a, .inl (cA, n, .inr (.inr (.inr (.inr (va_up f k none))))))) → va_S A H0 H1 locs1 → W p l e R s m args below meth c H1 locs1 cells slots Q (F0 m (pc + 1) ls rest)) : W p l e R s m args below meth c H locs cells slots Q (F0 m pc ls (.null :: .int (nI k) :: .ref a :: rest)) :=
  va_astqN hexec hb hK hP hD hS q0 t0 ha ht (vp_in_nI hk hn) hdg (fun H1 locs1 h1 h2 h3 => by
    rw [nI_clamp (by omega)] at h1 h2
    exact kk H1 locs1 h1 h2 h3)
theorem jDpush {e : va_E} {b : Nat} (hD : va_D A ws) (hP : va_P D cl ws H) (hb : H.size ≤ b) (hA : A b) : va_D A (ws ++ [(b, e)]) := by
  refine va_D.app hD ⟨fun i j p q hp hq _ => ?_, fun k q hk => ?_⟩ (fun i j p q hp hq h => ?_)
  · match i, j, hp, hq with
    | 0, 0, _, _ => rfl
    | 0, j + 1, _, hq => simp at hq
    | i + 1, _, hp, _ => simp at hp
  · match k, hk with
    | 0, hk => cases hk; exact hA
    | k + 1, hk => simp at hk
  · have h1 := (hP i p hp).lt
    match j, hq with
    | 0, hq => cases hq; simp at h; omega
    | j + 1, hq => simp at hq
/-- behind a call that wrote cells ahead of the tail L -/
theorem jjoinT {wp wc wr w1 ws' L : va_W} {H1 : Heap} (hP : va_P D cl (wp ++ L) H) (hD : va_D A (wp ++ L)) (hF : ∀ q : Nat, va_A wc H.size q → A q) (isC isR perm : List Nat) (hC : isC.map (fun i => wp[i]?) = wc.map some) (hR : isR.map (fun i => wp[i]?) = wr.map some) (hnC : va_nd isC = true) (hnR : va_nd isR = true) (hnP : va_nd perm = true) (hdis : ∀ i ∈ isR, i ∉ isC)
    (hk : ∀ q : Nat, q < H.size → ¬ va_A wc H.size q → H1[q]? = H[q]?) (hP1 : va_P D cl w1 H1) (he : w1.map (·.1) = wc.map (·.1)) (hp : perm.map (fun i => (wr ++ w1)[i]?) = ws'.map some) (hp2 : perm.filterMap (fun i => (wr ++ w1)[i]?) = ws') (he2 : ws'.map (·.1) = wp.map (·.1)) : va_P D cl (ws' ++ L) H1 ∧ va_D A (ws' ++ L) := by
  have hPp : va_P D cl wp H := fun k q h => hP k q (by rw [List.getElem?_append_left (List.getElem?_eq_some_iff.mp h).1]; exact h)
  have hDp : va_D A wp := ⟨fun i j p q hp hq => hD.1 i j p q (by rw [List.getElem?_append_left (List.getElem?_eq_some_iff.mp hp).1]; exact hp) (by rw [List.getElem?_append_left (List.getElem?_eq_some_iff.mp hq).1]; exact hq), fun k q h => hD.2 k q (by rw [List.getElem?_append_left (List.getElem?_eq_some_iff.mp h).1]; exact h)⟩
  obtain ⟨h1, h2⟩ := jjoin hPp hDp hF isC isR perm hC hR hnC hnR hnP hdis hk hP1 he hp hp2
  refine ⟨va_P.app h1 (fun k q h => ?_), jD_of hD (by rw [List.map_append, List.map_append, he2])⟩
  have hL : (wp ++ L)[wp.length + k]? = some q := by rw [List.getElem?_append_right (Nat.le_add_right _ _), Nat.add_sub_cancel_left]; exact h
  have hq := hP _ q hL
  refine hq.kept (hk q.1 hq.lt ?_)
  rintro (⟨j, e, hj⟩ | hj)
  · have h3 : (isC.map (fun i => wp[i]?))[j]? = some (some (q.1, e)) := by rw [hC, List.getElem?_map, hj]; rfl
    rw [List.getElem?_map] at h3
    cases h4 : isC[j]? with
    | none => rw [h4] at h3; cases h3
    | some i =>
      rw [h4] at h3
      have h5 : wp[i]? = some (q.1, e) := Option.some.inj h3
      have h6 := (List.getElem?_eq_some_iff.mp h5).1
      have := hD.1 i (wp.length + k) (q.1, e) q (by rw [List.getElem?_append_left h6]; exact h5) hL rfl
      omega
  · have := hq.lt; omega
theorem jany {cI cJ : ClassId} {k : Nat} {fs : List Value} (hT : jT D cI cJ s) (hP : va_P D vwCl [(a, .inr (k, fs))] H) (hk : jK5 k) : va_Any "JamDays$Jar" s H a := by
  have key : ∀ (C : String), (C, "JamDays$Jar") ∈ jYes → ∀ comp c0 : ClassId, s.vm.findClass "JamDays$Jar" = some comp → s.vm.findClass C = some c0 → s.vm.assignable c0 comp = true := by
    intro C hC comp c0 h1 h2
    obtain ⟨c1, t1, f1, f2, f3⟩ := Cond.castable_spec (va_Nw.use (A := #[]) rfl (hT.2.2.1 _ hC))
    cases h2.symm.trans f1
    cases h1.symm.trans f2
    exact f3
  rcases hk with rfl | rfl | rfl | rfl | rfl
  · exact va_rAny (q0 := 0) (ci := 0) hT.1 hP rfl rfl (key _ (by decide))
  · exact va_rAny (q0 := 0) (ci := 2) hT.1 hP rfl rfl (key _ (by decide))
  · exact va_rAny (q0 := 0) (ci := 3) hT.1 hP rfl rfl (fun comp c0 h1 h2 => by
      have h3 := va_assign (hT.1.1 3 _ rfl).2
      have e : D.1 3 = comp := Option.some.inj ((hT.1.1 3 _ rfl).2.1.symm.trans h1)
      have e2 : D.1 3 = c0 := Option.some.inj ((hT.1.1 3 _ rfl).2.1.symm.trans h2)
      subst e
      subst e2
      exact h3)
  · exact va_rAny (q0 := 0) (ci := 4) hT.1 hP rfl rfl (key _ (by decide))
  · exact va_rAny (q0 := 0) (ci := 5) hT.1 hP rfl rfl (key _ (by decide))
end JLA
def jkk (c : Int32) : Nat := if c = 99 then 0 else if c = 103 then 2 else if c = 112 then 4 else if c = 119 then 5 else 3
def jmm (k : Nat) (s0 : Int32) : Int32 := if k = 5 then jpm s0 + 1 else if k = 0 then 0 else if k = 2 then 0 else jpm s0
theorem jkk5 (c : Int32) : jK5 (jkk c) := by
  unfold jkk jK5
  repeat' split
  all_goals omega
/-- jar i as the page has it -/
def jcl (pg : Nat → Int32) (i : Nat) : va_E := .inr (jkk (pg (i * 4)), [.int (pg (i * 4 + 1) - 48), .int (pg (i * 4 + 2) - 48), .int (jmm (jkk (pg (i * 4))) (pg (i * 4 + 2) - 48))])
def jHas (jr : Nat → Option Nat) (pg : Nat → Int32) (L : va_W) (i n2 : Nat) : Prop := ∀ b : Nat, b < i → b < n2 → ∃ a : Nat, jr b = some a ∧ (a, jcl pg b) ∈ L
theorem jHas_new {jr : Nat → Option Nat} {pg : Nat → Int32} {L : va_W} {i n2 r : Nat} (h : jHas jr pg L i n2) : jHas (va_up jr i (some r)) pg (L ++ [(r, jcl pg i)]) (i + 1) n2 := by
  intro b h1 h2
  by_cases e : b = i
  · subst e; exact ⟨r, by simp [va_up], List.mem_append_right _ List.mem_cons_self⟩
  · obtain ⟨a, g1, g2⟩ := h b (by omega) h2
    exact ⟨a, by simp [va_up, e, g1], List.mem_append_left _ g2⟩
theorem jHas_null {jr : Nat → Option Nat} {pg : Nat → Int32} {L : va_W} {i n2 : Nat} (h : jHas jr pg L i n2) (hi : n2 ≤ i) : jHas (va_up jr i none) pg L (i + 1) n2 := by
  intro b h1 h2
  obtain ⟨a, g1, g2⟩ := h b (by omega) h2
  exact ⟨a, by simp [va_up, show ¬ b = i by omega, g1], g2⟩
theorem jHas_J {D : va_G} {jr : Nat → Option Nat} {pg : Nat → Int32} {wp L : va_W} {n2 : Nat} {H : Heap} (h : jHas jr pg L 6 n2) (h6 : n2 ≤ 6) (hP : va_P D vwCl (wp ++ L) H) : jJ D n2 jr (fun i => jkk (pg (i * 4))) (fun i => pg (i * 4 + 1) - 48) (fun i => pg (i * 4 + 2) - 48) (fun i => jmm (jkk (pg (i * 4))) (pg (i * 4 + 2) - 48)) H := by
  intro i hi
  obtain ⟨a, g1, g2⟩ := h i (by omega) hi
  obtain ⟨k, hk⟩ := List.getElem?_of_mem (List.mem_append_right wp g2)
  exact ⟨jkk5 _, a, g1, hP k _ hk⟩
theorem jHas_sz {jr : Nat → Option Nat} {pg : Nat → Int32} {L : va_W} {n2 sz : Nat} (h : jHas jr pg L 6 n2) (h6 : n2 ≤ 6) (hz : ∀ q ∈ L, sz ≤ q.1) : ∀ i a : Nat, i < n2 → jr i = some a → sz ≤ a := by
  intro i a hi ha
  obtain ⟨b, g1, g2⟩ := h i (by omega) hi
  rw [ha] at g1
  cases g1
  exact hz _ g2
set_option maxHeartbeats 4000000 in
set_option maxRecDepth 100000 in
theorem c_Weak_init (l : Launch) (D : va_G) (cI cJ : ClassId) (h : Nat) (v0 : Value) (v1 : Value) (v2 : Value) (g : Int32) (s0 : Int32)  : jWv l yX5_init wsX5_initE ({ frames := 2, cells := 0, slots := 0, locals := 41 }) 0 0 [.ref h, .int g, .int s0] D cI cJ [(h, .inr (5, [v0, v1, v2]))] (fun H => True) (fun H => va_P D vwCl [(h, .inr (5, [.int g, .int s0, .int (jpm s0 + 1)]))] H) := by
  intro sz
  refine Met.ofW (cc := cX5_init) (maxL := 3) (ret := none) (by decide) rfl ?_
  intro p e s m args below meth c s₁ B hml hv
  obtain ⟨rfl, hsz, hT, hP, hD0, _⟩ := hv
  have hK := hT.1
  have hx := B.exec
  have hb := B.bytes
  have hr := B.returns
  have hts := atoms_spec (ws := wsX5_initE) B.pre
  have hown : s.vm.findClass RX5 = some m.cls := findClass_of_methodNamed B.named
  have hlocks := B.notSynchronized
  have hin : meth.name = "<init>" := (name_of_methodNamed B.named B.method).1
  subst hsz
  have hD := hD0.self (sz := s.heap.size)
  generalize hAe : va_A [(h, .inr (5, [v0, v1, v2]))] s.heap.size = A at hD ⊢
  have hA : ∀ q : Nat, s.heap.size ≤ q → A q := fun q h => by rw [← hAe]; exact Or.inr h
  have hS : va_S A s.heap s.heap [] := va_S.rf
  have hl := lv_entry ([.ref h, .int g, .int s0] : List Value) (n := 3) (Nat.le_of_ble_eq_true rfl)
  rw [lg_entry_eq]
  generalize (lg_sl ([.ref h, .int g, .int s0]) ++ List.replicate (3 - (lg_sl ([.ref h, .int g, .int s0])).length) Slot.unset).toArray = ls at hl ⊢
  have hl : lv_has ls 3 [(0, .ref h), (1, .int g), (2, .int s0)] := hl
  refine lv_aload_n hx hb dX5_init_0 rfl (lv_at hl 0 rfl) ?_
  refine lv_iload_n hx hb dX5_init_1 rfl (lv_at hl 1 rfl) ?_
  refine lv_iload_n hx hb dX5_init_2 rfl (lv_at hl 2 rfl) ?_
  refine lv_iload_n hx hb dX5_init_3 rfl (lv_at hl 2 rfl) ?_
  refine jcalli (jrunSUp (n := 1) (x := ⟨"JamDays$Weak", "plainMould", "(I)I"⟩) (owner := "JamDays$Jar") (As := [.int s0]) (rest := [.int s0, .int g, .ref h]) ⟨hx, hb, hml, hown, hts⟩ (c_plainMould l D cI cJ s0 s.heap.size) rfl jg_5_pm rfl rfl rfl (List.mem_of_getElem? (i := 1) rfl) (List.mem_of_getElem? (i := 2) rfl) (List.mem_of_getElem? (i := 3) rfl) (List.mem_of_getElem? (i := 4) rfl) (by decide +kernel) ⟨Nat.le_of_ble_eq_true rfl, Nat.le_of_ble_eq_true rfl⟩ (jpreS hT trivial) rfl rfl hl.1 rfl (lv_room (Nat.le_of_ble_eq_true rfl)) dX5_init_4 ⟨(Nat.zero_le _), (Nat.zero_le _)⟩) hS hA (fun r_1 H locs hw_r_1 hkq hS => ?_)
  try dsimp only at hw_r_1
  have hP := jkeep hP hkq
  subst hw_r_1
  refine lv_iconst (v := 1) hx hb dX5_init_7 (by decide) ?_
  refine lv_iadd hx hb dX5_init_8 ?_
  have hPc_2 := hP.sub (ws' := [(h, .inr (5, [v0, v1, v2]))]) [0] rfl
  have hDc_3 := hD.sub (ws' := [(h, .inr (5, [v0, v1, v2]))]) [0] (by decide) rfl
  have hFc_4 := va_free (wc := [(h, .inr (5, [v0, v1, v2]))]) hD hS hA [0] rfl
  refine jcallWv (post := fun H => va_P D vwCl [(h, .inr (5, [.int g, .int s0, .int ((jpm s0) + 1)]))] H) (va_runI (As := [.int g, .int s0, .int ((jpm s0) + 1)]) (rest := []) ⟨hx, hb, hml, hown, hts⟩ (c_Jar_init3_5 l D cI cJ h v0 v1 v2 g s0 ((jpm s0) + 1) H.size) (cwI 3 hts (jgu gX5_init_X3_init_) rfl rfl rfl (hts (Cond.initialized RX3) (List.mem_of_getElem? (i := 4) rfl)) (hts (Cond.methodLink RX5 9 yX3_init_) (List.mem_of_getElem? (i := 11) rfl)) (hts (Cond.instanceMethod yX3_init_) (List.mem_of_getElem? (i := 12) rfl)) rfl (by decide +kernel) ⟨Nat.le_of_ble_eq_true rfl, Nat.le_of_ble_eq_true rfl⟩) (jpreS hT ⟨hPc_2, hDc_3.weaken (fun _ _ _ _ => trivial), trivial⟩) rfl rfl hl.1 rfl (lv_room (Nat.le_of_ble_eq_true rfl)) dX5_init_9 ⟨(Nat.zero_le _), (Nat.zero_le _)⟩) hS hFc_4 (fun H locs hw_r_5 hz hkq hS => ?_)
  have hP1 := hw_r_5
  obtain ⟨hP, hD⟩ := jjoin (wc := [(h, .inr (5, [v0, v1, v2]))]) (wr := []) (w1 := [(h, .inr (5, [.int g, .int s0, .int ((jpm s0) + 1)]))]) (ws' := [(h, .inr (5, [.int g, .int s0, .int ((jpm s0) + 1)]))]) hP hD hFc_4 [0] [] [0] rfl rfl (by decide) (by decide) (by decide) (by decide) hkq hP1 rfl rfl rfl
  exact W.vret hx hb hr (fun t ht hW => ⟨⟨(), rfl, trivial, by dsimp only; rw [ht]; exact hP⟩, hS.F ht⟩) hS.2.2 dX5_init_12

set_option maxHeartbeats 4000000 in
set_option maxRecDepth 100000 in
theorem c_readJar (l : Launch) (D : va_G) (cI cJ : ClassId) (x : Nat) (xp : Nat) (pl : Nat) (a1 : Value) (a2 : Value) (a3 : Value) (a4 : Value) (a5 : Value) (a6 : Value) (a7 : Value) (a8 : Value) (a9 : Value) (a10 : Value) (a11 : Value) (pg : Nat → Int32) (hpl : pl < 23) : jWr l yX6_readJar wsX6_readJarE ({ frames := 4, cells := 1, slots := 3, locals := 85 }) 1 3 [.ref x, .int (nI pl)] D cI cJ [] (fun H => va_P D vwCl [(x, .inr (6, [.ref xp, a1, a2, a3, a4, a5, a6, a7, a8, a9, a10, a11])), (xp, .inl (cI, 25, .inl pg))] H) (fun sz a H => sz ≤ a ∧ va_P D vwCl [(a, .inr (jkk (pg pl), [.int (pg (pl + 1) - 48), .int (pg (pl + 2) - 48), .int (jmm (jkk (pg pl)) (pg (pl + 2) - 48))]))] H) := by
  intro sz
  refine Met.ofW (cc := cX6_readJar) (maxL := 4) (ret := (some (.object "JamDays$Jar"))) (by decide) rfl ?_
  intro p e s m args below meth c s₁ B hml hv
  obtain ⟨rfl, hsz, hT, hP, hD0, hPr⟩ := hv
  have hK := hT.1
  have hx := B.exec
  have hb := B.bytes
  have hr := B.returns
  have hts := atoms_spec (ws := wsX6_readJarE) B.pre
  have hown : s.vm.findClass RX6 = some m.cls := findClass_of_methodNamed B.named
  have hlocks := B.notSynchronized
  subst hsz
  have hD := hD0.self (sz := s.heap.size)
  generalize hAe : va_A [] s.heap.size = A at hD ⊢
  have hA : ∀ q : Nat, s.heap.size ≤ q → A q := fun q h => by rw [← hAe]; exact Or.inr h
  have hS : va_S A s.heap s.heap [] := va_S.rf
  have hl := lv_entry ([.ref x, .int (nI pl)] : List Value) (n := 4) (Nat.le_of_ble_eq_true rfl)
  rw [lg_entry_eq]
  generalize (lg_sl ([.ref x, .int (nI pl)]) ++ List.replicate (4 - (lg_sl ([.ref x, .int (nI pl)])).length) Slot.unset).toArray = ls at hl ⊢
  have hl : lv_has ls 4 [(0, .ref x), (1, .int (nI pl))] := hl
  refine lv_aload_n hx hb dX6_readJar_0 rfl (lv_at hl 0 rfl) ?_
  refine lv_iload_n hx hb dX6_readJar_1 rfl (lv_at hl 1 rfl) ?_
  refine lv_iconst (v := 1) hx hb dX6_readJar_2 (by decide) ?_
  refine lv_iadd hx hb dX6_readJar_3 ?_
  refine jv_as (y := nI (pl + 1)) (nI_add pl 1) ?_
  have hPc_1 := hPr.sub (ws' := [(x, .inr (6, [.ref xp, a1, a2, a3, a4, a5, a6, a7, a8, a9, a10, a11])), (xp, .inl (cI, 25, .inl pg))]) [0, 1] rfl
  refine jcalli (va_runV (As := [.int (nI (pl + 1))]) (rest := []) ⟨hx, hb, hml, hown, hts⟩ (c_codeAt l D cI cJ x xp (pl + 1) a1 a2 a3 a4 a5 a6 a7 a8 a9 a10 a11 pg (by omega) s.heap.size) (cwV 1 hts (jgu gX6_readJar_X6_codeAt) rfl rfl rfl (by decide +kernel) ⟨Nat.le_of_ble_eq_true rfl, Nat.le_of_ble_eq_true rfl⟩) (jpreV hT (va_recv hK hPr (ci := 6) (q0 := 0) rfl rfl) hPc_1) rfl rfl hl.1 rfl (lv_room (Nat.le_of_ble_eq_true rfl)) dX6_readJar_4 ⟨(Nat.zero_le _), (Nat.zero_le _)⟩) hS hA (fun r_2 H locs hw_r_2 hkq hS => ?_)
  try dsimp only at hw_r_2
  have hP := jkeep hP hkq
  have hPr := jkeep hPr hkq
  subst hw_r_2
  refine lv_bipush (v := 48) hx hb dX6_readJar_7 (by decide) ?_
  refine lv_isub hx hb dX6_readJar_9 ?_
  refine lv_istore_n (lv' := [(2, .int ((pg (pl + 1)) - 48)), (0, .ref x), (1, .int (nI pl))]) hx hb dX6_readJar_10 rfl hl (by decide) rfl (fun ls hl => ?_)
  refine lv_aload_n hx hb dX6_readJar_11 rfl (lv_at hl 1 rfl) ?_
  refine lv_iload_n hx hb dX6_readJar_12 rfl (lv_at hl 2 rfl) ?_
  refine lv_iconst (v := 2) hx hb dX6_readJar_13 (by decide) ?_
  refine lv_iadd hx hb dX6_readJar_14 ?_
  refine jv_as (y := nI (pl + 2)) (nI_add pl 2) ?_
  have hPc_3 := hPr.sub (ws' := [(x, .inr (6, [.ref xp, a1, a2, a3, a4, a5, a6, a7, a8, a9, a10, a11])), (xp, .inl (cI, 25, .inl pg))]) [0, 1] rfl
  refine jcalli (va_runV (As := [.int (nI (pl + 2))]) (rest := []) ⟨hx, hb, hml, hown, hts⟩ (c_codeAt l D cI cJ x xp (pl + 2) a1 a2 a3 a4 a5 a6 a7 a8 a9 a10 a11 pg (by omega) H.size) (cwV 1 hts (jgu gX6_readJar_X6_codeAt) rfl rfl rfl (by decide +kernel) ⟨Nat.le_of_ble_eq_true rfl, Nat.le_of_ble_eq_true rfl⟩) (jpreV hT (va_recv hK hPr (ci := 6) (q0 := 0) rfl rfl) hPc_3) rfl rfl hl.1 rfl (lv_room (Nat.le_of_ble_eq_true rfl)) dX6_readJar_15 ⟨(Nat.zero_le _), (Nat.zero_le _)⟩) hS hA (fun r_4 H locs hw_r_4 hkq hS => ?_)
  try dsimp only at hw_r_4
  have hP := jkeep hP hkq
  have hPr := jkeep hPr hkq
  subst hw_r_4
  refine lv_bipush (v := 48) hx hb dX6_readJar_18 (by decide) ?_
  refine lv_isub hx hb dX6_readJar_20 ?_
  refine lv_istore_n (lv' := [(3, .int ((pg (pl + 2)) - 48)), (2, .int ((pg (pl + 1)) - 48)), (0, .ref x), (1, .int (nI pl))]) hx hb dX6_readJar_21 rfl hl (by decide) rfl (fun ls hl => ?_)
  refine lv_aload_n hx hb dX6_readJar_22 rfl (lv_at hl 2 rfl) ?_
  refine lv_iload_n hx hb dX6_readJar_23 rfl (lv_at hl 3 rfl) ?_
  have hPc_5 := hPr.sub (ws' := [(x, .inr (6, [.ref xp, a1, a2, a3, a4, a5, a6, a7, a8, a9, a10, a11])), (xp, .inl (cI, 25, .inl pg))]) [0, 1] rfl
  refine jcalli (va_runV (As := [.int (nI pl)]) (rest := []) ⟨hx, hb, hml, hown, hts⟩ (c_codeAt l D cI cJ x xp pl a1 a2 a3 a4 a5 a6 a7 a8 a9 a10 a11 pg (by omega) H.size) (cwV 1 hts (jgu gX6_readJar_X6_codeAt) rfl rfl rfl (by decide +kernel) ⟨Nat.le_of_ble_eq_true rfl, Nat.le_of_ble_eq_true rfl⟩) (jpreV hT (va_recv hK hPr (ci := 6) (q0 := 0) rfl rfl) hPc_5) rfl rfl hl.1 rfl (lv_room (Nat.le_of_ble_eq_true rfl)) dX6_readJar_24 ⟨(Nat.zero_le _), (Nat.zero_le _)⟩) hS hA (fun r_6 H locs hw_r_6 hkq hS => ?_)
  try dsimp only at hw_r_6
  have hP := jkeep hP hkq
  have hPr := jkeep hPr hkq
  subst hw_r_6
  by_cases c_7 : pg pl = 99
  · skip
    refine lv_lookup (off := 51) (tgt := 78) hx hb dX6_readJar_27 (by decide) (by rw [c_7]; decide) (by decide) ?_
    refine va_new (ci := 0) (fs := [.int 0, .int 0, .int 0]) (C := RX0) (T := TX0) (N := 3) hx hb hts (fun w h => List.mem_cons_of_mem _ (List.mem_append_right _ (List.mem_cons_of_mem _ (List.mem_append_left _ (List.mem_append_left _ (List.mem_append_left _ (List.mem_append_left _ (List.mem_append_right _ h)))))))) tyX0 tyX0_ok hown (hts (Cond.classLink RX6 208 RX0) (List.mem_of_getElem? (i := 14) rfl)) (hts (Cond.instantiable RX0 3) (List.mem_of_getElem? (i := 15) rfl)) (hts (Cond.initialized RX0) (List.mem_of_getElem? (i := 16) rfl)) hK hP hD hS hA rfl (fun j hj => by rcases (show j = 0 ∨ j = 1 ∨ j = 2 by omega) with rfl | rfl | rfl <;> rfl) (Nat.le_of_ble_eq_true rfl) (Nat.le_of_ble_eq_true rfl) dX6_readJar_78 (fun q_8 H hP hD hS => ?_)
    have hP : va_P D vwCl [(q_8, .inr (0, [.int 0, .int 0, .int 0]))] H := hP
    have hD : va_D A [(q_8, .inr (0, [.int 0, .int 0, .int 0]))] := hD
    refine lv_dup hx hb dX6_readJar_81 rfl ?_
    refine lv_iload_n hx hb dX6_readJar_82 rfl (lv_at hl 1 rfl) ?_
    refine lv_iload_n hx hb dX6_readJar_83 rfl (lv_at hl 0 rfl) ?_
    have hPc_9 := hP.sub (ws' := [(q_8, .inr (0, [.int 0, .int 0, .int 0]))]) [0] rfl
    have hDc_10 := hD.sub (ws' := [(q_8, .inr (0, [.int 0, .int 0, .int 0]))]) [0] (by decide) rfl
    have hFc_11 := va_free (wc := [(q_8, .inr (0, [.int 0, .int 0, .int 0]))]) hD hS hA [0] rfl
    refine jcallWv (post := fun H => va_P D vwCl [(q_8, .inr (0, [.int ((pg (pl + 1)) - 48), .int ((pg (pl + 2)) - 48), .int 0]))] H) (va_runI (As := [.int ((pg (pl + 1)) - 48), .int ((pg (pl + 2)) - 48)]) (rest := [.ref q_8]) ⟨hx, hb, hml, hown, hts⟩ (c_Copper_init_0 l D cI cJ q_8 (.int 0) (.int 0) (.int 0) ((pg (pl + 1)) - 48) ((pg (pl + 2)) - 48) H.size) (cwI 2 hts (jgu gX6_readJar_X0_init) rfl rfl rfl (hts (Cond.initialized RX0) (List.mem_of_getElem? (i := 16) rfl)) (hts (Cond.methodLink RX6 210 yX0_init) (List.mem_of_getElem? (i := 44) rfl)) (hts (Cond.instanceMethod yX0_init) (List.mem_of_getElem? (i := 45) rfl)) rfl (by decide +kernel) ⟨Nat.le_of_ble_eq_true rfl, Nat.le_of_ble_eq_true rfl⟩) (jpreS hT ⟨hPc_9, hDc_10.weaken (fun _ _ _ _ => trivial), trivial⟩) rfl rfl hl.1 rfl (lv_room (Nat.le_of_ble_eq_true rfl)) dX6_readJar_84 ⟨Nat.le_of_ble_eq_true rfl, Nat.le_of_ble_eq_true rfl⟩) hS hFc_11 (fun H locs hw_r_12 hz hkq hS => ?_)
    have hP1 := hw_r_12
    obtain ⟨hP, hD⟩ := jjoin (wc := [(q_8, .inr (0, [.int 0, .int 0, .int 0]))]) (wr := []) (w1 := [(q_8, .inr (0, [.int ((pg (pl + 1)) - 48), .int ((pg (pl + 2)) - 48), .int 0]))]) (ws' := [(q_8, .inr (0, [.int ((pg (pl + 1)) - 48), .int ((pg (pl + 2)) - 48), .int 0]))]) hP hD hFc_11 [0] [] [0] rfl rfl (by decide) (by decide) (by decide) (by decide) hkq hP1 rfl rfl rfl
    refine W.widen (k := 1) (n := 3) (by omega) (by omega) ?_
    exact W.aret (v := .ref q_8) hx hb hr (Or.inl ⟨_, rfl⟩) (Or.inr ⟨_, rfl⟩) (fun t ht hW => ⟨⟨(), q_8, rfl, trivial, by dsimp only; rw [ht]; exact ⟨jA0.mp (by rw [hAe]; exact hD.2 0 _ rfl), by rw [show jkk (pg pl) = 0 from by simp [jkk, c_7]]; exact hP⟩⟩, hS.F ht⟩) hS.2.2 dX6_readJar_87
  by_cases c_13 : pg pl = 103
  · skip
    refine lv_lookup (off := 71) (tgt := 98) hx hb dX6_readJar_27 (by decide) (by rw [c_13]; decide) (by decide) ?_
    refine va_new (ci := 2) (fs := [.int 0, .int 0, .int 0]) (C := RX2) (T := TX2) (N := 3) hx hb hts (fun w h => List.mem_cons_of_mem _ (List.mem_append_right _ (List.mem_cons_of_mem _ (List.mem_append_left _ (List.mem_append_left _ (List.mem_append_right _ h)))))) tyX2 tyX2_ok hown (hts (Cond.classLink RX6 214 RX2) (List.mem_of_getElem? (i := 20) rfl)) (hts (Cond.instantiable RX2 3) (List.mem_of_getElem? (i := 21) rfl)) (hts (Cond.initialized RX2) (List.mem_of_getElem? (i := 22) rfl)) hK hP hD hS hA rfl (fun j hj => by rcases (show j = 0 ∨ j = 1 ∨ j = 2 by omega) with rfl | rfl | rfl <;> rfl) (Nat.le_of_ble_eq_true rfl) (Nat.le_of_ble_eq_true rfl) dX6_readJar_98 (fun q_14 H hP hD hS => ?_)
    have hP : va_P D vwCl [(q_14, .inr (2, [.int 0, .int 0, .int 0]))] H := hP
    have hD : va_D A [(q_14, .inr (2, [.int 0, .int 0, .int 0]))] := hD
    refine lv_dup hx hb dX6_readJar_101 rfl ?_
    refine lv_iload_n hx hb dX6_readJar_102 rfl (lv_at hl 1 rfl) ?_
    refine lv_iload_n hx hb dX6_readJar_103 rfl (lv_at hl 0 rfl) ?_
    have hPc_15 := hP.sub (ws' := [(q_14, .inr (2, [.int 0, .int 0, .int 0]))]) [0] rfl
    have hDc_16 := hD.sub (ws' := [(q_14, .inr (2, [.int 0, .int 0, .int 0]))]) [0] (by decide) rfl
    have hFc_17 := va_free (wc := [(q_14, .inr (2, [.int 0, .int 0, .int 0]))]) hD hS hA [0] rfl
    refine jcallWv (post := fun H => va_P D vwCl [(q_14, .inr (2, [.int ((pg (pl + 1)) - 48), .int ((pg (pl + 2)) - 48), .int 0]))] H) (va_runI (As := [.int ((pg (pl + 1)) - 48), .int ((pg (pl + 2)) - 48)]) (rest := [.ref q_14]) ⟨hx, hb, hml, hown, hts⟩ (c_Gold_init l D cI cJ q_14 (.int 0) (.int 0) (.int 0) ((pg (pl + 1)) - 48) ((pg (pl + 2)) - 48) H.size) (cwI 2 hts (jgu gX6_readJar_X2_init) rfl rfl rfl (hts (Cond.initialized RX2) (List.mem_of_getElem? (i := 22) rfl)) (hts (Cond.methodLink RX6 216 yX2_init) (List.mem_of_getElem? (i := 62) rfl)) (hts (Cond.instanceMethod yX2_init) (List.mem_of_getElem? (i := 63) rfl)) rfl (by decide +kernel) ⟨Nat.le_of_ble_eq_true rfl, Nat.le_of_ble_eq_true rfl⟩) (jpreS hT ⟨hPc_15, hDc_16.weaken (fun _ _ _ _ => trivial), trivial⟩) rfl rfl hl.1 rfl (lv_room (Nat.le_of_ble_eq_true rfl)) dX6_readJar_104 ⟨Nat.le_of_ble_eq_true rfl, Nat.le_of_ble_eq_true rfl⟩) hS hFc_17 (fun H locs hw_r_18 hz hkq hS => ?_)
    have hP1 := hw_r_18
    obtain ⟨hP, hD⟩ := jjoin (wc := [(q_14, .inr (2, [.int 0, .int 0, .int 0]))]) (wr := []) (w1 := [(q_14, .inr (2, [.int ((pg (pl + 1)) - 48), .int ((pg (pl + 2)) - 48), .int 0]))]) (ws' := [(q_14, .inr (2, [.int ((pg (pl + 1)) - 48), .int ((pg (pl + 2)) - 48), .int 0]))]) hP hD hFc_17 [0] [] [0] rfl rfl (by decide) (by decide) (by decide) (by decide) hkq hP1 rfl rfl rfl
    refine W.widen (k := 1) (n := 3) (by omega) (by omega) ?_
    exact W.aret (v := .ref q_14) hx hb hr (Or.inl ⟨_, rfl⟩) (Or.inr ⟨_, rfl⟩) (fun t ht hW => ⟨⟨(), q_14, rfl, trivial, by dsimp only; rw [ht]; exact ⟨jA0.mp (by rw [hAe]; exact hD.2 0 _ rfl), by rw [show jkk (pg pl) = 2 from by simp [jkk, c_7, c_13]]; exact hP⟩⟩, hS.F ht⟩) hS.2.2 dX6_readJar_107
  by_cases c_19 : pg pl = 112
  · skip
    refine lv_lookup (off := 61) (tgt := 88) hx hb dX6_readJar_27 (by decide) (by rw [c_19]; decide) (by decide) ?_
    refine va_new (ci := 4) (fs := [.int 0, .int 0, .int 0]) (C := RX4) (T := TX4) (N := 3) hx hb hts (fun w h => List.mem_cons_of_mem _ (List.mem_append_right _ (List.mem_cons_of_mem _ (List.mem_append_left _ (List.mem_append_left _ (List.mem_append_left _ (List.mem_append_right _ h))))))) tyX4 tyX4_ok hown (hts (Cond.classLink RX6 211 RX4) (List.mem_of_getElem? (i := 17) rfl)) (hts (Cond.instantiable RX4 3) (List.mem_of_getElem? (i := 18) rfl)) (hts (Cond.initialized RX4) (List.mem_of_getElem? (i := 19) rfl)) hK hP hD hS hA rfl (fun j hj => by rcases (show j = 0 ∨ j = 1 ∨ j = 2 by omega) with rfl | rfl | rfl <;> rfl) (Nat.le_of_ble_eq_true rfl) (Nat.le_of_ble_eq_true rfl) dX6_readJar_88 (fun q_20 H hP hD hS => ?_)
    have hP : va_P D vwCl [(q_20, .inr (4, [.int 0, .int 0, .int 0]))] H := hP
    have hD : va_D A [(q_20, .inr (4, [.int 0, .int 0, .int 0]))] := hD
    refine lv_dup hx hb dX6_readJar_91 rfl ?_
    refine lv_iload_n hx hb dX6_readJar_92 rfl (lv_at hl 1 rfl) ?_
    refine lv_iload_n hx hb dX6_readJar_93 rfl (lv_at hl 0 rfl) ?_
    have hPc_21 := hP.sub (ws' := [(q_20, .inr (4, [.int 0, .int 0, .int 0]))]) [0] rfl
    have hDc_22 := hD.sub (ws' := [(q_20, .inr (4, [.int 0, .int 0, .int 0]))]) [0] (by decide) rfl
    have hFc_23 := va_free (wc := [(q_20, .inr (4, [.int 0, .int 0, .int 0]))]) hD hS hA [0] rfl
    refine jcallWv (post := fun H => va_P D vwCl [(q_20, .inr (4, [.int ((pg (pl + 1)) - 48), .int ((pg (pl + 2)) - 48), .int (jpm ((pg (pl + 2)) - 48))]))] H) (va_runI (As := [.int ((pg (pl + 1)) - 48), .int ((pg (pl + 2)) - 48)]) (rest := [.ref q_20]) ⟨hx, hb, hml, hown, hts⟩ (c_Plum_init l D cI cJ q_20 (.int 0) (.int 0) (.int 0) ((pg (pl + 1)) - 48) ((pg (pl + 2)) - 48) H.size) (cwI 2 hts (jgu gX6_readJar_X4_init) rfl rfl rfl (hts (Cond.initialized RX4) (List.mem_of_getElem? (i := 19) rfl)) (hts (Cond.methodLink RX6 213 yX4_init) (List.mem_of_getElem? (i := 48) rfl)) (hts (Cond.instanceMethod yX4_init) (List.mem_of_getElem? (i := 49) rfl)) rfl (by decide +kernel) ⟨Nat.le_of_ble_eq_true rfl, Nat.le_of_ble_eq_true rfl⟩) (jpreS hT ⟨hPc_21, hDc_22.weaken (fun _ _ _ _ => trivial), trivial⟩) rfl rfl hl.1 rfl (lv_room (Nat.le_of_ble_eq_true rfl)) dX6_readJar_94 ⟨Nat.le_of_ble_eq_true rfl, Nat.le_of_ble_eq_true rfl⟩) hS hFc_23 (fun H locs hw_r_24 hz hkq hS => ?_)
    have hP1 := hw_r_24
    obtain ⟨hP, hD⟩ := jjoin (wc := [(q_20, .inr (4, [.int 0, .int 0, .int 0]))]) (wr := []) (w1 := [(q_20, .inr (4, [.int ((pg (pl + 1)) - 48), .int ((pg (pl + 2)) - 48), .int (jpm ((pg (pl + 2)) - 48))]))]) (ws' := [(q_20, .inr (4, [.int ((pg (pl + 1)) - 48), .int ((pg (pl + 2)) - 48), .int (jpm ((pg (pl + 2)) - 48))]))]) hP hD hFc_23 [0] [] [0] rfl rfl (by decide) (by decide) (by decide) (by decide) hkq hP1 rfl rfl rfl
    refine W.widen (k := 1) (n := 3) (by omega) (by omega) ?_
    exact W.aret (v := .ref q_20) hx hb hr (Or.inl ⟨_, rfl⟩) (Or.inr ⟨_, rfl⟩) (fun t ht hW => ⟨⟨(), q_20, rfl, trivial, by dsimp only; rw [ht]; exact ⟨jA0.mp (by rw [hAe]; exact hD.2 0 _ rfl), by rw [show jkk (pg pl) = 4 from by simp [jkk, c_7, c_13, c_19]]; exact hP⟩⟩, hS.F ht⟩) hS.2.2 dX6_readJar_97
  by_cases c_25 : pg pl = 119
  · skip
    refine lv_lookup (off := 41) (tgt := 68) hx hb dX6_readJar_27 (by decide) (by rw [c_25]; decide) (by decide) ?_
    refine va_new (ci := 5) (fs := [.int 0, .int 0, .int 0]) (C := RX5) (T := TX5) (N := 3) hx hb hts (fun w h => List.mem_cons_of_mem _ (List.mem_append_right _ (List.mem_cons_of_mem _ (List.mem_append_left _ (List.mem_append_left _ (List.mem_append_left _ (List.mem_append_left _ (List.mem_append_left _ (List.mem_append_right _ h))))))))) tyX5 tyX5_ok hown (hts (Cond.classLink RX6 203 RX5) (List.mem_of_getElem? (i := 11) rfl)) (hts (Cond.instantiable RX5 3) (List.mem_of_getElem? (i := 12) rfl)) (hts (Cond.initialized RX5) (List.mem_of_getElem? (i := 13) rfl)) hK hP hD hS hA rfl (fun j hj => by rcases (show j = 0 ∨ j = 1 ∨ j = 2 by omega) with rfl | rfl | rfl <;> rfl) (Nat.le_of_ble_eq_true rfl) (Nat.le_of_ble_eq_true rfl) dX6_readJar_68 (fun q_26 H hP hD hS => ?_)
    have hP : va_P D vwCl [(q_26, .inr (5, [.int 0, .int 0, .int 0]))] H := hP
    have hD : va_D A [(q_26, .inr (5, [.int 0, .int 0, .int 0]))] := hD
    refine lv_dup hx hb dX6_readJar_71 rfl ?_
    refine lv_iload_n hx hb dX6_readJar_72 rfl (lv_at hl 1 rfl) ?_
    refine lv_iload_n hx hb dX6_readJar_73 rfl (lv_at hl 0 rfl) ?_
    have hPc_27 := hP.sub (ws' := [(q_26, .inr (5, [.int 0, .int 0, .int 0]))]) [0] rfl
    have hDc_28 := hD.sub (ws' := [(q_26, .inr (5, [.int 0, .int 0, .int 0]))]) [0] (by decide) rfl
    have hFc_29 := va_free (wc := [(q_26, .inr (5, [.int 0, .int 0, .int 0]))]) hD hS hA [0] rfl
    refine jcallWv (post := fun H => va_P D vwCl [(q_26, .inr (5, [.int ((pg (pl + 1)) - 48), .int ((pg (pl + 2)) - 48), .int (jpm ((pg (pl + 2)) - 48) + 1)]))] H) (va_runI (As := [.int ((pg (pl + 1)) - 48), .int ((pg (pl + 2)) - 48)]) (rest := [.ref q_26]) ⟨hx, hb, hml, hown, hts⟩ (c_Weak_init l D cI cJ q_26 (.int 0) (.int 0) (.int 0) ((pg (pl + 1)) - 48) ((pg (pl + 2)) - 48) H.size) (cwI 2 hts jg_rj_5 rfl rfl rfl (hts (Cond.initialized RX5) (List.mem_of_getElem? (i := 13) rfl)) (hts (Cond.methodLink RX6 205 yX5_init) (List.mem_of_getElem? (i := 32) rfl)) (hts (Cond.instanceMethod yX5_init) (List.mem_of_getElem? (i := 33) rfl)) rfl (by decide +kernel) ⟨Nat.le_of_ble_eq_true rfl, Nat.le_of_ble_eq_true rfl⟩) (jpreS hT ⟨hPc_27, hDc_28.weaken (fun _ _ _ _ => trivial), trivial⟩) rfl rfl hl.1 rfl (lv_room (Nat.le_of_ble_eq_true rfl)) dX6_readJar_74 ⟨Nat.le_of_ble_eq_true rfl, Nat.le_of_ble_eq_true rfl⟩) hS hFc_29 (fun H locs hw_r_30 hz hkq hS => ?_)
    have hP1 := hw_r_30
    obtain ⟨hP, hD⟩ := jjoin (wc := [(q_26, .inr (5, [.int 0, .int 0, .int 0]))]) (wr := []) (w1 := [(q_26, .inr (5, [.int ((pg (pl + 1)) - 48), .int ((pg (pl + 2)) - 48), .int (jpm ((pg (pl + 2)) - 48) + 1)]))]) (ws' := [(q_26, .inr (5, [.int ((pg (pl + 1)) - 48), .int ((pg (pl + 2)) - 48), .int (jpm ((pg (pl + 2)) - 48) + 1)]))]) hP hD hFc_29 [0] [] [0] rfl rfl (by decide) (by decide) (by decide) (by decide) hkq hP1 rfl rfl rfl
    refine W.widen (k := 1) (n := 3) (by omega) (by omega) ?_
    exact W.aret (v := .ref q_26) hx hb hr (Or.inl ⟨_, rfl⟩) (Or.inr ⟨_, rfl⟩) (fun t ht hW => ⟨⟨(), q_26, rfl, trivial, by dsimp only; rw [ht]; exact ⟨jA0.mp (by rw [hAe]; exact hD.2 0 _ rfl), by rw [show jkk (pg pl) = 5 from by simp [jkk, c_7, c_13, c_19, c_25]]; exact hP⟩⟩, hS.F ht⟩) hS.2.2 dX6_readJar_77
  refine lv_lookup (off := 81) (tgt := 108) hx hb dX6_readJar_27 (by decide) (by show Op.lookupswitch.offset [(99, 51), (103, 71), (112, 61), (119, 41)] 81 _ = 81; rw [Op.lookupswitch.offset_cons, if_neg (jne (A := 99) (by decide) c_7), Op.lookupswitch.offset_cons, if_neg (jne (A := 103) (by decide) c_13), Op.lookupswitch.offset_cons, if_neg (jne (A := 112) (by decide) c_19), Op.lookupswitch.offset_cons, if_neg (jne (A := 119) (by decide) c_25), Op.lookupswitch.offset_nil]) (by decide) ?_
  refine va_new (ci := 3) (fs := [.int 0, .int 0, .int 0]) (C := RX3) (T := TX3) (N := 3) hx hb hts (fun w h => List.mem_cons_of_mem _ (List.mem_append_right _ (List.mem_cons_of_mem _ (List.mem_append_left _ (List.mem_append_right _ h))))) tyX3 tyX3_ok hown (hts (Cond.classLink RX6 17 RX3) (List.mem_of_getElem? (i := 23) rfl)) (hts (Cond.instantiable RX3 3) (List.mem_of_getElem? (i := 24) rfl)) (hts (Cond.initialized RX3) (List.mem_of_getElem? (i := 4) rfl)) hK hP hD hS hA rfl (fun j hj => by rcases (show j = 0 ∨ j = 1 ∨ j = 2 by omega) with rfl | rfl | rfl <;> rfl) (Nat.le_of_ble_eq_true rfl) (Nat.le_of_ble_eq_true rfl) dX6_readJar_108 (fun q_31 H hP hD hS => ?_)
  have hP : va_P D vwCl [(q_31, .inr (3, [.int 0, .int 0, .int 0]))] H := hP
  have hD : va_D A [(q_31, .inr (3, [.int 0, .int 0, .int 0]))] := hD
  refine lv_dup hx hb dX6_readJar_111 rfl ?_
  refine lv_iload_n hx hb dX6_readJar_112 rfl (lv_at hl 1 rfl) ?_
  refine lv_iload_n hx hb dX6_readJar_113 rfl (lv_at hl 0 rfl) ?_
  have hPc_32 := hP.sub (ws' := [(q_31, .inr (3, [.int 0, .int 0, .int 0]))]) [0] rfl
  have hDc_33 := hD.sub (ws' := [(q_31, .inr (3, [.int 0, .int 0, .int 0]))]) [0] (by decide) rfl
  have hFc_34 := va_free (wc := [(q_31, .inr (3, [.int 0, .int 0, .int 0]))]) hD hS hA [0] rfl
  refine jcallWv (post := fun H => va_P D vwCl [(q_31, .inr (3, [.int ((pg (pl + 1)) - 48), .int ((pg (pl + 2)) - 48), .int (jpm ((pg (pl + 2)) - 48))]))] H) (va_runI (As := [.int ((pg (pl + 1)) - 48), .int ((pg (pl + 2)) - 48)]) (rest := [.ref q_31]) ⟨hx, hb, hml, hown, hts⟩ (c_Jar_init2_3 l D cI cJ q_31 (.int 0) (.int 0) (.int 0) ((pg (pl + 1)) - 48) ((pg (pl + 2)) - 48) H.size) (cwI 2 hts (jgu gX6_readJar_X3_init) rfl rfl rfl (hts (Cond.initialized RX3) (List.mem_of_getElem? (i := 4) rfl)) (hts (Cond.methodLink RX6 217 yX3_init) (List.mem_of_getElem? (i := 66) rfl)) (hts (Cond.instanceMethod yX3_init) (List.mem_of_getElem? (i := 52) rfl)) rfl (by decide +kernel) ⟨Nat.le_of_ble_eq_true rfl, Nat.le_of_ble_eq_true rfl⟩) (jpreS hT ⟨hPc_32, hDc_33.weaken (fun _ _ _ _ => trivial), trivial⟩) rfl rfl hl.1 rfl (lv_room (Nat.le_of_ble_eq_true rfl)) dX6_readJar_114 ⟨Nat.le_of_ble_eq_true rfl, Nat.le_of_ble_eq_true rfl⟩) hS hFc_34 (fun H locs hw_r_35 hz hkq hS => ?_)
  have hP1 := hw_r_35
  obtain ⟨hP, hD⟩ := jjoin (wc := [(q_31, .inr (3, [.int 0, .int 0, .int 0]))]) (wr := []) (w1 := [(q_31, .inr (3, [.int ((pg (pl + 1)) - 48), .int ((pg (pl + 2)) - 48), .int (jpm ((pg (pl + 2)) - 48))]))]) (ws' := [(q_31, .inr (3, [.int ((pg (pl + 1)) - 48), .int ((pg (pl + 2)) - 48), .int (jpm ((pg (pl + 2)) - 48))]))]) hP hD hFc_34 [0] [] [0] rfl rfl (by decide) (by decide) (by decide) (by decide) hkq hP1 rfl rfl rfl
  refine W.widen (k := 1) (n := 3) (by omega) (by omega) ?_
  exact W.aret (v := .ref q_31) hx hb hr (Or.inl ⟨_, rfl⟩) (Or.inr ⟨_, rfl⟩) (fun t ht hW => ⟨⟨(), q_31, rfl, trivial, by dsimp only; rw [ht]; exact ⟨jA0.mp (by rw [hAe]; exact hD.2 0 _ rfl), by rw [show jkk (pg pl) = 3 from by simp [jkk, c_7, c_13, c_19, c_25]]; exact hP⟩⟩, hS.F ht⟩) hS.2.2 dX6_readJar_117

set_option maxHeartbeats 4000000 in
set_option maxRecDepth 100000 in
theorem c_fault (l : Launch) (D : va_G) (cI cJ : ClassId) (x : Nat) (xp : Nat) (pn : Nat) (a2 : Value) (a3 : Value) (a4 : Value) (a5 : Value) (a6 : Value) (a7 : Value) (a8 : Value) (a9 : Value) (a10 : Value) (a11 : Value) (pg : Nat → Int32) (hp25 : pn ≤ 25) : jRi l yX6_fault wsX6_fault ({ frames := 2, cells := 0, slots := 0, locals := 41 }) [.ref x] D cI cJ (fun H => va_P D vwCl [(x, .inr (6, [.ref xp, .int (nI pn), a2, a3, a4, a5, a6, a7, a8, a9, a10, a11])), (xp, .inl (cI, 25, .inl pg))] H) (fun r => r = nI (jfo (fun i => jft i (pg i)) pn)) := by
  intro sz
  refine Met.ofW (cc := cX6_fault) (maxL := 2) (ret := (some .int)) (by decide) rfl ?_
  intro p e s m args below meth c s₁ B hml hv
  obtain ⟨rfl, hsz, hT, hPr⟩ := hv
  have hK := hT.1
  have hx := B.exec
  have hb := B.bytes
  have hr := B.returns
  have hts := atoms_spec (ws := wsX6_fault) B.pre
  have hown : s.vm.findClass RX6 = some m.cls := findClass_of_methodNamed B.named
  have hlocks := B.notSynchronized
  subst hsz
  generalize hAe : va_A [] s.heap.size = A
  have hA : ∀ q : Nat, s.heap.size ≤ q → A q := fun q h => by rw [← hAe]; exact Or.inr h
  have hS : va_S A s.heap s.heap [] := va_S.rf
  have hl := lv_entry ([.ref x] : List Value) (n := 2) (Nat.le_of_ble_eq_true rfl)
  rw [lg_entry_eq]
  generalize (lg_sl ([.ref x]) ++ List.replicate (2 - (lg_sl ([.ref x])).length) Slot.unset).toArray = ls at hl ⊢
  have hl : lv_has ls 2 [(0, .ref x)] := hl
  refine lv_iconst (v := 0) hx hb dX6_fault_0 (by decide) ?_
  refine lv_istore_n (lv' := [(1, .int 0), (0, .ref x)]) hx hb dX6_fault_1 rfl hl (by decide) rfl (fun ls hl => ?_)
  refine jloop (α := Nat) (fun (k : Nat) (H : Heap) (locs : List Loc) (ls : Array Slot) => (va_P D vwCl [(x, .inr (6, [.ref xp, .int (nI pn), a2, a3, a4, a5, a6, a7, a8, a9, a10, a11])), (xp, .inl (cI, 25, .inl pg))] H) ∧ (va_S A s.heap H locs) ∧ (lv_has ls 2 [(0, .ref x), (1, .int (nI k))]) ∧ (k ≤ pn) ∧ (jfo (fun i => jft i (pg i)) k = k)) (fun (k : Nat) => pn - k) (fun k H locs ls hx9 ih_2 => ?_) 0 _ _ _ ⟨hPr, hS, lv_sub hl [1, 0] rfl, (by omega), rfl⟩
  obtain ⟨hPr, hS, hl, hk9, hfo⟩ := hx9
  refine lv_iload_n hx hb dX6_fault_2 rfl (lv_at hl 1 rfl) ?_
  refine lv_aload_n hx hb dX6_fault_3 rfl (lv_at hl 0 rfl) ?_
  refine va_get (D := D) (ci := 6) (v := .int (nI pn)) (C := RX6) (T := TX6) (N := 12) hx hb hts (fun w h => List.mem_cons_of_mem _ (List.mem_append_right _ h)) hown hK hPr 0 rfl rfl 1 (by decide) (hts (Cond.fieldLink RX6 13 "JamDays" "pageSize" "I") (List.mem_of_getElem? (i := 1) rfl)) (fun _ h9 => h9) rfl dX6_fault_4 ?_
  refine lv_icmp_ge (tgt := 30) hx hb dX6_fault_7 (by decide) (fun c_1 => ?_) (fun c_1 => ?_)
  · skip
    replace c_1 : pn ≤ k := (nI_leI (a := pn) (b := k) (by omega) (by omega)).mp c_1
    refine lv_aload_n hx hb dX6_fault_30 rfl (lv_at hl 0 rfl) ?_
    refine va_get (D := D) (ci := 6) (v := .int (nI pn)) (C := RX6) (T := TX6) (N := 12) hx hb hts (fun w h => List.mem_cons_of_mem _ (List.mem_append_right _ h)) hown hK hPr 0 rfl rfl 1 (by decide) (hts (Cond.fieldLink RX6 13 "JamDays" "pageSize" "I") (List.mem_of_getElem? (i := 1) rfl)) (fun _ h9 => h9) rfl dX6_fault_31 ?_
    exact W.iret (v := nI pn) hx hb hr (fun t ht hW => ⟨⟨nI pn, (), rfl, (by rw [show pn = k by omega, hfo]), trivial⟩, hS.F ht⟩) hS.2.2 dX6_fault_34
  · skip
    replace c_1 : ¬ pn ≤ k := fun h => c_1 ((nI_leI (a := pn) (b := k) (by omega) (by omega)).mpr h)
    refine lv_iload_n hx hb dX6_fault_10 rfl (lv_at hl 1 rfl) ?_
    refine lv_aload_n hx hb dX6_fault_11 rfl (lv_at hl 0 rfl) ?_
    refine lv_iload_n hx hb dX6_fault_12 rfl (lv_at hl 1 rfl) ?_
    have hPc_2 := hPr.sub (ws' := [(x, .inr (6, [.ref xp, .int (nI pn), a2, a3, a4, a5, a6, a7, a8, a9, a10, a11])), (xp, .inl (cI, 25, .inl pg))]) [0, 1] rfl
    refine jcalli (va_runV (As := [.int (nI k)]) (rest := [.int (nI k)]) ⟨hx, hb, hml, hown, hts⟩ (c_codeAt l D cI cJ x xp k (.int (nI pn)) a2 a3 a4 a5 a6 a7 a8 a9 a10 a11 pg (by omega) H.size) (cwV 1 hts gX6_fault_X6_codeAt rfl rfl rfl (by decide +kernel) ⟨Nat.le_of_ble_eq_true rfl, Nat.le_of_ble_eq_true rfl⟩) (jpreV hT (va_recv hK hPr (ci := 6) (q0 := 0) rfl rfl) hPc_2) rfl rfl hl.1 rfl (lv_room (Nat.le_of_ble_eq_true rfl)) dX6_fault_13 ⟨(Nat.zero_le _), (Nat.zero_le _)⟩) hS hA (fun r_3 H locs hw_r_3 hkq hS => ?_)
    try dsimp only at hw_r_3
    have hPr := jkeep hPr hkq
    subst hw_r_3
    refine jcalli (va_runS (As := [.int (nI k), .int (pg k)]) (rest := []) ⟨hx, hb, hml, hown, hts⟩ (c_fits l D cI cJ k (pg k) (by omega) H.size) (va_cwS 2 hts gX6_fault_X6_fits rfl rfl rfl (by decide +kernel) ⟨Nat.le_of_ble_eq_true rfl, Nat.le_of_ble_eq_true rfl⟩) (jpreS hT trivial) rfl rfl hl.1 rfl (lv_room (Nat.le_of_ble_eq_true rfl)) dX6_fault_16 ⟨(Nat.zero_le _), (Nat.zero_le _)⟩) hS hA (fun r_4 H locs hw_r_4 hkq hS => ?_)
    try dsimp only at hw_r_4
    have hPr := jkeep hPr hkq
    subst hw_r_4
    refine lv_if_ne (tgt := 24) hx hb dX6_fault_19 (by decide) (fun c_5 => ?_) (fun c_5 => ?_)
    · skip
      refine lv_iinc (v := nI (k + 1)) (lv' := [(1, .int (nI (k + 1))), (0, .ref x)]) hx hb dX6_fault_24 hl (k := 1) rfl ((rfl : nI k + Int32.ofInt 1 = nI k + nI 1).trans (nI_add k 1)) (by decide) rfl (fun ls hl => ?_)
      refine lv_goto (tgt := 2) hx hb dX6_fault_27 (by decide) ?_
      exact ih_2 (k + 1) _ _ _ ⟨hPr, hS, lv_sub hl [1, 0] rfl, (by omega), (jfo_go hfo c_5)⟩ (by omega)
    · skip
      refine lv_iload_n hx hb dX6_fault_22 rfl (lv_at hl 1 rfl) ?_
      exact W.iret (v := nI k) hx hb hr (fun t ht hW => ⟨⟨nI k, (), rfl, (by rw [jfo_stop hfo c_5 pn (by omega)]), trivial⟩, hS.F ht⟩) hS.2.2 dX6_fault_23

set_option maxHeartbeats 4000000 in
set_option maxRecDepth 100000 in
theorem c_pageIsLarder_y (l : Launch) (D : va_G) (cI cJ : ClassId) (x : Nat) (xp : Nat) (pn : Nat) (a2 : Value) (a3 : Value) (a4 : Value) (a5 : Value) (a6 : Value) (a7 : Value) (a8 : Value) (a9 : Value) (a10 : Value) (a11 : Value) (pg : Nat → Int32) (hp25 : pn ≤ 25) (h1 : pn % 4 = 3) (h2 : 7 ≤ pn) (h3 : jfo (fun i => jft i (pg i)) pn = pn) : jRi l yX6_pageIsLarder wsX6_pageIsLarder ({ frames := 3, cells := 0, slots := 0, locals := 62 }) [.ref x] D cI cJ (fun H => va_P D vwCl [(x, .inr (6, [.ref xp, .int (nI pn), a2, a3, a4, a5, a6, a7, a8, a9, a10, a11])), (xp, .inl (cI, 25, .inl pg))] H) (fun r => r = 1) := by
  intro sz
  refine Met.ofW (cc := cX6_pageIsLarder) (maxL := 2) (ret := (some .boolean)) (by decide) rfl ?_
  intro p e s m args below meth c s₁ B hml hv
  obtain ⟨rfl, hsz, hT, hPr⟩ := hv
  have hK := hT.1
  have hx := B.exec
  have hb := B.bytes
  have hr := B.returns
  have hts := atoms_spec (ws := wsX6_pageIsLarder) B.pre
  have hown : s.vm.findClass RX6 = some m.cls := findClass_of_methodNamed B.named
  have hlocks := B.notSynchronized
  subst hsz
  generalize hAe : va_A [] s.heap.size = A
  have hA : ∀ q : Nat, s.heap.size ≤ q → A q := fun q h => by rw [← hAe]; exact Or.inr h
  have hS : va_S A s.heap s.heap [] := va_S.rf
  have hl := lv_entry ([.ref x] : List Value) (n := 2) (Nat.le_of_ble_eq_true rfl)
  rw [lg_entry_eq]
  generalize (lg_sl ([.ref x]) ++ List.replicate (2 - (lg_sl ([.ref x])).length) Slot.unset).toArray = ls at hl ⊢
  have hl : lv_has ls 2 [(0, .ref x)] := hl
  refine lv_aload_n hx hb dX6_pageIsLarder_0 rfl (lv_at hl 0 rfl) ?_
  refine va_get (D := D) (ci := 6) (v := .int (nI pn)) (C := RX6) (T := TX6) (N := 12) hx hb hts (fun w h => List.mem_cons_of_mem _ (List.mem_append_right _ h)) hown hK hPr 0 rfl rfl 1 (by decide) (hts (Cond.fieldLink RX6 13 "JamDays" "pageSize" "I") (List.mem_of_getElem? (i := 1) rfl)) (fun _ h9 => h9) rfl dX6_pageIsLarder_1 ?_
  refine lv_iconst (v := 4) hx hb dX6_pageIsLarder_4 (by decide) ?_
  refine lv_irem hx hb dX6_pageIsLarder_5 (by decide) ?_
  refine jv_as (y := nI (pn % 4)) (by rw [show (4 : Int32) = nI 4 from rfl]; exact pk_rem (by omega) (by omega) (by omega)) ?_
  refine lv_iconst (v := 3) hx hb dX6_pageIsLarder_6 (by decide) ?_
  refine lv_icmp_ne (tgt := 14) hx hb dX6_pageIsLarder_7 (by decide) (fun c_1 => ?_) (fun c_1 => ?_)
  · skip
    replace c_1 : ¬ pn % 4 = 3 := fun h => c_1 ((nI_eq (a := pn % 4) (b := 3) (by omega) (by omega)).mpr h)
    exact absurd c_1 (by omega)
  · skip
    replace c_1 : pn % 4 = 3 := (nI_eq (a := pn % 4) (b := 3) (by omega) (by omega)).mp c_1
    refine lv_iconst (v := 1) hx hb dX6_pageIsLarder_10 (by decide) ?_
    refine lv_goto (tgt := 15) hx hb dX6_pageIsLarder_11 (by decide) ?_
    refine lv_istore_n (lv' := [(1, .int 1), (0, .ref x)]) hx hb dX6_pageIsLarder_15 rfl hl (by decide) rfl (fun ls hl => ?_)
    refine lv_iload_n hx hb dX6_pageIsLarder_16 rfl (lv_at hl 0 rfl) ?_
    refine lv_if_eq (tgt := 44) hx hb dX6_pageIsLarder_17 (by decide) (fun c_2 => ?_) (fun c_2 => ?_)
    · skip
      exact absurd c_2 (by decide)
    · skip
      refine lv_aload_n hx hb dX6_pageIsLarder_20 rfl (lv_at hl 1 rfl) ?_
      refine va_get (D := D) (ci := 6) (v := .int (nI pn)) (C := RX6) (T := TX6) (N := 12) hx hb hts (fun w h => List.mem_cons_of_mem _ (List.mem_append_right _ h)) hown hK hPr 0 rfl rfl 1 (by decide) (hts (Cond.fieldLink RX6 13 "JamDays" "pageSize" "I") (List.mem_of_getElem? (i := 1) rfl)) (fun _ h9 => h9) rfl dX6_pageIsLarder_21 ?_
      refine lv_bipush (v := 7) hx hb dX6_pageIsLarder_24 (by decide) ?_
      refine lv_icmp_lt (tgt := 44) hx hb dX6_pageIsLarder_26 (by decide) (fun c_3 => ?_) (fun c_3 => ?_)
      · skip
        replace c_3 : pn < 7 := (nI_ltI (a := pn) (b := 7) (by omega) (by omega)).mp c_3
        exact absurd c_3 (by omega)
      · skip
        replace c_3 : ¬ pn < 7 := fun h => c_3 ((nI_ltI (a := pn) (b := 7) (by omega) (by omega)).mpr h)
        refine lv_aload_n hx hb dX6_pageIsLarder_29 rfl (lv_at hl 1 rfl) ?_
        have hPc_4 := hPr.sub (ws' := [(x, .inr (6, [.ref xp, .int (nI pn), a2, a3, a4, a5, a6, a7, a8, a9, a10, a11])), (xp, .inl (cI, 25, .inl pg))]) [0, 1] rfl
        refine jcalli (va_runV (As := []) (rest := []) ⟨hx, hb, hml, hown, hts⟩ (c_fault l D cI cJ x xp pn a2 a3 a4 a5 a6 a7 a8 a9 a10 a11 pg hp25 s.heap.size) (cwV 0 hts gX6_pageIsLarder_X6_fault rfl rfl rfl (by decide +kernel) ⟨Nat.le_of_ble_eq_true rfl, Nat.le_of_ble_eq_true rfl⟩) (jpreV hT (va_recv hK hPr (ci := 6) (q0 := 0) rfl rfl) hPc_4) rfl rfl hl.1 rfl (lv_room (Nat.le_of_ble_eq_true rfl)) dX6_pageIsLarder_30 ⟨(Nat.zero_le _), (Nat.zero_le _)⟩) hS hA (fun r_5 H locs hw_r_5 hkq hS => ?_)
        try dsimp only at hw_r_5
        have hPr := jkeep hPr hkq
        subst hw_r_5
        refine lv_aload_n hx hb dX6_pageIsLarder_33 rfl (lv_at hl 1 rfl) ?_
        refine va_get (D := D) (ci := 6) (v := .int (nI pn)) (C := RX6) (T := TX6) (N := 12) hx hb hts (fun w h => List.mem_cons_of_mem _ (List.mem_append_right _ h)) hown hK hPr 0 rfl rfl 1 (by decide) (hts (Cond.fieldLink RX6 13 "JamDays" "pageSize" "I") (List.mem_of_getElem? (i := 1) rfl)) (fun _ h9 => h9) rfl dX6_pageIsLarder_34 ?_
        refine lv_icmp_ne (tgt := 44) hx hb dX6_pageIsLarder_37 (by decide) (fun c_6 => ?_) (fun c_6 => ?_)
        · skip
          replace c_6 : ¬ jfo (fun i => jft i (pg i)) pn = pn := fun h => c_6 ((nI_eq (a := jfo (fun i => jft i (pg i)) pn) (b := pn) (by omega) (by omega)).mpr h)
          exact absurd c_6 (by have := jfo_le (fun i => jft i (pg i)) pn; omega)
        · skip
          replace c_6 : jfo (fun i => jft i (pg i)) pn = pn := (nI_eq (a := jfo (fun i => jft i (pg i)) pn) (b := pn) (by omega) (by omega)).mp c_6
          refine lv_iconst (v := 1) hx hb dX6_pageIsLarder_40 (by decide) ?_
          refine lv_goto (tgt := 45) hx hb dX6_pageIsLarder_41 (by decide) ?_
          exact W.zret (v := 1) hx hb hr (by decide) (fun t ht hW => ⟨⟨1, (), rfl, rfl, trivial⟩, hS.F ht⟩) hS.2.2 dX6_pageIsLarder_45

set_option maxHeartbeats 4000000 in
set_option maxRecDepth 100000 in
theorem c_pageIsLarder_n (l : Launch) (D : va_G) (cI cJ : ClassId) (x : Nat) (xp : Nat) (pn : Nat) (a2 : Value) (a3 : Value) (a4 : Value) (a5 : Value) (a6 : Value) (a7 : Value) (a8 : Value) (a9 : Value) (a10 : Value) (a11 : Value) (pg : Nat → Int32) (hp25 : pn ≤ 25) (h9 : ¬ (pn % 4 = 3 ∧ 7 ≤ pn ∧ jfo (fun i => jft i (pg i)) pn = pn)) : jRi l yX6_pageIsLarder wsX6_pageIsLarder ({ frames := 3, cells := 0, slots := 0, locals := 62 }) [.ref x] D cI cJ (fun H => va_P D vwCl [(x, .inr (6, [.ref xp, .int (nI pn), a2, a3, a4, a5, a6, a7, a8, a9, a10, a11])), (xp, .inl (cI, 25, .inl pg))] H) (fun r => r = 0) := by
  intro sz
  refine Met.ofW (cc := cX6_pageIsLarder) (maxL := 2) (ret := (some .boolean)) (by decide) rfl ?_
  intro p e s m args below meth c s₁ B hml hv
  obtain ⟨rfl, hsz, hT, hPr⟩ := hv
  have hK := hT.1
  have hx := B.exec
  have hb := B.bytes
  have hr := B.returns
  have hts := atoms_spec (ws := wsX6_pageIsLarder) B.pre
  have hown : s.vm.findClass RX6 = some m.cls := findClass_of_methodNamed B.named
  have hlocks := B.notSynchronized
  subst hsz
  generalize hAe : va_A [] s.heap.size = A
  have hA : ∀ q : Nat, s.heap.size ≤ q → A q := fun q h => by rw [← hAe]; exact Or.inr h
  have hS : va_S A s.heap s.heap [] := va_S.rf
  have hl := lv_entry ([.ref x] : List Value) (n := 2) (Nat.le_of_ble_eq_true rfl)
  rw [lg_entry_eq]
  generalize (lg_sl ([.ref x]) ++ List.replicate (2 - (lg_sl ([.ref x])).length) Slot.unset).toArray = ls at hl ⊢
  have hl : lv_has ls 2 [(0, .ref x)] := hl
  have hfle := jfo_le (fun i => jft i (pg i)) pn
  refine lv_aload_n hx hb dX6_pageIsLarder_0 rfl (lv_at hl 0 rfl) ?_
  refine va_get (D := D) (ci := 6) (v := .int (nI pn)) (C := RX6) (T := TX6) (N := 12) hx hb hts (fun w h => List.mem_cons_of_mem _ (List.mem_append_right _ h)) hown hK hPr 0 rfl rfl 1 (by decide) (hts (Cond.fieldLink RX6 13 "JamDays" "pageSize" "I") (List.mem_of_getElem? (i := 1) rfl)) (fun _ h9 => h9) rfl dX6_pageIsLarder_1 ?_
  refine lv_iconst (v := 4) hx hb dX6_pageIsLarder_4 (by decide) ?_
  refine lv_irem hx hb dX6_pageIsLarder_5 (by decide) ?_
  refine jv_as (y := nI (pn % 4)) (by rw [show (4 : Int32) = nI 4 from rfl]; exact pk_rem (by omega) (by omega) (by omega)) ?_
  refine lv_iconst (v := 3) hx hb dX6_pageIsLarder_6 (by decide) ?_
  refine lv_icmp_ne (tgt := 14) hx hb dX6_pageIsLarder_7 (by decide) (fun c_1 => ?_) (fun c_1 => ?_)
  · skip
    replace c_1 : ¬ pn % 4 = 3 := fun h => c_1 ((nI_eq (a := pn % 4) (b := 3) (by omega) (by omega)).mpr h)
    refine lv_iconst (v := 0) hx hb dX6_pageIsLarder_14 (by decide) ?_
    refine lv_istore_n (lv' := [(1, .int 0), (0, .ref x)]) hx hb dX6_pageIsLarder_15 rfl hl (by decide) rfl (fun ls hl => ?_)
    refine lv_iload_n hx hb dX6_pageIsLarder_16 rfl (lv_at hl 0 rfl) ?_
    refine lv_if_eq (tgt := 44) hx hb dX6_pageIsLarder_17 (by decide) (fun c_2 => ?_) (fun c_2 => ?_)
    · skip
      refine lv_iconst (v := 0) hx hb dX6_pageIsLarder_44 (by decide) ?_
      exact W.zret (v := 0) hx hb hr (by decide) (fun t ht hW => ⟨⟨0, (), rfl, rfl, trivial⟩, hS.F ht⟩) hS.2.2 dX6_pageIsLarder_45
    · skip
      exact absurd c_2 (by decide)
  · skip
    replace c_1 : pn % 4 = 3 := (nI_eq (a := pn % 4) (b := 3) (by omega) (by omega)).mp c_1
    refine lv_iconst (v := 1) hx hb dX6_pageIsLarder_10 (by decide) ?_
    refine lv_goto (tgt := 15) hx hb dX6_pageIsLarder_11 (by decide) ?_
    refine lv_istore_n (lv' := [(1, .int 1), (0, .ref x)]) hx hb dX6_pageIsLarder_15 rfl hl (by decide) rfl (fun ls hl => ?_)
    refine lv_iload_n hx hb dX6_pageIsLarder_16 rfl (lv_at hl 0 rfl) ?_
    refine lv_if_eq (tgt := 44) hx hb dX6_pageIsLarder_17 (by decide) (fun c_3 => ?_) (fun c_3 => ?_)
    · skip
      exact absurd c_3 (by decide)
    · skip
      refine lv_aload_n hx hb dX6_pageIsLarder_20 rfl (lv_at hl 1 rfl) ?_
      refine va_get (D := D) (ci := 6) (v := .int (nI pn)) (C := RX6) (T := TX6) (N := 12) hx hb hts (fun w h => List.mem_cons_of_mem _ (List.mem_append_right _ h)) hown hK hPr 0 rfl rfl 1 (by decide) (hts (Cond.fieldLink RX6 13 "JamDays" "pageSize" "I") (List.mem_of_getElem? (i := 1) rfl)) (fun _ h9 => h9) rfl dX6_pageIsLarder_21 ?_
      refine lv_bipush (v := 7) hx hb dX6_pageIsLarder_24 (by decide) ?_
      refine lv_icmp_lt (tgt := 44) hx hb dX6_pageIsLarder_26 (by decide) (fun c_4 => ?_) (fun c_4 => ?_)
      · skip
        replace c_4 : pn < 7 := (nI_ltI (a := pn) (b := 7) (by omega) (by omega)).mp c_4
        refine lv_iconst (v := 0) hx hb dX6_pageIsLarder_44 (by decide) ?_
        exact W.zret (v := 0) hx hb hr (by decide) (fun t ht hW => ⟨⟨0, (), rfl, rfl, trivial⟩, hS.F ht⟩) hS.2.2 dX6_pageIsLarder_45
      · skip
        replace c_4 : ¬ pn < 7 := fun h => c_4 ((nI_ltI (a := pn) (b := 7) (by omega) (by omega)).mpr h)
        refine lv_aload_n hx hb dX6_pageIsLarder_29 rfl (lv_at hl 1 rfl) ?_
        have hPc_5 := hPr.sub (ws' := [(x, .inr (6, [.ref xp, .int (nI pn), a2, a3, a4, a5, a6, a7, a8, a9, a10, a11])), (xp, .inl (cI, 25, .inl pg))]) [0, 1] rfl
        refine jcalli (va_runV (As := []) (rest := []) ⟨hx, hb, hml, hown, hts⟩ (c_fault l D cI cJ x xp pn a2 a3 a4 a5 a6 a7 a8 a9 a10 a11 pg hp25 s.heap.size) (cwV 0 hts gX6_pageIsLarder_X6_fault rfl rfl rfl (by decide +kernel) ⟨Nat.le_of_ble_eq_true rfl, Nat.le_of_ble_eq_true rfl⟩) (jpreV hT (va_recv hK hPr (ci := 6) (q0 := 0) rfl rfl) hPc_5) rfl rfl hl.1 rfl (lv_room (Nat.le_of_ble_eq_true rfl)) dX6_pageIsLarder_30 ⟨(Nat.zero_le _), (Nat.zero_le _)⟩) hS hA (fun r_6 H locs hw_r_6 hkq hS => ?_)
        try dsimp only at hw_r_6
        have hPr := jkeep hPr hkq
        subst hw_r_6
        refine lv_aload_n hx hb dX6_pageIsLarder_33 rfl (lv_at hl 1 rfl) ?_
        refine va_get (D := D) (ci := 6) (v := .int (nI pn)) (C := RX6) (T := TX6) (N := 12) hx hb hts (fun w h => List.mem_cons_of_mem _ (List.mem_append_right _ h)) hown hK hPr 0 rfl rfl 1 (by decide) (hts (Cond.fieldLink RX6 13 "JamDays" "pageSize" "I") (List.mem_of_getElem? (i := 1) rfl)) (fun _ h9 => h9) rfl dX6_pageIsLarder_34 ?_
        refine lv_icmp_ne (tgt := 44) hx hb dX6_pageIsLarder_37 (by decide) (fun c_7 => ?_) (fun c_7 => ?_)
        · skip
          replace c_7 : ¬ jfo (fun i => jft i (pg i)) pn = pn := fun h => c_7 ((nI_eq (a := jfo (fun i => jft i (pg i)) pn) (b := pn) (by omega) (by omega)).mpr h)
          refine lv_iconst (v := 0) hx hb dX6_pageIsLarder_44 (by decide) ?_
          exact W.zret (v := 0) hx hb hr (by decide) (fun t ht hW => ⟨⟨0, (), rfl, rfl, trivial⟩, hS.F ht⟩) hS.2.2 dX6_pageIsLarder_45
        · skip
          replace c_7 : jfo (fun i => jft i (pg i)) pn = pn := (nI_eq (a := jfo (fun i => jft i (pg i)) pn) (b := pn) (by omega) (by omega)).mp c_7
          exact absurd c_7 (by omega)

set_option maxHeartbeats 4000000 in
set_option maxRecDepth 100000 in
theorem c_larder_no (l : Launch) (D : va_G) (cI cJ : ClassId) (x : Nat) (xp : Nat) (pn : Nat) (a2 : Value) (a3 : Value) (a4 : Value) (a5 : Value) (a6 : Value) (a7 : Value) (a8 : Value) (a9 : Value) (a10 : Value) (a11 : Value) (pg : Nat → Int32) (hp25 : pn ≤ 25) (h9 : ¬ (pn % 4 = 3 ∧ 7 ≤ pn ∧ jfo (fun i => jft i (pg i)) pn = pn)) : jRi l yX6_larder wsX6_larderE ({ frames := 4, cells := 0, slots := 0, locals := 83 }) [.ref x] D cI cJ (fun H => va_P D vwCl [(x, .inr (6, [.ref xp, .int (nI pn), a2, a3, a4, a5, a6, a7, a8, a9, a10, a11])), (xp, .inl (cI, 25, .inl pg))] H) (fun r => r = -103) := by
  intro sz
  refine Met.ofW (cc := cX6_larder) (maxL := 2) (ret := (some .int)) (by decide) rfl ?_
  intro p e s m args below meth c s₁ B hml hv
  obtain ⟨rfl, hsz, hT, hPr⟩ := hv
  have hK := hT.1
  have hx := B.exec
  have hb := B.bytes
  have hr := B.returns
  have hts := atoms_spec (ws := wsX6_larderE) B.pre
  have hown : s.vm.findClass RX6 = some m.cls := findClass_of_methodNamed B.named
  have hlocks := B.notSynchronized
  subst hsz
  generalize hAe : va_A [] s.heap.size = A
  have hA : ∀ q : Nat, s.heap.size ≤ q → A q := fun q h => by rw [← hAe]; exact Or.inr h
  have hS : va_S A s.heap s.heap [] := va_S.rf
  have hl := lv_entry ([.ref x] : List Value) (n := 2) (Nat.le_of_ble_eq_true rfl)
  rw [lg_entry_eq]
  generalize (lg_sl ([.ref x]) ++ List.replicate (2 - (lg_sl ([.ref x])).length) Slot.unset).toArray = ls at hl ⊢
  have hl : lv_has ls 2 [(0, .ref x)] := hl
  refine lv_aload_n hx hb dX6_larder_0 rfl (lv_at hl 0 rfl) ?_
  have hPc_1 := hPr.sub (ws' := [(x, .inr (6, [.ref xp, .int (nI pn), a2, a3, a4, a5, a6, a7, a8, a9, a10, a11])), (xp, .inl (cI, 25, .inl pg))]) [0, 1] rfl
  refine jcalli (va_runV (As := []) (rest := []) ⟨hx, hb, hml, hown, hts⟩ (c_pageIsLarder_n l D cI cJ x xp pn a2 a3 a4 a5 a6 a7 a8 a9 a10 a11 pg hp25 h9 s.heap.size) (cwV 0 hts (jgu gX6_larder_X6_pageIsLarder) rfl rfl rfl (by decide +kernel) ⟨Nat.le_of_ble_eq_true rfl, Nat.le_of_ble_eq_true rfl⟩) (jpreV hT (va_recv hK hPr (ci := 6) (q0 := 0) rfl rfl) hPc_1) rfl rfl hl.1 rfl (lv_room (Nat.le_of_ble_eq_true rfl)) dX6_larder_1 ⟨(Nat.zero_le _), (Nat.zero_le _)⟩) hS hA (fun r_2 H locs hw_r_2 hkq hS => ?_)
  try dsimp only at hw_r_2
  have hPr := jkeep hPr hkq
  subst hw_r_2
  refine lv_if_ne (tgt := 10) hx hb dX6_larder_4 (by decide) (fun c_3 => ?_) (fun c_3 => ?_)
  · skip
    exact absurd c_3 (by decide)
  · skip
    refine lv_bipush (v := (-103)) hx hb dX6_larder_7 (by decide) ?_
    exact W.iret (v := (-103)) hx hb hr (fun t ht hW => ⟨⟨(-103), (), rfl, rfl, trivial⟩, hS.F ht⟩) hS.2.2 dX6_larder_9

