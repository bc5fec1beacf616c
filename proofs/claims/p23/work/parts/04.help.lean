/-! ===== helper rows: numbers ===== -/
theorem fa_lt (a b : Int32) : a < b ↔ a.toInt < b.toInt := Int32.lt_iff_toInt_lt
theorem fa_le (a b : Int32) : a ≤ b ↔ a.toInt ≤ b.toInt := Int32.le_iff_toInt_le
theorem fa_eq (a b : Int32) : a = b ↔ a.toInt = b.toInt := Int32.toInt_inj.symm
theorem jA0 {sz q : Nat} : va_A [] sz q ↔ sz ≤ q := by
  constructor
  · rintro (⟨k, e, h⟩ | h)
    · simp at h
    · exact h
  · exact fun h => Or.inr h
section JA
variable {p : Program} {l : Launch} {e : Env} {R : Room} {s : State} {m : MethodId} {args : Array Value} {below : List Frame} {meth : Method} {c : Code} {H : Heap} {locs : List Loc} {cells slots : Nat} {Q : State → Prop}
variable {cc : ByteArray} {pc : Nat} {ls : Array Slot} {rest st0 : List Value} {D : va_G} {cl : List vw_C} {A : Nat → Prop} {a : Nat} {tys : List (ClassId × FieldType)} {ws : va_W} {H0 : Heap}
theorem jv_as {x y : Int32} (h : x = y) (k : W p l e R s m args below meth c H locs cells slots Q (F0 m pc ls (.int y :: rest))) : W p l e R s m args below meth c H locs cells slots Q (F0 m pc ls (.int x :: rest)) := by rw [h]; exact k
theorem jv_asl {x y : Int64} (h : x = y) (k : W p l e R s m args below meth c H locs cells slots Q (F0 m pc ls (.long y :: rest))) : W p l e R s m args below meth c H locs cells slots Q (F0 m pc ls (.long x :: rest)) := by rw [h]; exact k
theorem jv_ald (hexec : p.tables.exec = Jvm.exec) (hb : c.code = cc) (hK : va_K D cl tys s) (hP : va_P D cl ws H) (q0 t0 : Nat) {cA : ClassId} {n : Nat} {f : Nat → Int32} (ha : ws[q0]? = some (a, .inl (cA, n, .inl f))) (ht : tys[t0]? = some (cA, .int)) {k : Nat} (hk : k < n) (hn : n < 2 ^ 31) (hdg : decode cc pc = .ok (.iaload, 1))
    (kk : W p l e R s m args below meth c H locs cells slots Q (F0 m (pc + 1) ls (.int (f k) :: rest))) : W p l e R s m args below meth c H locs cells slots Q (F0 m pc ls (.int (nI k) :: .ref a :: rest)) :=
  va_iald hexec hb hK hP q0 t0 ha ht (vp_in_nI hk hn) hdg (by rw [nI_clamp (by omega)]; exact kk)
theorem jv_aldq (hexec : p.tables.exec = Jvm.exec) (hb : c.code = cc) (hK : va_K D cl tys s) (hP : va_P D cl ws H) (q0 t0 : Nat) {cA : ClassId} {C : String} {n : Nat} {f : Nat → Option Nat} (ha : ws[q0]? = some (a, .inl (cA, n, .inr (.inr (.inr (.inr f)))))) (ht : tys[t0]? = some (cA, .object C)) {k : Nat} (hk : k < n) (hn : n < 2 ^ 31) (hdg : decode cc pc = .ok (.aaload, 1))
    (kk : W p l e R s m args below meth c H locs cells slots Q (F0 m (pc + 1) ls (va_rf (f k) :: rest))) : W p l e R s m args below meth c H locs cells slots Q (F0 m pc ls (.int (nI k) :: .ref a :: rest)) :=
  va_aldq hexec hb hK hP q0 t0 ha ht (vp_in_nI hk hn) hdg (by rw [nI_clamp (by omega)]; exact kk)
theorem jv_ast (hexec : p.tables.exec = Jvm.exec) (hb : c.code = cc) (hK : va_K D cl tys s) (hP : va_P D cl ws H) (hD : va_D A ws) (hS : va_S A H0 H locs) (q0 t0 : Nat) {cA : ClassId} {n : Nat} {f : Nat → Int32} (ha : ws[q0]? = some (a, .inl (cA, n, .inl f))) (ht : tys[t0]? = some (cA, .int)) {k : Nat} {x : Int32} (hk : k < n) (hn : n < 2 ^ 31) (hdg : decode cc pc = .ok (.iastore, 1))
    (kk : ∀ (H1 : Heap) (locs1 : List Loc), va_P D cl (ws.set q0 (a, .inl (cA, n, .inl (upd f k x)))) H1 → va_D A (ws.set q0 (a, .inl (cA, n, .inl (upd f k x)))) → va_S A H0 H1 locs1 → W p l e R s m args below meth c H1 locs1 cells slots Q (F0 m (pc + 1) ls rest)) : W p l e R s m args below meth c H locs cells slots Q (F0 m pc ls (.int x :: .int (nI k) :: .ref a :: rest)) :=
  va_iast hexec hb hK hP hD hS q0 t0 ha ht (vp_in_nI hk hn) hdg (fun H1 locs1 h1 h2 h3 => by
    rw [nI_clamp (by omega)] at h1 h2
    exact kk H1 locs1 h1 h2 h3)
theorem jkeep (hP : va_P D cl ws H) {H1 : Heap} (hk : ∀ q : Nat, q < H.size → H1[q]? = H[q]?) : va_P D cl ws H1 := hP.kept (fun k q h => hk q.1 (hP k q h).lt)
/-! ===== what the tables say ===== -/
def jYes : List (String × String) := [("JamDays$Copper", "JamDays$Jar"), ("JamDays$Gold", "JamDays$Copper"), ("JamDays$Gold", "JamDays$Jar"), ("JamDays$Plum", "JamDays$Jar"), ("JamDays$Weak", "JamDays$Jar")]
def jNo : List (String × String) := [("JamDays$Copper", "JamDays$Gold"), ("JamDays$Copper", "JamDays$Plum"), ("JamDays$Copper", "JamDays$Weak"), ("JamDays$Gold", "JamDays$Plum"), ("JamDays$Gold", "JamDays$Weak"), ("JamDays$Jar", "JamDays$Copper"), ("JamDays$Jar", "JamDays$Gold"), ("JamDays$Jar", "JamDays$Plum"), ("JamDays$Jar", "JamDays$Weak"), ("JamDays$Plum", "JamDays$Copper"), ("JamDays$Plum", "JamDays$Gold"), ("JamDays$Plum", "JamDays$Weak"), ("JamDays$Weak", "JamDays$Copper"), ("JamDays$Weak", "JamDays$Gold"), ("JamDays$Weak", "JamDays$Plum")]
/-- what the tables say of the classes, of int arrays (cI) and arrays of jars (cJ), and of casts -/
def jT (D : va_G) (cI cJ : ClassId) (U : State) : Prop := va_K D vwCl [(cI, .int), (cJ, .object "JamDays$Jar")] U ∧ va_AO "JamDays$Jar" U ∧ (∀ q ∈ jYes, va_Nw (.castable q.1 q.2) U) ∧ (∀ q ∈ jNo, va_Nc q.1 q.2 U)
theorem jT.warm {cI cJ : ClassId} {u U : State} (hW : u.WarmedH U.vm) (h : jT D cI cJ u) : jT D cI cJ U := ⟨va_K.moved hW.alike h.1, h.2.1.moved hW.alike, fun q hq => va_Nw.warmC hW (h.2.2.1 q hq), fun q hq => (h.2.2.2 q hq).moved hW.alike⟩
theorem jT.calling {cI cJ : ClassId} {U : State} {g : JFrame} {mk : MethodId} {a : Array Value} (h : jT D cI cJ U) : jT D cI cJ (U.calling g mk a) :=
  ⟨va_K.moved (u := U) (U := U.calling g mk a) (Vm.Alike.refl U.vm) h.1, va_AO.moved (u := U) (U := U.calling g mk a) (Vm.Alike.refl U.vm) h.2.1, fun q hq => va_Nw.same (u := U) (U := U.calling g mk a) rfl rfl (h.2.2.1 q hq), fun q hq => va_Nc.moved (u := U) (U := U.calling g mk a) (Vm.Alike.refl U.vm) (h.2.2.2 q hq)⟩
/-! ===== the shapes of contracts: R reads only, W writes its world w (and may make cells) ===== -/
def jPr (D : va_G) (cI cJ : ClassId) (G : Heap → Prop) (sz : Nat) : State → Prop := fun U => U.heap.size = sz ∧ jT D cI cJ U ∧ G U.heap
def jRi (l : Launch) (y : MethodName) (ws : List Cond) (rm : Room) (av : List Value) (D : va_G) (cI cJ : ClassId) (G : Heap → Prop) (post : Int32 → Prop) : Prop := ∀ sz : Nat, Met l y ws rm (va_Pc av (jPr D cI cJ G sz)) (va_Qi (fun r (_ : Unit) => post r) (fun _ _ => True) (va_A [] sz)) 0 0 (va_A [] sz)
def jRl (l : Launch) (y : MethodName) (ws : List Cond) (rm : Room) (av : List Value) (D : va_G) (cI cJ : ClassId) (G : Heap → Prop) (post : Int64 → Prop) : Prop := ∀ sz : Nat, Met l y ws rm (va_Pc av (jPr D cI cJ G sz)) (va_Ql (fun r (_ : Unit) => post r) (fun _ _ => True) (va_A [] sz)) 0 0 (va_A [] sz)
def jRq (l : Launch) (y : MethodName) (ws : List Cond) (rm : Room) (av : List Value) (D : va_G) (cI cJ : ClassId) (G : Heap → Prop) (post : Option Nat → Prop) : Prop := ∀ sz : Nat, Met l y ws rm (va_Pc av (jPr D cI cJ G sz)) (va_Qq (fun r (_ : Unit) => post r) (fun _ _ => True) (va_A [] sz)) 0 0 (va_A [] sz)
def jPw (D : va_G) (cI cJ : ClassId) (w : va_W) (X : Heap → Prop) : Heap → Prop := fun h => va_P D vwCl w h ∧ va_D (fun _ => True) w ∧ X h
def jWi (l : Launch) (y : MethodName) (ws : List Cond) (rm : Room) (mc ms : Nat) (av : List Value) (D : va_G) (cI cJ : ClassId) (w : va_W) (X : Heap → Prop) (post : Int32 → Heap → Prop) : Prop := ∀ sz : Nat, Met l y ws rm (va_Pc av (jPr D cI cJ (jPw D cI cJ w X) sz)) (va_Qi (fun r (u : Int32) => u = r) (fun u t => post u t.heap) (va_A w sz)) mc ms (va_A w sz)
def jWl (l : Launch) (y : MethodName) (ws : List Cond) (rm : Room) (mc ms : Nat) (av : List Value) (D : va_G) (cI cJ : ClassId) (w : va_W) (X : Heap → Prop) (post : Int64 → Heap → Prop) : Prop := ∀ sz : Nat, Met l y ws rm (va_Pc av (jPr D cI cJ (jPw D cI cJ w X) sz)) (va_Ql (fun r (u : Int64) => u = r) (fun u t => post u t.heap) (va_A w sz)) mc ms (va_A w sz)
def jWv (l : Launch) (y : MethodName) (ws : List Cond) (rm : Room) (mc ms : Nat) (av : List Value) (D : va_G) (cI cJ : ClassId) (w : va_W) (X : Heap → Prop) (post : Heap → Prop) : Prop := ∀ sz : Nat, Met l y ws rm (va_Pc av (jPr D cI cJ (jPw D cI cJ w X) sz)) (va_Qv (fun (_ : Unit) => True) (fun _ t => post t.heap) (va_A w sz)) mc ms (va_A w sz)
def jWr (l : Launch) (y : MethodName) (ws : List Cond) (rm : Room) (mc ms : Nat) (av : List Value) (D : va_G) (cI cJ : ClassId) (w : va_W) (X : Heap → Prop) (post : Nat → Nat → Heap → Prop) : Prop := ∀ sz : Nat, Met l y ws rm (va_Pc av (jPr D cI cJ (jPw D cI cJ w X) sz)) (va_Qr (fun (_ : Unit) => True) (fun _ a t => post sz a t.heap) (va_A w sz)) mc ms (va_A w sz)
theorem jpreV {cI cJ : ClassId} {G : Heap → Prop} {C : String} {b : Addr} {As : List Value} (hT : jT D cI cJ s) (hr : ∃ cell : Cell, H[b]? = some cell ∧ cell.vm.isStatics = false ∧ s.vm.findClass C = some cell.cls) (hG : G H) : PreV s H C b (va_Pc (.ref b :: As) (jPr D cI cJ G H.size)) As :=
  ⟨fun _ _ _ _ q => ⟨q.1, q.2.1, q.2.2.1.calling, q.2.2.2⟩, hr, fun U hU hW => ⟨rfl, by rw [hU], hT.warm hW, by rw [hU]; exact hG⟩⟩
theorem jpreS {cI cJ : ClassId} {G : Heap → Prop} {As : List Value} (hT : jT D cI cJ s) (hG : G H) : PreS s H (va_Pc As (jPr D cI cJ G H.size)) As :=
  ⟨fun _ _ _ _ q => ⟨q.1, q.2.1, q.2.2.1.calling, q.2.2.2⟩, fun U hU hW => ⟨rfl, by rw [hU], hT.warm hW, by rw [hU]; exact hG⟩⟩
theorem jcalli {post : Int32 → Prop} {a : Array Value} (hr : va_Run p l e R s m args below meth c H locs cells slots 0 0 (F0 m pc ls st0) rest (va_Qi (fun r (_ : Unit) => post r) (fun _ _ => True) (va_A [] H.size) a) (va_A [] H.size)) (hS : va_S A H0 H locs) (hA : ∀ q : Nat, H0.size ≤ q → A q)
    (kk : ∀ (r : Int32) (H1 : Heap) (locs1 : List Loc), post r → (∀ q : Nat, q < H.size → H1[q]? = H[q]?) → va_S A H0 H1 locs1 → W p l e R s m args below meth c H1 locs1 cells slots Q (F0 m (pc + 3) ls (.int r :: rest))) : W p l e R s m args below meth c H locs cells slots Q (F0 m pc ls st0) :=
  va_calli hr hS (fun q _ h => hA q (Nat.le_trans hS.1 (jA0.mp h))) (fun q h => hA q (Nat.le_trans hS.1 (jA0.mp h))) (fun r _ _ H1 locs1 _ _ hp _ _ hk hS1 => kk r H1 locs1 hp (fun q hq => hk q hq (fun h => Nat.not_le.mpr hq (jA0.mp h))) hS1)
theorem jcalll {post : Int64 → Prop} {a : Array Value} (hr : va_Run p l e R s m args below meth c H locs cells slots 0 0 (F0 m pc ls st0) rest (va_Ql (fun r (_ : Unit) => post r) (fun _ _ => True) (va_A [] H.size) a) (va_A [] H.size)) (hS : va_S A H0 H locs) (hA : ∀ q : Nat, H0.size ≤ q → A q)
    (kk : ∀ (r : Int64) (H1 : Heap) (locs1 : List Loc), post r → (∀ q : Nat, q < H.size → H1[q]? = H[q]?) → va_S A H0 H1 locs1 → W p l e R s m args below meth c H1 locs1 cells slots Q (F0 m (pc + 3) ls (.long r :: rest))) : W p l e R s m args below meth c H locs cells slots Q (F0 m pc ls st0) :=
  va_calll hr hS (fun q _ h => hA q (Nat.le_trans hS.1 (jA0.mp h))) (fun q h => hA q (Nat.le_trans hS.1 (jA0.mp h))) (fun r _ _ H1 locs1 _ _ hp _ _ hk hS1 => kk r H1 locs1 hp (fun q hq => hk q hq (fun h => Nat.not_le.mpr hq (jA0.mp h))) hS1)
theorem jcallq {post : Option Nat → Prop} {a : Array Value} (hr : va_Run p l e R s m args below meth c H locs cells slots 0 0 (F0 m pc ls st0) rest (va_Qq (fun r (_ : Unit) => post r) (fun _ _ => True) (va_A [] H.size) a) (va_A [] H.size)) (hS : va_S A H0 H locs) (hA : ∀ q : Nat, H0.size ≤ q → A q)
    (kk : ∀ (r : Option Nat) (H1 : Heap) (locs1 : List Loc), post r → (∀ q : Nat, q < H.size → H1[q]? = H[q]?) → va_S A H0 H1 locs1 → W p l e R s m args below meth c H1 locs1 cells slots Q (F0 m (pc + 3) ls (va_rf r :: rest))) : W p l e R s m args below meth c H locs cells slots Q (F0 m pc ls st0) :=
  va_callq hr hS (fun q _ h => hA q (Nat.le_trans hS.1 (jA0.mp h))) (fun q h => hA q (Nat.le_trans hS.1 (jA0.mp h))) (fun r _ _ H1 locs1 _ _ hp _ _ hk hS1 => kk r H1 locs1 hp (fun q hq => hk q hq (fun h => Nat.not_le.mpr hq (jA0.mp h))) hS1)
theorem jcallWi {mc ms : Nat} {wc : va_W} {post : Int32 → Heap → Prop} {a : Array Value} (hr : va_Run p l e R s m args below meth c H locs cells slots mc ms (F0 m pc ls st0) rest (va_Qi (fun r (u : Int32) => u = r) (fun u t => post u t.heap) (va_A wc H.size) a) (va_A wc H.size)) (hS : va_S A H0 H locs) (hF : ∀ q : Nat, va_A wc H.size q → A q)
    (kk : ∀ (r : Int32) (H1 : Heap) (locs1 : List Loc), post r H1 → H.size ≤ H1.size → (∀ q : Nat, q < H.size → ¬ va_A wc H.size q → H1[q]? = H[q]?) → va_S A H0 H1 locs1 → W p l e R s m args below meth c H1 locs1 (cells + mc) (slots + ms) Q (F0 m (pc + 3) ls (.int r :: rest))) : W p l e R s m args below meth c H locs cells slots Q (F0 m pc ls st0) :=
  va_calli hr hS (fun q _ h => hF q h) hF (fun r u t H1 locs1 ht _ hp hB hz hk hS1 => kk r H1 locs1 (by rw [← ht, ← (show u = r from hp)]; exact hB) hz hk hS1)
theorem jcallWl {mc ms : Nat} {wc : va_W} {post : Int64 → Heap → Prop} {a : Array Value} (hr : va_Run p l e R s m args below meth c H locs cells slots mc ms (F0 m pc ls st0) rest (va_Ql (fun r (u : Int64) => u = r) (fun u t => post u t.heap) (va_A wc H.size) a) (va_A wc H.size)) (hS : va_S A H0 H locs) (hF : ∀ q : Nat, va_A wc H.size q → A q)
    (kk : ∀ (r : Int64) (H1 : Heap) (locs1 : List Loc), post r H1 → H.size ≤ H1.size → (∀ q : Nat, q < H.size → ¬ va_A wc H.size q → H1[q]? = H[q]?) → va_S A H0 H1 locs1 → W p l e R s m args below meth c H1 locs1 (cells + mc) (slots + ms) Q (F0 m (pc + 3) ls (.long r :: rest))) : W p l e R s m args below meth c H locs cells slots Q (F0 m pc ls st0) :=
  va_calll hr hS (fun q _ h => hF q h) hF (fun r u t H1 locs1 ht _ hp hB hz hk hS1 => kk r H1 locs1 (by rw [← ht, ← (show u = r from hp)]; exact hB) hz hk hS1)
theorem jcallWv {mc ms : Nat} {wc : va_W} {post : Heap → Prop} {a : Array Value} (hr : va_Run p l e R s m args below meth c H locs cells slots mc ms (F0 m pc ls st0) rest (va_Qv (fun (_ : Unit) => True) (fun _ t => post t.heap) (va_A wc H.size) a) (va_A wc H.size)) (hS : va_S A H0 H locs) (hF : ∀ q : Nat, va_A wc H.size q → A q)
    (kk : ∀ (H1 : Heap) (locs1 : List Loc), post H1 → H.size ≤ H1.size → (∀ q : Nat, q < H.size → ¬ va_A wc H.size q → H1[q]? = H[q]?) → va_S A H0 H1 locs1 → W p l e R s m args below meth c H1 locs1 (cells + mc) (slots + ms) Q (F0 m (pc + 3) ls rest)) : W p l e R s m args below meth c H locs cells slots Q (F0 m pc ls st0) :=
  va_callv hr hS (fun q _ h => hF q h) hF (fun u t H1 locs1 ht _ hp hB hz hk hS1 => kk H1 locs1 (by rw [← ht]; exact hB) hz hk hS1)
theorem jcallWr {mc ms sz : Nat} {wc : va_W} {post : Nat → Nat → Heap → Prop} {a : Array Value} (hr : va_Run p l e R s m args below meth c H locs cells slots mc ms (F0 m pc ls st0) rest (va_Qr (fun (_ : Unit) => True) (fun _ a t => post sz a t.heap) (va_A wc H.size) a) (va_A wc H.size)) (hS : va_S A H0 H locs) (hF : ∀ q : Nat, va_A wc H.size q → A q)
    (kk : ∀ (ra : Nat) (H1 : Heap) (locs1 : List Loc), post sz ra H1 → H.size ≤ H1.size → (∀ q : Nat, q < H.size → ¬ va_A wc H.size q → H1[q]? = H[q]?) → va_S A H0 H1 locs1 → W p l e R s m args below meth c H1 locs1 (cells + mc) (slots + ms) Q (F0 m (pc + 3) ls (.ref ra :: rest))) : W p l e R s m args below meth c H locs cells slots Q (F0 m pc ls st0) :=
  va_callr hr hS (fun q _ h => hF q h) hF (fun u ra t H1 locs1 ht _ hp hB hz hk hS1 => kk ra H1 locs1 (by rw [← ht]; exact hB) hz hk hS1)
theorem jD_of {ws ws' : va_W} (h : va_D A ws) (e : ws'.map (·.1) = ws.map (·.1)) : va_D A ws' := by
  have at' : ∀ (k : Nat) (q : Nat × va_E), ws'[k]? = some q → ∃ q', ws[k]? = some q' ∧ q'.1 = q.1 := by
    intro k q hq
    have h1 : (ws'.map (·.1))[k]? = some q.1 := by rw [List.getElem?_map, hq]; rfl
    rw [e, List.getElem?_map] at h1
    cases h2 : ws[k]? with
    | none => rw [h2] at h1; cases h1
    | some q' => rw [h2] at h1; exact ⟨q', rfl, Option.some.inj h1⟩
  refine ⟨fun i j p q hp hq hpq => ?_, fun k q hq => ?_⟩
  · obtain ⟨p', h1, e1⟩ := at' i p hp
    obtain ⟨q', h2, e2⟩ := at' j q hq
    exact h.1 i j p' q' h1 h2 (by rw [e1, e2, hpq])
  · obtain ⟨q', h1, e1⟩ := at' k q hq
    rw [← e1]
    exact h.2 k q' h1
/-- behind a call that wrote the cells at isC: the caller's whole world, in its own order -/
theorem jjoin {wc wr w1 ws' : va_W} {H1 : Heap} (hP : va_P D cl ws H) (hD : va_D A ws) (hF : ∀ q : Nat, va_A wc H.size q → A q) (isC isR perm : List Nat) (hC : isC.map (fun i => ws[i]?) = wc.map some) (hR : isR.map (fun i => ws[i]?) = wr.map some) (hnC : va_nd isC = true) (hnR : va_nd isR = true) (hnP : va_nd perm = true) (hdis : ∀ i ∈ isR, i ∉ isC)
    (hk : ∀ q : Nat, q < H.size → ¬ va_A wc H.size q → H1[q]? = H[q]?) (hP1 : va_P D cl w1 H1) (he : w1.map (·.1) = wc.map (·.1)) (hp : perm.map (fun i => (wr ++ w1)[i]?) = ws'.map some) (hp2 : perm.filterMap (fun i => (wr ++ w1)[i]?) = ws') : va_P D cl ws' H1 ∧ va_D A ws' := by
  obtain ⟨h1, h2⟩ := va_join hP hD isC isR hC hR hnR hdis hk hF hP1 (jD_of ((hD.sub isC hnC hC).self (sz := H.size)) he)
  exact ⟨h1.sub perm hp2, h2.sub perm hnP hp⟩
end JA
/-! ===== the jars ===== -/
def jK5 (k : Nat) : Prop := k = 0 ∨ k = 2 ∨ k = 3 ∨ k = 4 ∨ k = 5
/-- jar i (i < n) is the object jr i, of class jk i, with how good, sugar, mould each year -/
def jJ (D : va_G) (n : Nat) (jr : Nat → Option Nat) (jk : Nat → Nat) (jg js jm : Nat → Int32) (H : Heap) : Prop := ∀ i : Nat, i < n → jK5 (jk i) ∧ ∃ a : Nat, jr i = some a ∧ va_at D vwCl (a, .inr (jk i, [.int (jg i), .int (js i), .int (jm i)])) H
theorem jJ.kept {D : va_G} {n : Nat} {jr : Nat → Option Nat} {jk : Nat → Nat} {jg js jm : Nat → Int32} {H H1 : Heap} (h : jJ D n jr jk jg js jm H) (hk : ∀ q : Nat, q < H.size → H1[q]? = H[q]?) : jJ D n jr jk jg js jm H1 := by
  intro i hi
  obtain ⟨h0, a, h1, h2⟩ := h i hi
  exact ⟨h0, a, h1, h2.kept (hk a h2.lt)⟩
theorem jJ.keptA {D : va_G} {n : Nat} {jr : Nat → Option Nat} {jk : Nat → Nat} {jg js jm : Nat → Int32} {H H1 : Heap} {A : Nat → Prop} (h : jJ D n jr jk jg js jm H) (hA : ∀ i a : Nat, i < n → jr i = some a → ¬ A a) (hk : ∀ q : Nat, q < H.size → ¬ A q → H1[q]? = H[q]?) : jJ D n jr jk jg js jm H1 := by
  intro i hi
  obtain ⟨h0, a, h1, h2⟩ := h i hi
  exact ⟨h0, a, h1, h2.kept (hk a h2.lt (hA i a hi h1))⟩
theorem jone {D : va_G} {a : Nat} {x : va_E} {H : Heap} (h : va_at D vwCl (a, x) H) : va_P D vwCl [(a, x)] H := by
  intro k q hk
  match k, hk with
  | 0, hk => cases hk; exact h
  | k + 1, hk => simp at hk
section JB
variable {p : Program} {l : Launch} {e : Env} {R : Room} {s : State} {m : MethodId} {args : Array Value} {below : List Frame} {meth : Method} {c : Code} {cells slots : Nat} {Q : State → Prop}
/-- a loop: at its head, with all that holds there; the measure falls -/
theorem jloop {α : Type} {pc : Nat} {st : List Value} (P : α → Heap → List Loc → Array Slot → Prop) (μ : α → Nat)
    (step : ∀ (x : α) (H : Heap) (locs : List Loc) (ls : Array Slot), P x H locs ls → (∀ (x' : α) (H' : Heap) (locs' : List Loc) (ls' : Array Slot), P x' H' locs' ls' → μ x' < μ x → W p l e R s m args below meth c H' locs' cells slots Q (F0 m pc ls' st)) → W p l e R s m args below meth c H locs cells slots Q (F0 m pc ls st)) :
    ∀ (x : α) (H : Heap) (locs : List Loc) (ls : Array Slot), P x H locs ls → W p l e R s m args below meth c H locs cells slots Q (F0 m pc ls st) := by
  have h : ∀ (n : Nat) (x : α) (H : Heap) (locs : List Loc) (ls : Array Slot), μ x < n → P x H locs ls → W p l e R s m args below meth c H locs cells slots Q (F0 m pc ls st) := by
    intro n
    induction n with
    | zero => intro x H locs ls h; exact absurd h (Nat.not_lt_zero _)
    | succ n ih => intro x H locs ls hn hp; exact step x H locs ls hp (fun x' H' locs' ls' hp' hl => ih x' H' locs' ls' (by omega) hp')
  exact fun x H locs ls hp => h (μ x + 1) x H locs ls (Nat.lt_succ_self _) hp
/-- a join: what lies behind it is walked once -/
theorem jlabel {α : Type} {H0 : Heap} {locs0 : List Loc} {g : JFrame} (P : α → Heap → List Loc → Array Slot → Prop) (st : α → List Value) (pc : Nat)
    (body : ∀ (x : α) (H : Heap) (locs : List Loc) (ls : Array Slot), P x H locs ls → W p l e R s m args below meth c H locs cells slots Q (F0 m pc ls (st x)))
    (rest : (∀ (x : α) (H : Heap) (locs : List Loc) (ls : Array Slot), P x H locs ls → W p l e R s m args below meth c H locs cells slots Q (F0 m pc ls (st x))) → W p l e R s m args below meth c H0 locs0 cells slots Q g) : W p l e R s m args below meth c H0 locs0 cells slots Q g := rest body
end JB
