/-! ===== what holds of the image, of what bounds, of arguments ===== -/
/-- the image, as both have it: kept of this larder (hi = 1), or none of it -/
def jKp (n lr : Nat) (hi kl ky kea klo kjo kta mky mkj mke mkk mkt : Int32) (ksp ken ktY ktW Rw KR KT : Nat → Int32) : Prop :=
  (hi = 1 ∧ kl = nI lr ∧ 0 < n ∧ jSm n Rw KR ∧ jSp n ksp ken KR ∧ jBd ksp ken ∧ jTt ktY ktW KT ∧ (∃ kyr ktn : Nat, kyr ≤ 99 ∧ ktn ≤ 6 ∧ ky = nI kyr ∧ kta = nI ktn) ∧ mky = ky ∧ mkj = kjo ∧ mke = kea ∧ mkk = klo ∧ mkt = kta) ∨
  (hi = 0 ∧ (kl = -1 ∨ ∃ k : Nat, k < lr ∧ kl = nI k))
theorem jKp.sm {n lr : Nat} {hi kl ky kea klo kjo kta mky mkj mke mkk mkt : Int32} {ksp ken ktY ktW Rw Rw' KR KT : Nat → Int32} (h : jKp n lr hi kl ky kea klo kjo kta mky mkj mke mkk mkt ksp ken ktY ktW Rw KR KT) (hs : jSm n Rw Rw') : jKp n lr hi kl ky kea klo kjo kta mky mkj mke mkk mkt ksp ken ktY ktW Rw' KR KT := by
  rcases h with ⟨a1, a2, a3, a4, a5⟩ | h
  · exact Or.inl ⟨a1, a2, a3, hs.sy.tr a4, a5⟩
  · exact Or.inr h
theorem jI0 : (0 : Int32).toInt = 0 := by decide
theorem jI1 : (1 : Int32).toInt = 1 := by decide
theorem jBd.take {sp en : Nat → Int32} {t : Nat} (h : jBd sp en) (hp : 0 < sp t) : jBd (upd sp t (sp t - 1)) en := fun i hi => by
  obtain ⟨h1, h2, h3⟩ := h i hi
  by_cases e : i = t
  · subst e
    rw [fa_lt, jI0] at hp
    have e1 : (sp i - 1).toInt = (sp i).toInt - 1 := by rw [jtsub, jI1] <;> rw [jI1] <;> omega
    rw [pk_us, e1]
    exact ⟨by omega, h2, by omega⟩
  · rw [pk_un e]; exact ⟨h1, h2, h3⟩
theorem jBd.eat {sp en : Nat → Int32} {t : Nat} (h : jBd sp en) (hp : 0 < sp t) : jBd (upd sp t (sp t - 1)) (upd en t (en t + 1)) := fun i hi => by
  obtain ⟨h1, h2, h3⟩ := h i hi
  by_cases e : i = t
  · subst e
    rw [fa_lt, jI0] at hp
    have e1 : (sp i - 1).toInt = (sp i).toInt - 1 := by rw [jtsub, jI1] <;> rw [jI1] <;> omega
    have e2 : (en i + 1).toInt = (en i).toInt + 1 := by rw [jtadd, jI1] <;> rw [jI1] <;> omega
    rw [pk_us, pk_us, e1, e2]
    exact ⟨by omega, by omega, by omega⟩
  · rw [pk_un e, pk_un e]; exact ⟨h1, h2, h3⟩
theorem jBd.ne {sp en : Nat → Int32} (h : jBd sp en) : jBd sp (jfl (fun _ => 0) en 6) := fun i hi => by
  obtain ⟨h1, h2, h3⟩ := h i hi
  have e : jfl (fun _ => (0 : Int32)) en 6 i = 0 := by unfold jfl; rw [if_pos hi]
  rw [e, jI0]
  exact ⟨h1, by omega, by omega⟩
theorem jpos_ne {x z : Int32} (h : 0 < x) (e : z = x) : ¬ z = 0 := fun e2 => by
  rw [← e, e2] at h
  exact absurd h (by decide)
theorem jpos_z {x z : Int32} (h0 : 0 ≤ x.toInt) (h : ¬ 0 < x) (e : z = x) : z = 0 := by
  rw [fa_lt, jI0] at h
  rw [e]
  exact (fa_eq _ _).mpr (by rw [jI0]; omega)
theorem jix (x : Int32) {n : Nat} (hn : n < 2 ^ 31) : (x < 0 ∨ nI n ≤ x) ∨ ∃ j : Nat, j < n ∧ x = nI j := by
  rcases pk_ix x hn with h | h | h
  · exact Or.inl (Or.inl h)
  · exact Or.inl (Or.inr h)
  · exact Or.inr h
theorem jixM (x M : Int32) {m : Nat} (hM : M.toInt = (m : Int)) : (x < 0 ∨ M < x) ∨ ∃ j : Nat, j < m + 1 ∧ x = nI j := by
  by_cases h : x < 0
  · exact Or.inl (Or.inl h)
  · by_cases h2 : M < x
    · exact Or.inl (Or.inr h2)
    · rw [fa_lt, jI0] at h
      rw [fa_lt, hM] at h2
      obtain ⟨k, h3, h4⟩ := jnat (x := x) (m := m) (by omega) (by omega)
      exact Or.inr ⟨k, by omega, h4⟩
theorem jixT (x : Int32) (m : Nat) : (x.toInt < 0 ∨ (m : Int) < x.toInt) ∨ ∃ j : Nat, j < m + 1 ∧ x = nI j := by
  by_cases h : x.toInt < 0
  · exact Or.inl (Or.inl h)
  · by_cases h2 : (m : Int) < x.toInt
    · exact Or.inl (Or.inr h2)
    · obtain ⟨k, h3, h4⟩ := jnat (x := x) (m := m) (by omega) (by omega)
      exact Or.inr ⟨k, by omega, h4⟩
theorem jmem {full sub : List Nat} (ix : List Nat) (h : ix.filterMap (fun i => full[i]?) = sub) {a : Nat} (ha : a ∈ sub) : a ∈ full := by
  subst h
  obtain ⟨i, -, hi⟩ := List.mem_filterMap.mp ha
  exact List.mem_of_getElem? hi
/-- the script's cells -/
theorem jv_sld {p : Program} {l : Launch} {e : Env} {R : Room} {s : State} {m : MethodId} {args : Array Value} {below : List Frame} {meth : Method} {c : Code} {H : Heap} {locs : List Loc} {cells slots : Nat} {Q : State → Prop} {cc : ByteArray} {pc : Nat} {ls : Array Slot} {rest : List Value} {A : Nat → Prop} {H0 : Heap} (hexec : p.tables.exec = Jvm.exec) (hb : c.code = cc) {b L : Nat} {xs : Nat → Int32} (hX : va_X b L xs s H0) (hbl : b < H0.size) (hbA : ¬ A b) (hS : va_S A H0 H locs) {k : Nat} (hk : k < L) (hL : L ≤ 2048) {v : Int32} (hv : v = xs k) (hdg : decode cc pc = .ok (.iaload, 1))
    (kk : W p l e R s m args below meth c H locs cells slots Q (F0 m (pc + 1) ls (.int v :: rest))) : W p l e R s m args below meth c H locs cells slots Q (F0 m pc ls (.int (nI k) :: .ref b :: rest)) :=
  va_sld hexec hb hX hbl hbA hS (vp_in_nI hk (by omega)) hdg (by rw [nI_clamp (by omega), ← hv]; exact kk)
/-! ===== best, on both sides ===== -/
theorem jbest {n yr s9 : Nat} {jk : Nat → Nat} {jg js jm Rw sp en : Nat → Int32} (M nw T0 : Nat → Int32) (hn6 : n ≤ 6) (hRw : jRw n jk jg js jm Rw) (hSp : jSp n sp en Rw) (hBd : jBd sp en) (hyr : yr ≤ 99) (hs : s9 < 13) :
    (nI s9 ≤ msum Rw n → (¬ (cfl (fun i => mfi Rw i (nI yr) - en i) sp M nw n n).1 (0 * 13 + s9) = -1000000) ∧ (cfl (fun i => mfi Rw i (nI yr) - en i) sp M nw n n).1 (0 * 13 + s9) = (mdl (mwo Rw (nI yr)) T0 n n) s9 ∧
      (∀ i : Nat, i < n → ∃ k0 : Nat, k0 ≤ mpl (mwo Rw (nI yr)) (mdl (mwo Rw (nI yr)) T0 n n) s9 i ∧ mwo Rw (nI yr) i k0 + (mdl (mwo Rw (nI yr)) T0 n n) (13 * (i + 1) + mpl (mwo Rw (nI yr)) (mdl (mwo Rw (nI yr)) T0 n n) s9 i - k0) = (mdl (mwo Rw (nI yr)) T0 n n) (13 * i + mpl (mwo Rw (nI yr)) (mdl (mwo Rw (nI yr)) T0 n n) s9 i)) ∧
      ∀ j : Nat, j < n → cfp (cww (cfl (fun i => mfi Rw i (nI yr) - en i) sp M nw n n).2 sp (cfl (fun i => mfi Rw i (nI yr) - en i) sp M nw n n).1 j (cpl (cfl (fun i => mfi Rw i (nI yr) - en i) sp M nw n n).2 sp (cfl (fun i => mfi Rw i (nI yr) - en i) sp M nw n n).1 s9 j)) ((cfl (fun i => mfi Rw i (nI yr) - en i) sp M nw n n).1 (j * 13 + (cpl (cfl (fun i => mfi Rw i (nI yr) - en i) sp M nw n n).2 sp (cfl (fun i => mfi Rw i (nI yr) - en i) sp M nw n n).1 s9 j))) (cpl (cfl (fun i => mfi Rw i (nI yr) - en i) sp M nw n n).2 sp (cfl (fun i => mfi Rw i (nI yr) - en i) sp M nw n n).1 s9 j) = mpk (mwo Rw (nI yr)) (mdl (mwo Rw (nI yr)) T0 n n) j (mpl (mwo Rw (nI yr)) (mdl (mwo Rw (nI yr)) T0 n n) s9 j)) ∧
    (¬ nI s9 ≤ msum Rw n → (cfl (fun i => mfi Rw i (nI yr) - en i) sp M nw n n).1 (0 * 13 + s9) = -1000000) := by
  obtain ⟨c1, c2, c3⟩ := cfl_rows (g := fun i => mfi Rw i (nI yr) - en i) (sp := sp) (M := M) (nw := nw) (n := n) n (Nat.le_refl n)
  obtain ⟨m1, m3⟩ := mdl_rows (wo := mwo Rw (nI yr)) (T := T0) (n := n) n (Nat.le_refl n)
  generalize (cfl (fun i => mfi Rw i (nI yr) - en i) sp M nw n n).1 = T at *
  generalize (cfl (fun i => mfi Rw i (nI yr) - en i) sp M nw n n).2 = W at *
  generalize mdl (mwo Rw (nI yr)) T0 n n = T' at *
  obtain ⟨a, ha⟩ : ∃ z : Nat → Nat, z = fun i => min 12 (sp i).toInt.toNat := ⟨_, rfl⟩
  have ha12 : ∀ i : Nat, a i ≤ 12 := fun i => by rw [ha]; exact Nat.min_le_left _ _
  have hsp : ∀ i : Nat, i < n → sp i = nI (a i) := fun i hi => by
    obtain ⟨h1, h2, h3⟩ := hBd i (by omega)
    obtain ⟨k, hk, e⟩ := jnat (x := sp i) (m := 12) h1 (by omega)
    have e2 : a i = k := by
      rw [ha]
      show min 12 (sp i).toInt.toNat = k
      rw [e, nI_toInt (by omega)]
      omega
    rw [e2, e]
  have hR3 : ∀ i : Nat, i < n → Rw (5 * i + 3) = nI (a i) := fun i hi => (hSp.1 i hi).1.trans (hsp i hi)
  have hTabs : jTabs a n sp Rw W T T' (nI yr) := by
    refine ⟨c1, fun j hj s hs => c3 j (by omega) hj s hs, m1, fun j hj s hs => m3 j (by omega) hj s hs, fun j hj => ?_⟩
    have e4 := (hSp.1 j hj).2
    obtain ⟨b1, b2, b3⟩ := hBd j (by omega)
    obtain ⟨f1, f2⟩ := jfi_b hRw hj (y := yr) (by omega)
    have es : (mfi Rw j (nI yr) - en j).toInt = (mfi Rw j (nI yr)).toInt - (en j).toInt := jtsub (by omega) (by omega)
    refine ⟨hsp j hj, ha12 j, hR3 j hj, ?_, ?_, ?_⟩
    · rw [c2 j (by omega) hj, e4]
    · rw [e4, es]; omega
    · rw [e4, es]; omega
  have hsum : msum Rw n = nI (jns a n) := msum_n n hR3
  have h72 : jns a n ≤ 12 * n := jns_12 ha12 n
  have hle : nI s9 ≤ msum Rw n ↔ s9 ≤ jns a n := by rw [hsum]; exact nI_leI (by omega) (by omega)
  obtain ⟨r1, r2⟩ := jtab_at hn6 hTabs (Nat.zero_le n) hs
  have e0 : 13 * 0 + s9 = s9 := by omega
  have ez : jns a 0 = 0 := rfl
  rw [e0, ez] at r1
  rw [e0, ez] at r2
  have e1 : 0 * 13 + s9 = s9 := by omega
  rw [e1]
  refine ⟨fun h => ?_, fun h => (r2 (fun h2 => h (hle.mpr (by omega)))).1⟩
  have hp := hle.mp h
  obtain ⟨t1, t2, t3⟩ := r1 (by omega)
  refine ⟨fun e => ?_, t1, fun i hi => ((jpicks hn6 hTabs hs hp i (by omega)).2.2.2 hi).2, fun j hj => ((jpicks hn6 hTabs hs hp j (by omega)).2.2.2 hj).1⟩
  rw [← t1, e, jM6] at t2
  omega
/-! ===== digest ===== -/
theorem jdigA {n yr : Nat} {jk : Nat → Nat} {jg js jm Rw sp en : Nat → Int32} {w1 w2 : Nat → Int32} {h : Int64} (hRw : jRw n jk jg js jm Rw) (hSp : jSp n sp en Rw) (hyr : yr ≤ 99) :
    jdj (fun j c => jtl (ckn (jk j)) (jg j) (js j) (sp j) (jmo (jm j) (nI yr)) (mfi Rw j (nI yr) - en j + 100) (en j) (nI (jyb (fun i => mfi Rw j (nI yr + nI i)) 10)) c) w1 w2 h n = jdj (fun j c => jtl (Rw (5 * j)) (Rw (5 * j + 1)) (Rw (5 * j + 2)) (Rw (5 * j + 3)) (mmo Rw j (nI yr)) (mfi Rw j (nI yr) - Rw (5 * j + 4) + 100) (Rw (5 * j + 4)) (mwf (fun i => mfi Rw j (nI yr + nI i)) 10) c) w1 w2 h n :=
  jdj_c n (fun i hi => funext (fun c => jtlR hRw hSp hyr hi c))
theorem jcmp0 {x y : Int64} (h : x = y) : lg_cmp x y = 0 := by
  subst h
  have h1 : 0 ≤ lg_cmp x x := (lg_cmp_ge x x).mpr (by rw [Int64.le_iff_toInt_le]; exact Int.le_refl _)
  have h2 : lg_cmp x x ≤ 0 := (lg_cmp_le x x).mpr (by rw [Int64.le_iff_toInt_le]; exact Int.le_refl _)
  rw [fa_le] at h1 h2
  exact (fa_eq _ _).mpr (by omega)
/-! ===== words of the tables at the law ===== -/
theorem jtr {big mid ws : List Cond} (h : GoodIn mid ws) (hm : ∀ w ∈ mid, w ∈ big) : GoodIn big ws := fun w hw => ⟨hm w (h w hw).1, (h w hw).2⟩
set_option maxRecDepth 20000 in
theorem jg_lw_ext : GoodIn lw_tbl jext := goodIn_p jext [184, 187] (by decide +kernel) (by decide +kernel)
set_option maxRecDepth 20000 in
theorem jg_lw_larder : GoodIn lw_tbl (wsV RL 27 RX6 yX6_larder wsX6_larderE) := goodIn_app (goodIn_of _ (by decide +kernel)) (jgc (jtr ggL_law_X6_larder wsL_law_in) List.mem_cons_self jg_lw_ext)
