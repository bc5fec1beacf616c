/-! ===== the class's cells beside the reference's ===== -/
/-- the jars, as both have them -/
def jRw (n : Nat) (jk : Nat → Nat) (jg js jm R : Nat → Int32) : Prop := ∀ i : Nat, i < n → jK5 (jk i) ∧ R (5 * i) = ckn (jk i) ∧ R (5 * i + 1) = jg i ∧ R (5 * i + 2) = js i ∧ jm i = jmm (jk i) (js i) ∧ ∃ g s : Nat, g < 10 ∧ s < 10 ∧ jg i = nI g ∧ js i = nI s
/-- rows with the same jars -/
def jSm (n : Nat) (R R' : Nat → Int32) : Prop := ∀ i : Nat, i < n → R' (5 * i) = R (5 * i) ∧ R' (5 * i + 1) = R (5 * i + 1) ∧ R' (5 * i + 2) = R (5 * i + 2)
/-- spoons, as both have them -/
def jSp (n : Nat) (sp en R : Nat → Int32) : Prop := (∀ i : Nat, i < n → R (5 * i + 3) = sp i ∧ R (5 * i + 4) = en i) ∧ ∀ i : Nat, n ≤ i → i < 6 → sp i = 0
/-- how many spoons there can be -/
def jBd (sp en : Nat → Int32) : Prop := ∀ i : Nat, i < 6 → 0 ≤ (sp i).toInt ∧ 0 ≤ (en i).toInt ∧ (sp i).toInt + (en i).toInt ≤ 12
/-- what is tasted, as both have it -/
def jTt (tY tW Tt : Nat → Int32) : Prop := ∀ i : Nat, i < 6 → tY i = Tt (2 * i) ∧ tW i = Tt (2 * i + 1)
theorem jRw.sm {n : Nat} {jk : Nat → Nat} {jg js jm R R' : Nat → Int32} (h : jRw n jk jg js jm R) (hs : jSm n R R') : jRw n jk jg js jm R' := fun i hi => by
  obtain ⟨h1, h2, h3, h4, h5, h6⟩ := h i hi
  obtain ⟨s1, s2, s3⟩ := hs i hi
  exact ⟨h1, s1.trans h2, s2.trans h3, s3.trans h4, h5, h6⟩
theorem jSm.rf {n : Nat} {R : Nat → Int32} : jSm n R R := fun _ _ => ⟨rfl, rfl, rfl⟩
theorem jSm.tr {n : Nat} {R R' R'' : Nat → Int32} (h : jSm n R R') (h' : jSm n R' R'') : jSm n R R'' := fun i hi => ⟨(h' i hi).1.trans (h i hi).1, (h' i hi).2.1.trans (h i hi).2.1, (h' i hi).2.2.trans (h i hi).2.2⟩
theorem jSm.sy {n : Nat} {R R' : Nat → Int32} (h : jSm n R R') : jSm n R' R := fun i hi => ⟨(h i hi).1.symm, (h i hi).2.1.symm, (h i hi).2.2.symm⟩
theorem jSm.up {n k : Nat} {R R' : Nat → Int32} {x : Int32} (h : jSm n R R') (hk : k % 5 = 3 ∨ k % 5 = 4) : jSm n R (upd R' k x) := fun i hi => by
  rw [pk_un (by omega), pk_un (by omega), pk_un (by omega)]
  exact h i hi
theorem jSm.ne {n m : Nat} {R R' : Nat → Int32} (h : jSm n R R') : jSm n R (mne R' m) := fun i hi => by
  unfold mne
  rw [if_neg (by omega), if_neg (by omega), if_neg (by omega)]
  exact h i hi
theorem jSm.mo {n : Nat} {R R' : Nat → Int32} (h : jSm n R R') {i : Nat} (hi : i < n) (z : Int32) : mmo R' i z = mmo R i z := by
  obtain ⟨s1, s2, s3⟩ := h i hi
  unfold mmo mmr
  rw [s1, s3]
theorem jSm.fi {n : Nat} {R R' : Nat → Int32} (h : jSm n R R') {i : Nat} (hi : i < n) (z : Int32) : mfi R' i z = mfi R i z := by
  have h1 := h.mo hi z
  obtain ⟨s1, s2, s3⟩ := h i hi
  unfold mfi
  rw [h1, s1, s2]
/-! ===== mould and worth ===== -/
theorem jmn (v : Int32) : (if (20 : Int32) ≤ v then (20 : Int32) else v) = if v ≤ 20 then v else 20 := by
  by_cases h1 : (20 : Int32) ≤ v
  · by_cases h2 : v ≤ 20
    · rw [if_pos h1, if_pos h2]
      rw [fa_le] at h1 h2
      exact (fa_eq _ _).mpr (by omega)
    · rw [if_pos h1, if_neg h2]
  · by_cases h2 : v ≤ 20
    · rw [if_neg h1, if_pos h2]
    · rw [fa_le] at h1 h2
      omega
theorem jpm_s : ∀ s : Nat, s < 10 → jpm (nI s) = nI (3 - s / 3) ∧ 3 - nI s / 3 = nI (3 - s / 3) := by decide +kernel
theorem jrate {n : Nat} {jk : Nat → Nat} {jg js jm R : Nat → Int32} (h : jRw n jk jg js jm R) {i : Nat} (hi : i < n) : (∃ r : Nat, r ≤ 4 ∧ jm i = nI r) ∧ ∀ z : Int32, mmr R i z = z * jm i := by
  obtain ⟨hk, h0, h1, h2, hm, g, s, hg, hs, eg, es⟩ := h i hi
  obtain ⟨p1, p2⟩ := jpm_s s hs
  rw [es] at hm h2
  have hr : 3 - s / 3 ≤ 3 := by omega
  generalize 3 - s / 3 = r at *
  rcases hk with e | e | e | e | e
  · rw [e] at h0 hm
    have hm0 : jm i = 0 := hm
    exact ⟨⟨0, by omega, hm0⟩, fun z => by unfold mmr; rw [h0, hm0, if_pos (show ckn 0 = 2 from rfl), Int32.mul_zero]⟩
  · rw [e] at h0 hm
    have hm0 : jm i = 0 := hm
    exact ⟨⟨0, by omega, hm0⟩, fun z => by unfold mmr; rw [h0, hm0, if_neg (show ¬ ckn 2 = 2 by decide), if_pos (show ckn 2 = 4 from rfl), Int32.mul_zero]⟩
  · rw [e] at h0 hm
    have hm0 : jm i = nI r := Eq.trans hm p1
    exact ⟨⟨r, by omega, hm0⟩, fun z => by unfold mmr; rw [h0, hm0, h2, if_neg (show ¬ ckn 3 = 2 by decide), if_neg (show ¬ ckn 3 = 4 by decide), if_neg (show ¬ ckn 3 = 1 by decide), p2, Int32.add_zero, Int32.mul_comm]⟩
  · rw [e] at h0 hm
    have hm0 : jm i = nI r := Eq.trans hm p1
    exact ⟨⟨r, by omega, hm0⟩, fun z => by unfold mmr; rw [h0, hm0, h2, if_neg (show ¬ ckn 4 = 2 by decide), if_neg (show ¬ ckn 4 = 4 by decide), if_neg (show ¬ ckn 4 = 1 by decide), p2, Int32.add_zero, Int32.mul_comm]⟩
  · rw [e] at h0 hm
    have hm0 : jm i = nI (r + 1) := by
      have h9 : jm i = jpm (nI s) + 1 := hm
      rw [h9, p1, nI_1]
    exact ⟨⟨r + 1, by omega, hm0⟩, fun z => by unfold mmr; rw [h0, hm0, h2, if_neg (show ¬ ckn 5 = 2 by decide), if_neg (show ¬ ckn 5 = 4 by decide), if_pos (show ckn 5 = 1 from rfl), p2, nI_1, Int32.mul_comm]⟩
theorem jmoR {n : Nat} {jk : Nat → Nat} {jg js jm R : Nat → Int32} (h : jRw n jk jg js jm R) {i : Nat} (hi : i < n) (z : Int32) : jmo (jm i) z = mmo R i z := by
  unfold jmo mmo
  rw [(jrate h hi).2 z, jmn]
theorem jfwR {n : Nat} {jk : Nat → Nat} {jg js jm R : Nat → Int32} (h : jRw n jk jg js jm R) (i : Nat) (hi : i < n) (z : Int32) : cfw (jk i) (jg i) (jm i) z = mfi R i z := by
  have hm := jmoR h hi z
  obtain ⟨hk, h0, h1, -⟩ := h i hi
  unfold cfw mfi
  rw [hm, h0, h1]
  generalize mmo R i z = o
  rcases hk with e | e | e | e | e
  · rw [e, if_neg (show ¬ (0 : Nat) = 2 by decide), if_neg (show ¬ (0 : Nat) = 4 by decide), if_neg (show ¬ ckn 0 = 4 by decide), if_neg (fun hh => absurd hh.1 (by decide))]
  · rw [e, if_pos rfl, if_pos (show ckn 2 = 4 from rfl)]
  · rw [e, if_neg (show ¬ (3 : Nat) = 2 by decide), if_neg (show ¬ (3 : Nat) = 4 by decide), if_neg (show ¬ ckn 3 = 4 by decide), if_neg (fun hh => absurd hh.1 (by decide))]
  · rw [e, if_neg (show ¬ (4 : Nat) = 2 by decide), if_pos rfl, if_neg (show ¬ ckn 4 = 4 by decide)]
    by_cases hy : z - z / 2 * 2 = 1
    · rw [if_pos hy, if_pos ⟨(by decide), hy⟩]
    · rw [if_neg hy, if_neg (fun hh => hy hh.2), Int32.add_zero]
  · rw [e, if_neg (show ¬ (5 : Nat) = 2 by decide), if_neg (show ¬ (5 : Nat) = 4 by decide), if_neg (show ¬ ckn 5 = 4 by decide), if_neg (fun hh => absurd hh.1 (by decide))]
theorem jmo_t : ∀ g : Nat, g < 10 → ∀ o : Nat, o < 21 → (-40 ≤ (2 * (nI g - nI o)).toInt ∧ (2 * (nI g - nI o)).toInt ≤ 30) ∧ (-40 ≤ (nI g - nI o + 3).toInt ∧ (nI g - nI o + 3).toInt ≤ 30) ∧ (-40 ≤ (nI g - nI o).toInt ∧ (nI g - nI o).toInt ≤ 30) := by decide +kernel
theorem jfi_b {n : Nat} {jk : Nat → Nat} {jg js jm R : Nat → Int32} (h : jRw n jk jg js jm R) {i : Nat} (hi : i < n) {y : Nat} (hy : y ≤ 1000) : -40 ≤ (mfi R i (nI y)).toInt ∧ (mfi R i (nI y)).toInt ≤ 30 := by
  have ho : ∃ o : Nat, o < 21 ∧ mmo R i (nI y) = nI o := by
    obtain ⟨⟨r, hr, e⟩, h2⟩ := jrate h hi
    have hb : y * r ≤ 1000 * 4 := Nat.mul_le_mul hy hr
    unfold mmo
    rw [h2, e, pk_mul]
    by_cases c : nI (y * r) ≤ 20
    · rw [if_pos c]
      have c2 : y * r ≤ 20 := (nI_leI (b := 20) (by omega) (by omega)).mp c
      exact ⟨y * r, by omega, rfl⟩
    · rw [if_neg c]
      exact ⟨20, by omega, rfl⟩
  obtain ⟨o, ho, e⟩ := ho
  obtain ⟨hk, h0, h1, -, -, g, s, hg, hs, eg, es⟩ := h i hi
  obtain ⟨t1, t2, t3⟩ := jmo_t g hg o ho
  unfold mfi
  rw [e, h1, eg]
  split
  · exact t1
  · split
    · exact t2
    · exact t3
/-! ===== when ===== -/
theorem jwh {g : Nat → Int32} (h : -99999 < (g 0).toInt) : ∀ k : Nat, mwm g (k + 1) = g (jyb g (k + 1)) ∧ mwf g (k + 1) = nI (jyb g (k + 1))
  | 0 => by
    have h1 : ¬ g 0 ≤ (-99999 : Int32) := by rw [fa_le, jN5]; omega
    have e1 : mwm g 1 = g 0 := by show (if g 0 ≤ (-99999 : Int32) then (-99999 : Int32) else g 0) = g 0; rw [if_neg h1]
    have e2 : mwf g 1 = nI 0 := by show (if g 0 ≤ (-99999 : Int32) then (-1 : Int32) else nI 0) = nI 0; rw [if_neg h1]
    have e3 : jyb g 1 = 0 := by show (if g 0 ≤ g 0 then 0 else 0) = 0; split <;> rfl
    rw [e1, e2, e3]
    exact ⟨rfl, rfl⟩
  | k + 1 => by
    obtain ⟨h1, h2⟩ := jwh h k
    have e1 : mwm g (k + 1 + 1) = if g (k + 1) ≤ mwm g (k + 1) then mwm g (k + 1) else g (k + 1) := rfl
    have e2 : mwf g (k + 1 + 1) = if g (k + 1) ≤ mwm g (k + 1) then mwf g (k + 1) else nI (k + 1) := rfl
    have e3 : jyb g (k + 1 + 1) = if g (k + 1) ≤ g (jyb g (k + 1)) then jyb g (k + 1) else k + 1 := rfl
    rw [e1, e2, e3, h1, h2]
    by_cases c : g (k + 1) ≤ g (jyb g (k + 1))
    · rw [if_pos c, if_pos c, if_pos c]; exact ⟨rfl, rfl⟩
    · rw [if_neg c, if_neg c, if_neg c]; exact ⟨rfl, rfl⟩
theorem jwhen {n : Nat} {jk : Nat → Nat} {jg js jm R : Nat → Int32} (h : jRw n jk jg js jm R) {i : Nat} (hi : i < n) {y : Nat} (hy : y ≤ 99) : nI (jyb (fun k => mfi R i (nI y + nI k)) 10) = mwf (fun k => mfi R i (nI y + nI k)) 10 := by
  refine (jwh (g := fun k => mfi R i (nI y + nI k)) ?_ 9).2.symm
  have h1 := (jfi_b h hi (y := y) (by omega)).1
  show -99999 < (mfi R i (nI y + nI 0)).toInt
  rw [nI_add]
  show -99999 < (mfi R i (nI y)).toInt
  omega
/-! ===== sums, tastes ===== -/
theorem jsum_m {R sp : Nat → Int32} : ∀ k : Nat, (∀ i : Nat, i < k → R (5 * i + 3) = sp i) → jsum sp k = msum R k
  | 0, _ => rfl
  | k + 1, h => by
    unfold jsum msum
    rw [jsum_m k (fun i hi => h i (by omega)), h k (by omega)]
theorem jsum_z {sp : Nat → Int32} {n : Nat} : ∀ d : Nat, (∀ i : Nat, n ≤ i → i < n + d → sp i = 0) → jsum sp (n + d) = jsum sp n
  | 0, _ => rfl
  | d + 1, h => by
    show jsum sp (n + d) + sp (n + d) = _
    rw [jsum_z d (fun i h1 h2 => h i h1 (by omega)), h (n + d) (by omega) (by omega), Int32.add_zero]
theorem jsumR {n : Nat} {sp en R : Nat → Int32} (hn : n ≤ 6) (h : jSp n sp en R) : jsum sp 6 = msum R n := by
  have h1 := jsum_z (sp := sp) (n := n) (6 - n) (fun i h1 h2 => h.2 i h1 (by omega))
  rw [show n + (6 - n) = 6 by omega] at h1
  rw [h1]
  exact jsum_m n (fun i hi => (h.1 i hi).1)
theorem jemp_c {f g : Nat → Int32} : ∀ k : Nat, (∀ i : Nat, i < k → f i = g i) → jemp f k = jemp g k
  | 0, _ => rfl
  | k + 1, h => by
    unfold jemp
    rw [jemp_c k (fun i hi => h i (by omega)), h k (by omega)]
theorem jempR {n : Nat} {sp en R : Nat → Int32} (h : jSp n sp en R) : jemp sp n = jemp (fun k => R (5 * k + 3)) n := jemp_c n (fun i hi => (h.1 i hi).1.symm)
theorem jag_c {fw : Nat → Int32 → Int32} {j : Nat} {tY tW tY' tW' : Nat → Int32} : ∀ k : Nat, (∀ i : Nat, i < k → tY i = tY' i ∧ tW i = tW' i) → jag fw j tY tW k = jag fw j tY' tW' k
  | 0, _ => rfl
  | k + 1, h => by
    unfold jag
    rw [jag_c k (fun i hi => h i (by omega)), (h k (by omega)).1, (h k (by omega)).2]
theorem jagR {fw : Nat → Int32 → Int32} {tY tW Tt : Nat → Int32} {tn : Nat} (ht : tn ≤ 6) (h : jTt tY tW Tt) : (fun i => jag fw i tY tW tn) = fun j => jag fw j (fun i => Tt (2 * i)) (fun i => Tt (2 * i + 1)) tn := by
  funext j
  exact jag_c tn (fun i hi => h i (by omega))
/-! ===== the page ===== -/
theorem jkl_m (c : Int32) : jkl c = if mkd c = -1 then 0 else 1 := by
  unfold jkl mkd
  by_cases a1 : c = 106
  · subst a1; decide
  · by_cases a2 : c = 119
    · subst a2; decide
    · by_cases a3 : c = 99
      · subst a3; decide
      · by_cases a4 : c = 112
        · subst a4; decide
        · by_cases a5 : c = 103
          · subst a5; decide
          · simp [a1, a2, a3, a4, a5]
theorem jdg (c : Int32) : (if c < 48 then (0 : Int32) else if c ≤ 57 then 1 else 0) = if (48 : Int32) ≤ c then (if c ≤ 57 then 1 else 0) else 0 := by
  by_cases h : c < 48
  · rw [if_pos h, if_neg (fun h2 => jlt_le h h2)]
  · rw [if_neg h, if_pos (jnlt h)]
theorem jft_m {k : Nat} (hk : k < 25) (c : Int32) : jft k c = mgd k c := by
  unfold jft mgd
  by_cases h : 23 ≤ k
  · rw [if_pos h]
    rcases (show k = 23 ∨ k = 24 by omega) with rfl | rfl
    · rw [if_neg (by decide), if_pos (by decide)]
      split <;> rfl
    · rw [if_pos (by decide), if_pos (by decide)]
  · rw [if_neg h, if_neg (show ¬ 24 ≤ k by omega), jkl_m, jdg]
    by_cases h4 : k % 4 = 0
    · rw [if_pos h4, if_pos h4]
    · rw [if_neg h4, if_neg h4]
      first | rfl | (by_cases h3 : k % 4 = 3 <;> simp [h3, h])
theorem jfo_c {g g' : Nat → Int32} : ∀ n : Nat, (∀ i : Nat, i < n → g i = g' i) → jfo g n = jfo g' n
  | 0, _ => rfl
  | n + 1, h => by
    unfold jfo
    rw [jfo_c n (fun i hi => h i (by omega)), h n (by omega)]
theorem jfoR {pg : Nat → Int32} {pn : Nat} (hp : pn ≤ 25) : jfo (fun i => jft i (pg i)) pn = jfo (fun i => mgd i (pg i)) pn := jfo_c pn (fun i hi => jft_m (by omega) (pg i))
theorem jfo_all {g : Nat → Int32} : ∀ n : Nat, jfo g n = n → ∀ i : Nat, i < n → ¬ g i = 0
  | 0, _, _, h => absurd h (Nat.not_lt_zero _)
  | n + 1, h, i, hi => by
    have hl := jfo_le g n
    unfold jfo at h
    by_cases c : jfo g n < n
    · rw [if_pos c] at h; omega
    · rw [if_neg c] at h
      by_cases c2 : g n = 0
      · rw [if_pos c2] at h; omega
      · by_cases e : i = n
        · subst e; exact c2
        · exact jfo_all n (by omega) i (by omega)
theorem jkk_m {c : Int32} (h : ¬ mkd c = -1) : mkd c = ckn (jkk c) := by
  unfold mkd at h ⊢
  unfold jkk
  by_cases a1 : c = 106
  · subst a1; decide
  · by_cases a2 : c = 119
    · subst a2; decide
    · by_cases a3 : c = 99
      · subst a3; decide
      · by_cases a4 : c = 112
        · subst a4; decide
        · by_cases a5 : c = 103
          · subst a5; decide
          · exact absurd (by simp [a1, a2, a3, a4, a5]) h
theorem jdig {c : Int32} (h1 : (48 : Int32) ≤ c) (h2 : c ≤ 57) : ∃ g : Nat, g < 10 ∧ c - 48 = nI g := by
  have e48 : (48 : Int32).toInt = 48 := by decide
  have e57 : (57 : Int32).toInt = 57 := by decide
  rw [fa_le, e48] at h1
  rw [fa_le, e57] at h2
  have e : (c - 48).toInt = c.toInt - 48 := by rw [jtsub, e48] <;> rw [e48] <;> omega
  obtain ⟨g, hg, eg⟩ := jnat (x := c - 48) (m := 9) (by omega) (by omega)
  exact ⟨g, by omega, eg⟩
/-- a larder that is read: both have the same jars -/
theorem jlard {pg R : Nat → Int32} {pn n2 : Nat} (hp : pn ≤ 25) (h1 : pn % 4 = 3) (h3 : jfo (fun i => jft i (pg i)) pn = pn) (hn2 : n2 = (pn + 1) / 4) :
    jRw n2 (fun i => jkk (pg (i * 4))) (fun i => pg (i * 4 + 1) - 48) (fun i => pg (i * 4 + 2) - 48) (fun i => jmm (jkk (pg (i * 4))) (pg (i * 4 + 2) - 48)) (mla pg R n2) := by
  intro i hi
  have ha := jfo_all pn (by rw [← jfoR hp]; exact h3)
  have q0 := ha (4 * i) (by omega)
  have q1 := ha (4 * i + 1) (by omega)
  have q2 := ha (4 * i + 2) (by omega)
  have z0 : 5 * i / 5 = i ∧ 5 * i % 5 = 0 := by omega
  have z1 : (5 * i + 1) / 5 = i ∧ (5 * i + 1) % 5 = 1 := by omega
  have z2 : (5 * i + 2) / 5 = i ∧ (5 * i + 2) % 5 = 2 := by omega
  have e0 : mla pg R n2 (5 * i) = mkd (pg (4 * i)) := by unfold mla; rw [z0.1, z0.2, if_pos hi, if_pos rfl]
  have e1 : mla pg R n2 (5 * i + 1) = pg (4 * i + 1) - 48 := by unfold mla; rw [z1.1, z1.2, if_pos hi, if_neg (by decide), if_pos rfl]
  have e2 : mla pg R n2 (5 * i + 2) = pg (4 * i + 2) - 48 := by unfold mla; rw [z2.1, z2.2, if_pos hi, if_neg (by decide), if_neg (by decide), if_pos rfl]
  have dg : ∀ k : Nat, k % 4 = 1 ∨ k % 4 = 2 → ¬ mgd k (pg k) = 0 → ∃ g : Nat, g < 10 ∧ pg k - 48 = nI g := by
    intro k hk h
    unfold mgd at h
    rw [if_neg (by omega), if_neg (by omega)] at h
    by_cases c1 : (48 : Int32) ≤ pg k
    · rw [if_pos c1] at h
      by_cases c2 : pg k ≤ 57
      · exact jdig c1 c2
      · rw [if_neg c2] at h; exact absurd rfl h
    · rw [if_neg c1] at h; exact absurd rfl h
  have hk : ¬ mkd (pg (4 * i)) = -1 := by
    intro e
    apply q0
    show mgd (4 * i) (pg (4 * i)) = 0
    unfold mgd
    rw [if_pos (by omega), if_neg (by omega), if_pos e]
  obtain ⟨g, hg, eg⟩ := dg (4 * i + 1) (by omega) q1
  obtain ⟨s, hs, es⟩ := dg (4 * i + 2) (by omega) q2
  rw [e0, e1, e2]
  dsimp only
  rw [show i * 4 = 4 * i by omega]
  exact ⟨jkk5 _, jkk_m hk, rfl, rfl, rfl, g, s, hg, hs, eg, es⟩
theorem jlardS {pg R sp en : Nat → Int32} {n2 : Nat} (hn : n2 ≤ 6) : jSp n2 (jfl (fun i => if i < n2 then 12 else 0) sp 6) (jfl (fun _ => 0) en 6) (mla pg R n2) ∧ jBd (jfl (fun i => if i < n2 then 12 else 0) sp 6) (jfl (fun _ => 0) en 6) := by
  have es : ∀ i : Nat, i < 6 → jfl (fun i => if i < n2 then (12 : Int32) else 0) sp 6 i = if i < n2 then 12 else 0 := fun i hi => by unfold jfl; rw [if_pos hi]
  have ee : ∀ i : Nat, i < 6 → jfl (fun _ => (0 : Int32)) en 6 i = 0 := fun i hi => by unfold jfl; rw [if_pos hi]
  refine ⟨⟨fun i hi => ?_, fun i h1 h2 => ?_⟩, fun i hi => ?_⟩
  · have z3 : (5 * i + 3) / 5 = i ∧ (5 * i + 3) % 5 = 3 := by omega
    have z4 : (5 * i + 4) / 5 = i ∧ (5 * i + 4) % 5 = 4 := by omega
    rw [es i (by omega), ee i (by omega), if_pos hi]
    unfold mla
    rw [z3.1, z3.2, z4.1, z4.2]
    simp [hi]
  · rw [es i h2, if_neg (by omega)]
  · rw [es i hi, ee i hi]
    split <;> decide
/-! ===== as ===== -/
theorem jas_t : ∀ k : Nat, k < 6 → ¬ k = 1 → ∀ c : Nat, c < 5 → (jik k c = true ↔ (c = 0 ∨ nI c = ckn k ∨ (c = 2 ∧ ckn k = 4))) := by decide +kernel
theorem jasR {k c j : Nat} (hk : jK5 k) (hc : c < 5) : jas k c j = mas (ckn k) c j := by
  have h := jas_t k (by rcases hk with rfl | rfl | rfl | rfl | rfl <;> decide) (by rcases hk with rfl | rfl | rfl | rfl | rfl <;> decide) c hc
  unfold jas mas
  by_cases b : jik k c = true
  · rw [if_pos b, if_pos (h.mp b)]
  · rw [if_neg b, if_neg (fun h2 => b (h.mpr h2))]
/-! ===== spoons: what the calls do to both ===== -/
theorem jSp.take {n t : Nat} {sp en R : Nat → Int32} {x : Int32} (h : jSp n sp en R) (ht : t < n) : jSp n (upd sp t x) en (upd R (5 * t + 3) x) := by
  refine ⟨fun i hi => ?_, fun i h1 h2 => ?_⟩
  · rw [pk_un (show ¬ 5 * i + 4 = 5 * t + 3 by omega)]
    by_cases e : i = t
    · subst e; rw [pk_us, pk_us]; exact ⟨rfl, (h.1 i hi).2⟩
    · rw [pk_un (by omega), pk_un e]; exact h.1 i hi
  · rw [pk_un (by omega)]; exact h.2 i h1 h2
theorem jSp.ate {n t : Nat} {sp en R : Nat → Int32} {x : Int32} (h : jSp n sp en R) (ht : t < n) : jSp n sp (upd en t x) (upd R (5 * t + 4) x) := by
  refine ⟨fun i hi => ?_, fun i h1 h2 => h.2 i h1 h2⟩
  rw [pk_un (show ¬ 5 * i + 3 = 5 * t + 4 by omega)]
  by_cases e : i = t
  · subst e; rw [pk_us, pk_us]; exact ⟨(h.1 i hi).1, rfl⟩
  · rw [pk_un (by omega), pk_un e]; exact h.1 i hi
theorem jSp.ne {n : Nat} {sp en R : Nat → Int32} (hn : n ≤ 6) (h : jSp n sp en R) : jSp n sp (jfl (fun _ => 0) en 6) (mne R n) := by
  refine ⟨fun i hi => ?_, fun i h1 h2 => h.2 i h1 h2⟩
  unfold mne jfl
  rw [if_neg (by omega), if_pos (by omega), if_pos (by omega)]
  exact ⟨(h.1 i hi).1, rfl⟩
/-! ===== times ===== -/
def jTR (n : Nat) (R0 us ue Rv : Nat → Int32) : Prop := jSm n R0 Rv ∧ jSp n us ue Rv
theorem jTR.take {n t : Nat} {R0 us ue Rv : Nat → Int32} (h : jTR n R0 us ue Rv) (ht : t < n) : jTR n R0 (if 0 < us t then upd us t (us t - 1) else us) ue (upd Rv (5 * t + 3) (Rv (5 * t + 3) - (if 0 < Rv (5 * t + 3) then 1 else 0))) := by
  have e := (h.2.1 t ht).1
  refine ⟨h.1.up (by omega), ?_⟩
  rw [e]
  by_cases c : 0 < us t
  · rw [if_pos c, if_pos c]; exact h.2.take ht
  · rw [if_neg c, if_neg c]
    have hz : upd us t (us t - 0) = us := by
      funext i
      by_cases e2 : i = t
      · rw [e2, pk_us, Int32.sub_zero]
      · rw [pk_un e2]
    have h9 := h.2.take (x := us t - 0) ht
    rwa [hz] at h9
theorem jstep {n q : Nat} {y jo : Int32} {R0 us ue Rv : Nat → Int32} (hn0 : 0 < n) (hn : n ≤ 6) (h : jTR n R0 us ue Rv) :
    jTR n R0 (cst (mfi R0) n y (us, ue, jo, q)).1 (cst (mfi R0) n y (us, ue, jo, q)).2.1 (mst n y (Rv, jo, q)).1 ∧ (cst (mfi R0) n y (us, ue, jo, q)).2.2.1 = (mst n y (Rv, jo, q)).2.1 ∧ (cst (mfi R0) n y (us, ue, jo, q)).2.2.2 = (mst n y (Rv, jo, q)).2.2 := by
  unfold cst mst
  dsimp only
  have h1 : jsd q / 65536 % n < n := Nat.mod_lt _ hn0
  have h2 : jsd (jsd q) / 65536 % n < n := Nat.mod_lt _ hn0
  generalize jsd (jsd q) / 65536 % n = t2 at *
  generalize jsd q / 65536 % n = t1 at *
  generalize jsd (jsd q) = q2
  have hA := h.take h1
  generalize (if 0 < us t1 then upd us t1 (us t1 - 1) else us) = U at *
  generalize upd Rv (5 * t1 + 3) (Rv (5 * t1 + 3) - (if 0 < Rv (5 * t1 + 3) then 1 else 0)) = V at *
  obtain ⟨e3, e4⟩ := hA.2.1 t2 h2
  rw [e3, e4]
  by_cases c : 0 < U t2
  · rw [if_pos c, if_pos c, if_pos c, if_pos c]
    dsimp only
    exact ⟨⟨((hA.1.up (by omega)).up (by omega)).ne, ((hA.2.take h2).ate h2).ne hn⟩, by rw [hA.1.fi h2], rfl⟩
  · rw [if_neg c, if_neg c, if_neg c, if_neg c]
    dsimp only
    exact ⟨⟨hA.1.ne, hA.2.ne hn⟩, rfl, rfl⟩
theorem jtimes {n q : Nat} {y jo : Int32} {R0 us ue Rv : Nat → Int32} (hn0 : 0 < n) (hn : n ≤ 6) (h : jTR n R0 us ue Rv) : ∀ k : Nat,
    jTR n R0 (cts (mfi R0) n y (us, ue, jo, q) k).1 (cts (mfi R0) n y (us, ue, jo, q) k).2.1 (mts n y (Rv, jo, q) k).1 ∧ (cts (mfi R0) n y (us, ue, jo, q) k).2.2.1 = (mts n y (Rv, jo, q) k).2.1 ∧ (cts (mfi R0) n y (us, ue, jo, q) k).2.2.2 = (mts n y (Rv, jo, q) k).2.2
  | 0 => ⟨h, rfl, rfl⟩
  | k + 1 => by
    obtain ⟨i1, i2, i3⟩ := jtimes (q := q) (y := y) (jo := jo) hn0 hn h k
    unfold cts mts
    generalize cts (mfi R0) n y (us, ue, jo, q) k = u at *
    generalize mts n y (Rv, jo, q) k = v at *
    obtain ⟨us1, ue1, jo1, q1⟩ := u
    obtain ⟨Rv1, jo2, q2⟩ := v
    dsimp only at i1 i2 i3
    subst i2
    subst i3
    exact jstep hn0 hn i1
theorem jSp.fl {n : Nat} {sp en sp' en' R : Nat → Int32} (hn : n ≤ 6) (h : jSp n sp en R) : jSp n (jfl sp sp' 6) (jfl en en' 6) R := by
  refine ⟨fun i hi => ?_, fun i h1 h2 => ?_⟩
  · unfold jfl
    rw [if_pos (by omega), if_pos (by omega)]
    exact h.1 i hi
  · unfold jfl
    rw [if_pos h2]
    exact h.2 i h1 h2
theorem jSp.flR {n : Nat} {sp en R R' : Nat → Int32} (hn : n ≤ 6) (h : jSp n sp en R) : jSp n sp en (jfl R R' 30) := by
  refine ⟨fun i hi => ?_, h.2⟩
  unfold jfl
  rw [if_pos (by omega), if_pos (by omega)]
  exact h.1 i hi
theorem jSm.fl {n : Nat} {R R' R'' : Nat → Int32} (hn : n ≤ 6) (h : jSm n R R') : jSm n R (jfl R' R'' 30) := fun i hi => by
  unfold jfl
  rw [if_pos (by omega), if_pos (by omega), if_pos (by omega)]
  exact h i hi
theorem jBd.fl {sp en sp' en' : Nat → Int32} (h : jBd sp en) : jBd (jfl sp sp' 6) (jfl en en' 6) := fun i hi => by
  unfold jfl
  rw [if_pos hi, if_pos hi]
  exact h i hi
theorem jTt.fl {tY tW tY' tW' Tt Tt' : Nat → Int32} (h : jTt tY tW Tt) : jTt (jfl tY tY' 6) (jfl tW tW' 6) (jfl Tt Tt' 12) := fun i hi => by
  unfold jfl
  rw [if_pos hi, if_pos hi, if_pos (by omega), if_pos (by omega)]
  exact h i hi
theorem jTt.up {tn : Nat} {tY tW Tt : Nat → Int32} {a b : Int32} (h : jTt tY tW Tt) : jTt (upd tY tn a) (upd tW tn b) (upd (upd Tt (2 * tn) a) (2 * tn + 1) b) := fun i hi => by
  by_cases e : i = tn
  · subst e
    rw [pk_us, pk_us, pk_us, pk_un (by omega), pk_us]
    exact ⟨rfl, rfl⟩
  · rw [pk_un e, pk_un e, pk_un (by omega), pk_un (by omega), pk_un (by omega), pk_un (by omega)]
    exact h i hi
/-! ===== digest ===== -/
theorem jmx_c {f g : Nat → Int32} {h : Int64} : ∀ k : Nat, (∀ i : Nat, i < k → f i = g i) → jmx f h k = jmx g h k
  | 0, _ => rfl
  | k + 1, hh => by
    unfold jmx
    rw [jmx_c k (fun i hi => hh i (by omega)), hh k (by omega)]
theorem jdj_c {tl tl' : Nat → Nat → Int32} {w1 w2 : Nat → Int32} {h : Int64} : ∀ k : Nat, (∀ i : Nat, i < k → tl i = tl' i) → jdj tl w1 w2 h k = jdj tl' w1 w2 h k
  | 0, _ => rfl
  | k + 1, hh => by
    unfold jdj
    rw [jdj_c k (fun i hi => hh i (by omega)), hh k (by omega)]
theorem jtlR {n : Nat} {jk : Nat → Nat} {jg js jm R sp en : Nat → Int32} {y : Nat} (h : jRw n jk jg js jm R) (hs : jSp n sp en R) (hy : y ≤ 99) {j : Nat} (hj : j < n) (c : Nat) :
    jtl (ckn (jk j)) (jg j) (js j) (sp j) (jmo (jm j) (nI y)) (mfi R j (nI y) - en j + 100) (en j) (nI (jyb (fun i => mfi R j (nI y + nI i)) 10)) c = jtl (R (5 * j)) (R (5 * j + 1)) (R (5 * j + 2)) (R (5 * j + 3)) (mmo R j (nI y)) (mfi R j (nI y) - R (5 * j + 4) + 100) (R (5 * j + 4)) (mwf (fun i => mfi R j (nI y + nI i)) 10) c := by
  rw [jwhen h hj hy, jmoR h hj]
  obtain ⟨-, h0, h1, h2, -⟩ := h j hj
  obtain ⟨h3, h4⟩ := hs.1 j hj
  rw [h0, h1, h2, h3, h4]
