/-! ===== the law's own rows: numbers ===== -/
theorem jmn (v : Int32) : (if (20 : Int32) ≤ v then (20 : Int32) else v) = if v ≤ 20 then v else 20 := by
  by_cases h1 : (20 : Int32) ≤ v
  · by_cases h2 : v ≤ 20
    · rw [if_pos h1, if_pos h2]
      rw [fa_le] at h1 h2
      exact (fa_eq _ _).mpr (by omega)
    · rw [if_pos h1, if_neg h2]
  · by_cases h2 : v ≤ 20
    · rw [if_neg h1, if_pos h2]
    · rw [fa_le] at h1 h2
      omega
theorem jcmp0 {x y : Int64} (h : x = y) : lg_cmp x y = 0 := by
  subst h
  have h1 : 0 ≤ lg_cmp x x := (lg_cmp_ge x x).mpr (by rw [Int64.le_iff_toInt_le]; exact Int.le_refl _)
  have h2 : lg_cmp x x ≤ 0 := (lg_cmp_le x x).mpr (by rw [Int64.le_iff_toInt_le]; exact Int.le_refl _)
  rw [fa_le] at h1 h2
  exact (fa_eq _ _).mpr (by omega)
theorem jmem {full sub : List Nat} (ix : List Nat) (h : ix.filterMap (fun i => full[i]?) = sub) {a : Nat} (ha : a ∈ sub) : a ∈ full := by
  subst h
  obtain ⟨i, -, hi⟩ := List.mem_filterMap.mp ha
  exact List.mem_of_getElem? hi
theorem jtr {big mid ws : List Cond} (h : GoodIn mid ws) (hm : ∀ w ∈ mid, w ∈ big) : GoodIn big ws := fun w hw => ⟨hm w (h w hw).1, (h w hw).2⟩
theorem lshr (x : Int32) : ∃ a : Nat, a < 2 ^ 31 ∧ (x.toUInt32 >>> ((1 : Int32).toUInt32 &&& Int32.toUInt32 31)).toInt32 = nI a := by
  refine ⟨x.toBitVec.toNat / 2 ^ 1, ?_, ?_⟩
  · have := x.toBitVec.isLt
    omega
  · apply Int32.toBitVec_inj.mp
    apply BitVec.eq_of_toNat_eq
    rw [pk_ushr x 1 1 (by decide), pk_tn]
    have := x.toBitVec.isLt
    omega
theorem lne0 {k : Nat} (h0 : 0 < k) (hk : k < 2 ^ 31) : ¬ nI k = 0 := fun h => by
  have e : (nI k).toInt = 0 := by rw [h]; decide
  rw [nI_toInt hk] at e
  omega
theorem lnx (a b : Int32) : a - b + 100 = 100 + a - b := by
  rw [Int32.sub_eq_add_neg, Int32.sub_eq_add_neg, Int32.add_assoc, Int32.add_comm (-b) 100, ← Int32.add_assoc, Int32.add_comm a 100]
theorem lzp {x : Int32} (h : (0 : Int32) ≤ x) (h0 : ¬ x = 0) : 0 < x := by
  have z : (0 : Int32).toInt = 0 := by decide
  rw [fa_le, z] at h
  rw [fa_lt, z]
  have : ¬ x.toInt = 0 := fun e => h0 ((fa_eq _ _).mpr (by rw [z, e]))
  omega
theorem lzn {x : Int32} (h : x = 0) : ¬ 0 < x := by rw [h]; decide
/-- no spoons below none -/
def lNn (sp : Nat → Int32) : Prop := ∀ i : Nat, i < 6 → (0 : Int32) ≤ sp i
theorem lNn.up {sp : Nat → Int32} {j : Nat} (h : lNn sp) (hp : 0 < sp j) : lNn (upd sp j (sp j - 1)) := fun i hi => by
  by_cases e : i = j
  · subst e
    have z : (0 : Int32).toInt = 0 := by decide
    have o : (1 : Int32).toInt = 1 := by decide
    rw [pk_us]
    rw [fa_lt, z] at hp
    have e1 : (sp i - 1).toInt = (sp i).toInt - 1 := by
      rw [Int32.toInt_sub, o]
      have hb := (sp i).toInt_lt
      rw [Int.bmod_def]
      omega
    rw [fa_le, z, e1]
    omega
  · rw [pk_un e]; exact h i hi
/-! ===== the law's row of days ===== -/
def jdd (sp en : Nat → Int32) (y jo ea lo : Int32) : Nat → Int32 := fun i => if i < 6 then sp i else if i < 12 then en (i - 6) else if i = 12 then y else if i = 13 then jo else if i = 14 then ea else lo
theorem jdd_s {sp en : Nat → Int32} {y jo ea lo : Int32} {j : Nat} (h : j < 6) : jdd sp en y jo ea lo j = sp j := if_pos h
theorem jdd_e {sp en : Nat → Int32} {y jo ea lo : Int32} {j : Nat} (h : j < 6) : jdd sp en y jo ea lo (6 + j) = en j := by
  unfold jdd
  rw [if_neg (by omega), if_pos (by omega), show 6 + j - 6 = j by omega]
theorem jdd_us {sp en : Nat → Int32} {y jo ea lo x : Int32} {j : Nat} (h : j < 6) : jdd (upd sp j x) en y jo ea lo = upd (jdd sp en y jo ea lo) j x := by
  funext i
  by_cases e : i = j
  · subst e; rw [pk_us, jdd_s h, pk_us]
  · rw [pk_un e]; unfold jdd; rw [pk_un e]
theorem jdd_ue {sp en : Nat → Int32} {y jo ea lo x : Int32} {j : Nat} (h : j < 6) : jdd sp (upd en j x) y jo ea lo = upd (jdd sp en y jo ea lo) (6 + j) x := by
  funext i
  by_cases e : i = 6 + j
  · subst e; rw [pk_us, jdd_e h, pk_us]
  · rw [pk_un e]
    unfold jdd
    by_cases h1 : i < 6
    · rw [if_pos h1, if_pos h1]
    · by_cases h2 : i < 12
      · rw [if_neg h1, if_neg h1, if_pos h2, if_pos h2, pk_un (by omega)]
      · rw [if_neg h1, if_neg h1, if_neg h2, if_neg h2]
theorem jdd_uy {sp en : Nat → Int32} {y jo ea lo x : Int32} : jdd sp en x jo ea lo = upd (jdd sp en y jo ea lo) 12 x := by
  funext i
  by_cases e : i = 12
  · subst e; rw [pk_us]; rfl
  · rw [pk_un e]; unfold jdd; rw [if_neg e, if_neg e]
theorem jdd_uj {sp en : Nat → Int32} {y jo ea lo x : Int32} : jdd sp en y x ea lo = upd (jdd sp en y jo ea lo) 13 x := by
  funext i
  by_cases e : i = 13
  · subst e; rw [pk_us]; rfl
  · rw [pk_un e]; unfold jdd; rw [if_neg e, if_neg e]
theorem jdd_ua {sp en : Nat → Int32} {y jo ea lo x : Int32} : jdd sp en y jo x lo = upd (jdd sp en y jo ea lo) 14 x := by
  funext i
  by_cases e : i = 14
  · subst e; rw [pk_us]; rfl
  · rw [pk_un e]; unfold jdd; rw [if_neg e, if_neg e]
theorem jdd_ul {sp en : Nat → Int32} {y jo ea lo x : Int32} {i : Nat} (hi : i < 16) : upd (jdd sp en y jo ea lo) 15 x i = jdd sp en y jo ea x i := by
  by_cases e : i = 15
  · subst e; rw [pk_us]; rfl
  · rw [pk_un e]
    unfold jdd
    by_cases h1 : i < 6
    · rw [if_pos h1, if_pos h1]
    · by_cases h2 : i < 12
      · rw [if_neg h1, if_neg h1, if_pos h2, if_pos h2]
      · by_cases h3 : i = 12
        · rw [if_neg h1, if_neg h1, if_neg h2, if_neg h2, if_pos h3, if_pos h3]
        · by_cases h4 : i = 13
          · rw [if_neg h1, if_neg h1, if_neg h2, if_neg h2, if_neg h3, if_neg h3, if_pos h4, if_pos h4]
          · have h5 : i = 14 := by omega
            rw [if_neg h1, if_neg h1, if_neg h2, if_neg h2, if_neg h3, if_neg h3, if_neg h4, if_neg h4, if_pos h5, if_pos h5]
theorem jdd_ng {sp en : Nat → Int32} {y jo ea lo : Int32} {k : Nat} (h : k < 6) : jdd sp (jfl (fun _ => 0) en (k + 1)) y jo ea lo = upd (jdd sp (jfl (fun _ => 0) en k) y jo ea lo) (6 + k) 0 := by
  rw [jfl_s (x := 0) rfl, jdd_ue h]
theorem jdd_b {n : Nat} {sp0 en0 d0 : Nat → Int32} {i : Nat} (hi : i < 16) (hn : n ≤ 6) : jfl (fun k => if k < n then (12 : Int32) else 0) d0 16 i = jdd (jfl (fun k => if k < n then 12 else 0) sp0 6) (jfl (fun _ => 0) en0 6) 0 0 0 0 i := by
  unfold jfl jdd
  dsimp only
  rw [if_pos hi]
  by_cases h1 : i < 6
  · rw [if_pos h1, if_pos h1]
  · rw [if_neg h1, if_neg (show ¬ i < n by omega)]
    by_cases h2 : i < 12
    · rw [if_pos h2, if_pos (show i - 6 < 6 by omega)]
    · rw [if_neg h2]
      repeat' split
      all_goals rfl
/-! ===== the larder by the numbers ===== -/
/-- the class of a kind -/
def kcl (k : Nat) : Nat := if k = 0 then 3 else if k = 1 then 5 else if k = 2 then 0 else if k = 3 then 4 else 2
/-- the letter of a kind -/
def kch (k : Nat) : Int32 := if k = 0 then 106 else if k = 1 then 119 else if k = 2 then 99 else if k = 3 then 112 else 103
def jB (n : Nat) (jk : Nat → Nat) (jg js jm : Nat → Int32) (B : Nat → Int32) : Prop := B 0 = nI n ∧ ∀ j : Nat, j < n → ∃ k g s : Nat, k < 5 ∧ g < 10 ∧ s < 10 ∧ B (1 + j) = nI k ∧ B (7 + j) = nI g ∧ B (13 + j) = nI s ∧ jk j = kcl k ∧ jg j = nI g ∧ js j = nI s ∧ jm j = jmm (kcl k) (nI s)
theorem lkn : ∀ k : Nat, k < 5 → nI k = ckn (kcl k) := by decide +kernel
theorem lmm_t : ∀ k : Nat, k < 5 → ∀ s : Nat, s < 10 → ¬ k = 2 → ¬ k = 4 → jmm (kcl k) (nI s) = nI ((if 8 < s then 0 else if 5 < s then 1 else if 2 < s then 2 else 3) + (if k = 1 then 1 else 0)) := by decide +kernel
theorem lmm_v {k s v : Nat} (hk : k < 5) (hs : s < 10) (h2 : ¬ k = 2) (h4 : ¬ k = 4) (hv : v = (if 8 < s then 0 else if 5 < s then 1 else if 2 < s then 2 else 3) + (if k = 1 then 1 else 0)) : jmm (kcl k) (nI s) = nI v := by
  rw [hv]; exact lmm_t k hk s hs h2 h4
theorem lmm_0 {k : Nat} {s : Int32} (h : k = 2 ∨ k = 4) : jmm (kcl k) s = 0 := by rcases h with rfl | rfl <;> rfl
theorem lmo_0 {k : Nat} {s y : Int32} (h : k = 2 ∨ k = 4) : jmo (jmm (kcl k) s) y = 0 := by
  rw [lmm_0 h]
  unfold jmo
  rw [Int32.mul_zero]
  decide
theorem lmo_v {r v y : Int32} (h : r = v) : jmo r y = if v * y ≤ 20 then v * y else 20 := by
  rw [h]
  unfold jmo
  rw [Int32.mul_comm y v]
  exact jmn (v * y)
theorem l2m (v : Int32) : 2 * v = v + v := by
  apply Int32.toBitVec_inj.mp
  show (2 : BitVec 32) * v.toBitVec = v.toBitVec + v.toBitVec
  first | exact BitVec.two_mul | exact BitVec.two_mul _ | (rw [show (2 : BitVec 32) = 1 + 1 by decide, BitVec.add_mul, BitVec.one_mul])
theorem lfw {k : Nat} {g r y : Int32} (hk : k < 5) : cfw (kcl k) g r y = if k = 4 then (g - jmo r y) + (g - jmo r y) else if k = 3 ∧ y - y / 2 * 2 = 1 then g - jmo r y + 3 else g - jmo r y := by
  unfold cfw
  generalize jmo r y = o
  have c : k = 0 ∨ k = 1 ∨ k = 2 ∨ k = 3 ∨ k = 4 := by omega
  rcases c with e | e | e | e | e
  · rw [e, if_neg (show ¬ kcl 0 = 2 by decide), if_neg (show ¬ kcl 0 = 4 by decide), if_neg (by decide), if_neg (fun h => absurd h.1 (by decide))]
  · rw [e, if_neg (show ¬ kcl 1 = 2 by decide), if_neg (show ¬ kcl 1 = 4 by decide), if_neg (by decide), if_neg (fun h => absurd h.1 (by decide))]
  · rw [e, if_neg (show ¬ kcl 2 = 2 by decide), if_neg (show ¬ kcl 2 = 4 by decide), if_neg (by decide), if_neg (fun h => absurd h.1 (by decide))]
  · rw [e, if_neg (show ¬ kcl 3 = 2 by decide), if_pos (show kcl 3 = 4 by decide), if_neg (show ¬ (3 : Nat) = 4 by decide)]
    by_cases hy : y - y / 2 * 2 = 1
    · rw [if_pos hy, if_pos ⟨rfl, hy⟩]
    · rw [if_neg hy, if_neg (fun h => hy h.2), Int32.add_zero]
  · rw [e, if_pos (show kcl 4 = 2 by decide), if_pos rfl, l2m]
/-- jar i, in the numbers and in the text -/
def lJar (B T : Nat → Int32) (i : Nat) : Prop := ∃ k g s : Nat, k < 5 ∧ g < 10 ∧ s < 10 ∧ B (1 + i) = nI k ∧ B (7 + i) = nI g ∧ B (13 + i) = nI s ∧ T (4 * i) = kch k ∧ T (4 * i + 1) = nI (48 + g) ∧ T (4 * i + 2) = nI (48 + s) ∧ (0 < i → T (4 * i - 1) = 44)
theorem lJar.to {B T B' T' : Nat → Int32} {i : Nat} (h : lJar B T i) (b1 : B' (1 + i) = B (1 + i)) (b7 : B' (7 + i) = B (7 + i)) (b13 : B' (13 + i) = B (13 + i)) (ht : ∀ q : Nat, 4 * i ≤ q + 1 → q ≤ 4 * i + 2 → T' q = T q) : lJar B' T' i := by
  obtain ⟨k, g, s, a1, a2, a3, a4, a5, a6, a7, a8, a9, a10⟩ := h
  exact ⟨k, g, s, a1, a2, a3, b1.trans a4, b7.trans a5, b13.trans a6, (ht _ (by omega) (by omega)).trans a7, (ht _ (by omega) (by omega)).trans a8, (ht _ (by omega) (by omega)).trans a9, fun h => (ht _ (by omega) (by omega)).trans (a10 h)⟩
theorem lt_B {B : Nat → Int32} {j k g s i : Nat} (hj : j < 6) (hi : i < j) : upd (upd (upd B (1 + j) (nI k)) (7 + j) (nI g)) (13 + j) (nI s) (1 + i) = B (1 + i) ∧ upd (upd (upd B (1 + j) (nI k)) (7 + j) (nI g)) (13 + j) (nI s) (7 + i) = B (7 + i) ∧ upd (upd (upd B (1 + j) (nI k)) (7 + j) (nI g)) (13 + j) (nI s) (13 + i) = B (13 + i) := by
  refine ⟨?_, ?_, ?_⟩ <;> rw [pk_un (by omega), pk_un (by omega), pk_un (by omega)]
theorem lt_B0 {B : Nat → Int32} {j k g s n : Nat} (h : B 0 = nI n) : upd (upd (upd B (1 + j) (nI k)) (7 + j) (nI g)) (13 + j) (nI s) 0 = nI n := by
  rw [pk_un (by omega), pk_un (by omega), pk_un (by omega)]; exact h
theorem lt_N {B : Nat → Int32} {j k g s : Nat} : upd (upd (upd B (1 + j) (nI k)) (7 + j) (nI g)) (13 + j) (nI s) (1 + j) = nI k ∧ upd (upd (upd B (1 + j) (nI k)) (7 + j) (nI g)) (13 + j) (nI s) (7 + j) = nI g ∧ upd (upd (upd B (1 + j) (nI k)) (7 + j) (nI g)) (13 + j) (nI s) (13 + j) = nI s := by
  refine ⟨?_, ?_, ?_⟩
  · rw [pk_un (by omega), pk_un (by omega), pk_us]
  · rw [pk_un (by omega), pk_us]
  · rw [pk_us]
theorem lt_y {B T : Nat → Int32} {j k g s p : Nat} {ch : Int32} (hj : j < 6) (hp : p = 4 * j - 1) (h0 : 0 < j) (h : ∀ i : Nat, i < j → lJar B T i) (hk : k < 5) (hg : g < 10) (hs : s < 10) (hc : ch = kch k) : ∀ i : Nat, i < j + 1 → lJar (upd (upd (upd B (1 + j) (nI k)) (7 + j) (nI g)) (13 + j) (nI s)) (upd (upd (upd (upd T p 44) (p + 1) ch) (p + 2) (nI (48 + g))) (p + 3) (nI (48 + s))) i := by
  intro i hi
  by_cases e : i = j
  · subst e
    obtain ⟨n1, n2, n3⟩ := lt_N (B := B) (j := i) (k := k) (g := g) (s := s)
    refine ⟨k, g, s, hk, hg, hs, n1, n2, n3, ?_, ?_, ?_, fun _ => ?_⟩
    · rw [pk_un (by omega), pk_un (by omega), show 4 * i = p + 1 by omega, pk_us]; exact hc
    · rw [pk_un (by omega), show 4 * i + 1 = p + 2 by omega, pk_us]
    · rw [show 4 * i + 2 = p + 3 by omega, pk_us]
    · rw [pk_un (by omega), pk_un (by omega), pk_un (by omega), ← hp, pk_us]
  · obtain ⟨n1, n2, n3⟩ := lt_B (B := B) (k := k) (g := g) (s := s) hj (show i < j by omega)
    exact (h i (by omega)).to n1 n2 n3 (fun q h1 h2 => by rw [pk_un (by omega), pk_un (by omega), pk_un (by omega), pk_un (by omega)])
theorem lt_n {B T : Nat → Int32} {j k g s p : Nat} {ch : Int32} (hj : j = 0) (hp : p = 4 * j - 1) (hk : k < 5) (hg : g < 10) (hs : s < 10) (hc : ch = kch k) : ∀ i : Nat, i < j + 1 → lJar (upd (upd (upd B (1 + j) (nI k)) (7 + j) (nI g)) (13 + j) (nI s)) (upd (upd (upd T p ch) (p + 1) (nI (48 + g))) (p + 2) (nI (48 + s))) i := by
  intro i hi
  obtain rfl : i = j := by omega
  obtain ⟨n1, n2, n3⟩ := lt_N (B := B) (j := i) (k := k) (g := g) (s := s)
  refine ⟨k, g, s, hk, hg, hs, n1, n2, n3, ?_, ?_, ?_, fun h => absurd h (by omega)⟩
  · rw [pk_un (by omega), pk_un (by omega), show 4 * i = p by omega, pk_us]; exact hc
  · rw [pk_un (by omega), show 4 * i + 1 = p + 1 by omega, pk_us]
  · rw [show 4 * i + 2 = p + 2 by omega, pk_us]
theorem lch_t : ∀ k : Nat, k < 5 → 1 ≤ kch k ∧ kch k ≤ 126 ∧ jkl (kch k) = 1 ∧ jkk (kch k) = kcl k := by decide +kernel
theorem ldg_t : ∀ g : Nat, g < 10 → 1 ≤ nI (48 + g) ∧ nI (48 + g) ≤ 126 ∧ ¬ nI (48 + g) < 48 ∧ nI (48 + g) ≤ 57 ∧ nI (48 + g) - 48 = nI g := by decide +kernel
theorem lTx {n : Nat} {B T : Nat → Int32} (hn : n ≤ 6) (h : ∀ i : Nat, i < n → lJar B T i) {q : Nat} (hq : q < 4 * n - 1) : 1 ≤ T q ∧ T q ≤ 126 ∧ jft q (T q) = 1 := by
  have h23 : ¬ 23 ≤ q := by omega
  have c : q % 4 = 0 ∨ q % 4 = 1 ∨ q % 4 = 2 ∨ q % 4 = 3 := by omega
  rcases c with e | e | e | e
  · obtain ⟨k, g, s, a1, a2, a3, a4, a5, a6, a7, a8, a9, a10⟩ := h (q / 4) (by omega)
    rw [show 4 * (q / 4) = q by omega] at a7
    obtain ⟨t1, t2, t3, t4⟩ := lch_t k a1
    rw [a7]
    refine ⟨t1, t2, ?_⟩
    unfold jft
    rw [if_neg h23, if_pos e, t3]
  · obtain ⟨k, g, s, a1, a2, a3, a4, a5, a6, a7, a8, a9, a10⟩ := h (q / 4) (by omega)
    rw [show 4 * (q / 4) + 1 = q by omega] at a8
    obtain ⟨t1, t2, t3, t4, t5⟩ := ldg_t g a2
    rw [a8]
    refine ⟨t1, t2, ?_⟩
    unfold jft
    rw [if_neg h23, if_neg (by omega), if_neg (by omega), if_neg t3, if_pos t4]
  · obtain ⟨k, g, s, a1, a2, a3, a4, a5, a6, a7, a8, a9, a10⟩ := h (q / 4) (by omega)
    rw [show 4 * (q / 4) + 2 = q by omega] at a9
    obtain ⟨t1, t2, t3, t4, t5⟩ := ldg_t s a3
    rw [a9]
    refine ⟨t1, t2, ?_⟩
    unfold jft
    rw [if_neg h23, if_neg (by omega), if_neg (by omega), if_neg t3, if_pos t4]
  · obtain ⟨k, g, s, a1, a2, a3, a4, a5, a6, a7, a8, a9, a10⟩ := h (q / 4 + 1) (by omega)
    have a11 := a10 (by omega)
    rw [show 4 * (q / 4 + 1) - 1 = q by omega] at a11
    rw [a11]
    refine ⟨by decide, by decide, ?_⟩
    unfold jft
    rw [if_neg h23, if_neg (by omega), if_pos e, if_pos rfl]
theorem lfo {g : Nat → Int32} : ∀ k : Nat, (∀ i : Nat, i < k → g i = 1) → jfo g k = k
  | 0, _ => rfl
  | k + 1, h => jfo_go (lfo k (fun i hi => h i (by omega))) (by rw [h k (by omega)]; decide)
/-- the page holds the text: all of it fits -/
theorem lTf {n pn : Nat} {B T pg : Nat → Int32} (hn : n ≤ 6) (hp : pn = 4 * n - 1) (h : ∀ i : Nat, i < n → lJar B T i) : jfo (fun i => jft i (jfl T pg pn i)) pn = pn := by
  refine lfo pn (fun i hi => ?_)
  show jft i (if i < pn then T i else pg i) = 1
  rw [if_pos hi]
  exact (lTx hn h (by omega)).2.2
/-- the jars that are read are those of the numbers -/
theorem lTB {n pn : Nat} {B T pg : Nat → Int32} (hp : pn = 4 * n - 1) (h0 : B 0 = nI n) (h : ∀ i : Nat, i < n → lJar B T i) : jB n (fun i => jkk (jfl T pg pn (i * 4))) (fun i => jfl T pg pn (i * 4 + 1) - 48) (fun i => jfl T pg pn (i * 4 + 2) - 48) (fun i => jmm (jkk (jfl T pg pn (i * 4))) (jfl T pg pn (i * 4 + 2) - 48)) B := by
  refine ⟨h0, fun j hj => ?_⟩
  obtain ⟨k, g, s, a1, a2, a3, a4, a5, a6, a7, a8, a9, a10⟩ := h j hj
  have e0 : jfl T pg pn (j * 4) = kch k := by unfold jfl; rw [if_pos (by omega), show j * 4 = 4 * j by omega]; exact a7
  have e1 : jfl T pg pn (j * 4 + 1) = nI (48 + g) := by unfold jfl; rw [if_pos (by omega), show j * 4 = 4 * j by omega]; exact a8
  have e2 : jfl T pg pn (j * 4 + 2) = nI (48 + s) := by unfold jfl; rw [if_pos (by omega), show j * 4 = 4 * j by omega]; exact a9
  refine ⟨k, g, s, a1, a2, a3, a4, a5, a6, ?_, ?_, ?_, ?_⟩
  · show jkk (jfl T pg pn (j * 4)) = _
    rw [e0]; exact (lch_t k a1).2.2.2
  · show jfl T pg pn (j * 4 + 1) - 48 = _
    rw [e1]; exact (ldg_t g a2).2.2.2.2
  · show jfl T pg pn (j * 4 + 2) - 48 = _
    rw [e2]; exact (ldg_t s a3).2.2.2.2
  · show jmm (jkk (jfl T pg pn (j * 4))) (jfl T pg pn (j * 4 + 2) - 48) = _
    rw [e0, e2, (lch_t k a1).2.2.2, (ldg_t s a3).2.2.2.2]
/-! ===== when the first one is worth most ===== -/
/-- w is the first of the best of the places k .. 9 -/
def lWn (g : Nat → Int32) (k w : Nat) : Prop := k ≤ w ∧ w ≤ 9 ∧ (∀ a : Nat, k ≤ a → a ≤ 9 → g a ≤ g w) ∧ ∀ a : Nat, k ≤ a → a < w → ¬ g w ≤ g a
theorem lrf (x : Int32) : x ≤ x := by rw [fa_le]; exact Int.le_refl _
theorem lWn_0 (g : Nat → Int32) : lWn g 9 9 := ⟨Nat.le_refl _, Nat.le_refl _, fun a h1 h2 => by rw [show a = 9 by omega]; exact lrf _, fun a h1 h2 => absurd h2 (by omega)⟩
theorem lWn_y {g : Nat → Int32} {k w : Nat} (h : lWn g (k + 1) w) (c : ¬ g k < g w) : lWn g k k := by
  obtain ⟨h1, h2, h3, h4⟩ := h
  have c2 := jnlt c
  refine ⟨Nat.le_refl _, by omega, fun a a1 a2 => ?_, fun a a1 a2 => absurd a2 (by omega)⟩
  by_cases e : a = k
  · rw [e]; exact lrf _
  · have := h3 a (by omega) a2
    rw [fa_le] at *
    omega
theorem lWn_n {g : Nat → Int32} {k w : Nat} (h : lWn g (k + 1) w) (c : g k < g w) : lWn g k w := by
  obtain ⟨h1, h2, h3, h4⟩ := h
  refine ⟨by omega, h2, fun a a1 a2 => ?_, fun a a1 a2 => ?_⟩
  · by_cases e : a = k
    · rw [e]
      rw [fa_lt] at c
      rw [fa_le]
      omega
    · exact h3 a (by omega) a2
  · by_cases e : a = k
    · rw [e]
      exact fun h => jlt_le c h
    · exact h4 a (by omega) a2
theorem jyb_ge (g : Nat → Int32) : ∀ k a : Nat, a < k → g a ≤ g (jyb g k)
  | 0, a, h => absurd h (Nat.not_lt_zero _)
  | k + 1, a, h => by
    have ih := jyb_ge g k
    unfold jyb
    by_cases c : g k ≤ g (jyb g k)
    · rw [if_pos c]
      by_cases e : a = k
      · rw [e]; exact c
      · exact ih a (by omega)
    · rw [if_neg c]
      by_cases e : a = k
      · rw [e]; exact lrf _
      · have h1 := ih a (by omega)
        have h2 := jnle c
        rw [fa_le] at *
        rw [fa_lt] at h2
        omega
theorem jyb_first (g : Nat → Int32) : ∀ k a : Nat, a < jyb g k → ¬ g (jyb g k) ≤ g a
  | 0, a, h => absurd h (Nat.not_lt_zero _)
  | k + 1, a, h => by
    have ih := jyb_first g k
    have ig := jyb_ge g k
    unfold jyb at h ⊢
    by_cases c : g k ≤ g (jyb g k)
    · rw [if_pos c] at h ⊢
      exact ih a h
    · rw [if_neg c] at h ⊢
      have h1 := ig a h
      have h2 := jnle c
      intro h3
      rw [fa_le] at *
      rw [fa_lt] at h2
      omega
theorem jyb_lt (g : Nat → Int32) : ∀ k : Nat, jyb g (k + 1) < k + 1
  | 0 => by
    unfold jyb
    split
    · exact Nat.lt_succ_self _
    · exact Nat.lt_succ_self _
  | k + 1 => by
    have ih := jyb_lt g k
    unfold jyb
    split
    · omega
    · omega
theorem lWn_e {g : Nat → Int32} {w : Nat} (h : lWn g 0 w) : jyb g 10 = w := by
  obtain ⟨-, h2, h3, h4⟩ := h
  have l9 := jyb_lt g 9
  have g1 := jyb_ge g 10 w (by omega)
  have g2 := jyb_first g 10
  generalize jyb g 10 = v at *
  by_cases c1 : v < w
  · exact absurd g1 (h4 v (Nat.zero_le _) c1)
  · by_cases c2 : w < v
    · exact absurd (h3 v (Nat.zero_le _) (by omega)) (g2 w c2)
    · omega
/-! ===== times ===== -/
theorem jsd_l {q : Nat} (h : q < 2147483648) : lN q * 1103515245 + 12345 - (lN q * 1103515245 + 12345) / 2147483648 * 2147483648 = lN (jsd q) := by
  rw [show (1103515245 : Int64) = lN 1103515245 from rfl, show (12345 : Int64) = lN 12345 from rfl, show (2147483648 : Int64) = lN 2147483648 from rfl, lN_mul, lN_add, pk_lRem (by omega) (by decide) (by decide), Nat.mul_comm q]
  rfl
theorem ldr_eq {q n : Nat} (h : q < 2147483648) (h0 : 0 < n) (hn : n ≤ 6) : (lN q / 65536 - lN q / 65536 / (nI n).toInt64 * (nI n).toInt64).toInt32 = nI (q / 65536 % n) := by
  rw [← nI_l h]; exact jdr_eq h h0 hn
theorem lcst_y {fw : Nat → Int32 → Int32} {n q q1 t1 q2 t2 : Nat} {y jo : Int32} {us ue u1 : Nat → Int32} (hq1 : q1 = jsd q) (ht1 : t1 = q1 / 65536 % n) (hq2 : q2 = jsd q1) (ht2 : t2 = q2 / 65536 % n) (hu : u1 = if 0 < us t1 then upd us t1 (us t1 - 1) else us) (c : 0 < u1 t2) : cst fw n y (us, ue, jo, q) = (upd u1 t2 (u1 t2 - 1), jfl (fun _ => 0) (upd ue t2 (ue t2 + 1)) 6, jo + (fw t2 y - ue t2), q2) := by
  unfold cst
  dsimp only
  rw [← hq1, ← hq2, ← ht1, ← ht2, ← hu, if_pos c, if_pos c, if_pos c]
theorem lcst_n {fw : Nat → Int32 → Int32} {n q q1 t1 q2 t2 : Nat} {y jo : Int32} {us ue u1 : Nat → Int32} (hq1 : q1 = jsd q) (ht1 : t1 = q1 / 65536 % n) (hq2 : q2 = jsd q1) (ht2 : t2 = q2 / 65536 % n) (hu : u1 = if 0 < us t1 then upd us t1 (us t1 - 1) else us) (c : ¬ 0 < u1 t2) : cst fw n y (us, ue, jo, q) = (u1, jfl (fun _ => 0) ue 6, jo, q2) := by
  unfold cst
  dsimp only
  rw [← hq1, ← hq2, ← ht1, ← ht2, ← hu, if_neg c, if_neg c, if_neg c]
/-- alike as far as six jars -/
def lE (u v : (Nat → Int32) × (Nat → Int32) × Int32 × Nat) : Prop := (∀ i : Nat, i < 6 → u.1 i = v.1 i) ∧ (∀ i : Nat, i < 6 → u.2.1 i = v.2.1 i) ∧ u.2.2.1 = v.2.2.1 ∧ u.2.2.2 = v.2.2.2
theorem lE_up {f g : Nat → Int32} {t : Nat} {x z : Int32} (h : ∀ i : Nat, i < 6 → f i = g i) (e : x = z) : ∀ i : Nat, i < 6 → upd f t x i = upd g t z i := fun i hi => by
  by_cases c : i = t
  · rw [c, pk_us, pk_us, e]
  · rw [pk_un c, pk_un c]; exact h i hi
theorem lE_st {fw : Nat → Int32 → Int32} {n : Nat} {y : Int32} {u v : (Nat → Int32) × (Nat → Int32) × Int32 × Nat} (h0 : 0 < n) (h6 : n ≤ 6) (h : lE u v) : lE (cst fw n y u) (cst fw n y v) := by
  obtain ⟨us, ue, jo, q⟩ := u
  obtain ⟨vs, ve, jv, r⟩ := v
  obtain ⟨h1, h2, h3, h4⟩ := h
  dsimp only at h1 h2 h3 h4
  subst h3
  subst h4
  obtain ⟨q1, e1⟩ : ∃ z9 : Nat, z9 = jsd q := ⟨_, rfl⟩
  obtain ⟨q2, e2⟩ : ∃ z9 : Nat, z9 = jsd q1 := ⟨_, rfl⟩
  obtain ⟨t1, f1⟩ : ∃ z9 : Nat, z9 = q1 / 65536 % n := ⟨_, rfl⟩
  obtain ⟨t2, f2⟩ : ∃ z9 : Nat, z9 = q2 / 65536 % n := ⟨_, rfl⟩
  have l1 : t1 < 6 := by
    have := Nat.mod_lt (q1 / 65536) h0
    omega
  have l2 : t2 < 6 := by
    have := Nat.mod_lt (q2 / 65536) h0
    omega
  obtain ⟨u1, g1⟩ : ∃ z9 : Nat → Int32, z9 = if 0 < us t1 then upd us t1 (us t1 - 1) else us := ⟨_, rfl⟩
  obtain ⟨v1, g2⟩ : ∃ z9 : Nat → Int32, z9 = if 0 < vs t1 then upd vs t1 (vs t1 - 1) else vs := ⟨_, rfl⟩
  have hu : ∀ i : Nat, i < 6 → u1 i = v1 i := by
    rw [g1, g2, h1 t1 l1]
    by_cases c : 0 < vs t1
    · rw [if_pos c, if_pos c]; exact lE_up h1 rfl
    · rw [if_neg c, if_neg c]; exact h1
  by_cases c : 0 < v1 t2
  · rw [lcst_y e1 f1 e2 f2 g1 (by rw [hu t2 l2]; exact c), lcst_y e1 f1 e2 f2 g2 c]
    refine ⟨lE_up hu (by rw [hu t2 l2]), fun i hi => ?_, by dsimp only; rw [h2 t2 l2], rfl⟩
    dsimp only
    unfold jfl
    rw [if_pos hi, if_pos hi]
  · rw [lcst_n e1 f1 e2 f2 g1 (by rw [hu t2 l2]; exact c), lcst_n e1 f1 e2 f2 g2 c]
    refine ⟨hu, fun i hi => ?_, rfl, rfl⟩
    dsimp only
    unfold jfl
    rw [if_pos hi, if_pos hi]
theorem lE_ts {fw : Nat → Int32 → Int32} {n : Nat} {y : Int32} {u v : (Nat → Int32) × (Nat → Int32) × Int32 × Nat} (h0 : 0 < n) (h6 : n ≤ 6) (h : lE u v) : ∀ k : Nat, lE (cts fw n y u k) (cts fw n y v k)
  | 0 => h
  | k + 1 => lE_st h0 h6 (lE_ts h0 h6 h k)
theorem jsum_e {f g : Nat → Int32} : ∀ k : Nat, (∀ i : Nat, i < k → f i = g i) → jsum f k = jsum g k
  | 0, _ => rfl
  | k + 1, h => by
    unfold jsum
    rw [jsum_e k (fun i hi => h i (by omega)), h k (by omega)]
/-- the class's years and the law's -/
theorem ltm {fw : Nat → Int32 → Int32} {n q0 ys q z : Nat} {y jo wj wv : Int32} {sp en usp uen us ue vs ve : Nat → Int32} (h0 : 0 < n) (h6 : n ≤ 6) (h1 : cts fw n y (sp, en, jo, q0) ys = (us, ue, wj, q)) (h2 : cts fw n y (jfl sp usp 6, jfl en uen 6, jo, q0) ys = (vs, ve, wv, z)) : jsum vs 6 = jsum us 6 ∧ wv = wj ∧ z = q := by
  have h : lE (jfl sp usp 6, jfl en uen 6, jo, q0) (sp, en, jo, q0) := ⟨fun i hi => if_pos hi, fun i hi => if_pos hi, rfl, rfl⟩
  have e := lE_ts (fw := fw) (y := y) h0 h6 h ys
  rw [h1, h2] at e
  exact ⟨jsum_e 6 e.1, e.2.2.1, e.2.2.2⟩
