/-! ===== numbers ===== -/
theorem jtadd {x y : Int32} (h1 : -2147483648 ≤ x.toInt + y.toInt) (h2 : x.toInt + y.toInt < 2147483648) : (x + y).toInt = x.toInt + y.toInt := by
  rw [Int32.toInt_add, Int.bmod_def]; omega
theorem jtsub {x y : Int32} (h1 : -2147483648 ≤ x.toInt - y.toInt) (h2 : x.toInt - y.toInt < 2147483648) : (x - y).toInt = x.toInt - y.toInt := by
  rw [Int32.toInt_sub, Int.bmod_def]; omega
theorem jnat {x : Int32} {m : Nat} (h0 : 0 ≤ x.toInt) (h1 : x.toInt ≤ (m : Int)) : ∃ k : Nat, k ≤ m ∧ x = nI k := by
  obtain ⟨k, h, rfl⟩ := nI_of (x := x) (by rw [fa_lt]; exact Int.not_lt.mpr h0)
  rw [nI_toInt h] at h1
  exact ⟨k, by omega, rfl⟩
theorem jM6 : (-1000000 : Int32).toInt = -1000000 := by decide
theorem jN5 : (-99999 : Int32).toInt = -99999 := by decide
/-! ===== sums of spoons ===== -/
def jns (a : Nat → Nat) : Nat → Nat
  | 0 => 0
  | k + 1 => jns a k + a k
theorem jns_mono (a : Nat → Nat) (i : Nat) : ∀ d : Nat, jns a i ≤ jns a (i + d)
  | 0 => Nat.le_refl _
  | d + 1 => Nat.le_trans (jns_mono a i d) (Nat.le_add_right _ _)
theorem jns_le {a : Nat → Nat} {i j : Nat} (h : i ≤ j) : jns a i ≤ jns a j := by
  have h1 := jns_mono a i (j - i)
  rwa [show i + (j - i) = j by omega] at h1
theorem jns_12 {a : Nat → Nat} (h : ∀ i : Nat, a i ≤ 12) : ∀ k : Nat, jns a k ≤ 12 * k
  | 0 => Nat.le_refl _
  | k + 1 => by
    have h1 := jns_12 h k
    have h2 := h k
    show jns a k + a k ≤ _
    omega
theorem msum_n {R : Nat → Int32} {a : Nat → Nat} : ∀ n : Nat, (∀ i : Nat, i < n → R (5 * i + 3) = nI (a i)) → msum R n = nI (jns a n)
  | 0, _ => rfl
  | n + 1, h => by
    unfold msum
    rw [msum_n n (fun i hi => h i (by omega)), h n (by omega), nI_add]
    rfl
/-! ===== the first place ===== -/
theorem cfp_lo {f : Nat → Int32} {t : Int32} : ∀ m : Nat, (∀ k : Nat, k < m → ¬ f k = t) → cfp f t m = m
  | 0, _ => rfl
  | m + 1, h => cfp_n (cfp_lo m (fun k hk => h k (by omega))) (h m (by omega))
theorem jpick {F F' : Nat → Int32} {t : Int32} {lf : Nat} (h : ∀ k : Nat, k ≤ lf → (F k = t ↔ F' k = t)) (hex : ∃ k : Nat, k ≤ lf ∧ F' k = t) :
    cfp F t lf = cfp F' t (lf + 1) ∧ F' (cfp F' t (lf + 1)) = t ∧ cfp F' t (lf + 1) ≤ lf := by
  obtain ⟨k0, ⟨h1, h2⟩, h3⟩ := pk_least (fun k => k ≤ lf ∧ F' k = t) hex
  have h4 : ∀ k : Nat, k < k0 → ¬ F' k = t := fun k hk e => h3 k hk ⟨by omega, e⟩
  have h5 : cfp F' t (lf + 1) = k0 := cfp_y (cfp_lo k0 h4) h2 (lf + 1) (by omega)
  have h6 : ∀ k : Nat, k < k0 → ¬ F k = t := fun k hk e => h4 k hk ((h k (by omega)).mp e)
  have h7 : cfp F t lf = k0 := by
    rcases Nat.lt_or_ge k0 lf with h8 | h8
    · exact cfp_y (cfp_lo k0 h6) ((h k0 h1).mpr h2) lf h8
    · have e : lf = k0 := by omega
      subst e
      exact cfp_lo lf h6
  exact ⟨h7.trans h5.symm, by rw [h5]; exact h2, by rw [h5]; exact h1⟩
/-! ===== the most ===== -/
theorem cmf_p (f : Nat → Int32) : ∀ m : Nat, (cmf f m = -1000000 ∨ ∃ k : Nat, k < m ∧ cmf f m = f k) ∧ (∀ k : Nat, k < m → (f k).toInt ≤ (cmf f m).toInt) ∧ (-1000000 : Int) ≤ (cmf f m).toInt
  | 0 => ⟨Or.inl rfl, fun k h => absurd h (Nat.not_lt_zero _), by show (-1000000 : Int) ≤ (-1000000 : Int32).toInt; rw [jM6]; omega⟩
  | m + 1 => by
    obtain ⟨h1, h2, h3⟩ := cmf_p f m
    unfold cmf
    by_cases c : cmf f m < f m
    · rw [if_pos c]
      rw [fa_lt] at c
      refine ⟨Or.inr ⟨m, by omega, rfl⟩, fun k hk => ?_, by omega⟩
      rcases Nat.lt_or_ge k m with h | h
      · have := h2 k h
        omega
      · have e : k = m := by omega
        subst e
        exact Int.le_refl _
    · rw [if_neg c]
      rw [fa_lt] at c
      refine ⟨h1.imp id (fun ⟨k, a, b⟩ => ⟨k, by omega, b⟩), fun k hk => ?_, h3⟩
      rcases Nat.lt_or_ge k m with h | h
      · exact h2 k h
      · have e : k = m := by omega
        subst e
        omega
theorem mdm_p (f : Nat → Int32) : ∀ m : Nat, (mdm f m = -99999 ∨ ∃ k : Nat, k < m ∧ mdm f m = f k) ∧ (∀ k : Nat, k < m → (f k).toInt ≤ (mdm f m).toInt) ∧ (-99999 : Int) ≤ (mdm f m).toInt
  | 0 => ⟨Or.inl rfl, fun k h => absurd h (Nat.not_lt_zero _), by show (-99999 : Int) ≤ (-99999 : Int32).toInt; rw [jN5]; omega⟩
  | m + 1 => by
    obtain ⟨h1, h2, h3⟩ := mdm_p f m
    unfold mdm
    by_cases c : f m ≤ mdm f m
    · rw [if_pos c]
      rw [fa_le] at c
      refine ⟨h1.imp id (fun ⟨k, a, b⟩ => ⟨k, by omega, b⟩), fun k hk => ?_, h3⟩
      rcases Nat.lt_or_ge k m with h | h
      · exact h2 k h
      · have e : k = m := by omega
        subst e
        exact c
    · rw [if_neg c]
      rw [fa_le] at c
      refine ⟨Or.inr ⟨m, by omega, rfl⟩, fun k hk => ?_, by omega⟩
      rcases Nat.lt_or_ge k m with h | h
      · have := h2 k h
        omega
      · have e : k = m := by omega
        subst e
        exact Int.le_refl _
theorem cmf_c {f g : Nat → Int32} : ∀ m : Nat, (∀ k : Nat, k < m → f k = g k) → cmf f m = cmf g m
  | 0, _ => rfl
  | m + 1, h => by
    unfold cmf
    rw [cmf_c m (fun k hk => h k (by omega)), h m (by omega)]
theorem mdm_c {f g : Nat → Int32} : ∀ m : Nat, (∀ k : Nat, k < m → f k = g k) → mdm f m = mdm g m
  | 0, _ => rfl
  | m + 1, h => by
    unfold mdm
    rw [mdm_c m (fun k hk => h k (by omega)), h m (by omega)]
/-! ===== a row of both tables ===== -/
def jRowAt (a : Nat → Nat) (n : Nat) (T T' : Nat → Int32) (j s : Nat) : Prop :=
  (s + jns a j ≤ jns a n → T (j * 13 + s) = T' (13 * j + s) ∧ -(700 * ((n - j : Nat) : Int)) ≤ (T' (13 * j + s)).toInt ∧ (T' (13 * j + s)).toInt ≤ 700 * ((n - j : Nat) : Int)) ∧
  (¬ s + jns a j ≤ jns a n → T (j * 13 + s) = -1000000 ∧ (-99999 : Int) ≤ (T' (13 * j + s)).toInt ∧ (T' (13 * j + s)).toInt ≤ -99999 + 700 * ((n - j : Nat) : Int))
def jOk (a : Nat → Nat) (n j s k : Nat) : Prop := k ≤ a j ∧ (s - k) + jns a (j + 1) ≤ jns a n
/-- what so many of jar j are worth with the best of the rest, on both sides -/
def jBoth (a : Nat → Nat) (n j s : Nat) (F F' : Nat → Int32) : Prop := ∀ k : Nat, k ≤ s →
  (jOk a n j s k → F k = F' k ∧ -(700 * ((n - j : Nat) : Int)) ≤ (F' k).toInt ∧ (F' k).toInt ≤ 700 * ((n - j : Nat) : Int)) ∧
  (¬ jOk a n j s k → F k = -1000000 ∧ (F' k).toInt ≤ -99999 + 700 * ((n - j : Nat) : Int))
theorem jOk_pos {a : Nat → Nat} {n j s k : Nat} (hk : k ≤ s) (h : jOk a n j s k) : s + jns a j ≤ jns a n := by
  obtain ⟨h1, h2⟩ := h
  have h3 : jns a (j + 1) = jns a j + a j := rfl
  omega
theorem jOk_ex {a : Nat → Nat} {n j s : Nat} (hj : j < n) (h : s + jns a j ≤ jns a n) : ∃ k : Nat, k ≤ s ∧ jOk a n j s k := by
  have h3 : jns a (j + 1) = jns a j + a j := rfl
  have h4 : jns a (j + 1) ≤ jns a n := jns_le (by omega)
  rcases Nat.lt_or_ge (a j) s with h5 | h5
  · exact ⟨a j, by omega, Nat.le_refl _, by omega⟩
  · exact ⟨s, Nat.le_refl _, h5, by omega⟩
/-- the most is met, in both -/
theorem jmet {a : Nat → Nat} {n j s : Nat} {F F' : Nat → Int32} (hj : j < n) (hn : n ≤ 6) (hB : jBoth a n j s F F') (hp : s + jns a j ≤ jns a n) :
    cmf F (s + 1) = mdm F' (s + 1) ∧ -(700 * ((n - j : Nat) : Int)) ≤ (mdm F' (s + 1)).toInt ∧ (mdm F' (s + 1)).toInt ≤ 700 * ((n - j : Nat) : Int) ∧ ∃ k : Nat, k ≤ s ∧ F' k = mdm F' (s + 1) := by
  obtain ⟨k0, hk0, ho0⟩ := jOk_ex hj hp
  obtain ⟨e0, l0, u0⟩ := (hB k0 hk0).1 ho0
  obtain ⟨c1, c2, c3⟩ := cmf_p F (s + 1)
  obtain ⟨m1, m2, m3⟩ := mdm_p F' (s + 1)
  have hd : ((n - j : Nat) : Int) ≤ 6 := by omega
  have hd0 : (0 : Int) ≤ ((n - j : Nat) : Int) := by omega
  have cF := c2 k0 (by omega)
  rw [e0] at cF
  have mF := m2 k0 (by omega)
  obtain ⟨k1, hk1, ek1⟩ : ∃ k : Nat, k < s + 1 ∧ cmf F (s + 1) = F k := by
    rcases c1 with c1 | c1
    · rw [c1, jM6] at cF; omega
    · exact c1
  obtain ⟨k2, hk2, ek2⟩ : ∃ k : Nat, k < s + 1 ∧ mdm F' (s + 1) = F' k := by
    rcases m1 with m1 | m1
    · rw [m1, jN5] at mF; omega
    · exact m1
  have o1 : jOk a n j s k1 := by
    refine Classical.byContradiction (fun h => ?_)
    have h9 := ((hB k1 (by omega)).2 h).1
    rw [ek1, h9, jM6] at cF
    omega
  have o2 : jOk a n j s k2 := by
    refine Classical.byContradiction (fun h => ?_)
    have h9 := ((hB k2 (by omega)).2 h).2
    rw [ek2] at mF
    omega
  obtain ⟨e1, l1, u1⟩ := (hB k1 (by omega)).1 o1
  obtain ⟨e2, l2, u2⟩ := (hB k2 (by omega)).1 o2
  have g1 := m2 k1 hk1
  have g2 := c2 k2 hk2
  rw [e2, ← ek2] at g2
  rw [← e1, ← ek1] at g1
  refine ⟨(fa_eq _ _).mpr (by omega), by rw [ek2]; exact l2, by rw [ek2]; exact u2, k2, by omega, ek2.symm⟩
theorem jrow_step {a : Nat → Nat} {n j s : Nat} {T T' F F' : Nat → Int32} (hj : j < n) (hn : n ≤ 6) (hB : jBoth a n j s F F') (hT : T (j * 13 + s) = cmf F (s + 1)) (hT' : T' (13 * j + s) = mdm F' (s + 1)) : jRowAt a n T T' j s := by
  refine ⟨fun hp => ?_, fun hp => ?_⟩
  · obtain ⟨h1, h2, h3, -⟩ := jmet hj hn hB hp
    rw [hT, hT']
    exact ⟨h1, h2, h3⟩
  · have hno : ∀ k : Nat, k ≤ s → ¬ jOk a n j s k := fun k hk h => hp (jOk_pos hk h)
    obtain ⟨c1, c2, c3⟩ := cmf_p F (s + 1)
    obtain ⟨m1, m2, m3⟩ := mdm_p F' (s + 1)
    rw [hT, hT']
    refine ⟨?_, m3, ?_⟩
    · rcases c1 with c1 | ⟨k, hk, c1⟩
      · exact c1
      · rw [c1]; exact ((hB k (by omega)).2 (hno k (by omega))).1
    · rcases m1 with m1 | ⟨k, hk, m1⟩
      · rw [m1, jN5]; omega
      · rw [m1]; exact ((hB k (by omega)).2 (hno k (by omega))).2
/-! ===== what so many of a jar are worth ===== -/
def jvl (v : Int32) (k : Nat) : Int32 := nI k * v - nI k * (nI k - 1) / 2
theorem jvl_t : ∀ k : Nat, k < 13 → ∀ q : Nat, q < 83 → -700 ≤ (jvl (nI q - 52) k).toInt ∧ (jvl (nI q - 52) k).toInt ≤ 700 := by decide +kernel
theorem jvl_b {v : Int32} (h1 : -52 ≤ v.toInt) (h2 : v.toInt ≤ 30) {k : Nat} (hk : k < 13) : -700 ≤ (jvl v k).toInt ∧ (jvl v k).toInt ≤ 700 := by
  have e52 : (52 : Int32).toInt = 52 := by decide
  have h3 : (v + 52).toInt = v.toInt + 52 := by rw [jtadd, e52] <;> rw [e52] <;> omega
  obtain ⟨q, hq, e⟩ := jnat (x := v + 52) (m := 82) (by omega) (by omega)
  have e2 : v = nI q - 52 := by rw [← e, Int32.add_sub_cancel]
  rw [e2]
  exact jvl_t k hk q (by omega)
theorem jboth {a : Nat → Nat} {n j s : Nat} {T T' W sp R : Nat → Int32} {y : Int32} (hj : j < n) (hn : n ≤ 6) (hs : s < 13) (hrow : ∀ s : Nat, s < 13 → jRowAt a n T T' (j + 1) s)
    (hsp : sp j = nI (a j)) (ha : a j ≤ 12) (hR3 : R (5 * j + 3) = nI (a j)) (hW : W j = mfi R j y - R (5 * j + 4)) (hv1 : -52 ≤ (mfi R j y - R (5 * j + 4)).toInt) (hv2 : (mfi R j y - R (5 * j + 4)).toInt ≤ 30) :
    jBoth a n j s (cww W sp T j s) (fun c => mwo R y j c + T' (13 * (j + 1) + s - c)) := by
  intro k hk
  have hv := jvl_b hv1 hv2 (k := k) (by omega)
  obtain ⟨r1, r2⟩ := hrow (s - k) (by omega)
  have e13 : 13 * (j + 1) + s - k = 13 * (j + 1) + (s - k) := by omega
  have hd : ((n - (j + 1) : Nat) : Int) = ((n - j : Nat) : Int) - 1 := by omega
  have hd6 : ((n - j : Nat) : Int) ≤ 6 := by omega
  have hd1 : (1 : Int) ≤ ((n - j : Nat) : Int) := by omega
  rw [hd] at r1 r2
  generalize ((n - j : Nat) : Int) = d at *
  have hwo : k ≤ a j → mwo R y j k = jvl (mfi R j y - R (5 * j + 4)) k := fun h => by
    unfold mwo
    rw [if_pos (by rw [hR3]; exact (nI_leI (by omega) (by omega)).mpr h)]
    rfl
  have hwn : ¬ k ≤ a j → mwo R y j k = -99999 := fun h => by
    unfold mwo
    rw [if_neg (by rw [hR3]; exact fun h9 => h ((nI_leI (by omega) (by omega)).mp h9))]
  have hlt : sp j < nI k ↔ ¬ k ≤ a j := by
    rw [hsp, nI_ltI (by omega) (by omega)]
    omega
  refine ⟨fun ho => ?_, fun ho => ?_⟩
  · obtain ⟨h1, h2⟩ := ho
    obtain ⟨t1, t2, t3⟩ := r1 h2
    have hne : ¬ T ((j + 1) * 13 + (s - k)) = -1000000 := fun e => by
      rw [← t1, e, jM6] at t2
      omega
    have ea : (jvl (mfi R j y - R (5 * j + 4)) k + T' (13 * (j + 1) + (s - k))).toInt = (jvl (mfi R j y - R (5 * j + 4)) k).toInt + (T' (13 * (j + 1) + (s - k))).toInt := jtadd (by omega) (by omega)
    dsimp only
    rw [e13, hwo h1]
    refine ⟨?_, by rw [ea]; omega, by rw [ea]; omega⟩
    unfold cww
    rw [if_neg (fun h => h.elim (fun h9 => hlt.mp h9 h1) hne), hW, t1]
    rfl
  · dsimp only
    rw [e13]
    by_cases h1 : k ≤ a j
    · have h2 : ¬ (s - k) + jns a (j + 1) ≤ jns a n := fun h => ho ⟨h1, h⟩
      obtain ⟨t1, t2, t3⟩ := r2 h2
      have ea : (jvl (mfi R j y - R (5 * j + 4)) k + T' (13 * (j + 1) + (s - k))).toInt = (jvl (mfi R j y - R (5 * j + 4)) k).toInt + (T' (13 * (j + 1) + (s - k))).toInt := jtadd (by omega) (by omega)
      rw [hwo h1]
      refine ⟨?_, by rw [ea]; omega⟩
      unfold cww
      rw [if_pos (Or.inr t1)]
    · rw [hwn h1]
      have hb : -99999 ≤ (T' (13 * (j + 1) + (s - k))).toInt ∧ (T' (13 * (j + 1) + (s - k))).toInt ≤ 700 * (d - 1) := by
        by_cases h2 : (s - k) + jns a (j + 1) ≤ jns a n
        · obtain ⟨t1, t2, t3⟩ := r1 h2
          exact ⟨by omega, t3⟩
        · obtain ⟨t1, t2, t3⟩ := r2 h2
          exact ⟨t2, by omega⟩
      have ea : ((-99999 : Int32) + T' (13 * (j + 1) + (s - k))).toInt = (-99999 : Int32).toInt + (T' (13 * (j + 1) + (s - k))).toInt := jtadd (by rw [jN5]; omega) (by rw [jN5]; omega)
      refine ⟨?_, by rw [ea, jN5]; omega⟩
      unfold cww
      rw [if_pos (Or.inl (hlt.mpr h1))]
/-! ===== the class's table, row by row ===== -/
theorem cww_c {nw nw' sp M M' : Nat → Int32} {j s k : Nat} (h1 : nw j = nw' j) (h2 : M ((j + 1) * 13 + (s - k)) = M' ((j + 1) * 13 + (s - k))) : cww nw sp M j s k = cww nw' sp M' j s k := by
  unfold cww
  rw [h1, h2]
theorem cfr_out {nw sp M : Nat → Int32} {j : Nat} : ∀ (k x : Nat), (x < j * 13 ∨ j * 13 + k ≤ x) → cfr nw sp M j k x = M x
  | 0, _, _ => rfl
  | k + 1, x, h => by
    unfold cfr
    rw [pk_un (by omega)]
    exact cfr_out k x (by omega)
theorem cfr_in {nw sp M : Nat → Int32} {j : Nat} : ∀ k : Nat, k ≤ 13 → ∀ s : Nat, s < k → cfr nw sp M j k (j * 13 + s) = cmf (cww nw sp M j s) (s + 1)
  | 0, _, _, h => absurd h (Nat.not_lt_zero _)
  | k + 1, hk, s, h => by
    unfold cfr
    by_cases e : s = k
    · subst e
      rw [pk_us]
      exact cmf_c _ (fun c hc => cww_c rfl (cfr_out s _ (by omega)))
    · rw [pk_un (by omega)]
      exact cfr_in k (by omega) s (by omega)
theorem cf0_at {M : Nat → Int32} {n : Nat} : ∀ k s : Nat, s < k → cf0 M n k (n * 13 + s) = if s = 0 then 0 else -1000000
  | 0, _, h => absurd h (Nat.not_lt_zero _)
  | k + 1, s, h => by
    unfold cf0
    by_cases e : s = k
    · subst e; rw [pk_us]
    · rw [pk_un (by omega)]; exact cf0_at k s (by omega)
theorem cfl_rows {g sp M nw : Nat → Int32} {n : Nat} : ∀ d : Nat, d ≤ n →
    (∀ s : Nat, s < 13 → (cfl g sp M nw n d).1 (n * 13 + s) = if s = 0 then 0 else -1000000) ∧ (∀ j : Nat, n - d ≤ j → j < n → (cfl g sp M nw n d).2 j = g j) ∧
    (∀ j : Nat, n - d ≤ j → j < n → ∀ s : Nat, s < 13 → (cfl g sp M nw n d).1 (j * 13 + s) = cmf (cww (cfl g sp M nw n d).2 sp (cfl g sp M nw n d).1 j s) (s + 1))
  | 0, _ => ⟨fun s hs => cf0_at 13 s hs, fun j h1 h2 => absurd h2 (by omega), fun j h1 h2 => absurd h2 (by omega)⟩
  | d + 1, hd => by
    obtain ⟨i1, i2, i3⟩ := cfl_rows (g := g) (sp := sp) (M := M) (nw := nw) (n := n) d (by omega)
    obtain ⟨j0, hj0⟩ : ∃ z : Nat, z = n - (d + 1) := ⟨_, rfl⟩
    obtain ⟨Md, hMd⟩ : ∃ z : Nat → Int32, z = (cfl g sp M nw n d).1 := ⟨_, rfl⟩
    obtain ⟨Wd, hWd⟩ : ∃ z : Nat → Int32, z = (cfl g sp M nw n d).2 := ⟨_, rfl⟩
    have e1 : (cfl g sp M nw n (d + 1)).1 = cfr (upd Wd j0 (g j0)) sp Md j0 13 := by rw [hj0, hMd, hWd]; rfl
    have e2 : (cfl g sp M nw n (d + 1)).2 = upd Wd j0 (g j0) := by rw [hj0, hWd]; rfl
    rw [e1, e2]
    rw [← hMd, ← hWd] at i3
    rw [← hMd] at i1
    rw [← hWd] at i2
    refine ⟨fun s hs => ?_, fun j h1 h2 => ?_, fun j h1 h2 s hs => ?_⟩
    · rw [cfr_out 13 _ (by omega)]; exact i1 s hs
    · by_cases e : j = j0
      · rw [e, pk_us]
      · rw [pk_un e]; exact i2 j (by omega) h2
    · by_cases e : j = j0
      · rw [e, cfr_in 13 (Nat.le_refl _) s hs]
        exact cmf_c _ (fun c hc => cww_c rfl (cfr_out 13 _ (by omega)).symm)
      · rw [cfr_out 13 _ (by omega), i3 j (by omega) h2 s hs]
        exact cmf_c _ (fun c hc => cww_c (pk_un e).symm (cfr_out 13 _ (by omega)).symm)
/-! ===== the reference's table, row by row ===== -/
theorem mdr_out {wo : Nat → Nat → Int32} {T : Nat → Int32} {j : Nat} : ∀ (k x : Nat), (x < 13 * j ∨ 13 * j + k ≤ x) → mdr wo T j k x = T x
  | 0, _, _ => rfl
  | k + 1, x, h => by
    unfold mdr
    rw [pk_un (by omega)]
    exact mdr_out k x (by omega)
theorem mdr_in {wo : Nat → Nat → Int32} {T : Nat → Int32} {j : Nat} : ∀ k : Nat, k ≤ 13 → ∀ s : Nat, s < k → mdr wo T j k (13 * j + s) = mdm (fun c => wo j c + T (13 * (j + 1) + s - c)) (s + 1)
  | 0, _, _, h => absurd h (Nat.not_lt_zero _)
  | k + 1, hk, s, h => by
    unfold mdr
    by_cases e : s = k
    · subst e
      rw [pk_us]
      exact mdm_c _ (fun c hc => by first | rw [mdr_out s _ (by omega)] | (dsimp only; rw [mdr_out s _ (by omega)]))
    · rw [pk_un (by omega)]
      exact mdr_in k (by omega) s (by omega)
theorem md0_at {T : Nat → Int32} {n : Nat} : ∀ k s : Nat, s < k → md0 T n k (13 * n + s) = if s = 0 then 0 else -99999
  | 0, _, h => absurd h (Nat.not_lt_zero _)
  | k + 1, s, h => by
    unfold md0
    by_cases e : s = k
    · subst e; rw [pk_us]
    · rw [pk_un (by omega)]; exact md0_at k s (by omega)
theorem mdl_rows {wo : Nat → Nat → Int32} {T : Nat → Int32} {n : Nat} : ∀ d : Nat, d ≤ n →
    (∀ s : Nat, s < 13 → mdl wo T n d (13 * n + s) = if s = 0 then 0 else -99999) ∧
    (∀ j : Nat, n - d ≤ j → j < n → ∀ s : Nat, s < 13 → mdl wo T n d (13 * j + s) = mdm (fun c => wo j c + mdl wo T n d (13 * (j + 1) + s - c)) (s + 1))
  | 0, _ => ⟨fun s hs => md0_at 13 s hs, fun j h1 h2 => absurd h2 (by omega)⟩
  | d + 1, hd => by
    obtain ⟨i1, i3⟩ := mdl_rows (wo := wo) (T := T) (n := n) d (by omega)
    obtain ⟨j0, hj0⟩ : ∃ z : Nat, z = n - (d + 1) := ⟨_, rfl⟩
    obtain ⟨Td, hTd⟩ : ∃ z : Nat → Int32, z = mdl wo T n d := ⟨_, rfl⟩
    have e1 : mdl wo T n (d + 1) = mdr wo Td j0 13 := by rw [hj0, hTd]; rfl
    rw [e1]
    rw [← hTd] at i1 i3
    refine ⟨fun s hs => ?_, fun j h1 h2 s hs => ?_⟩
    · rw [mdr_out 13 _ (by omega)]; exact i1 s hs
    · by_cases e : j = j0
      · rw [e, mdr_in 13 (Nat.le_refl _) s hs]
        exact mdm_c _ (fun c hc => by first | rw [mdr_out 13 _ (by omega)] | (dsimp only; rw [mdr_out 13 _ (by omega)]))
      · rw [mdr_out 13 _ (by omega), i3 j (by omega) h2 s hs]
        exact mdm_c _ (fun c hc => by first | rw [mdr_out 13 _ (by omega)] | (dsimp only; rw [mdr_out 13 _ (by omega)]))
theorem mcu_at {wo : Nat → Nat → Int32} {T C : Nat → Int32} {s j : Nat} : ∀ m : Nat, j < m → mcu wo T s C m j = nI (mpk wo T j (mpl wo T s j))
  | 0, h => absurd h (Nat.not_lt_zero _)
  | m + 1, h => by
    unfold mcu
    by_cases e : j = m
    · subst e; rw [pk_us]
    · rw [pk_un e]; exact mcu_at m (by omega)
/-! ===== both tables ===== -/
section BB
variable {a : Nat → Nat} {n : Nat} {sp R W T T' : Nat → Int32} {y : Int32}
/-- both tables have their rows -/
def jTabs (a : Nat → Nat) (n : Nat) (sp R W T T' : Nat → Int32) (y : Int32) : Prop :=
  (∀ s : Nat, s < 13 → T (n * 13 + s) = if s = 0 then 0 else -1000000) ∧ (∀ j : Nat, j < n → ∀ s : Nat, s < 13 → T (j * 13 + s) = cmf (cww W sp T j s) (s + 1)) ∧
  (∀ s : Nat, s < 13 → T' (13 * n + s) = if s = 0 then 0 else -99999) ∧ (∀ j : Nat, j < n → ∀ s : Nat, s < 13 → T' (13 * j + s) = mdm (fun c => mwo R y j c + T' (13 * (j + 1) + s - c)) (s + 1)) ∧
  (∀ j : Nat, j < n → sp j = nI (a j) ∧ a j ≤ 12 ∧ R (5 * j + 3) = nI (a j) ∧ W j = mfi R j y - R (5 * j + 4) ∧ -52 ≤ (mfi R j y - R (5 * j + 4)).toInt ∧ (mfi R j y - R (5 * j + 4)).toInt ≤ 30)
theorem jtab_rows (hn : n ≤ 6) (h : jTabs a n sp R W T T' y) : ∀ d : Nat, d ≤ n → ∀ s : Nat, s < 13 → jRowAt a n T T' (n - d) s := by
  obtain ⟨h1, h2, h3, h4, h5⟩ := h
  intro d
  induction d with
  | zero =>
    intro _ s hs
    have e : n - 0 = n := rfl
    rw [e]
    refine ⟨fun hp => ?_, fun hp => ?_⟩
    · have e0 : s = 0 := by omega
      rw [h1 s hs, h3 s hs, if_pos e0, if_pos e0]
      have ez : (0 : Int32).toInt = 0 := by decide
      rw [ez]
      exact ⟨rfl, by omega, by omega⟩
    · have e0 : ¬ s = 0 := by omega
      rw [h1 s hs, h3 s hs, if_neg e0, if_neg e0, jN5]
      exact ⟨rfl, by omega, by omega⟩
  | succ d ih =>
    intro hd s hs
    obtain ⟨j, hj⟩ : ∃ z : Nat, z = n - (d + 1) := ⟨_, rfl⟩
    have ej : n - d = j + 1 := by omega
    have hr := ih (by omega)
    rw [ej] at hr
    rw [← hj]
    obtain ⟨q1, q2, q3, q4, q5, q6⟩ := h5 j (by omega)
    exact jrow_step (by omega) hn (jboth (by omega) hn hs hr q1 q2 q3 q4 q5 q6) (h2 j (by omega) s hs) (h4 j (by omega) s hs)
theorem jtab_at (hn : n ≤ 6) (h : jTabs a n sp R W T T' y) {j s : Nat} (hj : j ≤ n) (hs : s < 13) : jRowAt a n T T' j s := by
  have h1 := jtab_rows hn h (n - j) (by omega) s hs
  rwa [show n - (n - j) = j by omega] at h1
theorem jpicks (hn : n ≤ 6) (h : jTabs a n sp R W T T' y) {s9 : Nat} (hs : s9 < 13) (hp : s9 ≤ jns a n) : ∀ i : Nat, i ≤ n →
    cpl W sp T s9 i = mpl (mwo R y) T' s9 i ∧ mpl (mwo R y) T' s9 i ≤ s9 ∧ mpl (mwo R y) T' s9 i + jns a i ≤ jns a n ∧
    (i < n → cfp (cww W sp T i (cpl W sp T s9 i)) (T (i * 13 + cpl W sp T s9 i)) (cpl W sp T s9 i) = mpk (mwo R y) T' i (mpl (mwo R y) T' s9 i) ∧
      ∃ k0 : Nat, k0 ≤ mpl (mwo R y) T' s9 i ∧ mwo R y i k0 + T' (13 * (i + 1) + mpl (mwo R y) T' s9 i - k0) = T' (13 * i + mpl (mwo R y) T' s9 i)) := by
  have key : ∀ (i l : Nat), i < n → l ≤ s9 → l + jns a i ≤ jns a n →
      cfp (cww W sp T i l) (T (i * 13 + l)) l = mpk (mwo R y) T' i l ∧ (∃ k0 : Nat, k0 ≤ l ∧ mwo R y i k0 + T' (13 * (i + 1) + l - k0) = T' (13 * i + l)) ∧ mpk (mwo R y) T' i l ≤ l ∧ (l - mpk (mwo R y) T' i l) + jns a (i + 1) ≤ jns a n := by
    intro i l hi hl hpl
    obtain ⟨q1, q2, q3, q4, q5, q6⟩ := h.2.2.2.2 i hi
    have hB := jboth (j := i) (s := l) hi hn (by omega) (fun s hs => jtab_at hn h (by omega) hs) q1 q2 q3 q4 q5 q6
    obtain ⟨m1, m2, m3, k2, hk2, m4⟩ := jmet hi hn hB hpl
    have eT : T (i * 13 + l) = mdm (fun c => mwo R y i c + T' (13 * (i + 1) + l - c)) (l + 1) := (h.2.1 i hi l (by omega)).trans m1
    have eT' : T' (13 * i + l) = mdm (fun c => mwo R y i c + T' (13 * (i + 1) + l - c)) (l + 1) := h.2.2.2.1 i hi l (by omega)
    rw [eT]
    unfold mpk
    rw [eT']
    have hd6 : ((n - i : Nat) : Int) ≤ 6 := by omega
    have hd0 : (0 : Int) ≤ ((n - i : Nat) : Int) := by omega
    generalize hF : (fun c => mwo R y i c + T' (13 * (i + 1) + l - c)) = F' at *
    generalize mdm F' (l + 1) = t at *
    have hno : ∀ k : Nat, k ≤ l → ¬ jOk a n i l k → ¬ F' k = t ∧ ¬ cww W sp T i l k = t := by
      intro k hk ho
      obtain ⟨b1, b2⟩ := (hB k hk).2 ho
      refine ⟨fun e => ?_, fun e => ?_⟩
      · rw [e] at b2; omega
      · rw [b1] at e; rw [← e, jM6] at m2; omega
    obtain ⟨p1, p2, p3⟩ := jpick (F := cww W sp T i l) (F' := F') (t := t) (lf := l) (fun k hk => by
      by_cases ho : jOk a n i l k
      · rw [((hB k hk).1 ho).1]
      · exact ⟨fun e => absurd e (hno k hk ho).2, fun e => absurd e (hno k hk ho).1⟩) ⟨k2, hk2, by rw [← hF]; exact m4⟩
    refine ⟨p1, ⟨k2, hk2, ?_⟩, p3, ?_⟩
    · first | exact m4 | (rw [← hF] at m4; exact m4)
    · refine Classical.byContradiction (fun h9 => ?_)
      exact (hno _ p3 (fun ho => h9 ho.2)).1 p2
  intro i
  induction i with
  | zero =>
    intro _
    refine ⟨rfl, Nat.le_refl _, by show s9 + 0 ≤ _; omega, fun hi => ?_⟩
    obtain ⟨k1, k2, -, -⟩ := key 0 s9 hi (Nat.le_refl _) (by show s9 + 0 ≤ _; omega)
    exact ⟨k1, k2⟩
  | succ i ih =>
    intro hi1
    obtain ⟨e1, e2, e3, e4⟩ := ih (by omega)
    obtain ⟨k1, k2, k3, k4⟩ := key i (mpl (mwo R y) T' s9 i) (by omega) e2 e3
    have f1 : cpl W sp T s9 (i + 1) = mpl (mwo R y) T' s9 (i + 1) := by
      show cpl W sp T s9 i - cfp (cww W sp T i (cpl W sp T s9 i)) (T (i * 13 + cpl W sp T s9 i)) (cpl W sp T s9 i) = mpl (mwo R y) T' s9 i - mpk (mwo R y) T' i (mpl (mwo R y) T' s9 i)
      rw [e1, k1]
    have f2 : mpl (mwo R y) T' s9 (i + 1) = mpl (mwo R y) T' s9 i - mpk (mwo R y) T' i (mpl (mwo R y) T' s9 i) := rfl
    have f3 : mpl (mwo R y) T' s9 (i + 1) ≤ s9 := by rw [f2]; omega
    have f4 : mpl (mwo R y) T' s9 (i + 1) + jns a (i + 1) ≤ jns a n := by rw [f2]; exact k4
    refine ⟨f1, f3, f4, fun hi => ?_⟩
    obtain ⟨g1, g2, -, -⟩ := key (i + 1) (mpl (mwo R y) T' s9 (i + 1)) hi f3 f4
    rw [f1]
    exact ⟨g1, g2⟩
end BB
