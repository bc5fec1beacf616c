/-- the reference's kind of a letter -/
def mkd (c : Int32) : Int32 := if c = 106 then 0 else if c = 119 then 1 else if c = 99 then 2 else if c = 112 then 3 else if c = 103 then 4 else -1
def mgd (k : Nat) (c : Int32) : Int32 := if k % 4 = 0 then (if 24 ≤ k then 0 else if mkd c = -1 then 0 else 1) else if k % 4 = 3 then (if c = 44 then (if 23 ≤ k then 0 else 1) else 0) else if (48 : Int32) ≤ c then (if c ≤ 57 then 1 else 0) else 0
theorem mgd_b (k : Nat) (c : Int32) : mgd k c = 0 ∨ mgd k c = 1 := by
  unfold mgd
  repeat' split
  all_goals first | exact Or.inl rfl | exact Or.inr rfl
theorem jw_le {a b : Int32} (h : a ≤ b) : a.toInt64 ≤ b.toInt64 := by rw [Int64.le_iff_toInt_le, Int32.toInt_toInt64, Int32.toInt_toInt64, ← Int32.le_iff_toInt_le]; exact h
theorem jw_lt {a b : Int32} (h : a < b) : a.toInt64 < b.toInt64 := by rw [Int64.lt_iff_toInt_lt, Int32.toInt_toInt64, Int32.toInt_toInt64, ← Int32.lt_iff_toInt_lt]; exact h
theorem jnlt {a b : Int32} (h : ¬ a < b) : b ≤ a := by rw [fa_lt] at h; rw [fa_le]; omega
theorem jnle {a b : Int32} (h : ¬ a ≤ b) : b < a := by rw [fa_le] at h; rw [fa_lt]; omega
theorem jj_y {j n : Nat} (hj : j < n) (hn : n ≤ 6) : nI j ≤ nI n - 1 := by rw [fa_le, nI_toInt (by omega), show (1 : Int32) = nI 1 from rfl, pk_sub_toInt (by omega) (by omega)]; omega
theorem jj_n {n : Nat} {q : Int32} (hn : n ≤ 6) (h : nI n ≤ q) : nI n - 1 < q := by rw [fa_lt, show (1 : Int32) = nI 1 from rfl, pk_sub_toInt (by omega) (by omega)]; rw [fa_le, nI_toInt (by omega)] at h; omega
/-- the place of the first letter that doesn't fit, by g; n if there is none -/
def jfo (g : Nat → Int32) : Nat → Nat
  | 0 => 0
  | k + 1 => if jfo g k < k then jfo g k else if g k = 0 then k else k + 1
theorem jfo_le (g : Nat → Int32) : ∀ k : Nat, jfo g k ≤ k
  | 0 => Nat.le_refl 0
  | k + 1 => by
    have h := jfo_le g k
    unfold jfo
    repeat' split
    all_goals omega
theorem jfo_stop {g : Nat → Int32} {k : Nat} (h : jfo g k = k) (h0 : g k = 0) : ∀ n : Nat, k < n → jfo g n = k
  | 0, h1 => absurd h1 (Nat.not_lt_zero _)
  | n + 1, h1 => by
    unfold jfo
    by_cases h2 : k = n
    · subst h2; rw [if_neg (by omega), if_pos h0]
    · rw [jfo_stop h h0 n (by omega), if_pos (by omega)]
theorem jfo_go {g : Nat → Int32} {k : Nat} (h : jfo g k = k) (h0 : ¬ g k = 0) : jfo g (k + 1) = k + 1 := by unfold jfo; rw [if_neg (by omega), if_neg h0]
def mmr (Rw : Nat → Int32) (j : Nat) (y : Int32) : Int32 := if Rw (5 * j) = 2 then 0 else if Rw (5 * j) = 4 then 0 else (3 - Rw (5 * j + 2) / 3 + (if Rw (5 * j) = 1 then 1 else 0)) * y
def mmo (Rw : Nat → Int32) (j : Nat) (y : Int32) : Int32 := if mmr Rw j y ≤ 20 then mmr Rw j y else 20
def mfi (Rw : Nat → Int32) (j : Nat) (y : Int32) : Int32 := if Rw (5 * j) = 4 then 2 * (Rw (5 * j + 1) - mmo Rw j y) else if Rw (5 * j) = 3 ∧ y - y / 2 * 2 = 1 then Rw (5 * j + 1) - mmo Rw j y + 3 else Rw (5 * j + 1) - mmo Rw j y
def mwm (g : Nat → Int32) : Nat → Int32
  | 0 => -99999
  | k + 1 => if g k ≤ mwm g k then mwm g k else g k
def mwf (g : Nat → Int32) : Nat → Int32
  | 0 => -1
  | k + 1 => if g k ≤ mwm g k then mwf g k else nI k
def mas (o : Int32) (c j : Nat) : Int32 := if c = 0 ∨ nI c = o ∨ (c = 2 ∧ o = 4) then nI j else -1
def msum (Rw : Nat → Int32) : Nat → Int32
  | 0 => 0
  | k + 1 => msum Rw k + Rw (5 * k + 3)
def mwo (Rw : Nat → Int32) (y : Int32) (j c : Nat) : Int32 := if nI c ≤ Rw (5 * j + 3) then nI c * (mfi Rw j y - Rw (5 * j + 4)) - nI c * (nI c - 1) / 2 else -99999
theorem jlk_nn (fw : Nat → Int32 → Int32) (o : Int32) (j : Nat) (y : Int32) : ∀ k : Nat, ∃ q : Nat, q ≤ k ∧ jlk fw o j y k = nI q
  | 0 => ⟨0, Nat.le_refl 0, rfl⟩
  | k + 1 => by
    obtain ⟨q, h1, h2⟩ := jlk_nn fw o j y k
    unfold jlk
    split
    · exact ⟨q + 1, by omega, by rw [h2]; exact nI_1 q⟩
    · exact ⟨q, by omega, h2⟩
theorem jlw_nn (fw : Nat → Int32 → Int32) (o : Int32) (n : Nat) (y : Int32) : ∀ k : Nat, ∃ q : Nat, q ≤ n ∧ jlw fw o n y k = nI q
  | 0 => ⟨0, Nat.zero_le n, rfl⟩
  | k + 1 => by
    obtain ⟨q, h1, h2⟩ := jlw_nn fw o n y k
    unfold jlw
    split
    · split
      · exact jlk_nn fw o k y n
      · exact ⟨q, h1, h2⟩
    · exact ⟨q, h1, h2⟩
theorem jlw_0 {fw : Nat → Int32 → Int32} {o : Int32} {n : Nat} {y : Int32} {k : Nat} (hn : n ≤ 6) : (0 : Int32) ≤ jlw fw o n y k := by
  obtain ⟨q, h1, h2⟩ := jlw_nn fw o n y k
  rw [h2]
  exact nI_pos' (by omega)
theorem jcell {cA : ClassId} {n : Nat} {f g : Nat → Int32} (h : ∀ i : Nat, i < n → f i = g i) : vp_cell cA (n, .inl f) = vp_cell cA (n, .inl g) := by
  have e : (fun j : Fin n => Value.int (f j.val)) = fun j : Fin n => Value.int (g j.val) := funext fun j => by rw [h j.val j.isLt]
  rw [vp_cell_i, vp_cell_i]
  unfold arrV
  simp only [e]
/-- an int array's cell tells its contents as far as its length alone -/
theorem jP_arr {D : va_G} {cl : List vw_C} {ws : va_W} {H : Heap} {a n : Nat} {cA : ClassId} {f g : Nat → Int32} (hP : va_P D cl ws H) (p : Nat) (hp : ws[p]? = some (a, .inl (cA, n, .inl f))) (h : ∀ i : Nat, i < n → f i = g i) : va_P D cl (ws.set p (a, .inl (cA, n, .inl g))) H := by
  intro k q hk
  by_cases hkp : p = k
  · subst hkp
    rw [List.getElem?_set_self (List.getElem?_eq_some_iff.mp hp).1] at hk
    cases hk
    have h1 : H[a]? = some (vp_cell cA (n, .inl f)) := hP p _ hp
    show H[a]? = some (vp_cell cA (n, .inl g))
    rw [h1, jcell h]
  · rw [List.getElem?_set_ne hkp] at hk
    exact hP k q hk
/-- the rows, none eaten of the first k jars -/
def mne (Rw : Nat → Int32) (k : Nat) : Nat → Int32 := fun i => if i % 5 = 4 ∧ i / 5 < k then 0 else Rw i
theorem mne_0 {Rw : Nat → Int32} : mne Rw 0 = Rw := by funext i; simp [mne]
theorem mne_s {Rw : Nat → Int32} {k : Nat} : mne Rw (k + 1) = upd (mne Rw k) (5 * k + 4) 0 := by
  funext i
  by_cases h : i = 5 * k + 4
  · subst h; simp [mne, upd]; omega
  · have e : (i % 5 = 4 ∧ i / 5 < k + 1) ↔ (i % 5 = 4 ∧ i / 5 < k) := by omega
    simp [mne, upd, h, e]
theorem mland {a : Nat} : lN a &&& (2147483647 : Int64) = lN (a % 2147483648) := by
  have h : ∀ a b : Nat, lN a &&& lN b = lN (a &&& b) := by
    intro a b
    apply Int64.toBitVec_inj.1
    show BitVec.ofNat 64 a &&& BitVec.ofNat 64 b = BitVec.ofNat 64 (a &&& b)
    apply BitVec.eq_of_getLsbD_eq
    intro i hi
    simp [hi]
  rw [show (2147483647 : Int64) = lN 2147483647 from rfl, h, show (2147483647 : Nat) = 2 ^ 31 - 1 from rfl, Nat.and_two_pow_sub_one_eq_mod]
theorem msd_eq {q : Nat} (h : q < 2147483648) : ((1103515245 : Int64) * (nI q).toInt64 + 12345 &&& 2147483647).toInt32 = nI (jsd q) := by
  rw [nI_l h, show (1103515245 : Int64) = lN 1103515245 from rfl, show (12345 : Int64) = lN 12345 from rfl, lN_mul, lN_add, mland, lN_i]
  rfl
