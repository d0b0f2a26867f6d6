/-! PHASE 2: pure facts about the functions. Numbers first. -/
theorem p_bs {α β : Type} (a : α) (f : α → Option β) : (some a).bind f = f a := congrArg id (Option.bind_some a f)
theorem p_ix {p : Int32} {n : Nat} (hn : n < 2147483648) (h0 : 0 ≤ p) (h1 : p < Int32.ofNat n) : ∃ j : Nat, j < n ∧ p = Int32.ofNat j := by
  have e := Int32.ofNat_toNatClampNeg p h0
  refine ⟨p.toNatClampNeg, ?_, e.symm⟩
  rw [← e] at h1
  exact (Int32.ofNat_lt_iff_lt (Int32.toNatClampNeg_lt p) hn).mp h1
theorem p_tn {a : Nat} (ha : a < 2147483648) : Int32.toNatClampNeg (Int32.ofNat a) = a := Int32.toNatClampNeg_ofNat_of_lt ha
theorem p_le {a b : Nat} (ha : a < 2147483648) (hb : b < 2147483648) : (Int32.ofNat a ≤ Int32.ofNat b) ↔ a ≤ b := Int32.ofNat_le_iff_le ha hb
theorem p_lt {a b : Nat} (ha : a < 2147483648) (hb : b < 2147483648) : (Int32.ofNat a < Int32.ofNat b) ↔ a < b := Int32.ofNat_lt_iff_lt ha hb
theorem p_nb {p : Int32} {n : Nat} (hn : n < 2147483648) (h0 : 0 ≤ p) (h1 : p < Int32.ofNat n) : ¬ (p < 0 ∨ n ≤ Int32.toNatClampNeg p) := by
  obtain ⟨j, hj, rfl⟩ := p_ix hn h0 h1
  rw [p_tn (by omega)]
  rintro (h | h)
  · exact absurd h0 (by grind)
  · omega
theorem p_rem (x y : Int64) : x - x / y * y = x % y := by
  have hd : x / y = Int64.ofInt (x.toInt.tdiv y.toInt) := by
    apply Int64.toInt_inj.mp
    rw [Int64.toInt_div, Int64.toInt_ofInt]
  have h1 : x - x / y * y = Int64.ofInt (x.toInt - x.toInt.tdiv y.toInt * y.toInt) := by
    rw [Int64.ofInt_sub, Int64.ofInt_mul, Int64.ofInt_toInt, Int64.ofInt_toInt, ← hd]
  have h2 : x.toInt - x.toInt.tdiv y.toInt * y.toInt = x.toInt.tmod y.toInt := by
    rw [Int.tmod_def, Int.mul_comm]
  rw [h1, h2, ← Int64.toInt_mod, Int64.ofInt_toInt]
def gS : Nat → Int64 → Int64 → Option Int64
  | 0, x, y => if y = 0 then some x else none
  | m + 1, x, y => if y = 0 then some x else gS m y (x % y)
theorem p_abs0 {y : Int64} (h : y ≠ 0) : 0 < y.toInt.natAbs := by
  rcases Nat.eq_zero_or_pos y.toInt.natAbs with h1 | h1
  · exact absurd (Int64.toInt_inj.mp (show y.toInt = (0 : Int64).toInt by rw [Int.natAbs_eq_zero.mp h1]; rfl)) h
  · exact h1
theorem gS_term : ∀ (k : Nat) (x y : Int64), y.toInt.natAbs < 2 ^ k → ∃ v, gS (2 * k) x y = some v
  | 0, x, y, h => by
    by_cases hy : y = 0
    · exact ⟨x, by rw [Nat.mul_zero, gS, if_pos hy]⟩
    · have := p_abs0 hy
      omega
  | k + 1, x, y, h => by
    show ∃ v, gS (2 * k + 1 + 1) x y = some v
    rw [gS]
    by_cases hy : y = 0
    · exact ⟨x, if_pos hy⟩
    rw [if_neg hy, gS]
    by_cases hr : x % y = 0
    · exact ⟨y, if_pos hr⟩
    rw [if_neg hr]
    apply gS_term k
    have e1 : (x % y).toInt.natAbs = x.toInt.natAbs % y.toInt.natAbs := by rw [Int64.toInt_mod, Int.natAbs_tmod]
    have e2 : (y % (x % y)).toInt.natAbs = y.toInt.natAbs % (x % y).toInt.natAbs := by rw [Int64.toInt_mod, Int.natAbs_tmod]
    have hy0 := p_abs0 hy
    have hr0 := p_abs0 hr
    have h1 : (x % y).toInt.natAbs < y.toInt.natAbs := by rw [e1]; exact Nat.mod_lt _ hy0
    rw [e2]
    have h2 := Nat.div_add_mod y.toInt.natAbs (x % y).toInt.natAbs
    have h3 := Nat.mod_lt y.toInt.natAbs hr0
    have h4 : 0 < y.toInt.natAbs / (x % y).toInt.natAbs := Nat.div_pos (Nat.le_of_lt h1) hr0
    have h5 := Nat.le_mul_of_pos_right (x % y).toInt.natAbs h4
    rw [Nat.pow_succ] at h
    omega
theorem gS_ne : ∀ (m : Nat) (x y v : Int64), gS m x y = some v → (x ≠ 0 ∨ y ≠ 0) → v ≠ 0
  | 0, x, y, v, h, hn => by
    rw [gS] at h
    split at h
    · rename_i hy
      cases h
      rcases hn with hn | hn
      · exact hn
      · exact absurd hy hn
    · cases h
  | m + 1, x, y, v, h, hn => by
    rw [gS] at h
    split at h
    · rename_i hy
      cases h
      rcases hn with hn | hn
      · exact hn
      · exact absurd hy hn
    · rename_i hy
      exact gS_ne m _ _ _ h (Or.inl hy)
theorem c_gcd : ∀ (m n i : Nat) (x y v : Int64) (N : Nat), gS m x y = some v → m + i ≤ 200 → m + 1 ≤ n → ∃ q : Int64 × Int32, f_X3_inLeastTerms_L22 N n x y (Int32.ofNat i) = some (v, q.1, q.2)
  | 0, n, i, x, y, v, N, h, h1, h2 => by
    obtain ⟨n, rfl⟩ : ∃ n', n = n' + 1 := ⟨n - 1, by omega⟩
    rw [gS] at h
    split at h
    · rename_i hy
      cases h
      rw [f_X3_inLeastTerms_L22]
      by_cases h3 : (200 : Int32) ≤ Int32.ofNat i
      · exact ⟨(y, Int32.ofNat i), by rw [if_pos h3]⟩
      · exact ⟨(y, Int32.ofNat i), by rw [if_neg h3, if_pos ((lg_cmp_eq y 0).mpr hy)]⟩
    · cases h
  | m + 1, n, i, x, y, v, N, h, h1, h2 => by
    obtain ⟨n, rfl⟩ : ∃ n', n = n' + 1 := ⟨n - 1, by omega⟩
    rw [gS] at h
    rw [f_X3_inLeastTerms_L22]
    have h3 : ¬ (200 : Int32) ≤ Int32.ofNat i := fun z => by
      have := (p_le (a := 200) (b := i) (by omega) (by omega)).mp z
      omega
    rw [if_neg h3]
    split at h
    · rename_i hy
      cases h
      exact ⟨(y, Int32.ofNat i), by rw [if_pos ((lg_cmp_eq y 0).mpr hy)]⟩
    · rename_i hy
      rw [if_neg (fun z => hy ((lg_cmp_eq y 0).mp z)), if_neg hy, p_rem]
      have := c_gcd m n (i + 1) y (x % y) v N h (by omega) (by omega)
      rw [Int32.ofNat_add] at this
      exact this
theorem m_gcd : ∀ (m n : Nat) (x y v : Int64) (N : Nat), gS m x y = some v → m + 1 ≤ n → ∃ q : Int64, f_X4_divisor_L17 N n x y = some (v, q)
  | 0, n, x, y, v, N, h, h2 => by
    obtain ⟨n, rfl⟩ : ∃ n', n = n' + 1 := ⟨n - 1, by omega⟩
    rw [gS] at h
    split at h
    · rename_i hy
      cases h
      exact ⟨y, by rw [f_X4_divisor_L17, if_pos ((lg_cmp_eq y 0).mpr hy)]⟩
    · cases h
  | m + 1, n, x, y, v, N, h, h2 => by
    obtain ⟨n, rfl⟩ : ∃ n', n = n' + 1 := ⟨n - 1, by omega⟩
    rw [gS] at h
    rw [f_X4_divisor_L17]
    split at h
    · rename_i hy
      cases h
      exact ⟨y, by rw [if_pos ((lg_cmp_eq y 0).mpr hy)]⟩
    · rename_i hy
      rw [if_neg (fun z => hy ((lg_cmp_eq y 0).mp z)), if_neg hy, p_rem]
      exact m_gcd m n y (x % y) v N h (by omega)
/-- both fractions in least terms are the same -/
def frac (a b : Int64) (p : Int32) : Int64 := if b = 0 then p.toInt64 else if p = 0 then a / ((gS 128 (if 0 < a then a else -a) b).getD 1) else b / ((gS 128 (if 0 < a then a else -a) b).getD 1)
theorem p_gcd (a b : Int64) (hb : b ≠ 0) : ∃ v, gS 128 a b = some v ∧ v ≠ 0 := by
  obtain ⟨v, hv⟩ := gS_term 64 a b (by
    have h1 := b.le_toInt
    have h2 := b.toInt_lt
    omega)
  exact ⟨v, hv, gS_ne _ _ _ _ hv (Or.inr hb)⟩
theorem c_frac (k : Nat) (a b : Int64) (p : Int32) : f_X3_inLeastTerms a b p (k + 200) = some (frac a b p) := by
  unfold f_X3_inLeastTerms frac
  by_cases hb : b = 0
  · rw [if_pos ((lg_cmp_eq b 0).mpr hb), if_pos hb]
  rw [if_neg (fun z => hb ((lg_cmp_eq b 0).mp z)), if_neg hb]
  obtain ⟨v, hv, hn⟩ := p_gcd (if 0 < a then a else -a) b hb
  obtain ⟨q, hq⟩ := c_gcd 128 (k + 200) 0 _ b v (k + 200) hv (by omega) (by omega)
  have hq2 : f_X3_inLeastTerms_L22 (k + 200) (k + 200) (if 0 < a then a else -a) b 0 = some (v, q.1, q.2) := hq
  have hc : ¬ lg_cmp v 0 = 0 := fun z => hn ((lg_cmp_eq v 0).mp z)
  rw [hv, hq2]
  simp only [Option.bind_some, Option.getD_some, if_neg hc, if_neg hn]
  split <;> rfl
theorem m_frac (k : Nat) (a b : Int64) (p : Int32) : f_X4_partOf a b p (k + 200) = some (frac a b p) := by
  unfold f_X4_partOf frac
  by_cases hb : b = 0
  · rw [if_pos ((lg_cmp_eq b 0).mpr hb), if_pos hb]
  rw [if_neg (fun z => hb ((lg_cmp_eq b 0).mp z)), if_neg hb]
  obtain ⟨v, hv, hn⟩ := p_gcd (if 0 < a then a else -a) b hb
  have hd : f_X4_divisor a b (k + 200) = some v := by
    unfold f_X4_divisor
    obtain ⟨q, hq⟩ := m_gcd 128 (k + 200) _ b v (k + 200) hv (by omega)
    by_cases h0 : 0 < a
    · rw [if_pos h0] at hq
      rw [if_pos ((lg_cmp_ge a 0).mpr (by grind)), hq]
      rfl
    · rw [if_neg h0] at hq
      by_cases h1 : a = 0
      · subst h1
        rw [if_pos ((lg_cmp_ge 0 0).mpr (by decide)), show (0 : Int64) = - 0 from rfl, hq]
        rfl
      · rw [if_neg (fun z => h1 (by have := (lg_cmp_ge a 0).mp z; grind)), hq]
        rfl
  rw [hd, hv]
  simp only [Option.bind_some, Option.getD_some]
  rw [if_neg hn, if_neg hn]
  split <;> rfl
