/-! what is done to a kitchen, on both sides -/
theorem RKt.congrP {K L K2 L2 : Nat → Nat → Int32} (h : RKt K L) (e : ∀ r i, r < 9 → i < 8 → (r = 0 → i < 5) → K2 r i = K r i) (f : ∀ r i, r < 9 → i < 8 → (r = 0 → i < 5) → L2 r i = L r i) : RKt K2 L2 := by
  obtain ⟨h1, h2, h3, h4⟩ := h
  refine ⟨?_, fun i hi => ?_, fun i hi => ?_, fun i hi hj => ?_⟩
  · rw [e 0 0 (by decide) (by decide) (by decide), e 0 1 (by decide) (by decide) (by decide), e 0 2 (by decide) (by decide) (by decide), e 0 3 (by decide) (by decide) (by decide), e 0 4 (by decide) (by decide) (by decide), f 0 0 (by decide) (by decide) (by decide), f 0 1 (by decide) (by decide) (by decide), f 0 2 (by decide) (by decide) (by decide), f 0 3 (by decide) (by decide) (by decide), f 0 4 (by decide) (by decide) (by decide)]
    exact h1
  · rw [e 1 i (by decide) hi (by omega), e 2 i (by decide) hi (by omega), f 1 i (by decide) hi (by omega), f 2 i (by decide) hi (by omega)]
    exact h2 i hi
  · rw [e 3 i (by decide) (by omega) (by omega), e 4 i (by decide) (by omega) (by omega), f 3 i (by decide) (by omega) (by omega), f 4 i (by decide) (by omega) (by omega)]
    exact h3 i hi
  · rw [e 5 i (by decide) (by omega) (by omega), e 6 i (by decide) (by omega) (by omega), e 7 i (by decide) (by omega) (by omega), e 8 i (by decide) (by omega) (by omega), f 5 i (by decide) (by omega) (by omega), f 6 i (by decide) (by omega) (by omega), f 7 i (by decide) (by omega) (by omega), f 8 i (by decide) (by omega) (by omega)]
    exact h4 i hi (by rw [e 0 0 (by decide) (by decide) (by decide)] at hj; exact hj)
theorem GK.congrP {K K2 : Nat → Nat → Int32} (h : GK K) (e : ∀ r i, r < 9 → i < 8 → (r = 0 → i < 5) → K2 r i = K r i) : GK K2 := by
  obtain ⟨h1, h2, h3, h4, h5⟩ := h
  refine ⟨?_, fun i hi => ?_, fun i hi => ?_, fun i hi hj => ?_, fun i hi hj => ?_⟩
  · rw [e 0 0 (by decide) (by decide) (by decide), e 0 1 (by decide) (by decide) (by decide), e 0 2 (by decide) (by decide) (by decide), e 0 3 (by decide) (by decide) (by decide), e 0 4 (by decide) (by decide) (by decide)]
    exact h1
  · rw [e 1 i (by decide) hi (by omega), e 2 i (by decide) hi (by omega)]
    exact h2 i hi
  · rw [e 3 i (by decide) (by omega) (by omega), e 4 i (by decide) (by omega) (by omega)]
    exact h3 i hi
  · rw [e 5 i (by decide) (by omega) (by omega), e 6 i (by decide) (by omega) (by omega), e 7 i (by decide) (by omega) (by omega), e 8 i (by decide) (by omega) (by omega)]
    exact h4 i hi (by rw [e 0 0 (by decide) (by decide) (by decide)] at hj; exact hj)
  · rw [e 7 i (by decide) (by omega) (by omega)]
    exact h5 i hi (by rw [e 0 0 (by decide) (by decide) (by decide)] at hj; exact hj)
theorem Rel.now {S M S2 M2 : ST} (R : Rel S M) (h1 : RKt S2.1 (mK M2.1)) (h2 : GK S2.1) (hs : ∀ r, 20 ≤ r → r ≠ 34 → r ≠ 35 → S2.1 r = S.1 r) (hm : M2.1 1 = M.1 1 ∧ M2.1 10 = M.1 10 ∧ (∀ i, i < 60 → M2.1 14 i = M.1 14 i) ∧ M2.1 15 = M.1 15 ∧ M2.1 0 5 = M.1 0 5 ∧ M2.1 0 8 = M.1 0 8 ∧ M2.1 0 11 = M.1 0 11) : Rel S2 M2 := by
  obtain ⟨-, -, g3, g4, g5, g6⟩ := R
  obtain ⟨m1, m10, m14, m15, m5, m8, m11⟩ := hm
  refine ⟨by rw [kR0]; exact h1, by rw [kR0]; exact h2, ?_, ?_, ?_, ?_⟩
  · unfold RIm at g3 ⊢
    rw [hs 30 (by decide) (by decide) (by decide), m8]
    have e : ∀ r i, r < 9 → i < 8 → (r = 0 → i < 5) → kR S2.1 2 r i = kR S.1 2 r i := fun r i hr _ _ => by
      show S2.1 (10 * 2 + r) i = S.1 (10 * 2 + r) i
      rw [hs _ (by omega) (by omega) (by omega)]
    refine ⟨g3.1, g3.2.1, fun z => ⟨(g3.2.2 z).1.congrP e (fun r i hr hi hz => ?_), (g3.2.2 z).2.congrP e⟩⟩
    have : r = 0 ∨ r = 1 ∨ r = 2 ∨ r = 3 ∨ r = 4 ∨ r = 5 ∨ r = 6 ∨ r = 7 ∨ r = 8 := by omega
    rcases this with rfl | rfl | rfl | rfl | rfl | rfl | rfl | rfl | rfl <;> refine m14 _ ?_ <;> (try split) <;> (try split) <;> omega
  · unfold RLt at g4 ⊢
    rw [hs 30 (by decide) (by decide) (by decide), hs 31 (by decide) (by decide) (by decide), m10, m5]
    exact g4
  · unfold RNu at g5 ⊢
    rw [hs 30 (by decide) (by decide) (by decide), hs 32 (by decide) (by decide) (by decide), m15, m11]
    exact g5
  · unfold RRf at g6 ⊢
    rw [hs 33 (by decide) (by decide) (by decide), m1]
    exact g6
/-- one number of row 0 but the first -/
def kN (K : Nat → Nat → Int32) (j : Nat) (v : Int32) : Nat → Nat → Int32 := kS K 0 (upd (K 0) j v)
/-- one number of another row -/
def kE (K : Nat → Nat → Int32) (r j : Nat) (v : Int32) : Nat → Nat → Int32 := kS K r (upd (K r) j v)
theorem kE_at (K : Nat → Nat → Int32) (r j : Nat) (v : Int32) (a i : Nat) : kE K r j v a i = if a = r ∧ i = j then v else K a i := by
  unfold kE kS upd
  by_cases h : a = r
  · subst h
    by_cases h2 : i = j <;> simp [h2]
  · simp [h]
theorem RKt.row0 {K L : Nat → Nat → Int32} (h : RKt K L) (j : Nat) (hj : j ≠ 0) (v : Int32) : RKt (kE K 0 j v) (kE L 0 j v) := by
  obtain ⟨h1, h2, h3, h4⟩ := h
  refine ⟨?_, fun i hi => ?_, fun i hi => ?_, fun i hi hj2 => ?_⟩
  · simp only [kE_at]
    refine ⟨?_, ?_, ?_, ?_, ?_⟩ <;> split <;> first | rfl | exact h1.1 | exact h1.2.1 | exact h1.2.2.1 | exact h1.2.2.2.1 | exact h1.2.2.2.2
  · simp only [kE_at]
    simpa using h2 i hi
  · simp only [kE_at]
    simpa using h3 i hi
  · simp only [kE_at] at hj2 ⊢
    rw [if_neg (show ¬ (True ∧ 0 = j) from fun z => hj z.2.symm)] at hj2
    simpa using h4 i hi hj2
theorem RKt.row14 {K L : Nat → Nat → Int32} (h : RKt K L) (r j : Nat) (hr : r = 1 ∨ r = 2 ∨ r = 3 ∨ r = 4) (v : Int32) : RKt (kE K r j v) (kE L r j v) := by
  obtain ⟨h1, h2, h3, h4⟩ := h
  refine ⟨?_, fun i hi => ?_, fun i hi => ?_, fun i hi hj2 => ?_⟩
  · simp only [kE_at]
    have : ∀ i : Nat, ¬ ((0 : Nat) = r ∧ i = j) := fun i z => by omega
    simp only [if_neg (this _)]
    exact h1
  · simp only [kE_at]
    constructor
    · split
      · rfl
      · exact (h2 i hi).1
    · split
      · rfl
      · exact (h2 i hi).2
  · simp only [kE_at]
    constructor
    · split
      · rfl
      · exact (h3 i hi).1
    · split
      · rfl
      · exact (h3 i hi).2
  · simp only [kE_at] at hj2 ⊢
    rw [if_neg (show ¬ ((0 : Nat) = r ∧ 0 = j) by omega)] at hj2
    rw [if_neg (show ¬ ((5 : Nat) = r ∧ i = j) by omega), if_neg (show ¬ ((6 : Nat) = r ∧ i = j) by omega), if_neg (show ¬ ((7 : Nat) = r ∧ i = j) by omega), if_neg (show ¬ ((8 : Nat) = r ∧ i = j) by omega), if_neg (show ¬ ((5 : Nat) = r ∧ i = j) by omega), if_neg (show ¬ ((6 : Nat) = r ∧ i = j) by omega), if_neg (show ¬ ((7 : Nat) = r ∧ i = j) by omega), if_neg (show ¬ ((8 : Nat) = r ∧ i = j) by omega)]
    exact h4 i hi hj2
theorem RKt.row58 {K L : Nat → Nat → Int32} (h : RKt K L) (r j : Nat) (hr : r = 5 ∨ r = 6 ∨ r = 7 ∨ r = 8) (v : Int32) : RKt (kE K r j v) (kE L r j v) := by
  obtain ⟨h1, h2, h3, h4⟩ := h
  refine ⟨?_, fun i hi => ?_, fun i hi => ?_, fun i hi hj2 => ?_⟩
  · simp only [kE_at]
    have : ∀ i : Nat, ¬ ((0 : Nat) = r ∧ i = j) := fun i z => by omega
    simp only [if_neg (this _)]
    exact h1
  · simp only [kE_at]
    rw [if_neg (show ¬ ((1 : Nat) = r ∧ i = j) by omega), if_neg (show ¬ ((2 : Nat) = r ∧ i = j) by omega), if_neg (show ¬ ((1 : Nat) = r ∧ i = j) by omega), if_neg (show ¬ ((2 : Nat) = r ∧ i = j) by omega)]
    exact h2 i hi
  · simp only [kE_at]
    rw [if_neg (show ¬ ((3 : Nat) = r ∧ i = j) by omega), if_neg (show ¬ ((4 : Nat) = r ∧ i = j) by omega), if_neg (show ¬ ((3 : Nat) = r ∧ i = j) by omega), if_neg (show ¬ ((4 : Nat) = r ∧ i = j) by omega)]
    exact h3 i hi
  · simp only [kE_at] at hj2 ⊢
    rw [if_neg (show ¬ ((0 : Nat) = r ∧ 0 = j) by omega)] at hj2
    have h5 := h4 i hi hj2
    refine ⟨?_, ?_, ?_, ?_⟩ <;> split <;> first | rfl | exact h5.1 | exact h5.2.1 | exact h5.2.2.1 | exact h5.2.2.2
/-- a kitchen stays as it must be, a number at a time -/
theorem GK.hand {K : Nat → Nat → Int32} (h : GK K) (v : Int32) (hv : 0 ≤ v ∧ (v < K 0 0 ∨ K 0 0 = 0 ∧ v = 0)) : GK (kE K 0 1 v) := by
  obtain ⟨h1, h2, h3, h4, h5⟩ := h
  refine ⟨?_, fun i hi => ?_, fun i hi => ?_, fun i hi hj => ?_, fun i hi hj => ?_⟩ <;> simp only [kE_at] at *
  · simpa using ⟨h1.1, hv, h1.2.2⟩
  · simpa using h2 i hi
  · simpa using h3 i hi
  · simpa using h4 i hi (by simpa using hj)
  · simpa using h5 i hi (by simpa using hj)
theorem GK.seen {K : Nat → Nat → Int32} (h : GK K) (v : Int32) (hv : 0 ≤ v ∧ v ≤ 8) : GK (kE K 0 2 v) := by
  obtain ⟨h1, h2, h3, h4, h5⟩ := h
  refine ⟨?_, fun i hi => ?_, fun i hi => ?_, fun i hi hj => ?_, fun i hi hj => ?_⟩ <;> simp only [kE_at] at *
  · simpa using ⟨h1.1, h1.2.1, hv, h1.2.2.2⟩
  · simpa using h2 i hi
  · simpa using h3 i hi
  · simpa using h4 i hi (by simpa using hj)
  · simpa using h5 i hi (by simpa using hj)
theorem GK.price {K : Nat → Nat → Int32} (h : GK K) (v : Int32) (hv : 0 ≤ v ∧ v ≤ 9) : GK (kE K 0 3 v) := by
  obtain ⟨h1, h2, h3, h4, h5⟩ := h
  refine ⟨?_, fun i hi => ?_, fun i hi => ?_, fun i hi hj => ?_, fun i hi hj => ?_⟩ <;> simp only [kE_at] at *
  · simpa using ⟨h1.1, h1.2.1, h1.2.2.1, hv, h1.2.2.2.2⟩
  · simpa using h2 i hi
  · simpa using h3 i hi
  · simpa using h4 i hi (by simpa using hj)
  · simpa using h5 i hi (by simpa using hj)
theorem GK.people {K : Nat → Nat → Int32} (h : GK K) (v : Int32) (hv : 0 ≤ v ∧ v ≤ 4) : GK (kE K 0 4 v) := by
  obtain ⟨h1, h2, h3, h4, h5⟩ := h
  refine ⟨?_, fun i hi => ?_, fun i hi => ?_, fun i hi hj => ?_, fun i hi hj => ?_⟩ <;> simp only [kE_at] at *
  · simpa using ⟨h1.1, h1.2.1, h1.2.2.1, h1.2.2.2.1, hv⟩
  · simpa using h2 i hi
  · simpa using h3 i hi
  · simpa using h4 i hi (by simpa using hj)
  · simpa using h5 i hi (by simpa using hj)
theorem GK.test {K : Nat → Nat → Int32} (h : GK K) (j : Nat) (v : Int32) (hv : 0 ≤ v ∧ v < 4) : GK (kE K 1 j v) := by
  obtain ⟨h1, h2, h3, h4, h5⟩ := h
  refine ⟨?_, fun i hi => ?_, fun i hi => ?_, fun i hi hj => ?_, fun i hi hj => ?_⟩ <;> simp only [kE_at] at *
  · simpa using h1
  · refine ⟨?_, by simpa using (h2 i hi).2⟩
    split
    · exact hv
    · exact (h2 i hi).1
  · simpa using h3 i hi
  · simpa using h4 i hi (by simpa using hj)
  · simpa using h5 i hi (by simpa using hj)
theorem GK.off {K : Nat → Nat → Int32} (h : GK K) (j : Nat) (v : Int32) (hv : 0 ≤ v ∧ v < 2) : GK (kE K 2 j v) := by
  obtain ⟨h1, h2, h3, h4, h5⟩ := h
  refine ⟨?_, fun i hi => ?_, fun i hi => ?_, fun i hi hj => ?_, fun i hi hj => ?_⟩ <;> simp only [kE_at] at *
  · simpa using h1
  · refine ⟨by simpa using (h2 i hi).1, ?_⟩
    split
    · exact hv
    · exact (h2 i hi).2
  · simpa using h3 i hi
  · simpa using h4 i hi (by simpa using hj)
  · simpa using h5 i hi (by simpa using hj)
theorem GK.cost {K : Nat → Nat → Int32} (h : GK K) (j : Nat) (v : Int32) (hv : 0 ≤ v ∧ v ≤ 9) : GK (kE K 3 j v) := by
  obtain ⟨h1, h2, h3, h4, h5⟩ := h
  refine ⟨?_, fun i hi => ?_, fun i hi => ?_, fun i hi hj => ?_, fun i hi hj => ?_⟩ <;> simp only [kE_at] at *
  · simpa using h1
  · simpa using h2 i hi
  · refine ⟨?_, by simpa using (h3 i hi).2⟩
    split
    · exact hv
    · exact (h3 i hi).1
  · simpa using h4 i hi (by simpa using hj)
  · simpa using h5 i hi (by simpa using hj)
theorem GK.person {K : Nat → Nat → Int32} (h : GK K) (j : Nat) (v : Int32) (hv : 0 ≤ v ∧ v ≤ 4) : GK (kE K 4 j v) := by
  obtain ⟨h1, h2, h3, h4, h5⟩ := h
  refine ⟨?_, fun i hi => ?_, fun i hi => ?_, fun i hi hj => ?_, fun i hi hj => ?_⟩ <;> simp only [kE_at] at *
  · simpa using h1
  · simpa using h2 i hi
  · refine ⟨by simpa using (h3 i hi).1, ?_⟩
    split
    · exact hv
    · exact (h3 i hi).2
  · simpa using h4 i hi (by simpa using hj)
  · simpa using h5 i hi (by simpa using hj)
theorem GK.points {K : Nat → Nat → Int32} (h : GK K) (j : Nat) (v : Int32) (hv : 0 ≤ v ∧ v ≤ 240) : GK (kE K 8 j v) := by
  obtain ⟨h1, h2, h3, h4, h5⟩ := h
  refine ⟨?_, fun i hi => ?_, fun i hi => ?_, fun i hi hj => ?_, fun i hi hj => ?_⟩ <;> simp only [kE_at] at *
  · simpa using h1
  · simpa using h2 i hi
  · simpa using h3 i hi
  · have := h4 i hi (by simpa using hj)
    refine ⟨by simpa using this.1, by simpa using this.2.1, by simpa using this.2.2.1, ?_⟩
    split
    · exact hv
    · exact this.2.2.2
  · simpa using h5 i hi (by simpa using hj)
theorem GK.cups {K : Nat → Nat → Int32} (h : GK K) (j : Nat) (v : Int32) (hv : 1 ≤ v ∧ v ≤ 9) : GK (kE K 7 j v) := by
  obtain ⟨h1, h2, h3, h4, h5⟩ := h
  refine ⟨?_, fun i hi => ?_, fun i hi => ?_, fun i hi hj => ?_, fun i hi hj => ?_⟩ <;> simp only [kE_at] at *
  · simpa using h1
  · simpa using h2 i hi
  · simpa using h3 i hi
  · have := h4 i hi (by simpa using hj)
    refine ⟨by simpa using this.1, by simpa using this.2.1, ?_, by simpa using this.2.2.2⟩
    split
    · exact ⟨by grind, hv.2⟩
    · exact this.2.2.1
  · split
    · exact hv.1
    · exact h5 i hi (by simpa using hj)
