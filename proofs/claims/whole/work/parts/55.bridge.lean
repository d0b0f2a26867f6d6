/-! the bridge: refusals, thoughts, of class and reference together -/
theorem m_isWhom (p : Int32) : f_X4_isWhom p = f_X3_isOneOf p 3 := rfl
theorem m_isTest (p : Int32) : f_X4_isTest p = f_X3_isOneOf p 4 := rfl
theorem m_isStage (p : Int32) : f_X4_isStage p = f_X3_isOneOf p 5 := rfl
theorem m_isIn1 (p : Int32) : f_X4_isIn p 0 1 = f_X3_isOneOf p 2 := by
  unfold f_X4_isIn f_X3_isOneOf
  have e : (1 : Int32) < p ↔ (2 : Int32) ≤ p := by grind
  simp only [e]
theorem m_isIn4 (p : Int32) : f_X4_isIn p 0 4 = f_X3_isOneOf p 5 := by
  unfold f_X4_isIn f_X3_isOneOf
  have e : (4 : Int32) < p ↔ (5 : Int32) ≤ p := by grind
  simp only [e]
theorem m_bound (p a b : Int32) : f_X4_bound p a b = f_X3_refusalOutside p a b := rfl
theorem one_iff {p n : Int32} : f_X3_isOneOf p n = true ↔ 0 ≤ p ∧ p < n := by
  unfold f_X3_isOneOf
  split
  · constructor
    · intro h; cases h
    · intro h; grind
  · split
    · constructor
      · intro h; cases h
      · intro h; grind
    · constructor
      · intro _; grind
      · intro _; rfl
theorem b2i_f0 : (b2i false = 0) = True := by decide
theorem b2i_t0 : (b2i true = 0) = False := by decide
theorem rih_f (S : ST) (q : Bool) : f_X3_refusalInHand S false q = -1 := by
  unfold f_X3_refusalInHand
  rw [if_pos (by decide)]
theorem rih_tf (S : ST) : f_X3_refusalInHand S true false = -2 := by
  unfold f_X3_refusalInHand
  rw [if_neg (by decide), if_pos (by decide)]
theorem rih_n {S : ST} (h : ¬ jIn (S.1 0 0) (S.1 0 1)) : f_X3_refusalInHand S true true = -3 := by
  unfold f_X3_refusalInHand
  rw [if_neg (by decide), if_neg (by decide), if_neg h]
theorem rih_y {S : ST} (h : jIn (S.1 0 0) (S.1 0 1)) : f_X3_refusalInHand S true true = 0 := by
  unfold f_X3_refusalInHand
  rw [if_neg (by decide), if_neg (by decide), if_pos h]
theorem rih_R {S : ST} {q0 q1 : Bool} (h : f_X3_refusalInHand S q0 q1 ≠ 0) : isR (f_X3_refusalInHand S q0 q1) := by
  cases q0
  · rw [rih_f]; exact Or.inl rfl
  cases q1
  · rw [rih_tf]; exact Or.inr (Or.inl rfl)
  by_cases hj : jIn (S.1 0 0) (S.1 0 1)
  · exact absurd (rih_y hj) h
  · rw [rih_n hj]; exact Or.inr (Or.inr (Or.inl rfl))
theorem out_R {p a b : Int32} (h : f_X3_refusalOutside p a b ≠ 0) : isR (f_X3_refusalOutside p a b) := by
  unfold f_X3_refusalOutside at h ⊢
  split
  · split
    · rename_i h1 h2
      rw [if_pos h1, if_pos h2] at h
      exact absurd rfl h
    · exact Or.inr (Or.inr (Or.inr (Or.inr rfl)))
  · exact Or.inr (Or.inr (Or.inr (Or.inl rfl)))
theorem out_0 {p a b : Int32} : f_X3_refusalOutside p a b = 0 ↔ a ≤ p ∧ p ≤ b := by
  unfold f_X3_refusalOutside
  split
  · split
    · rename_i h1 h2
      exact ⟨fun _ => ⟨h1, h2⟩, fun _ => rfl⟩
    · rename_i h1 h2
      exact ⟨fun z => absurd z (by decide), fun z => absurd z.2 h2⟩
  · rename_i h1
    exact ⟨fun z => absurd z (by decide), fun z => absurd z.1 h1⟩
def jj (S : ST) : Nat := Int32.toNatClampNeg (S.1 0 1)
def TV (S : ST) : Nat → Int64 := tvn (S.1 5 (jj S)) (S.1 8 (jj S)) (S.1 1) (S.1 2) (Int32.toNatClampNeg (S.1 0 2))
theorem Rel.g {S M : ST} (R : Rel S M) : GK S.1 := by
  have := R.2.1
  rw [kR0] at this
  exact this
theorem Rel.k {S M : ST} (R : Rel S M) : RKt S.1 (mK M.1) := by
  have := R.1
  rw [kR0] at this
  exact this
theorem Rel.in0 {S M : ST} (R : Rel S M) : jIn (S.1 0 0) (S.1 0 1) ↔ ¬ M.1 0 0 = 0 := by
  have h := R.g.1
  have e : S.1 0 0 = M.1 0 0 := R.k.1.1
  rw [← e]
  unfold jIn
  constructor
  · rintro ⟨h1, h2, h3⟩ h4
    grind
  · intro h4
    refine ⟨?_, ?_, ?_⟩ <;> grind
theorem Rel.jug {S M : ST} (R : Rel S M) (p : Int32) : f_X4_isJug M p = decide (jIn (S.1 0 0) p) := by
  have h := R.g.1
  have e : S.1 0 0 = M.1 0 0 := R.k.1.1
  unfold f_X4_isJug jIn
  rw [← e]
  split
  · symm; apply decide_eq_false; grind
  · split
    · symm; apply decide_eq_false; grind
    · symm; apply decide_eq_true; grind
theorem m_notBest {S M : ST} (R : Rel S M) (w : Int32) : f_X4_notBest M w = f_X3_refusalInHand S (f_X3_isOneOf w 3) true := by
  unfold f_X4_notBest
  rw [m_isWhom]
  cases f_X3_isOneOf w 3
  · rw [rih_f]; rfl
  · by_cases h : jIn (S.1 0 0) (S.1 0 1)
    · rw [rih_y h, if_neg (by decide), if_neg (R.in0.mp h)]
    · rw [rih_n h, if_neg (by decide), if_pos (Classical.not_not.mp (fun z => h (R.in0.mpr z)))]
theorem m_notPart {S M : ST} (R : Rel S M) (w p : Int32) : f_X4_notPart M w p = f_X3_refusalInHand S (f_X3_isOneOf w 3) (f_X3_isOneOf p 2) := by
  unfold f_X4_notPart
  rw [m_isWhom, m_isIn1]
  cases f_X3_isOneOf w 3
  · rw [rih_f]; rfl
  cases f_X3_isOneOf p 2
  · rw [rih_tf]; rfl
  · by_cases h : jIn (S.1 0 0) (S.1 0 1)
    · rw [rih_y h, if_neg (by decide), if_neg (by decide), if_neg (R.in0.mp h)]
    · rw [rih_n h, if_neg (by decide), if_neg (by decide), if_pos (Classical.not_not.mp (fun z => h (R.in0.mpr z)))]
/-- the numbers of the one in hand -/
theorem Rel.at {S M : ST} (R : Rel S M) {p : Int32} (h : jIn (S.1 0 0) p) : Int32.toNatClampNeg p < 5 ∧ (0 ≤ p ∧ p < 5) ∧ (S.1 5 (Int32.toNatClampNeg p) = M.1 2 (Int32.toNatClampNeg p) ∧ S.1 6 (Int32.toNatClampNeg p) = M.1 3 (Int32.toNatClampNeg p) ∧ S.1 7 (Int32.toNatClampNeg p) = M.1 4 (Int32.toNatClampNeg p) ∧ S.1 8 (Int32.toNatClampNeg p) = M.1 5 (Int32.toNatClampNeg p)) ∧
    ((0 ≤ S.1 5 (Int32.toNatClampNeg p) ∧ S.1 5 (Int32.toNatClampNeg p) < 6) ∧ (0 ≤ S.1 6 (Int32.toNatClampNeg p) ∧ S.1 6 (Int32.toNatClampNeg p) ≤ 9) ∧ (1 ≤ S.1 7 (Int32.toNatClampNeg p) ∧ S.1 7 (Int32.toNatClampNeg p) ≤ 9) ∧ (0 ≤ S.1 8 (Int32.toNatClampNeg p) ∧ S.1 8 (Int32.toNatClampNeg p) ≤ 240)) := by
  have h0 : 0 ≤ p := by have := h.1; grind
  obtain ⟨j, hj, rfl⟩ := p_ix (n := 5) (by decide) h0 h.2.2
  have h1 : Int32.ofNat j < S.1 0 0 := by have := h.2.1; grind
  rw [p_tn (by omega)]
  have g1 := R.g.2.2.2.1 j hj h1
  exact ⟨hj, ⟨h0, h.2.2⟩, R.k.2.2.2 j hj h1, g1.1, g1.2.1, ⟨R.g.2.2.2.2 j hj h1, g1.2.2.1.2⟩, g1.2.2.2⟩
theorem Rel.hm {S M : ST} (R : Rel S M) (h : jIn (S.1 0 0) (S.1 0 1)) : HM M.1 (S.1 5 (jj S)) (S.1 8 (jj S)) (S.1 7 (jj S)) := by
  have e : S.1 0 1 = M.1 0 1 := R.k.1.2.1
  obtain ⟨-, h2, h3, h4, -, -, h5⟩ := R.at h
  unfold HM jj
  rw [← e]
  exact ⟨h2, h3.1.symm, h3.2.2.2.symm, h3.2.2.1.symm, h4, h5⟩
theorem Rel.seen {S M : ST} (R : Rel S M) : ∃ c : Nat, c ≤ 8 ∧ S.1 0 2 = Int32.ofNat c ∧ M.1 0 2 = Int32.ofNat c := by
  have h := R.g.1.2.2.1
  obtain ⟨c, hc, e⟩ := p_ix (n := 9) (by decide) h.1 (show S.1 0 2 < 9 by grind)
  exact ⟨c, by omega, e, by rw [← e]; exact R.k.1.2.2.1.symm⟩
def Tk (S M S2 M2 : ST) : Prop := Rel S2 M2 ∧ cS S S2 ∧ M2.1 = M.1 ∧ E5 (S2.2 0) (TV S) ∧ E5 (M2.2 0) (TV S) ∧ (S2.1 34 0 = S.1 5 (jj S) ∧ S2.1 34 1 = S.1 6 (jj S) ∧ S2.1 34 2 = S.1 7 (jj S) ∧ S2.1 34 3 = S.1 8 (jj S)) ∧ HM M2.1 (S.1 5 (jj S)) (S.1 8 (jj S)) (S.1 7 (jj S)) ∧ S2.1 0 3 = S.1 0 3 ∧ M2.1 0 4 = S.1 0 3
theorem think_both {S M : ST} (R : Rel S M) (h : jIn (S.1 0 0) (S.1 0 1)) (k : Nat) : ∃ S2 M2, f_X3_think S (k + 200) = some S2 ∧ f_X4_findThought M (k + 200) = some M2 ∧ Tk S M S2 M2 := by
  obtain ⟨S2, a1, a2, a3, a4⟩ := c_think k h R.g.1.2.2.1
  obtain ⟨c, hc, e1, e2⟩ := R.seen
  obtain ⟨A, B⟩ := M
  have hT : ∀ i, i < 8 → S.1 1 i = A 7 i ∧ S.1 2 i = A 8 i := R.k.2.1
  have hT2 : ∀ i, i < 8 → 0 ≤ A 7 i ∧ A 7 i < 4 := fun i hi => by rw [← (hT i hi).1]; exact (R.g.2.1 i hi).1
  obtain ⟨B2, b1, b2⟩ := m_think (R.hm h) k c hc e2 hT2 B
  refine ⟨S2, (A, B2), a1, b1, R.frame a2 (fun _ _ => rfl), a2, rfl, a3, ?_, a4, R.hm h, a2 0 (by decide) (by decide) ▸ rfl, R.k.1.2.2.2.1.symm⟩
  unfold TV
  rw [e1, p_tn (by omega), tvn_congr c (fun i hi => hT i (by omega))]
  exact b2
/-! first answers -/
theorem o_best {S M : ST} (R : Rel S M) (k : Nat) (w : Int32) : O2 (f_X3_best S w (k + 200)) (f_X4_best M w (k + 200)) := by
  unfold f_X3_best f_X4_best
  rw [m_notBest R]
  by_cases hz : f_X3_refusalInHand S (f_X3_isOneOf w 3) true = 0
  · rw [if_pos hz, if_pos hz]
    cases hw : f_X3_isOneOf w 3
    · rw [hw, rih_f] at hz; exact absurd hz (by decide)
    by_cases hj : jIn (S.1 0 0) (S.1 0 1)
    · obtain ⟨S2, M2, h1, h2, T⟩ := think_both R hj k
      rw [h1, h2]
      simp only [p_bs, c_buse, m_buse0 k M2 (one_iff.mp hw)]
      refine ⟨_, S2, M2, rfl, ?_, T.1⟩
      rw [T.2.2.2.2.2.2.2.1, T.2.2.2.2.2.2.2.2, T.2.2.2.1.b, T.2.2.2.2.1.b]
    · rw [hw, rih_n hj] at hz; exact absurd hz (by decide)
  · rw [if_neg hz, if_neg hz]
    exact ref_no R (rih_R hz) k
