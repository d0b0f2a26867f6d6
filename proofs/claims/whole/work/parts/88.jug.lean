/-! a jug comes, on both sides -/
theorem KR.add {K A : Nat → Nat → Int32} (R : KR K A) {c : Nat} (hc : c < 5) (e1 : K 0 0 = Int32.ofNat c) (e2 : A 0 0 = Int32.ofNat c) {a b u p : Int32} (ha : 0 ≤ a ∧ a < 6) (hb : 0 ≤ b ∧ b ≤ 9) (hu : 1 ≤ u ∧ u ≤ 9) (hp : 0 ≤ p ∧ p ≤ 240) : KR (kE (kE (kE (kE (kE K 0 0 (K 0 0 + 1)) 5 c a) 6 c b) 7 c u) 8 c p) (kE (kE (kE (kE (kE A 0 0 (A 0 0 + 1)) 2 c a) 3 c b) 4 c u) 5 c p) := by
  have k00 : kE (kE (kE (kE (kE K 0 0 (K 0 0 + 1)) 5 c a) 6 c b) 7 c u) 8 c p 0 0 = Int32.ofNat (c + 1) := by
    simp [kE_at, e1, p_succ]
  have k0 : ∀ i, i ≠ 0 → kE (kE (kE (kE (kE K 0 0 (K 0 0 + 1)) 5 c a) 6 c b) 7 c u) 8 c p 0 i = K 0 i := fun i hi => by simp [kE_at, hi]
  have k1 : ∀ r i, 1 ≤ r → r ≤ 4 → kE (kE (kE (kE (kE K 0 0 (K 0 0 + 1)) 5 c a) 6 c b) 7 c u) 8 c p r i = K r i := fun r i h1 h2 => by
    rw [kE_at, if_neg (by omega), kE_at, if_neg (by omega), kE_at, if_neg (by omega), kE_at, if_neg (by omega), kE_at, if_neg (by omega)]
  have kc : kE (kE (kE (kE (kE K 0 0 (K 0 0 + 1)) 5 c a) 6 c b) 7 c u) 8 c p 5 c = a ∧ kE (kE (kE (kE (kE K 0 0 (K 0 0 + 1)) 5 c a) 6 c b) 7 c u) 8 c p 6 c = b ∧ kE (kE (kE (kE (kE K 0 0 (K 0 0 + 1)) 5 c a) 6 c b) 7 c u) 8 c p 7 c = u ∧ kE (kE (kE (kE (kE K 0 0 (K 0 0 + 1)) 5 c a) 6 c b) 7 c u) 8 c p 8 c = p := by simp [kE_at]
  have kn : ∀ r i, 5 ≤ r → i ≠ c → kE (kE (kE (kE (kE K 0 0 (K 0 0 + 1)) 5 c a) 6 c b) 7 c u) 8 c p r i = K r i := fun r i h1 h2 => by
    rw [kE_at, if_neg (by omega), kE_at, if_neg (by omega), kE_at, if_neg (by omega), kE_at, if_neg (by omega), kE_at, if_neg (by omega)]
  have a00 : kE (kE (kE (kE (kE A 0 0 (A 0 0 + 1)) 2 c a) 3 c b) 4 c u) 5 c p 0 0 = Int32.ofNat (c + 1) := by
    simp [kE_at, e2, p_succ]
  have a0 : ∀ i, i ≠ 0 → kE (kE (kE (kE (kE A 0 0 (A 0 0 + 1)) 2 c a) 3 c b) 4 c u) 5 c p 0 i = A 0 i := fun i hi => by simp [kE_at, hi]
  have a1 : ∀ r i, 6 ≤ r → kE (kE (kE (kE (kE A 0 0 (A 0 0 + 1)) 2 c a) 3 c b) 4 c u) 5 c p r i = A r i := fun r i h1 => by
    rw [kE_at, if_neg (by omega), kE_at, if_neg (by omega), kE_at, if_neg (by omega), kE_at, if_neg (by omega), kE_at, if_neg (by omega)]
  have ac : kE (kE (kE (kE (kE A 0 0 (A 0 0 + 1)) 2 c a) 3 c b) 4 c u) 5 c p 2 c = a ∧ kE (kE (kE (kE (kE A 0 0 (A 0 0 + 1)) 2 c a) 3 c b) 4 c u) 5 c p 3 c = b ∧ kE (kE (kE (kE (kE A 0 0 (A 0 0 + 1)) 2 c a) 3 c b) 4 c u) 5 c p 4 c = u ∧ kE (kE (kE (kE (kE A 0 0 (A 0 0 + 1)) 2 c a) 3 c b) 4 c u) 5 c p 5 c = p := by simp [kE_at]
  have an : ∀ r i, 1 ≤ r → i ≠ c → kE (kE (kE (kE (kE A 0 0 (A 0 0 + 1)) 2 c a) 3 c b) 4 c u) 5 c p r i = A r i := fun r i h1 h2 => by
    rw [kE_at, if_neg (by omega), kE_at, if_neg (by omega), kE_at, if_neg (by omega), kE_at, if_neg (by omega), kE_at, if_neg (by omega)]
  generalize kE (kE (kE (kE (kE K 0 0 (K 0 0 + 1)) 5 c a) 6 c b) 7 c u) 8 c p = K2 at *
  generalize kE (kE (kE (kE (kE A 0 0 (A 0 0 + 1)) 2 c a) 3 c b) 4 c u) 5 c p = A2 at *
  have hlt : ∀ i, i < 5 → Int32.ofNat i < K2 0 0 → i ≠ c → Int32.ofNat i < K 0 0 := fun i hi h h2 => by
    rw [k00] at h
    rw [e1]
    have := (p_lt (by omega) (by omega)).mp h
    exact (p_lt (by omega) (by omega)).mpr (by omega)
  have hc1 : Int32.ofNat c < Int32.ofNat (c + 1) := (p_lt (by omega) (by omega)).mpr (by omega)
  obtain ⟨⟨⟨-, r1, r2, r3, r4⟩, r5, r6, r7⟩, ⟨g0, g1, g2, g3, g4⟩, h5, h6, h7, h8⟩ := R
  refine ⟨⟨⟨?_, ?_, ?_, ?_, ?_⟩, fun i hi => ?_, fun i hi => ?_, fun i hi hj => ?_⟩, ⟨?_, ?_, ?_, ?_, ?_⟩, fun i hi => ?_, fun i hi => ?_, fun i hi hj => ?_, fun i hi hj => ?_⟩
  · exact k00.trans a00.symm
  · exact (k0 1 (by decide)).trans (r1.trans (a0 1 (by decide)).symm)
  · exact (k0 2 (by decide)).trans (r2.trans (a0 2 (by decide)).symm)
  · exact (k0 3 (by decide)).trans (r3.trans (a0 4 (by decide)).symm)
  · exact (k0 4 (by decide)).trans (r4.trans (a0 3 (by decide)).symm)
  · exact ⟨(k1 1 i (by decide) (by decide)).trans ((r5 i hi).1.trans (a1 7 i (by decide)).symm), (k1 2 i (by decide) (by decide)).trans ((r5 i hi).2.trans (a1 8 i (by decide)).symm)⟩
  · exact ⟨(k1 3 i (by decide) (by decide)).trans ((r6 i hi).1.trans (a1 6 i (by decide)).symm), (k1 4 i (by decide) (by decide)).trans ((r6 i hi).2.trans (a1 9 i (by decide)).symm)⟩
  · by_cases h : i = c
    · subst h
      exact ⟨kc.1.trans ac.1.symm, kc.2.1.trans ac.2.1.symm, kc.2.2.1.trans ac.2.2.1.symm, kc.2.2.2.trans ac.2.2.2.symm⟩
    · have q := r7 i hi (hlt i hi hj h)
      exact ⟨(kn 5 i (by decide) h).trans (q.1.trans (an 2 i (by decide) h).symm), (kn 6 i (by decide) h).trans (q.2.1.trans (an 3 i (by decide) h).symm), (kn 7 i (by decide) h).trans (q.2.2.1.trans (an 4 i (by decide) h).symm), (kn 8 i (by decide) h).trans (q.2.2.2.trans (an 5 i (by decide) h).symm)⟩
  · rw [k00]
    exact ⟨(p_le (a := 0) (by omega) (by omega)).mpr (by omega), (p_le (b := 5) (by omega) (by omega)).mpr (by omega)⟩
  · rw [k0 1 (by decide), k00]
    rw [e1] at g1
    refine ⟨g1.1, Or.inl ?_⟩
    rcases g1.2 with h | ⟨h, h2⟩
    · grind
    · rw [h2]
      exact (p_lt (a := 0) (by omega) (by omega)).mpr (by omega)
  · rw [k0 2 (by decide)]; exact g2
  · rw [k0 3 (by decide)]; exact g3
  · rw [k0 4 (by decide)]; exact g4
  · rw [k1 1 i (by decide) (by decide), k1 2 i (by decide) (by decide)]; exact h5 i hi
  · rw [k1 3 i (by decide) (by decide), k1 4 i (by decide) (by decide)]; exact h6 i hi
  · by_cases h : i = c
    · subst h
      rw [kc.1, kc.2.1, kc.2.2.1, kc.2.2.2]
      exact ⟨ha, hb, ⟨by have := hu.1; grind, hu.2⟩, hp⟩
    · rw [kn 5 i (by decide) h, kn 6 i (by decide) h, kn 7 i (by decide) h, kn 8 i (by decide) h]
      exact h7 i hi (hlt i hi hj h)
  · by_cases h : i = c
    · subst h
      rw [kc.2.2.1]; exact hu.1
    · rw [kn 7 i (by decide) h]
      exact h8 i hi (hlt i hi hj h)
theorem p_add (a b : Nat) : Int32.ofNat a + Int32.ofNat b = Int32.ofNat (a + b) := (Int32.ofNat_add a b).symm
theorem m_cj (k : Nat) (A : Nat → Nat → Int32) (B : Nat → Nat → Int64) {t c : Nat} (ht : t < 48) {a b u p : Int32} (e0 : A 13 (4 * t) = a) (e1 : A 13 (4 * t + 1) = b) (e2 : A 13 (4 * t + 2) = u) (e3 : A 13 (4 * t + 3) = p) (c2 : A 0 0 = Int32.ofNat c) (hc : c ≤ 5) : f_X4_comesJug (A, B) (Int32.ofNat (4 * t)) (k + 200) = if 5 < a then some (false, (A, B)) else if u = 0 then some (false, (A, B)) else if 240 < p then some (false, (A, B)) else if c = 5 then some (false, (A, B)) else some (true, (kE (kE (kE (kE (kE A 0 0 (Int32.ofNat c + 1)) 2 c a) 3 c b) 4 c u) 5 c p, B)) := by
  have s1 : Int32.ofNat (4 * t) + 1 = Int32.ofNat (4 * t + 1) := p_add (4 * t) 1
  have s2 : Int32.ofNat (4 * t) + 2 = Int32.ofNat (4 * t + 2) := p_add (4 * t) 2
  have s3 : Int32.ofNat (4 * t) + 3 = Int32.ofNat (4 * t + 3) := p_add (4 * t) 3
  have b0 : (Int32.ofNat (4 * t) < 0 ∨ 192 ≤ 4 * t) = False := eq_false (p_nbi (by omega) (by decide))
  have b1 : (Int32.ofNat (4 * t + 1) < 0 ∨ 192 ≤ 4 * t + 1) = False := eq_false (p_nbi (by omega) (by decide))
  have b2 : (Int32.ofNat (4 * t + 2) < 0 ∨ 192 ≤ 4 * t + 2) = False := eq_false (p_nbi (by omega) (by decide))
  have b3 : (Int32.ofNat (4 * t + 3) < 0 ∨ 192 ≤ 4 * t + 3) = False := eq_false (p_nbi (by omega) (by decide))
  have t0 : Int32.toNatClampNeg (Int32.ofNat (4 * t)) = 4 * t := p_tn (by omega)
  have t1 : Int32.toNatClampNeg (Int32.ofNat (4 * t + 1)) = 4 * t + 1 := p_tn (by omega)
  have t2 : Int32.toNatClampNeg (Int32.ofNat (4 * t + 2)) = 4 * t + 2 := p_tn (by omega)
  have t3 : Int32.toNatClampNeg (Int32.ofNat (4 * t + 3)) = 4 * t + 3 := p_tn (by omega)
  have tc : Int32.toNatClampNeg (Int32.ofNat c) = c := p_tn (by omega)
  unfold f_X4_comesJug
  dsimp only
  simp only [s1, s2, s3, t0, t1, t2, t3, b0, b1, b2, b3, if_false, e0, e1, e2, e3, c2, tc]
  by_cases q1 : 5 < a
  · simp only [if_pos q1]
  · by_cases q2 : u = 0
    · simp only [if_neg q1, if_pos q2]
    · by_cases q3 : 240 < p
      · simp only [if_neg q1, if_neg q2, if_pos q3]
      · by_cases q4 : c = 5
        · subst q4
          simp only [if_neg q1, if_neg q2, if_neg q3, if_pos (show Int32.ofNat 5 = 5 from rfl), if_true]
        · have hc5 : c < 5 := by omega
          have n5 : ¬ Int32.ofNat c = 5 := fun z => by
            have := (p_lt (a := c) (b := 5) (by omega) (by omega)).mpr hc5
            rw [z] at this
            exact absurd this (by decide)
          simp only [if_neg q1, if_neg q2, if_neg q3, if_neg q4, if_neg n5, if_neg (p_nbi hc5 (show 5 < 2147483648 by decide))]
          rfl
theorem cm_jug {S : ST} {A : Nat → Nat → Int32} (B : Nat → Nat → Int64) (R : KR (kR S.1 1) A) (k : Nat) (y : Nat → Nat → Nat) {t : Nat} (ht : t < 48) {a b u p : Int32} (e0 : A 13 (4 * t) = a) (e1 : A 13 (4 * t + 1) = b) (e2 : A 13 (4 * t + 2) = u) (e3 : A 13 (4 * t + 3) = p) (ha : 0 ≤ a ∧ a ≤ 9) (hb : 0 ≤ b ∧ b ≤ 9) (hu : 0 ≤ u ∧ u ≤ 9) (hp : 0 ≤ p ∧ p ≤ 999) : CM S A B (some (((f_X1_addJug (kR S.1 1) a b u p).1), y, ((kP S.1 1 ((f_X1_addJug (kR S.1 1) a b u p).2)), S.2))) ((f_X4_comesJug (A, B) (Int32.ofNat (4 * t)) (k + 200)).bind fun v3 => some (v3.1, v3.2)) := by
  obtain ⟨c, hc, c1, c2⟩ := R.jc
  have hno : (f_X1_addJug (kR S.1 1) a b u p).1 = false → CM S A B (some (((f_X1_addJug (kR S.1 1) a b u p).1), y, ((kP S.1 1 ((f_X1_addJug (kR S.1 1) a b u p).2)), S.2))) (some (false, (A, B))) := fun h => by
    rw [h]
    exact CM.no (kP1_o S.1 _)
  have n1 : ∀ x : Nat, f_X3_isOneOf b 10 = true := fun _ => one_iff.mpr ⟨hb.1, by have := hb.2; grind⟩
  have n1 := n1 0
  rw [p_bp, m_cj k A B ht e0 e1 e2 e3 c2 hc]
  by_cases q1 : 5 < a
  · rw [if_pos q1]
    refine hno ?_
    unfold f_X1_addJug
    have : f_X3_isOneOf a 6 = false := by
      cases h : f_X3_isOneOf a 6
      · rfl
      · have := (one_iff.mp h).2; grind
    rw [this]; rfl
  · rw [if_neg q1]
    have n2 : f_X3_isOneOf a 6 = true := one_iff.mpr ⟨ha.1, by grind⟩
    by_cases q2 : u = 0
    · rw [if_pos q2]
      refine hno ?_
      unfold f_X1_addJug
      rw [n1, n2, if_pos (show u < 1 by rw [q2]; decide)]; rfl
    · rw [if_neg q2]
      have hu1 : 1 ≤ u := by have := hu.1; grind
      by_cases q3 : 240 < p
      · rw [if_pos q3]
        refine hno ?_
        unfold f_X1_addJug
        rw [n1, n2, if_neg (show ¬ u < 1 by grind), if_pos hu.2, if_neg (show ¬ p < 0 by have := hp.1; grind), if_neg (show ¬ p < 0 by have := hp.1; grind), if_pos q3, if_pos q3]
        split <;> (try rfl) <;> (split <;> (try rfl) <;> (split <;> rfl))
      · rw [if_neg q3]
        by_cases q4 : c = 5
        · subst q4
          rw [if_pos rfl]
          refine hno ?_
          unfold f_X1_addJug
          rw [n1, n2, if_neg (show ¬ u < 1 by grind), if_pos hu.2, if_neg (show ¬ p < 0 by have := hp.1; grind), if_neg (show ¬ p < 0 by have := hp.1; grind), if_neg q3, if_neg q3, c1]
          rfl
        · have hc5 : c < 5 := by omega
          rw [if_neg q4]
          have n3 : f_X3_isOneOf (kR S.1 1 0 0) 5 = true := one_iff.mpr ⟨by rw [c1]; exact (p_le (a := 0) (by omega) (by omega)).mpr (by omega), by rw [c1]; exact (p_lt (b := 5) (by omega) (by omega)).mpr hc5⟩
          have h7 := R.add hc5 c1 c2 ⟨ha.1, show a < 6 by grind⟩ hb ⟨hu1, hu.2⟩ ⟨hp.1, show p ≤ 240 by grind⟩
          unfold f_X1_addJug f_X0_fill
          rw [n1, n2, n3, if_neg (show ¬ u < 1 by grind), if_pos hu.2, if_neg (show ¬ p < 0 by have := hp.1; grind), if_neg (show ¬ p < 0 by have := hp.1; grind), if_neg q3, if_neg q3, if_neg (show ¬ b2i true = 0 by decide), if_neg (show ¬ b2i true = 0 by decide), if_neg (show ¬ b2i true = 0 by decide), c1, p_tn (show c < 2147483648 by omega)]
          rw [c1, c2] at h7
          refine ⟨true, y, _, kE (kE (kE (kE (kE A 0 0 (Int32.ofNat c + 1)) 2 c a) 3 c b) 4 c u) 5 c p, rfl, rfl, fun _ => h7.c2 (kR1_kP S.1 _), kP1_o S.1 _, fun r hr => ?_, fun z hz => ?_⟩
          · show (if r = 5 then _ else (if r = 4 then _ else (if r = 3 then _ else (if r = 2 then _ else (if r = 0 then _ else A r))))) = _
            rw [if_neg (by omega), if_neg (by omega), if_neg (by omega), if_neg (by omega), if_neg (by omega)]
          · rw [kE_at, if_neg (by omega), kE_at, if_neg (by omega), kE_at, if_neg (by omega), kE_at, if_neg (by omega), kE_at, if_neg (by omega)]
