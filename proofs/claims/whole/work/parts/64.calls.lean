/-! calls that write the kitchen -/
theorem RKt.id' {K L K2 L2 : Nat → Nat → Int32} (h : RKt K L) (e : K2 = K) (f : ∀ r i, r < 9 → i < 8 → (r = 0 → i < 5) → L2 r i = L r i) : RKt K2 L2 := h.congrP (fun r i _ _ _ => by rw [e]) f
theorem Rel.upd1 {S M : ST} (R : Rel S M) (ca ja ma mj : Nat) (v : Int32) (hK : RKt (kE S.1 ca ja v) (mK (kE M.1 ma mj v))) (hG : GK (kE S.1 ca ja v)) (hc : ca < 9) (hm : 2 ≤ ma ∧ ma < 10 ∨ ma = 0 ∧ mj < 5) (B1 B2 : Nat → Nat → Int64) : Rel (kE S.1 ca ja v, B1) (kE M.1 ma mj v, B2) := by
  refine R.now hK hG (fun r h1 _ _ => ?_) ?_
  · show (if r = ca then _ else S.1 r) = _
    rw [if_neg (by omega)]
  · have e : ∀ r, r ≠ ma → kE M.1 ma mj v r = M.1 r := fun r h => by
      show (if r = ma then _ else M.1 r) = _
      rw [if_neg h]
    dsimp only
    refine ⟨e 1 (by omega), e 10 (by omega), fun i _ => by rw [e 14 (by omega)], e 15 (by omega), ?_, ?_, ?_⟩ <;> rw [kE_at, if_neg (by omega)]
theorem Rel.uHand {S M : ST} (R : Rel S M) (v : Int32) (hv : 0 ≤ v ∧ (v < S.1 0 0 ∨ S.1 0 0 = 0 ∧ v = 0)) : Rel (kE S.1 0 1 v, S.2) (kE M.1 0 1 v, M.2) := R.upd1 0 1 0 1 v ((R.k.row0 1 (by decide) v).id' rfl (mK_s1 M.1 v)) (R.g.hand v hv) (by decide) (by decide) _ _
theorem Rel.uSeen {S M : ST} (R : Rel S M) (v : Int32) (hv : 0 ≤ v ∧ v ≤ 8) : Rel (kE S.1 0 2 v, S.2) (kE M.1 0 2 v, M.2) := R.upd1 0 2 0 2 v ((R.k.row0 2 (by decide) v).id' rfl (mK_s2 M.1 v)) (R.g.seen v hv) (by decide) (by decide) _ _
theorem Rel.uPrice {S M : ST} (R : Rel S M) (v : Int32) (hv : 0 ≤ v ∧ v ≤ 9) : Rel (kE S.1 0 3 v, S.2) (kE M.1 0 4 v, M.2) := R.upd1 0 3 0 4 v ((R.k.row0 3 (by decide) v).id' rfl (mK_s4 M.1 v)) (R.g.price v hv) (by decide) (by decide) _ _
theorem Rel.uPeople {S M : ST} (R : Rel S M) (v : Int32) (hv : 0 ≤ v ∧ v ≤ 4) : Rel (kE S.1 0 4 v, S.2) (kE M.1 0 3 v, M.2) := R.upd1 0 4 0 3 v ((R.k.row0 4 (by decide) v).id' rfl (mK_s3 M.1 v)) (R.g.people v hv) (by decide) (by decide) _ _
theorem Rel.uTest {S M : ST} (R : Rel S M) (j : Nat) (v : Int32) (hv : 0 ≤ v ∧ v < 4) : Rel (kE S.1 1 j v, S.2) (kE M.1 7 j v, M.2) := R.upd1 1 j 7 j v ((R.k.row14 1 j (by decide) v).id' rfl (mK_e7 M.1 j v)) (R.g.test j v hv) (by decide) (by omega) _ _
theorem Rel.uOff {S M : ST} (R : Rel S M) (j : Nat) (v : Int32) (hv : 0 ≤ v ∧ v < 2) : Rel (kE S.1 2 j v, S.2) (kE M.1 8 j v, M.2) := R.upd1 2 j 8 j v ((R.k.row14 2 j (by decide) v).id' rfl (mK_e8 M.1 j v)) (R.g.off j v hv) (by decide) (by omega) _ _
theorem Rel.uCost {S M : ST} (R : Rel S M) (j : Nat) (v : Int32) (hv : 0 ≤ v ∧ v ≤ 9) : Rel (kE S.1 3 j v, S.2) (kE M.1 6 j v, M.2) := R.upd1 3 j 6 j v ((R.k.row14 3 j (by decide) v).id' rfl (mK_e6 M.1 j v)) (R.g.cost j v hv) (by decide) (by omega) _ _
theorem Rel.uPerson {S M : ST} (R : Rel S M) (j : Nat) (v : Int32) (hv : 0 ≤ v ∧ v ≤ 4) : Rel (kE S.1 4 j v, S.2) (kE M.1 9 j v, M.2) := R.upd1 4 j 9 j v ((R.k.row14 4 j (by decide) v).id' rfl (mK_e9 M.1 j v)) (R.g.person j v hv) (by decide) (by omega) _ _
theorem Rel.uPoints {S M : ST} (R : Rel S M) (j : Nat) (v : Int32) (hv : 0 ≤ v ∧ v ≤ 240) : Rel (kE S.1 8 j v, S.2) (kE M.1 5 j v, M.2) := R.upd1 8 j 5 j v ((R.k.row58 8 j (by decide) v).id' rfl (mK_e5 M.1 j v)) (R.g.points j v hv) (by decide) (by omega) _ _
theorem Rel.uCups {S M : ST} (R : Rel S M) (j : Nat) (v : Int32) (hv : 1 ≤ v ∧ v ≤ 9) : Rel (kE S.1 7 j v, S.2) (kE M.1 4 j v, M.2) := R.upd1 7 j 4 j v ((R.k.row58 7 j (by decide) v).id' rfl (mK_e4 M.1 j v)) (R.g.cups j v hv) (by decide) (by omega) _ _
theorem o_price {S M : ST} (R : Rel S M) (k : Nat) (p0 : Int32) : O2 (some (f_X3_price S p0)) (f_X4_price M p0 (k + 200)) := by
  unfold f_X3_price f_X4_price
  rw [m_bound]
  by_cases hz : f_X3_refusalOutside p0 0 9 = 0
  · rw [if_pos hz, if_pos hz]
    exact ⟨_, _, _, rfl, by rw [show M.1 0 4 = S.1 0 3 from R.k.1.2.2.2.1.symm]; rfl, R.uPrice p0 (out_0.mp hz)⟩
  · rw [if_neg hz, if_neg hz]
    exact ref_no R (out_R hz) k
theorem o_cost {S M : ST} (R : Rel S M) (k : Nat) (p0 p1 : Int32) : O2 (some (f_X3_cost S p0 p1)) (f_X4_cost M p0 p1 (k + 200)) := by
  unfold f_X3_cost f_X4_cost
  rw [m_bound, m_isTest]
  cases h0 : f_X3_isOneOf p0 4
  · simp only [b2i_f0, if_true]
    exact ref_no R (Or.inl rfl) k
  simp only [b2i_t0, if_false]
  by_cases hz : f_X3_refusalOutside p1 0 9 = 0
  · rw [if_pos hz, if_pos hz]
    have h0' := one_iff.mp h0
    have hb := p_nb (n := 4) (by decide) h0'.1 h0'.2
    rw [if_neg hb, if_neg hb]
    obtain ⟨j, hj, rfl⟩ := p_ix (n := 4) (by decide) h0'.1 h0'.2
    unfold f_X1_costOf f_X1_setCost
    rw [p_at (by decide) hj, h0, if_neg (by decide), p_tn (by omega)]
    exact ⟨_, _, _, rfl, by rw [show M.1 6 j = S.1 3 j from (R.k.2.2.1 j hj).1.symm]; rfl, R.uCost j p1 (out_0.mp hz)⟩
  · rw [if_neg hz, if_neg hz]
    exact ref_no R (out_R hz) k
theorem o_nobody {S M : ST} (R : Rel S M) : O2 (some (f_X3_nobody S)) (some (f_X4_nobody M)) :=
  ⟨_, _, _, rfl, by unfold f_X4_nobody; rw [show M.1 0 3 = S.1 0 4 from R.k.1.2.2.2.2.symm]; rfl, R.uPeople 0 (by decide)⟩
theorem o_person {S M : ST} (R : Rel S M) (k : Nat) (p0 : Int32) : O2 (some (f_X3_person S p0)) (f_X4_person M p0 (k + 200)) := by
  unfold f_X3_person f_X4_person f_X1_addPerson
  rw [m_isIn4]
  cases h0 : f_X3_isOneOf p0 5
  · simp only [b2i_f0, if_true]
    exact ref_no R (Or.inr (Or.inl rfl)) k
  simp only [b2i_t0, if_false]
  have e : M.1 0 3 = S.1 0 4 := R.k.1.2.2.2.2.symm
  have g := R.g.1.2.2.2.2
  obtain ⟨c, hc, e2⟩ := p_ix (n := 5) (by decide) g.1 (show S.1 0 4 < 5 by have := g.2; grind)
  rw [e]
  by_cases h4 : S.1 0 4 = 4
  · have h5 : f_X3_isOneOf (S.1 0 4) 4 = false := by rw [h4]; decide
    simp only [h5, b2i_f0, if_true, if_pos h4]
    refine ref_no (S := (kS (kS S.1 0 (upd (S.1 0) 4 (S.1 0 4))) 4 (S.1 4), S.2)) ?_ (Or.inr (Or.inr (Or.inr (Or.inr rfl)))) k
    have e : kS (kS S.1 0 (upd (S.1 0) 4 (S.1 0 4))) 4 (S.1 4) = S.1 := by
      funext r i
      unfold kS upd
      by_cases h1 : r = 4
      · simp [h1]
      · by_cases h2 : r = 0
        · subst h2
          by_cases h3 : i = 4 <;> simp [h3]
        · simp [h1, h2]
    rw [e]
    exact R
  · have h5 : f_X3_isOneOf (S.1 0 4) 4 = true := one_iff.mpr ⟨g.1, by have := g.2; grind⟩
    have h6 := one_iff.mp h5
    have hb := p_nb (n := 4) (by decide) h6.1 h6.2
    simp only [h5, b2i_t0, if_false, if_neg h4, if_neg hb]
    have hp := one_iff.mp h0
    exact ⟨_, _, _, rfl, rfl, (R.uPeople (S.1 0 4 + 1) (by have := h6.1; have := h6.2; constructor <;> grind)).uPerson (Int32.toNatClampNeg (S.1 0 4)) p0 (by have := hp.2; constructor; exact hp.1; grind)⟩
theorem o_unsee {S M : ST} (R : Rel S M) (k : Nat) : O2 (some (f_X3_unsee S)) (f_X4_unsee M (k + 200)) := by
  unfold f_X3_unsee f_X4_unsee
  have e : M.1 0 2 = S.1 0 2 := R.k.1.2.2.1.symm
  have g := R.g.1.2.2.1
  rw [e]
  by_cases h : S.1 0 2 = 0
  · rw [if_neg (by rw [h]; decide), if_pos h]
    exact ref_no R (Or.inr (Or.inr (Or.inl rfl))) k
  · rw [if_pos (show 0 < S.1 0 2 by grind), if_neg h]
    exact ⟨_, _, _, rfl, rfl, R.uSeen (S.1 0 2 - 1) (by constructor <;> grind)⟩
theorem kE2 (K : Nat → Nat → Int32) (p q : Int32) : kS K 0 (upd (upd (K 0) 1 p) 2 q) = kE (kE K 0 1 p) 0 2 q := by
  funext r i
  rw [kE_at, kE_at]
  unfold kS upd
  by_cases h1 : r = 0
  · subst h1
    by_cases h2 : i = 2
    · simp [h2]
    · by_cases h3 : i = 1 <;> simp [h2, h3]
  · simp [h1]
theorem kE2_id (K : Nat → Nat → Int32) : kS K 0 (upd (upd (K 0) 1 (K 0 1)) 2 (K 0 2)) = K := by
  funext r i
  unfold kS upd
  by_cases h1 : r = 0
  · subst h1
    by_cases h2 : i = 2
    · simp [h2]
    · by_cases h3 : i = 1 <;> simp [h2, h3]
  · simp [h1]
theorem Rel.hand' {S M : ST} (R : Rel S M) {p : Int32} (h : jIn (S.1 0 0) p) : Rel (kS S.1 0 (upd (upd (S.1 0) 1 p) 2 0), S.2) (kS M.1 0 (upd (upd (M.1 0) 1 p) 2 0), M.2) := by
  rw [kE2, kE2]
  have g := R.at h
  exact (R.uHand p ⟨g.2.1.1, Or.inl (by have := h.2.1; grind)⟩).uSeen 0 (by decide)
theorem o_hand {S M : ST} (R : Rel S M) (k : Nat) (p0 : Int32) : O2 (some (f_X3_hand S p0)) (f_X4_hand M p0 (k + 200)) := by
  unfold f_X3_hand f_X4_hand f_X1_takeInHand
  rw [R.jug p0]
  by_cases hj : jIn (S.1 0 0) p0
  · simp only [if_pos hj]
    rw [if_neg (show ¬ b2i true = 0 by decide), if_neg (fun z => b2i_dec.mp z hj), show M.1 0 1 = S.1 0 1 from R.k.1.2.1.symm]
    exact ⟨_, _, _, rfl, rfl, R.hand' hj⟩
  · simp only [if_neg hj]
    rw [if_pos (show b2i false = 0 by decide), if_pos (b2i_dec.mpr hj), kE2_id]
    exact ref_no R (Or.inl rfl) k
theorem o_see {S M : ST} (R : Rel S M) (k : Nat) (p0 p1 : Int32) : O2 (some (f_X3_see S p0 p1)) (f_X4_see M p0 p1 (k + 200)) := by
  unfold f_X3_see f_X4_see
  rw [m_isTest, m_isIn1]
  cases h0 : f_X3_isOneOf p0 4
  · simp only [b2i_f0, if_true, rih_f]
    rw [if_neg (by decide)]
    exact ref_no R (Or.inl rfl) k
  cases h1 : f_X3_isOneOf p1 2
  · simp only [b2i_f0, b2i_t0, if_true, if_false, rih_tf]
    rw [if_neg (by decide)]
    exact ref_no R (Or.inr (Or.inl rfl)) k
  simp only [b2i_t0, if_false]
  by_cases hj : jIn (S.1 0 0) (S.1 0 1)
  · rw [rih_y hj, if_pos rfl, if_neg (R.in0.mp hj)]
    have e : M.1 0 2 = S.1 0 2 := R.k.1.2.2.1.symm
    have g := R.g.1.2.2.1
    unfold f_X1_addSeen
    simp only [if_pos hj, h0, h1, b2i_t0, if_false]
    rw [e]
    by_cases h4 : S.1 0 2 = 8
    · have h5 : f_X3_isOneOf (S.1 0 2) 8 = false := by rw [h4]; decide
      simp only [h5, b2i_f0, if_true, if_pos h4]
      refine ref_no (S := (kS (kS (kS S.1 0 (upd (S.1 0) 2 (S.1 0 2))) 1 (S.1 1)) 2 (S.1 2), S.2)) ?_ (Or.inr (Or.inr (Or.inr (Or.inr rfl)))) k
      have e : kS (kS (kS S.1 0 (upd (S.1 0) 2 (S.1 0 2))) 1 (S.1 1)) 2 (S.1 2) = S.1 := by
        funext r i
        unfold kS upd
        by_cases h1 : r = 2
        · simp [h1]
        · by_cases h2 : r = 1
          · simp [h2]
          · by_cases h3 : r = 0
            · subst h3
              by_cases h3 : i = 2 <;> simp [h3]
            · simp [h1, h2, h3]
      rw [e]
      exact R
    · have h5 : f_X3_isOneOf (S.1 0 2) 8 = true := one_iff.mpr ⟨g.1, by have := g.2; grind⟩
      have h6 := one_iff.mp h5
      have hb := p_nb (n := 8) (by decide) h6.1 h6.2
      unfold f_X4_sees
      rw [e]
      simp only [h5, b2i_t0, if_false, if_neg h4, if_neg hb, p_bs]
      have hp := one_iff.mp h0
      have hq := one_iff.mp h1
      refine ⟨_, _, _, rfl, ?_, ((R.uSeen (S.1 0 2 + 1) (by have := h6.1; have := h6.2; constructor <;> grind)).uTest (Int32.toNatClampNeg (S.1 0 2)) p0 hp).uOff (Int32.toNatClampNeg (S.1 0 2)) p1 hq⟩
      rfl
  · rw [rih_n hj, if_neg (by decide), if_pos (Classical.not_not.mp (fun z => hj (R.in0.mpr z)))]
    exact ref_no R (Or.inr (Or.inr (Or.inl rfl))) k
/-! points -/
theorem m_gain (pt x : Int32) : f_X4_heldPoints (pt + x) = f_X0_gain pt x := by
  unfold f_X4_heldPoints f_X0_gain
  generalize pt + x = y
  split <;> split <;> grind
theorem gain_in {pt x : Int32} (h : 0 ≤ pt ∧ pt ≤ 240) (hx : 0 ≤ x ∧ x ≤ 1000000) : 0 ≤ f_X0_gain pt x ∧ f_X0_gain pt x ≤ 240 := by
  unfold f_X0_gain
  have h1 : 0 ≤ pt + x := by have := h.1; have := h.2; have := hx.1; have := hx.2; grind
  split
  · rename_i h2
    exact ⟨h1, by grind⟩
  · exact ⟨by decide, by decide⟩
theorem p_prod {a b : Int32} (h1 : 0 ≤ a ∧ a ≤ 99) (h2 : 0 ≤ b ∧ b ≤ 99) : 0 ≤ a * b ∧ a * b ≤ 1000000 := by
  obtain ⟨x, hx, rfl⟩ := p_ix (n := 100) (by decide) h1.1 (show a < 100 by have := h1.2; grind)
  obtain ⟨y, hy, rfl⟩ := p_ix (n := 100) (by decide) h2.1 (show b < 100 by have := h2.2; grind)
  rw [← Int32.ofNat_mul]
  have h3 : x * y ≤ 99 * 99 := Nat.mul_le_mul (by omega) (by omega)
  rw [show (0 : Int32) = Int32.ofNat 0 from rfl, show (1000000 : Int32) = Int32.ofNat 1000000 from rfl, p_le (by omega) (by omega), p_le (by omega) (by omega)]
  omega
theorem cold_in {kd : Int32} : 0 ≤ f_X0_coldPoints kd ∧ f_X0_coldPoints kd ≤ 99 := by
  unfold f_X0_coldPoints
  repeat' split
  all_goals decide
theorem fig_all : ∀ a : Fin 10, (0 ≤ 6 - Int32.ofNat a.1 / 2 ∧ 6 - Int32.ofNat a.1 / 2 ≤ 99) ∧ (0 ≤ 4 + Int32.ofNat a.1 ∧ 4 + Int32.ofNat a.1 ≤ 99) := by decide +kernel
theorem warm_in {kd fg : Int32} (h : 0 ≤ fg ∧ fg ≤ 9) : 0 ≤ f_X0_warmPoints kd fg ∧ f_X0_warmPoints kd fg ≤ 99 := by
  obtain ⟨a, ha, rfl⟩ := p_ix (n := 10) (by decide) h.1 (show fg < 10 by have := h.2; grind)
  have h2 := fig_all ⟨a, ha⟩
  unfold f_X0_warmPoints
  repeat' split
  all_goals first | exact h2.1 | exact h2.2 | decide
theorem upd_same {f : Nat → Int32} {j : Nat} {x : Int32} : upd f j x j = x := by
  unfold upd
  rw [if_pos rfl]
theorem o_warm {S M : ST} (R : Rel S M) (k : Nat) (p0 p1 : Int32) : O2 (some (f_X3_warm S p0 p1)) (f_X4_warm M p0 p1 (k + 200)) := by
  unfold f_X3_warm f_X4_warm
  rw [R.jug p0, m_bound]
  by_cases hj : jIn (S.1 0 0) p0
  · rw [if_pos hj, if_neg (fun z => b2i_dec.mp z hj)]
    by_cases hz : f_X3_refusalOutside p1 0 99 = 0
    · rw [if_pos hz, if_pos hz]
      have g := R.at hj
      have hb := p_nb (n := 5) (by decide) g.2.1.1 g.2.1.2
      unfold f_X4_gains
      rw [m_warmOf R k hj, p_bs, if_neg hb, if_neg hb, p_bs, if_neg hb, m_gain, ← g.2.2.1.2.2.2, Int32.mul_comm (f_X0_warmPoints (S.1 5 (Int32.toNatClampNeg p0)) (S.1 6 (Int32.toNatClampNeg p0))) p1]
      have hv := gain_in g.2.2.2.2.2.2 (p_prod (out_0.mp hz) (warm_in (kd := S.1 5 (Int32.toNatClampNeg p0)) g.2.2.2.2.1))
      generalize f_X0_gain (S.1 8 (Int32.toNatClampNeg p0)) (p1 * f_X0_warmPoints (S.1 5 (Int32.toNatClampNeg p0)) (S.1 6 (Int32.toNatClampNeg p0))) = x at hv ⊢
      refine ⟨x, _, _, ?_, ?_, R.uPoints (Int32.toNatClampNeg p0) x hv⟩
      · rw [upd_same]; rfl
      · show some (upd (M.1 5) (Int32.toNatClampNeg p0) x (Int32.toNatClampNeg p0), _) = _
        rw [upd_same]; rfl
    · rw [if_neg hz, if_neg hz]
      exact ref_no R (out_R hz) k
  · rw [if_neg hj, if_pos (b2i_dec.mpr hj)]
    exact ref_no R (Or.inl rfl) k
