/-! simple calls -/
theorem p_r9 {r : Nat} (h : r < 9) : r = 0 ∨ r = 1 ∨ r = 2 ∨ r = 3 ∨ r = 4 ∨ r = 5 ∨ r = 6 ∨ r = 7 ∨ r = 8 := by omega
theorem p_i5 {i : Nat} (h : i < 5) : i = 0 ∨ i = 1 ∨ i = 2 ∨ i = 3 ∨ i = 4 := by omega
theorem mK_e7 (M : Nat → Nat → Int32) (j : Nat) (v : Int32) : ∀ r i, r < 9 → i < 8 → (r = 0 → i < 5) → mK (kE M 7 j v) r i = kE (mK M) 1 j v r i := by
  intro r i hr _ hz
  rcases p_r9 hr with rfl | rfl | rfl | rfl | rfl | rfl | rfl | rfl | rfl
  · rcases p_i5 (hz rfl) with rfl | rfl | rfl | rfl | rfl <;> rfl
  all_goals rfl
theorem mK_e8 (M : Nat → Nat → Int32) (j : Nat) (v : Int32) : ∀ r i, r < 9 → i < 8 → (r = 0 → i < 5) → mK (kE M 8 j v) r i = kE (mK M) 2 j v r i := by
  intro r i hr _ hz
  rcases p_r9 hr with rfl | rfl | rfl | rfl | rfl | rfl | rfl | rfl | rfl
  · rcases p_i5 (hz rfl) with rfl | rfl | rfl | rfl | rfl <;> rfl
  all_goals rfl
theorem mK_e6 (M : Nat → Nat → Int32) (j : Nat) (v : Int32) : ∀ r i, r < 9 → i < 8 → (r = 0 → i < 5) → mK (kE M 6 j v) r i = kE (mK M) 3 j v r i := by
  intro r i hr _ hz
  rcases p_r9 hr with rfl | rfl | rfl | rfl | rfl | rfl | rfl | rfl | rfl
  · rcases p_i5 (hz rfl) with rfl | rfl | rfl | rfl | rfl <;> rfl
  all_goals rfl
theorem mK_e9 (M : Nat → Nat → Int32) (j : Nat) (v : Int32) : ∀ r i, r < 9 → i < 8 → (r = 0 → i < 5) → mK (kE M 9 j v) r i = kE (mK M) 4 j v r i := by
  intro r i hr _ hz
  rcases p_r9 hr with rfl | rfl | rfl | rfl | rfl | rfl | rfl | rfl | rfl
  · rcases p_i5 (hz rfl) with rfl | rfl | rfl | rfl | rfl <;> rfl
  all_goals rfl
theorem mK_e2 (M : Nat → Nat → Int32) (j : Nat) (v : Int32) : ∀ r i, r < 9 → i < 8 → (r = 0 → i < 5) → mK (kE M 2 j v) r i = kE (mK M) 5 j v r i := by
  intro r i hr _ hz
  rcases p_r9 hr with rfl | rfl | rfl | rfl | rfl | rfl | rfl | rfl | rfl
  · rcases p_i5 (hz rfl) with rfl | rfl | rfl | rfl | rfl <;> rfl
  all_goals rfl
theorem mK_e3 (M : Nat → Nat → Int32) (j : Nat) (v : Int32) : ∀ r i, r < 9 → i < 8 → (r = 0 → i < 5) → mK (kE M 3 j v) r i = kE (mK M) 6 j v r i := by
  intro r i hr _ hz
  rcases p_r9 hr with rfl | rfl | rfl | rfl | rfl | rfl | rfl | rfl | rfl
  · rcases p_i5 (hz rfl) with rfl | rfl | rfl | rfl | rfl <;> rfl
  all_goals rfl
theorem mK_e4 (M : Nat → Nat → Int32) (j : Nat) (v : Int32) : ∀ r i, r < 9 → i < 8 → (r = 0 → i < 5) → mK (kE M 4 j v) r i = kE (mK M) 7 j v r i := by
  intro r i hr _ hz
  rcases p_r9 hr with rfl | rfl | rfl | rfl | rfl | rfl | rfl | rfl | rfl
  · rcases p_i5 (hz rfl) with rfl | rfl | rfl | rfl | rfl <;> rfl
  all_goals rfl
theorem mK_e5 (M : Nat → Nat → Int32) (j : Nat) (v : Int32) : ∀ r i, r < 9 → i < 8 → (r = 0 → i < 5) → mK (kE M 5 j v) r i = kE (mK M) 8 j v r i := by
  intro r i hr _ hz
  rcases p_r9 hr with rfl | rfl | rfl | rfl | rfl | rfl | rfl | rfl | rfl
  · rcases p_i5 (hz rfl) with rfl | rfl | rfl | rfl | rfl <;> rfl
  all_goals rfl
theorem mK_s0 (M : Nat → Nat → Int32) (v : Int32) : ∀ r i, r < 9 → i < 8 → (r = 0 → i < 5) → mK (kE M 0 0 v) r i = kE (mK M) 0 0 v r i := by
  intro r i hr _ hz
  rcases p_r9 hr with rfl | rfl | rfl | rfl | rfl | rfl | rfl | rfl | rfl
  · rcases p_i5 (hz rfl) with rfl | rfl | rfl | rfl | rfl <;> rfl
  all_goals rfl
theorem mK_s1 (M : Nat → Nat → Int32) (v : Int32) : ∀ r i, r < 9 → i < 8 → (r = 0 → i < 5) → mK (kE M 0 1 v) r i = kE (mK M) 0 1 v r i := by
  intro r i hr _ hz
  rcases p_r9 hr with rfl | rfl | rfl | rfl | rfl | rfl | rfl | rfl | rfl
  · rcases p_i5 (hz rfl) with rfl | rfl | rfl | rfl | rfl <;> rfl
  all_goals rfl
theorem mK_s2 (M : Nat → Nat → Int32) (v : Int32) : ∀ r i, r < 9 → i < 8 → (r = 0 → i < 5) → mK (kE M 0 2 v) r i = kE (mK M) 0 2 v r i := by
  intro r i hr _ hz
  rcases p_r9 hr with rfl | rfl | rfl | rfl | rfl | rfl | rfl | rfl | rfl
  · rcases p_i5 (hz rfl) with rfl | rfl | rfl | rfl | rfl <;> rfl
  all_goals rfl
theorem mK_s3 (M : Nat → Nat → Int32) (v : Int32) : ∀ r i, r < 9 → i < 8 → (r = 0 → i < 5) → mK (kE M 0 3 v) r i = kE (mK M) 0 4 v r i := by
  intro r i hr _ hz
  rcases p_r9 hr with rfl | rfl | rfl | rfl | rfl | rfl | rfl | rfl | rfl
  · rcases p_i5 (hz rfl) with rfl | rfl | rfl | rfl | rfl <;> rfl
  all_goals rfl
theorem mK_s4 (M : Nat → Nat → Int32) (v : Int32) : ∀ r i, r < 9 → i < 8 → (r = 0 → i < 5) → mK (kE M 0 4 v) r i = kE (mK M) 0 3 v r i := by
  intro r i hr _ hz
  rcases p_r9 hr with rfl | rfl | rfl | rfl | rfl | rfl | rfl | rfl | rfl
  · rcases p_i5 (hz rfl) with rfl | rfl | rfl | rfl | rfl <;> rfl
  all_goals rfl
theorem kE_c {K L : Nat → Nat → Int32} (h : ∀ r i, r < 9 → i < 8 → (r = 0 → i < 5) → K r i = L r i) (a j : Nat) (v : Int32) : ∀ r i, r < 9 → i < 8 → (r = 0 → i < 5) → kE K a j v r i = kE L a j v r i := by
  intro r i hr hi hz
  rw [kE_at, kE_at, h r i hr hi hz]
theorem Rel.rest {S M S2 M2 : ST} (R : Rel S M) (hs : ∀ r, r < 29 ∨ r = 33 → S2.1 r = S.1 r) (h30 : S2.1 30 0 = S.1 30 0) (hm : ∀ r, r ≠ 0 → r ≠ 10 → r ≠ 15 → M2.1 r = M.1 r) (hm0 : ∀ i, i ≠ 5 → i ≠ 11 → M2.1 0 i = M.1 0 i) (hl : RLt S2.1 M2.1) (hn : RNu S2.1 M2.1) : Rel S2 M2 := by
  obtain ⟨g1, g2, g3, g4, g5, g6⟩ := R
  have e : ∀ r i, r < 9 → i < 8 → (r = 0 → i < 5) → kR S2.1 0 r i = kR S.1 0 r i := fun r i hr _ _ => by
    show S2.1 (10 * 0 + r) i = S.1 (10 * 0 + r) i
    rw [hs _ (by omega)]
  have e2 : ∀ r i, r < 9 → i < 8 → (r = 0 → i < 5) → kR S2.1 2 r i = kR S.1 2 r i := fun r i hr _ _ => by
    show S2.1 (10 * 2 + r) i = S.1 (10 * 2 + r) i
    rw [hs _ (by omega)]
  have f : ∀ r i, r < 9 → i < 8 → (r = 0 → i < 5) → mK M2.1 r i = mK M.1 r i := fun r i hr _ hz => by
    rcases p_r9 hr with rfl | rfl | rfl | rfl | rfl | rfl | rfl | rfl | rfl
    · rcases p_i5 (hz rfl) with rfl | rfl | rfl | rfl | rfl <;> exact hm0 _ (by decide) (by decide)
    all_goals exact congrFun (hm _ (by decide) (by decide) (by decide)) i
  have f2 : kK M2.1 0 = kK M.1 0 := by
    unfold kK
    rw [hm 14 (by decide) (by decide) (by decide)]
  refine ⟨g1.congrP e f, g2.congrP e, ?_, hl, hn, ?_⟩
  · unfold RIm at g3 ⊢
    rw [h30, hm0 8 (by decide) (by decide), f2]
    exact ⟨g3.1, g3.2.1, fun z => ⟨(g3.2.2 z).1.congrP e2 (fun _ _ _ _ _ => rfl), (g3.2.2 z).2.congrP e2⟩⟩
  · unfold RRf at g6 ⊢
    rw [hs 33 (by decide), hm 1 (by decide) (by decide) (by decide)]
    exact g6
theorem o_feed {S M : ST} (R : Rel S M) (k : Nat) (p0 : Int32) : O2 (some (f_X3_feed S p0)) (f_X4_feed M p0 (k + 200)) := by
  unfold f_X3_feed f_X4_feed
  rw [m_bound]
  by_cases hz : f_X3_refusalOutside p0 0 255 = 0
  · rw [if_pos hz, if_pos hz]
    obtain ⟨-, -, -, g4, g5, -⟩ := id R
    obtain ⟨c, hc, e⟩ := p_ix (n := 97) (by decide) g4.2.1.1 (show S.1 30 1 < 97 by have := g4.2.1.2; grind)
    have e2 : M.1 0 5 = Int32.ofNat c := by rw [← g4.1, e]
    cases ho : f_X3_isOneOf (S.1 30 1) 96
    · rw [if_pos (by decide), if_pos ?_]
      · exact ref_no R (Or.inr (Or.inr (Or.inr (Or.inr rfl)))) k
      · rw [e] at ho
        rw [e2]
        by_cases h96 : c = 96
        · rw [h96]; rfl
        · have : f_X3_isOneOf (Int32.ofNat c) 96 = true := one_iff.mpr ⟨by rw [show (0 : Int32) = Int32.ofNat 0 from rfl, p_le (by omega) (by omega)]; omega, (p_lt (b := 96) (by omega) (by omega)).mpr (by omega)⟩
          rw [ho] at this
          cases this
    · have ho' := one_iff.mp ho
      have hb := p_nb (n := 96) (by decide) ho'.1 ho'.2
      rw [if_neg (by decide), if_neg (fun z => by rw [← g4.1] at z; rw [z] at ho'; exact absurd ho'.2 (by decide)), ← g4.1, if_neg hb]
      refine ⟨_, _, _, rfl, rfl, R.rest ?_ rfl ?_ ?_ ?_ ?_⟩
      · intro r hr
        show (if r = 31 then _ else if r = 30 then _ else S.1 r) = _
        rw [if_neg (by omega), if_neg (by omega)]
      · intro r h1 h2 h3
        show (if r = 10 then _ else if r = 0 then _ else M.1 r) = _
        rw [if_neg h2, if_neg h1]
      · intro i h1 h2
        show (if i = 5 then _ else M.1 0 i) = _
        rw [if_neg h1]
      · refine ⟨rfl, ?_, fun i hi => ?_⟩
        · show 0 ≤ S.1 30 1 + 1 ∧ S.1 30 1 + 1 ≤ 96
          have h1 := ho'.1
          have h2 := ho'.2
          constructor <;> grind
        · show (if i = _ then p0 else S.1 31 i) = (if i = _ then p0 else M.1 10 i)
          rw [g4.2.2 i hi]
      · exact g5
  · rw [if_neg hz, if_neg hz]
    exact ref_no R (out_R hz) k
theorem o_row {S M : ST} (R : Rel S M) (k : Nat) (p0 : Int32) : O2 (some (f_X3_row S p0)) (f_X4_row M p0 (k + 200)) := by
  unfold f_X3_row f_X4_row
  rw [m_bound]
  by_cases hz : f_X3_refusalOutside p0 0 99 = 0
  · rw [if_pos hz, if_pos hz]
    obtain ⟨-, -, -, g4, g5, -⟩ := id R
    obtain ⟨c, hc, e⟩ := p_ix (n := 13) (by decide) g5.2.1.1 (show S.1 30 2 < 13 by have := g5.2.1.2; grind)
    have e2 : M.1 0 11 = Int32.ofNat c := by rw [← g5.1, e]
    cases ho : f_X3_isOneOf (S.1 30 2) 12
    · rw [if_pos (by decide), if_pos ?_]
      · exact ref_no R (Or.inr (Or.inr (Or.inr (Or.inr rfl)))) k
      · rw [e] at ho
        rw [e2]
        by_cases h96 : c = 12
        · rw [h96]; rfl
        · have : f_X3_isOneOf (Int32.ofNat c) 12 = true := one_iff.mpr ⟨by rw [show (0 : Int32) = Int32.ofNat 0 from rfl, p_le (by omega) (by omega)]; omega, (p_lt (b := 12) (by omega) (by omega)).mpr (by omega)⟩
          rw [ho] at this
          cases this
    · have ho' := one_iff.mp ho
      have hb := p_nb (n := 12) (by decide) ho'.1 ho'.2
      rw [if_neg (by decide), if_neg (fun z => by rw [← g5.1] at z; rw [z] at ho'; exact absurd ho'.2 (by decide)), ← g5.1, if_neg hb]
      refine ⟨_, _, _, rfl, rfl, R.rest ?_ rfl ?_ ?_ ?_ ?_⟩
      · intro r hr
        show (if r = 32 then _ else if r = 30 then _ else S.1 r) = _
        rw [if_neg (by omega), if_neg (by omega)]
      · intro r h1 h2 h3
        show (if r = 15 then _ else if r = 0 then _ else M.1 r) = _
        rw [if_neg h3, if_neg h1]
      · intro i h1 h2
        show (if i = 11 then _ else M.1 0 i) = _
        rw [if_neg h2]
      · exact g4
      · refine ⟨rfl, ?_, fun i hi => ?_⟩
        · show 0 ≤ S.1 30 2 + 1 ∧ S.1 30 2 + 1 ≤ 12
          have h1 := ho'.1
          have h2 := ho'.2
          constructor <;> grind
        · show (if i = _ then p0 else S.1 32 i) = (if i = _ then p0 else M.1 15 i) ∧ 0 ≤ (if i = _ then p0 else S.1 32 i) ∧ (if i = _ then p0 else S.1 32 i) ≤ 99
          have h3 := out_0.mp hz
          have h4 := g5.2.2 i hi
          rw [h4.1]
          rw [h4.1] at h4
          refine ⟨rfl, ?_, ?_⟩ <;> split
          · exact h3.1
          · exact h4.2.1
          · exact h3.2
          · exact h4.2.2
  · rw [if_neg hz, if_neg hz]
    exact ref_no R (out_R hz) k
theorem Rel.clear {S M : ST} (R : Rel S M) : Rel (kS S.1 30 (upd (S.1 30) 2 0), S.2) (kS M.1 0 (upd (M.1 0) 11 0), M.2) := by
  obtain ⟨-, -, -, g4, g5, -⟩ := id R
  refine R.rest ?_ rfl ?_ ?_ g4 ?_
  · intro r hr
    show (if r = 30 then _ else S.1 r) = _
    rw [if_neg (by omega)]
  · intro r h1 h2 h3
    show (if r = 0 then _ else M.1 r) = _
    rw [if_neg h1]
  · intro i h1 h2
    show (if i = 11 then _ else M.1 0 i) = _
    rw [if_neg h2]
  · exact ⟨rfl, ⟨show (0 : Int32) ≤ 0 by decide, show (0 : Int32) ≤ 12 by decide⟩, g5.2.2⟩
theorem o_clear {S M : ST} (R : Rel S M) : O2 (some (f_X3_clear S)) (some (f_X4_clear M)) :=
  ⟨_, _, _, rfl, by unfold f_X4_clear; rw [R.2.2.2.2.1.1], R.clear⟩
theorem b2i_dec {p : Prop} [Decidable p] : (b2i (decide p) = 0) ↔ ¬ p := by
  by_cases h : p
  · simp [h, b2i]
  · simp [h, b2i]
theorem m_warmOf {S M : ST} (R : Rel S M) (k : Nat) {p : Int32} (h : jIn (S.1 0 0) p) : f_X4_warmOf M p (k + 200) = some (f_X0_warmPoints (S.1 5 (Int32.toNatClampNeg p)) (S.1 6 (Int32.toNatClampNeg p))) := by
  have g := R.at h
  unfold f_X4_warmOf f_X0_warmPoints
  have hb := p_nb (n := 5) (by decide) g.2.1.1 g.2.1.2
  rw [if_neg hb, if_neg hb, if_neg hb, g.2.2.1.1, g.2.2.1.2.1]
  split <;> (try rfl)
  split <;> (try rfl)
  split <;> (try rfl)
  split <;> (try rfl)
  split <;> rfl
theorem m_cold {kd : Int32} (h : 0 ≤ kd ∧ kd < 6) : f_X4_coldOf kd = f_X0_coldPoints kd := by
  rcases p_6 h.1 h.2 with rfl | rfl | rfl | rfl | rfl | rfl <;> rfl
theorem o_jug {S M : ST} (R : Rel S M) (k : Nat) (p0 p1 : Int32) : O2 (some (f_X3_jug S p0 p1)) (f_X4_jug M p0 p1 (k + 200)) := by
  unfold f_X3_jug f_X4_jug
  rw [R.jug p0]
  by_cases hj : jIn (S.1 0 0) p0
  · have g := R.at hj
    have hb := p_nb (n := 5) (by decide) g.2.1.1 g.2.1.2
    rw [if_pos hj, if_neg (fun z => b2i_dec.mp z hj)]
    simp only [if_neg hb, m_warmOf R k hj, f_X4_truly, p_bs, m_stage]
    rw [← g.2.2.1.1, ← g.2.2.1.2.1, ← g.2.2.1.2.2.1, ← g.2.2.1.2.2.2, m_cold g.2.2.2.1]
    by_cases h0 : p1 = 0
    · rw [if_pos h0, if_pos h0]; exact ⟨_, S, M, rfl, rfl, R⟩
    rw [if_neg h0, if_neg h0]
    by_cases h1 : p1 = 1
    · rw [if_pos h1, if_pos h1]; exact ⟨_, S, M, rfl, rfl, R⟩
    rw [if_neg h1, if_neg h1]
    by_cases h2 : p1 = 2
    · rw [if_pos h2, if_pos h2]; exact ⟨_, S, M, rfl, rfl, R⟩
    rw [if_neg h2, if_neg h2]
    by_cases h3 : p1 = 3
    · rw [if_pos h3, if_pos h3]; exact ⟨_, S, M, rfl, rfl, R⟩
    rw [if_neg h3, if_neg h3]
    by_cases h4 : p1 = 4
    · rw [if_pos h4, if_pos h4]; exact ⟨_, S, M, rfl, rfl, R⟩
    rw [if_neg h4, if_neg h4]
    by_cases h5 : p1 = 5
    · rw [if_pos h5, if_pos h5]; exact ⟨_, S, M, rfl, rfl, R⟩
    rw [if_neg h5, if_neg h5]
    by_cases h6 : p1 = 6
    · rw [if_pos h6, if_pos h6]; exact ⟨_, S, M, rfl, rfl, R⟩
    rw [if_neg h6, if_neg h6]
    exact ref_no R (Or.inr (Or.inl rfl)) k
  · rw [if_neg hj, if_pos (b2i_dec.mpr hj)]
    exact ref_no R (Or.inl rfl) k
